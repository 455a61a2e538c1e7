section
-- ===== PART A: goes FIRST, ahead of the names: the tables' words, and 'selects' of the private methods out of them =====
/-- a private method of a class that the tables say can be made, by its rows of tables_1 -/
def lw_okq (q : MethodName × Nat) : Prop := (q.1.cls ≠ "java/lang/invoke/MethodHandle" ∧ q.1.cls ≠ "java/lang/invoke/VarHandle") ∧ Cond.instantiable q.1.cls q.2 ∈ tables_1 ∧ Cond.privateMethod q.1 ∈ tables_1 ∧ Cond.instanceMethod q.1 ∈ tables_1
theorem lw_p0 : lw_okq (⟨"CueSheets$Marks", "placeOf", "(I)I"⟩, 2) := ⟨⟨by decide +kernel, by decide +kernel⟩, List.mem_of_getElem? (i := 54) (by decide +kernel), List.mem_of_getElem? (i := 75) (by decide +kernel), List.mem_of_getElem? (i := 76) (by decide +kernel)⟩
theorem lw_p1 : lw_okq (⟨"CueSheets$Marks", "isAt", "(II)Z"⟩, 2) := ⟨⟨by decide +kernel, by decide +kernel⟩, List.mem_of_getElem? (i := 54) (by decide +kernel), List.mem_of_getElem? (i := 87) (by decide +kernel), List.mem_of_getElem? (i := 88) (by decide +kernel)⟩
theorem lw_p2 : lw_okq (⟨"CueSheets", "readBuffer", "()I"⟩, 9) := ⟨⟨by decide +kernel, by decide +kernel⟩, List.mem_of_getElem? (i := 20) (by decide +kernel), List.mem_of_getElem? (i := 327) (by decide +kernel), List.mem_of_getElem? (i := 328) (by decide +kernel)⟩
theorem lw_p3 : lw_okq (⟨"CueSheets$SheetReader", "beginScene", "()V"⟩, 5) := ⟨⟨by decide +kernel, by decide +kernel⟩, List.mem_of_getElem? (i := 174) (by decide +kernel), List.mem_of_getElem? (i := 336) (by decide +kernel), List.mem_of_getElem? (i := 337) (by decide +kernel)⟩
theorem lw_p4 : lw_okq (⟨"CueSheets$SheetReader", "readComma", "()Z"⟩, 5) := ⟨⟨by decide +kernel, by decide +kernel⟩, List.mem_of_getElem? (i := 174) (by decide +kernel), List.mem_of_getElem? (i := 347) (by decide +kernel), List.mem_of_getElem? (i := 348) (by decide +kernel)⟩
theorem lw_p5 : lw_okq (⟨"CueSheets$SheetReader", "latest", "()I"⟩, 5) := ⟨⟨by decide +kernel, by decide +kernel⟩, List.mem_of_getElem? (i := 174) (by decide +kernel), List.mem_of_getElem? (i := 355) (by decide +kernel), List.mem_of_getElem? (i := 356) (by decide +kernel)⟩
theorem lw_p6 : lw_okq (⟨"CueSheets$SheetReader", "step", "(ZI)Z"⟩, 5) := ⟨⟨by decide +kernel, by decide +kernel⟩, List.mem_of_getElem? (i := 174) (by decide +kernel), List.mem_of_getElem? (i := 361) (by decide +kernel), List.mem_of_getElem? (i := 362) (by decide +kernel)⟩
theorem lw_p7 : lw_okq (⟨"CueSheets$SheetReader", "readAtSign", "()Z"⟩, 5) := ⟨⟨by decide +kernel, by decide +kernel⟩, List.mem_of_getElem? (i := 174) (by decide +kernel), List.mem_of_getElem? (i := 365) (by decide +kernel), List.mem_of_getElem? (i := 366) (by decide +kernel)⟩
theorem lw_p8 : lw_okq (⟨"CueSheets$SheetReader", "readDigit", "(I)Z"⟩, 5) := ⟨⟨by decide +kernel, by decide +kernel⟩, List.mem_of_getElem? (i := 174) (by decide +kernel), List.mem_of_getElem? (i := 370) (by decide +kernel), List.mem_of_getElem? (i := 371) (by decide +kernel)⟩
theorem lw_p9 : lw_okq (⟨"CueSheets$SheetReader", "grow", "(LCueSheets$Row;III)Z"⟩, 5) := ⟨⟨by decide +kernel, by decide +kernel⟩, List.mem_of_getElem? (i := 174) (by decide +kernel), List.mem_of_getElem? (i := 374) (by decide +kernel), List.mem_of_getElem? (i := 375) (by decide +kernel)⟩
theorem lw_p10 : lw_okq (⟨"CueSheets", "countProperty", "(I)I"⟩, 9) := ⟨⟨by decide +kernel, by decide +kernel⟩, List.mem_of_getElem? (i := 20) (by decide +kernel), List.mem_of_getElem? (i := 383) (by decide +kernel), List.mem_of_getElem? (i := 384) (by decide +kernel)⟩
theorem lw_p11 : lw_okq (⟨"CueSheets", "sumOverReels", "(I)I"⟩, 9) := ⟨⟨by decide +kernel, by decide +kernel⟩, List.mem_of_getElem? (i := 20) (by decide +kernel), List.mem_of_getElem? (i := 392) (by decide +kernel), List.mem_of_getElem? (i := 393) (by decide +kernel)⟩
theorem lw_p12 : lw_okq (⟨"CueSheets$Timing", "clear", "()V"⟩, 14) := ⟨⟨by decide +kernel, by decide +kernel⟩, List.mem_of_getElem? (i := 202) (by decide +kernel), List.mem_of_getElem? (i := 404) (by decide +kernel), List.mem_of_getElem? (i := 405) (by decide +kernel)⟩
theorem lw_p13 : lw_okq (⟨"CueSheets$Timing", "measureCue", "(LCueSheets$State;LCueSheets$Reel;I)V"⟩, 14) := ⟨⟨by decide +kernel, by decide +kernel⟩, List.mem_of_getElem? (i := 202) (by decide +kernel), List.mem_of_getElem? (i := 435) (by decide +kernel), List.mem_of_getElem? (i := 436) (by decide +kernel)⟩
theorem lw_p14 : lw_okq (⟨"CueSheets", "pieceProperty", "(II)I"⟩, 9) := ⟨⟨by decide +kernel, by decide +kernel⟩, List.mem_of_getElem? (i := 20) (by decide +kernel), List.mem_of_getElem? (i := 466) (by decide +kernel), List.mem_of_getElem? (i := 467) (by decide +kernel)⟩
theorem lw_p15 : lw_okq (⟨"CueSheets", "mixReel", "(JLCueSheets$Reel;)J"⟩, 9) := ⟨⟨by decide +kernel, by decide +kernel⟩, List.mem_of_getElem? (i := 20) (by decide +kernel), List.mem_of_getElem? (i := 475) (by decide +kernel), List.mem_of_getElem? (i := 476) (by decide +kernel)⟩
def lw_privs_1 : List (MethodName × Nat) := [(⟨"CueSheets$Marks", "placeOf", "(I)I"⟩, 2), (⟨"CueSheets$Marks", "isAt", "(II)Z"⟩, 2), (⟨"CueSheets", "readBuffer", "()I"⟩, 9), (⟨"CueSheets$SheetReader", "beginScene", "()V"⟩, 5), (⟨"CueSheets$SheetReader", "readComma", "()Z"⟩, 5), (⟨"CueSheets$SheetReader", "latest", "()I"⟩, 5), (⟨"CueSheets$SheetReader", "step", "(ZI)Z"⟩, 5), (⟨"CueSheets$SheetReader", "readAtSign", "()Z"⟩, 5), (⟨"CueSheets$SheetReader", "readDigit", "(I)Z"⟩, 5), (⟨"CueSheets$SheetReader", "grow", "(LCueSheets$Row;III)Z"⟩, 5), (⟨"CueSheets", "countProperty", "(I)I"⟩, 9), (⟨"CueSheets", "sumOverReels", "(I)I"⟩, 9), (⟨"CueSheets$Timing", "clear", "()V"⟩, 14), (⟨"CueSheets$Timing", "measureCue", "(LCueSheets$State;LCueSheets$Reel;I)V"⟩, 14), (⟨"CueSheets", "pieceProperty", "(II)I"⟩, 9), (⟨"CueSheets", "mixReel", "(JLCueSheets$Reel;)J"⟩, 9)]
theorem lw_r1 : ∀ q ∈ lw_privs_1, lw_okq q := List.forall_mem_cons.mpr ⟨lw_p0, List.forall_mem_cons.mpr ⟨lw_p1, List.forall_mem_cons.mpr ⟨lw_p2, List.forall_mem_cons.mpr ⟨lw_p3, List.forall_mem_cons.mpr ⟨lw_p4, List.forall_mem_cons.mpr ⟨lw_p5, List.forall_mem_cons.mpr ⟨lw_p6, List.forall_mem_cons.mpr ⟨lw_p7, List.forall_mem_cons.mpr ⟨lw_p8, List.forall_mem_cons.mpr ⟨lw_p9, List.forall_mem_cons.mpr ⟨lw_p10, List.forall_mem_cons.mpr ⟨lw_p11, List.forall_mem_cons.mpr ⟨lw_p12, List.forall_mem_cons.mpr ⟨lw_p13, List.forall_mem_cons.mpr ⟨lw_p14, List.forall_mem_cons.mpr ⟨lw_p15, fun _ h => absurd h List.not_mem_nil⟩⟩⟩⟩⟩⟩⟩⟩⟩⟩⟩⟩⟩⟩⟩⟩
theorem lw_p16 : lw_okq (⟨"CueSheets", "reelProperty", "(LCueSheets$Reel;I)I"⟩, 9) := ⟨⟨by decide +kernel, by decide +kernel⟩, List.mem_of_getElem? (i := 20) (by decide +kernel), List.mem_of_getElem? (i := 479) (by decide +kernel), List.mem_of_getElem? (i := 480) (by decide +kernel)⟩
theorem lw_p17 : lw_okq (⟨"CueSheets", "sceneProperty", "(LCueSheets$Reel;II)I"⟩, 9) := ⟨⟨by decide +kernel, by decide +kernel⟩, List.mem_of_getElem? (i := 20) (by decide +kernel), List.mem_of_getElem? (i := 492) (by decide +kernel), List.mem_of_getElem? (i := 493) (by decide +kernel)⟩
theorem lw_p18 : lw_okq (⟨"CueSheets", "pieceForRoom", "(I)I"⟩, 9) := ⟨⟨by decide +kernel, by decide +kernel⟩, List.mem_of_getElem? (i := 20) (by decide +kernel), List.mem_of_getElem? (i := 502) (by decide +kernel), List.mem_of_getElem? (i := 503) (by decide +kernel)⟩
theorem lw_p19 : lw_okq (⟨"CueSheets$Choice", "tryPaces", "(IIII)V"⟩, 3) := ⟨⟨by decide +kernel, by decide +kernel⟩, List.mem_of_getElem? (i := 267) (by decide +kernel), List.mem_of_getElem? (i := 513) (by decide +kernel), List.mem_of_getElem? (i := 514) (by decide +kernel)⟩
theorem lw_p20 : lw_okq (⟨"CueSheets$Choice", "consider", "(III)V"⟩, 3) := ⟨⟨by decide +kernel, by decide +kernel⟩, List.mem_of_getElem? (i := 267) (by decide +kernel), List.mem_of_getElem? (i := 518) (by decide +kernel), List.mem_of_getElem? (i := 519) (by decide +kernel)⟩
theorem lw_p21 : lw_okq (⟨"CueSheets", "speedForReel", "(LCueSheets$Reel;)I"⟩, 9) := ⟨⟨by decide +kernel, by decide +kernel⟩, List.mem_of_getElem? (i := 20) (by decide +kernel), List.mem_of_getElem? (i := 527) (by decide +kernel), List.mem_of_getElem? (i := 528) (by decide +kernel)⟩
theorem lw_p22 : lw_okq (⟨"CueSheets", "measuredOffShare", "()F"⟩, 9) := ⟨⟨by decide +kernel, by decide +kernel⟩, List.mem_of_getElem? (i := 20) (by decide +kernel), List.mem_of_getElem? (i := 531) (by decide +kernel), List.mem_of_getElem? (i := 532) (by decide +kernel)⟩
theorem lw_p23 : lw_okq (⟨"CueSheets", "measuredMeanSpeed", "()D"⟩, 9) := ⟨⟨by decide +kernel, by decide +kernel⟩, List.mem_of_getElem? (i := 20) (by decide +kernel), List.mem_of_getElem? (i := 542) (by decide +kernel), List.mem_of_getElem? (i := 543) (by decide +kernel)⟩
theorem lw_p24 : lw_okq (⟨"CueSheets", "requireReel", "(I)V"⟩, 9) := ⟨⟨by decide +kernel, by decide +kernel⟩, List.mem_of_getElem? (i := 20) (by decide +kernel), List.mem_of_getElem? (i := 565) (by decide +kernel), List.mem_of_getElem? (i := 566) (by decide +kernel)⟩
theorem lw_p25 : lw_okq (⟨"java/lang/Throwable", "fillInStackTrace", "(I)Ljava/lang/Throwable;"⟩, 6) := ⟨⟨by decide +kernel, by decide +kernel⟩, List.mem_of_getElem? (i := 607) (by decide +kernel), List.mem_of_getElem? (i := 605) (by decide +kernel), List.mem_of_getElem? (i := 606) (by decide +kernel)⟩
theorem lw_p26 : lw_okq (⟨"CueSheets", "save", "()V"⟩, 9) := ⟨⟨by decide +kernel, by decide +kernel⟩, List.mem_of_getElem? (i := 20) (by decide +kernel), List.mem_of_getElem? (i := 672) (by decide +kernel), List.mem_of_getElem? (i := 673) (by decide +kernel)⟩
theorem lw_p27 : lw_okq (⟨"CueSheets", "savedAt", "(I)LCueSheets$State;"⟩, 9) := ⟨⟨by decide +kernel, by decide +kernel⟩, List.mem_of_getElem? (i := 20) (by decide +kernel), List.mem_of_getElem? (i := 676) (by decide +kernel), List.mem_of_getElem? (i := 677) (by decide +kernel)⟩
theorem lw_p28 : lw_okq (⟨"CueSheets", "requireScene", "(II)V"⟩, 9) := ⟨⟨by decide +kernel, by decide +kernel⟩, List.mem_of_getElem? (i := 20) (by decide +kernel), List.mem_of_getElem? (i := 711) (by decide +kernel), List.mem_of_getElem? (i := 712) (by decide +kernel)⟩
theorem lw_p29 : lw_okq (⟨"CueSheets", "requirePiece", "(I)V"⟩, 9) := ⟨⟨by decide +kernel, by decide +kernel⟩, List.mem_of_getElem? (i := 20) (by decide +kernel), List.mem_of_getElem? (i := 766) (by decide +kernel), List.mem_of_getElem? (i := 767) (by decide +kernel)⟩
theorem lw_p30 : lw_okq (⟨"CueSheets", "fitScene", "(LCueSheets$Reel;I)Z"⟩, 9) := ⟨⟨by decide +kernel, by decide +kernel⟩, List.mem_of_getElem? (i := 20) (by decide +kernel), List.mem_of_getElem? (i := 788) (by decide +kernel), List.mem_of_getElem? (i := 789) (by decide +kernel)⟩
theorem lw_p31 : lw_okq (⟨"CueSheets", "hasPiecesThatWereRead", "()Z"⟩, 9) := ⟨⟨by decide +kernel, by decide +kernel⟩, List.mem_of_getElem? (i := 20) (by decide +kernel), List.mem_of_getElem? (i := 820) (by decide +kernel), List.mem_of_getElem? (i := 821) (by decide +kernel)⟩
def lw_privs_2 : List (MethodName × Nat) := [(⟨"CueSheets", "reelProperty", "(LCueSheets$Reel;I)I"⟩, 9), (⟨"CueSheets", "sceneProperty", "(LCueSheets$Reel;II)I"⟩, 9), (⟨"CueSheets", "pieceForRoom", "(I)I"⟩, 9), (⟨"CueSheets$Choice", "tryPaces", "(IIII)V"⟩, 3), (⟨"CueSheets$Choice", "consider", "(III)V"⟩, 3), (⟨"CueSheets", "speedForReel", "(LCueSheets$Reel;)I"⟩, 9), (⟨"CueSheets", "measuredOffShare", "()F"⟩, 9), (⟨"CueSheets", "measuredMeanSpeed", "()D"⟩, 9), (⟨"CueSheets", "requireReel", "(I)V"⟩, 9), (⟨"java/lang/Throwable", "fillInStackTrace", "(I)Ljava/lang/Throwable;"⟩, 6), (⟨"CueSheets", "save", "()V"⟩, 9), (⟨"CueSheets", "savedAt", "(I)LCueSheets$State;"⟩, 9), (⟨"CueSheets", "requireScene", "(II)V"⟩, 9), (⟨"CueSheets", "requirePiece", "(I)V"⟩, 9), (⟨"CueSheets", "fitScene", "(LCueSheets$Reel;I)Z"⟩, 9), (⟨"CueSheets", "hasPiecesThatWereRead", "()Z"⟩, 9)]
theorem lw_r2 : ∀ q ∈ lw_privs_2, lw_okq q := List.forall_mem_cons.mpr ⟨lw_p16, List.forall_mem_cons.mpr ⟨lw_p17, List.forall_mem_cons.mpr ⟨lw_p18, List.forall_mem_cons.mpr ⟨lw_p19, List.forall_mem_cons.mpr ⟨lw_p20, List.forall_mem_cons.mpr ⟨lw_p21, List.forall_mem_cons.mpr ⟨lw_p22, List.forall_mem_cons.mpr ⟨lw_p23, List.forall_mem_cons.mpr ⟨lw_p24, List.forall_mem_cons.mpr ⟨lw_p25, List.forall_mem_cons.mpr ⟨lw_p26, List.forall_mem_cons.mpr ⟨lw_p27, List.forall_mem_cons.mpr ⟨lw_p28, List.forall_mem_cons.mpr ⟨lw_p29, List.forall_mem_cons.mpr ⟨lw_p30, List.forall_mem_cons.mpr ⟨lw_p31, fun _ h => absurd h List.not_mem_nil⟩⟩⟩⟩⟩⟩⟩⟩⟩⟩⟩⟩⟩⟩⟩⟩
theorem lw_p32 : lw_okq (⟨"CueSheetsModel", "scenes", "(I)I"⟩, 16) := ⟨⟨by decide +kernel, by decide +kernel⟩, List.mem_of_getElem? (i := 910) (by decide +kernel), List.mem_of_getElem? (i := 983) (by decide +kernel), List.mem_of_getElem? (i := 984) (by decide +kernel)⟩
theorem lw_p33 : lw_okq (⟨"CueSheetsModel", "save", "()V"⟩, 16) := ⟨⟨by decide +kernel, by decide +kernel⟩, List.mem_of_getElem? (i := 910) (by decide +kernel), List.mem_of_getElem? (i := 987) (by decide +kernel), List.mem_of_getElem? (i := 988) (by decide +kernel)⟩
theorem lw_p34 : lw_okq (⟨"CueSheetsModel", "bring", "(IIIII)V"⟩, 16) := ⟨⟨by decide +kernel, by decide +kernel⟩, List.mem_of_getElem? (i := 910) (by decide +kernel), List.mem_of_getElem? (i := 992) (by decide +kernel), List.mem_of_getElem? (i := 993) (by decide +kernel)⟩
theorem lw_p35 : lw_okq (⟨"CueSheetsModel", "isScene", "(II)Z"⟩, 16) := ⟨⟨by decide +kernel, by decide +kernel⟩, List.mem_of_getElem? (i := 910) (by decide +kernel), List.mem_of_getElem? (i := 1000) (by decide +kernel), List.mem_of_getElem? (i := 1001) (by decide +kernel)⟩
theorem lw_p36 : lw_okq (⟨"CueSheetsModel", "holdAt", "(II)I"⟩, 16) := ⟨⟨by decide +kernel, by decide +kernel⟩, List.mem_of_getElem? (i := 910) (by decide +kernel), List.mem_of_getElem? (i := 1008) (by decide +kernel), List.mem_of_getElem? (i := 1009) (by decide +kernel)⟩
theorem lw_p37 : lw_okq (⟨"CueSheetsModel", "hold", "(III)I"⟩, 16) := ⟨⟨by decide +kernel, by decide +kernel⟩, List.mem_of_getElem? (i := 910) (by decide +kernel), List.mem_of_getElem? (i := 1012) (by decide +kernel), List.mem_of_getElem? (i := 1013) (by decide +kernel)⟩
theorem lw_p38 : lw_okq (⟨"CueSheetsModel", "drop", "(II)I"⟩, 16) := ⟨⟨by decide +kernel, by decide +kernel⟩, List.mem_of_getElem? (i := 910) (by decide +kernel), List.mem_of_getElem? (i := 1020) (by decide +kernel), List.mem_of_getElem? (i := 1021) (by decide +kernel)⟩
theorem lw_p39 : lw_okq (⟨"CueSheetsModel", "isPiece", "(I)Z"⟩, 16) := ⟨⟨by decide +kernel, by decide +kernel⟩, List.mem_of_getElem? (i := 910) (by decide +kernel), List.mem_of_getElem? (i := 1032) (by decide +kernel), List.mem_of_getElem? (i := 1033) (by decide +kernel)⟩
theorem lw_p40 : lw_okq (⟨"CueSheetsModel", "lay", "(II)V"⟩, 16) := ⟨⟨by decide +kernel, by decide +kernel⟩, List.mem_of_getElem? (i := 910) (by decide +kernel), List.mem_of_getElem? (i := 1036) (by decide +kernel), List.mem_of_getElem? (i := 1037) (by decide +kernel)⟩
theorem lw_p41 : lw_okq (⟨"CueSheetsModel", "layScenes", "(II)V"⟩, 16) := ⟨⟨by decide +kernel, by decide +kernel⟩, List.mem_of_getElem? (i := 910) (by decide +kernel), List.mem_of_getElem? (i := 1040) (by decide +kernel), List.mem_of_getElem? (i := 1041) (by decide +kernel)⟩
theorem lw_p42 : lw_okq (⟨"CueSheetsModel", "of", "(III)I"⟩, 16) := ⟨⟨by decide +kernel, by decide +kernel⟩, List.mem_of_getElem? (i := 910) (by decide +kernel), List.mem_of_getElem? (i := 1044) (by decide +kernel), List.mem_of_getElem? (i := 1045) (by decide +kernel)⟩
theorem lw_p43 : lw_okq (⟨"CueSheetsModel", "isLost", "(II)Z"⟩, 16) := ⟨⟨by decide +kernel, by decide +kernel⟩, List.mem_of_getElem? (i := 910) (by decide +kernel), List.mem_of_getElem? (i := 1048) (by decide +kernel), List.mem_of_getElem? (i := 1049) (by decide +kernel)⟩
theorem lw_p44 : lw_okq (⟨"CueSheetsModel", "speedOf", "(II)I"⟩, 16) := ⟨⟨by decide +kernel, by decide +kernel⟩, List.mem_of_getElem? (i := 910) (by decide +kernel), List.mem_of_getElem? (i := 1052) (by decide +kernel), List.mem_of_getElem? (i := 1053) (by decide +kernel)⟩
theorem lw_p45 : lw_okq (⟨"CueSheetsModel", "layCue", "(II)V"⟩, 16) := ⟨⟨by decide +kernel, by decide +kernel⟩, List.mem_of_getElem? (i := 910) (by decide +kernel), List.mem_of_getElem? (i := 1056) (by decide +kernel), List.mem_of_getElem? (i := 1057) (by decide +kernel)⟩
theorem lw_p46 : lw_okq (⟨"CueSheetsModel", "beginOf", "(II)I"⟩, 16) := ⟨⟨by decide +kernel, by decide +kernel⟩, List.mem_of_getElem? (i := 910) (by decide +kernel), List.mem_of_getElem? (i := 1060) (by decide +kernel), List.mem_of_getElem? (i := 1061) (by decide +kernel)⟩
theorem lw_p47 : lw_okq (⟨"CueSheetsModel", "playTime", "(III)I"⟩, 16) := ⟨⟨by decide +kernel, by decide +kernel⟩, List.mem_of_getElem? (i := 910) (by decide +kernel), List.mem_of_getElem? (i := 1064) (by decide +kernel), List.mem_of_getElem? (i := 1065) (by decide +kernel)⟩
def lw_privs_3 : List (MethodName × Nat) := [(⟨"CueSheetsModel", "scenes", "(I)I"⟩, 16), (⟨"CueSheetsModel", "save", "()V"⟩, 16), (⟨"CueSheetsModel", "bring", "(IIIII)V"⟩, 16), (⟨"CueSheetsModel", "isScene", "(II)Z"⟩, 16), (⟨"CueSheetsModel", "holdAt", "(II)I"⟩, 16), (⟨"CueSheetsModel", "hold", "(III)I"⟩, 16), (⟨"CueSheetsModel", "drop", "(II)I"⟩, 16), (⟨"CueSheetsModel", "isPiece", "(I)Z"⟩, 16), (⟨"CueSheetsModel", "lay", "(II)V"⟩, 16), (⟨"CueSheetsModel", "layScenes", "(II)V"⟩, 16), (⟨"CueSheetsModel", "of", "(III)I"⟩, 16), (⟨"CueSheetsModel", "isLost", "(II)Z"⟩, 16), (⟨"CueSheetsModel", "speedOf", "(II)I"⟩, 16), (⟨"CueSheetsModel", "layCue", "(II)V"⟩, 16), (⟨"CueSheetsModel", "beginOf", "(II)I"⟩, 16), (⟨"CueSheetsModel", "playTime", "(III)I"⟩, 16)]
theorem lw_r3 : ∀ q ∈ lw_privs_3, lw_okq q := List.forall_mem_cons.mpr ⟨lw_p32, List.forall_mem_cons.mpr ⟨lw_p33, List.forall_mem_cons.mpr ⟨lw_p34, List.forall_mem_cons.mpr ⟨lw_p35, List.forall_mem_cons.mpr ⟨lw_p36, List.forall_mem_cons.mpr ⟨lw_p37, List.forall_mem_cons.mpr ⟨lw_p38, List.forall_mem_cons.mpr ⟨lw_p39, List.forall_mem_cons.mpr ⟨lw_p40, List.forall_mem_cons.mpr ⟨lw_p41, List.forall_mem_cons.mpr ⟨lw_p42, List.forall_mem_cons.mpr ⟨lw_p43, List.forall_mem_cons.mpr ⟨lw_p44, List.forall_mem_cons.mpr ⟨lw_p45, List.forall_mem_cons.mpr ⟨lw_p46, List.forall_mem_cons.mpr ⟨lw_p47, fun _ h => absurd h List.not_mem_nil⟩⟩⟩⟩⟩⟩⟩⟩⟩⟩⟩⟩⟩⟩⟩⟩
theorem lw_p48 : lw_okq (⟨"CueSheetsModel", "drift", "(II)I"⟩, 16) := ⟨⟨by decide +kernel, by decide +kernel⟩, List.mem_of_getElem? (i := 910) (by decide +kernel), List.mem_of_getElem? (i := 1068) (by decide +kernel), List.mem_of_getElem? (i := 1069) (by decide +kernel)⟩
theorem lw_p49 : lw_okq (⟨"CueSheetsModel", "bestOf", "(III)I"⟩, 16) := ⟨⟨by decide +kernel, by decide +kernel⟩, List.mem_of_getElem? (i := 910) (by decide +kernel), List.mem_of_getElem? (i := 1076) (by decide +kernel), List.mem_of_getElem? (i := 1077) (by decide +kernel)⟩
theorem lw_p50 : lw_okq (⟨"CueSheetsModel", "readText", "()I"⟩, 16) := ⟨⟨by decide +kernel, by decide +kernel⟩, List.mem_of_getElem? (i := 910) (by decide +kernel), List.mem_of_getElem? (i := 1099) (by decide +kernel), List.mem_of_getElem? (i := 1100) (by decide +kernel)⟩
theorem lw_p51 : lw_okq (⟨"CueSheetsModel", "beginEntry", "()V"⟩, 16) := ⟨⟨by decide +kernel, by decide +kernel⟩, List.mem_of_getElem? (i := 910) (by decide +kernel), List.mem_of_getElem? (i := 1103) (by decide +kernel), List.mem_of_getElem? (i := 1104) (by decide +kernel)⟩
theorem lw_p52 : lw_okq (⟨"CueSheetsModel", "takes", "(I)Z"⟩, 16) := ⟨⟨by decide +kernel, by decide +kernel⟩, List.mem_of_getElem? (i := 910) (by decide +kernel), List.mem_of_getElem? (i := 1107) (by decide +kernel), List.mem_of_getElem? (i := 1108) (by decide +kernel)⟩
theorem lw_p53 : lw_okq (⟨"CueSheetsModel", "isOver", "()Z"⟩, 16) := ⟨⟨by decide +kernel, by decide +kernel⟩, List.mem_of_getElem? (i := 910) (by decide +kernel), List.mem_of_getElem? (i := 1111) (by decide +kernel), List.mem_of_getElem? (i := 1112) (by decide +kernel)⟩
theorem lw_p54 : lw_okq (⟨"CueSheetsModel", "takesPart", "(I)Z"⟩, 16) := ⟨⟨by decide +kernel, by decide +kernel⟩, List.mem_of_getElem? (i := 910) (by decide +kernel), List.mem_of_getElem? (i := 1115) (by decide +kernel), List.mem_of_getElem? (i := 1116) (by decide +kernel)⟩
theorem lw_p55 : lw_okq (⟨"CueSheetsModel", "takesLength", "(I)Z"⟩, 16) := ⟨⟨by decide +kernel, by decide +kernel⟩, List.mem_of_getElem? (i := 910) (by decide +kernel), List.mem_of_getElem? (i := 1119) (by decide +kernel), List.mem_of_getElem? (i := 1120) (by decide +kernel)⟩
theorem lw_p56 : lw_okq (⟨"CueSheetsModel", "goes", "(ZI)Z"⟩, 16) := ⟨⟨by decide +kernel, by decide +kernel⟩, List.mem_of_getElem? (i := 910) (by decide +kernel), List.mem_of_getElem? (i := 1123) (by decide +kernel), List.mem_of_getElem? (i := 1124) (by decide +kernel)⟩
theorem lw_p57 : lw_okq (⟨"CueSheetsModel", "takesPace", "(I)Z"⟩, 16) := ⟨⟨by decide +kernel, by decide +kernel⟩, List.mem_of_getElem? (i := 910) (by decide +kernel), List.mem_of_getElem? (i := 1127) (by decide +kernel), List.mem_of_getElem? (i := 1128) (by decide +kernel)⟩
theorem lw_p58 : lw_okq (⟨"CueSheetsModel", "canBring", "(I)Z"⟩, 16) := ⟨⟨by decide +kernel, by decide +kernel⟩, List.mem_of_getElem? (i := 910) (by decide +kernel), List.mem_of_getElem? (i := 1135) (by decide +kernel), List.mem_of_getElem? (i := 1136) (by decide +kernel)⟩
theorem lw_p59 : lw_okq (⟨"CueSheetsModel", "sceneNow", "(III)I"⟩, 16) := ⟨⟨by decide +kernel, by decide +kernel⟩, List.mem_of_getElem? (i := 910) (by decide +kernel), List.mem_of_getElem? (i := 1143) (by decide +kernel), List.mem_of_getElem? (i := 1144) (by decide +kernel)⟩
theorem lw_p60 : lw_okq (⟨"CueSheetsModel", "firstFoot", "(II)I"⟩, 16) := ⟨⟨by decide +kernel, by decide +kernel⟩, List.mem_of_getElem? (i := 910) (by decide +kernel), List.mem_of_getElem? (i := 1147) (by decide +kernel), List.mem_of_getElem? (i := 1148) (by decide +kernel)⟩
theorem lw_p61 : lw_okq (⟨"CueSheetsModel", "isBad", "(II)Z"⟩, 16) := ⟨⟨by decide +kernel, by decide +kernel⟩, List.mem_of_getElem? (i := 910) (by decide +kernel), List.mem_of_getElem? (i := 1151) (by decide +kernel), List.mem_of_getElem? (i := 1152) (by decide +kernel)⟩
theorem lw_p62 : lw_okq (⟨"CueSheetsModel", "reelNow", "(II)I"⟩, 16) := ⟨⟨by decide +kernel, by decide +kernel⟩, List.mem_of_getElem? (i := 910) (by decide +kernel), List.mem_of_getElem? (i := 1159) (by decide +kernel), List.mem_of_getElem? (i := 1160) (by decide +kernel)⟩
theorem lw_p63 : lw_okq (⟨"CueSheetsModel", "lostFeet", "(I)I"⟩, 16) := ⟨⟨by decide +kernel, by decide +kernel⟩, List.mem_of_getElem? (i := 910) (by decide +kernel), List.mem_of_getElem? (i := 1163) (by decide +kernel), List.mem_of_getElem? (i := 1164) (by decide +kernel)⟩
def lw_privs_4 : List (MethodName × Nat) := [(⟨"CueSheetsModel", "drift", "(II)I"⟩, 16), (⟨"CueSheetsModel", "bestOf", "(III)I"⟩, 16), (⟨"CueSheetsModel", "readText", "()I"⟩, 16), (⟨"CueSheetsModel", "beginEntry", "()V"⟩, 16), (⟨"CueSheetsModel", "takes", "(I)Z"⟩, 16), (⟨"CueSheetsModel", "isOver", "()Z"⟩, 16), (⟨"CueSheetsModel", "takesPart", "(I)Z"⟩, 16), (⟨"CueSheetsModel", "takesLength", "(I)Z"⟩, 16), (⟨"CueSheetsModel", "goes", "(ZI)Z"⟩, 16), (⟨"CueSheetsModel", "takesPace", "(I)Z"⟩, 16), (⟨"CueSheetsModel", "canBring", "(I)Z"⟩, 16), (⟨"CueSheetsModel", "sceneNow", "(III)I"⟩, 16), (⟨"CueSheetsModel", "firstFoot", "(II)I"⟩, 16), (⟨"CueSheetsModel", "isBad", "(II)Z"⟩, 16), (⟨"CueSheetsModel", "reelNow", "(II)I"⟩, 16), (⟨"CueSheetsModel", "lostFeet", "(I)I"⟩, 16)]
theorem lw_r4 : ∀ q ∈ lw_privs_4, lw_okq q := List.forall_mem_cons.mpr ⟨lw_p48, List.forall_mem_cons.mpr ⟨lw_p49, List.forall_mem_cons.mpr ⟨lw_p50, List.forall_mem_cons.mpr ⟨lw_p51, List.forall_mem_cons.mpr ⟨lw_p52, List.forall_mem_cons.mpr ⟨lw_p53, List.forall_mem_cons.mpr ⟨lw_p54, List.forall_mem_cons.mpr ⟨lw_p55, List.forall_mem_cons.mpr ⟨lw_p56, List.forall_mem_cons.mpr ⟨lw_p57, List.forall_mem_cons.mpr ⟨lw_p58, List.forall_mem_cons.mpr ⟨lw_p59, List.forall_mem_cons.mpr ⟨lw_p60, List.forall_mem_cons.mpr ⟨lw_p61, List.forall_mem_cons.mpr ⟨lw_p62, List.forall_mem_cons.mpr ⟨lw_p63, fun _ h => absurd h List.not_mem_nil⟩⟩⟩⟩⟩⟩⟩⟩⟩⟩⟩⟩⟩⟩⟩⟩
theorem lw_p64 : lw_okq (⟨"CueSheetsModel", "cues", "(I)I"⟩, 16) := ⟨⟨by decide +kernel, by decide +kernel⟩, List.mem_of_getElem? (i := 910) (by decide +kernel), List.mem_of_getElem? (i := 1167) (by decide +kernel), List.mem_of_getElem? (i := 1168) (by decide +kernel)⟩
theorem lw_p65 : lw_okq (⟨"CueSheetsModel", "bads", "(I)I"⟩, 16) := ⟨⟨by decide +kernel, by decide +kernel⟩, List.mem_of_getElem? (i := 910) (by decide +kernel), List.mem_of_getElem? (i := 1171) (by decide +kernel), List.mem_of_getElem? (i := 1172) (by decide +kernel)⟩
theorem lw_p66 : lw_okq (⟨"CueSheetsModel", "drifts", "(I)I"⟩, 16) := ⟨⟨by decide +kernel, by decide +kernel⟩, List.mem_of_getElem? (i := 910) (by decide +kernel), List.mem_of_getElem? (i := 1175) (by decide +kernel), List.mem_of_getElem? (i := 1176) (by decide +kernel)⟩
theorem lw_p67 : lw_okq (⟨"CueSheetsModel", "silence", "(I)I"⟩, 16) := ⟨⟨by decide +kernel, by decide +kernel⟩, List.mem_of_getElem? (i := 910) (by decide +kernel), List.mem_of_getElem? (i := 1179) (by decide +kernel), List.mem_of_getElem? (i := 1180) (by decide +kernel)⟩
theorem lw_p68 : lw_okq (⟨"CueSheetsModel", "lastEnd", "(I)I"⟩, 16) := ⟨⟨by decide +kernel, by decide +kernel⟩, List.mem_of_getElem? (i := 910) (by decide +kernel), List.mem_of_getElem? (i := 1183) (by decide +kernel), List.mem_of_getElem? (i := 1184) (by decide +kernel)⟩
theorem lw_p69 : lw_okq (⟨"CueSheetsModel", "pieceNow", "(II)I"⟩, 16) := ⟨⟨by decide +kernel, by decide +kernel⟩, List.mem_of_getElem? (i := 910) (by decide +kernel), List.mem_of_getElem? (i := 1195) (by decide +kernel), List.mem_of_getElem? (i := 1196) (by decide +kernel)⟩
theorem lw_p70 : lw_okq (⟨"CueSheetsModel", "usesOf", "(I)I"⟩, 16) := ⟨⟨by decide +kernel, by decide +kernel⟩, List.mem_of_getElem? (i := 910) (by decide +kernel), List.mem_of_getElem? (i := 1199) (by decide +kernel), List.mem_of_getElem? (i := 1200) (by decide +kernel)⟩
theorem lw_p71 : lw_okq (⟨"CueSheetsModel", "counted", "(I)I"⟩, 16) := ⟨⟨by decide +kernel, by decide +kernel⟩, List.mem_of_getElem? (i := 910) (by decide +kernel), List.mem_of_getElem? (i := 1207) (by decide +kernel), List.mem_of_getElem? (i := 1208) (by decide +kernel)⟩
theorem lw_p72 : lw_okq (⟨"CueSheetsModel", "overReels", "(I)I"⟩, 16) := ⟨⟨by decide +kernel, by decide +kernel⟩, List.mem_of_getElem? (i := 910) (by decide +kernel), List.mem_of_getElem? (i := 1211) (by decide +kernel), List.mem_of_getElem? (i := 1212) (by decide +kernel)⟩
theorem lw_p73 : lw_okq (⟨"CueSheetsModel", "bestPieceNow", "(II)I"⟩, 16) := ⟨⟨by decide +kernel, by decide +kernel⟩, List.mem_of_getElem? (i := 910) (by decide +kernel), List.mem_of_getElem? (i := 1223) (by decide +kernel), List.mem_of_getElem? (i := 1224) (by decide +kernel)⟩
theorem lw_p74 : lw_okq (⟨"CueSheetsModel", "bestSpeedNow", "(I)I"⟩, 16) := ⟨⟨by decide +kernel, by decide +kernel⟩, List.mem_of_getElem? (i := 910) (by decide +kernel), List.mem_of_getElem? (i := 1235) (by decide +kernel), List.mem_of_getElem? (i := 1236) (by decide +kernel)⟩
theorem lw_p75 : lw_okq (⟨"CueSheetsModel", "offNow", "(I)F"⟩, 16) := ⟨⟨by decide +kernel, by decide +kernel⟩, List.mem_of_getElem? (i := 910) (by decide +kernel), List.mem_of_getElem? (i := 1243) (by decide +kernel), List.mem_of_getElem? (i := 1244) (by decide +kernel)⟩
theorem lw_p76 : lw_okq (⟨"CueSheetsModel", "meanNow", "(I)D"⟩, 16) := ⟨⟨by decide +kernel, by decide +kernel⟩, List.mem_of_getElem? (i := 910) (by decide +kernel), List.mem_of_getElem? (i := 1251) (by decide +kernel), List.mem_of_getElem? (i := 1252) (by decide +kernel)⟩
theorem lw_p77 : lw_okq (⟨"CueSheetsModel", "mix", "(J)V"⟩, 16) := ⟨⟨by decide +kernel, by decide +kernel⟩, List.mem_of_getElem? (i := 910) (by decide +kernel), List.mem_of_getElem? (i := 1261) (by decide +kernel), List.mem_of_getElem? (i := 1262) (by decide +kernel)⟩
theorem lw_p78 : lw_okq (⟨"CueSheetsModel", "mixReel", "(I)V"⟩, 16) := ⟨⟨by decide +kernel, by decide +kernel⟩, List.mem_of_getElem? (i := 910) (by decide +kernel), List.mem_of_getElem? (i := 1266) (by decide +kernel), List.mem_of_getElem? (i := 1267) (by decide +kernel)⟩
def lw_privs_5 : List (MethodName × Nat) := [(⟨"CueSheetsModel", "cues", "(I)I"⟩, 16), (⟨"CueSheetsModel", "bads", "(I)I"⟩, 16), (⟨"CueSheetsModel", "drifts", "(I)I"⟩, 16), (⟨"CueSheetsModel", "silence", "(I)I"⟩, 16), (⟨"CueSheetsModel", "lastEnd", "(I)I"⟩, 16), (⟨"CueSheetsModel", "pieceNow", "(II)I"⟩, 16), (⟨"CueSheetsModel", "usesOf", "(I)I"⟩, 16), (⟨"CueSheetsModel", "counted", "(I)I"⟩, 16), (⟨"CueSheetsModel", "overReels", "(I)I"⟩, 16), (⟨"CueSheetsModel", "bestPieceNow", "(II)I"⟩, 16), (⟨"CueSheetsModel", "bestSpeedNow", "(I)I"⟩, 16), (⟨"CueSheetsModel", "offNow", "(I)F"⟩, 16), (⟨"CueSheetsModel", "meanNow", "(I)D"⟩, 16), (⟨"CueSheetsModel", "mix", "(J)V"⟩, 16), (⟨"CueSheetsModel", "mixReel", "(I)V"⟩, 16)]
theorem lw_r5 : ∀ q ∈ lw_privs_5, lw_okq q := List.forall_mem_cons.mpr ⟨lw_p64, List.forall_mem_cons.mpr ⟨lw_p65, List.forall_mem_cons.mpr ⟨lw_p66, List.forall_mem_cons.mpr ⟨lw_p67, List.forall_mem_cons.mpr ⟨lw_p68, List.forall_mem_cons.mpr ⟨lw_p69, List.forall_mem_cons.mpr ⟨lw_p70, List.forall_mem_cons.mpr ⟨lw_p71, List.forall_mem_cons.mpr ⟨lw_p72, List.forall_mem_cons.mpr ⟨lw_p73, List.forall_mem_cons.mpr ⟨lw_p74, List.forall_mem_cons.mpr ⟨lw_p75, List.forall_mem_cons.mpr ⟨lw_p76, List.forall_mem_cons.mpr ⟨lw_p77, List.forall_mem_cons.mpr ⟨lw_p78, fun _ h => absurd h List.not_mem_nil⟩⟩⟩⟩⟩⟩⟩⟩⟩⟩⟩⟩⟩⟩⟩
def lw_privs : List (MethodName × Nat) := lw_privs_1 ++ (lw_privs_2 ++ (lw_privs_3 ++ (lw_privs_4 ++ (lw_privs_5))))
def lw_tbl : List Cond := k2_sels lw_privs ++ tables_1
theorem lw_privs_ok : ∀ q ∈ lw_privs, lw_okq q := by
  show ∀ q ∈ lw_privs_1 ++ (lw_privs_2 ++ (lw_privs_3 ++ (lw_privs_4 ++ (lw_privs_5)))), lw_okq q
  exact List.forall_mem_append.mpr ⟨lw_r1, List.forall_mem_append.mpr ⟨lw_r2, List.forall_mem_append.mpr ⟨lw_r3, List.forall_mem_append.mpr ⟨lw_r4, lw_r5⟩⟩⟩⟩
/-- the streams that the claim lets the run draw from -/
abbrev lw_cs : List Choice := [Jvm.Choice.named "NaN.bits"]
theorem lw_bits : nanBits ∈ lw_cs := by first | decide | exact List.mem_cons_self | simp [lw_cs, nanBits]
-- ===== end of PART A; then your names; then what follows =====

/-! ===== BEGIN words of one list among another's, by their places ===== -/
theorem goodIn_r {big : List Cond} (ws : List Cond) (ps : List Nat) (hp : ws = ps.filterMap (fun i => big[i]?)) (h : ws.all goodWord = true) : GoodIn big ws := by
  intro w hw
  have h1 := List.all_eq_true.mp h w hw
  rw [hp] at hw
  obtain ⟨i, -, hi⟩ := List.mem_filterMap.mp hw
  have hm : w ∈ big := by first | exact List.mem_of_getElem? hi | exact List.getElem?_mem hi
  exact ⟨hm, good_of_word h1⟩
theorem goodIn_app {big a b : List Cond} (ha : GoodIn big a) (hb : GoodIn big b) : GoodIn big (a ++ b) := fun w h => (List.mem_append.mp h).elim (ha w) (hb w)
theorem goodIn_ca {big a b : List Cond} {c : Cond} (ha : GoodIn big (c :: a)) (hb : GoodIn big b) : GoodIn big (c :: (a ++ b)) := fun w h => (List.mem_cons.mp h).elim (fun e => ha w (List.mem_cons.mpr (Or.inl e))) (fun h => (List.mem_append.mp h).elim (fun h => ha w (List.mem_cons.mpr (Or.inr h))) (hb w))
theorem goodIn_sub {big ws : List Cond} (hm : ∀ w ∈ ws, w ∈ big) (h : ws.all goodWord = true) : GoodIn big ws := fun w hw => ⟨hm w hw, good_of_word (List.all_eq_true.mp h w hw)⟩
/-! ===== END ===== -/

/-! ===== BEGIN exceptions that leave a method, and their catching by the caller (launches without stack traces) ===== -/
section VXA
/-! The laws vx_back, vx_callV, vx_callS, vx_callSW, vx_throw0, vx_throwS follow proofs of the library, with one case more: JvmDerived/Free/Laws.lean (Back.of_free), Shelf42/LK1.lean (callV, callS), Shelf/KitTraced.lean (throwNew0V, throwNewS). -/
/-- where a method has thrown q: the class by its name, the cell, what was written, the world -/
def vx_T (XC : String → State → State → Prop) (st : State) (q : Addr) (t : State) (mc ms : Nat) (free : Addr → Prop) : Prop :=
  ∃ (E : String) (ce : Cell) (L : List Loc), XC E st t ∧ t.heap[q]? = some ce ∧ ce.vm = .none ∧ st.vm.findClass E = some ce.cls ∧ st.WarmedH t.vm ∧ st.sameButNew ({ t with vm := st.vm } : State) L mc ms ∧ ∀ z ∈ L, free z.base
def vx_Q (Qc : Array Value → State → Outcome → State → Prop) (XC : String → State → State → Prop) (mc ms : Nat) (free : Addr → Prop) : Array Value → State → Outcome → State → Prop := fun a st o t =>
  (Qc a st o t ∧ ∃ L, FrameEnd st o t L mc ms ∧ ∀ q ∈ L, free q.base) ∨ ∃ q, o = .threw q ∧ vx_T XC st q t mc ms free
/-- a callee that returns or throws -/
def vx_Met (l : Launch) (y : MethodName) (ws : List Cond) (rm : Room) (Pc : Array Value → State → Prop) (Qc : Array Value → State → Outcome → State → Prop) (XC : String → State → State → Prop) (mc ms : Nat) (free : Addr → Prop) : Prop :=
  MetFree l y (headSpec ws rm) Pc (fun _ _ _ _ _ => True) (vx_Q Qc XC mc ms free)
def vx_Post (XC : String → State → State → Prop) (mc ms : Nat) (free : Addr → Prop) : Pt → Array Value → Addr → Pt → Prop := fun A a q B =>
  ∃ (g : JFrame) (mk : MethodId) (t : State) (L : List Loc) (E : String) (ce : Cell), B.U.heap = t.heap ∧ B.U.vm = t.vm ∧ XC E (A.U.calling g mk a) t ∧ t.heap[q]? = some ce ∧ ce.vm = .none ∧ A.U.vm.findClass E = some ce.cls ∧ B.locs = A.locs ++ L ∧ (∀ z ∈ L, free z.base) ∧ B.cells = A.cells + mc ∧ B.slots = A.slots + ms
def vx_Back (l : Launch) (R : Room) (p : Program) (e : Env) (below : List Frame) (s : State) (sargs : Array Value) (y : MethodName) (len W9 : Nat)
    (Pre : Pt → Array Value → Prop) (Post : Pt → Array Value → Option Value → Pt → Prop) (PostX : Pt → Array Value → Addr → Pt → Prop) : Prop :=
  ∀ (m : MethodId) (meth : Method) (c : Code) (A : Pt) (g : JFrame) (ig : Instr) (mk : MethodId) (a : Array Value),
    Stand p l e R s m sargs below meth c A.U A.locs A.cells A.slots → g.method = m → g.locals.size = c.maxLocals → decode c.code g.pc = .ok (ig, len) →
    2 * g.monitorRoom + (g.stack.map fun v => v.category).sum ≤ W9 → A.U.methodNamed? y = some mk → Pre A a →
    (∃ (v : Option Value) (B : Pt), Stand p l e R s m sargs below meth c B.U B.locs B.cells B.slots ∧ Post A a v B ∧
      Steps p.tables e below (doInvoke e (A.U.setTop g) [] mk a).1 (B.U.setTop { g with pc := g.pc + len, stack := v.toList ++ g.stack })) ∨
    (∃ (q : Addr) (B : Pt), Stand p l e R s m sargs below meth c B.U B.locs B.cells B.slots ∧ PostX A a q B ∧
      Steps p.tables e below (doInvoke e (A.U.setTop g) [] mk a).1 ((B.U.setTop g).pushFrame (.throwing q)))
section Payer
variable {l : Launch} {R : Room} {p : Program} {e : Env} {below : List Frame} {s : State} {sargs : Array Value} {y : MethodName} {len W9 : Nat}
theorem vx_back {ws : List Cond} {rm : Room} {Pc : Array Value → State → Prop} {Qc : Array Value → State → Outcome → State → Prop} {XC : String → State → State → Prop} {mc ms : Nat} {free : Addr → Prop} {bytes : ByteArray} {maxL : Nat} {ret : Option FieldType}
    (hM : vx_Met l y ws rm Pc Qc XC mc ms free) (hblind : FrameBlind Pc) (hrc : rm.cells = mc) (hrs : rm.slots = ms)
    (hframes : rm.frames + 1 ≤ R.frames) (hlocals : W9 + (maxL + 11) + rm.locals ≤ R.locals)
    (hws : ∀ w ∈ ws, ∀ a' U, s.WarmedH U.vm → w.before a' U = true) (hcode : Cond.code y bytes maxL ret ∈ ws) (hinit : ∀ a' U, s.WarmedH U.vm → (Cond.initialized y.cls).before a' U = true) :
    vx_Back l R p e below s sargs y len W9 (PreOf R mc ms Pc) (PostOf Qc mc ms free) (vx_Post XC mc ms free) := by
  intro m meth c A g ig mk a X hg hsize hdg hW hn hp
  have h1 : (headSpec ws rm).pre.before a A.U = true := atoms_intro fun w hw => hws w hw _ _ X.warmed
  have h2 : (Cond.code y bytes maxL ret).before a A.U = true := hws _ hcode _ _ X.warmed
  have h3 : (Cond.initialized y.cls).before a A.U = true := hinit _ _ X.warmed
  have h4 : A.cells + (headSpec ws rm).room.cells ≤ R.cells := by rw [show (headSpec ws rm).room.cells = mc from hrc]; exact hp.1
  have h5 : A.slots + (headSpec ws rm).room.slots ≤ R.slots := by rw [show (headSpec ws rm).room.slots = ms from hrs]; exact hp.2.1
  have hPc : Pc a (A.U.calling g mk a) := hblind _ _ _ _ hp.2.2
  obtain ⟨U, Ls, c0, s0⟩ := A
  dsimp only [Pt.U, Pt.locs, Pt.cells, Pt.slots] at h1 h2 h3 h4 h5 X hn hPc ⊢
  obtain ⟨methY, cY, hmY, hcY, -, hlY, -, -, -, -⟩ := Cond.code_spec hn h2
  obtain ⟨kY, hkY, -⟩ := className_of_methodNamed hn
  have hinitY : kY.init = .initialized := Cond.initialized_spec (findClass_of_methodNamed hn) hkY h3
  have h : At U g.method c below := by rw [hg]; exact X.here
  have hlocals9 : W9 + (maxL + 11) + (headSpec ws rm).room.locals ≤ R.locals := hlocals
  have happ : (headSpec ws rm).appliesLoose y e.platform (U.calling g mk a) = true :=
    Spec.appliesLoose_calling (g := g) h hdg hn hkY hinitY
      (X.room_calling (g := g) (R' := (headSpec ws rm).room) hsize hmY hcY hframes (by rw [hlY]; omega) h4 h5) h1
  obtain ⟨mid, hmid⟩ := h.above
  have hfr : (U.setTop g).frames = (.java g :: mid) ++ below := by rw [State.frames_setTop' g h.top, hmid]; rfl
  obtain ⟨o, s₂, hsteps, -, hend, hq⟩ := Steps.callFree hM p X.admits X.cas X.clock (acts := []) hfr happ hPc trivial
  have hq' : vx_Q Qc XC mc ms free a (U.calling g mk a) o s₂ := hq
  rw [State.frames_setTop' g h.top] at hend
  obtain ⟨g₀, hg0⟩ := Option.isSome_iff_exists.mp h.top
  obtain ⟨r, hr⟩ := State.topJava?_eq_some.mp hg0
  have hr' : (({ U with heap := s₂.heap, slotsUsed := s₂.slotsUsed } : State).setVm s₂.vm).frames = .java g₀ :: r := hr
  rcases hq' with ⟨hqc, L, hfe, hL⟩ | ⟨q, rfl, E, ce, L, hx, hce, hcv, hcl, hW₂, hsm, hL⟩
  · obtain ⟨⟨v, rfl⟩, hW₂, e2, q2, q3, q4, q5, q6⟩ := id hfe
    have e3 : s₂ = ({ (U.calling g mk a).setFrames s₂.frames with heap := s₂.heap, slotsUsed := s₂.slotsUsed } : State).setVm s₂.vm := by
      have : s₂ = ({ s₂ with vm := (U.calling g mk a).vm } : State).setVm s₂.vm := rfl
      rw [e2] at this
      exact this
    obtain ⟨c₂, i₂, len₂, hc₂, hd₂, hf₂⟩ := hend
    have hW' : U.WarmedH s₂.vm := hW₂
    have hcc : c₂ = c := by
      have h1 : s₂.code? g.method = U.code? g.method := by
        rw [State.code?_eq, State.code?_eq, hW'.alike.method?]
      exact Option.some.inj (hc₂.symm.trans (h1.trans h.code))
    subst hcc
    have hlen : len₂ = len := by rw [hdg] at hd₂; cases hd₂; rfl
    subst hlen
    have hs₂ : s₂ = (({ U with heap := s₂.heap, slotsUsed := s₂.slotsUsed } : State).setVm s₂.vm).setTop { g with pc := g.pc + len₂, stack := v.toList ++ g.stack } := by
      refine e3.trans ?_
      rw [hf₂, State.calling_eq h.top, State.setFrames_setFrames, State.setTop_of_frames _ hr', hr]
      rfl
    have hsame : U.sameButNew ({ U with heap := s₂.heap, slotsUsed := s₂.slotsUsed } : State) L mc ms := by
      refine ⟨?_, q2, q3, q4, q5, q6⟩
      obtain ⟨t, ht, -⟩ := State.frames_cons hr
      show ({ U with heap := s₂.heap, slotsUsed := s₂.slotsUsed } : State) = { U.setFrames U.frames with heap := s₂.heap, slotsUsed := s₂.slotsUsed }
      rw [State.setFrames_self ht]
    subst hg
    refine Or.inl ⟨v, ⟨(({ U with heap := s₂.heap, slotsUsed := s₂.slotsUsed } : State).setVm s₂.vm), Ls ++ L, c0 + mc, s0 + ms⟩,
      ⟨X.admits, X.cas, X.clock, X.frames, X.room, X.hears, X.method, X.code, (X.here.setHeapUsed s₂.heap s₂.slotsUsed).setVm hW'.alike, X.tail, State.WarmedH.trans X.warmed hW', X.limits, X.bytes, X.same.trans (hsame.setVm s.vm)⟩,
      ⟨g, mk, s₂, L, rfl, rfl, hqc, rfl, hL, rfl, rfl⟩, ?_⟩
    show Steps p.tables e below _ ((({ U with heap := s₂.heap, slotsUsed := s₂.slotsUsed } : State).setVm s₂.vm).setTop { g with pc := g.pc + len₂, stack := v.toList ++ g.stack })
    rw [← hs₂]
    exact hsteps
  · obtain ⟨e2, q2, q3, q4, q5, q6⟩ := id hsm
    have e3 : s₂ = ({ (U.calling g mk a).setFrames s₂.frames with heap := s₂.heap, slotsUsed := s₂.slotsUsed } : State).setVm s₂.vm := by
      have : s₂ = ({ s₂ with vm := (U.calling g mk a).vm } : State).setVm s₂.vm := rfl
      rw [e2] at this
      exact this
    have hf₂ : s₂.frames = .throwing q :: .java g :: U.frames.tail := hend
    have hW' : U.WarmedH s₂.vm := hW₂
    have hs₂ : s₂ = ((({ U with heap := s₂.heap, slotsUsed := s₂.slotsUsed } : State).setVm s₂.vm).setTop g).pushFrame (.throwing q) := by
      refine e3.trans ?_
      rw [hf₂, State.calling_eq h.top, State.setFrames_setFrames, State.pushFrame, State.frames_setTop _ hr', State.setTop_of_frames _ hr', State.setFrames_setFrames, hr]
      rfl
    have hsame : U.sameButNew ({ U with heap := s₂.heap, slotsUsed := s₂.slotsUsed } : State) L mc ms := by
      refine ⟨?_, q2, q3, q4, q5, q6⟩
      obtain ⟨t, ht, -⟩ := State.frames_cons hr
      show ({ U with heap := s₂.heap, slotsUsed := s₂.slotsUsed } : State) = { U.setFrames U.frames with heap := s₂.heap, slotsUsed := s₂.slotsUsed }
      rw [State.setFrames_self ht]
    subst hg
    refine Or.inr ⟨q, ⟨(({ U with heap := s₂.heap, slotsUsed := s₂.slotsUsed } : State).setVm s₂.vm), Ls ++ L, c0 + mc, s0 + ms⟩,
      ⟨X.admits, X.cas, X.clock, X.frames, X.room, X.hears, X.method, X.code, (X.here.setHeapUsed s₂.heap s₂.slotsUsed).setVm hW'.alike, X.tail, State.WarmedH.trans X.warmed hW', X.limits, X.bytes, X.same.trans (hsame.setVm s.vm)⟩,
      ⟨g, mk, s₂, L, E, ce, rfl, rfl, hx, hce, hcv, hcl, rfl, hL, rfl, rfl⟩, ?_⟩
    show Steps p.tables e below _ (((({ U with heap := s₂.heap, slotsUsed := s₂.slotsUsed } : State).setVm s₂.vm).setTop g).pushFrame (.throwing q))
    rw [← hs₂]
    exact hsteps
end Payer
section Calls
variable {p : Program} {l : Launch} {e : Env} {R : Room} {s : State} {m : MethodId} {args : Array Value} {below : List Frame} {meth : Method} {c : Code} {T : State} {locs : List Loc} {cells slots : Nat}
theorem vx_callV (X : Stand p l e R s m args below meth c T locs cells slots) (hexec : p.tables.exec = Jvm.exec) {own C : String} {index : Nat} {y : MethodName} {bytes : ByteArray} {maxL : Nat} {ret : Option FieldType}
    (hown : s.vm.findClass own = some m.cls) (hlink : (Cond.methodLink own index y).before args s = true) (hinst : (Cond.instanceMethod y).before args s = true) (hsel : (Cond.selects C y y).before args s = true)
    (hcode : (Cond.code y bytes maxL ret).before args s = true) (hy : y.cls ≠ "java/lang/invoke/MethodHandle" ∧ y.cls ≠ "java/lang/invoke/VarHandle")
    {W9 : Nat} {Pre : Pt → Array Value → Prop} {Post : Pt → Array Value → Option Value → Pt → Prop} {PostX : Pt → Array Value → Addr → Pt → Prop} (hK : vx_Back l R p e below s args y 3 W9 Pre Post PostX)
    {b : Addr} {cellB : Cell} (hcell : T.heap[b]? = some cellB) (hobj : cellB.vm.isStatics = false) (hcls : s.vm.findClass C = some cellB.cls)
    {g : JFrame} (hg : g.method = m) (hsize : g.locals.size = c.maxLocals) {argsL rest : List Value} (hlen : ∀ sig, parseMethodDescriptor y.desc = some sig → argsL.length = sig.parameters.length)
    (hstack : g.stack = argsL.reverse ++ .ref b :: rest) (hW : 2 * g.monitorRoom + (rest.map fun v => v.category).sum ≤ W9) (hdg : decode c.code g.pc = .ok (.invokevirtual index, 3))
    (hpre : ∀ vm₁, s.WarmedH vm₁ → Pre ⟨T.setVm vm₁, locs, cells, slots⟩ (Value.ref b :: argsL).toArray) :
    (∃ (v : Option Value) (vm₁ : Vm) (B : Pt), s.WarmedH vm₁ ∧ Stand p l e R s m args below meth c B.U B.locs B.cells B.slots ∧ Post ⟨T.setVm vm₁, locs, cells, slots⟩ (Value.ref b :: argsL).toArray v B ∧
      ∀ target, Steps p.tables e below (B.U.setTop { g with pc := g.pc + 3, stack := v.toList ++ rest }) target → Steps p.tables e below (T.setTop g) target) ∨
    (∃ (q : Addr) (vm₁ : Vm) (B : Pt), s.WarmedH vm₁ ∧ Stand p l e R s m args below meth c B.U B.locs B.cells B.slots ∧ PostX ⟨T.setVm vm₁, locs, cells, slots⟩ (Value.ref b :: argsL).toArray q B ∧
      Steps p.tables e below (T.setTop g) ((B.U.setTop { g with stack := rest }).pushFrame (.throwing q))) := by
  obtain ⟨mk, methM, hnamed, hmethM, hstM, habM⟩ := Cond.instanceMethod_spec hinst
  obtain ⟨methM', cM, hmethM', -, -, -, -, -, -, hsigM⟩ := Cond.code_spec hnamed hcode
  cases hmethM.symm.trans hmethM'
  obtain ⟨c2, r2, m2, q1, q2, q3, q4, kP, hkP, hkPi⟩ := Cond.selects_spec hsel
  cases hcls.symm.trans q1
  cases (State.methodFound?_of_named hnamed hy).symm.trans q2
  cases hnamed.symm.trans q3
  have hselP : selectMethod e.platform s.vm cellB.cls mk = .method mk := by rw [Launch.admits_selectMethod X.admits]; exact q4
  obtain ⟨vm₁, X₁, hstep₁⟩ := X.invokevirtual hexec hown hlink hnamed hmethM hstM hkP hkPi hy (a := b) (cell := cellB) hcell
    (fun z h => by rw [h] at hobj; cases hobj) hselP hmethM habM hkP hkPi (g := g) hg (argsL := argsL) (rest := rest) (hlen _ hsigM) hstack hdg
  rcases hK m meth c ⟨T.setVm vm₁, locs, cells, slots⟩ { g with stack := rest } (.invokevirtual index) mk (Value.ref b :: argsL).toArray X₁ hg hsize hdg hW (X₁.named hnamed) (hpre vm₁ X₁.warmed) with ⟨v, B, X', hpost, hsteps⟩ | ⟨q, B, X', hpost, hsteps⟩
  · exact Or.inl ⟨v, vm₁, B, X₁.warmed, X', hpost, fun target h => hstep₁ _ fun acts => by rw [doInvoke_state]; exact hsteps.trans h⟩
  · exact Or.inr ⟨q, vm₁, B, X₁.warmed, X', hpost, hstep₁ _ fun acts => by rw [doInvoke_state]; exact hsteps⟩
theorem vx_callS (X : Stand p l e R s m args below meth c T locs cells slots) (hexec : p.tables.exec = Jvm.exec) {own : String} {index : Nat} {y : MethodName} {bytes : ByteArray} {maxL : Nat} {ret : Option FieldType}
    (hown : s.vm.findClass own = some m.cls) (hlink : (Cond.methodLink own index y).before args s = true) (hstat : (Cond.static y).before args s = true) (hinit : (Cond.initialized y.cls).before args s = true)
    (hcode : (Cond.code y bytes maxL ret).before args s = true) (hy : y.cls ≠ "java/lang/invoke/MethodHandle" ∧ y.cls ≠ "java/lang/invoke/VarHandle")
    {W9 : Nat} {Pre : Pt → Array Value → Prop} {Post : Pt → Array Value → Option Value → Pt → Prop} {PostX : Pt → Array Value → Addr → Pt → Prop} (hK : vx_Back l R p e below s args y 3 W9 Pre Post PostX)
    {g : JFrame} (hg : g.method = m) (hsize : g.locals.size = c.maxLocals) {argsL rest : List Value} (hlen : ∀ sig, parseMethodDescriptor y.desc = some sig → argsL.length = sig.parameters.length)
    (hstack : g.stack = argsL.reverse ++ rest) (hW : 2 * g.monitorRoom + (rest.map fun v => v.category).sum ≤ W9) (hdg : decode c.code g.pc = .ok (.invokestatic index, 3))
    (hpre : ∀ vm₁, s.WarmedH vm₁ → Pre ⟨T.setVm vm₁, locs, cells, slots⟩ argsL.toArray) :
    (∃ (v : Option Value) (vm₁ : Vm) (B : Pt), s.WarmedH vm₁ ∧ Stand p l e R s m args below meth c B.U B.locs B.cells B.slots ∧ Post ⟨T.setVm vm₁, locs, cells, slots⟩ argsL.toArray v B ∧
      ∀ target, Steps p.tables e below (B.U.setTop { g with pc := g.pc + 3, stack := v.toList ++ rest }) target → Steps p.tables e below (T.setTop g) target) ∨
    (∃ (q : Addr) (vm₁ : Vm) (B : Pt), s.WarmedH vm₁ ∧ Stand p l e R s m args below meth c B.U B.locs B.cells B.slots ∧ PostX ⟨T.setVm vm₁, locs, cells, slots⟩ argsL.toArray q B ∧
      Steps p.tables e below (T.setTop g) ((B.U.setTop { g with stack := rest }).pushFrame (.throwing q))) := by
  obtain ⟨mk, hnamed⟩ := Cond.code_named hcode
  obtain ⟨methM, cM, hmethM, -, -, -, -, -, -, hsigM⟩ := Cond.code_spec hnamed hcode
  have hstatic : methM.isStatic = true := Cond.static_spec hnamed hmethM hstat
  obtain ⟨kP, hkP, -⟩ := className_of_methodNamed hnamed
  have hinitP : kP.init = .initialized := Cond.initialized_spec (findClass_of_methodNamed hnamed) hkP hinit
  obtain ⟨vm₁, X₁, hstep₁⟩ := X.invokestatic hexec hown hlink hnamed hmethM hstatic hkP hinitP hy (g := g) hg (argsL := argsL) (rest := rest) (hlen _ hsigM) hstack hdg
  rcases hK m meth c ⟨T.setVm vm₁, locs, cells, slots⟩ { g with stack := rest } (.invokestatic index) mk argsL.toArray X₁ hg hsize hdg hW (X₁.named hnamed) (hpre vm₁ X₁.warmed) with ⟨v, B, X', hpost, hsteps⟩ | ⟨q, B, X', hpost, hsteps⟩
  · exact Or.inl ⟨v, vm₁, B, X₁.warmed, X', hpost, fun target h => hstep₁ _ fun acts => by rw [doInvoke_state]; exact hsteps.trans h⟩
  · exact Or.inr ⟨q, vm₁, B, X₁.warmed, X', hpost, hstep₁ _ fun acts => by rw [doInvoke_state]; exact hsteps⟩
end Calls
theorem vx_cls {s : State} {T : State} {vm₁ : Vm} {E : String} {k : ClassId} (hW : s.WarmedH vm₁) (h : (T.setVm vm₁).vm.findClass E = some k) : s.vm.findClass E = some k := by
  have h1 : vm₁.findClass E = some k := h
  rw [hW.alike.findClass] at h1
  exact h1
/-- the method's frame g, with q thrown over it -/
def vx_W (p : Program) (l : Launch) (e : Env) (R : Room) (s : State) (m : MethodId) (args : Array Value) (below : List Frame) (meth : Method) (c : Code) (H : Heap) (locs : List Loc) (cells slots : Nat) (Q : State → Prop) (g : JFrame) (q : Addr) : Prop :=
  ∀ T : State, T.heap = H → Stand p l e R s m args below meth c T locs cells slots → ∃ t, Steps p.tables e below ((T.setTop g).pushFrame (.throwing q)) t ∧ Q t
def vx_Run (p : Program) (l : Launch) (e : Env) (R : Room) (s : State) (m : MethodId) (args : Array Value) (below : List Frame) (meth : Method) (c : Code) (H : Heap) (locs : List Loc) (cells slots mc ms : Nat) (g : JFrame) (rest : List Value) (Qa : State → Outcome → State → Prop) (XC : String → State → State → Prop) (free : Addr → Prop) : Prop :=
  ∀ T : State, T.heap = H → Stand p l e R s m args below meth c T locs cells slots →
    (∃ (v : Option Value) (st₀ t T' : State) (L : List Loc), st₀.heap = H ∧ Stand p l e R s m args below meth c T' (locs ++ L) (cells + mc) (slots + ms) ∧ (∀ q ∈ L, free q.base) ∧ T'.heap = t.heap ∧ T'.vm = t.vm ∧ Qa st₀ (.returned v) t ∧
      Goes p e below T g T' { g with pc := g.pc + 3, stack := v.toList ++ rest }) ∨
    (∃ (q : Addr) (st₀ t T' : State) (L : List Loc) (E : String) (ce : Cell), st₀.heap = H ∧ Stand p l e R s m args below meth c T' (locs ++ L) (cells + mc) (slots + ms) ∧ (∀ z ∈ L, free z.base) ∧ T'.heap = t.heap ∧ T'.vm = t.vm ∧ XC E st₀ t ∧ t.heap[q]? = some ce ∧ ce.vm = .none ∧ s.vm.findClass E = some ce.cls ∧
      Steps p.tables e below (T.setTop g) ((T'.setTop { g with stack := rest }).pushFrame (.throwing q)))
def vx_X {S : Type} (px : S → Prop) (B : String → S → State → Prop) (A : Nat → Prop) : String → State → State → Prop := fun E st t => ∃ u : S, px u ∧ B E u t ∧ va_F A st t
section Runs
variable {p : Program} {l : Launch} {e : Env} {R : Room} {s : State} {m : MethodId} {args : Array Value} {below : List Frame} {meth : Method} {c : Code} {H : Heap} {locs : List Loc} {cells slots : Nat}
variable {y : MethodName} {bytes cc : ByteArray} {maxL nL mc ms n index : Nat} {ret : Option FieldType} {ws : List Cond} {rm : Room} {Pc : Array Value → State → Prop} {Qc : Array Value → State → Outcome → State → Prop} {XC : String → State → State → Prop} {free : Addr → Prop} {Ts : List Cond} {own C : String} {b : Addr} {As rest : List Value} {g : JFrame}
theorem vx_callBack (cb : CallB R s args own index y bytes maxL ret ws rm mc ms n) (hM : vx_Met l y ws rm Pc Qc XC mc ms free) (hbl : FrameBlind Pc) : vx_Back l R p e below s args y 3 8 (PreOf R mc ms Pc) (PostOf Qc mc ms free) (vx_Post XC mc ms free) := by
  obtain ⟨hrc, hrs, hfr, hlo, hws, hcw, -, hini, -⟩ := cb
  exact vx_back (bytes := bytes) (maxL := maxL) (ret := ret) hM hbl hrc hrs hfr hlo hws hcw (fun a' U hW => word_at hW (Or.inl (by first | rfl | simp [Cond.onTables, Cond.keeps, Cond.steady])) hini)
theorem vx_runV (S : CallFix p m c cc nL s args Ts own) (hM : vx_Met l y ws rm Pc Qc XC mc ms free) (cw : CallW R s args own C index y bytes maxL ret ws rm mc ms n) (hp : PreV s H C b Pc As)
    (hg : g.method = m) (hn : As.length = n) (hsize : g.locals.size = nL) (hstack : g.stack = As.reverse ++ .ref b :: rest) (hW : 2 * g.monitorRoom + (rest.map fun v => v.category).sum ≤ 8) (hdg : decode cc g.pc = .ok (.invokevirtual index, 3)) (hf : cells + mc ≤ R.cells ∧ slots + ms ≤ R.slots) :
    vx_Run p l e R s m args below meth c H locs cells slots mc ms g rest (Qc (Value.ref b :: As).toArray) XC free := by
  have hK : vx_Back l R p e below s args y 3 8 (PreOf R mc ms Pc) (PostOf Qc mc ms free) (vx_Post XC mc ms free) := vx_callBack cw.1 hM hp.1
  obtain ⟨⟨-, -, -, -, -, -, hcode, -, hy, hlen, hl⟩, hin, hse⟩ := cw
  obtain ⟨hx, hb, hml, ho, -⟩ := S
  obtain ⟨-, ⟨cellB, hcB, hoB, hclB⟩, hPc⟩ := hp
  intro T hT X
  rcases vx_callV X hx (C := C) (bytes := bytes) (maxL := maxL) (ret := ret) ho hl hin hse hcode hy hK (by rw [hT]; exact hcB) hoB hclB hg (hsize.trans hml.symm) (argsL := As) (rest := rest) (fun sig h => hn.trans (hlen sig h)) hstack hW (by rw [hb]; exact hdg)
    (fun vm₁ hW₁ => ⟨hf.1, hf.2, hPc (T.setVm vm₁) hT hW₁⟩) with ⟨v, vm₁, ⟨U', l2, c2, s2⟩, hW₁, X', ⟨g', mk, t, L, e1, e2, hq, h1, hL, h2, h3⟩, st⟩ | ⟨q, vm₁, ⟨U', l2, c2, s2⟩, hW₁, X', ⟨g', mk, t, L, E, ce, e1, e2, hq, hce, hcv, hcl, h1, hL, h2, h3⟩, st⟩
  · dsimp only [Pt.U, Pt.locs, Pt.cells, Pt.slots] at X' e1 e2 h1 h2 h3 st
    subst h1; subst h2; subst h3
    exact Or.inl ⟨v, (T.setVm vm₁).calling g' mk (Value.ref b :: As).toArray, t, U', L, hT, X', hL, e1, e2, hq, st⟩
  · dsimp only [Pt.U, Pt.locs, Pt.cells, Pt.slots] at X' e1 e2 h1 h2 h3 st hcl
    subst h1; subst h2; subst h3
    exact Or.inr ⟨q, (T.setVm vm₁).calling g' mk (Value.ref b :: As).toArray, t, U', L, E, ce, hT, X', hL, e1, e2, hq, hce, hcv, vx_cls hW₁ hcl, st⟩
theorem vx_runS (S : CallFix p m c cc nL s args Ts own) (hM : vx_Met l y ws rm Pc Qc XC mc ms free) (cw : CallB R s args own index y bytes maxL ret ws rm mc ms n ∧ (Cond.static y).before args s = true) (hp : PreS s H Pc As)
    (hg : g.method = m) (hn : As.length = n) (hsize : g.locals.size = nL) (hstack : g.stack = As.reverse ++ rest) (hW : 2 * g.monitorRoom + (rest.map fun v => v.category).sum ≤ 8) (hdg : decode cc g.pc = .ok (.invokestatic index, 3)) (hf : cells + mc ≤ R.cells ∧ slots + ms ≤ R.slots) :
    vx_Run p l e R s m args below meth c H locs cells slots mc ms g rest (Qc As.toArray) XC free := by
  have hK : vx_Back l R p e below s args y 3 8 (PreOf R mc ms Pc) (PostOf Qc mc ms free) (vx_Post XC mc ms free) := vx_callBack cw.1 hM hp.1
  obtain ⟨⟨-, -, -, -, -, -, hcode, hini, hy, hlen, hl⟩, hstt⟩ := cw
  obtain ⟨hx, hb, hml, ho, -⟩ := S
  intro T hT X
  rcases vx_callS X hx (bytes := bytes) (maxL := maxL) (ret := ret) ho hl hstt hini hcode hy hK hg (hsize.trans hml.symm) (argsL := As) (rest := rest) (fun sig h => hn.trans (hlen sig h)) hstack hW (by rw [hb]; exact hdg)
    (fun vm₁ hW₁ => ⟨hf.1, hf.2, hp.2 (T.setVm vm₁) hT hW₁⟩) with ⟨v, vm₁, ⟨U', l2, c2, s2⟩, hW₁, X', ⟨g', mk, t, L, e1, e2, hq, h1, hL, h2, h3⟩, st⟩ | ⟨q, vm₁, ⟨U', l2, c2, s2⟩, hW₁, X', ⟨g', mk, t, L, E, ce, e1, e2, hq, hce, hcv, hcl, h1, hL, h2, h3⟩, st⟩
  · dsimp only [Pt.U, Pt.locs, Pt.cells, Pt.slots] at X' e1 e2 h1 h2 h3 st
    subst h1; subst h2; subst h3
    exact Or.inl ⟨v, (T.setVm vm₁).calling g' mk As.toArray, t, U', L, hT, X', hL, e1, e2, hq, st⟩
  · dsimp only [Pt.U, Pt.locs, Pt.cells, Pt.slots] at X' e1 e2 h1 h2 h3 st hcl
    subst h1; subst h2; subst h3
    exact Or.inr ⟨q, (T.setVm vm₁).calling g' mk As.toArray, t, U', L, E, ce, hT, X', hL, e1, e2, hq, hce, hcv, vx_cls hW₁ hcl, st⟩
end Runs
section Rows
variable {p : Program} {l : Launch} {e : Env} {R : Room} {s : State} {m : MethodId} {args : Array Value} {below : List Frame} {meth : Method} {c : Code} {H : Heap} {locs : List Loc} {cells slots : Nat} {Q : State → Prop}
variable {mc ms : Nat} {free : Addr → Prop} {A0 A1 : Nat → Prop} {H0 : Heap} {a : Array Value} {pc : Nat} {ls : Array Slot} {st0 rest : List Value}
theorem vx_keep {st₀ t T' : State} {L : List Loc} (h0 : st₀.heap = H) (e1 : T'.heap = t.heap) (hS : va_S A0 H0 H locs) (hA : ∀ q, q < H.size → A1 q → A0 q) (hf : ∀ q, free q → A0 q) (hL : ∀ q ∈ L, free q.base) (hF : va_F A1 st₀ t) :
    H.size ≤ T'.heap.size ∧ (∀ q : Nat, q < H.size → ¬ A1 q → T'.heap[q]? = H[q]?) ∧ va_S A0 H0 T'.heap (locs ++ L) := by
  obtain ⟨hz, hk⟩ := hF
  rw [h0] at hz hk
  exact ⟨by rw [e1]; exact hz, fun q h1 h2 => by rw [e1]; exact hk q h1 h2,
    ⟨Nat.le_trans hS.1 (by rw [e1]; exact hz), fun q h1 h2 => by rw [e1, hk q (Nat.lt_of_lt_of_le h1 hS.1) (fun z => h2 (hA q (Nat.lt_of_lt_of_le h1 hS.1) z))]; exact hS.2.1 q h1 h2, fun q hq => by
      rcases List.mem_append.mp hq with h | h
      · exact hS.2.2 q h
      · exact hf _ (hL q h)⟩⟩
theorem vx_calli {S SX : Type} {post : Int32 → S → Prop} {px : SX → Prop} {B : S → State → Prop} {BX : String → SX → State → Prop} {AX : Nat → Prop} (hr : vx_Run p l e R s m args below meth c H locs cells slots mc ms (F0 m pc ls st0) rest (va_Qi post B A1 a) (vx_X px BX AX) free) (hS : va_S A0 H0 H locs) (hA : ∀ q, q < H.size → A1 q → A0 q) (hf : ∀ q, free q → A0 q) (hAX : ∀ q, q < H.size → AX q → A0 q)
    (kx : ∀ (E : String) (ce : Cell) (q9 : Addr) (u : SX) (t : State) (H1 : Heap) (locs1 : List Loc), t.heap = H1 → s.vm.Alike t.vm → px u → BX E u t → H.size ≤ H1.size → (∀ q : Nat, q < H.size → ¬ AX q → H1[q]? = H[q]?) → va_S A0 H0 H1 locs1 → H1[q9]? = some ce → ce.vm = .none → s.vm.findClass E = some ce.cls → vx_W p l e R s m args below meth c H1 locs1 (cells + mc) (slots + ms) Q (F0 m pc ls rest) q9)
    (kk : ∀ (r : Int32) (u : S) (t : State) (H1 : Heap) (locs1 : List Loc), t.heap = H1 → s.vm.Alike t.vm → post r u → B u t → H.size ≤ H1.size → (∀ q : Nat, q < H.size → ¬ A1 q → H1[q]? = H[q]?) → va_S A0 H0 H1 locs1 → W p l e R s m args below meth c H1 locs1 (cells + mc) (slots + ms) Q (F0 m (pc + 3) ls (.int r :: rest))) : W p l e R s m args below meth c H locs cells slots Q (F0 m pc ls st0) := by
  intro T hT X
  rcases hr T hT X with ⟨v, st₀, t, T', L, h0, X', hL, e1, e2, ⟨⟨r, u, hv, hp, hb⟩, hF⟩, st⟩ | ⟨q, st₀, t, T', L, E, ce, h0, X', hL, e1, e2, ⟨u, hp, hb, hF⟩, hce, hcv, hcl, st⟩
  · cases hv
    obtain ⟨k1, k2, k3⟩ := vx_keep h0 e1 hS hA hf hL hF
    obtain ⟨t2, a1, b1⟩ := kk r u t T'.heap (locs ++ L) e1.symm (by rw [← e2]; exact X'.warmed.alike) hp hb k1 k2 k3 T' rfl X'
    exact ⟨t2, st t2 a1, b1⟩
  · obtain ⟨k1, k2, k3⟩ := vx_keep h0 e1 hS hAX hf hL hF
    obtain ⟨t2, a1, b1⟩ := kx E ce q u t T'.heap (locs ++ L) e1.symm (by rw [← e2]; exact X'.warmed.alike) hp hb k1 k2 k3 (by rw [e1]; exact hce) hcv hcl T' rfl X'
    exact ⟨t2, st.trans a1, b1⟩
theorem vx_calll {S SX : Type} {post : Int64 → S → Prop} {px : SX → Prop} {B : S → State → Prop} {BX : String → SX → State → Prop} {AX : Nat → Prop} (hr : vx_Run p l e R s m args below meth c H locs cells slots mc ms (F0 m pc ls st0) rest (va_Ql post B A1 a) (vx_X px BX AX) free) (hS : va_S A0 H0 H locs) (hA : ∀ q, q < H.size → A1 q → A0 q) (hf : ∀ q, free q → A0 q) (hAX : ∀ q, q < H.size → AX q → A0 q)
    (kx : ∀ (E : String) (ce : Cell) (q9 : Addr) (u : SX) (t : State) (H1 : Heap) (locs1 : List Loc), t.heap = H1 → s.vm.Alike t.vm → px u → BX E u t → H.size ≤ H1.size → (∀ q : Nat, q < H.size → ¬ AX q → H1[q]? = H[q]?) → va_S A0 H0 H1 locs1 → H1[q9]? = some ce → ce.vm = .none → s.vm.findClass E = some ce.cls → vx_W p l e R s m args below meth c H1 locs1 (cells + mc) (slots + ms) Q (F0 m pc ls rest) q9)
    (kk : ∀ (r : Int64) (u : S) (t : State) (H1 : Heap) (locs1 : List Loc), t.heap = H1 → s.vm.Alike t.vm → post r u → B u t → H.size ≤ H1.size → (∀ q : Nat, q < H.size → ¬ A1 q → H1[q]? = H[q]?) → va_S A0 H0 H1 locs1 → W p l e R s m args below meth c H1 locs1 (cells + mc) (slots + ms) Q (F0 m (pc + 3) ls (.long r :: rest))) : W p l e R s m args below meth c H locs cells slots Q (F0 m pc ls st0) := by
  intro T hT X
  rcases hr T hT X with ⟨v, st₀, t, T', L, h0, X', hL, e1, e2, ⟨⟨r, u, hv, hp, hb⟩, hF⟩, st⟩ | ⟨q, st₀, t, T', L, E, ce, h0, X', hL, e1, e2, ⟨u, hp, hb, hF⟩, hce, hcv, hcl, st⟩
  · cases hv
    obtain ⟨k1, k2, k3⟩ := vx_keep h0 e1 hS hA hf hL hF
    obtain ⟨t2, a1, b1⟩ := kk r u t T'.heap (locs ++ L) e1.symm (by rw [← e2]; exact X'.warmed.alike) hp hb k1 k2 k3 T' rfl X'
    exact ⟨t2, st t2 a1, b1⟩
  · obtain ⟨k1, k2, k3⟩ := vx_keep h0 e1 hS hAX hf hL hF
    obtain ⟨t2, a1, b1⟩ := kx E ce q u t T'.heap (locs ++ L) e1.symm (by rw [← e2]; exact X'.warmed.alike) hp hb k1 k2 k3 (by rw [e1]; exact hce) hcv hcl T' rfl X'
    exact ⟨t2, st.trans a1, b1⟩
theorem vx_callf {S SX : Type} {post : UInt32 → S → Prop} {px : SX → Prop} {B : S → State → Prop} {BX : String → SX → State → Prop} {AX : Nat → Prop} (hr : vx_Run p l e R s m args below meth c H locs cells slots mc ms (F0 m pc ls st0) rest (va_Qf post B A1 a) (vx_X px BX AX) free) (hS : va_S A0 H0 H locs) (hA : ∀ q, q < H.size → A1 q → A0 q) (hf : ∀ q, free q → A0 q) (hAX : ∀ q, q < H.size → AX q → A0 q)
    (kx : ∀ (E : String) (ce : Cell) (q9 : Addr) (u : SX) (t : State) (H1 : Heap) (locs1 : List Loc), t.heap = H1 → s.vm.Alike t.vm → px u → BX E u t → H.size ≤ H1.size → (∀ q : Nat, q < H.size → ¬ AX q → H1[q]? = H[q]?) → va_S A0 H0 H1 locs1 → H1[q9]? = some ce → ce.vm = .none → s.vm.findClass E = some ce.cls → vx_W p l e R s m args below meth c H1 locs1 (cells + mc) (slots + ms) Q (F0 m pc ls rest) q9)
    (kk : ∀ (r : UInt32) (u : S) (t : State) (H1 : Heap) (locs1 : List Loc), t.heap = H1 → s.vm.Alike t.vm → post r u → B u t → H.size ≤ H1.size → (∀ q : Nat, q < H.size → ¬ A1 q → H1[q]? = H[q]?) → va_S A0 H0 H1 locs1 → W p l e R s m args below meth c H1 locs1 (cells + mc) (slots + ms) Q (F0 m (pc + 3) ls (.float r :: rest))) : W p l e R s m args below meth c H locs cells slots Q (F0 m pc ls st0) := by
  intro T hT X
  rcases hr T hT X with ⟨v, st₀, t, T', L, h0, X', hL, e1, e2, ⟨⟨r, u, hv, hp, hb⟩, hF⟩, st⟩ | ⟨q, st₀, t, T', L, E, ce, h0, X', hL, e1, e2, ⟨u, hp, hb, hF⟩, hce, hcv, hcl, st⟩
  · cases hv
    obtain ⟨k1, k2, k3⟩ := vx_keep h0 e1 hS hA hf hL hF
    obtain ⟨t2, a1, b1⟩ := kk r u t T'.heap (locs ++ L) e1.symm (by rw [← e2]; exact X'.warmed.alike) hp hb k1 k2 k3 T' rfl X'
    exact ⟨t2, st t2 a1, b1⟩
  · obtain ⟨k1, k2, k3⟩ := vx_keep h0 e1 hS hAX hf hL hF
    obtain ⟨t2, a1, b1⟩ := kx E ce q u t T'.heap (locs ++ L) e1.symm (by rw [← e2]; exact X'.warmed.alike) hp hb k1 k2 k3 (by rw [e1]; exact hce) hcv hcl T' rfl X'
    exact ⟨t2, st.trans a1, b1⟩
theorem vx_calld {S SX : Type} {post : UInt64 → S → Prop} {px : SX → Prop} {B : S → State → Prop} {BX : String → SX → State → Prop} {AX : Nat → Prop} (hr : vx_Run p l e R s m args below meth c H locs cells slots mc ms (F0 m pc ls st0) rest (va_Qd post B A1 a) (vx_X px BX AX) free) (hS : va_S A0 H0 H locs) (hA : ∀ q, q < H.size → A1 q → A0 q) (hf : ∀ q, free q → A0 q) (hAX : ∀ q, q < H.size → AX q → A0 q)
    (kx : ∀ (E : String) (ce : Cell) (q9 : Addr) (u : SX) (t : State) (H1 : Heap) (locs1 : List Loc), t.heap = H1 → s.vm.Alike t.vm → px u → BX E u t → H.size ≤ H1.size → (∀ q : Nat, q < H.size → ¬ AX q → H1[q]? = H[q]?) → va_S A0 H0 H1 locs1 → H1[q9]? = some ce → ce.vm = .none → s.vm.findClass E = some ce.cls → vx_W p l e R s m args below meth c H1 locs1 (cells + mc) (slots + ms) Q (F0 m pc ls rest) q9)
    (kk : ∀ (r : UInt64) (u : S) (t : State) (H1 : Heap) (locs1 : List Loc), t.heap = H1 → s.vm.Alike t.vm → post r u → B u t → H.size ≤ H1.size → (∀ q : Nat, q < H.size → ¬ A1 q → H1[q]? = H[q]?) → va_S A0 H0 H1 locs1 → W p l e R s m args below meth c H1 locs1 (cells + mc) (slots + ms) Q (F0 m (pc + 3) ls (.double r :: rest))) : W p l e R s m args below meth c H locs cells slots Q (F0 m pc ls st0) := by
  intro T hT X
  rcases hr T hT X with ⟨v, st₀, t, T', L, h0, X', hL, e1, e2, ⟨⟨r, u, hv, hp, hb⟩, hF⟩, st⟩ | ⟨q, st₀, t, T', L, E, ce, h0, X', hL, e1, e2, ⟨u, hp, hb, hF⟩, hce, hcv, hcl, st⟩
  · cases hv
    obtain ⟨k1, k2, k3⟩ := vx_keep h0 e1 hS hA hf hL hF
    obtain ⟨t2, a1, b1⟩ := kk r u t T'.heap (locs ++ L) e1.symm (by rw [← e2]; exact X'.warmed.alike) hp hb k1 k2 k3 T' rfl X'
    exact ⟨t2, st t2 a1, b1⟩
  · obtain ⟨k1, k2, k3⟩ := vx_keep h0 e1 hS hAX hf hL hF
    obtain ⟨t2, a1, b1⟩ := kx E ce q u t T'.heap (locs ++ L) e1.symm (by rw [← e2]; exact X'.warmed.alike) hp hb k1 k2 k3 (by rw [e1]; exact hce) hcv hcl T' rfl X'
    exact ⟨t2, st.trans a1, b1⟩
theorem vx_callv {S SX : Type} {post : S → Prop} {px : SX → Prop} {B : S → State → Prop} {BX : String → SX → State → Prop} {AX : Nat → Prop} (hr : vx_Run p l e R s m args below meth c H locs cells slots mc ms (F0 m pc ls st0) rest (va_Qv post B A1 a) (vx_X px BX AX) free) (hS : va_S A0 H0 H locs) (hA : ∀ q, q < H.size → A1 q → A0 q) (hf : ∀ q, free q → A0 q) (hAX : ∀ q, q < H.size → AX q → A0 q)
    (kx : ∀ (E : String) (ce : Cell) (q9 : Addr) (u : SX) (t : State) (H1 : Heap) (locs1 : List Loc), t.heap = H1 → s.vm.Alike t.vm → px u → BX E u t → H.size ≤ H1.size → (∀ q : Nat, q < H.size → ¬ AX q → H1[q]? = H[q]?) → va_S A0 H0 H1 locs1 → H1[q9]? = some ce → ce.vm = .none → s.vm.findClass E = some ce.cls → vx_W p l e R s m args below meth c H1 locs1 (cells + mc) (slots + ms) Q (F0 m pc ls rest) q9)
    (kk : ∀ (u : S) (t : State) (H1 : Heap) (locs1 : List Loc), t.heap = H1 → s.vm.Alike t.vm → post u → B u t → H.size ≤ H1.size → (∀ q : Nat, q < H.size → ¬ A1 q → H1[q]? = H[q]?) → va_S A0 H0 H1 locs1 → W p l e R s m args below meth c H1 locs1 (cells + mc) (slots + ms) Q (F0 m (pc + 3) ls (rest))) : W p l e R s m args below meth c H locs cells slots Q (F0 m pc ls st0) := by
  intro T hT X
  rcases hr T hT X with ⟨v, st₀, t, T', L, h0, X', hL, e1, e2, ⟨⟨u, hv, hp, hb⟩, hF⟩, st⟩ | ⟨q, st₀, t, T', L, E, ce, h0, X', hL, e1, e2, ⟨u, hp, hb, hF⟩, hce, hcv, hcl, st⟩
  · cases hv
    obtain ⟨k1, k2, k3⟩ := vx_keep h0 e1 hS hA hf hL hF
    obtain ⟨t2, a1, b1⟩ := kk u t T'.heap (locs ++ L) e1.symm (by rw [← e2]; exact X'.warmed.alike) hp hb k1 k2 k3 T' rfl X'
    exact ⟨t2, st t2 a1, b1⟩
  · obtain ⟨k1, k2, k3⟩ := vx_keep h0 e1 hS hAX hf hL hF
    obtain ⟨t2, a1, b1⟩ := kx E ce q u t T'.heap (locs ++ L) e1.symm (by rw [← e2]; exact X'.warmed.alike) hp hb k1 k2 k3 (by rw [e1]; exact hce) hcv hcl T' rfl X'
    exact ⟨t2, st.trans a1, b1⟩
/-- caught by the row x of this method's table; the rows ahead don't take it -/
theorem vx_catch {own name : String} {E : String} {ce : Cell} {q : Addr} (hown : s.vm.findClass own = some m.cls) (pre : List ExceptionTableEntry) (x : ExceptionTableEntry) (suf : List ExceptionTableEntry) (hsplit : c.exceptionTable.toList = pre ++ x :: suf)
    (hpass : ∀ z ∈ pre, covers z pc = false ∨ (z.catchType ≠ 0 ∧ ∃ nm : String, (Cond.classLink own z.catchType nm).before args s = true ∧ va_Nc E nm s)) (hx : covers x pc = true) (h0 : x.catchType ≠ 0)
    (hlink : (Cond.classLink own x.catchType name).before args s = true) (hcast : (Cond.castable E name).before args s = true) (hcell : H[q]? = some ce) (hv : ce.vm = .none) (hcl : s.vm.findClass E = some ce.cls)
    (kk : W p l e R s m args below meth c H locs cells slots Q (F0 m x.handlerPc ls [.ref q])) : vx_W p l e R s m args below meth c H locs cells slots Q (F0 m pc ls rest) q := by
  intro T hT X
  have hpl : e.platform.magicAccessors = ({} : Platform).magicAccessors := by rw [X.admits.platform]
  obtain ⟨c3, c4, hc3, hc4, hasg⟩ := Cond.castable_spec hcast
  cases Option.some.inj (hc3.symm.trans hcl)
  obtain ⟨c5, hc5, hcl5⟩ := Cond.classLink_spec hown hlink e.platform hpl
  cases Option.some.inj (hc4.symm.trans hc5)
  obtain ⟨vm', X', st⟩ := X.thenCaughtThrough q (g := F0 m pc ls rest) rfl (Steps.refl _) (by rw [hT]; exact hcell) (by rw [hv]; rfl) (by obtain ⟨k9, h9, -⟩ := Vm.findClass_spec hcl; exact ⟨k9, h9⟩) pre x suf hsplit
    (fun z hz => by
      rcases hpass z hz with h | ⟨hz0, nm, hl1, hn1⟩
      · exact Or.inl h
      · obtain ⟨c6, hc6, hcl6⟩ := Cond.classLink_spec hown hl1 e.platform hpl
        obtain ⟨a8, b8, h1, h2, h3⟩ := hn1
        cases Option.some.inj (h1.symm.trans hcl)
        cases Option.some.inj (h2.symm.trans hc6)
        exact Or.inr ⟨hz0, _, hcl6, h3⟩) hx (Or.inr ⟨h0, c4, hcl5, hasg⟩)
  obtain ⟨t, a1, b1⟩ := kk (T.setVm vm') hT X'
  exact ⟨t, st.trans a1, b1⟩
end Rows
section Ends
variable {p : Program} {l : Launch} {e : Env} {R : Room} {s : State} {m : MethodId} {args : Array Value} {below : List Frame} {meth : Method} {c : Code} {H : Heap} {locs : List Loc} {cells slots : Nat} {Q : State → Prop}
variable {mc ms : Nat} {free : Addr → Prop} {A0 A1 : Nat → Prop} {H0 : Heap} {a : Array Value} {ls : Array Slot} {st0 rest : List Value}
variable {Qc : Array Value → State → Outcome → State → Prop} {XC : String → State → State → Prop}
/-- what a body that may throw owes at its end -/
def vx_MQ (below : List Frame) (Qc : Array Value → State → Outcome → State → Prop) (XC : String → State → State → Prop) (a : Array Value) (s : State) (mc ms : Nat) (free : Addr → Prop) : State → Prop := fun t =>
  ∃ o, t.status = .running ∧ Ended t below o ∧ vx_Q Qc XC mc ms free a s o t
theorem vx_ret {g : JFrame} {mc ms : Nat} (k : W p l e R s m args below meth c H locs cells slots (MQ below Qc args s mc ms free) g) : W p l e R s m args below meth c H locs cells slots (vx_MQ below Qc XC args s mc ms free) g := by
  intro T hT X
  obtain ⟨t, a1, o, b1, b2, b3, b4⟩ := k T hT X
  exact ⟨t, a1, o, b1, b2, Or.inl ⟨b3, b4⟩⟩
/-- not caught here: it goes on to the caller -/
theorem vx_widen {g : JFrame} {q : Addr} {k n : Nat} (h1 : cells ≤ k) (h2 : slots ≤ n) (kk : vx_W p l e R s m args below meth c H locs k n Q g q) : vx_W p l e R s m args below meth c H locs cells slots Q g q := fun T hT X => kk T hT (stand_widen X h1 h2)
theorem vx_out {pc : Nat} {E : String} {ce : Cell} {q : Addr} {mc ms : Nat} (hout : ∀ x ∈ c.exceptionTable.toList, covers x pc = false) (hlocks : meth.locks = false) (hcell : H[q]? = some ce) (hv : ce.vm = .none) (hcl : s.vm.findClass E = some ce.cls)
    (hx : ∀ t : State, t.heap = H → s.vm.Alike t.vm → XC E s t) (hf : ∀ z ∈ locs, free z.base) (hc : cells ≤ mc) (hs : slots ≤ ms) :
    vx_W p l e R s m args below meth c H locs cells slots (vx_MQ below Qc XC args s mc ms free) (F0 m pc ls rest) q := by
  intro T hT X
  obtain ⟨st1, hrun, hend, hW, hsm⟩ := X.leaveThrown q (g := F0 m pc ls rest) rfl rfl rfl hout hlocks
  have hcell9 : (T.setFrames (.throwing q :: below)).heap[q]? = some ce := by
    show T.heap[q]? = some ce
    rw [hT]; exact hcell
  exact ⟨_, st1, .threw q, hrun, hend, Or.inr ⟨q, rfl, E, ce, locs, hx _ hT hW.alike, hcell9, hv, hcl, hW, hsm.mono hc hs, hf⟩⟩
theorem vx_frame {U : State} {k n : Nat} (h : s.sameButNew ({ U with vm := s.vm } : State) locs k n) : s.heap.size ≤ U.heap.size ∧ ∀ q : Nat, q < s.heap.size → (∀ z ∈ locs, z.base ≠ q) → U.heap[q]? = s.heap[q]? := by
  obtain ⟨-, h2, -, -, -, h6⟩ := h
  refine ⟨h2, fun q hq hz => ?_⟩
  obtain ⟨c9, e1, e2, e3, e4⟩ := h6 q _ (Array.getElem?_eq_getElem hq)
  have hs : c9.slots = (s.heap[q]).slots := Array.ext_getElem? fun i => e4 i fun hm => hz _ hm rfl
  have h9 : c9 = s.heap[q] := by
    rw [hs] at e2
    exact e2
  have e5 : U.heap[q]? = some c9 := e1
  rw [e5, h9, Array.getElem?_eq_getElem hq]
/-- the words of a throw but the four that speak of the heap -/
def vx_no (w : Cond) : Bool := decide (w ≠ .isRef (.static Bundle.tN "UNASSIGNED_STACK" Bundle.steD)) && decide (w ≠ .isRef (.static Bundle.tN "SUPPRESSED_SENTINEL" Bundle.listD)) && decide (w ≠ .laysStatic Bundle.tN "UNASSIGNED_STACK" Bundle.steD) && decide (w ≠ .laysStatic Bundle.tN "SUPPRESSED_SENTINEL" Bundle.listD)
def vx_at0 (own : String) (ic : Nat) (X : String) (names : List String) : List Cond := (Bundle.ownAtoms0 own ic X names).filter vx_no
def vx_atS (own : String) (ic : Nat) (X : String) (names : List String) : List Cond := (Bundle.ownAtoms own ic X names).filter vx_no
/-- a word that the tables alone decide, or a good one -/
def vx_ot (w : Cond) : Bool := w.onTables || goodWord w
theorem vx_ot_at {args a' : Array Value} {s U : State} {w : Cond} (hW : s.WarmedH U.vm) (hvm : s.vm = U.vm) (hg : vx_ot w = true) (h : w.before args s = true) : w.before a' U = true := by
  simp only [vx_ot, Bool.or_eq_true] at hg
  rcases hg with hg | hg
  · exact va_tabs hg hvm h
  · exact word_at hW (good_of_word hg) h
/-- a list's words: the good ones out of the method's own list, the others by premises of their own -/
theorem vx_hat {args : Array Value} {s : State} {L B : List Cond} (h1 : ∀ w ∈ L.filter goodWord, w.before args s = true) (h2 : ∀ w ∈ L.filter (fun w => !goodWord w), w ∈ B) (h3 : ∀ w ∈ B, w.before args s = true) : ∀ w ∈ L, w.before args s = true := by
  intro w hw
  by_cases g : goodWord w = true
  · exact h1 w (List.mem_filter.mpr ⟨hw, g⟩)
  · refine h3 w (h2 w (List.mem_filter.mpr ⟨hw, ?_⟩))
    show (!goodWord w) = true
    cases hgw : goodWord w
    · rfl
    · exact absurd hgw g
theorem vx_c {args : Array Value} {s : State} {w : Cond} {B : List Cond} (h : w.before args s = true) (t : ∀ w ∈ B, w.before args s = true) : ∀ w' ∈ w :: B, w'.before args s = true := fun w' h' => (List.mem_cons.mp h').elim (fun e => by rw [e]; exact h) (t w')
theorem vx_n {args : Array Value} {s : State} : ∀ w ∈ ([] : List Cond), w.before args s = true := fun _ h => nomatch h
theorem vx_own {args : Array Value} {s : State} {L : List Cond} (h1 : ∀ w ∈ L.filter vx_no, w.before args s = true)
    (hU : (Cond.isRef (.static Bundle.tN "UNASSIGNED_STACK" Bundle.steD)).before args s = true) (hN : (Cond.isRef (.static Bundle.tN "SUPPRESSED_SENTINEL" Bundle.listD)).before args s = true)
    (lU : (Cond.laysStatic Bundle.tN "UNASSIGNED_STACK" Bundle.steD).before args s = true) (lN : (Cond.laysStatic Bundle.tN "SUPPRESSED_SENTINEL" Bundle.listD).before args s = true) : ∀ w ∈ L, w.before args s = true := by
  intro w hw
  by_cases e1 : w = .isRef (.static Bundle.tN "UNASSIGNED_STACK" Bundle.steD)
  · rw [e1]; exact hU
  · by_cases e2 : w = .isRef (.static Bundle.tN "SUPPRESSED_SENTINEL" Bundle.listD)
    · rw [e2]; exact hN
    · by_cases e3 : w = .laysStatic Bundle.tN "UNASSIGNED_STACK" Bundle.steD
      · rw [e3]; exact lU
      · by_cases e4 : w = .laysStatic Bundle.tN "SUPPRESSED_SENTINEL" Bundle.listD
        · rw [e4]; exact lN
        · exact h1 w (List.mem_filter.mpr ⟨hw, by unfold vx_no; rw [decide_eq_true e1, decide_eq_true e2, decide_eq_true e3, decide_eq_true e4]; rfl⟩)
/-- where a static field lies, its class's statics cell in H -/
def vx_L (C n d : String) (A : Nat → Prop) (U : State) (H : Heap) : Prop := ∃ (c : ClassId) (k : Class) (i : Nat) (f : Field) (a : Nat) (cell : Cell), U.vm.findClass C = some c ∧ U.fieldFound? C n d = some (c, k, i, f) ∧ f.isStatic = true ∧ k.statics = some a ∧ H[a]? = some cell ∧ cell.vm.isStatics = true ∧ cell.cls = c ∧ f.slot < cell.slots.size ∧ k.staticTypes[f.slot]? = some f.type ∧ ¬ A a
theorem vx_L.moved {C n d : String} {A : Nat → Prop} {u U : State} {H : Heap} (hvm : u.vm.Alike U.vm) (h : vx_L C n d A u H) : vx_L C n d A U H := by
  obtain ⟨c, k, i, f, a, cell, h1, h2, h3, h4, h5, h6, h7, h8, h9, h10⟩ := h
  obtain ⟨k', hi', he⟩ := State.fieldFound?_setVm hvm h2
  exact ⟨c, k', i, f, a, cell, by rw [hvm.findClass]; exact h1, hi', h3, by rw [he]; exact h4, h5, h6, h7, h8, by rw [he]; exact h9, h10⟩
theorem vx_L.kept {C n d : String} {A : Nat → Prop} {U : State} {H H1 : Heap} (h : vx_L C n d A U H) (hq : ∀ a : Nat, a < H.size → ¬ A a → H1[a]? = H[a]?) : vx_L C n d A U H1 := by
  obtain ⟨c, k, i, f, a, cell, h1, h2, h3, h4, h5, h6, h7, h8, h9, h10⟩ := h
  exact ⟨c, k, i, f, a, cell, h1, h2, h3, h4, by rw [hq a (Array.getElem?_eq_some_iff.mp h5).1 h10]; exact h5, h6, h7, h8, h9, h10⟩
theorem vx_L.narrow {C n d : String} {A B : Nat → Prop} {U : State} {H : Heap} (h : vx_L C n d A U H) (hAB : ∀ q, B q → A q) : vx_L C n d B U H := by
  obtain ⟨c, k, i, f, a, cell, h1, h2, h3, h4, h5, h6, h7, h8, h9, h10⟩ := h
  exact ⟨c, k, i, f, a, cell, h1, h2, h3, h4, h5, h6, h7, h8, h9, fun z => h10 (hAB _ z)⟩
theorem vx_L.word {C n d : String} {A : Nat → Prop} {s : State} {args : Array Value} (h : vx_L C n d A s s.heap) : (Cond.laysStatic C n d).before args s = true := by
  obtain ⟨c, k, i, f, a, cell, h1, h2, h3, h4, h5, h6, h7, h8, h9, -⟩ := h
  show (Cond.laysStatic C n d).holds args s none s [] = true
  exact Cond.laysStatic_of h1 h2 h3 h4 h5 h6 h7 h8 h9
/-- .. and what it holds: null or some reference -/
def vx_Zq (C n d : String) (A : Nat → Prop) (U : State) (H : Heap) : Prop := va_Zq C n d A U H ∧ vx_L C n d A U H
theorem vx_Zq.moved {C n d : String} {A : Nat → Prop} {u U : State} {H : Heap} (hvm : u.vm.Alike U.vm) (h : vx_Zq C n d A u H) : vx_Zq C n d A U H := ⟨va_Zq.moved hvm h.1, vx_L.moved hvm h.2⟩
theorem vx_Zq.kept {C n d : String} {A : Nat → Prop} {U : State} {H H1 : Heap} (h : vx_Zq C n d A U H) (hq : ∀ a : Nat, a < H.size → ¬ A a → H1[a]? = H[a]?) : vx_Zq C n d A U H1 := ⟨va_Zq.kept h.1 hq, vx_L.kept h.2 hq⟩
theorem vx_Zq.narrow {C n d : String} {A B : Nat → Prop} {U : State} {H : Heap} (h : vx_Zq C n d A U H) (hAB : ∀ q, B q → A q) : vx_Zq C n d B U H := ⟨va_Zq.narrow h.1 hAB, vx_L.narrow h.2 hAB⟩
theorem vx_Zqof {args : Array Value} {s : State} {C n d : String} {A : Nat → Prop} (hl : (Cond.laysStatic C n d).before args s = true) (hini : (Cond.initialized C).before args s = true) (h : (Cond.isRef (.static C n d)).before args s = true) (hA : ∀ a : Nat, a < s.heap.size → ¬ A a) : vx_Zq C n d A s s.heap := by
  refine ⟨va_Zqof hl hini h hA, ?_⟩
  obtain ⟨c, k, i, f, a, cell, h1, h2, h3, h4, h5, h6, h7, h8, h9⟩ := Cond.laysStatic_spec hl
  exact ⟨c, k, i, f, a, cell, h1, h2, h3, h4, h5, h6, h7, h8, h9, hA a (Array.getElem?_eq_some_iff.mp h5).1⟩
theorem vx_isRef {C n d : String} {v : Value} {A : Nat → Prop} {s : State} {args : Array Value} (h : va_Z C n d v A s s.heap) (hv : v.isRef = true) : (Cond.isRef (.static C n d)).before args s = true := by
  obtain ⟨cf, kf, fi, f, a, cell, h1, h2, h3, h4, h5, h6, h7, -⟩ := h
  have he : (Term.static C n d).eval args s none [] s = some v := by
    simp [Term.eval, State.fieldNamed?, h1, h2, h4, h5, h6, h7]
  simp only [Cond.before, Cond.holds, Cond.value, he]
  cases v <;> simp_all [Value.isRef]
theorem vx_isRefq {C n d : String} {A : Nat → Prop} {s : State} {args : Array Value} (h : va_Zq C n d A s s.heap) : (Cond.isRef (.static C n d)).before args s = true := by
  rcases h with h | ⟨t, h⟩
  · exact vx_isRef h rfl
  · exact vx_isRef h rfl
/-- the same frame, seen from here: as if the method were called anew in this heap -/
theorem vx_rebase {T : State} (X : Stand p l e R s m args below meth c T locs cells slots) {R' : Room} (hf : R'.frames ≤ R.frames) (hl : R'.locals ≤ R.locals) (hc : cells + R'.cells ≤ R.cells) (hs : slots + R'.slots ≤ R.slots) :
    Stand p l e R' ((T.setVm s.vm).setFrames (.invoking m args :: below)) m args below meth c T [] 0 0 := by
  have htop : (T.setVm s.vm).topJava?.isSome := X.here.top
  have hF : ((T.setVm s.vm).setFrames (.invoking m args :: below)).frames = .invoking m args :: below := State.frames_setFrames _ (State.cur_lt_of_top htop)
  obtain ⟨g₀, hg0⟩ := Option.isSome_iff_exists.mp htop
  obtain ⟨r, hr⟩ := State.topJava?_eq_some.mp hg0
  have hl9 : e.platform.stackLimits (T.setVm s.vm).me = e.platform.stackLimits s.me := X.limits
  have hb9 : (T.setVm s.vm).me.stackBytes = s.me.stackBytes := X.bytes
  refine ⟨X.admits, X.cas, X.clock, hF, ?_, X.hears, X.method, X.code, X.here, X.tail, X.warmed, ?_, ?_, ?_⟩
  · have h := X.room
    have hU : ((T.setVm s.vm).setFrames (.invoking m args :: below)).localsInUse = s.localsInUse := by
      rw [State.localsInUse_invoking hF (meth := meth) (c := c) X.method X.code, State.localsInUse_invoking X.frames X.method X.code]
    simp only [State.hasRoom, Bool.and_eq_true, decide_eq_true_eq] at h ⊢
    obtain ⟨⟨⟨⟨h1, h2, h3, h4, h5, h6⟩, h7⟩, h8⟩, h9⟩ := h
    rw [X.frames, List.length_cons] at h2 h3
    have q1 := X.heapSize
    have q2 := X.used
    simp only [hF, hU, List.length_cons, State.stackLimits_setFrames, State.stackBytes_setFrames, hl9, hb9]
    refine ⟨⟨⟨⟨by omega, by omega, by omega, by omega, by omega, h6⟩, ?_⟩, ?_⟩, X.book⟩
    · show T.heap.size + R'.cells ≤ e.platform.maxCells
      omega
    · show T.slotsUsed + R'.slots ≤ e.platform.maxSlots
      omega
  · rw [State.stackLimits_setFrames]; rfl
  · rw [State.stackBytes_setFrames]; rfl
  · refine ⟨?_, Nat.le_refl _, Nat.le_refl _, ?_, ?_, fun a c9 h9 => ⟨c9, h9, rfl, rfl, fun _ _ => rfl⟩⟩
    · obtain ⟨t, ht, -⟩ := State.frames_cons hr
      show T.setVm s.vm = { ((T.setVm s.vm).setFrames (.invoking m args :: below)).setFrames (T.setVm s.vm).frames with heap := T.heap, slotsUsed := T.slotsUsed }
      rw [State.setFrames_setFrames, State.setFrames_self ht]
      rfl
    · show T.slotsUsed = T.slotsUsed + ((T.heap.toList.drop T.heap.size).map (·.slots.size)).sum
      rw [List.drop_eq_nil_of_le (Nat.le_of_eq Array.length_toList)]
      rfl
    · show ((T.heap.toList.drop T.heap.size).map (·.slots.size)).sum ≤ 0
      rw [List.drop_eq_nil_of_le (Nat.le_of_eq Array.length_toList)]
      exact Nat.le_refl _
/-- 'throw new E()': new; dup; invokespecial; athrow -/
theorem vx_throw0 {cc : ByteArray} {pc : Nat} (hexec : p.tables.exec = Jvm.exec) (hb : c.code = cc) (hl : l.stackTraces = false) {own cls : String} {names : List String} {ik ic mc ms : Nat} {A : Nat → Prop}
    (hown : s.vm.findClass own = some m.cls) (hcls : Bundle.fit cls = true) (hnames : ∀ n ∈ names, Bundle.fit n = true)
    (hk : (Cond.classLink own ik cls).before args s = true) (hini : (Cond.initialized cls).before args s = true) (hat : ∀ w ∈ vx_at0 own ic cls names, w.before args s = true)
    (hgood : ∀ w ∈ Cond.classLink own ik cls :: Cond.initialized cls :: vx_at0 own ic cls names, vx_ot w = true)
    (hU : vx_Zq Bundle.tN "UNASSIGNED_STACK" Bundle.steD A s s.heap) (hN : vx_Zq Bundle.tN "SUPPRESSED_SENTINEL" Bundle.listD A s s.heap) (hS : va_S A s.heap H locs) (hsize : ls.size = c.maxLocals)
    (d0 : decode cc pc = .ok (.new ik, 3)) (d3 : decode cc (pc + 3) = .ok (.dup, 1)) (d4 : decode cc (pc + 4) = .ok (.invokespecial ic, 3)) (d7 : decode cc (pc + 7) = .ok (.athrow, 1))
    (hout : ∀ x ∈ c.exceptionTable.toList, covers x (pc + 7) = false)
    (hRframes : names.length + 3 < R.frames) (hRlocals : (rest.map fun v => v.category).sum + (13 * (names.length + 1) + 42) ≤ R.locals) (hRcells : cells + 1 ≤ R.cells) (hRslots : slots + 6 ≤ R.slots) (hlocks : meth.locks = false)
    (hx : ∀ t : State, s.vm.Alike t.vm → H.size ≤ t.heap.size → (∀ q : Nat, q < H.size → t.heap[q]? = H[q]?) → XC cls s t)
    (hf : ∀ z ∈ locs, free z.base) (hc : cells + 1 ≤ mc) (hs : slots + 6 ≤ ms) :
    W p l e R s m args below meth c H locs cells slots (vx_MQ below Qc XC args s mc ms free) (F0 m pc ls rest) := by
  intro T hT X
  have htr : e.platform.stackTraces = false := (show e.platform.stackTraces = l.stackTraces by rw [X.admits.platform]).trans hl
  have Y := vx_rebase X (R' := { frames := R.frames, locals := R.locals, cells := 1, slots := 6 }) (Nat.le_refl _) (Nat.le_refl _) hRcells hRslots
  obtain ⟨s', hA⟩ : ∃ z, z = (T.setVm s.vm).setFrames (.invoking m args :: below) := ⟨_, rfl⟩
  rw [← hA] at Y
  have hvm : s'.vm = s.vm := by rw [hA]; rfl
  have hhp : s'.heap = H := by rw [hA]; exact hT
  have hW0 : s.WarmedH s'.vm := by rw [hvm]; exact State.WarmedH.refl s
  have hat' : ∀ w ∈ vx_at0 own ic cls names, w.before args s' = true := fun w hw => vx_ot_at hW0 hvm.symm (hgood w (List.mem_cons_of_mem _ (List.mem_cons_of_mem _ hw))) (hat w hw)
  have hk' : (Cond.classLink own ik cls).before args s' = true := vx_ot_at hW0 hvm.symm (hgood _ List.mem_cons_self) hk
  have hini' : (Cond.initialized cls).before args s' = true := vx_ot_at hW0 hvm.symm (hgood _ (List.mem_cons_of_mem _ List.mem_cons_self)) hini
  have hU' : vx_Zq Bundle.tN "UNASSIGNED_STACK" Bundle.steD A s' s'.heap := by rw [hhp]; exact vx_Zq.moved hW0.alike (hU.kept hS.2.1)
  have hN' : vx_Zq Bundle.tN "SUPPRESSED_SENTINEL" Bundle.listD A s' s'.heap := by rw [hhp]; exact vx_Zq.moved hW0.alike (hN.kept hS.2.1)
  have h : ∀ w ∈ Bundle.ownAtoms0 own ic cls names, w.before args s' = true := vx_own hat' (vx_isRefq hU'.1) (vx_isRefq hN'.1) hU'.2.word hN'.2.word
  have hown' : s'.vm.findClass own = some m.cls := by rw [hvm]; exact hown
  have hins : (Cond.instantiable cls 6).before args s' = true := h _ (by simp [Bundle.ownAtoms0])
  obtain ⟨vm₁, cX, kX, hfX, hkX, -, -, X₁, st1⟩ := Y.newCold hexec (own := own) (C := cls) (index := ik) (n := 6) hown' hk' hins hini'
    (g := F0 m pc ls rest) rfl (by rw [hb]; exact d0) (Nat.le_refl _) (Nat.le_refl _)
  generalize hT1 : (T.setVm vm₁).pushCell { cls := cX, slots := kX.instanceTypes.map defaultValue, vm := .none } = T1 at X₁ st1
  have hcat : (Value.ref T.heap.size).category = 1 := rfl
  have hcellA : T1.heap[T.heap.size]? = some (freshCell cX kX) := by rw [← hT1]; exact State.heap_pushCell_size _ _
  have d3' : decode c.code (pc + 3) = .ok (.dup, 1) := by rw [hb]; exact d3
  obtain ⟨U, hsteps, hrun, hend, hW, hsame, ce, hce, hO⟩ := X₁.ctorThrow0 hexec htr (own := own) (cls := cls) (names := names) (ic := ic) hown' hcls hnames h (fun x hx => nomatch hx) hfX hkX hcellA (by rw [hhp, hT]; exact Nat.le_refl _)
    (g := { method := m, pc := pc + 4, locals := ls, stack := .ref T.heap.size :: .ref T.heap.size :: rest, locked := none }) rfl hsize rfl rfl (rest := rest) rfl
    (by rw [hb]; exact d4) (by rw [hb]; exact d7) hout hRframes (by simp only [List.map_cons, List.sum_cons, hcat]; omega) hlocks
  obtain ⟨f1, f2⟩ := vx_frame hsame
  rw [hhp] at f1 f2
  have hWs : s.WarmedH U.vm := State.WarmedH.trans hW0 hW
  have hcl : s.vm.findClass cls = some ce.cls := by
    have h9 := hO.cls
    rw [hvm] at h9
    exact h9
  have hall : s.sameButNew ({ U with vm := s.vm } : State) locs mc ms := by
    subst hA
    obtain ⟨e1, e2⟩ := hsame
    rw [State.setFrames_setFrames] at e1
    have h2 : (T.setVm s.vm).sameButNew ({ U with vm := s.vm } : State) [] (0 + 1) (0 + 6) := ⟨e1, e2⟩
    have h3 := X.same.trans h2
    rw [List.append_nil] at h3
    exact h3.mono hc hs
  refine ⟨U, ?_, .threw T.heap.size, hrun, hend, Or.inr ⟨T.heap.size, rfl, cls, ce, locs, hx U hWs.alike f1 (fun q hq => f2 q hq (fun z hz => nomatch hz)), hce, hO.vm, hcl, hWs, hall, hf⟩⟩
  refine st1 _ ?_
  show Steps p.tables e below (T1.setTop { method := m, pc := pc + 3, locals := ls, stack := .ref T.heap.size :: rest, locked := none }) _
  jvm_step X₁.here [X₁.here.top, hexec, d3', Value.category]
  exact hsteps
/-- 'throw new E("text")': new; dup; ldc; invokespecial; athrow -/
theorem vx_throwS {cc : ByteArray} {pc : Nat} (hexec : p.tables.exec = Jvm.exec) (hb : c.code = cc) (hl : l.stackTraces = false) {own cls text : String} {names : List String} {ik is ic mc ms sa : Nat} {A : Nat → Prop}
    (hown : s.vm.findClass own = some m.cls) (hcls : Bundle.fit cls = true) (hnames : ∀ n ∈ names, Bundle.fit n = true)
    (hk : (Cond.classLink own ik cls).before args s = true) (hini : (Cond.initialized cls).before args s = true) (hstr : vk_R own is text sa s) (hat : ∀ w ∈ vx_atS own ic cls names, w.before args s = true)
    (hgood : ∀ w ∈ Cond.classLink own ik cls :: Cond.initialized cls :: vx_atS own ic cls names, vx_ot w = true)
    (hU : vx_Zq Bundle.tN "UNASSIGNED_STACK" Bundle.steD A s s.heap) (hN : vx_Zq Bundle.tN "SUPPRESSED_SENTINEL" Bundle.listD A s s.heap) (hS : va_S A s.heap H locs) (hsize : ls.size = c.maxLocals)
    (d0 : decode cc pc = .ok (.new ik, 3)) (d3 : decode cc (pc + 3) = .ok (.dup, 1)) (d4 : decode cc (pc + 4) = .ok (.ldc is, 2)) (d6 : decode cc (pc + 6) = .ok (.invokespecial ic, 3)) (d9 : decode cc (pc + 9) = .ok (.athrow, 1))
    (hout : ∀ x ∈ c.exceptionTable.toList, covers x (pc + 9) = false)
    (hRframes : names.length + 3 < R.frames) (hRlocals : (rest.map fun v => v.category).sum + (13 * (names.length + 1) + 43) ≤ R.locals) (hRcells : cells + 1 ≤ R.cells) (hRslots : slots + 6 ≤ R.slots) (hlocks : meth.locks = false)
    (hx : ∀ t : State, s.vm.Alike t.vm → H.size ≤ t.heap.size → (∀ q : Nat, q < H.size → t.heap[q]? = H[q]?) → XC cls s t)
    (hf : ∀ z ∈ locs, free z.base) (hc : cells + 1 ≤ mc) (hs : slots + 6 ≤ ms) :
    W p l e R s m args below meth c H locs cells slots (vx_MQ below Qc XC args s mc ms free) (F0 m pc ls rest) := by
  intro T hT X
  have htr : e.platform.stackTraces = false := (show e.platform.stackTraces = l.stackTraces by rw [X.admits.platform]).trans hl
  have Y := vx_rebase X (R' := { frames := R.frames, locals := R.locals, cells := 1, slots := 6 }) (Nat.le_refl _) (Nat.le_refl _) hRcells hRslots
  obtain ⟨s', hA⟩ : ∃ z, z = (T.setVm s.vm).setFrames (.invoking m args :: below) := ⟨_, rfl⟩
  rw [← hA] at Y
  have hvm : s'.vm = s.vm := by rw [hA]; rfl
  have hhp : s'.heap = H := by rw [hA]; exact hT
  have hW0 : s.WarmedH s'.vm := by rw [hvm]; exact State.WarmedH.refl s
  have hat' : ∀ w ∈ vx_atS own ic cls names, w.before args s' = true := fun w hw => vx_ot_at hW0 hvm.symm (hgood w (List.mem_cons_of_mem _ (List.mem_cons_of_mem _ hw))) (hat w hw)
  have hk' : (Cond.classLink own ik cls).before args s' = true := vx_ot_at hW0 hvm.symm (hgood _ List.mem_cons_self) hk
  have hini' : (Cond.initialized cls).before args s' = true := vx_ot_at hW0 hvm.symm (hgood _ (List.mem_cons_of_mem _ List.mem_cons_self)) hini
  have hU' : vx_Zq Bundle.tN "UNASSIGNED_STACK" Bundle.steD A s' s'.heap := by rw [hhp]; exact vx_Zq.moved hW0.alike (hU.kept hS.2.1)
  have hN' : vx_Zq Bundle.tN "SUPPRESSED_SENTINEL" Bundle.listD A s' s'.heap := by rw [hhp]; exact vx_Zq.moved hW0.alike (hN.kept hS.2.1)
  have h : ∀ w ∈ Bundle.ownAtoms own ic cls names, w.before args s' = true := vx_own hat' (vx_isRefq hU'.1) (vx_isRefq hN'.1) hU'.2.word hN'.2.word
  have hown' : s'.vm.findClass own = some m.cls := by rw [hvm]; exact hown
  have hins : (Cond.instantiable cls 6).before args s' = true := h _ (by simp [Bundle.ownAtoms])
  obtain ⟨vm₁, cX, kX, hfX, hkX, -, -, X₁, st1⟩ := Y.newCold hexec (own := own) (C := cls) (index := ik) (n := 6) hown' hk' hins hini'
    (g := F0 m pc ls rest) rfl (by rw [hb]; exact d0) (Nat.le_refl _) (Nat.le_refl _)
  generalize hT1 : (T.setVm vm₁).pushCell { cls := cX, slots := kX.instanceTypes.map defaultValue, vm := .none } = T1 at X₁ st1
  have hcat : (Value.ref T.heap.size).category = 1 := rfl
  have hcellA : T1.heap[T.heap.size]? = some (freshCell cX kX) := by rw [← hT1]; exact State.heap_pushCell_size _ _
  have d3' : decode c.code (pc + 3) = .ok (.dup, 1) := by rw [hb]; exact d3
  have d4' : decode c.code (pc + 4) = .ok (.ldc is, 2) := by rw [hb]; exact d4
  have hstr' : vk_R own is text sa s' := vk_R.warm hW0 hstr
  obtain ⟨U, hsteps, hrun, hend, hW, hsame, ce, hce, hO⟩ := X₁.ctorThrowS hexec htr (own := own) (cls := cls) (names := names) (ic := ic) hown' hcls hnames h (fun x hx => nomatch hx) hfX hkX hcellA (by rw [hhp, hT]; exact Nat.le_refl _) (msg := .ref sa) rfl
    (g := { method := m, pc := pc + 6, locals := ls, stack := .ref sa :: .ref T.heap.size :: .ref T.heap.size :: rest, locked := none }) rfl hsize rfl rfl (rest := rest) rfl
    (by rw [hb]; exact d6) (by rw [hb]; exact d9) hout hRframes (by simp only [List.map_cons, List.sum_cons, hcat]; omega) hlocks
  obtain ⟨f1, f2⟩ := vx_frame hsame
  rw [hhp] at f1 f2
  have hWs : s.WarmedH U.vm := State.WarmedH.trans hW0 hW
  have hcl : s.vm.findClass cls = some ce.cls := by
    have h9 := hO.cls
    rw [hvm] at h9
    exact h9
  have hall : s.sameButNew ({ U with vm := s.vm } : State) locs mc ms := by
    subst hA
    obtain ⟨e1, e2⟩ := hsame
    rw [State.setFrames_setFrames] at e1
    have h2 : (T.setVm s.vm).sameButNew ({ U with vm := s.vm } : State) [] (0 + 1) (0 + 6) := ⟨e1, e2⟩
    have h3 := X.same.trans h2
    rw [List.append_nil] at h3
    exact h3.mono hc hs
  refine ⟨U, ?_, .threw T.heap.size, hrun, hend, Or.inr ⟨T.heap.size, rfl, cls, ce, locs, hx U hWs.alike f1 (fun q hq => f2 q hq (fun z hz => nomatch hz)), hce, hO.vm, hcl, hWs, hall, hf⟩⟩
  refine st1 _ ?_
  show Steps p.tables e below (T1.setTop { method := m, pc := pc + 3, locals := ls, stack := .ref T.heap.size :: rest, locked := none }) _
  jvm_step X₁.here [X₁.here.top, hexec, d3', Value.category]
  exact X₁.ldcString hexec (own := own) (text := text) (index := is) (a := sa) hown' hstr'.1 hstr'.2
    (g := { method := m, pc := pc + 4, locals := ls, stack := .ref T.heap.size :: .ref T.heap.size :: rest, locked := none }) rfl d4' _ hsteps
/-- 'throw new E("text")', the text by a wide index -/
theorem vx_throwSW {cc : ByteArray} {pc : Nat} (hexec : p.tables.exec = Jvm.exec) (hb : c.code = cc) (hl : l.stackTraces = false) {own cls text : String} {names : List String} {ik is ic mc ms sa : Nat} {A : Nat → Prop}
    (hown : s.vm.findClass own = some m.cls) (hcls : Bundle.fit cls = true) (hnames : ∀ n ∈ names, Bundle.fit n = true)
    (hk : (Cond.classLink own ik cls).before args s = true) (hini : (Cond.initialized cls).before args s = true) (hstr : vk_R own is text sa s) (hat : ∀ w ∈ vx_atS own ic cls names, w.before args s = true)
    (hgood : ∀ w ∈ Cond.classLink own ik cls :: Cond.initialized cls :: vx_atS own ic cls names, vx_ot w = true)
    (hU : vx_Zq Bundle.tN "UNASSIGNED_STACK" Bundle.steD A s s.heap) (hN : vx_Zq Bundle.tN "SUPPRESSED_SENTINEL" Bundle.listD A s s.heap) (hS : va_S A s.heap H locs) (hsize : ls.size = c.maxLocals)
    (d0 : decode cc pc = .ok (.new ik, 3)) (d3 : decode cc (pc + 3) = .ok (.dup, 1)) (d4 : decode cc (pc + 4) = .ok (.ldc_w is, 3)) (d7 : decode cc (pc + 7) = .ok (.invokespecial ic, 3)) (d10 : decode cc (pc + 10) = .ok (.athrow, 1))
    (hout : ∀ x ∈ c.exceptionTable.toList, covers x (pc + 10) = false)
    (hRframes : names.length + 3 < R.frames) (hRlocals : (rest.map fun v => v.category).sum + (13 * (names.length + 1) + 43) ≤ R.locals) (hRcells : cells + 1 ≤ R.cells) (hRslots : slots + 6 ≤ R.slots) (hlocks : meth.locks = false)
    (hx : ∀ t : State, s.vm.Alike t.vm → H.size ≤ t.heap.size → (∀ q : Nat, q < H.size → t.heap[q]? = H[q]?) → XC cls s t)
    (hf : ∀ z ∈ locs, free z.base) (hc : cells + 1 ≤ mc) (hs : slots + 6 ≤ ms) :
    W p l e R s m args below meth c H locs cells slots (vx_MQ below Qc XC args s mc ms free) (F0 m pc ls rest) := by
  intro T hT X
  have htr : e.platform.stackTraces = false := (show e.platform.stackTraces = l.stackTraces by rw [X.admits.platform]).trans hl
  have Y := vx_rebase X (R' := { frames := R.frames, locals := R.locals, cells := 1, slots := 6 }) (Nat.le_refl _) (Nat.le_refl _) hRcells hRslots
  obtain ⟨s', hA⟩ : ∃ z, z = (T.setVm s.vm).setFrames (.invoking m args :: below) := ⟨_, rfl⟩
  rw [← hA] at Y
  have hvm : s'.vm = s.vm := by rw [hA]; rfl
  have hhp : s'.heap = H := by rw [hA]; exact hT
  have hW0 : s.WarmedH s'.vm := by rw [hvm]; exact State.WarmedH.refl s
  have hat' : ∀ w ∈ vx_atS own ic cls names, w.before args s' = true := fun w hw => vx_ot_at hW0 hvm.symm (hgood w (List.mem_cons_of_mem _ (List.mem_cons_of_mem _ hw))) (hat w hw)
  have hk' : (Cond.classLink own ik cls).before args s' = true := vx_ot_at hW0 hvm.symm (hgood _ List.mem_cons_self) hk
  have hini' : (Cond.initialized cls).before args s' = true := vx_ot_at hW0 hvm.symm (hgood _ (List.mem_cons_of_mem _ List.mem_cons_self)) hini
  have hU' : vx_Zq Bundle.tN "UNASSIGNED_STACK" Bundle.steD A s' s'.heap := by rw [hhp]; exact vx_Zq.moved hW0.alike (hU.kept hS.2.1)
  have hN' : vx_Zq Bundle.tN "SUPPRESSED_SENTINEL" Bundle.listD A s' s'.heap := by rw [hhp]; exact vx_Zq.moved hW0.alike (hN.kept hS.2.1)
  have h : ∀ w ∈ Bundle.ownAtoms own ic cls names, w.before args s' = true := vx_own hat' (vx_isRefq hU'.1) (vx_isRefq hN'.1) hU'.2.word hN'.2.word
  have hown' : s'.vm.findClass own = some m.cls := by rw [hvm]; exact hown
  have hins : (Cond.instantiable cls 6).before args s' = true := h _ (by simp [Bundle.ownAtoms])
  obtain ⟨vm₁, cX, kX, hfX, hkX, -, -, X₁, st1⟩ := Y.newCold hexec (own := own) (C := cls) (index := ik) (n := 6) hown' hk' hins hini'
    (g := F0 m pc ls rest) rfl (by rw [hb]; exact d0) (Nat.le_refl _) (Nat.le_refl _)
  generalize hT1 : (T.setVm vm₁).pushCell { cls := cX, slots := kX.instanceTypes.map defaultValue, vm := .none } = T1 at X₁ st1
  have hcat : (Value.ref T.heap.size).category = 1 := rfl
  have hcellA : T1.heap[T.heap.size]? = some (freshCell cX kX) := by rw [← hT1]; exact State.heap_pushCell_size _ _
  have d3' : decode c.code (pc + 3) = .ok (.dup, 1) := by rw [hb]; exact d3
  have d4' : decode c.code (pc + 4) = .ok (.ldc_w is, 3) := by rw [hb]; exact d4
  have hstr' : vk_R own is text sa s' := vk_R.warm hW0 hstr
  obtain ⟨U, hsteps, hrun, hend, hW, hsame, ce, hce, hO⟩ := X₁.ctorThrowS hexec htr (own := own) (cls := cls) (names := names) (ic := ic) hown' hcls hnames h (fun x hx => nomatch hx) hfX hkX hcellA (by rw [hhp, hT]; exact Nat.le_refl _) (msg := .ref sa) rfl
    (g := { method := m, pc := pc + 7, locals := ls, stack := .ref sa :: .ref T.heap.size :: .ref T.heap.size :: rest, locked := none }) rfl hsize rfl rfl (rest := rest) rfl
    (by rw [hb]; exact d7) (by rw [hb]; exact d10) hout hRframes (by simp only [List.map_cons, List.sum_cons, hcat]; omega) hlocks
  obtain ⟨f1, f2⟩ := vx_frame hsame
  rw [hhp] at f1 f2
  have hWs : s.WarmedH U.vm := State.WarmedH.trans hW0 hW
  have hcl : s.vm.findClass cls = some ce.cls := by
    have h9 := hO.cls
    rw [hvm] at h9
    exact h9
  have hall : s.sameButNew ({ U with vm := s.vm } : State) locs mc ms := by
    subst hA
    obtain ⟨e1, e2⟩ := hsame
    rw [State.setFrames_setFrames] at e1
    have h2 : (T.setVm s.vm).sameButNew ({ U with vm := s.vm } : State) [] (0 + 1) (0 + 6) := ⟨e1, e2⟩
    have h3 := X.same.trans h2
    rw [List.append_nil] at h3
    exact h3.mono hc hs
  refine ⟨U, ?_, .threw T.heap.size, hrun, hend, Or.inr ⟨T.heap.size, rfl, cls, ce, locs, hx U hWs.alike f1 (fun q hq => f2 q hq (fun z hz => nomatch hz)), hce, hO.vm, hcl, hWs, hall, hf⟩⟩
  refine st1 _ ?_
  show Steps p.tables e below (T1.setTop { method := m, pc := pc + 3, locals := ls, stack := .ref T.heap.size :: rest, locked := none }) _
  jvm_step X₁.here [X₁.here.top, hexec, d3', Value.category]
  exact X₁.ldcStringW hexec (own := own) (text := text) (index := is) (a := sa) hown' hstr'.1 hstr'.2
    (g := { method := m, pc := pc + 4, locals := ls, stack := .ref T.heap.size :: .ref T.heap.size :: rest, locked := none }) rfl d4' _ hsteps
end Ends
section Bodies
variable {l : Launch}
theorem vx_ofW {y : MethodName} {ws ws' : List Cond} {rm : Room} {Pc : Array Value → State → Prop} {Qc : Array Value → State → Outcome → State → Prop} {XC : String → State → State → Prop} {mc ms : Nat} {free : Addr → Prop} {cc : ByteArray} {maxL : Nat} {ret : Option FieldType}
    (hy : plainName y.cls = true) (hw : ws = Cond.code y cc maxL ret :: ws')
    (body : ∀ p e s m args below meth c s₁, BodyLoose p l y (headSpec ws rm) cc maxL ret e s m args below meth c s₁ → c.maxLocals = maxL → (∀ x ∈ c.exceptionTable.toList, False) → Pc args s →
      W p l e (headSpec ws rm).room s m args below meth c s.heap [] 0 0 (vx_MQ below Qc XC args s mc ms free) (entryFrame m args maxL)) : vx_Met l y ws rm Pc Qc XC mc ms free := by
  refine MetFree.of_bodyS (code := cc) (maxLocals := maxL) (ret := ret) hy ?_ ?_
  · intro args s m h hn
    obtain ⟨meth, c, h1, h2, h3, h4, h5, h6, -, -⟩ := Cond.code_spec hn (atoms_spec (ws := ws) h _ (by rw [hw]; exact List.mem_cons_self))
    exact ⟨meth, c, h1, h2, h3, h4, h5, h6⟩
  · intro p e s m args below meth c s₁ B hml hP _
    have hh0 : s₁.heap = s.heap := by rw [B.state]; rfl
    have ht : ∀ x ∈ c.exceptionTable.toList, False := by
      obtain ⟨meth9, c9, h1, h2, -, -, -, -, h7, -⟩ := Cond.code_spec B.named (atoms_spec (ws := ws) B.pre _ (by rw [hw]; exact List.mem_cons_self))
      cases Option.some.inj (h1.symm.trans B.method)
      cases Option.some.inj (h2.symm.trans (Stand.of_body B).code)
      intro x hx
      rw [Array.isEmpty_iff.mp h7] at hx
      cases hx
    obtain ⟨t, a1, o, b1, b2, b3⟩ := body p e s m args below meth c s₁ B hml ht hP s₁ hh0 (Stand.of_body B)
    exact ⟨t, o, a1, b1, b2, b3⟩
/-- the table of a body with handlers -/
theorem vx_table {p : Program} {x y : MethodName} {S : Spec} {cc bytes : ByteArray} {maxL maxL' : Nat} {ret ret' : Option FieldType} {e : Env} {s s₁ : State} {m : MethodId} {args : Array Value} {below : List Frame} {meth : Method} {c : Code} {hh : List (Nat × Nat × Nat × Nat)}
    (B : BodyLoose p l y S cc maxL ret e s m args below meth c s₁) (h : (Cond.codeWith y bytes maxL' ret' hh).before args s = true) : c.exceptionTable.toList = tableOf hh := by
  obtain ⟨m9, meth9, c9, hn9, h1, h2, -, -, h6, -⟩ := Cond.codeWith_spec h
  cases Option.some.inj (hn9.symm.trans B.named)
  cases Option.some.inj (h1.symm.trans B.method)
  cases Option.some.inj (h2.symm.trans (Stand.of_body B).code)
  rw [← h6, table_eq]
end Bodies
end VXA
/-! ===== END ===== -/
/-! ===== BEGIN a static call of a method with an exception table ===== -/
section VXS
variable {p : Program} {l : Launch} {e : Env} {R : Room} {s : State} {m : MethodId} {args : Array Value} {below : List Frame} {meth : Method} {c : Code} {T : State} {H : Heap} {locs : List Loc} {cells slots : Nat}
abbrev vx_CSW (R : Room) (s : State) (args : Array Value) (own : String) (index : Nat) (y : MethodName) (bytes : ByteArray) (maxL : Nat) (ret : Option FieldType) (hh : List (Nat × Nat × Nat × Nat)) (ws : List Cond) (rm : Room) (mc ms n : Nat) : Prop :=
  (rm.cells = mc ∧ rm.slots = ms ∧ rm.frames + 1 ≤ R.frames ∧ 8 + (maxL + 11) + rm.locals ≤ R.locals ∧ (∀ w ∈ ws, ∀ (a' : Array Value) (U : State), s.WarmedH U.vm → w.before a' U = true) ∧ Cond.codeWith y bytes maxL ret hh ∈ ws) ∧
  (Cond.codeWith y bytes maxL ret hh).before args s = true ∧ (Cond.initialized y.cls).before args s = true ∧ (y.cls ≠ "java/lang/invoke/MethodHandle" ∧ y.cls ≠ "java/lang/invoke/VarHandle") ∧
  (∀ sig, parseMethodDescriptor y.desc = some sig → n = sig.parameters.length) ∧ (Cond.methodLink own index y).before args s = true ∧ (Cond.static y).before args s = true
theorem vx_cwSW {own : String} {index maxL mc ms : Nat} {y : MethodName} {bytes : ByteArray} {ret : Option FieldType} {hh : List (Nat × Nat × Nat × Nat)} {Ts ws ws' : List Cond} {rm : Room} (n : Nat) (ht : ∀ w ∈ Ts, w.before args s = true) (hT : GoodIn Ts (va_wsS own index y ws)) (hw : ws = Cond.codeWith y bytes maxL ret hh :: ws') (hrc : rm.cells = mc) (hrs : rm.slots = ms)
    (hd : y.cls ≠ "java/lang/invoke/MethodHandle" ∧ y.cls ≠ "java/lang/invoke/VarHandle" ∧ (parseMethodDescriptor y.desc).map (fun d => d.parameters.length) = some n) (hR : rm.frames + 1 ≤ R.frames ∧ 8 + (maxL + 11) + rm.locals ≤ R.locals) :
    vx_CSW R s args own index y bytes maxL ret hh ws rm mc ms n := by
  have ok : ∀ w ∈ va_wsS own index y ws, w.before args s = true := fun w h => ht w (hT w h).1
  have hG : GoodIn Ts ws := fun w h => hT w (by unfold va_wsS; exact List.mem_append_right _ h)
  have hc : Cond.codeWith y bytes maxL ret hh ∈ ws := by rw [hw]; exact List.mem_cons_self
  refine ⟨⟨hrc, hrs, hR.1, hR.2, pay_in ht hG, hc⟩, ht _ (hG _ hc).1, ok _ (by simp [va_wsS]), ⟨hd.1, hd.2.1⟩, fun sig h => ?_, ok _ (by simp [va_wsS]), ok _ (by simp [va_wsS])⟩
  have h2 := hd.2.2
  rw [h] at h2
  exact (Option.some.inj h2).symm
theorem vx_callSW (X : Stand p l e R s m args below meth c T locs cells slots) (hexec : p.tables.exec = Jvm.exec) {own : String} {index : Nat} {y : MethodName} {bytes : ByteArray} {maxL : Nat} {ret : Option FieldType} {hh : List (Nat × Nat × Nat × Nat)}
    (hown : s.vm.findClass own = some m.cls) (hlink : (Cond.methodLink own index y).before args s = true) (hstat : (Cond.static y).before args s = true) (hinit : (Cond.initialized y.cls).before args s = true)
    (hcode : (Cond.codeWith y bytes maxL ret hh).before args s = true) (hy : y.cls ≠ "java/lang/invoke/MethodHandle" ∧ y.cls ≠ "java/lang/invoke/VarHandle")
    {W9 : Nat} {Pre : Pt → Array Value → Prop} {Post : Pt → Array Value → Option Value → Pt → Prop} (hK : Back l R p e below s args y 3 W9 Pre Post)
    {g : JFrame} (hg : g.method = m) (hsize : g.locals.size = c.maxLocals) {argsL rest : List Value} (hlen : ∀ sig, parseMethodDescriptor y.desc = some sig → argsL.length = sig.parameters.length)
    (hstack : g.stack = argsL.reverse ++ rest) (hW : 2 * g.monitorRoom + (rest.map fun v => v.category).sum ≤ W9) (hdg : decode c.code g.pc = .ok (.invokestatic index, 3))
    (hpre : ∀ vm₁, s.WarmedH vm₁ → Pre ⟨T.setVm vm₁, locs, cells, slots⟩ argsL.toArray) :
    ∃ (v : Option Value) (vm₁ : Vm) (B : Pt), s.WarmedH vm₁ ∧ Stand p l e R s m args below meth c B.U B.locs B.cells B.slots ∧ Post ⟨T.setVm vm₁, locs, cells, slots⟩ argsL.toArray v B ∧
      ∀ target, Steps p.tables e below (B.U.setTop { g with pc := g.pc + 3, stack := v.toList ++ rest }) target → Steps p.tables e below (T.setTop g) target := by
  obtain ⟨mk, methM, cM, hnamed, hmethM, -, -, -, -, -, -, hsigM⟩ := Cond.codeWith_spec hcode
  have hstatic : methM.isStatic = true := Cond.static_spec hnamed hmethM hstat
  obtain ⟨kP, hkP, -⟩ := className_of_methodNamed hnamed
  have hinitP : kP.init = .initialized := Cond.initialized_spec (findClass_of_methodNamed hnamed) hkP hinit
  obtain ⟨vm₁, X₁, hstep₁⟩ := X.invokestatic hexec hown hlink hnamed hmethM hstatic hkP hinitP hy (g := g) hg (argsL := argsL) (rest := rest) (hlen _ hsigM) hstack hdg
  obtain ⟨v, B, X', hpost, hsteps⟩ := hK m meth c ⟨T.setVm vm₁, locs, cells, slots⟩ { g with stack := rest } (.invokestatic index) mk argsL.toArray X₁ hg hsize hdg hW (X₁.named hnamed) (hpre vm₁ X₁.warmed)
  exact ⟨v, vm₁, B, X₁.warmed, X', hpost, fun target h => hstep₁ _ fun acts => by rw [doInvoke_state]; exact hsteps.trans h⟩
theorem vx_runSW {y : MethodName} {bytes cc : ByteArray} {maxL nL mc ms n index : Nat} {ret : Option FieldType} {hh : List (Nat × Nat × Nat × Nat)} {ws : List Cond} {rm : Room} {Pc : Array Value → State → Prop} {Qc : Array Value → State → Outcome → State → Prop} {free : Addr → Prop} {Ts : List Cond} {own : String} {As rest : List Value} {g : JFrame}
    (S : CallFix p m c cc nL s args Ts own) (hM : Met l y ws rm Pc Qc mc ms free) (cw : vx_CSW R s args own index y bytes maxL ret hh ws rm mc ms n) (hp : PreS s H Pc As)
    (hg : g.method = m) (hn : As.length = n) (hsize : g.locals.size = nL) (hstack : g.stack = As.reverse ++ rest) (hW : 2 * g.monitorRoom + (rest.map fun v => v.category).sum ≤ 8) (hdg : decode cc g.pc = .ok (.invokestatic index, 3)) (hf : cells + mc ≤ R.cells ∧ slots + ms ≤ R.slots) :
    va_Run p l e R s m args below meth c H locs cells slots mc ms g rest (Qc As.toArray) (free) := by
  obtain ⟨⟨hrc, hrs, hfr, hlo, hws, hcw⟩, hcode, hini, hy, hlen, hl, hstt⟩ := cw
  have hK : Back l R p e below s args y 3 8 (PreOf R mc ms Pc) (PostOf Qc mc ms free) := va_backW (hh := hh) (bytes := bytes) (maxL := maxL) (ret := ret) hM hp.1 hrc hrs hfr hlo hws hcw (fun a' U hW => word_at hW (Or.inl (by first | rfl | simp [Cond.onTables, Cond.keeps, Cond.steady])) hini)
  obtain ⟨hx, hb, hml, ho, -⟩ := S
  intro T hT X
  obtain ⟨v, vm₁, ⟨U', l2, c2, s2⟩, hW₁, X', ⟨g', mk, t, L, e1, e2, hq, h1, hL, h2, h3⟩, st⟩ := vx_callSW X hx (hh := hh) (bytes := bytes) (maxL := maxL) (ret := ret) ho hl hstt hini hcode hy hK hg (hsize.trans hml.symm) (argsL := As) (rest := rest) (fun sig h => hn.trans (hlen sig h)) hstack hW (by rw [hb]; exact hdg)
    (fun vm₁ hW₁ => ⟨hf.1, hf.2, hp.2 (T.setVm vm₁) hT hW₁⟩)
  dsimp only [Pt.U, Pt.locs, Pt.cells, Pt.slots] at X' e1 e2 h1 h2 h3 st
  subst h1; subst h2; subst h3
  exact ⟨v, (T.setVm vm₁).calling g' mk As.toArray, t, U', L, hT, X', hL, e1, e2, hq, st⟩
/-- not caught here, past rows that name other classes: it goes on to the caller -/
theorem vx_outP {p : Program} {l : Launch} {e : Env} {R : Room} {s : State} {m : MethodId} {args : Array Value} {below : List Frame} {meth : Method} {c : Code} {H : Heap} {locs : List Loc} {cells slots : Nat} {free : Addr → Prop} {ls : Array Slot} {rest : List Value} {Qc : Array Value → State → Outcome → State → Prop} {XC : String → State → State → Prop}
    {pc : Nat} {own E : String} {ce : Cell} {q : Addr} {mc ms : Nat} (hown : s.vm.findClass own = some m.cls) (hlocks : meth.locks = false)
    (hpass : ∀ z ∈ c.exceptionTable.toList, covers z pc = false ∨ (z.catchType ≠ 0 ∧ ∃ nm : String, (Cond.classLink own z.catchType nm).before args s = true ∧ va_Nc E nm s)) (hcell : H[q]? = some ce) (hv : ce.vm = .none) (hcl : s.vm.findClass E = some ce.cls)
    (hx : ∀ t : State, t.heap = H → s.vm.Alike t.vm → XC E s t) (hf : ∀ z ∈ locs, free z.base) (hc : cells ≤ mc) (hs : slots ≤ ms) :
    vx_W p l e R s m args below meth c H locs cells slots (vx_MQ below Qc XC args s mc ms free) (F0 m pc ls rest) q := by
  intro T hT X
  have hpl : e.platform.magicAccessors = ({} : Platform).magicAccessors := by rw [X.admits.platform]
  obtain ⟨vm', hW', X', st⟩ := X.outThrough hlocks q (g := F0 m pc ls rest) rfl rfl rfl (cell := ce) (by rw [hT]; exact hcell) (by rw [hv]; rfl)
    (by obtain ⟨k9, h9, -⟩ := Vm.findClass_spec hcl; exact ⟨k9, h9⟩) (fun z hz => by
      rcases hpass z hz with h | ⟨hz0, nm, hl1, hn1⟩
      · exact Or.inl h
      · obtain ⟨c6, hc6, hcl6⟩ := Cond.classLink_spec hown hl1 e.platform hpl
        obtain ⟨a8, b8, h1, h2, h3⟩ := hn1
        cases Option.some.inj (h1.symm.trans hcl)
        cases Option.some.inj (h2.symm.trans hc6)
        exact Or.inr ⟨hz0, _, hcl6, h3⟩)
  obtain ⟨g₀, hfr⟩ := X'.frames_eq
  have hcell9 : ((T.setVm vm').setFrames (.throwing q :: below)).heap[q]? = some ce := by
    show T.heap[q]? = some ce
    rw [hT]; exact hcell
  have hend : Ended ((T.setVm vm').setFrames (.throwing q :: below)) below (.threw q) := State.frames_setFrames _ (State.cur_lt_of_frames hfr)
  refine ⟨(T.setVm vm').setFrames (.throwing q :: below), ?_, .threw q, X'.here.running, hend, Or.inr ⟨q, rfl, E, ce, locs, hx _ hT (X'.ends _).1.alike, hcell9, hv, hcl, (X'.ends _).1, (X'.ends _).2.mono hc hs, hf⟩⟩
  rw [X.pushThrowing_eq]
  exact st
/-- a thing of a world lies in the heap -/
theorem vx_lt {D : va_G} {cl : List vw_C} {ws : va_W} {H1 : Heap} (h : va_P D cl ws H1) {k : Nat} {q : Nat × va_E} (hk : ws[k]? = some q) : q.1 < H1.size := (h k q hk).lt
end VXS
/-! ===== END ===== -/
/-! ===== BEGIN methods with a table of their own: called by a name, returning or throwing ===== -/
section VXH
/-! vx_backW, vx_callVX, vx_callSX, vx_callVW, vx_runVW, vx_runVX, vx_runSX, vx_ofWH follow the same proofs as their sisters above (Free/Laws.lean, Shelf42/LK1.lean); vx_outP calls Shelf42/NT130.lean (outThrough). -/
section
variable {l : Launch} {R : Room} {p : Program} {e : Env} {below : List Frame} {s : State} {sargs : Array Value} {y : MethodName} {len W9 : Nat}
theorem vx_backW {ws : List Cond} {rm : Room} {Pc : Array Value → State → Prop} {Qc : Array Value → State → Outcome → State → Prop} {XC : String → State → State → Prop} {mc ms : Nat} {free : Addr → Prop} {bytes : ByteArray} {maxL : Nat} {ret : Option FieldType} {hh : List (Nat × Nat × Nat × Nat)}
    (hM : vx_Met l y ws rm Pc Qc XC mc ms free) (hblind : FrameBlind Pc) (hrc : rm.cells = mc) (hrs : rm.slots = ms)
    (hframes : rm.frames + 1 ≤ R.frames) (hlocals : W9 + (maxL + 11) + rm.locals ≤ R.locals)
    (hws : ∀ w ∈ ws, ∀ a' U, s.WarmedH U.vm → w.before a' U = true) (hcode : Cond.codeWith y bytes maxL ret hh ∈ ws) (hinit : ∀ a' U, s.WarmedH U.vm → (Cond.initialized y.cls).before a' U = true) :
    vx_Back l R p e below s sargs y len W9 (PreOf R mc ms Pc) (PostOf Qc mc ms free) (vx_Post XC mc ms free) := by
  intro m meth c A g ig mk a X hg hsize hdg hW hn hp
  have h1 : (headSpec ws rm).pre.before a A.U = true := atoms_intro fun w hw => hws w hw _ _ X.warmed
  have h2 : (Cond.codeWith y bytes maxL ret hh).before a A.U = true := hws _ hcode _ _ X.warmed
  have h3 : (Cond.initialized y.cls).before a A.U = true := hinit _ _ X.warmed
  have h4 : A.cells + (headSpec ws rm).room.cells ≤ R.cells := by rw [show (headSpec ws rm).room.cells = mc from hrc]; exact hp.1
  have h5 : A.slots + (headSpec ws rm).room.slots ≤ R.slots := by rw [show (headSpec ws rm).room.slots = ms from hrs]; exact hp.2.1
  have hPc : Pc a (A.U.calling g mk a) := hblind _ _ _ _ hp.2.2
  obtain ⟨U, Ls, c0, s0⟩ := A
  dsimp only [Pt.U, Pt.locs, Pt.cells, Pt.slots] at h1 h2 h3 h4 h5 X hn hPc ⊢
  obtain ⟨m9, methY, cY, hn9, hmY, hcY, -, hlY, -⟩ := Cond.codeWith_spec h2
  cases Option.some.inj (hn9.symm.trans hn)
  obtain ⟨kY, hkY, -⟩ := className_of_methodNamed hn
  have hinitY : kY.init = .initialized := Cond.initialized_spec (findClass_of_methodNamed hn) hkY h3
  have h : At U g.method c below := by rw [hg]; exact X.here
  have hlocals9 : W9 + (maxL + 11) + (headSpec ws rm).room.locals ≤ R.locals := hlocals
  have happ : (headSpec ws rm).appliesLoose y e.platform (U.calling g mk a) = true :=
    Spec.appliesLoose_calling (g := g) h hdg hn hkY hinitY
      (X.room_calling (g := g) (R' := (headSpec ws rm).room) hsize hmY hcY hframes (by rw [hlY]; omega) h4 h5) h1
  obtain ⟨mid, hmid⟩ := h.above
  have hfr : (U.setTop g).frames = (.java g :: mid) ++ below := by rw [State.frames_setTop' g h.top, hmid]; rfl
  obtain ⟨o, s₂, hsteps, -, hend, hq⟩ := Steps.callFree hM p X.admits X.cas X.clock (acts := []) hfr happ hPc trivial
  have hq' : vx_Q Qc XC mc ms free a (U.calling g mk a) o s₂ := hq
  rw [State.frames_setTop' g h.top] at hend
  obtain ⟨g₀, hg0⟩ := Option.isSome_iff_exists.mp h.top
  obtain ⟨r, hr⟩ := State.topJava?_eq_some.mp hg0
  have hr' : (({ U with heap := s₂.heap, slotsUsed := s₂.slotsUsed } : State).setVm s₂.vm).frames = .java g₀ :: r := hr
  rcases hq' with ⟨hqc, L, hfe, hL⟩ | ⟨q, rfl, E, ce, L, hx, hce, hcv, hcl, hW₂, hsm, hL⟩
  · obtain ⟨⟨v, rfl⟩, hW₂, e2, q2, q3, q4, q5, q6⟩ := id hfe
    have e3 : s₂ = ({ (U.calling g mk a).setFrames s₂.frames with heap := s₂.heap, slotsUsed := s₂.slotsUsed } : State).setVm s₂.vm := by
      have : s₂ = ({ s₂ with vm := (U.calling g mk a).vm } : State).setVm s₂.vm := rfl
      rw [e2] at this
      exact this
    obtain ⟨c₂, i₂, len₂, hc₂, hd₂, hf₂⟩ := hend
    have hW' : U.WarmedH s₂.vm := hW₂
    have hcc : c₂ = c := by
      have h1 : s₂.code? g.method = U.code? g.method := by
        rw [State.code?_eq, State.code?_eq, hW'.alike.method?]
      exact Option.some.inj (hc₂.symm.trans (h1.trans h.code))
    subst hcc
    have hlen : len₂ = len := by rw [hdg] at hd₂; cases hd₂; rfl
    subst hlen
    have hs₂ : s₂ = (({ U with heap := s₂.heap, slotsUsed := s₂.slotsUsed } : State).setVm s₂.vm).setTop { g with pc := g.pc + len₂, stack := v.toList ++ g.stack } := by
      refine e3.trans ?_
      rw [hf₂, State.calling_eq h.top, State.setFrames_setFrames, State.setTop_of_frames _ hr', hr]
      rfl
    have hsame : U.sameButNew ({ U with heap := s₂.heap, slotsUsed := s₂.slotsUsed } : State) L mc ms := by
      refine ⟨?_, q2, q3, q4, q5, q6⟩
      obtain ⟨t, ht, -⟩ := State.frames_cons hr
      show ({ U with heap := s₂.heap, slotsUsed := s₂.slotsUsed } : State) = { U.setFrames U.frames with heap := s₂.heap, slotsUsed := s₂.slotsUsed }
      rw [State.setFrames_self ht]
    subst hg
    refine Or.inl ⟨v, ⟨(({ U with heap := s₂.heap, slotsUsed := s₂.slotsUsed } : State).setVm s₂.vm), Ls ++ L, c0 + mc, s0 + ms⟩,
      ⟨X.admits, X.cas, X.clock, X.frames, X.room, X.hears, X.method, X.code, (X.here.setHeapUsed s₂.heap s₂.slotsUsed).setVm hW'.alike, X.tail, State.WarmedH.trans X.warmed hW', X.limits, X.bytes, X.same.trans (hsame.setVm s.vm)⟩,
      ⟨g, mk, s₂, L, rfl, rfl, hqc, rfl, hL, rfl, rfl⟩, ?_⟩
    show Steps p.tables e below _ ((({ U with heap := s₂.heap, slotsUsed := s₂.slotsUsed } : State).setVm s₂.vm).setTop { g with pc := g.pc + len₂, stack := v.toList ++ g.stack })
    rw [← hs₂]
    exact hsteps
  · obtain ⟨e2, q2, q3, q4, q5, q6⟩ := id hsm
    have e3 : s₂ = ({ (U.calling g mk a).setFrames s₂.frames with heap := s₂.heap, slotsUsed := s₂.slotsUsed } : State).setVm s₂.vm := by
      have : s₂ = ({ s₂ with vm := (U.calling g mk a).vm } : State).setVm s₂.vm := rfl
      rw [e2] at this
      exact this
    have hf₂ : s₂.frames = .throwing q :: .java g :: U.frames.tail := hend
    have hW' : U.WarmedH s₂.vm := hW₂
    have hs₂ : s₂ = ((({ U with heap := s₂.heap, slotsUsed := s₂.slotsUsed } : State).setVm s₂.vm).setTop g).pushFrame (.throwing q) := by
      refine e3.trans ?_
      rw [hf₂, State.calling_eq h.top, State.setFrames_setFrames, State.pushFrame, State.frames_setTop _ hr', State.setTop_of_frames _ hr', State.setFrames_setFrames, hr]
      rfl
    have hsame : U.sameButNew ({ U with heap := s₂.heap, slotsUsed := s₂.slotsUsed } : State) L mc ms := by
      refine ⟨?_, q2, q3, q4, q5, q6⟩
      obtain ⟨t, ht, -⟩ := State.frames_cons hr
      show ({ U with heap := s₂.heap, slotsUsed := s₂.slotsUsed } : State) = { U.setFrames U.frames with heap := s₂.heap, slotsUsed := s₂.slotsUsed }
      rw [State.setFrames_self ht]
    subst hg
    refine Or.inr ⟨q, ⟨(({ U with heap := s₂.heap, slotsUsed := s₂.slotsUsed } : State).setVm s₂.vm), Ls ++ L, c0 + mc, s0 + ms⟩,
      ⟨X.admits, X.cas, X.clock, X.frames, X.room, X.hears, X.method, X.code, (X.here.setHeapUsed s₂.heap s₂.slotsUsed).setVm hW'.alike, X.tail, State.WarmedH.trans X.warmed hW', X.limits, X.bytes, X.same.trans (hsame.setVm s.vm)⟩,
      ⟨g, mk, s₂, L, E, ce, rfl, rfl, hx, hce, hcv, hcl, rfl, hL, rfl, rfl⟩, ?_⟩
    show Steps p.tables e below _ (((({ U with heap := s₂.heap, slotsUsed := s₂.slotsUsed } : State).setVm s₂.vm).setTop g).pushFrame (.throwing q))
    rw [← hs₂]
    exact hsteps
end
variable {p : Program} {l : Launch} {e : Env} {R : Room} {s : State} {m : MethodId} {args : Array Value} {below : List Frame} {meth : Method} {c : Code} {T : State} {H : Heap} {locs : List Loc} {cells slots : Nat}
theorem vx_callVX (X : Stand p l e R s m args below meth c T locs cells slots) (hexec : p.tables.exec = Jvm.exec) {own C : String} {index : Nat} {y : MethodName} {bytes : ByteArray} {maxL : Nat} {ret : Option FieldType} {hh : List (Nat × Nat × Nat × Nat)}
    (hown : s.vm.findClass own = some m.cls) (hlink : (Cond.methodLink own index y).before args s = true) (hinst : (Cond.instanceMethod y).before args s = true) (hsel : (Cond.selects C y y).before args s = true)
    (hcode : (Cond.codeWith y bytes maxL ret hh).before args s = true) (hy : y.cls ≠ "java/lang/invoke/MethodHandle" ∧ y.cls ≠ "java/lang/invoke/VarHandle")
    {W9 : Nat} {Pre : Pt → Array Value → Prop} {Post : Pt → Array Value → Option Value → Pt → Prop} {PostX : Pt → Array Value → Addr → Pt → Prop} (hK : vx_Back l R p e below s args y 3 W9 Pre Post PostX)
    {b : Addr} {cellB : Cell} (hcell : T.heap[b]? = some cellB) (hobj : cellB.vm.isStatics = false) (hcls : s.vm.findClass C = some cellB.cls)
    {g : JFrame} (hg : g.method = m) (hsize : g.locals.size = c.maxLocals) {argsL rest : List Value} (hlen : ∀ sig, parseMethodDescriptor y.desc = some sig → argsL.length = sig.parameters.length)
    (hstack : g.stack = argsL.reverse ++ .ref b :: rest) (hW : 2 * g.monitorRoom + (rest.map fun v => v.category).sum ≤ W9) (hdg : decode c.code g.pc = .ok (.invokevirtual index, 3))
    (hpre : ∀ vm₁, s.WarmedH vm₁ → Pre ⟨T.setVm vm₁, locs, cells, slots⟩ (Value.ref b :: argsL).toArray) :
    (∃ (v : Option Value) (vm₁ : Vm) (B : Pt), s.WarmedH vm₁ ∧ Stand p l e R s m args below meth c B.U B.locs B.cells B.slots ∧ Post ⟨T.setVm vm₁, locs, cells, slots⟩ (Value.ref b :: argsL).toArray v B ∧
      ∀ target, Steps p.tables e below (B.U.setTop { g with pc := g.pc + 3, stack := v.toList ++ rest }) target → Steps p.tables e below (T.setTop g) target) ∨
    (∃ (q : Addr) (vm₁ : Vm) (B : Pt), s.WarmedH vm₁ ∧ Stand p l e R s m args below meth c B.U B.locs B.cells B.slots ∧ PostX ⟨T.setVm vm₁, locs, cells, slots⟩ (Value.ref b :: argsL).toArray q B ∧
      Steps p.tables e below (T.setTop g) ((B.U.setTop { g with stack := rest }).pushFrame (.throwing q))) := by
  obtain ⟨mk, methM, hnamed, hmethM, hstM, habM⟩ := Cond.instanceMethod_spec hinst
  obtain ⟨m8, methM', cM, hn8, hmethM', -, -, -, -, -, -, hsigM⟩ := Cond.codeWith_spec hcode
  cases Option.some.inj (hn8.symm.trans hnamed)
  cases hmethM.symm.trans hmethM'
  obtain ⟨c2, r2, m2, q1, q2, q3, q4, kP, hkP, hkPi⟩ := Cond.selects_spec hsel
  cases hcls.symm.trans q1
  cases (State.methodFound?_of_named hnamed hy).symm.trans q2
  cases hnamed.symm.trans q3
  have hselP : selectMethod e.platform s.vm cellB.cls mk = .method mk := by rw [Launch.admits_selectMethod X.admits]; exact q4
  obtain ⟨vm₁, X₁, hstep₁⟩ := X.invokevirtual hexec hown hlink hnamed hmethM hstM hkP hkPi hy (a := b) (cell := cellB) hcell
    (fun z h => by rw [h] at hobj; cases hobj) hselP hmethM habM hkP hkPi (g := g) hg (argsL := argsL) (rest := rest) (hlen _ hsigM) hstack hdg
  rcases hK m meth c ⟨T.setVm vm₁, locs, cells, slots⟩ { g with stack := rest } (.invokevirtual index) mk (Value.ref b :: argsL).toArray X₁ hg hsize hdg hW (X₁.named hnamed) (hpre vm₁ X₁.warmed) with ⟨v, B, X', hpost, hsteps⟩ | ⟨q, B, X', hpost, hsteps⟩
  · exact Or.inl ⟨v, vm₁, B, X₁.warmed, X', hpost, fun target h => hstep₁ _ fun acts => by rw [doInvoke_state]; exact hsteps.trans h⟩
  · exact Or.inr ⟨q, vm₁, B, X₁.warmed, X', hpost, hstep₁ _ fun acts => by rw [doInvoke_state]; exact hsteps⟩
theorem vx_callSX (X : Stand p l e R s m args below meth c T locs cells slots) (hexec : p.tables.exec = Jvm.exec) {own : String} {index : Nat} {y : MethodName} {bytes : ByteArray} {maxL : Nat} {ret : Option FieldType} {hh : List (Nat × Nat × Nat × Nat)}
    (hown : s.vm.findClass own = some m.cls) (hlink : (Cond.methodLink own index y).before args s = true) (hstat : (Cond.static y).before args s = true) (hinit : (Cond.initialized y.cls).before args s = true)
    (hcode : (Cond.codeWith y bytes maxL ret hh).before args s = true) (hy : y.cls ≠ "java/lang/invoke/MethodHandle" ∧ y.cls ≠ "java/lang/invoke/VarHandle")
    {W9 : Nat} {Pre : Pt → Array Value → Prop} {Post : Pt → Array Value → Option Value → Pt → Prop} {PostX : Pt → Array Value → Addr → Pt → Prop} (hK : vx_Back l R p e below s args y 3 W9 Pre Post PostX)
    {g : JFrame} (hg : g.method = m) (hsize : g.locals.size = c.maxLocals) {argsL rest : List Value} (hlen : ∀ sig, parseMethodDescriptor y.desc = some sig → argsL.length = sig.parameters.length)
    (hstack : g.stack = argsL.reverse ++ rest) (hW : 2 * g.monitorRoom + (rest.map fun v => v.category).sum ≤ W9) (hdg : decode c.code g.pc = .ok (.invokestatic index, 3))
    (hpre : ∀ vm₁, s.WarmedH vm₁ → Pre ⟨T.setVm vm₁, locs, cells, slots⟩ argsL.toArray) :
    (∃ (v : Option Value) (vm₁ : Vm) (B : Pt), s.WarmedH vm₁ ∧ Stand p l e R s m args below meth c B.U B.locs B.cells B.slots ∧ Post ⟨T.setVm vm₁, locs, cells, slots⟩ argsL.toArray v B ∧
      ∀ target, Steps p.tables e below (B.U.setTop { g with pc := g.pc + 3, stack := v.toList ++ rest }) target → Steps p.tables e below (T.setTop g) target) ∨
    (∃ (q : Addr) (vm₁ : Vm) (B : Pt), s.WarmedH vm₁ ∧ Stand p l e R s m args below meth c B.U B.locs B.cells B.slots ∧ PostX ⟨T.setVm vm₁, locs, cells, slots⟩ argsL.toArray q B ∧
      Steps p.tables e below (T.setTop g) ((B.U.setTop { g with stack := rest }).pushFrame (.throwing q))) := by
  obtain ⟨mk, methM, cM, hnamed, hmethM, -, -, -, -, -, -, hsigM⟩ := Cond.codeWith_spec hcode
  have hstatic : methM.isStatic = true := Cond.static_spec hnamed hmethM hstat
  obtain ⟨kP, hkP, -⟩ := className_of_methodNamed hnamed
  have hinitP : kP.init = .initialized := Cond.initialized_spec (findClass_of_methodNamed hnamed) hkP hinit
  obtain ⟨vm₁, X₁, hstep₁⟩ := X.invokestatic hexec hown hlink hnamed hmethM hstatic hkP hinitP hy (g := g) hg (argsL := argsL) (rest := rest) (hlen _ hsigM) hstack hdg
  rcases hK m meth c ⟨T.setVm vm₁, locs, cells, slots⟩ { g with stack := rest } (.invokestatic index) mk argsL.toArray X₁ hg hsize hdg hW (X₁.named hnamed) (hpre vm₁ X₁.warmed) with ⟨v, B, X', hpost, hsteps⟩ | ⟨q, B, X', hpost, hsteps⟩
  · exact Or.inl ⟨v, vm₁, B, X₁.warmed, X', hpost, fun target h => hstep₁ _ fun acts => by rw [doInvoke_state]; exact hsteps.trans h⟩
  · exact Or.inr ⟨q, vm₁, B, X₁.warmed, X', hpost, hstep₁ _ fun acts => by rw [doInvoke_state]; exact hsteps⟩
theorem vx_callVW (X : Stand p l e R s m args below meth c T locs cells slots) (hexec : p.tables.exec = Jvm.exec) {own C : String} {index : Nat} {y : MethodName} {bytes : ByteArray} {maxL : Nat} {ret : Option FieldType} {hh : List (Nat × Nat × Nat × Nat)}
    (hown : s.vm.findClass own = some m.cls) (hlink : (Cond.methodLink own index y).before args s = true) (hinst : (Cond.instanceMethod y).before args s = true) (hsel : (Cond.selects C y y).before args s = true)
    (hcode : (Cond.codeWith y bytes maxL ret hh).before args s = true) (hy : y.cls ≠ "java/lang/invoke/MethodHandle" ∧ y.cls ≠ "java/lang/invoke/VarHandle")
    {W9 : Nat} {Pre : Pt → Array Value → Prop} {Post : Pt → Array Value → Option Value → Pt → Prop} (hK : Back l R p e below s args y 3 W9 Pre Post)
    {b : Addr} {cellB : Cell} (hcell : T.heap[b]? = some cellB) (hobj : cellB.vm.isStatics = false) (hcls : s.vm.findClass C = some cellB.cls)
    {g : JFrame} (hg : g.method = m) (hsize : g.locals.size = c.maxLocals) {argsL rest : List Value} (hlen : ∀ sig, parseMethodDescriptor y.desc = some sig → argsL.length = sig.parameters.length)
    (hstack : g.stack = argsL.reverse ++ .ref b :: rest) (hW : 2 * g.monitorRoom + (rest.map fun v => v.category).sum ≤ W9) (hdg : decode c.code g.pc = .ok (.invokevirtual index, 3))
    (hpre : ∀ vm₁, s.WarmedH vm₁ → Pre ⟨T.setVm vm₁, locs, cells, slots⟩ (Value.ref b :: argsL).toArray) :
    ∃ (v : Option Value) (vm₁ : Vm) (B : Pt), s.WarmedH vm₁ ∧ Stand p l e R s m args below meth c B.U B.locs B.cells B.slots ∧ Post ⟨T.setVm vm₁, locs, cells, slots⟩ (Value.ref b :: argsL).toArray v B ∧
      ∀ target, Steps p.tables e below (B.U.setTop { g with pc := g.pc + 3, stack := v.toList ++ rest }) target → Steps p.tables e below (T.setTop g) target := by
  obtain ⟨mk, methM, hnamed, hmethM, hstM, habM⟩ := Cond.instanceMethod_spec hinst
  obtain ⟨m8, methM', cM, hn8, hmethM', -, -, -, -, -, -, hsigM⟩ := Cond.codeWith_spec hcode
  cases Option.some.inj (hn8.symm.trans hnamed)
  cases hmethM.symm.trans hmethM'
  obtain ⟨c2, r2, m2, q1, q2, q3, q4, kP, hkP, hkPi⟩ := Cond.selects_spec hsel
  cases hcls.symm.trans q1
  cases (State.methodFound?_of_named hnamed hy).symm.trans q2
  cases hnamed.symm.trans q3
  have hselP : selectMethod e.platform s.vm cellB.cls mk = .method mk := by rw [Launch.admits_selectMethod X.admits]; exact q4
  obtain ⟨vm₁, X₁, hstep₁⟩ := X.invokevirtual hexec hown hlink hnamed hmethM hstM hkP hkPi hy (a := b) (cell := cellB) hcell
    (fun z h => by rw [h] at hobj; cases hobj) hselP hmethM habM hkP hkPi (g := g) hg (argsL := argsL) (rest := rest) (hlen _ hsigM) hstack hdg
  obtain ⟨v, B, X', hpost, hsteps⟩ := hK m meth c ⟨T.setVm vm₁, locs, cells, slots⟩ { g with stack := rest } (.invokevirtual index) mk (Value.ref b :: argsL).toArray X₁ hg hsize hdg hW (X₁.named hnamed) (hpre vm₁ X₁.warmed)
  exact ⟨v, vm₁, B, X₁.warmed, X', hpost, fun target h => hstep₁ _ fun acts => by rw [doInvoke_state]; exact hsteps.trans h⟩
abbrev vx_CVW (R : Room) (s : State) (args : Array Value) (own C : String) (index : Nat) (y : MethodName) (bytes : ByteArray) (maxL : Nat) (ret : Option FieldType) (hh : List (Nat × Nat × Nat × Nat)) (ws : List Cond) (rm : Room) (mc ms n : Nat) : Prop :=
  (rm.cells = mc ∧ rm.slots = ms ∧ rm.frames + 1 ≤ R.frames ∧ 8 + (maxL + 11) + rm.locals ≤ R.locals ∧ (∀ w ∈ ws, ∀ (a' : Array Value) (U : State), s.WarmedH U.vm → w.before a' U = true) ∧ Cond.codeWith y bytes maxL ret hh ∈ ws) ∧
  (Cond.codeWith y bytes maxL ret hh).before args s = true ∧ (Cond.initialized y.cls).before args s = true ∧ (y.cls ≠ "java/lang/invoke/MethodHandle" ∧ y.cls ≠ "java/lang/invoke/VarHandle") ∧
  (∀ sig, parseMethodDescriptor y.desc = some sig → n = sig.parameters.length) ∧ (Cond.methodLink own index y).before args s = true ∧ (Cond.instanceMethod y).before args s = true ∧ (Cond.selects C y y).before args s = true
theorem vx_cwVW {own C : String} {index maxL mc ms : Nat} {y : MethodName} {bytes : ByteArray} {ret : Option FieldType} {hh : List (Nat × Nat × Nat × Nat)} {Ts ws ws' : List Cond} {rm : Room} (n : Nat) (ht : ∀ w ∈ Ts, w.before args s = true) (hT : GoodIn Ts (wsV own index C y ws)) (hw : ws = Cond.codeWith y bytes maxL ret hh :: ws') (hrc : rm.cells = mc) (hrs : rm.slots = ms)
    (hd : y.cls = C ∧ y.cls ≠ "java/lang/invoke/MethodHandle" ∧ y.cls ≠ "java/lang/invoke/VarHandle" ∧ (parseMethodDescriptor y.desc).map (fun d => d.parameters.length) = some n) (hR : rm.frames + 1 ≤ R.frames ∧ 8 + (maxL + 11) + rm.locals ≤ R.locals) :
    vx_CVW R s args own C index y bytes maxL ret hh ws rm mc ms n := by
  obtain ⟨hC, hd⟩ := hd
  subst hC
  have ok : ∀ w ∈ wsV own index y.cls y ws, w.before args s = true := fun w h => ht w (hT w h).1
  have hG : GoodIn Ts ws := fun w h => hT w (by unfold wsV; exact List.mem_append_right _ h)
  have hc : Cond.codeWith y bytes maxL ret hh ∈ ws := by rw [hw]; exact List.mem_cons_self
  refine ⟨⟨hrc, hrs, hR.1, hR.2, pay_in ht hG, hc⟩, ht _ (hG _ hc).1, ok _ (by simp [wsV]), ⟨hd.1, hd.2.1⟩, fun sig h => ?_, ok _ (by simp [wsV]), ok _ (by simp [wsV]), ok _ (by simp [wsV])⟩
  have h2 := hd.2.2
  rw [h] at h2
  exact (Option.some.inj h2).symm
theorem vx_runVW {y : MethodName} {bytes cc : ByteArray} {maxL nL mc ms n index : Nat} {ret : Option FieldType} {hh : List (Nat × Nat × Nat × Nat)} {ws : List Cond} {rm : Room} {Pc : Array Value → State → Prop} {Qc : Array Value → State → Outcome → State → Prop} {free : Addr → Prop} {Ts : List Cond} {own C : String} {b : Addr} {As rest : List Value} {g : JFrame}
    (S : CallFix p m c cc nL s args Ts own) (hM : Met l y ws rm Pc Qc mc ms free) (cw : vx_CVW R s args own C index y bytes maxL ret hh ws rm mc ms n) (hp : PreV s H C b Pc As)
    (hg : g.method = m) (hn : As.length = n) (hsize : g.locals.size = nL) (hstack : g.stack = As.reverse ++ .ref b :: rest) (hW : 2 * g.monitorRoom + (rest.map fun v => v.category).sum ≤ 8) (hdg : decode cc g.pc = .ok (.invokevirtual index, 3)) (hf : cells + mc ≤ R.cells ∧ slots + ms ≤ R.slots) :
    va_Run p l e R s m args below meth c H locs cells slots mc ms g rest (Qc (Value.ref b :: As).toArray) free := by
  obtain ⟨⟨hrc, hrs, hfr, hlo, hws, hcw⟩, hcode, hini, hy, hlen, hl, hin, hse⟩ := cw
  have hK : Back l R p e below s args y 3 8 (PreOf R mc ms Pc) (PostOf Qc mc ms free) := va_backW (hh := hh) (bytes := bytes) (maxL := maxL) (ret := ret) hM hp.1 hrc hrs hfr hlo hws hcw (fun a' U hW => word_at hW (Or.inl (by first | rfl | simp [Cond.onTables, Cond.keeps, Cond.steady])) hini)
  obtain ⟨hx, hb, hml, ho, -⟩ := S
  obtain ⟨-, ⟨cellB, hcB, hoB, hclB⟩, hPc⟩ := hp
  intro T hT X
  obtain ⟨v, vm₁, ⟨U', l2, c2, s2⟩, hW₁, X', ⟨g', mk, t, L, e1, e2, hq, h1, hL, h2, h3⟩, st⟩ := vx_callVW X hx (C := C) (hh := hh) (bytes := bytes) (maxL := maxL) (ret := ret) ho hl hin hse hcode hy hK (by rw [hT]; exact hcB) hoB hclB hg (hsize.trans hml.symm) (argsL := As) (rest := rest) (fun sig h => hn.trans (hlen sig h)) hstack hW (by rw [hb]; exact hdg)
    (fun vm₁ hW₁ => ⟨hf.1, hf.2, hPc (T.setVm vm₁) hT hW₁⟩)
  dsimp only [Pt.U, Pt.locs, Pt.cells, Pt.slots] at X' e1 e2 h1 h2 h3 st
  subst h1; subst h2; subst h3
  exact ⟨v, (T.setVm vm₁).calling g' mk (Value.ref b :: As).toArray, t, U', L, hT, X', hL, e1, e2, hq, st⟩
section
variable {y : MethodName} {bytes cc : ByteArray} {maxL nL mc ms n index : Nat} {ret : Option FieldType} {ws : List Cond} {rm : Room} {Pc : Array Value → State → Prop} {Qc : Array Value → State → Outcome → State → Prop} {XC : String → State → State → Prop} {free : Addr → Prop} {Ts : List Cond} {own C : String} {b : Addr} {As rest : List Value} {g : JFrame}
theorem vx_runVX {hh : List (Nat × Nat × Nat × Nat)} (S : CallFix p m c cc nL s args Ts own) (hM : vx_Met l y ws rm Pc Qc XC mc ms free) (cw : vx_CVW R s args own C index y bytes maxL ret hh ws rm mc ms n) (hp : PreV s H C b Pc As)
    (hg : g.method = m) (hn : As.length = n) (hsize : g.locals.size = nL) (hstack : g.stack = As.reverse ++ .ref b :: rest) (hW : 2 * g.monitorRoom + (rest.map fun v => v.category).sum ≤ 8) (hdg : decode cc g.pc = .ok (.invokevirtual index, 3)) (hf : cells + mc ≤ R.cells ∧ slots + ms ≤ R.slots) :
    vx_Run p l e R s m args below meth c H locs cells slots mc ms g rest (Qc (Value.ref b :: As).toArray) XC free := by
  obtain ⟨⟨hrc, hrs, hfr, hlo, hws, hcw⟩, hcode, hini, hy, hlen, hl, hin, hse⟩ := cw
  have hK : vx_Back l R p e below s args y 3 8 (PreOf R mc ms Pc) (PostOf Qc mc ms free) (vx_Post XC mc ms free) := vx_backW (hh := hh) (bytes := bytes) (maxL := maxL) (ret := ret) hM hp.1 hrc hrs hfr hlo hws hcw (fun a' U hW => word_at hW (Or.inl (by first | rfl | simp [Cond.onTables, Cond.keeps, Cond.steady])) hini)
  obtain ⟨hx, hb, hml, ho, -⟩ := S
  obtain ⟨-, ⟨cellB, hcB, hoB, hclB⟩, hPc⟩ := hp
  intro T hT X
  rcases vx_callVX X hx (C := C) (hh := hh) (bytes := bytes) (maxL := maxL) (ret := ret) ho hl hin hse hcode hy hK (by rw [hT]; exact hcB) hoB hclB hg (hsize.trans hml.symm) (argsL := As) (rest := rest) (fun sig h => hn.trans (hlen sig h)) hstack hW (by rw [hb]; exact hdg)
    (fun vm₁ hW₁ => ⟨hf.1, hf.2, hPc (T.setVm vm₁) hT hW₁⟩) with ⟨v, vm₁, ⟨U', l2, c2, s2⟩, hW₁, X', ⟨g', mk, t, L, e1, e2, hq, h1, hL, h2, h3⟩, st⟩ | ⟨q, vm₁, ⟨U', l2, c2, s2⟩, hW₁, X', ⟨g', mk, t, L, E, ce, e1, e2, hq, hce, hcv, hcl, h1, hL, h2, h3⟩, st⟩
  · dsimp only [Pt.U, Pt.locs, Pt.cells, Pt.slots] at X' e1 e2 h1 h2 h3 st
    subst h1; subst h2; subst h3
    exact Or.inl ⟨v, (T.setVm vm₁).calling g' mk (Value.ref b :: As).toArray, t, U', L, hT, X', hL, e1, e2, hq, st⟩
  · dsimp only [Pt.U, Pt.locs, Pt.cells, Pt.slots] at X' e1 e2 h1 h2 h3 st hcl
    subst h1; subst h2; subst h3
    exact Or.inr ⟨q, (T.setVm vm₁).calling g' mk (Value.ref b :: As).toArray, t, U', L, E, ce, hT, X', hL, e1, e2, hq, hce, hcv, vx_cls hW₁ hcl, st⟩
theorem vx_runSX {hh : List (Nat × Nat × Nat × Nat)} (S : CallFix p m c cc nL s args Ts own) (hM : vx_Met l y ws rm Pc Qc XC mc ms free) (cw : vx_CSW R s args own index y bytes maxL ret hh ws rm mc ms n) (hp : PreS s H Pc As)
    (hg : g.method = m) (hn : As.length = n) (hsize : g.locals.size = nL) (hstack : g.stack = As.reverse ++ rest) (hW : 2 * g.monitorRoom + (rest.map fun v => v.category).sum ≤ 8) (hdg : decode cc g.pc = .ok (.invokestatic index, 3)) (hf : cells + mc ≤ R.cells ∧ slots + ms ≤ R.slots) :
    vx_Run p l e R s m args below meth c H locs cells slots mc ms g rest (Qc As.toArray) XC free := by
  obtain ⟨⟨hrc, hrs, hfr, hlo, hws, hcw⟩, hcode, hini, hy, hlen, hl, hstt⟩ := cw
  have hK : vx_Back l R p e below s args y 3 8 (PreOf R mc ms Pc) (PostOf Qc mc ms free) (vx_Post XC mc ms free) := vx_backW (hh := hh) (bytes := bytes) (maxL := maxL) (ret := ret) hM hp.1 hrc hrs hfr hlo hws hcw (fun a' U hW => word_at hW (Or.inl (by first | rfl | simp [Cond.onTables, Cond.keeps, Cond.steady])) hini)
  obtain ⟨hx, hb, hml, ho, -⟩ := S
  intro T hT X
  rcases vx_callSX X hx (hh := hh) (bytes := bytes) (maxL := maxL) (ret := ret) ho hl hstt hini hcode hy hK hg (hsize.trans hml.symm) (argsL := As) (rest := rest) (fun sig h => hn.trans (hlen sig h)) hstack hW (by rw [hb]; exact hdg)
    (fun vm₁ hW₁ => ⟨hf.1, hf.2, hp.2 (T.setVm vm₁) hT hW₁⟩) with ⟨v, vm₁, ⟨U', l2, c2, s2⟩, hW₁, X', ⟨g', mk, t, L, e1, e2, hq, h1, hL, h2, h3⟩, st⟩ | ⟨q, vm₁, ⟨U', l2, c2, s2⟩, hW₁, X', ⟨g', mk, t, L, E, ce, e1, e2, hq, hce, hcv, hcl, h1, hL, h2, h3⟩, st⟩
  · dsimp only [Pt.U, Pt.locs, Pt.cells, Pt.slots] at X' e1 e2 h1 h2 h3 st
    subst h1; subst h2; subst h3
    exact Or.inl ⟨v, (T.setVm vm₁).calling g' mk As.toArray, t, U', L, hT, X', hL, e1, e2, hq, st⟩
  · dsimp only [Pt.U, Pt.locs, Pt.cells, Pt.slots] at X' e1 e2 h1 h2 h3 st hcl
    subst h1; subst h2; subst h3
    exact Or.inr ⟨q, (T.setVm vm₁).calling g' mk As.toArray, t, U', L, E, ce, hT, X', hL, e1, e2, hq, hce, hcv, vx_cls hW₁ hcl, st⟩
end
end VXH
theorem vx_ofWH {l : Launch} {y : MethodName} {ws ws' : List Cond} {rm : Room} {Pc : Array Value → State → Prop} {Qc : Array Value → State → Outcome → State → Prop} {XC : String → State → State → Prop} {mc ms : Nat} {free : Addr → Prop} {cc : ByteArray} {maxL : Nat} {ret : Option FieldType} {hh : List (Nat × Nat × Nat × Nat)}
    (hy : plainName y.cls = true) (hw : ws = Cond.codeWith y cc maxL ret hh :: ws')
    (body : ∀ p e s m args below meth c s₁, BodyLoose p l y (headSpec ws rm) cc maxL ret e s m args below meth c s₁ → c.maxLocals = maxL → Pc args s →
      W p l e (headSpec ws rm).room s m args below meth c s.heap [] 0 0 (vx_MQ below Qc XC args s mc ms free) (entryFrame m args maxL)) : vx_Met l y ws rm Pc Qc XC mc ms free := by
  refine MetFree.of_bodyS (code := cc) (maxLocals := maxL) (ret := ret) hy ?_ ?_
  · intro args s m h hn
    obtain ⟨m9, meth, c, hn9, h1, h2, h3, h4, -, h5, h6, -⟩ := Cond.codeWith_spec (atoms_spec (ws := ws) h _ (by rw [hw]; exact List.mem_cons_self))
    cases hn.symm.trans hn9
    exact ⟨meth, c, h1, h2, h3, h4, h5, h6⟩
  · intro p e s m args below meth c s₁ B hml hP _
    have hh0 : s₁.heap = s.heap := by rw [B.state]; rfl
    obtain ⟨t, a1, o, b1, b2, b3⟩ := body p e s m args below meth c s₁ B hml hP s₁ hh0 (Stand.of_body B)
    exact ⟨t, o, a1, b1, b2, b3⟩
/-! ===== END ===== -/


def RX0 : String := "CueSheets$Choice"
def TX0 : u_T := fun k => match k with
  | 0 => ("CueSheets$Choice", "strains", "I", false)
  | 1 => ("CueSheets$Choice", "pace", "I", false)
  | _ => ("CueSheets$Choice", "size", "I", false)
def tyX0 : Nat → FieldType := fun k => match k with
  | 0 => .int
  | 1 => .int
  | _ => .int
abbrev wsX00 : List Cond := u_ws RX0 TX0 3
theorem nmX0 : ∀ a, a < 3 → ∀ b, b < 3 → a ≠ b → (TX0 a).2.1 ≠ (TX0 b).2.1 := by decide +kernel
theorem tyX0_ok : ∀ k, k < 3 → parseFieldDescriptor (TX0 k).2.2.1 = some (tyX0 k) := by decide +kernel
abbrev cX0_init : ByteArray := prog_2_method_1_code
def yX0_init : MethodName := ⟨RX0, "<init>", "()V"⟩
abbrev cX0_search : ByteArray := prog_2_method_2_code
def yX0_search : MethodName := ⟨RX0, "search", "(LCueSheets$State;II)V"⟩
abbrev cX0_tryPaces : ByteArray := prog_2_method_3_code
def yX0_tryPaces : MethodName := ⟨RX0, "tryPaces", "(IIII)V"⟩
abbrev cX0_consider : ByteArray := prog_2_method_4_code
def yX0_consider : MethodName := ⟨RX0, "consider", "(III)V"⟩
def RX1 : String := "CueSheets$Marks"
def TX1 : u_T := fun k => match k with
  | 0 => ("CueSheets$Marks", "feet", "LCueSheets$Row;", true)
  | _ => ("CueSheets$Marks", "values", "LCueSheets$Row;", true)
def tyX1 : Nat → FieldType := fun k => match k with
  | 0 => .object "CueSheets$Row"
  | _ => .object "CueSheets$Row"
abbrev wsX10 : List Cond := u_ws RX1 TX1 2
theorem nmX1 : ∀ a, a < 2 → ∀ b, b < 2 → a ≠ b → (TX1 a).2.1 ≠ (TX1 b).2.1 := by decide +kernel
theorem tyX1_ok : ∀ k, k < 2 → parseFieldDescriptor (TX1 k).2.2.1 = some (tyX1 k) := by decide +kernel
abbrev cX1_init : ByteArray := prog_3_method_1_code
def yX1_init : MethodName := ⟨RX1, "<init>", "()V"⟩
abbrev cX1_size : ByteArray := prog_3_method_2_code
def yX1_size : MethodName := ⟨RX1, "size", "()I"⟩
abbrev cX1_placeOf : ByteArray := prog_3_method_3_code
def yX1_placeOf : MethodName := ⟨RX1, "placeOf", "(I)I"⟩
abbrev cX1_isAt : ByteArray := prog_3_method_4_code
def yX1_isAt : MethodName := ⟨RX1, "isAt", "(II)Z"⟩
abbrev cX1_hasRoomFor : ByteArray := prog_3_method_5_code
def yX1_hasRoomFor : MethodName := ⟨RX1, "hasRoomFor", "(I)Z"⟩
abbrev cX1_mark : ByteArray := prog_3_method_6_code
def yX1_mark : MethodName := ⟨RX1, "mark", "(II)V"⟩
abbrev cX1_unmark : ByteArray := prog_3_method_7_code
def yX1_unmark : MethodName := ⟨RX1, "unmark", "(I)V"⟩
abbrev cX1_valueHoldingAt : ByteArray := prog_3_method_8_code
def yX1_valueHoldingAt : MethodName := ⟨RX1, "valueHoldingAt", "(I)I"⟩
abbrev cX1_takeFrom : ByteArray := prog_3_method_9_code
def yX1_takeFrom : MethodName := ⟨RX1, "takeFrom", "(LCueSheets$Marks;)V"⟩
def RX2 : String := "CueSheets$Reel"
def TX2 : u_T := fun k => match k with
  | 0 => ("CueSheets$Reel", "lengths", "LCueSheets$Row;", true)
  | 1 => ("CueSheets$Reel", "pieces", "LCueSheets$Row;", true)
  | 2 => ("CueSheets$Reel", "strains", "LCueSheets$Row;", true)
  | 3 => ("CueSheets$Reel", "paces", "LCueSheets$Row;", true)
  | 4 => ("CueSheets$Reel", "speeds", "LCueSheets$Marks;", true)
  | _ => ("CueSheets$Reel", "splices", "LCueSheets$Marks;", true)
def tyX2 : Nat → FieldType := fun k => match k with
  | 0 => .object "CueSheets$Row"
  | 1 => .object "CueSheets$Row"
  | 2 => .object "CueSheets$Row"
  | 3 => .object "CueSheets$Row"
  | 4 => .object "CueSheets$Marks"
  | _ => .object "CueSheets$Marks"
abbrev wsX20 : List Cond := u_ws RX2 TX2 6
theorem nmX2 : ∀ a, a < 6 → ∀ b, b < 6 → a ≠ b → (TX2 a).2.1 ≠ (TX2 b).2.1 := by decide +kernel
theorem tyX2_ok : ∀ k, k < 6 → parseFieldDescriptor (TX2 k).2.2.1 = some (tyX2 k) := by decide +kernel
abbrev cX2_init : ByteArray := prog_4_method_1_code
def yX2_init : MethodName := ⟨RX2, "<init>", "()V"⟩
abbrev cX2_scenes : ByteArray := prog_4_method_2_code
def yX2_scenes : MethodName := ⟨RX2, "scenes", "()I"⟩
abbrev cX2_hasCue : ByteArray := prog_4_method_3_code
def yX2_hasCue : MethodName := ⟨RX2, "hasCue", "(I)Z"⟩
abbrev cX2_extend : ByteArray := prog_4_method_4_code
def yX2_extend : MethodName := ⟨RX2, "extend", "(IIII)V"⟩
abbrev cX2_cutOut : ByteArray := prog_4_method_5_code
def yX2_cutOut : MethodName := ⟨RX2, "cutOut", "(I)V"⟩
abbrev cX2_giveCue : ByteArray := prog_4_method_6_code
def yX2_giveCue : MethodName := ⟨RX2, "giveCue", "(IIII)V"⟩
abbrev cX2_lostBetween : ByteArray := prog_4_method_7_code
def yX2_lostBetween : MethodName := ⟨RX2, "lostBetween", "(II)I"⟩
abbrev cX2_footTime : ByteArray := prog_4_method_8_code
def yX2_footTime : MethodName := ⟨RX2, "footTime", "(I)I"⟩
abbrev cX2_timeBetween : ByteArray := prog_4_method_9_code
def yX2_timeBetween : MethodName := ⟨RX2, "timeBetween", "(III)I"⟩
abbrev cX2_takeFrom : ByteArray := prog_4_method_10_code
def yX2_takeFrom : MethodName := ⟨RX2, "takeFrom", "(LCueSheets$Reel;)V"⟩
def RX3 : String := "CueSheets$Row"
def TX3 : u_T := fun k => match k with
  | 0 => ("CueSheets$Row", "values", "[I", true)
  | _ => ("CueSheets$Row", "size", "I", false)
def tyX3 : Nat → FieldType := fun k => match k with
  | 0 => .array .int
  | _ => .int
abbrev wsX30 : List Cond := u_ws RX3 TX3 2
theorem nmX3 : ∀ a, a < 2 → ∀ b, b < 2 → a ≠ b → (TX3 a).2.1 ≠ (TX3 b).2.1 := by decide +kernel
theorem tyX3_ok : ∀ k, k < 2 → parseFieldDescriptor (TX3 k).2.2.1 = some (tyX3 k) := by decide +kernel
abbrev cX3_init : ByteArray := prog_5_method_1_code
def yX3_init : MethodName := ⟨RX3, "<init>", "(I)V"⟩
abbrev cX3_size : ByteArray := prog_5_method_2_code
def yX3_size : MethodName := ⟨RX3, "size", "()I"⟩
abbrev cX3_at : ByteArray := prog_5_method_3_code
def yX3_at : MethodName := ⟨RX3, "at", "(I)I"⟩
abbrev cX3_put : ByteArray := prog_5_method_4_code
def yX3_put : MethodName := ⟨RX3, "put", "(II)V"⟩
abbrev cX3_add : ByteArray := prog_5_method_5_code
def yX3_add : MethodName := ⟨RX3, "add", "(I)V"⟩
abbrev cX3_insert : ByteArray := prog_5_method_6_code
def yX3_insert : MethodName := ⟨RX3, "insert", "(II)V"⟩
abbrev cX3_remove : ByteArray := prog_5_method_7_code
def yX3_remove : MethodName := ⟨RX3, "remove", "(I)V"⟩
abbrev cX3_clear : ByteArray := prog_5_method_8_code
def yX3_clear : MethodName := ⟨RX3, "clear", "()V"⟩
abbrev cX3_takeFrom : ByteArray := prog_5_method_9_code
def yX3_takeFrom : MethodName := ⟨RX3, "takeFrom", "(LCueSheets$Row;)V"⟩
def RX4 : String := "CueSheets$SheetReader"
def TX4 : u_T := fun k => match k with
  | 0 => ("CueSheets$SheetReader", "lengths", "LCueSheets$Row;", true)
  | 1 => ("CueSheets$SheetReader", "pieces", "LCueSheets$Row;", true)
  | 2 => ("CueSheets$SheetReader", "strains", "LCueSheets$Row;", true)
  | 3 => ("CueSheets$SheetReader", "paces", "LCueSheets$Row;", true)
  | _ => ("CueSheets$SheetReader", "place", "I", false)
def tyX4 : Nat → FieldType := fun k => match k with
  | 0 => .object "CueSheets$Row"
  | 1 => .object "CueSheets$Row"
  | 2 => .object "CueSheets$Row"
  | 3 => .object "CueSheets$Row"
  | _ => .int
abbrev wsX40 : List Cond := u_ws RX4 TX4 5
theorem nmX4 : ∀ a, a < 5 → ∀ b, b < 5 → a ≠ b → (TX4 a).2.1 ≠ (TX4 b).2.1 := by decide +kernel
theorem tyX4_ok : ∀ k, k < 5 → parseFieldDescriptor (TX4 k).2.2.1 = some (tyX4 k) := by decide +kernel
abbrev cX4_init : ByteArray := prog_6_method_1_code
def yX4_init : MethodName := ⟨RX4, "<init>", "()V"⟩
abbrev cX4_scenes : ByteArray := prog_6_method_2_code
def yX4_scenes : MethodName := ⟨RX4, "scenes", "()I"⟩
abbrev cX4_begin : ByteArray := prog_6_method_3_code
def yX4_begin : MethodName := ⟨RX4, "begin", "()V"⟩
abbrev cX4_beginScene : ByteArray := prog_6_method_4_code
def yX4_beginScene : MethodName := ⟨RX4, "beginScene", "()V"⟩
abbrev cX4_latest : ByteArray := prog_6_method_5_code
def yX4_latest : MethodName := ⟨RX4, "latest", "()I"⟩
abbrev cX4_isComplete : ByteArray := prog_6_method_6_code
def yX4_isComplete : MethodName := ⟨RX4, "isComplete", "()Z"⟩
abbrev cX4_read : ByteArray := prog_6_method_7_code
def yX4_read : MethodName := ⟨RX4, "read", "(I)Z"⟩
abbrev cX4_step : ByteArray := prog_6_method_8_code
def yX4_step : MethodName := ⟨RX4, "step", "(ZI)Z"⟩
abbrev cX4_readComma : ByteArray := prog_6_method_9_code
def yX4_readComma : MethodName := ⟨RX4, "readComma", "()Z"⟩
abbrev cX4_readAtSign : ByteArray := prog_6_method_10_code
def yX4_readAtSign : MethodName := ⟨RX4, "readAtSign", "()Z"⟩
abbrev cX4_readDigit : ByteArray := prog_6_method_11_code
def yX4_readDigit : MethodName := ⟨RX4, "readDigit", "(I)Z"⟩
abbrev cX4_grow : ByteArray := prog_6_method_12_code
def yX4_grow : MethodName := ⟨RX4, "grow", "(LCueSheets$Row;III)Z"⟩
def RX5 : String := "CueSheets$State"
def TX5 : u_T := fun k => match k with
  | 0 => ("CueSheets$State", "first", "LCueSheets$Reel;", true)
  | 1 => ("CueSheets$State", "second", "LCueSheets$Reel;", true)
  | 2 => ("CueSheets$State", "third", "LCueSheets$Reel;", true)
  | 3 => ("CueSheets$State", "openings", "LCueSheets$Row;", true)
  | 4 => ("CueSheets$State", "strains", "LCueSheets$Row;", true)
  | 5 => ("CueSheets$State", "closes", "LCueSheets$Row;", true)
  | 6 => ("CueSheets$State", "tolerance", "I", false)
  | _ => ("CueSheets$State", "leeway", "I", false)
def tyX5 : Nat → FieldType := fun k => match k with
  | 0 => .object "CueSheets$Reel"
  | 1 => .object "CueSheets$Reel"
  | 2 => .object "CueSheets$Reel"
  | 3 => .object "CueSheets$Row"
  | 4 => .object "CueSheets$Row"
  | 5 => .object "CueSheets$Row"
  | 6 => .int
  | _ => .int
abbrev wsX50 : List Cond := u_ws RX5 TX5 8
theorem nmX5 : ∀ a, a < 8 → ∀ b, b < 8 → a ≠ b → (TX5 a).2.1 ≠ (TX5 b).2.1 := by decide +kernel
theorem tyX5_ok : ∀ k, k < 8 → parseFieldDescriptor (TX5 k).2.2.1 = some (tyX5 k) := by decide +kernel
abbrev cX5_init : ByteArray := prog_7_method_1_code
def yX5_init : MethodName := ⟨RX5, "<init>", "()V"⟩
abbrev cX5_reelAt : ByteArray := prog_7_method_2_code
def yX5_reelAt : MethodName := ⟨RX5, "reelAt", "(I)LCueSheets$Reel;"⟩
abbrev cX5_pieces : ByteArray := prog_7_method_3_code
def yX5_pieces : MethodName := ⟨RX5, "pieces", "()I"⟩
abbrev cX5_hasPiece : ByteArray := prog_7_method_4_code
def yX5_hasPiece : MethodName := ⟨RX5, "hasPiece", "(I)Z"⟩
abbrev cX5_cuesWith : ByteArray := prog_7_method_5_code
def yX5_cuesWith : MethodName := ⟨RX5, "cuesWith", "(I)I"⟩
abbrev cX5_playTime : ByteArray := prog_7_method_6_code
def yX5_playTime : MethodName := ⟨RX5, "playTime", "(III)I"⟩
abbrev cX5_timeAtPace : ByteArray := prog_7_method_7_code
def yX5_timeAtPace : MethodName := ⟨RX5, "timeAtPace", "(II)I"⟩
abbrev cX5_isBad : ByteArray := prog_7_method_8_code
def yX5_isBad : MethodName := ⟨RX5, "isBad", "(I)Z"⟩
abbrev cX5_takeFrom : ByteArray := prog_7_method_9_code
def yX5_takeFrom : MethodName := ⟨RX5, "takeFrom", "(LCueSheets$State;)V"⟩
def RX6 : String := "CueSheets$Timing"
def TX6 : u_T := fun k => match k with
  | 0 => ("CueSheets$Timing", "firstFeet", "LCueSheets$Row;", true)
  | 1 => ("CueSheets$Timing", "lostFeet", "LCueSheets$Row;", true)
  | 2 => ("CueSheets$Timing", "times", "LCueSheets$Row;", true)
  | 3 => ("CueSheets$Timing", "begins", "LCueSheets$Row;", true)
  | 4 => ("CueSheets$Timing", "cueBegins", "LCueSheets$Row;", true)
  | 5 => ("CueSheets$Timing", "cueEnds", "LCueSheets$Row;", true)
  | 6 => ("CueSheets$Timing", "drifts", "LCueSheets$Row;", true)
  | 7 => ("CueSheets$Timing", "feet", "I", false)
  | 8 => ("CueSheets$Timing", "lost", "I", false)
  | 9 => ("CueSheets$Timing", "time", "I", false)
  | 10 => ("CueSheets$Timing", "cues", "I", false)
  | 11 => ("CueSheets$Timing", "badDrifts", "I", false)
  | 12 => ("CueSheets$Timing", "driftSum", "I", false)
  | _ => ("CueSheets$Timing", "musicEnd", "I", false)
def tyX6 : Nat → FieldType := fun k => match k with
  | 0 => .object "CueSheets$Row"
  | 1 => .object "CueSheets$Row"
  | 2 => .object "CueSheets$Row"
  | 3 => .object "CueSheets$Row"
  | 4 => .object "CueSheets$Row"
  | 5 => .object "CueSheets$Row"
  | 6 => .object "CueSheets$Row"
  | 7 => .int
  | 8 => .int
  | 9 => .int
  | 10 => .int
  | 11 => .int
  | 12 => .int
  | _ => .int
abbrev wsX60 : List Cond := u_ws RX6 TX6 14
theorem nmX6 : ∀ a, a < 14 → ∀ b, b < 14 → a ≠ b → (TX6 a).2.1 ≠ (TX6 b).2.1 := by decide +kernel
theorem tyX6_ok : ∀ k, k < 14 → parseFieldDescriptor (TX6 k).2.2.1 = some (tyX6 k) := by decide +kernel
abbrev cX6_init : ByteArray := prog_8_method_1_code
def yX6_init : MethodName := ⟨RX6, "<init>", "()V"⟩
abbrev cX6_measure : ByteArray := prog_8_method_2_code
def yX6_measure : MethodName := ⟨RX6, "measure", "(LCueSheets$State;LCueSheets$Reel;I)V"⟩
abbrev cX6_clear : ByteArray := prog_8_method_3_code
def yX6_clear : MethodName := ⟨RX6, "clear", "()V"⟩
abbrev cX6_measureCue : ByteArray := prog_8_method_4_code
def yX6_measureCue : MethodName := ⟨RX6, "measureCue", "(LCueSheets$State;LCueSheets$Reel;I)V"⟩
abbrev cX6_roomForCue : ByteArray := prog_8_method_5_code
def yX6_roomForCue : MethodName := ⟨RX6, "roomForCue", "(I)I"⟩
abbrev cX6_silence : ByteArray := prog_8_method_6_code
def yX6_silence : MethodName := ⟨RX6, "silence", "(LCueSheets$Reel;)I"⟩
def RX7 : String := "CueSheets"
def TX7 : u_T := fun k => match k with
  | 0 => ("CueSheets", "now", "LCueSheets$State;", true)
  | 1 => ("CueSheets", "saved", "[LCueSheets$State;", true)
  | 2 => ("CueSheets", "oldestSaved", "I", false)
  | 3 => ("CueSheets", "savedStates", "I", false)
  | 4 => ("CueSheets", "buffer", "LCueSheets$Row;", true)
  | 5 => ("CueSheets", "reader", "LCueSheets$SheetReader;", true)
  | 6 => ("CueSheets", "timing", "LCueSheets$Timing;", true)
  | 7 => ("CueSheets", "trial", "LCueSheets$Timing;", true)
  | _ => ("CueSheets", "choice", "LCueSheets$Choice;", true)
def tyX7 : Nat → FieldType := fun k => match k with
  | 0 => .object "CueSheets$State"
  | 1 => .array (.object "CueSheets$State")
  | 2 => .int
  | 3 => .int
  | 4 => .object "CueSheets$Row"
  | 5 => .object "CueSheets$SheetReader"
  | 6 => .object "CueSheets$Timing"
  | 7 => .object "CueSheets$Timing"
  | _ => .object "CueSheets$Choice"
abbrev wsX70 : List Cond := u_ws RX7 TX7 9
theorem nmX7 : ∀ a, a < 9 → ∀ b, b < 9 → a ≠ b → (TX7 a).2.1 ≠ (TX7 b).2.1 := by decide +kernel
theorem tyX7_ok : ∀ k, k < 9 → parseFieldDescriptor (TX7 k).2.2.1 = some (tyX7 k) := by decide +kernel
abbrev cX7_init : ByteArray := prog_1_method_1_code
def yX7_init : MethodName := ⟨RX7, "<init>", "()V"⟩
abbrev cX7_addScene : ByteArray := prog_1_method_2_code
def yX7_addScene : MethodName := ⟨RX7, "addScene", "(II)I"⟩
abbrev cX7_removeScene : ByteArray := prog_1_method_3_code
def yX7_removeScene : MethodName := ⟨RX7, "removeScene", "(II)I"⟩
abbrev cX7_crank : ByteArray := prog_1_method_4_code
def yX7_crank : MethodName := ⟨RX7, "crank", "(III)I"⟩
abbrev cX7_splice : ByteArray := prog_1_method_5_code
def yX7_splice : MethodName := ⟨RX7, "splice", "(III)I"⟩
abbrev cX7_addPiece : ByteArray := prog_1_method_6_code
def yX7_addPiece : MethodName := ⟨RX7, "addPiece", "(III)I"⟩
abbrev cX7_setCue : ByteArray := prog_1_method_7_code
def yX7_setCue : MethodName := ⟨RX7, "setCue", "(IIIII)I"⟩
abbrev cX7_fit : ByteArray := prog_1_method_8_code
def yX7_fit : MethodName := ⟨RX7, "fit", "(I)I"⟩
abbrev cX7_set : ByteArray := prog_1_method_9_code
def yX7_set : MethodName := ⟨RX7, "set", "(II)I"⟩
abbrev cX7_append : ByteArray := prog_1_method_10_code
def yX7_append : MethodName := ⟨RX7, "append", "(I)I"⟩
abbrev cX7_clearBuffer : ByteArray := prog_1_method_11_code
def yX7_clearBuffer : MethodName := ⟨RX7, "clearBuffer", "()I"⟩
abbrev cX7_firstError : ByteArray := prog_1_method_12_code
def yX7_firstError : MethodName := ⟨RX7, "firstError", "()I"⟩
abbrev cX7_load : ByteArray := prog_1_method_13_code
def yX7_load : MethodName := ⟨RX7, "load", "(I)I"⟩
abbrev cX7_undo : ByteArray := prog_1_method_14_code
def yX7_undo : MethodName := ⟨RX7, "undo", "()I"⟩
abbrev cX7_scene : ByteArray := prog_1_method_15_code
def yX7_scene : MethodName := ⟨RX7, "scene", "(III)I"⟩
abbrev cX7_reel : ByteArray := prog_1_method_16_code
def yX7_reel : MethodName := ⟨RX7, "reel", "(II)I"⟩
abbrev cX7_speedAt : ByteArray := prog_1_method_17_code
def yX7_speedAt : MethodName := ⟨RX7, "speedAt", "(II)I"⟩
abbrev cX7_piece : ByteArray := prog_1_method_18_code
def yX7_piece : MethodName := ⟨RX7, "piece", "(II)I"⟩
abbrev cX7_count : ByteArray := prog_1_method_19_code
def yX7_count : MethodName := ⟨RX7, "count", "(I)I"⟩
abbrev cX7_bestCue : ByteArray := prog_1_method_20_code
def yX7_bestCue : MethodName := ⟨RX7, "bestCue", "(III)I"⟩
abbrev cX7_bestPiece : ByteArray := prog_1_method_21_code
def yX7_bestPiece : MethodName := ⟨RX7, "bestPiece", "(II)I"⟩
abbrev cX7_ifCranked : ByteArray := prog_1_method_22_code
def yX7_ifCranked : MethodName := ⟨RX7, "ifCranked", "(II)I"⟩
abbrev cX7_bestSpeed : ByteArray := prog_1_method_23_code
def yX7_bestSpeed : MethodName := ⟨RX7, "bestSpeed", "(I)I"⟩
abbrev cX7_offShare : ByteArray := prog_1_method_24_code
def yX7_offShare : MethodName := ⟨RX7, "offShare", "(I)F"⟩
abbrev cX7_meanSpeed : ByteArray := prog_1_method_25_code
def yX7_meanSpeed : MethodName := ⟨RX7, "meanSpeed", "(I)D"⟩
abbrev cX7_digest : ByteArray := prog_1_method_26_code
def yX7_digest : MethodName := ⟨RX7, "digest", "()J"⟩
abbrev cX7_requireReel : ByteArray := prog_1_method_27_code
def yX7_requireReel : MethodName := ⟨RX7, "requireReel", "(I)V"⟩
abbrev cX7_requireScene : ByteArray := prog_1_method_28_code
def yX7_requireScene : MethodName := ⟨RX7, "requireScene", "(II)V"⟩
abbrev cX7_requirePiece : ByteArray := prog_1_method_29_code
def yX7_requirePiece : MethodName := ⟨RX7, "requirePiece", "(I)V"⟩
abbrev cX7_requireRange : ByteArray := prog_1_method_30_code
def yX7_requireRange : MethodName := ⟨RX7, "requireRange", "(III)V"⟩
abbrev cX7_save : ByteArray := prog_1_method_31_code
def yX7_save : MethodName := ⟨RX7, "save", "()V"⟩
abbrev cX7_savedAt : ByteArray := prog_1_method_32_code
def yX7_savedAt : MethodName := ⟨RX7, "savedAt", "(I)LCueSheets$State;"⟩
abbrev cX7_readBuffer : ByteArray := prog_1_method_33_code
def yX7_readBuffer : MethodName := ⟨RX7, "readBuffer", "()I"⟩
abbrev cX7_hasPiecesThatWereRead : ByteArray := prog_1_method_34_code
def yX7_hasPiecesThatWereRead : MethodName := ⟨RX7, "hasPiecesThatWereRead", "()Z"⟩
abbrev cX7_fitScene : ByteArray := prog_1_method_35_code
def yX7_fitScene : MethodName := ⟨RX7, "fitScene", "(LCueSheets$Reel;I)Z"⟩
abbrev cX7_pieceForRoom : ByteArray := prog_1_method_36_code
def yX7_pieceForRoom : MethodName := ⟨RX7, "pieceForRoom", "(I)I"⟩
abbrev cX7_speedForReel : ByteArray := prog_1_method_37_code
def yX7_speedForReel : MethodName := ⟨RX7, "speedForReel", "(LCueSheets$Reel;)I"⟩
abbrev cX7_sceneProperty : ByteArray := prog_1_method_38_code
def yX7_sceneProperty : MethodName := ⟨RX7, "sceneProperty", "(LCueSheets$Reel;II)I"⟩
abbrev cX7_reelProperty : ByteArray := prog_1_method_39_code
def yX7_reelProperty : MethodName := ⟨RX7, "reelProperty", "(LCueSheets$Reel;I)I"⟩
abbrev cX7_pieceProperty : ByteArray := prog_1_method_40_code
def yX7_pieceProperty : MethodName := ⟨RX7, "pieceProperty", "(II)I"⟩
abbrev cX7_countProperty : ByteArray := prog_1_method_41_code
def yX7_countProperty : MethodName := ⟨RX7, "countProperty", "(I)I"⟩
abbrev cX7_sumOverReels : ByteArray := prog_1_method_42_code
def yX7_sumOverReels : MethodName := ⟨RX7, "sumOverReels", "(I)I"⟩
abbrev cX7_measuredOffShare : ByteArray := prog_1_method_43_code
def yX7_measuredOffShare : MethodName := ⟨RX7, "measuredOffShare", "()F"⟩
abbrev cX7_measuredMeanSpeed : ByteArray := prog_1_method_44_code
def yX7_measuredMeanSpeed : MethodName := ⟨RX7, "measuredMeanSpeed", "()D"⟩
abbrev cX7_mix : ByteArray := prog_1_method_45_code
def yX7_mix : MethodName := ⟨RX7, "mix", "(JJ)J"⟩
abbrev cX7_mixReel : ByteArray := prog_1_method_46_code
def yX7_mixReel : MethodName := ⟨RX7, "mixReel", "(JLCueSheets$Reel;)J"⟩
abbrev cX7_floatBits : ByteArray := prog_1_method_47_code
def yX7_floatBits : MethodName := ⟨RX7, "floatBits", "(F)J"⟩
abbrev cX7_doubleBits : ByteArray := prog_1_method_48_code
def yX7_doubleBits : MethodName := ⟨RX7, "doubleBits", "(D)J"⟩
def RX8 : String := "CueSheetsModel"
def TX8 : u_T := fun k => match k with
  | 0 => ("CueSheetsModel", "thrown", "I", false)
  | 1 => ("CueSheetsModel", "z", "[I", true)
  | 2 => ("CueSheetsModel", "saves", "I", false)
  | 3 => ("CueSheetsModel", "saved", "[I", true)
  | 4 => ("CueSheetsModel", "length", "I", false)
  | 5 => ("CueSheetsModel", "text", "[I", true)
  | 6 => ("CueSheetsModel", "begin", "[I", true)
  | 7 => ("CueSheetsModel", "lost", "[I", true)
  | 8 => ("CueSheetsModel", "cueBegin", "[I", true)
  | 9 => ("CueSheetsModel", "cueEnd", "[I", true)
  | 10 => ("CueSheetsModel", "bestSize", "I", false)
  | 11 => ("CueSheetsModel", "step", "I", false)
  | 12 => ("CueSheetsModel", "digits", "I", false)
  | 13 => ("CueSheetsModel", "entries", "I", false)
  | 14 => ("CueSheetsModel", "read", "[I", true)
  | _ => ("CueSheetsModel", "h", "J", false)
def tyX8 : Nat → FieldType := fun k => match k with
  | 0 => .int
  | 1 => .array .int
  | 2 => .int
  | 3 => .array .int
  | 4 => .int
  | 5 => .array .int
  | 6 => .array .int
  | 7 => .array .int
  | 8 => .array .int
  | 9 => .array .int
  | 10 => .int
  | 11 => .int
  | 12 => .int
  | 13 => .int
  | 14 => .array .int
  | _ => .long
abbrev wsX80 : List Cond := u_ws RX8 TX8 16
theorem nmX8 : ∀ a, a < 16 → ∀ b, b < 16 → a ≠ b → (TX8 a).2.1 ≠ (TX8 b).2.1 := by decide +kernel
theorem tyX8_ok : ∀ k, k < 16 → parseFieldDescriptor (TX8 k).2.2.1 = some (tyX8 k) := by decide +kernel
abbrev cX8_init : ByteArray := prog_10_method_1_code
def yX8_init : MethodName := ⟨RX8, "<init>", "()V"⟩
abbrev cX8_thrown : ByteArray := prog_10_method_2_code
def yX8_thrown : MethodName := ⟨RX8, "thrown", "()I"⟩
abbrev cX8_within : ByteArray := prog_10_method_3_code
def yX8_within : MethodName := ⟨RX8, "within", "(III)Z"⟩
abbrev cX8_size : ByteArray := prog_10_method_4_code
def yX8_size : MethodName := ⟨RX8, "size", "(I)I"⟩
abbrev cX8_isReel : ByteArray := prog_10_method_5_code
def yX8_isReel : MethodName := ⟨RX8, "isReel", "(I)Z"⟩
abbrev cX8_scenes : ByteArray := prog_10_method_6_code
def yX8_scenes : MethodName := ⟨RX8, "scenes", "(I)I"⟩
abbrev cX8_isScene : ByteArray := prog_10_method_7_code
def yX8_isScene : MethodName := ⟨RX8, "isScene", "(II)Z"⟩
abbrev cX8_isPiece : ByteArray := prog_10_method_8_code
def yX8_isPiece : MethodName := ⟨RX8, "isPiece", "(I)Z"⟩
abbrev cX8_of : ByteArray := prog_10_method_9_code
def yX8_of : MethodName := ⟨RX8, "of", "(III)I"⟩
abbrev cX8_speedOf : ByteArray := prog_10_method_10_code
def yX8_speedOf : MethodName := ⟨RX8, "speedOf", "(II)I"⟩
abbrev cX8_isLost : ByteArray := prog_10_method_11_code
def yX8_isLost : MethodName := ⟨RX8, "isLost", "(II)Z"⟩
abbrev cX8_firstFoot : ByteArray := prog_10_method_12_code
def yX8_firstFoot : MethodName := ⟨RX8, "firstFoot", "(II)I"⟩
abbrev cX8_layScenes : ByteArray := prog_10_method_13_code
def yX8_layScenes : MethodName := ⟨RX8, "layScenes", "(II)V"⟩
abbrev cX8_playTime : ByteArray := prog_10_method_14_code
def yX8_playTime : MethodName := ⟨RX8, "playTime", "(III)I"⟩
abbrev cX8_beginOf : ByteArray := prog_10_method_15_code
def yX8_beginOf : MethodName := ⟨RX8, "beginOf", "(II)I"⟩
abbrev cX8_layCue : ByteArray := prog_10_method_16_code
def yX8_layCue : MethodName := ⟨RX8, "layCue", "(II)V"⟩
abbrev cX8_lay : ByteArray := prog_10_method_17_code
def yX8_lay : MethodName := ⟨RX8, "lay", "(II)V"⟩
abbrev cX8_drift : ByteArray := prog_10_method_18_code
def yX8_drift : MethodName := ⟨RX8, "drift", "(II)I"⟩
abbrev cX8_isBad : ByteArray := prog_10_method_19_code
def yX8_isBad : MethodName := ⟨RX8, "isBad", "(II)Z"⟩
abbrev cX8_bads : ByteArray := prog_10_method_20_code
def yX8_bads : MethodName := ⟨RX8, "bads", "(I)I"⟩
abbrev cX8_drifts : ByteArray := prog_10_method_21_code
def yX8_drifts : MethodName := ⟨RX8, "drifts", "(I)I"⟩
abbrev cX8_bestOf : ByteArray := prog_10_method_22_code
def yX8_bestOf : MethodName := ⟨RX8, "bestOf", "(III)I"⟩
abbrev cX8_save : ByteArray := prog_10_method_23_code
def yX8_save : MethodName := ⟨RX8, "save", "()V"⟩
abbrev cX8_undo : ByteArray := prog_10_method_24_code
def yX8_undo : MethodName := ⟨RX8, "undo", "()I"⟩
abbrev cX8_bring : ByteArray := prog_10_method_25_code
def yX8_bring : MethodName := ⟨RX8, "bring", "(IIIII)V"⟩
abbrev cX8_addScene : ByteArray := prog_10_method_26_code
def yX8_addScene : MethodName := ⟨RX8, "addScene", "(II)I"⟩
abbrev cX8_removeScene : ByteArray := prog_10_method_27_code
def yX8_removeScene : MethodName := ⟨RX8, "removeScene", "(II)I"⟩
abbrev cX8_holdAt : ByteArray := prog_10_method_28_code
def yX8_holdAt : MethodName := ⟨RX8, "holdAt", "(II)I"⟩
abbrev cX8_hold : ByteArray := prog_10_method_29_code
def yX8_hold : MethodName := ⟨RX8, "hold", "(III)I"⟩
abbrev cX8_crank : ByteArray := prog_10_method_30_code
def yX8_crank : MethodName := ⟨RX8, "crank", "(III)I"⟩
abbrev cX8_drop : ByteArray := prog_10_method_31_code
def yX8_drop : MethodName := ⟨RX8, "drop", "(II)I"⟩
abbrev cX8_splice : ByteArray := prog_10_method_32_code
def yX8_splice : MethodName := ⟨RX8, "splice", "(III)I"⟩
abbrev cX8_addPiece : ByteArray := prog_10_method_33_code
def yX8_addPiece : MethodName := ⟨RX8, "addPiece", "(III)I"⟩
abbrev cX8_setCue : ByteArray := prog_10_method_34_code
def yX8_setCue : MethodName := ⟨RX8, "setCue", "(IIIII)I"⟩
abbrev cX8_fit : ByteArray := prog_10_method_35_code
def yX8_fit : MethodName := ⟨RX8, "fit", "(I)I"⟩
abbrev cX8_set : ByteArray := prog_10_method_36_code
def yX8_set : MethodName := ⟨RX8, "set", "(II)I"⟩
abbrev cX8_append : ByteArray := prog_10_method_37_code
def yX8_append : MethodName := ⟨RX8, "append", "(I)I"⟩
abbrev cX8_clearBuffer : ByteArray := prog_10_method_38_code
def yX8_clearBuffer : MethodName := ⟨RX8, "clearBuffer", "()I"⟩
abbrev cX8_beginEntry : ByteArray := prog_10_method_39_code
def yX8_beginEntry : MethodName := ⟨RX8, "beginEntry", "()V"⟩
abbrev cX8_goes : ByteArray := prog_10_method_40_code
def yX8_goes : MethodName := ⟨RX8, "goes", "(ZI)Z"⟩
abbrev cX8_takesLength : ByteArray := prog_10_method_41_code
def yX8_takesLength : MethodName := ⟨RX8, "takesLength", "(I)Z"⟩
abbrev cX8_takesPace : ByteArray := prog_10_method_42_code
def yX8_takesPace : MethodName := ⟨RX8, "takesPace", "(I)Z"⟩
abbrev cX8_isOver : ByteArray := prog_10_method_43_code
def yX8_isOver : MethodName := ⟨RX8, "isOver", "()Z"⟩
abbrev cX8_takesPart : ByteArray := prog_10_method_44_code
def yX8_takesPart : MethodName := ⟨RX8, "takesPart", "(I)Z"⟩
abbrev cX8_takes : ByteArray := prog_10_method_45_code
def yX8_takes : MethodName := ⟨RX8, "takes", "(I)Z"⟩
abbrev cX8_readText : ByteArray := prog_10_method_46_code
def yX8_readText : MethodName := ⟨RX8, "readText", "()I"⟩
abbrev cX8_firstError : ByteArray := prog_10_method_47_code
def yX8_firstError : MethodName := ⟨RX8, "firstError", "()I"⟩
abbrev cX8_canBring : ByteArray := prog_10_method_48_code
def yX8_canBring : MethodName := ⟨RX8, "canBring", "(I)Z"⟩
abbrev cX8_load : ByteArray := prog_10_method_49_code
def yX8_load : MethodName := ⟨RX8, "load", "(I)I"⟩
abbrev cX8_sceneNow : ByteArray := prog_10_method_50_code
def yX8_sceneNow : MethodName := ⟨RX8, "sceneNow", "(III)I"⟩
abbrev cX8_scene : ByteArray := prog_10_method_51_code
def yX8_scene : MethodName := ⟨RX8, "scene", "(III)I"⟩
abbrev cX8_lostFeet : ByteArray := prog_10_method_52_code
def yX8_lostFeet : MethodName := ⟨RX8, "lostFeet", "(I)I"⟩
abbrev cX8_cues : ByteArray := prog_10_method_53_code
def yX8_cues : MethodName := ⟨RX8, "cues", "(I)I"⟩
abbrev cX8_silence : ByteArray := prog_10_method_54_code
def yX8_silence : MethodName := ⟨RX8, "silence", "(I)I"⟩
abbrev cX8_lastEnd : ByteArray := prog_10_method_55_code
def yX8_lastEnd : MethodName := ⟨RX8, "lastEnd", "(I)I"⟩
abbrev cX8_reelNow : ByteArray := prog_10_method_56_code
def yX8_reelNow : MethodName := ⟨RX8, "reelNow", "(II)I"⟩
abbrev cX8_reel : ByteArray := prog_10_method_57_code
def yX8_reel : MethodName := ⟨RX8, "reel", "(II)I"⟩
abbrev cX8_speedAt : ByteArray := prog_10_method_58_code
def yX8_speedAt : MethodName := ⟨RX8, "speedAt", "(II)I"⟩
abbrev cX8_usesOf : ByteArray := prog_10_method_59_code
def yX8_usesOf : MethodName := ⟨RX8, "usesOf", "(I)I"⟩
abbrev cX8_pieceNow : ByteArray := prog_10_method_60_code
def yX8_pieceNow : MethodName := ⟨RX8, "pieceNow", "(II)I"⟩
abbrev cX8_piece : ByteArray := prog_10_method_61_code
def yX8_piece : MethodName := ⟨RX8, "piece", "(II)I"⟩
abbrev cX8_overReels : ByteArray := prog_10_method_62_code
def yX8_overReels : MethodName := ⟨RX8, "overReels", "(I)I"⟩
abbrev cX8_counted : ByteArray := prog_10_method_63_code
def yX8_counted : MethodName := ⟨RX8, "counted", "(I)I"⟩
abbrev cX8_count : ByteArray := prog_10_method_64_code
def yX8_count : MethodName := ⟨RX8, "count", "(I)I"⟩
abbrev cX8_bestCue : ByteArray := prog_10_method_65_code
def yX8_bestCue : MethodName := ⟨RX8, "bestCue", "(III)I"⟩
abbrev cX8_bestPieceNow : ByteArray := prog_10_method_66_code
def yX8_bestPieceNow : MethodName := ⟨RX8, "bestPieceNow", "(II)I"⟩
abbrev cX8_bestPiece : ByteArray := prog_10_method_67_code
def yX8_bestPiece : MethodName := ⟨RX8, "bestPiece", "(II)I"⟩
abbrev cX8_ifCranked : ByteArray := prog_10_method_68_code
def yX8_ifCranked : MethodName := ⟨RX8, "ifCranked", "(II)I"⟩
abbrev cX8_bestSpeedNow : ByteArray := prog_10_method_69_code
def yX8_bestSpeedNow : MethodName := ⟨RX8, "bestSpeedNow", "(I)I"⟩
abbrev cX8_bestSpeed : ByteArray := prog_10_method_70_code
def yX8_bestSpeed : MethodName := ⟨RX8, "bestSpeed", "(I)I"⟩
abbrev cX8_offNow : ByteArray := prog_10_method_71_code
def yX8_offNow : MethodName := ⟨RX8, "offNow", "(I)F"⟩
abbrev cX8_offShare : ByteArray := prog_10_method_72_code
def yX8_offShare : MethodName := ⟨RX8, "offShare", "(I)F"⟩
abbrev cX8_meanNow : ByteArray := prog_10_method_73_code
def yX8_meanNow : MethodName := ⟨RX8, "meanNow", "(I)D"⟩
abbrev cX8_meanSpeed : ByteArray := prog_10_method_74_code
def yX8_meanSpeed : MethodName := ⟨RX8, "meanSpeed", "(I)D"⟩
abbrev cX8_mix : ByteArray := prog_10_method_75_code
def yX8_mix : MethodName := ⟨RX8, "mix", "(J)V"⟩
abbrev cX8_mixReel : ByteArray := prog_10_method_76_code
def yX8_mixReel : MethodName := ⟨RX8, "mixReel", "(I)V"⟩
abbrev cX8_digest : ByteArray := prog_10_method_77_code
def yX8_digest : MethodName := ⟨RX8, "digest", "()J"⟩
def RJxe99ae : String := "java/lang/Double"
def TJxe99ae : u_T := fun k => match k with
  | _ => ("", "", "", false)
def tyJxe99ae : Nat → FieldType := fun k => match k with
  | _ => .int
abbrev wsJxe99ae0 : List Cond := u_ws RJxe99ae TJxe99ae 0
theorem nmJxe99ae : ∀ a, a < 0 → ∀ b, b < 0 → a ≠ b → (TJxe99ae a).2.1 ≠ (TJxe99ae b).2.1 := by decide +kernel
theorem tyJxe99ae_ok : ∀ k, k < 0 → parseFieldDescriptor (TJxe99ae k).2.2.1 = some (tyJxe99ae k) := by decide +kernel
abbrev cJxe99ae_isNaN_b9ae7 : ByteArray := prog_11_method_6_code
def yJxe99ae_isNaN_b9ae7 : MethodName := ⟨RJxe99ae, "isNaN", "(D)Z"⟩
abbrev cJxe99ae_doubleToLongBits_ccdee : ByteArray := prog_11_method_23_code
def yJxe99ae_doubleToLongBits_ccdee : MethodName := ⟨RJxe99ae, "doubleToLongBits", "(D)J"⟩
def RJxf58ca : String := "java/lang/Float"
def TJxf58ca : u_T := fun k => match k with
  | _ => ("", "", "", false)
def tyJxf58ca : Nat → FieldType := fun k => match k with
  | _ => .int
abbrev wsJxf58ca0 : List Cond := u_ws RJxf58ca TJxf58ca 0
theorem nmJxf58ca : ∀ a, a < 0 → ∀ b, b < 0 → a ≠ b → (TJxf58ca a).2.1 ≠ (TJxf58ca b).2.1 := by decide +kernel
theorem tyJxf58ca_ok : ∀ k, k < 0 → parseFieldDescriptor (TJxf58ca k).2.2.1 = some (tyJxf58ca k) := by decide +kernel
abbrev cJxf58ca_isNaN_12338 : ByteArray := prog_13_method_6_code
def yJxf58ca_isNaN_12338 : MethodName := ⟨RJxf58ca, "isNaN", "(F)Z"⟩
abbrev cJxf58ca_floatToIntBits_5c35a : ByteArray := prog_13_method_24_code
def yJxf58ca_floatToIntBits_5c35a : MethodName := ⟨RJxf58ca, "floatToIntBits", "(F)I"⟩
def RJ9 : String := "java/lang/Math"
def TJ9 : u_T := fun k => match k with
  | _ => ("", "", "", false)
def tyJ9 : Nat → FieldType := fun k => match k with
  | _ => .int
abbrev wsJ90 : List Cond := u_ws RJ9 TJ9 0
theorem nmJ9 : ∀ a, a < 0 → ∀ b, b < 0 → a ≠ b → (TJ9 a).2.1 ≠ (TJ9 b).2.1 := by decide +kernel
theorem tyJ9_ok : ∀ k, k < 0 → parseFieldDescriptor (TJ9 k).2.2.1 = some (tyJ9 k) := by decide +kernel
abbrev cJ9_abs_0f7a4 : ByteArray := prog_17_method_59_code
def yJ9_abs_0f7a4 : MethodName := ⟨RJ9, "abs", "(I)I"⟩
abbrev cJ9_max_7cf53 : ByteArray := prog_17_method_65_code
def yJ9_max_7cf53 : MethodName := ⟨RJ9, "max", "(II)I"⟩
abbrev cJ9_min_7cf53 : ByteArray := prog_17_method_69_code
def yJ9_min_7cf53 : MethodName := ⟨RJ9, "min", "(II)I"⟩
def RJ0 : String := "java/lang/String"
def TJ0 : u_T := fun k => match k with
  | _ => ("", "", "", false)
def tyJ0 : Nat → FieldType := fun k => match k with
  | _ => .int
abbrev wsJ00 : List Cond := u_ws RJ0 TJ0 0
theorem nmJ0 : ∀ a, a < 0 → ∀ b, b < 0 → a ≠ b → (TJ0 a).2.1 ≠ (TJ0 b).2.1 := by decide +kernel
theorem tyJ0_ok : ∀ k, k < 0 → parseFieldDescriptor (TJ0 k).2.2.1 = some (tyJ0 k) := by decide +kernel
def RL : String := "CueSheetsLaw"
abbrev cL_addScene : ByteArray := method_3_code
def yL_addScene : MethodName := ⟨RL, "addScene", "(LCueSheets;II[J)I"⟩
abbrev cL_removeScene : ByteArray := method_4_code
def yL_removeScene : MethodName := ⟨RL, "removeScene", "(LCueSheets;II[J)I"⟩
abbrev cL_crank : ByteArray := method_5_code
def yL_crank : MethodName := ⟨RL, "crank", "(LCueSheets;III[J)I"⟩
abbrev cL_splice : ByteArray := method_6_code
def yL_splice : MethodName := ⟨RL, "splice", "(LCueSheets;III[J)I"⟩
abbrev cL_addPiece : ByteArray := method_7_code
def yL_addPiece : MethodName := ⟨RL, "addPiece", "(LCueSheets;III[J)I"⟩
abbrev cL_setCue : ByteArray := method_8_code
def yL_setCue : MethodName := ⟨RL, "setCue", "(LCueSheets;IIIII[J)I"⟩
abbrev cL_fit : ByteArray := method_9_code
def yL_fit : MethodName := ⟨RL, "fit", "(LCueSheets;I[J)I"⟩
abbrev cL_set : ByteArray := method_10_code
def yL_set : MethodName := ⟨RL, "set", "(LCueSheets;II[J)I"⟩
abbrev cL_append : ByteArray := method_11_code
def yL_append : MethodName := ⟨RL, "append", "(LCueSheets;I[J)I"⟩
abbrev cL_load : ByteArray := method_12_code
def yL_load : MethodName := ⟨RL, "load", "(LCueSheets;I[J)I"⟩
abbrev cL_undo : ByteArray := method_13_code
def yL_undo : MethodName := ⟨RL, "undo", "(LCueSheets;[J)I"⟩
abbrev cL_scene : ByteArray := method_14_code
def yL_scene : MethodName := ⟨RL, "scene", "(LCueSheets;III[J)I"⟩
abbrev cL_reel : ByteArray := method_15_code
def yL_reel : MethodName := ⟨RL, "reel", "(LCueSheets;II[J)I"⟩
abbrev cL_speedAt : ByteArray := method_16_code
def yL_speedAt : MethodName := ⟨RL, "speedAt", "(LCueSheets;II[J)I"⟩
abbrev cL_piece : ByteArray := method_17_code
def yL_piece : MethodName := ⟨RL, "piece", "(LCueSheets;II[J)I"⟩
abbrev cL_count : ByteArray := method_18_code
def yL_count : MethodName := ⟨RL, "count", "(LCueSheets;I[J)I"⟩
abbrev cL_bestCue : ByteArray := method_19_code
def yL_bestCue : MethodName := ⟨RL, "bestCue", "(LCueSheets;III[J)I"⟩
abbrev cL_bestPiece : ByteArray := method_20_code
def yL_bestPiece : MethodName := ⟨RL, "bestPiece", "(LCueSheets;II[J)I"⟩
abbrev cL_ifCranked : ByteArray := method_21_code
def yL_ifCranked : MethodName := ⟨RL, "ifCranked", "(LCueSheets;II[J)I"⟩
abbrev cL_bestSpeed : ByteArray := method_22_code
def yL_bestSpeed : MethodName := ⟨RL, "bestSpeed", "(LCueSheets;I[J)I"⟩
abbrev cL_offShare : ByteArray := method_23_code
def yL_offShare : MethodName := ⟨RL, "offShare", "(LCueSheets;I[D)I"⟩
abbrev cL_meanSpeed : ByteArray := method_24_code
def yL_meanSpeed : MethodName := ⟨RL, "meanSpeed", "(LCueSheets;I[D)I"⟩
abbrev cL_law : ByteArray := code
def yL_law : MethodName := ⟨RL, "law", "([I)Z"⟩
abbrev vwCl : List vw_C := [(RX0, TX0, 3), (RX1, TX1, 2), (RX2, TX2, 6), (RX3, TX3, 2), (RX4, TX4, 5), (RX5, TX5, 8), (RX6, TX6, 14), (RX7, TX7, 9), (RX8, TX8, 16)]
end
section
theorem dX0_init_0 : decode cX0_init 0 = .ok (.aload_n 0, 1) := by decide +kernel
theorem dX0_init_1 : decode cX0_init 1 = .ok (.invokespecial 3, 3) := by decide +kernel
theorem dX0_init_4 : decode cX0_init 4 = .ok (.return_, 1) := by decide +kernel
theorem dX0_search_0 : decode cX0_search 0 = .ok (.aload_n 1, 1) := by decide +kernel
theorem dX0_search_1 : decode cX0_search 1 = .ok (.getfield 9, 3) := by decide +kernel
theorem dX0_search_4 : decode cX0_search 4 = .ok (.iload_n 2, 1) := by decide +kernel
theorem dX0_search_5 : decode cX0_search 5 = .ok (.invokevirtual 15, 3) := by decide +kernel
theorem dX0_search_8 : decode cX0_search 8 = .ok (.istore 4, 2) := by decide +kernel
theorem dX0_search_10 : decode cX0_search 10 = .ok (.aload_n 1, 1) := by decide +kernel
theorem dX0_search_11 : decode cX0_search 11 = .ok (.getfield 21, 3) := by decide +kernel
theorem dX0_search_14 : decode cX0_search 14 = .ok (.iload_n 2, 1) := by decide +kernel
theorem dX0_search_15 : decode cX0_search 15 = .ok (.invokevirtual 15, 3) := by decide +kernel
theorem dX0_search_18 : decode cX0_search 18 = .ok (.aload_n 1, 1) := by decide +kernel
theorem dX0_search_19 : decode cX0_search 19 = .ok (.getfield 24, 3) := by decide +kernel
theorem dX0_search_22 : decode cX0_search 22 = .ok (.iload_n 2, 1) := by decide +kernel
theorem dX0_search_23 : decode cX0_search 23 = .ok (.invokevirtual 15, 3) := by decide +kernel
theorem dX0_search_26 : decode cX0_search 26 = .ok (.iadd, 1) := by decide +kernel
theorem dX0_search_27 : decode cX0_search 27 = .ok (.istore 5, 2) := by decide +kernel
theorem dX0_search_29 : decode cX0_search 29 = .ok (.aload_n 0, 1) := by decide +kernel
theorem dX0_search_30 : decode cX0_search 30 = .ok (.ldc 29, 2) := by decide +kernel
theorem dX0_search_32 : decode cX0_search 32 = .ok (.putfield 30, 3) := by decide +kernel
theorem dX0_search_35 : decode cX0_search 35 = .ok (.iconst 0, 1) := by decide +kernel
theorem dX0_search_36 : decode cX0_search 36 = .ok (.istore 6, 2) := by decide +kernel
theorem dX0_search_38 : decode cX0_search 38 = .ok (.iload 6, 2) := by decide +kernel
theorem dX0_search_40 : decode cX0_search 40 = .ok (.aload_n 1, 1) := by decide +kernel
theorem dX0_search_41 : decode cX0_search 41 = .ok (.getfield 36, 3) := by decide +kernel
theorem dX0_search_44 : decode cX0_search 44 = .ok (.if_icmp .gt 27, 3) := by decide +kernel
theorem dX0_search_47 : decode cX0_search 47 = .ok (.aload_n 0, 1) := by decide +kernel
theorem dX0_search_48 : decode cX0_search 48 = .ok (.getfield 30, 3) := by decide +kernel
theorem dX0_search_51 : decode cX0_search 51 = .ok (.ifCond .le 20, 3) := by decide +kernel
theorem dX0_search_54 : decode cX0_search 54 = .ok (.aload_n 0, 1) := by decide +kernel
theorem dX0_search_55 : decode cX0_search 55 = .ok (.iload 5, 2) := by decide +kernel
theorem dX0_search_57 : decode cX0_search 57 = .ok (.iload 4, 2) := by decide +kernel
theorem dX0_search_59 : decode cX0_search 59 = .ok (.iload_n 3, 1) := by decide +kernel
theorem dX0_search_60 : decode cX0_search 60 = .ok (.iload 6, 2) := by decide +kernel
theorem dX0_search_62 : decode cX0_search 62 = .ok (.invokevirtual 39, 3) := by decide +kernel
theorem dX0_search_65 : decode cX0_search 65 = .ok (.iinc 6 1, 3) := by decide +kernel
theorem dX0_search_68 : decode cX0_search 68 = .ok (.goto (-30), 3) := by decide +kernel
theorem dX0_search_71 : decode cX0_search 71 = .ok (.return_, 1) := by decide +kernel
theorem dX0_tryPaces_0 : decode cX0_tryPaces 0 = .ok (.iconst 1, 1) := by decide +kernel
theorem dX0_tryPaces_1 : decode cX0_tryPaces 1 = .ok (.istore 5, 2) := by decide +kernel
theorem dX0_tryPaces_3 : decode cX0_tryPaces 3 = .ok (.iload 5, 2) := by decide +kernel
theorem dX0_tryPaces_5 : decode cX0_tryPaces 5 = .ok (.bipush 9, 2) := by decide +kernel
theorem dX0_tryPaces_7 : decode cX0_tryPaces 7 = .ok (.if_icmp .gt 73, 3) := by decide +kernel
theorem dX0_tryPaces_10 : decode cX0_tryPaces 10 = .ok (.iload_n 1, 1) := by decide +kernel
theorem dX0_tryPaces_11 : decode cX0_tryPaces 11 = .ok (.iload 5, 2) := by decide +kernel
theorem dX0_tryPaces_13 : decode cX0_tryPaces 13 = .ok (.iload_n 2, 1) := by decide +kernel
theorem dX0_tryPaces_14 : decode cX0_tryPaces 14 = .ok (.imul, 1) := by decide +kernel
theorem dX0_tryPaces_15 : decode cX0_tryPaces 15 = .ok (.iadd, 1) := by decide +kernel
theorem dX0_tryPaces_16 : decode cX0_tryPaces 16 = .ok (.istore 6, 2) := by decide +kernel
theorem dX0_tryPaces_18 : decode cX0_tryPaces 18 = .ok (.aload_n 0, 1) := by decide +kernel
theorem dX0_tryPaces_19 : decode cX0_tryPaces 19 = .ok (.iload 5, 2) := by decide +kernel
theorem dX0_tryPaces_21 : decode cX0_tryPaces 21 = .ok (.bipush 100, 2) := by decide +kernel
theorem dX0_tryPaces_23 : decode cX0_tryPaces 23 = .ok (.iload 4, 2) := by decide +kernel
theorem dX0_tryPaces_25 : decode cX0_tryPaces 25 = .ok (.isub, 1) := by decide +kernel
theorem dX0_tryPaces_26 : decode cX0_tryPaces 26 = .ok (.iload 6, 2) := by decide +kernel
theorem dX0_tryPaces_28 : decode cX0_tryPaces 28 = .ok (.bipush 100, 2) := by decide +kernel
theorem dX0_tryPaces_30 : decode cX0_tryPaces 30 = .ok (.iload 4, 2) := by decide +kernel
theorem dX0_tryPaces_32 : decode cX0_tryPaces 32 = .ok (.isub, 1) := by decide +kernel
theorem dX0_tryPaces_33 : decode cX0_tryPaces 33 = .ok (.invokestatic 43, 3) := by decide +kernel
theorem dX0_tryPaces_36 : decode cX0_tryPaces 36 = .ok (.iload_n 3, 1) := by decide +kernel
theorem dX0_tryPaces_37 : decode cX0_tryPaces 37 = .ok (.isub, 1) := by decide +kernel
theorem dX0_tryPaces_38 : decode cX0_tryPaces 38 = .ok (.invokevirtual 47, 3) := by decide +kernel
theorem dX0_tryPaces_41 : decode cX0_tryPaces 41 = .ok (.iload 6, 2) := by decide +kernel
theorem dX0_tryPaces_43 : decode cX0_tryPaces 43 = .ok (.bipush 100, 2) := by decide +kernel
theorem dX0_tryPaces_45 : decode cX0_tryPaces 45 = .ok (.iload 4, 2) := by decide +kernel
theorem dX0_tryPaces_47 : decode cX0_tryPaces 47 = .ok (.iadd, 1) := by decide +kernel
theorem dX0_tryPaces_48 : decode cX0_tryPaces 48 = .ok (.invokestatic 43, 3) := by decide +kernel
theorem dX0_tryPaces_51 : decode cX0_tryPaces 51 = .ok (.iload_n 3, 1) := by decide +kernel
theorem dX0_tryPaces_52 : decode cX0_tryPaces 52 = .ok (.isub, 1) := by decide +kernel
theorem dX0_tryPaces_53 : decode cX0_tryPaces 53 = .ok (.istore 7, 2) := by decide +kernel
theorem dX0_tryPaces_55 : decode cX0_tryPaces 55 = .ok (.aload_n 0, 1) := by decide +kernel
theorem dX0_tryPaces_56 : decode cX0_tryPaces 56 = .ok (.iload 5, 2) := by decide +kernel
theorem dX0_tryPaces_58 : decode cX0_tryPaces 58 = .ok (.bipush 100, 2) := by decide +kernel
theorem dX0_tryPaces_60 : decode cX0_tryPaces 60 = .ok (.iload 4, 2) := by decide +kernel
theorem dX0_tryPaces_62 : decode cX0_tryPaces 62 = .ok (.iadd, 1) := by decide +kernel
theorem dX0_tryPaces_63 : decode cX0_tryPaces 63 = .ok (.iload 7, 2) := by decide +kernel
theorem dX0_tryPaces_65 : decode cX0_tryPaces 65 = .ok (.invokevirtual 47, 3) := by decide +kernel
theorem dX0_tryPaces_68 : decode cX0_tryPaces 68 = .ok (.iload 7, 2) := by decide +kernel
theorem dX0_tryPaces_70 : decode cX0_tryPaces 70 = .ok (.ifCond .lt 4, 3) := by decide +kernel
theorem dX0_tryPaces_73 : decode cX0_tryPaces 73 = .ok (.return_, 1) := by decide +kernel
theorem dX0_tryPaces_74 : decode cX0_tryPaces 74 = .ok (.iinc 5 1, 3) := by decide +kernel
theorem dX0_tryPaces_77 : decode cX0_tryPaces 77 = .ok (.goto (-74), 3) := by decide +kernel
theorem dX0_tryPaces_80 : decode cX0_tryPaces 80 = .ok (.return_, 1) := by decide +kernel
theorem dX0_consider_0 : decode cX0_consider 0 = .ok (.iload_n 3, 1) := by decide +kernel
theorem dX0_consider_1 : decode cX0_consider 1 = .ok (.invokestatic 51, 3) := by decide +kernel
theorem dX0_consider_4 : decode cX0_consider 4 = .ok (.aload_n 0, 1) := by decide +kernel
theorem dX0_consider_5 : decode cX0_consider 5 = .ok (.getfield 30, 3) := by decide +kernel
theorem dX0_consider_8 : decode cX0_consider 8 = .ok (.if_icmp .ge 21, 3) := by decide +kernel
theorem dX0_consider_11 : decode cX0_consider 11 = .ok (.aload_n 0, 1) := by decide +kernel
theorem dX0_consider_12 : decode cX0_consider 12 = .ok (.iload_n 1, 1) := by decide +kernel
theorem dX0_consider_13 : decode cX0_consider 13 = .ok (.putfield 56, 3) := by decide +kernel
theorem dX0_consider_16 : decode cX0_consider 16 = .ok (.aload_n 0, 1) := by decide +kernel
theorem dX0_consider_17 : decode cX0_consider 17 = .ok (.iload_n 2, 1) := by decide +kernel
theorem dX0_consider_18 : decode cX0_consider 18 = .ok (.putfield 58, 3) := by decide +kernel
theorem dX0_consider_21 : decode cX0_consider 21 = .ok (.aload_n 0, 1) := by decide +kernel
theorem dX0_consider_22 : decode cX0_consider 22 = .ok (.iload_n 3, 1) := by decide +kernel
theorem dX0_consider_23 : decode cX0_consider 23 = .ok (.invokestatic 51, 3) := by decide +kernel
theorem dX0_consider_26 : decode cX0_consider 26 = .ok (.putfield 30, 3) := by decide +kernel
theorem dX0_consider_29 : decode cX0_consider 29 = .ok (.return_, 1) := by decide +kernel
theorem dX1_init_0 : decode cX1_init 0 = .ok (.aload_n 0, 1) := by decide +kernel
theorem dX1_init_1 : decode cX1_init 1 = .ok (.invokespecial 3, 3) := by decide +kernel
theorem dX1_init_4 : decode cX1_init 4 = .ok (.aload_n 0, 1) := by decide +kernel
theorem dX1_init_5 : decode cX1_init 5 = .ok (.new 9, 3) := by decide +kernel
theorem dX1_init_8 : decode cX1_init 8 = .ok (.dup, 1) := by decide +kernel
theorem dX1_init_9 : decode cX1_init 9 = .ok (.bipush 6, 2) := by decide +kernel
theorem dX1_init_11 : decode cX1_init 11 = .ok (.invokespecial 11, 3) := by decide +kernel
theorem dX1_init_14 : decode cX1_init 14 = .ok (.putfield 14, 3) := by decide +kernel
theorem dX1_init_17 : decode cX1_init 17 = .ok (.aload_n 0, 1) := by decide +kernel
theorem dX1_init_18 : decode cX1_init 18 = .ok (.new 9, 3) := by decide +kernel
theorem dX1_init_21 : decode cX1_init 21 = .ok (.dup, 1) := by decide +kernel
theorem dX1_init_22 : decode cX1_init 22 = .ok (.bipush 6, 2) := by decide +kernel
theorem dX1_init_24 : decode cX1_init 24 = .ok (.invokespecial 11, 3) := by decide +kernel
theorem dX1_init_27 : decode cX1_init 27 = .ok (.putfield 20, 3) := by decide +kernel
theorem dX1_init_30 : decode cX1_init 30 = .ok (.return_, 1) := by decide +kernel
theorem dX1_size_0 : decode cX1_size 0 = .ok (.aload_n 0, 1) := by decide +kernel
theorem dX1_size_1 : decode cX1_size 1 = .ok (.getfield 14, 3) := by decide +kernel
theorem dX1_size_4 : decode cX1_size 4 = .ok (.invokevirtual 23, 3) := by decide +kernel
theorem dX1_size_7 : decode cX1_size 7 = .ok (.ireturn, 1) := by decide +kernel
theorem dX1_placeOf_0 : decode cX1_placeOf 0 = .ok (.iconst 0, 1) := by decide +kernel
theorem dX1_placeOf_1 : decode cX1_placeOf 1 = .ok (.istore_n 2, 1) := by decide +kernel
theorem dX1_placeOf_2 : decode cX1_placeOf 2 = .ok (.iload_n 2, 1) := by decide +kernel
theorem dX1_placeOf_3 : decode cX1_placeOf 3 = .ok (.aload_n 0, 1) := by decide +kernel
theorem dX1_placeOf_4 : decode cX1_placeOf 4 = .ok (.getfield 14, 3) := by decide +kernel
theorem dX1_placeOf_7 : decode cX1_placeOf 7 = .ok (.invokevirtual 23, 3) := by decide +kernel
theorem dX1_placeOf_10 : decode cX1_placeOf 10 = .ok (.if_icmp .ge 21, 3) := by decide +kernel
theorem dX1_placeOf_13 : decode cX1_placeOf 13 = .ok (.aload_n 0, 1) := by decide +kernel
theorem dX1_placeOf_14 : decode cX1_placeOf 14 = .ok (.getfield 14, 3) := by decide +kernel
theorem dX1_placeOf_17 : decode cX1_placeOf 17 = .ok (.iload_n 2, 1) := by decide +kernel
theorem dX1_placeOf_18 : decode cX1_placeOf 18 = .ok (.invokevirtual 27, 3) := by decide +kernel
theorem dX1_placeOf_21 : decode cX1_placeOf 21 = .ok (.iload_n 1, 1) := by decide +kernel
theorem dX1_placeOf_22 : decode cX1_placeOf 22 = .ok (.if_icmp .ge 9, 3) := by decide +kernel
theorem dX1_placeOf_25 : decode cX1_placeOf 25 = .ok (.iinc 2 1, 3) := by decide +kernel
theorem dX1_placeOf_28 : decode cX1_placeOf 28 = .ok (.goto (-26), 3) := by decide +kernel
theorem dX1_placeOf_31 : decode cX1_placeOf 31 = .ok (.iload_n 2, 1) := by decide +kernel
theorem dX1_placeOf_32 : decode cX1_placeOf 32 = .ok (.ireturn, 1) := by decide +kernel
theorem dX1_isAt_0 : decode cX1_isAt 0 = .ok (.iload_n 1, 1) := by decide +kernel
theorem dX1_isAt_1 : decode cX1_isAt 1 = .ok (.aload_n 0, 1) := by decide +kernel
theorem dX1_isAt_2 : decode cX1_isAt 2 = .ok (.getfield 14, 3) := by decide +kernel
theorem dX1_isAt_5 : decode cX1_isAt 5 = .ok (.invokevirtual 23, 3) := by decide +kernel
theorem dX1_isAt_8 : decode cX1_isAt 8 = .ok (.if_icmp .ge 19, 3) := by decide +kernel
theorem dX1_isAt_11 : decode cX1_isAt 11 = .ok (.aload_n 0, 1) := by decide +kernel
theorem dX1_isAt_12 : decode cX1_isAt 12 = .ok (.getfield 14, 3) := by decide +kernel
theorem dX1_isAt_15 : decode cX1_isAt 15 = .ok (.iload_n 1, 1) := by decide +kernel
theorem dX1_isAt_16 : decode cX1_isAt 16 = .ok (.invokevirtual 27, 3) := by decide +kernel
theorem dX1_isAt_19 : decode cX1_isAt 19 = .ok (.iload_n 2, 1) := by decide +kernel
theorem dX1_isAt_20 : decode cX1_isAt 20 = .ok (.if_icmp .ne 7, 3) := by decide +kernel
theorem dX1_isAt_23 : decode cX1_isAt 23 = .ok (.iconst 1, 1) := by decide +kernel
theorem dX1_isAt_24 : decode cX1_isAt 24 = .ok (.goto 4, 3) := by decide +kernel
theorem dX1_isAt_27 : decode cX1_isAt 27 = .ok (.iconst 0, 1) := by decide +kernel
theorem dX1_isAt_28 : decode cX1_isAt 28 = .ok (.ireturn, 1) := by decide +kernel
theorem dX1_hasRoomFor_0 : decode cX1_hasRoomFor 0 = .ok (.aload_n 0, 1) := by decide +kernel
theorem dX1_hasRoomFor_1 : decode cX1_hasRoomFor 1 = .ok (.getfield 14, 3) := by decide +kernel
theorem dX1_hasRoomFor_4 : decode cX1_hasRoomFor 4 = .ok (.invokevirtual 23, 3) := by decide +kernel
theorem dX1_hasRoomFor_7 : decode cX1_hasRoomFor 7 = .ok (.bipush 6, 2) := by decide +kernel
theorem dX1_hasRoomFor_9 : decode cX1_hasRoomFor 9 = .ok (.if_icmp .lt 16, 3) := by decide +kernel
theorem dX1_hasRoomFor_12 : decode cX1_hasRoomFor 12 = .ok (.aload_n 0, 1) := by decide +kernel
theorem dX1_hasRoomFor_13 : decode cX1_hasRoomFor 13 = .ok (.aload_n 0, 1) := by decide +kernel
theorem dX1_hasRoomFor_14 : decode cX1_hasRoomFor 14 = .ok (.iload_n 1, 1) := by decide +kernel
theorem dX1_hasRoomFor_15 : decode cX1_hasRoomFor 15 = .ok (.invokevirtual 31, 3) := by decide +kernel
theorem dX1_hasRoomFor_18 : decode cX1_hasRoomFor 18 = .ok (.iload_n 1, 1) := by decide +kernel
theorem dX1_hasRoomFor_19 : decode cX1_hasRoomFor 19 = .ok (.invokevirtual 34, 3) := by decide +kernel
theorem dX1_hasRoomFor_22 : decode cX1_hasRoomFor 22 = .ok (.ifCond .eq 7, 3) := by decide +kernel
theorem dX1_hasRoomFor_25 : decode cX1_hasRoomFor 25 = .ok (.iconst 1, 1) := by decide +kernel
theorem dX1_hasRoomFor_26 : decode cX1_hasRoomFor 26 = .ok (.goto 4, 3) := by decide +kernel
theorem dX1_hasRoomFor_29 : decode cX1_hasRoomFor 29 = .ok (.iconst 0, 1) := by decide +kernel
theorem dX1_hasRoomFor_30 : decode cX1_hasRoomFor 30 = .ok (.ireturn, 1) := by decide +kernel
theorem dX1_mark_0 : decode cX1_mark 0 = .ok (.aload_n 0, 1) := by decide +kernel
theorem dX1_mark_1 : decode cX1_mark 1 = .ok (.iload_n 1, 1) := by decide +kernel
theorem dX1_mark_2 : decode cX1_mark 2 = .ok (.invokevirtual 31, 3) := by decide +kernel
theorem dX1_mark_5 : decode cX1_mark 5 = .ok (.istore_n 3, 1) := by decide +kernel
theorem dX1_mark_6 : decode cX1_mark 6 = .ok (.aload_n 0, 1) := by decide +kernel
theorem dX1_mark_7 : decode cX1_mark 7 = .ok (.iload_n 3, 1) := by decide +kernel
theorem dX1_mark_8 : decode cX1_mark 8 = .ok (.iload_n 1, 1) := by decide +kernel
theorem dX1_mark_9 : decode cX1_mark 9 = .ok (.invokevirtual 34, 3) := by decide +kernel
theorem dX1_mark_12 : decode cX1_mark 12 = .ok (.ifCond .eq 15, 3) := by decide +kernel
theorem dX1_mark_15 : decode cX1_mark 15 = .ok (.aload_n 0, 1) := by decide +kernel
theorem dX1_mark_16 : decode cX1_mark 16 = .ok (.getfield 20, 3) := by decide +kernel
theorem dX1_mark_19 : decode cX1_mark 19 = .ok (.iload_n 3, 1) := by decide +kernel
theorem dX1_mark_20 : decode cX1_mark 20 = .ok (.iload_n 2, 1) := by decide +kernel
theorem dX1_mark_21 : decode cX1_mark 21 = .ok (.invokevirtual 38, 3) := by decide +kernel
theorem dX1_mark_24 : decode cX1_mark 24 = .ok (.goto 21, 3) := by decide +kernel
theorem dX1_mark_27 : decode cX1_mark 27 = .ok (.aload_n 0, 1) := by decide +kernel
theorem dX1_mark_28 : decode cX1_mark 28 = .ok (.getfield 14, 3) := by decide +kernel
theorem dX1_mark_31 : decode cX1_mark 31 = .ok (.iload_n 3, 1) := by decide +kernel
theorem dX1_mark_32 : decode cX1_mark 32 = .ok (.iload_n 1, 1) := by decide +kernel
theorem dX1_mark_33 : decode cX1_mark 33 = .ok (.invokevirtual 42, 3) := by decide +kernel
theorem dX1_mark_36 : decode cX1_mark 36 = .ok (.aload_n 0, 1) := by decide +kernel
theorem dX1_mark_37 : decode cX1_mark 37 = .ok (.getfield 20, 3) := by decide +kernel
theorem dX1_mark_40 : decode cX1_mark 40 = .ok (.iload_n 3, 1) := by decide +kernel
theorem dX1_mark_41 : decode cX1_mark 41 = .ok (.iload_n 2, 1) := by decide +kernel
theorem dX1_mark_42 : decode cX1_mark 42 = .ok (.invokevirtual 42, 3) := by decide +kernel
theorem dX1_mark_45 : decode cX1_mark 45 = .ok (.return_, 1) := by decide +kernel
theorem dX1_unmark_0 : decode cX1_unmark 0 = .ok (.aload_n 0, 1) := by decide +kernel
theorem dX1_unmark_1 : decode cX1_unmark 1 = .ok (.iload_n 1, 1) := by decide +kernel
theorem dX1_unmark_2 : decode cX1_unmark 2 = .ok (.invokevirtual 31, 3) := by decide +kernel
theorem dX1_unmark_5 : decode cX1_unmark 5 = .ok (.istore_n 2, 1) := by decide +kernel
theorem dX1_unmark_6 : decode cX1_unmark 6 = .ok (.aload_n 0, 1) := by decide +kernel
theorem dX1_unmark_7 : decode cX1_unmark 7 = .ok (.iload_n 2, 1) := by decide +kernel
theorem dX1_unmark_8 : decode cX1_unmark 8 = .ok (.iload_n 1, 1) := by decide +kernel
theorem dX1_unmark_9 : decode cX1_unmark 9 = .ok (.invokevirtual 34, 3) := by decide +kernel
theorem dX1_unmark_12 : decode cX1_unmark 12 = .ok (.ifCond .eq 19, 3) := by decide +kernel
theorem dX1_unmark_15 : decode cX1_unmark 15 = .ok (.aload_n 0, 1) := by decide +kernel
theorem dX1_unmark_16 : decode cX1_unmark 16 = .ok (.getfield 14, 3) := by decide +kernel
theorem dX1_unmark_19 : decode cX1_unmark 19 = .ok (.iload_n 2, 1) := by decide +kernel
theorem dX1_unmark_20 : decode cX1_unmark 20 = .ok (.invokevirtual 45, 3) := by decide +kernel
theorem dX1_unmark_23 : decode cX1_unmark 23 = .ok (.aload_n 0, 1) := by decide +kernel
theorem dX1_unmark_24 : decode cX1_unmark 24 = .ok (.getfield 20, 3) := by decide +kernel
theorem dX1_unmark_27 : decode cX1_unmark 27 = .ok (.iload_n 2, 1) := by decide +kernel
theorem dX1_unmark_28 : decode cX1_unmark 28 = .ok (.invokevirtual 45, 3) := by decide +kernel
theorem dX1_unmark_31 : decode cX1_unmark 31 = .ok (.return_, 1) := by decide +kernel
theorem dX1_valueHoldingAt_0 : decode cX1_valueHoldingAt 0 = .ok (.iconst 0, 1) := by decide +kernel
theorem dX1_valueHoldingAt_1 : decode cX1_valueHoldingAt 1 = .ok (.istore_n 2, 1) := by decide +kernel
theorem dX1_valueHoldingAt_2 : decode cX1_valueHoldingAt 2 = .ok (.iconst 0, 1) := by decide +kernel
theorem dX1_valueHoldingAt_3 : decode cX1_valueHoldingAt 3 = .ok (.istore_n 3, 1) := by decide +kernel
theorem dX1_valueHoldingAt_4 : decode cX1_valueHoldingAt 4 = .ok (.iload_n 3, 1) := by decide +kernel
theorem dX1_valueHoldingAt_5 : decode cX1_valueHoldingAt 5 = .ok (.aload_n 0, 1) := by decide +kernel
theorem dX1_valueHoldingAt_6 : decode cX1_valueHoldingAt 6 = .ok (.getfield 14, 3) := by decide +kernel
theorem dX1_valueHoldingAt_9 : decode cX1_valueHoldingAt 9 = .ok (.invokevirtual 23, 3) := by decide +kernel
theorem dX1_valueHoldingAt_12 : decode cX1_valueHoldingAt 12 = .ok (.if_icmp .ge 30, 3) := by decide +kernel
theorem dX1_valueHoldingAt_15 : decode cX1_valueHoldingAt 15 = .ok (.aload_n 0, 1) := by decide +kernel
theorem dX1_valueHoldingAt_16 : decode cX1_valueHoldingAt 16 = .ok (.getfield 14, 3) := by decide +kernel
theorem dX1_valueHoldingAt_19 : decode cX1_valueHoldingAt 19 = .ok (.iload_n 3, 1) := by decide +kernel
theorem dX1_valueHoldingAt_20 : decode cX1_valueHoldingAt 20 = .ok (.invokevirtual 27, 3) := by decide +kernel
theorem dX1_valueHoldingAt_23 : decode cX1_valueHoldingAt 23 = .ok (.iload_n 1, 1) := by decide +kernel
theorem dX1_valueHoldingAt_24 : decode cX1_valueHoldingAt 24 = .ok (.if_icmp .gt 18, 3) := by decide +kernel
theorem dX1_valueHoldingAt_27 : decode cX1_valueHoldingAt 27 = .ok (.aload_n 0, 1) := by decide +kernel
theorem dX1_valueHoldingAt_28 : decode cX1_valueHoldingAt 28 = .ok (.getfield 20, 3) := by decide +kernel
theorem dX1_valueHoldingAt_31 : decode cX1_valueHoldingAt 31 = .ok (.iload_n 3, 1) := by decide +kernel
theorem dX1_valueHoldingAt_32 : decode cX1_valueHoldingAt 32 = .ok (.invokevirtual 27, 3) := by decide +kernel
theorem dX1_valueHoldingAt_35 : decode cX1_valueHoldingAt 35 = .ok (.istore_n 2, 1) := by decide +kernel
theorem dX1_valueHoldingAt_36 : decode cX1_valueHoldingAt 36 = .ok (.iinc 3 1, 3) := by decide +kernel
theorem dX1_valueHoldingAt_39 : decode cX1_valueHoldingAt 39 = .ok (.goto (-35), 3) := by decide +kernel
theorem dX1_valueHoldingAt_42 : decode cX1_valueHoldingAt 42 = .ok (.iload_n 2, 1) := by decide +kernel
theorem dX1_valueHoldingAt_43 : decode cX1_valueHoldingAt 43 = .ok (.ireturn, 1) := by decide +kernel
theorem dX1_takeFrom_0 : decode cX1_takeFrom 0 = .ok (.aload_n 0, 1) := by decide +kernel
theorem dX1_takeFrom_1 : decode cX1_takeFrom 1 = .ok (.getfield 14, 3) := by decide +kernel
theorem dX1_takeFrom_4 : decode cX1_takeFrom 4 = .ok (.aload_n 1, 1) := by decide +kernel
theorem dX1_takeFrom_5 : decode cX1_takeFrom 5 = .ok (.getfield 14, 3) := by decide +kernel
theorem dX1_takeFrom_8 : decode cX1_takeFrom 8 = .ok (.invokevirtual 48, 3) := by decide +kernel
theorem dX1_takeFrom_11 : decode cX1_takeFrom 11 = .ok (.aload_n 0, 1) := by decide +kernel
theorem dX1_takeFrom_12 : decode cX1_takeFrom 12 = .ok (.getfield 20, 3) := by decide +kernel
theorem dX1_takeFrom_15 : decode cX1_takeFrom 15 = .ok (.aload_n 1, 1) := by decide +kernel
theorem dX1_takeFrom_16 : decode cX1_takeFrom 16 = .ok (.getfield 20, 3) := by decide +kernel
theorem dX1_takeFrom_19 : decode cX1_takeFrom 19 = .ok (.invokevirtual 48, 3) := by decide +kernel
theorem dX1_takeFrom_22 : decode cX1_takeFrom 22 = .ok (.return_, 1) := by decide +kernel
theorem dX2_init_0 : decode cX2_init 0 = .ok (.aload_n 0, 1) := by decide +kernel
theorem dX2_init_1 : decode cX2_init 1 = .ok (.invokespecial 3, 3) := by decide +kernel
theorem dX2_init_4 : decode cX2_init 4 = .ok (.aload_n 0, 1) := by decide +kernel
theorem dX2_init_5 : decode cX2_init 5 = .ok (.new 9, 3) := by decide +kernel
theorem dX2_init_8 : decode cX2_init 8 = .ok (.dup, 1) := by decide +kernel
theorem dX2_init_9 : decode cX2_init 9 = .ok (.bipush 10, 2) := by decide +kernel
theorem dX2_init_11 : decode cX2_init 11 = .ok (.invokespecial 11, 3) := by decide +kernel
theorem dX2_init_14 : decode cX2_init 14 = .ok (.putfield 14, 3) := by decide +kernel
theorem dX2_init_17 : decode cX2_init 17 = .ok (.aload_n 0, 1) := by decide +kernel
theorem dX2_init_18 : decode cX2_init 18 = .ok (.new 9, 3) := by decide +kernel
theorem dX2_init_21 : decode cX2_init 21 = .ok (.dup, 1) := by decide +kernel
theorem dX2_init_22 : decode cX2_init 22 = .ok (.bipush 10, 2) := by decide +kernel
theorem dX2_init_24 : decode cX2_init 24 = .ok (.invokespecial 11, 3) := by decide +kernel
theorem dX2_init_27 : decode cX2_init 27 = .ok (.putfield 20, 3) := by decide +kernel
theorem dX2_init_30 : decode cX2_init 30 = .ok (.aload_n 0, 1) := by decide +kernel
theorem dX2_init_31 : decode cX2_init 31 = .ok (.new 9, 3) := by decide +kernel
theorem dX2_init_34 : decode cX2_init 34 = .ok (.dup, 1) := by decide +kernel
theorem dX2_init_35 : decode cX2_init 35 = .ok (.bipush 10, 2) := by decide +kernel
theorem dX2_init_37 : decode cX2_init 37 = .ok (.invokespecial 11, 3) := by decide +kernel
theorem dX2_init_40 : decode cX2_init 40 = .ok (.putfield 23, 3) := by decide +kernel
theorem dX2_init_43 : decode cX2_init 43 = .ok (.aload_n 0, 1) := by decide +kernel
theorem dX2_init_44 : decode cX2_init 44 = .ok (.new 9, 3) := by decide +kernel
theorem dX2_init_47 : decode cX2_init 47 = .ok (.dup, 1) := by decide +kernel
theorem dX2_init_48 : decode cX2_init 48 = .ok (.bipush 10, 2) := by decide +kernel
theorem dX2_init_50 : decode cX2_init 50 = .ok (.invokespecial 11, 3) := by decide +kernel
theorem dX2_init_53 : decode cX2_init 53 = .ok (.putfield 26, 3) := by decide +kernel
theorem dX2_init_56 : decode cX2_init 56 = .ok (.aload_n 0, 1) := by decide +kernel
theorem dX2_init_57 : decode cX2_init 57 = .ok (.new 29, 3) := by decide +kernel
theorem dX2_init_60 : decode cX2_init 60 = .ok (.dup, 1) := by decide +kernel
theorem dX2_init_61 : decode cX2_init 61 = .ok (.invokespecial 31, 3) := by decide +kernel
theorem dX2_init_64 : decode cX2_init 64 = .ok (.putfield 32, 3) := by decide +kernel
theorem dX2_init_67 : decode cX2_init 67 = .ok (.aload_n 0, 1) := by decide +kernel
theorem dX2_init_68 : decode cX2_init 68 = .ok (.new 29, 3) := by decide +kernel
theorem dX2_init_71 : decode cX2_init 71 = .ok (.dup, 1) := by decide +kernel
theorem dX2_init_72 : decode cX2_init 72 = .ok (.invokespecial 31, 3) := by decide +kernel
theorem dX2_init_75 : decode cX2_init 75 = .ok (.putfield 36, 3) := by decide +kernel
theorem dX2_init_78 : decode cX2_init 78 = .ok (.aload_n 0, 1) := by decide +kernel
theorem dX2_init_79 : decode cX2_init 79 = .ok (.getfield 32, 3) := by decide +kernel
theorem dX2_init_82 : decode cX2_init 82 = .ok (.iconst 0, 1) := by decide +kernel
theorem dX2_init_83 : decode cX2_init 83 = .ok (.bipush 16, 2) := by decide +kernel
theorem dX2_init_85 : decode cX2_init 85 = .ok (.invokevirtual 39, 3) := by decide +kernel
theorem dX2_init_88 : decode cX2_init 88 = .ok (.return_, 1) := by decide +kernel
theorem dX2_scenes_0 : decode cX2_scenes 0 = .ok (.aload_n 0, 1) := by decide +kernel
theorem dX2_scenes_1 : decode cX2_scenes 1 = .ok (.getfield 14, 3) := by decide +kernel
theorem dX2_scenes_4 : decode cX2_scenes 4 = .ok (.invokevirtual 43, 3) := by decide +kernel
theorem dX2_scenes_7 : decode cX2_scenes 7 = .ok (.ireturn, 1) := by decide +kernel
theorem dX2_hasCue_0 : decode cX2_hasCue 0 = .ok (.aload_n 0, 1) := by decide +kernel
theorem dX2_hasCue_1 : decode cX2_hasCue 1 = .ok (.getfield 20, 3) := by decide +kernel
theorem dX2_hasCue_4 : decode cX2_hasCue 4 = .ok (.iload_n 1, 1) := by decide +kernel
theorem dX2_hasCue_5 : decode cX2_hasCue 5 = .ok (.invokevirtual 47, 3) := by decide +kernel
theorem dX2_hasCue_8 : decode cX2_hasCue 8 = .ok (.ldc 51, 2) := by decide +kernel
theorem dX2_hasCue_10 : decode cX2_hasCue 10 = .ok (.if_icmp .eq 7, 3) := by decide +kernel
theorem dX2_hasCue_13 : decode cX2_hasCue 13 = .ok (.iconst 1, 1) := by decide +kernel
theorem dX2_hasCue_14 : decode cX2_hasCue 14 = .ok (.goto 4, 3) := by decide +kernel
theorem dX2_hasCue_17 : decode cX2_hasCue 17 = .ok (.iconst 0, 1) := by decide +kernel
theorem dX2_hasCue_18 : decode cX2_hasCue 18 = .ok (.ireturn, 1) := by decide +kernel
theorem dX2_extend_0 : decode cX2_extend 0 = .ok (.aload_n 0, 1) := by decide +kernel
theorem dX2_extend_1 : decode cX2_extend 1 = .ok (.getfield 14, 3) := by decide +kernel
theorem dX2_extend_4 : decode cX2_extend 4 = .ok (.iload_n 1, 1) := by decide +kernel
theorem dX2_extend_5 : decode cX2_extend 5 = .ok (.invokevirtual 52, 3) := by decide +kernel
theorem dX2_extend_8 : decode cX2_extend 8 = .ok (.aload_n 0, 1) := by decide +kernel
theorem dX2_extend_9 : decode cX2_extend 9 = .ok (.getfield 20, 3) := by decide +kernel
theorem dX2_extend_12 : decode cX2_extend 12 = .ok (.iload_n 2, 1) := by decide +kernel
theorem dX2_extend_13 : decode cX2_extend 13 = .ok (.invokevirtual 52, 3) := by decide +kernel
theorem dX2_extend_16 : decode cX2_extend 16 = .ok (.aload_n 0, 1) := by decide +kernel
theorem dX2_extend_17 : decode cX2_extend 17 = .ok (.getfield 23, 3) := by decide +kernel
theorem dX2_extend_20 : decode cX2_extend 20 = .ok (.iload_n 3, 1) := by decide +kernel
theorem dX2_extend_21 : decode cX2_extend 21 = .ok (.invokevirtual 52, 3) := by decide +kernel
theorem dX2_extend_24 : decode cX2_extend 24 = .ok (.aload_n 0, 1) := by decide +kernel
theorem dX2_extend_25 : decode cX2_extend 25 = .ok (.getfield 26, 3) := by decide +kernel
theorem dX2_extend_28 : decode cX2_extend 28 = .ok (.iload 4, 2) := by decide +kernel
theorem dX2_extend_30 : decode cX2_extend 30 = .ok (.invokevirtual 52, 3) := by decide +kernel
theorem dX2_extend_33 : decode cX2_extend 33 = .ok (.return_, 1) := by decide +kernel
theorem dX2_cutOut_0 : decode cX2_cutOut 0 = .ok (.aload_n 0, 1) := by decide +kernel
theorem dX2_cutOut_1 : decode cX2_cutOut 1 = .ok (.getfield 14, 3) := by decide +kernel
theorem dX2_cutOut_4 : decode cX2_cutOut 4 = .ok (.iload_n 1, 1) := by decide +kernel
theorem dX2_cutOut_5 : decode cX2_cutOut 5 = .ok (.invokevirtual 55, 3) := by decide +kernel
theorem dX2_cutOut_8 : decode cX2_cutOut 8 = .ok (.aload_n 0, 1) := by decide +kernel
theorem dX2_cutOut_9 : decode cX2_cutOut 9 = .ok (.getfield 20, 3) := by decide +kernel
theorem dX2_cutOut_12 : decode cX2_cutOut 12 = .ok (.iload_n 1, 1) := by decide +kernel
theorem dX2_cutOut_13 : decode cX2_cutOut 13 = .ok (.invokevirtual 55, 3) := by decide +kernel
theorem dX2_cutOut_16 : decode cX2_cutOut 16 = .ok (.aload_n 0, 1) := by decide +kernel
theorem dX2_cutOut_17 : decode cX2_cutOut 17 = .ok (.getfield 23, 3) := by decide +kernel
theorem dX2_cutOut_20 : decode cX2_cutOut 20 = .ok (.iload_n 1, 1) := by decide +kernel
theorem dX2_cutOut_21 : decode cX2_cutOut 21 = .ok (.invokevirtual 55, 3) := by decide +kernel
theorem dX2_cutOut_24 : decode cX2_cutOut 24 = .ok (.aload_n 0, 1) := by decide +kernel
theorem dX2_cutOut_25 : decode cX2_cutOut 25 = .ok (.getfield 26, 3) := by decide +kernel
theorem dX2_cutOut_28 : decode cX2_cutOut 28 = .ok (.iload_n 1, 1) := by decide +kernel
theorem dX2_cutOut_29 : decode cX2_cutOut 29 = .ok (.invokevirtual 55, 3) := by decide +kernel
theorem dX2_cutOut_32 : decode cX2_cutOut 32 = .ok (.return_, 1) := by decide +kernel
theorem dX2_giveCue_0 : decode cX2_giveCue 0 = .ok (.aload_n 0, 1) := by decide +kernel
theorem dX2_giveCue_1 : decode cX2_giveCue 1 = .ok (.getfield 20, 3) := by decide +kernel
theorem dX2_giveCue_4 : decode cX2_giveCue 4 = .ok (.iload_n 1, 1) := by decide +kernel
theorem dX2_giveCue_5 : decode cX2_giveCue 5 = .ok (.iload_n 2, 1) := by decide +kernel
theorem dX2_giveCue_6 : decode cX2_giveCue 6 = .ok (.invokevirtual 58, 3) := by decide +kernel
theorem dX2_giveCue_9 : decode cX2_giveCue 9 = .ok (.aload_n 0, 1) := by decide +kernel
theorem dX2_giveCue_10 : decode cX2_giveCue 10 = .ok (.getfield 23, 3) := by decide +kernel
theorem dX2_giveCue_13 : decode cX2_giveCue 13 = .ok (.iload_n 1, 1) := by decide +kernel
theorem dX2_giveCue_14 : decode cX2_giveCue 14 = .ok (.iload_n 3, 1) := by decide +kernel
theorem dX2_giveCue_15 : decode cX2_giveCue 15 = .ok (.invokevirtual 58, 3) := by decide +kernel
theorem dX2_giveCue_18 : decode cX2_giveCue 18 = .ok (.aload_n 0, 1) := by decide +kernel
theorem dX2_giveCue_19 : decode cX2_giveCue 19 = .ok (.getfield 26, 3) := by decide +kernel
theorem dX2_giveCue_22 : decode cX2_giveCue 22 = .ok (.iload_n 1, 1) := by decide +kernel
theorem dX2_giveCue_23 : decode cX2_giveCue 23 = .ok (.iload 4, 2) := by decide +kernel
theorem dX2_giveCue_25 : decode cX2_giveCue 25 = .ok (.invokevirtual 58, 3) := by decide +kernel
theorem dX2_giveCue_28 : decode cX2_giveCue 28 = .ok (.return_, 1) := by decide +kernel
theorem dX2_lostBetween_0 : decode cX2_lostBetween 0 = .ok (.iconst 0, 1) := by decide +kernel
theorem dX2_lostBetween_1 : decode cX2_lostBetween 1 = .ok (.istore_n 3, 1) := by decide +kernel
theorem dX2_lostBetween_2 : decode cX2_lostBetween 2 = .ok (.iload_n 1, 1) := by decide +kernel
theorem dX2_lostBetween_3 : decode cX2_lostBetween 3 = .ok (.istore 4, 2) := by decide +kernel
theorem dX2_lostBetween_5 : decode cX2_lostBetween 5 = .ok (.iconst 0, 1) := by decide +kernel
theorem dX2_lostBetween_6 : decode cX2_lostBetween 6 = .ok (.istore 5, 2) := by decide +kernel
theorem dX2_lostBetween_8 : decode cX2_lostBetween 8 = .ok (.iload 5, 2) := by decide +kernel
theorem dX2_lostBetween_10 : decode cX2_lostBetween 10 = .ok (.aload_n 0, 1) := by decide +kernel
theorem dX2_lostBetween_11 : decode cX2_lostBetween 11 = .ok (.getfield 36, 3) := by decide +kernel
theorem dX2_lostBetween_14 : decode cX2_lostBetween 14 = .ok (.getfield 61, 3) := by decide +kernel
theorem dX2_lostBetween_17 : decode cX2_lostBetween 17 = .ok (.invokevirtual 43, 3) := by decide +kernel
theorem dX2_lostBetween_20 : decode cX2_lostBetween 20 = .ok (.if_icmp .ge 72, 3) := by decide +kernel
theorem dX2_lostBetween_23 : decode cX2_lostBetween 23 = .ok (.aload_n 0, 1) := by decide +kernel
theorem dX2_lostBetween_24 : decode cX2_lostBetween 24 = .ok (.getfield 36, 3) := by decide +kernel
theorem dX2_lostBetween_27 : decode cX2_lostBetween 27 = .ok (.getfield 61, 3) := by decide +kernel
theorem dX2_lostBetween_30 : decode cX2_lostBetween 30 = .ok (.iload 5, 2) := by decide +kernel
theorem dX2_lostBetween_32 : decode cX2_lostBetween 32 = .ok (.invokevirtual 47, 3) := by decide +kernel
theorem dX2_lostBetween_35 : decode cX2_lostBetween 35 = .ok (.istore 6, 2) := by decide +kernel
theorem dX2_lostBetween_37 : decode cX2_lostBetween 37 = .ok (.iload 6, 2) := by decide +kernel
theorem dX2_lostBetween_39 : decode cX2_lostBetween 39 = .ok (.iload 4, 2) := by decide +kernel
theorem dX2_lostBetween_41 : decode cX2_lostBetween 41 = .ok (.invokestatic 64, 3) := by decide +kernel
theorem dX2_lostBetween_44 : decode cX2_lostBetween 44 = .ok (.istore 7, 2) := by decide +kernel
theorem dX2_lostBetween_46 : decode cX2_lostBetween 46 = .ok (.iload 6, 2) := by decide +kernel
theorem dX2_lostBetween_48 : decode cX2_lostBetween 48 = .ok (.aload_n 0, 1) := by decide +kernel
theorem dX2_lostBetween_49 : decode cX2_lostBetween 49 = .ok (.getfield 36, 3) := by decide +kernel
theorem dX2_lostBetween_52 : decode cX2_lostBetween 52 = .ok (.getfield 70, 3) := by decide +kernel
theorem dX2_lostBetween_55 : decode cX2_lostBetween 55 = .ok (.iload 5, 2) := by decide +kernel
theorem dX2_lostBetween_57 : decode cX2_lostBetween 57 = .ok (.invokevirtual 47, 3) := by decide +kernel
theorem dX2_lostBetween_60 : decode cX2_lostBetween 60 = .ok (.iadd, 1) := by decide +kernel
theorem dX2_lostBetween_61 : decode cX2_lostBetween 61 = .ok (.iload_n 2, 1) := by decide +kernel
theorem dX2_lostBetween_62 : decode cX2_lostBetween 62 = .ok (.invokestatic 73, 3) := by decide +kernel
theorem dX2_lostBetween_65 : decode cX2_lostBetween 65 = .ok (.istore 8, 2) := by decide +kernel
theorem dX2_lostBetween_67 : decode cX2_lostBetween 67 = .ok (.iload 8, 2) := by decide +kernel
theorem dX2_lostBetween_69 : decode cX2_lostBetween 69 = .ok (.iload 7, 2) := by decide +kernel
theorem dX2_lostBetween_71 : decode cX2_lostBetween 71 = .ok (.if_icmp .le 15, 3) := by decide +kernel
theorem dX2_lostBetween_74 : decode cX2_lostBetween 74 = .ok (.iload_n 3, 1) := by decide +kernel
theorem dX2_lostBetween_75 : decode cX2_lostBetween 75 = .ok (.iload 8, 2) := by decide +kernel
theorem dX2_lostBetween_77 : decode cX2_lostBetween 77 = .ok (.iload 7, 2) := by decide +kernel
theorem dX2_lostBetween_79 : decode cX2_lostBetween 79 = .ok (.isub, 1) := by decide +kernel
theorem dX2_lostBetween_80 : decode cX2_lostBetween 80 = .ok (.iadd, 1) := by decide +kernel
theorem dX2_lostBetween_81 : decode cX2_lostBetween 81 = .ok (.istore_n 3, 1) := by decide +kernel
theorem dX2_lostBetween_82 : decode cX2_lostBetween 82 = .ok (.iload 8, 2) := by decide +kernel
theorem dX2_lostBetween_84 : decode cX2_lostBetween 84 = .ok (.istore 4, 2) := by decide +kernel
theorem dX2_lostBetween_86 : decode cX2_lostBetween 86 = .ok (.iinc 5 1, 3) := by decide +kernel
theorem dX2_lostBetween_89 : decode cX2_lostBetween 89 = .ok (.goto (-81), 3) := by decide +kernel
theorem dX2_lostBetween_92 : decode cX2_lostBetween 92 = .ok (.iload_n 3, 1) := by decide +kernel
theorem dX2_lostBetween_93 : decode cX2_lostBetween 93 = .ok (.ireturn, 1) := by decide +kernel
theorem dX2_footTime_0 : decode cX2_footTime 0 = .ok (.iload_n 0, 1) := by decide +kernel
theorem dX2_footTime_1 : decode cX2_footTime 1 = .ok (.ifCond .gt 7, 3) := by decide +kernel
theorem dX2_footTime_4 : decode cX2_footTime 4 = .ok (.iconst 0, 1) := by decide +kernel
theorem dX2_footTime_5 : decode cX2_footTime 5 = .ok (.goto 8, 3) := by decide +kernel
theorem dX2_footTime_8 : decode cX2_footTime 8 = .ok (.sipush 160, 3) := by decide +kernel
theorem dX2_footTime_11 : decode cX2_footTime 11 = .ok (.iload_n 0, 1) := by decide +kernel
theorem dX2_footTime_12 : decode cX2_footTime 12 = .ok (.idiv, 1) := by decide +kernel
theorem dX2_footTime_13 : decode cX2_footTime 13 = .ok (.ireturn, 1) := by decide +kernel
theorem dX2_timeBetween_0 : decode cX2_timeBetween 0 = .ok (.iload_n 3, 1) := by decide +kernel
theorem dX2_timeBetween_1 : decode cX2_timeBetween 1 = .ok (.ifCond .eq 19, 3) := by decide +kernel
theorem dX2_timeBetween_4 : decode cX2_timeBetween 4 = .ok (.iload_n 2, 1) := by decide +kernel
theorem dX2_timeBetween_5 : decode cX2_timeBetween 5 = .ok (.iload_n 1, 1) := by decide +kernel
theorem dX2_timeBetween_6 : decode cX2_timeBetween 6 = .ok (.isub, 1) := by decide +kernel
theorem dX2_timeBetween_7 : decode cX2_timeBetween 7 = .ok (.aload_n 0, 1) := by decide +kernel
theorem dX2_timeBetween_8 : decode cX2_timeBetween 8 = .ok (.iload_n 1, 1) := by decide +kernel
theorem dX2_timeBetween_9 : decode cX2_timeBetween 9 = .ok (.iload_n 2, 1) := by decide +kernel
theorem dX2_timeBetween_10 : decode cX2_timeBetween 10 = .ok (.invokevirtual 76, 3) := by decide +kernel
theorem dX2_timeBetween_13 : decode cX2_timeBetween 13 = .ok (.isub, 1) := by decide +kernel
theorem dX2_timeBetween_14 : decode cX2_timeBetween 14 = .ok (.iload_n 3, 1) := by decide +kernel
theorem dX2_timeBetween_15 : decode cX2_timeBetween 15 = .ok (.invokestatic 79, 3) := by decide +kernel
theorem dX2_timeBetween_18 : decode cX2_timeBetween 18 = .ok (.imul, 1) := by decide +kernel
theorem dX2_timeBetween_19 : decode cX2_timeBetween 19 = .ok (.ireturn, 1) := by decide +kernel
theorem dX2_timeBetween_20 : decode cX2_timeBetween 20 = .ok (.iconst 0, 1) := by decide +kernel
theorem dX2_timeBetween_21 : decode cX2_timeBetween 21 = .ok (.istore 4, 2) := by decide +kernel
theorem dX2_timeBetween_23 : decode cX2_timeBetween 23 = .ok (.aload_n 0, 1) := by decide +kernel
theorem dX2_timeBetween_24 : decode cX2_timeBetween 24 = .ok (.getfield 32, 3) := by decide +kernel
theorem dX2_timeBetween_27 : decode cX2_timeBetween 27 = .ok (.getfield 61, 3) := by decide +kernel
theorem dX2_timeBetween_30 : decode cX2_timeBetween 30 = .ok (.invokevirtual 43, 3) := by decide +kernel
theorem dX2_timeBetween_33 : decode cX2_timeBetween 33 = .ok (.iconst 1, 1) := by decide +kernel
theorem dX2_timeBetween_34 : decode cX2_timeBetween 34 = .ok (.isub, 1) := by decide +kernel
theorem dX2_timeBetween_35 : decode cX2_timeBetween 35 = .ok (.istore 5, 2) := by decide +kernel
theorem dX2_timeBetween_37 : decode cX2_timeBetween 37 = .ok (.iconst 0, 1) := by decide +kernel
theorem dX2_timeBetween_38 : decode cX2_timeBetween 38 = .ok (.istore 6, 2) := by decide +kernel
theorem dX2_timeBetween_40 : decode cX2_timeBetween 40 = .ok (.iload 6, 2) := by decide +kernel
theorem dX2_timeBetween_42 : decode cX2_timeBetween 42 = .ok (.iload 5, 2) := by decide +kernel
theorem dX2_timeBetween_44 : decode cX2_timeBetween 44 = .ok (.if_icmp .gt 100, 3) := by decide +kernel
theorem dX2_timeBetween_47 : decode cX2_timeBetween 47 = .ok (.iload_n 1, 1) := by decide +kernel
theorem dX2_timeBetween_48 : decode cX2_timeBetween 48 = .ok (.aload_n 0, 1) := by decide +kernel
theorem dX2_timeBetween_49 : decode cX2_timeBetween 49 = .ok (.getfield 32, 3) := by decide +kernel
theorem dX2_timeBetween_52 : decode cX2_timeBetween 52 = .ok (.getfield 61, 3) := by decide +kernel
theorem dX2_timeBetween_55 : decode cX2_timeBetween 55 = .ok (.iload 6, 2) := by decide +kernel
theorem dX2_timeBetween_57 : decode cX2_timeBetween 57 = .ok (.invokevirtual 47, 3) := by decide +kernel
theorem dX2_timeBetween_60 : decode cX2_timeBetween 60 = .ok (.invokestatic 64, 3) := by decide +kernel
theorem dX2_timeBetween_63 : decode cX2_timeBetween 63 = .ok (.istore 7, 2) := by decide +kernel
theorem dX2_timeBetween_65 : decode cX2_timeBetween 65 = .ok (.iload 6, 2) := by decide +kernel
theorem dX2_timeBetween_67 : decode cX2_timeBetween 67 = .ok (.iload 5, 2) := by decide +kernel
theorem dX2_timeBetween_69 : decode cX2_timeBetween 69 = .ok (.if_icmp .ge 24, 3) := by decide +kernel
theorem dX2_timeBetween_72 : decode cX2_timeBetween 72 = .ok (.iload_n 2, 1) := by decide +kernel
theorem dX2_timeBetween_73 : decode cX2_timeBetween 73 = .ok (.aload_n 0, 1) := by decide +kernel
theorem dX2_timeBetween_74 : decode cX2_timeBetween 74 = .ok (.getfield 32, 3) := by decide +kernel
theorem dX2_timeBetween_77 : decode cX2_timeBetween 77 = .ok (.getfield 61, 3) := by decide +kernel
theorem dX2_timeBetween_80 : decode cX2_timeBetween 80 = .ok (.iload 6, 2) := by decide +kernel
theorem dX2_timeBetween_82 : decode cX2_timeBetween 82 = .ok (.iconst 1, 1) := by decide +kernel
theorem dX2_timeBetween_83 : decode cX2_timeBetween 83 = .ok (.iadd, 1) := by decide +kernel
theorem dX2_timeBetween_84 : decode cX2_timeBetween 84 = .ok (.invokevirtual 47, 3) := by decide +kernel
theorem dX2_timeBetween_87 : decode cX2_timeBetween 87 = .ok (.invokestatic 73, 3) := by decide +kernel
theorem dX2_timeBetween_90 : decode cX2_timeBetween 90 = .ok (.goto 4, 3) := by decide +kernel
theorem dX2_timeBetween_93 : decode cX2_timeBetween 93 = .ok (.iload_n 2, 1) := by decide +kernel
theorem dX2_timeBetween_94 : decode cX2_timeBetween 94 = .ok (.istore 8, 2) := by decide +kernel
theorem dX2_timeBetween_96 : decode cX2_timeBetween 96 = .ok (.iload 7, 2) := by decide +kernel
theorem dX2_timeBetween_98 : decode cX2_timeBetween 98 = .ok (.iload 8, 2) := by decide +kernel
theorem dX2_timeBetween_100 : decode cX2_timeBetween 100 = .ok (.if_icmp .ge 38, 3) := by decide +kernel
theorem dX2_timeBetween_103 : decode cX2_timeBetween 103 = .ok (.iload 4, 2) := by decide +kernel
theorem dX2_timeBetween_105 : decode cX2_timeBetween 105 = .ok (.iload 8, 2) := by decide +kernel
theorem dX2_timeBetween_107 : decode cX2_timeBetween 107 = .ok (.iload 7, 2) := by decide +kernel
theorem dX2_timeBetween_109 : decode cX2_timeBetween 109 = .ok (.isub, 1) := by decide +kernel
theorem dX2_timeBetween_110 : decode cX2_timeBetween 110 = .ok (.aload_n 0, 1) := by decide +kernel
theorem dX2_timeBetween_111 : decode cX2_timeBetween 111 = .ok (.iload 7, 2) := by decide +kernel
theorem dX2_timeBetween_113 : decode cX2_timeBetween 113 = .ok (.iload 8, 2) := by decide +kernel
theorem dX2_timeBetween_115 : decode cX2_timeBetween 115 = .ok (.invokevirtual 76, 3) := by decide +kernel
theorem dX2_timeBetween_118 : decode cX2_timeBetween 118 = .ok (.isub, 1) := by decide +kernel
theorem dX2_timeBetween_119 : decode cX2_timeBetween 119 = .ok (.aload_n 0, 1) := by decide +kernel
theorem dX2_timeBetween_120 : decode cX2_timeBetween 120 = .ok (.getfield 32, 3) := by decide +kernel
theorem dX2_timeBetween_123 : decode cX2_timeBetween 123 = .ok (.getfield 70, 3) := by decide +kernel
theorem dX2_timeBetween_126 : decode cX2_timeBetween 126 = .ok (.iload 6, 2) := by decide +kernel
theorem dX2_timeBetween_128 : decode cX2_timeBetween 128 = .ok (.invokevirtual 47, 3) := by decide +kernel
theorem dX2_timeBetween_131 : decode cX2_timeBetween 131 = .ok (.invokestatic 79, 3) := by decide +kernel
theorem dX2_timeBetween_134 : decode cX2_timeBetween 134 = .ok (.imul, 1) := by decide +kernel
theorem dX2_timeBetween_135 : decode cX2_timeBetween 135 = .ok (.iadd, 1) := by decide +kernel
theorem dX2_timeBetween_136 : decode cX2_timeBetween 136 = .ok (.istore 4, 2) := by decide +kernel
theorem dX2_timeBetween_138 : decode cX2_timeBetween 138 = .ok (.iinc 6 1, 3) := by decide +kernel
theorem dX2_timeBetween_141 : decode cX2_timeBetween 141 = .ok (.goto (-101), 3) := by decide +kernel
theorem dX2_timeBetween_144 : decode cX2_timeBetween 144 = .ok (.iload 4, 2) := by decide +kernel
theorem dX2_timeBetween_146 : decode cX2_timeBetween 146 = .ok (.ireturn, 1) := by decide +kernel
theorem dX2_takeFrom_0 : decode cX2_takeFrom 0 = .ok (.aload_n 0, 1) := by decide +kernel
theorem dX2_takeFrom_1 : decode cX2_takeFrom 1 = .ok (.getfield 14, 3) := by decide +kernel
theorem dX2_takeFrom_4 : decode cX2_takeFrom 4 = .ok (.aload_n 1, 1) := by decide +kernel
theorem dX2_takeFrom_5 : decode cX2_takeFrom 5 = .ok (.getfield 14, 3) := by decide +kernel
theorem dX2_takeFrom_8 : decode cX2_takeFrom 8 = .ok (.invokevirtual 82, 3) := by decide +kernel
theorem dX2_takeFrom_11 : decode cX2_takeFrom 11 = .ok (.aload_n 0, 1) := by decide +kernel
theorem dX2_takeFrom_12 : decode cX2_takeFrom 12 = .ok (.getfield 20, 3) := by decide +kernel
theorem dX2_takeFrom_15 : decode cX2_takeFrom 15 = .ok (.aload_n 1, 1) := by decide +kernel
theorem dX2_takeFrom_16 : decode cX2_takeFrom 16 = .ok (.getfield 20, 3) := by decide +kernel
theorem dX2_takeFrom_19 : decode cX2_takeFrom 19 = .ok (.invokevirtual 82, 3) := by decide +kernel
theorem dX2_takeFrom_22 : decode cX2_takeFrom 22 = .ok (.aload_n 0, 1) := by decide +kernel
theorem dX2_takeFrom_23 : decode cX2_takeFrom 23 = .ok (.getfield 23, 3) := by decide +kernel
theorem dX2_takeFrom_26 : decode cX2_takeFrom 26 = .ok (.aload_n 1, 1) := by decide +kernel
theorem dX2_takeFrom_27 : decode cX2_takeFrom 27 = .ok (.getfield 23, 3) := by decide +kernel
theorem dX2_takeFrom_30 : decode cX2_takeFrom 30 = .ok (.invokevirtual 82, 3) := by decide +kernel
theorem dX2_takeFrom_33 : decode cX2_takeFrom 33 = .ok (.aload_n 0, 1) := by decide +kernel
theorem dX2_takeFrom_34 : decode cX2_takeFrom 34 = .ok (.getfield 26, 3) := by decide +kernel
theorem dX2_takeFrom_37 : decode cX2_takeFrom 37 = .ok (.aload_n 1, 1) := by decide +kernel
theorem dX2_takeFrom_38 : decode cX2_takeFrom 38 = .ok (.getfield 26, 3) := by decide +kernel
theorem dX2_takeFrom_41 : decode cX2_takeFrom 41 = .ok (.invokevirtual 82, 3) := by decide +kernel
theorem dX2_takeFrom_44 : decode cX2_takeFrom 44 = .ok (.aload_n 0, 1) := by decide +kernel
theorem dX2_takeFrom_45 : decode cX2_takeFrom 45 = .ok (.getfield 32, 3) := by decide +kernel
theorem dX2_takeFrom_48 : decode cX2_takeFrom 48 = .ok (.aload_n 1, 1) := by decide +kernel
theorem dX2_takeFrom_49 : decode cX2_takeFrom 49 = .ok (.getfield 32, 3) := by decide +kernel
theorem dX2_takeFrom_52 : decode cX2_takeFrom 52 = .ok (.invokevirtual 86, 3) := by decide +kernel
theorem dX2_takeFrom_55 : decode cX2_takeFrom 55 = .ok (.aload_n 0, 1) := by decide +kernel
theorem dX2_takeFrom_56 : decode cX2_takeFrom 56 = .ok (.getfield 36, 3) := by decide +kernel
theorem dX2_takeFrom_59 : decode cX2_takeFrom 59 = .ok (.aload_n 1, 1) := by decide +kernel
theorem dX2_takeFrom_60 : decode cX2_takeFrom 60 = .ok (.getfield 36, 3) := by decide +kernel
theorem dX2_takeFrom_63 : decode cX2_takeFrom 63 = .ok (.invokevirtual 86, 3) := by decide +kernel
theorem dX2_takeFrom_66 : decode cX2_takeFrom 66 = .ok (.return_, 1) := by decide +kernel
theorem dX3_init_0 : decode cX3_init 0 = .ok (.aload_n 0, 1) := by decide +kernel
theorem dX3_init_1 : decode cX3_init 1 = .ok (.invokespecial 1, 3) := by decide +kernel
theorem dX3_init_4 : decode cX3_init 4 = .ok (.aload_n 0, 1) := by decide +kernel
theorem dX3_init_5 : decode cX3_init 5 = .ok (.iload_n 1, 1) := by decide +kernel
theorem dX3_init_6 : decode cX3_init 6 = .ok (.ifCond .ge 7, 3) := by decide +kernel
theorem dX3_init_9 : decode cX3_init 9 = .ok (.iconst 0, 1) := by decide +kernel
theorem dX3_init_10 : decode cX3_init 10 = .ok (.goto 4, 3) := by decide +kernel
theorem dX3_init_13 : decode cX3_init 13 = .ok (.iload_n 1, 1) := by decide +kernel
theorem dX3_init_14 : decode cX3_init 14 = .ok (.newarray .int, 2) := by decide +kernel
theorem dX3_init_16 : decode cX3_init 16 = .ok (.putfield 7, 3) := by decide +kernel
theorem dX3_init_19 : decode cX3_init 19 = .ok (.return_, 1) := by decide +kernel
theorem dX3_size_0 : decode cX3_size 0 = .ok (.aload_n 0, 1) := by decide +kernel
theorem dX3_size_1 : decode cX3_size 1 = .ok (.getfield 13, 3) := by decide +kernel
theorem dX3_size_4 : decode cX3_size 4 = .ok (.ireturn, 1) := by decide +kernel
theorem dX3_at_0 : decode cX3_at 0 = .ok (.iload_n 1, 1) := by decide +kernel
theorem dX3_at_1 : decode cX3_at 1 = .ok (.ifCond .lt 29, 3) := by decide +kernel
theorem dX3_at_4 : decode cX3_at 4 = .ok (.iload_n 1, 1) := by decide +kernel
theorem dX3_at_5 : decode cX3_at 5 = .ok (.aload_n 0, 1) := by decide +kernel
theorem dX3_at_6 : decode cX3_at 6 = .ok (.getfield 13, 3) := by decide +kernel
theorem dX3_at_9 : decode cX3_at 9 = .ok (.if_icmp .ge 21, 3) := by decide +kernel
theorem dX3_at_12 : decode cX3_at 12 = .ok (.iload_n 1, 1) := by decide +kernel
theorem dX3_at_13 : decode cX3_at 13 = .ok (.aload_n 0, 1) := by decide +kernel
theorem dX3_at_14 : decode cX3_at 14 = .ok (.getfield 7, 3) := by decide +kernel
theorem dX3_at_17 : decode cX3_at 17 = .ok (.arraylength, 1) := by decide +kernel
theorem dX3_at_18 : decode cX3_at 18 = .ok (.if_icmp .ge 12, 3) := by decide +kernel
theorem dX3_at_21 : decode cX3_at 21 = .ok (.aload_n 0, 1) := by decide +kernel
theorem dX3_at_22 : decode cX3_at 22 = .ok (.getfield 7, 3) := by decide +kernel
theorem dX3_at_25 : decode cX3_at 25 = .ok (.iload_n 1, 1) := by decide +kernel
theorem dX3_at_26 : decode cX3_at 26 = .ok (.iaload, 1) := by decide +kernel
theorem dX3_at_27 : decode cX3_at 27 = .ok (.goto 4, 3) := by decide +kernel
theorem dX3_at_30 : decode cX3_at 30 = .ok (.iconst 0, 1) := by decide +kernel
theorem dX3_at_31 : decode cX3_at 31 = .ok (.ireturn, 1) := by decide +kernel
theorem dX3_put_0 : decode cX3_put 0 = .ok (.iload_n 1, 1) := by decide +kernel
theorem dX3_put_1 : decode cX3_put 1 = .ok (.ifCond .lt 27, 3) := by decide +kernel
theorem dX3_put_4 : decode cX3_put 4 = .ok (.iload_n 1, 1) := by decide +kernel
theorem dX3_put_5 : decode cX3_put 5 = .ok (.aload_n 0, 1) := by decide +kernel
theorem dX3_put_6 : decode cX3_put 6 = .ok (.getfield 13, 3) := by decide +kernel
theorem dX3_put_9 : decode cX3_put 9 = .ok (.if_icmp .ge 19, 3) := by decide +kernel
theorem dX3_put_12 : decode cX3_put 12 = .ok (.iload_n 1, 1) := by decide +kernel
theorem dX3_put_13 : decode cX3_put 13 = .ok (.aload_n 0, 1) := by decide +kernel
theorem dX3_put_14 : decode cX3_put 14 = .ok (.getfield 7, 3) := by decide +kernel
theorem dX3_put_17 : decode cX3_put 17 = .ok (.arraylength, 1) := by decide +kernel
theorem dX3_put_18 : decode cX3_put 18 = .ok (.if_icmp .ge 10, 3) := by decide +kernel
theorem dX3_put_21 : decode cX3_put 21 = .ok (.aload_n 0, 1) := by decide +kernel
theorem dX3_put_22 : decode cX3_put 22 = .ok (.getfield 7, 3) := by decide +kernel
theorem dX3_put_25 : decode cX3_put 25 = .ok (.iload_n 1, 1) := by decide +kernel
theorem dX3_put_26 : decode cX3_put 26 = .ok (.iload_n 2, 1) := by decide +kernel
theorem dX3_put_27 : decode cX3_put 27 = .ok (.iastore, 1) := by decide +kernel
theorem dX3_put_28 : decode cX3_put 28 = .ok (.return_, 1) := by decide +kernel
theorem dX3_add_0 : decode cX3_add 0 = .ok (.aload_n 0, 1) := by decide +kernel
theorem dX3_add_1 : decode cX3_add 1 = .ok (.getfield 13, 3) := by decide +kernel
theorem dX3_add_4 : decode cX3_add 4 = .ok (.ifCond .lt 35, 3) := by decide +kernel
theorem dX3_add_7 : decode cX3_add 7 = .ok (.aload_n 0, 1) := by decide +kernel
theorem dX3_add_8 : decode cX3_add 8 = .ok (.getfield 13, 3) := by decide +kernel
theorem dX3_add_11 : decode cX3_add 11 = .ok (.aload_n 0, 1) := by decide +kernel
theorem dX3_add_12 : decode cX3_add 12 = .ok (.getfield 7, 3) := by decide +kernel
theorem dX3_add_15 : decode cX3_add 15 = .ok (.arraylength, 1) := by decide +kernel
theorem dX3_add_16 : decode cX3_add 16 = .ok (.if_icmp .ge 23, 3) := by decide +kernel
theorem dX3_add_19 : decode cX3_add 19 = .ok (.aload_n 0, 1) := by decide +kernel
theorem dX3_add_20 : decode cX3_add 20 = .ok (.getfield 7, 3) := by decide +kernel
theorem dX3_add_23 : decode cX3_add 23 = .ok (.aload_n 0, 1) := by decide +kernel
theorem dX3_add_24 : decode cX3_add 24 = .ok (.getfield 13, 3) := by decide +kernel
theorem dX3_add_27 : decode cX3_add 27 = .ok (.iload_n 1, 1) := by decide +kernel
theorem dX3_add_28 : decode cX3_add 28 = .ok (.iastore, 1) := by decide +kernel
theorem dX3_add_29 : decode cX3_add 29 = .ok (.aload_n 0, 1) := by decide +kernel
theorem dX3_add_30 : decode cX3_add 30 = .ok (.dup, 1) := by decide +kernel
theorem dX3_add_31 : decode cX3_add 31 = .ok (.getfield 13, 3) := by decide +kernel
theorem dX3_add_34 : decode cX3_add 34 = .ok (.iconst 1, 1) := by decide +kernel
theorem dX3_add_35 : decode cX3_add 35 = .ok (.iadd, 1) := by decide +kernel
theorem dX3_add_36 : decode cX3_add 36 = .ok (.putfield 13, 3) := by decide +kernel
theorem dX3_add_39 : decode cX3_add 39 = .ok (.return_, 1) := by decide +kernel
theorem dX3_insert_0 : decode cX3_insert 0 = .ok (.aload_n 0, 1) := by decide +kernel
theorem dX3_insert_1 : decode cX3_insert 1 = .ok (.iload_n 2, 1) := by decide +kernel
theorem dX3_insert_2 : decode cX3_insert 2 = .ok (.invokevirtual 17, 3) := by decide +kernel
theorem dX3_insert_5 : decode cX3_insert 5 = .ok (.aload_n 0, 1) := by decide +kernel
theorem dX3_insert_6 : decode cX3_insert 6 = .ok (.getfield 13, 3) := by decide +kernel
theorem dX3_insert_9 : decode cX3_insert 9 = .ok (.iconst 1, 1) := by decide +kernel
theorem dX3_insert_10 : decode cX3_insert 10 = .ok (.isub, 1) := by decide +kernel
theorem dX3_insert_11 : decode cX3_insert 11 = .ok (.istore_n 3, 1) := by decide +kernel
theorem dX3_insert_12 : decode cX3_insert 12 = .ok (.iload_n 3, 1) := by decide +kernel
theorem dX3_insert_13 : decode cX3_insert 13 = .ok (.iload_n 1, 1) := by decide +kernel
theorem dX3_insert_14 : decode cX3_insert 14 = .ok (.if_icmp .le 25, 3) := by decide +kernel
theorem dX3_insert_17 : decode cX3_insert 17 = .ok (.iload_n 3, 1) := by decide +kernel
theorem dX3_insert_18 : decode cX3_insert 18 = .ok (.ifCond .le 21, 3) := by decide +kernel
theorem dX3_insert_21 : decode cX3_insert 21 = .ok (.aload_n 0, 1) := by decide +kernel
theorem dX3_insert_22 : decode cX3_insert 22 = .ok (.iload_n 3, 1) := by decide +kernel
theorem dX3_insert_23 : decode cX3_insert 23 = .ok (.aload_n 0, 1) := by decide +kernel
theorem dX3_insert_24 : decode cX3_insert 24 = .ok (.iload_n 3, 1) := by decide +kernel
theorem dX3_insert_25 : decode cX3_insert 25 = .ok (.iconst 1, 1) := by decide +kernel
theorem dX3_insert_26 : decode cX3_insert 26 = .ok (.isub, 1) := by decide +kernel
theorem dX3_insert_27 : decode cX3_insert 27 = .ok (.invokevirtual 21, 3) := by decide +kernel
theorem dX3_insert_30 : decode cX3_insert 30 = .ok (.invokevirtual 25, 3) := by decide +kernel
theorem dX3_insert_33 : decode cX3_insert 33 = .ok (.iinc 3 (-1), 3) := by decide +kernel
theorem dX3_insert_36 : decode cX3_insert 36 = .ok (.goto (-24), 3) := by decide +kernel
theorem dX3_insert_39 : decode cX3_insert 39 = .ok (.aload_n 0, 1) := by decide +kernel
theorem dX3_insert_40 : decode cX3_insert 40 = .ok (.iload_n 1, 1) := by decide +kernel
theorem dX3_insert_41 : decode cX3_insert 41 = .ok (.iload_n 2, 1) := by decide +kernel
theorem dX3_insert_42 : decode cX3_insert 42 = .ok (.invokevirtual 25, 3) := by decide +kernel
theorem dX3_insert_45 : decode cX3_insert 45 = .ok (.return_, 1) := by decide +kernel
theorem dX3_remove_0 : decode cX3_remove 0 = .ok (.iload_n 1, 1) := by decide +kernel
theorem dX3_remove_1 : decode cX3_remove 1 = .ok (.ifCond .lt 11, 3) := by decide +kernel
theorem dX3_remove_4 : decode cX3_remove 4 = .ok (.iload_n 1, 1) := by decide +kernel
theorem dX3_remove_5 : decode cX3_remove 5 = .ok (.aload_n 0, 1) := by decide +kernel
theorem dX3_remove_6 : decode cX3_remove 6 = .ok (.getfield 13, 3) := by decide +kernel
theorem dX3_remove_9 : decode cX3_remove 9 = .ok (.if_icmp .lt 4, 3) := by decide +kernel
theorem dX3_remove_12 : decode cX3_remove 12 = .ok (.return_, 1) := by decide +kernel
theorem dX3_remove_13 : decode cX3_remove 13 = .ok (.iload_n 1, 1) := by decide +kernel
theorem dX3_remove_14 : decode cX3_remove 14 = .ok (.istore_n 2, 1) := by decide +kernel
theorem dX3_remove_15 : decode cX3_remove 15 = .ok (.iload_n 2, 1) := by decide +kernel
theorem dX3_remove_16 : decode cX3_remove 16 = .ok (.aload_n 0, 1) := by decide +kernel
theorem dX3_remove_17 : decode cX3_remove 17 = .ok (.getfield 13, 3) := by decide +kernel
theorem dX3_remove_20 : decode cX3_remove 20 = .ok (.iconst 1, 1) := by decide +kernel
theorem dX3_remove_21 : decode cX3_remove 21 = .ok (.isub, 1) := by decide +kernel
theorem dX3_remove_22 : decode cX3_remove 22 = .ok (.if_icmp .ge 21, 3) := by decide +kernel
theorem dX3_remove_25 : decode cX3_remove 25 = .ok (.aload_n 0, 1) := by decide +kernel
theorem dX3_remove_26 : decode cX3_remove 26 = .ok (.iload_n 2, 1) := by decide +kernel
theorem dX3_remove_27 : decode cX3_remove 27 = .ok (.aload_n 0, 1) := by decide +kernel
theorem dX3_remove_28 : decode cX3_remove 28 = .ok (.iload_n 2, 1) := by decide +kernel
theorem dX3_remove_29 : decode cX3_remove 29 = .ok (.iconst 1, 1) := by decide +kernel
theorem dX3_remove_30 : decode cX3_remove 30 = .ok (.iadd, 1) := by decide +kernel
theorem dX3_remove_31 : decode cX3_remove 31 = .ok (.invokevirtual 21, 3) := by decide +kernel
theorem dX3_remove_34 : decode cX3_remove 34 = .ok (.invokevirtual 25, 3) := by decide +kernel
theorem dX3_remove_37 : decode cX3_remove 37 = .ok (.iinc 2 1, 3) := by decide +kernel
theorem dX3_remove_40 : decode cX3_remove 40 = .ok (.goto (-25), 3) := by decide +kernel
theorem dX3_remove_43 : decode cX3_remove 43 = .ok (.aload_n 0, 1) := by decide +kernel
theorem dX3_remove_44 : decode cX3_remove 44 = .ok (.dup, 1) := by decide +kernel
theorem dX3_remove_45 : decode cX3_remove 45 = .ok (.getfield 13, 3) := by decide +kernel
theorem dX3_remove_48 : decode cX3_remove 48 = .ok (.iconst 1, 1) := by decide +kernel
theorem dX3_remove_49 : decode cX3_remove 49 = .ok (.isub, 1) := by decide +kernel
theorem dX3_remove_50 : decode cX3_remove 50 = .ok (.putfield 13, 3) := by decide +kernel
theorem dX3_remove_53 : decode cX3_remove 53 = .ok (.return_, 1) := by decide +kernel
theorem dX3_clear_0 : decode cX3_clear 0 = .ok (.aload_n 0, 1) := by decide +kernel
theorem dX3_clear_1 : decode cX3_clear 1 = .ok (.iconst 0, 1) := by decide +kernel
theorem dX3_clear_2 : decode cX3_clear 2 = .ok (.putfield 13, 3) := by decide +kernel
theorem dX3_clear_5 : decode cX3_clear 5 = .ok (.return_, 1) := by decide +kernel
theorem dX3_takeFrom_0 : decode cX3_takeFrom 0 = .ok (.aload_n 0, 1) := by decide +kernel
theorem dX3_takeFrom_1 : decode cX3_takeFrom 1 = .ok (.invokevirtual 29, 3) := by decide +kernel
theorem dX3_takeFrom_4 : decode cX3_takeFrom 4 = .ok (.iconst 0, 1) := by decide +kernel
theorem dX3_takeFrom_5 : decode cX3_takeFrom 5 = .ok (.istore_n 2, 1) := by decide +kernel
theorem dX3_takeFrom_6 : decode cX3_takeFrom 6 = .ok (.iload_n 2, 1) := by decide +kernel
theorem dX3_takeFrom_7 : decode cX3_takeFrom 7 = .ok (.aload_n 1, 1) := by decide +kernel
theorem dX3_takeFrom_8 : decode cX3_takeFrom 8 = .ok (.getfield 13, 3) := by decide +kernel
theorem dX3_takeFrom_11 : decode cX3_takeFrom 11 = .ok (.if_icmp .ge 18, 3) := by decide +kernel
theorem dX3_takeFrom_14 : decode cX3_takeFrom 14 = .ok (.aload_n 0, 1) := by decide +kernel
theorem dX3_takeFrom_15 : decode cX3_takeFrom 15 = .ok (.aload_n 1, 1) := by decide +kernel
theorem dX3_takeFrom_16 : decode cX3_takeFrom 16 = .ok (.iload_n 2, 1) := by decide +kernel
theorem dX3_takeFrom_17 : decode cX3_takeFrom 17 = .ok (.invokevirtual 21, 3) := by decide +kernel
theorem dX3_takeFrom_20 : decode cX3_takeFrom 20 = .ok (.invokevirtual 17, 3) := by decide +kernel
theorem dX3_takeFrom_23 : decode cX3_takeFrom 23 = .ok (.iinc 2 1, 3) := by decide +kernel
theorem dX3_takeFrom_26 : decode cX3_takeFrom 26 = .ok (.goto (-20), 3) := by decide +kernel
theorem dX3_takeFrom_29 : decode cX3_takeFrom 29 = .ok (.return_, 1) := by decide +kernel
theorem dX4_init_0 : decode cX4_init 0 = .ok (.aload_n 0, 1) := by decide +kernel
theorem dX4_init_1 : decode cX4_init 1 = .ok (.invokespecial 3, 3) := by decide +kernel
theorem dX4_init_4 : decode cX4_init 4 = .ok (.aload_n 0, 1) := by decide +kernel
theorem dX4_init_5 : decode cX4_init 5 = .ok (.new 9, 3) := by decide +kernel
theorem dX4_init_8 : decode cX4_init 8 = .ok (.dup, 1) := by decide +kernel
theorem dX4_init_9 : decode cX4_init 9 = .ok (.bipush 60, 2) := by decide +kernel
theorem dX4_init_11 : decode cX4_init 11 = .ok (.invokespecial 11, 3) := by decide +kernel
theorem dX4_init_14 : decode cX4_init 14 = .ok (.putfield 14, 3) := by decide +kernel
theorem dX4_init_17 : decode cX4_init 17 = .ok (.aload_n 0, 1) := by decide +kernel
theorem dX4_init_18 : decode cX4_init 18 = .ok (.new 9, 3) := by decide +kernel
theorem dX4_init_21 : decode cX4_init 21 = .ok (.dup, 1) := by decide +kernel
theorem dX4_init_22 : decode cX4_init 22 = .ok (.bipush 60, 2) := by decide +kernel
theorem dX4_init_24 : decode cX4_init 24 = .ok (.invokespecial 11, 3) := by decide +kernel
theorem dX4_init_27 : decode cX4_init 27 = .ok (.putfield 20, 3) := by decide +kernel
theorem dX4_init_30 : decode cX4_init 30 = .ok (.aload_n 0, 1) := by decide +kernel
theorem dX4_init_31 : decode cX4_init 31 = .ok (.new 9, 3) := by decide +kernel
theorem dX4_init_34 : decode cX4_init 34 = .ok (.dup, 1) := by decide +kernel
theorem dX4_init_35 : decode cX4_init 35 = .ok (.bipush 60, 2) := by decide +kernel
theorem dX4_init_37 : decode cX4_init 37 = .ok (.invokespecial 11, 3) := by decide +kernel
theorem dX4_init_40 : decode cX4_init 40 = .ok (.putfield 23, 3) := by decide +kernel
theorem dX4_init_43 : decode cX4_init 43 = .ok (.aload_n 0, 1) := by decide +kernel
theorem dX4_init_44 : decode cX4_init 44 = .ok (.new 9, 3) := by decide +kernel
theorem dX4_init_47 : decode cX4_init 47 = .ok (.dup, 1) := by decide +kernel
theorem dX4_init_48 : decode cX4_init 48 = .ok (.bipush 60, 2) := by decide +kernel
theorem dX4_init_50 : decode cX4_init 50 = .ok (.invokespecial 11, 3) := by decide +kernel
theorem dX4_init_53 : decode cX4_init 53 = .ok (.putfield 26, 3) := by decide +kernel
theorem dX4_init_56 : decode cX4_init 56 = .ok (.return_, 1) := by decide +kernel
theorem dX4_scenes_0 : decode cX4_scenes 0 = .ok (.aload_n 0, 1) := by decide +kernel
theorem dX4_scenes_1 : decode cX4_scenes 1 = .ok (.getfield 14, 3) := by decide +kernel
theorem dX4_scenes_4 : decode cX4_scenes 4 = .ok (.invokevirtual 29, 3) := by decide +kernel
theorem dX4_scenes_7 : decode cX4_scenes 7 = .ok (.ireturn, 1) := by decide +kernel
theorem dX4_begin_0 : decode cX4_begin 0 = .ok (.aload_n 0, 1) := by decide +kernel
theorem dX4_begin_1 : decode cX4_begin 1 = .ok (.getfield 14, 3) := by decide +kernel
theorem dX4_begin_4 : decode cX4_begin 4 = .ok (.invokevirtual 33, 3) := by decide +kernel
theorem dX4_begin_7 : decode cX4_begin 7 = .ok (.aload_n 0, 1) := by decide +kernel
theorem dX4_begin_8 : decode cX4_begin 8 = .ok (.getfield 20, 3) := by decide +kernel
theorem dX4_begin_11 : decode cX4_begin 11 = .ok (.invokevirtual 33, 3) := by decide +kernel
theorem dX4_begin_14 : decode cX4_begin 14 = .ok (.aload_n 0, 1) := by decide +kernel
theorem dX4_begin_15 : decode cX4_begin 15 = .ok (.getfield 23, 3) := by decide +kernel
theorem dX4_begin_18 : decode cX4_begin 18 = .ok (.invokevirtual 33, 3) := by decide +kernel
theorem dX4_begin_21 : decode cX4_begin 21 = .ok (.aload_n 0, 1) := by decide +kernel
theorem dX4_begin_22 : decode cX4_begin 22 = .ok (.getfield 26, 3) := by decide +kernel
theorem dX4_begin_25 : decode cX4_begin 25 = .ok (.invokevirtual 33, 3) := by decide +kernel
theorem dX4_begin_28 : decode cX4_begin 28 = .ok (.aload_n 0, 1) := by decide +kernel
theorem dX4_begin_29 : decode cX4_begin 29 = .ok (.invokevirtual 36, 3) := by decide +kernel
theorem dX4_begin_32 : decode cX4_begin 32 = .ok (.return_, 1) := by decide +kernel
theorem dX4_beginScene_0 : decode cX4_beginScene 0 = .ok (.aload_n 0, 1) := by decide +kernel
theorem dX4_beginScene_1 : decode cX4_beginScene 1 = .ok (.getfield 14, 3) := by decide +kernel
theorem dX4_beginScene_4 : decode cX4_beginScene 4 = .ok (.iconst 0, 1) := by decide +kernel
theorem dX4_beginScene_5 : decode cX4_beginScene 5 = .ok (.invokevirtual 39, 3) := by decide +kernel
theorem dX4_beginScene_8 : decode cX4_beginScene 8 = .ok (.aload_n 0, 1) := by decide +kernel
theorem dX4_beginScene_9 : decode cX4_beginScene 9 = .ok (.getfield 20, 3) := by decide +kernel
theorem dX4_beginScene_12 : decode cX4_beginScene 12 = .ok (.ldc 42, 2) := by decide +kernel
theorem dX4_beginScene_14 : decode cX4_beginScene 14 = .ok (.invokevirtual 39, 3) := by decide +kernel
theorem dX4_beginScene_17 : decode cX4_beginScene 17 = .ok (.aload_n 0, 1) := by decide +kernel
theorem dX4_beginScene_18 : decode cX4_beginScene 18 = .ok (.getfield 23, 3) := by decide +kernel
theorem dX4_beginScene_21 : decode cX4_beginScene 21 = .ok (.iconst 0, 1) := by decide +kernel
theorem dX4_beginScene_22 : decode cX4_beginScene 22 = .ok (.invokevirtual 39, 3) := by decide +kernel
theorem dX4_beginScene_25 : decode cX4_beginScene 25 = .ok (.aload_n 0, 1) := by decide +kernel
theorem dX4_beginScene_26 : decode cX4_beginScene 26 = .ok (.getfield 26, 3) := by decide +kernel
theorem dX4_beginScene_29 : decode cX4_beginScene 29 = .ok (.iconst 0, 1) := by decide +kernel
theorem dX4_beginScene_30 : decode cX4_beginScene 30 = .ok (.invokevirtual 39, 3) := by decide +kernel
theorem dX4_beginScene_33 : decode cX4_beginScene 33 = .ok (.aload_n 0, 1) := by decide +kernel
theorem dX4_beginScene_34 : decode cX4_beginScene 34 = .ok (.iconst 0, 1) := by decide +kernel
theorem dX4_beginScene_35 : decode cX4_beginScene 35 = .ok (.putfield 43, 3) := by decide +kernel
theorem dX4_beginScene_38 : decode cX4_beginScene 38 = .ok (.return_, 1) := by decide +kernel
theorem dX4_latest_0 : decode cX4_latest 0 = .ok (.aload_n 0, 1) := by decide +kernel
theorem dX4_latest_1 : decode cX4_latest 1 = .ok (.getfield 14, 3) := by decide +kernel
theorem dX4_latest_4 : decode cX4_latest 4 = .ok (.invokevirtual 29, 3) := by decide +kernel
theorem dX4_latest_7 : decode cX4_latest 7 = .ok (.iconst 1, 1) := by decide +kernel
theorem dX4_latest_8 : decode cX4_latest 8 = .ok (.isub, 1) := by decide +kernel
theorem dX4_latest_9 : decode cX4_latest 9 = .ok (.ireturn, 1) := by decide +kernel
theorem dX4_isComplete_0 : decode cX4_isComplete 0 = .ok (.aload_n 0, 1) := by decide +kernel
theorem dX4_isComplete_1 : decode cX4_isComplete 1 = .ok (.getfield 43, 3) := by decide +kernel
theorem dX4_isComplete_4 : decode cX4_isComplete 4 = .ok (.lookupswitch 80 #[(0, 36), (4, 56), (5, 58)], 36) := by decide +kernel
theorem dX4_isComplete_40 : decode cX4_isComplete 40 = .ok (.aload_n 0, 1) := by decide +kernel
theorem dX4_isComplete_41 : decode cX4_isComplete 41 = .ok (.getfield 14, 3) := by decide +kernel
theorem dX4_isComplete_44 : decode cX4_isComplete 44 = .ok (.aload_n 0, 1) := by decide +kernel
theorem dX4_isComplete_45 : decode cX4_isComplete 45 = .ok (.invokevirtual 47, 3) := by decide +kernel
theorem dX4_isComplete_48 : decode cX4_isComplete 48 = .ok (.invokevirtual 50, 3) := by decide +kernel
theorem dX4_isComplete_51 : decode cX4_isComplete 51 = .ok (.ifCond .le 7, 3) := by decide +kernel
theorem dX4_isComplete_54 : decode cX4_isComplete 54 = .ok (.iconst 1, 1) := by decide +kernel
theorem dX4_isComplete_55 : decode cX4_isComplete 55 = .ok (.goto 4, 3) := by decide +kernel
theorem dX4_isComplete_58 : decode cX4_isComplete 58 = .ok (.iconst 0, 1) := by decide +kernel
theorem dX4_isComplete_59 : decode cX4_isComplete 59 = .ok (.ireturn, 1) := by decide +kernel
theorem dX4_isComplete_60 : decode cX4_isComplete 60 = .ok (.iconst 1, 1) := by decide +kernel
theorem dX4_isComplete_61 : decode cX4_isComplete 61 = .ok (.ireturn, 1) := by decide +kernel
theorem dX4_isComplete_62 : decode cX4_isComplete 62 = .ok (.aload_n 0, 1) := by decide +kernel
theorem dX4_isComplete_63 : decode cX4_isComplete 63 = .ok (.getfield 26, 3) := by decide +kernel
theorem dX4_isComplete_66 : decode cX4_isComplete 66 = .ok (.aload_n 0, 1) := by decide +kernel
theorem dX4_isComplete_67 : decode cX4_isComplete 67 = .ok (.invokevirtual 47, 3) := by decide +kernel
theorem dX4_isComplete_70 : decode cX4_isComplete 70 = .ok (.invokevirtual 50, 3) := by decide +kernel
theorem dX4_isComplete_73 : decode cX4_isComplete 73 = .ok (.bipush 80, 2) := by decide +kernel
theorem dX4_isComplete_75 : decode cX4_isComplete 75 = .ok (.if_icmp .lt 7, 3) := by decide +kernel
theorem dX4_isComplete_78 : decode cX4_isComplete 78 = .ok (.iconst 1, 1) := by decide +kernel
theorem dX4_isComplete_79 : decode cX4_isComplete 79 = .ok (.goto 4, 3) := by decide +kernel
theorem dX4_isComplete_82 : decode cX4_isComplete 82 = .ok (.iconst 0, 1) := by decide +kernel
theorem dX4_isComplete_83 : decode cX4_isComplete 83 = .ok (.ireturn, 1) := by decide +kernel
theorem dX4_isComplete_84 : decode cX4_isComplete 84 = .ok (.iconst 0, 1) := by decide +kernel
theorem dX4_isComplete_85 : decode cX4_isComplete 85 = .ok (.ireturn, 1) := by decide +kernel
theorem dX4_read_0 : decode cX4_read 0 = .ok (.iload_n 1, 1) := by decide +kernel
theorem dX4_read_1 : decode cX4_read 1 = .ok (.lookupswitch 97 #[(44, 43), (58, 48), (64, 92), (120, 73)], 43) := by decide +kernel
theorem dX4_read_44 : decode cX4_read 44 = .ok (.aload_n 0, 1) := by decide +kernel
theorem dX4_read_45 : decode cX4_read 45 = .ok (.invokevirtual 54, 3) := by decide +kernel
theorem dX4_read_48 : decode cX4_read 48 = .ok (.ireturn, 1) := by decide +kernel
theorem dX4_read_49 : decode cX4_read 49 = .ok (.aload_n 0, 1) := by decide +kernel
theorem dX4_read_50 : decode cX4_read 50 = .ok (.aload_n 0, 1) := by decide +kernel
theorem dX4_read_51 : decode cX4_read 51 = .ok (.getfield 43, 3) := by decide +kernel
theorem dX4_read_54 : decode cX4_read 54 = .ok (.ifCond .ne 14, 3) := by decide +kernel
theorem dX4_read_57 : decode cX4_read 57 = .ok (.aload_n 0, 1) := by decide +kernel
theorem dX4_read_58 : decode cX4_read 58 = .ok (.invokevirtual 58, 3) := by decide +kernel
theorem dX4_read_61 : decode cX4_read 61 = .ok (.ifCond .eq 7, 3) := by decide +kernel
theorem dX4_read_64 : decode cX4_read 64 = .ok (.iconst 1, 1) := by decide +kernel
theorem dX4_read_65 : decode cX4_read 65 = .ok (.goto 4, 3) := by decide +kernel
theorem dX4_read_68 : decode cX4_read 68 = .ok (.iconst 0, 1) := by decide +kernel
theorem dX4_read_69 : decode cX4_read 69 = .ok (.iconst 1, 1) := by decide +kernel
theorem dX4_read_70 : decode cX4_read 70 = .ok (.invokevirtual 61, 3) := by decide +kernel
theorem dX4_read_73 : decode cX4_read 73 = .ok (.ireturn, 1) := by decide +kernel
theorem dX4_read_74 : decode cX4_read 74 = .ok (.aload_n 0, 1) := by decide +kernel
theorem dX4_read_75 : decode cX4_read 75 = .ok (.aload_n 0, 1) := by decide +kernel
theorem dX4_read_76 : decode cX4_read 76 = .ok (.getfield 43, 3) := by decide +kernel
theorem dX4_read_79 : decode cX4_read 79 = .ok (.iconst 2, 1) := by decide +kernel
theorem dX4_read_80 : decode cX4_read 80 = .ok (.if_icmp .ne 7, 3) := by decide +kernel
theorem dX4_read_83 : decode cX4_read 83 = .ok (.iconst 1, 1) := by decide +kernel
theorem dX4_read_84 : decode cX4_read 84 = .ok (.goto 4, 3) := by decide +kernel
theorem dX4_read_87 : decode cX4_read 87 = .ok (.iconst 0, 1) := by decide +kernel
theorem dX4_read_88 : decode cX4_read 88 = .ok (.iconst 3, 1) := by decide +kernel
theorem dX4_read_89 : decode cX4_read 89 = .ok (.invokevirtual 61, 3) := by decide +kernel
theorem dX4_read_92 : decode cX4_read 92 = .ok (.ireturn, 1) := by decide +kernel
theorem dX4_read_93 : decode cX4_read 93 = .ok (.aload_n 0, 1) := by decide +kernel
theorem dX4_read_94 : decode cX4_read 94 = .ok (.invokevirtual 65, 3) := by decide +kernel
theorem dX4_read_97 : decode cX4_read 97 = .ok (.ireturn, 1) := by decide +kernel
theorem dX4_read_98 : decode cX4_read 98 = .ok (.iload_n 1, 1) := by decide +kernel
theorem dX4_read_99 : decode cX4_read 99 = .ok (.bipush 48, 2) := by decide +kernel
theorem dX4_read_101 : decode cX4_read 101 = .ok (.if_icmp .lt 24, 3) := by decide +kernel
theorem dX4_read_104 : decode cX4_read 104 = .ok (.iload_n 1, 1) := by decide +kernel
theorem dX4_read_105 : decode cX4_read 105 = .ok (.bipush 57, 2) := by decide +kernel
theorem dX4_read_107 : decode cX4_read 107 = .ok (.if_icmp .gt 18, 3) := by decide +kernel
theorem dX4_read_110 : decode cX4_read 110 = .ok (.aload_n 0, 1) := by decide +kernel
theorem dX4_read_111 : decode cX4_read 111 = .ok (.iload_n 1, 1) := by decide +kernel
theorem dX4_read_112 : decode cX4_read 112 = .ok (.bipush 48, 2) := by decide +kernel
theorem dX4_read_114 : decode cX4_read 114 = .ok (.isub, 1) := by decide +kernel
theorem dX4_read_115 : decode cX4_read 115 = .ok (.invokevirtual 68, 3) := by decide +kernel
theorem dX4_read_118 : decode cX4_read 118 = .ok (.ifCond .eq 7, 3) := by decide +kernel
theorem dX4_read_121 : decode cX4_read 121 = .ok (.iconst 1, 1) := by decide +kernel
theorem dX4_read_122 : decode cX4_read 122 = .ok (.goto 4, 3) := by decide +kernel
theorem dX4_read_125 : decode cX4_read 125 = .ok (.iconst 0, 1) := by decide +kernel
theorem dX4_read_126 : decode cX4_read 126 = .ok (.ireturn, 1) := by decide +kernel
theorem dX4_step_0 : decode cX4_step 0 = .ok (.iload_n 1, 1) := by decide +kernel
theorem dX4_step_1 : decode cX4_step 1 = .ok (.ifCond .eq 8, 3) := by decide +kernel
theorem dX4_step_4 : decode cX4_step 4 = .ok (.aload_n 0, 1) := by decide +kernel
theorem dX4_step_5 : decode cX4_step 5 = .ok (.iload_n 2, 1) := by decide +kernel
theorem dX4_step_6 : decode cX4_step 6 = .ok (.putfield 43, 3) := by decide +kernel
theorem dX4_step_9 : decode cX4_step 9 = .ok (.iload_n 1, 1) := by decide +kernel
theorem dX4_step_10 : decode cX4_step 10 = .ok (.ireturn, 1) := by decide +kernel
theorem dX4_readComma_0 : decode cX4_readComma 0 = .ok (.aload_n 0, 1) := by decide +kernel
theorem dX4_readComma_1 : decode cX4_readComma 1 = .ok (.invokevirtual 58, 3) := by decide +kernel
theorem dX4_readComma_4 : decode cX4_readComma 4 = .ok (.ifCond .ne 5, 3) := by decide +kernel
theorem dX4_readComma_7 : decode cX4_readComma 7 = .ok (.iconst 0, 1) := by decide +kernel
theorem dX4_readComma_8 : decode cX4_readComma 8 = .ok (.ireturn, 1) := by decide +kernel
theorem dX4_readComma_9 : decode cX4_readComma 9 = .ok (.aload_n 0, 1) := by decide +kernel
theorem dX4_readComma_10 : decode cX4_readComma 10 = .ok (.invokevirtual 36, 3) := by decide +kernel
theorem dX4_readComma_13 : decode cX4_readComma 13 = .ok (.iconst 1, 1) := by decide +kernel
theorem dX4_readComma_14 : decode cX4_readComma 14 = .ok (.ireturn, 1) := by decide +kernel
theorem dX4_readAtSign_0 : decode cX4_readAtSign 0 = .ok (.aload_n 0, 1) := by decide +kernel
theorem dX4_readAtSign_1 : decode cX4_readAtSign 1 = .ok (.getfield 43, 3) := by decide +kernel
theorem dX4_readAtSign_4 : decode cX4_readAtSign 4 = .ok (.iconst 4, 1) := by decide +kernel
theorem dX4_readAtSign_5 : decode cX4_readAtSign 5 = .ok (.if_icmp .ne 15, 3) := by decide +kernel
theorem dX4_readAtSign_8 : decode cX4_readAtSign 8 = .ok (.aload_n 0, 1) := by decide +kernel
theorem dX4_readAtSign_9 : decode cX4_readAtSign 9 = .ok (.getfield 26, 3) := by decide +kernel
theorem dX4_readAtSign_12 : decode cX4_readAtSign 12 = .ok (.aload_n 0, 1) := by decide +kernel
theorem dX4_readAtSign_13 : decode cX4_readAtSign 13 = .ok (.invokevirtual 47, 3) := by decide +kernel
theorem dX4_readAtSign_16 : decode cX4_readAtSign 16 = .ok (.iconst 0, 1) := by decide +kernel
theorem dX4_readAtSign_17 : decode cX4_readAtSign 17 = .ok (.invokevirtual 72, 3) := by decide +kernel
theorem dX4_readAtSign_20 : decode cX4_readAtSign 20 = .ok (.aload_n 0, 1) := by decide +kernel
theorem dX4_readAtSign_21 : decode cX4_readAtSign 21 = .ok (.aload_n 0, 1) := by decide +kernel
theorem dX4_readAtSign_22 : decode cX4_readAtSign 22 = .ok (.getfield 43, 3) := by decide +kernel
theorem dX4_readAtSign_25 : decode cX4_readAtSign 25 = .ok (.iconst 4, 1) := by decide +kernel
theorem dX4_readAtSign_26 : decode cX4_readAtSign 26 = .ok (.if_icmp .ne 7, 3) := by decide +kernel
theorem dX4_readAtSign_29 : decode cX4_readAtSign 29 = .ok (.iconst 1, 1) := by decide +kernel
theorem dX4_readAtSign_30 : decode cX4_readAtSign 30 = .ok (.goto 4, 3) := by decide +kernel
theorem dX4_readAtSign_33 : decode cX4_readAtSign 33 = .ok (.iconst 0, 1) := by decide +kernel
theorem dX4_readAtSign_34 : decode cX4_readAtSign 34 = .ok (.iconst 5, 1) := by decide +kernel
theorem dX4_readAtSign_35 : decode cX4_readAtSign 35 = .ok (.invokevirtual 61, 3) := by decide +kernel
theorem dX4_readAtSign_38 : decode cX4_readAtSign 38 = .ok (.ireturn, 1) := by decide +kernel
theorem dX4_readDigit_0 : decode cX4_readDigit 0 = .ok (.aload_n 0, 1) := by decide +kernel
theorem dX4_readDigit_1 : decode cX4_readDigit 1 = .ok (.getfield 43, 3) := by decide +kernel
theorem dX4_readDigit_4 : decode cX4_readDigit 4 = .ok (.tableswitch 138 0 5 #[40, 54, 138, 83, 138, 124], 40) := by decide +kernel
theorem dX4_readDigit_44 : decode cX4_readDigit 44 = .ok (.aload_n 0, 1) := by decide +kernel
theorem dX4_readDigit_45 : decode cX4_readDigit 45 = .ok (.aload_n 0, 1) := by decide +kernel
theorem dX4_readDigit_46 : decode cX4_readDigit 46 = .ok (.getfield 14, 3) := by decide +kernel
theorem dX4_readDigit_49 : decode cX4_readDigit 49 = .ok (.iload_n 1, 1) := by decide +kernel
theorem dX4_readDigit_50 : decode cX4_readDigit 50 = .ok (.iconst 1, 1) := by decide +kernel
theorem dX4_readDigit_51 : decode cX4_readDigit 51 = .ok (.sipush 900, 3) := by decide +kernel
theorem dX4_readDigit_54 : decode cX4_readDigit 54 = .ok (.invokevirtual 76, 3) := by decide +kernel
theorem dX4_readDigit_57 : decode cX4_readDigit 57 = .ok (.ireturn, 1) := by decide +kernel
theorem dX4_readDigit_58 : decode cX4_readDigit 58 = .ok (.aload_n 0, 1) := by decide +kernel
theorem dX4_readDigit_59 : decode cX4_readDigit 59 = .ok (.getfield 20, 3) := by decide +kernel
theorem dX4_readDigit_62 : decode cX4_readDigit 62 = .ok (.aload_n 0, 1) := by decide +kernel
theorem dX4_readDigit_63 : decode cX4_readDigit 63 = .ok (.invokevirtual 47, 3) := by decide +kernel
theorem dX4_readDigit_66 : decode cX4_readDigit 66 = .ok (.iload_n 1, 1) := by decide +kernel
theorem dX4_readDigit_67 : decode cX4_readDigit 67 = .ok (.invokevirtual 72, 3) := by decide +kernel
theorem dX4_readDigit_70 : decode cX4_readDigit 70 = .ok (.aload_n 0, 1) := by decide +kernel
theorem dX4_readDigit_71 : decode cX4_readDigit 71 = .ok (.iload_n 1, 1) := by decide +kernel
theorem dX4_readDigit_72 : decode cX4_readDigit 72 = .ok (.bipush 8, 2) := by decide +kernel
theorem dX4_readDigit_74 : decode cX4_readDigit 74 = .ok (.if_icmp .ge 7, 3) := by decide +kernel
theorem dX4_readDigit_77 : decode cX4_readDigit 77 = .ok (.iconst 1, 1) := by decide +kernel
theorem dX4_readDigit_78 : decode cX4_readDigit 78 = .ok (.goto 4, 3) := by decide +kernel
theorem dX4_readDigit_81 : decode cX4_readDigit 81 = .ok (.iconst 0, 1) := by decide +kernel
theorem dX4_readDigit_82 : decode cX4_readDigit 82 = .ok (.iconst 2, 1) := by decide +kernel
theorem dX4_readDigit_83 : decode cX4_readDigit 83 = .ok (.invokevirtual 61, 3) := by decide +kernel
theorem dX4_readDigit_86 : decode cX4_readDigit 86 = .ok (.ireturn, 1) := by decide +kernel
theorem dX4_readDigit_87 : decode cX4_readDigit 87 = .ok (.aload_n 0, 1) := by decide +kernel
theorem dX4_readDigit_88 : decode cX4_readDigit 88 = .ok (.getfield 23, 3) := by decide +kernel
theorem dX4_readDigit_91 : decode cX4_readDigit 91 = .ok (.aload_n 0, 1) := by decide +kernel
theorem dX4_readDigit_92 : decode cX4_readDigit 92 = .ok (.invokevirtual 47, 3) := by decide +kernel
theorem dX4_readDigit_95 : decode cX4_readDigit 95 = .ok (.iload_n 1, 1) := by decide +kernel
theorem dX4_readDigit_96 : decode cX4_readDigit 96 = .ok (.invokevirtual 72, 3) := by decide +kernel
theorem dX4_readDigit_99 : decode cX4_readDigit 99 = .ok (.aload_n 0, 1) := by decide +kernel
theorem dX4_readDigit_100 : decode cX4_readDigit 100 = .ok (.getfield 26, 3) := by decide +kernel
theorem dX4_readDigit_103 : decode cX4_readDigit 103 = .ok (.aload_n 0, 1) := by decide +kernel
theorem dX4_readDigit_104 : decode cX4_readDigit 104 = .ok (.invokevirtual 47, 3) := by decide +kernel
theorem dX4_readDigit_107 : decode cX4_readDigit 107 = .ok (.bipush 100, 2) := by decide +kernel
theorem dX4_readDigit_109 : decode cX4_readDigit 109 = .ok (.invokevirtual 72, 3) := by decide +kernel
theorem dX4_readDigit_112 : decode cX4_readDigit 112 = .ok (.aload_n 0, 1) := by decide +kernel
theorem dX4_readDigit_113 : decode cX4_readDigit 113 = .ok (.iload_n 1, 1) := by decide +kernel
theorem dX4_readDigit_114 : decode cX4_readDigit 114 = .ok (.iconst 1, 1) := by decide +kernel
theorem dX4_readDigit_115 : decode cX4_readDigit 115 = .ok (.if_icmp .lt 7, 3) := by decide +kernel
theorem dX4_readDigit_118 : decode cX4_readDigit 118 = .ok (.iconst 1, 1) := by decide +kernel
theorem dX4_readDigit_119 : decode cX4_readDigit 119 = .ok (.goto 4, 3) := by decide +kernel
theorem dX4_readDigit_122 : decode cX4_readDigit 122 = .ok (.iconst 0, 1) := by decide +kernel
theorem dX4_readDigit_123 : decode cX4_readDigit 123 = .ok (.iconst 4, 1) := by decide +kernel
theorem dX4_readDigit_124 : decode cX4_readDigit 124 = .ok (.invokevirtual 61, 3) := by decide +kernel
theorem dX4_readDigit_127 : decode cX4_readDigit 127 = .ok (.ireturn, 1) := by decide +kernel
theorem dX4_readDigit_128 : decode cX4_readDigit 128 = .ok (.aload_n 0, 1) := by decide +kernel
theorem dX4_readDigit_129 : decode cX4_readDigit 129 = .ok (.aload_n 0, 1) := by decide +kernel
theorem dX4_readDigit_130 : decode cX4_readDigit 130 = .ok (.getfield 26, 3) := by decide +kernel
theorem dX4_readDigit_133 : decode cX4_readDigit 133 = .ok (.iload_n 1, 1) := by decide +kernel
theorem dX4_readDigit_134 : decode cX4_readDigit 134 = .ok (.bipush 80, 2) := by decide +kernel
theorem dX4_readDigit_136 : decode cX4_readDigit 136 = .ok (.bipush 120, 2) := by decide +kernel
theorem dX4_readDigit_138 : decode cX4_readDigit 138 = .ok (.invokevirtual 76, 3) := by decide +kernel
theorem dX4_readDigit_141 : decode cX4_readDigit 141 = .ok (.ireturn, 1) := by decide +kernel
theorem dX4_readDigit_142 : decode cX4_readDigit 142 = .ok (.iconst 0, 1) := by decide +kernel
theorem dX4_readDigit_143 : decode cX4_readDigit 143 = .ok (.ireturn, 1) := by decide +kernel
theorem dX4_grow_0 : decode cX4_grow 0 = .ok (.bipush 10, 2) := by decide +kernel
theorem dX4_grow_2 : decode cX4_grow 2 = .ok (.aload_n 1, 1) := by decide +kernel
theorem dX4_grow_3 : decode cX4_grow 3 = .ok (.aload_n 0, 1) := by decide +kernel
theorem dX4_grow_4 : decode cX4_grow 4 = .ok (.invokevirtual 47, 3) := by decide +kernel
theorem dX4_grow_7 : decode cX4_grow 7 = .ok (.invokevirtual 50, 3) := by decide +kernel
theorem dX4_grow_10 : decode cX4_grow 10 = .ok (.imul, 1) := by decide +kernel
theorem dX4_grow_11 : decode cX4_grow 11 = .ok (.iload_n 2, 1) := by decide +kernel
theorem dX4_grow_12 : decode cX4_grow 12 = .ok (.iadd, 1) := by decide +kernel
theorem dX4_grow_13 : decode cX4_grow 13 = .ok (.istore 5, 2) := by decide +kernel
theorem dX4_grow_15 : decode cX4_grow 15 = .ok (.iload 5, 2) := by decide +kernel
theorem dX4_grow_17 : decode cX4_grow 17 = .ok (.ifCond .ne 5, 3) := by decide +kernel
theorem dX4_grow_20 : decode cX4_grow 20 = .ok (.iconst 0, 1) := by decide +kernel
theorem dX4_grow_21 : decode cX4_grow 21 = .ok (.ireturn, 1) := by decide +kernel
theorem dX4_grow_22 : decode cX4_grow 22 = .ok (.iconst 1, 1) := by decide +kernel
theorem dX4_grow_23 : decode cX4_grow 23 = .ok (.istore 6, 2) := by decide +kernel
theorem dX4_grow_25 : decode cX4_grow 25 = .ok (.iload 6, 2) := by decide +kernel
theorem dX4_grow_27 : decode cX4_grow 27 = .ok (.bipush 100, 2) := by decide +kernel
theorem dX4_grow_29 : decode cX4_grow 29 = .ok (.if_icmp .gt 49, 3) := by decide +kernel
theorem dX4_grow_32 : decode cX4_grow 32 = .ok (.iload 5, 2) := by decide +kernel
theorem dX4_grow_34 : decode cX4_grow 34 = .ok (.iload 6, 2) := by decide +kernel
theorem dX4_grow_36 : decode cX4_grow 36 = .ok (.imul, 1) := by decide +kernel
theorem dX4_grow_37 : decode cX4_grow 37 = .ok (.iload 4, 2) := by decide +kernel
theorem dX4_grow_39 : decode cX4_grow 39 = .ok (.if_icmp .gt 29, 3) := by decide +kernel
theorem dX4_grow_42 : decode cX4_grow 42 = .ok (.iload 5, 2) := by decide +kernel
theorem dX4_grow_44 : decode cX4_grow 44 = .ok (.iload 6, 2) := by decide +kernel
theorem dX4_grow_46 : decode cX4_grow 46 = .ok (.imul, 1) := by decide +kernel
theorem dX4_grow_47 : decode cX4_grow 47 = .ok (.iload 6, 2) := by decide +kernel
theorem dX4_grow_49 : decode cX4_grow 49 = .ok (.iadd, 1) := by decide +kernel
theorem dX4_grow_50 : decode cX4_grow 50 = .ok (.iconst 1, 1) := by decide +kernel
theorem dX4_grow_51 : decode cX4_grow 51 = .ok (.isub, 1) := by decide +kernel
theorem dX4_grow_52 : decode cX4_grow 52 = .ok (.iload_n 3, 1) := by decide +kernel
theorem dX4_grow_53 : decode cX4_grow 53 = .ok (.if_icmp .lt 15, 3) := by decide +kernel
theorem dX4_grow_56 : decode cX4_grow 56 = .ok (.aload_n 1, 1) := by decide +kernel
theorem dX4_grow_57 : decode cX4_grow 57 = .ok (.aload_n 0, 1) := by decide +kernel
theorem dX4_grow_58 : decode cX4_grow 58 = .ok (.invokevirtual 47, 3) := by decide +kernel
theorem dX4_grow_61 : decode cX4_grow 61 = .ok (.iload 5, 2) := by decide +kernel
theorem dX4_grow_63 : decode cX4_grow 63 = .ok (.invokevirtual 72, 3) := by decide +kernel
theorem dX4_grow_66 : decode cX4_grow 66 = .ok (.iconst 1, 1) := by decide +kernel
theorem dX4_grow_67 : decode cX4_grow 67 = .ok (.ireturn, 1) := by decide +kernel
theorem dX4_grow_68 : decode cX4_grow 68 = .ok (.iload 6, 2) := by decide +kernel
theorem dX4_grow_70 : decode cX4_grow 70 = .ok (.bipush 10, 2) := by decide +kernel
theorem dX4_grow_72 : decode cX4_grow 72 = .ok (.imul, 1) := by decide +kernel
theorem dX4_grow_73 : decode cX4_grow 73 = .ok (.istore 6, 2) := by decide +kernel
theorem dX4_grow_75 : decode cX4_grow 75 = .ok (.goto (-50), 3) := by decide +kernel
theorem dX4_grow_78 : decode cX4_grow 78 = .ok (.iconst 0, 1) := by decide +kernel
theorem dX4_grow_79 : decode cX4_grow 79 = .ok (.ireturn, 1) := by decide +kernel
theorem dX5_init_0 : decode cX5_init 0 = .ok (.aload_n 0, 1) := by decide +kernel
theorem dX5_init_1 : decode cX5_init 1 = .ok (.invokespecial 3, 3) := by decide +kernel
theorem dX5_init_4 : decode cX5_init 4 = .ok (.aload_n 0, 1) := by decide +kernel
theorem dX5_init_5 : decode cX5_init 5 = .ok (.new 9, 3) := by decide +kernel
theorem dX5_init_8 : decode cX5_init 8 = .ok (.dup, 1) := by decide +kernel
theorem dX5_init_9 : decode cX5_init 9 = .ok (.invokespecial 11, 3) := by decide +kernel
theorem dX5_init_12 : decode cX5_init 12 = .ok (.putfield 12, 3) := by decide +kernel
theorem dX5_init_15 : decode cX5_init 15 = .ok (.aload_n 0, 1) := by decide +kernel
theorem dX5_init_16 : decode cX5_init 16 = .ok (.new 9, 3) := by decide +kernel
theorem dX5_init_19 : decode cX5_init 19 = .ok (.dup, 1) := by decide +kernel
theorem dX5_init_20 : decode cX5_init 20 = .ok (.invokespecial 11, 3) := by decide +kernel
theorem dX5_init_23 : decode cX5_init 23 = .ok (.putfield 18, 3) := by decide +kernel
theorem dX5_init_26 : decode cX5_init 26 = .ok (.aload_n 0, 1) := by decide +kernel
theorem dX5_init_27 : decode cX5_init 27 = .ok (.new 9, 3) := by decide +kernel
theorem dX5_init_30 : decode cX5_init 30 = .ok (.dup, 1) := by decide +kernel
theorem dX5_init_31 : decode cX5_init 31 = .ok (.invokespecial 11, 3) := by decide +kernel
theorem dX5_init_34 : decode cX5_init 34 = .ok (.putfield 21, 3) := by decide +kernel
theorem dX5_init_37 : decode cX5_init 37 = .ok (.aload_n 0, 1) := by decide +kernel
theorem dX5_init_38 : decode cX5_init 38 = .ok (.new 24, 3) := by decide +kernel
theorem dX5_init_41 : decode cX5_init 41 = .ok (.dup, 1) := by decide +kernel
theorem dX5_init_42 : decode cX5_init 42 = .ok (.bipush 8, 2) := by decide +kernel
theorem dX5_init_44 : decode cX5_init 44 = .ok (.invokespecial 26, 3) := by decide +kernel
theorem dX5_init_47 : decode cX5_init 47 = .ok (.putfield 29, 3) := by decide +kernel
theorem dX5_init_50 : decode cX5_init 50 = .ok (.aload_n 0, 1) := by decide +kernel
theorem dX5_init_51 : decode cX5_init 51 = .ok (.new 24, 3) := by decide +kernel
theorem dX5_init_54 : decode cX5_init 54 = .ok (.dup, 1) := by decide +kernel
theorem dX5_init_55 : decode cX5_init 55 = .ok (.bipush 8, 2) := by decide +kernel
theorem dX5_init_57 : decode cX5_init 57 = .ok (.invokespecial 26, 3) := by decide +kernel
theorem dX5_init_60 : decode cX5_init 60 = .ok (.putfield 33, 3) := by decide +kernel
theorem dX5_init_63 : decode cX5_init 63 = .ok (.aload_n 0, 1) := by decide +kernel
theorem dX5_init_64 : decode cX5_init 64 = .ok (.new 24, 3) := by decide +kernel
theorem dX5_init_67 : decode cX5_init 67 = .ok (.dup, 1) := by decide +kernel
theorem dX5_init_68 : decode cX5_init 68 = .ok (.bipush 8, 2) := by decide +kernel
theorem dX5_init_70 : decode cX5_init 70 = .ok (.invokespecial 26, 3) := by decide +kernel
theorem dX5_init_73 : decode cX5_init 73 = .ok (.putfield 36, 3) := by decide +kernel
theorem dX5_init_76 : decode cX5_init 76 = .ok (.aload_n 0, 1) := by decide +kernel
theorem dX5_init_77 : decode cX5_init 77 = .ok (.bipush 20, 2) := by decide +kernel
theorem dX5_init_79 : decode cX5_init 79 = .ok (.putfield 39, 3) := by decide +kernel
theorem dX5_init_82 : decode cX5_init 82 = .ok (.aload_n 0, 1) := by decide +kernel
theorem dX5_init_83 : decode cX5_init 83 = .ok (.iconst 5, 1) := by decide +kernel
theorem dX5_init_84 : decode cX5_init 84 = .ok (.putfield 43, 3) := by decide +kernel
theorem dX5_init_87 : decode cX5_init 87 = .ok (.return_, 1) := by decide +kernel
theorem dX5_reelAt_0 : decode cX5_reelAt 0 = .ok (.iload_n 1, 1) := by decide +kernel
theorem dX5_reelAt_1 : decode cX5_reelAt 1 = .ok (.ifCond .ne 10, 3) := by decide +kernel
theorem dX5_reelAt_4 : decode cX5_reelAt 4 = .ok (.aload_n 0, 1) := by decide +kernel
theorem dX5_reelAt_5 : decode cX5_reelAt 5 = .ok (.getfield 12, 3) := by decide +kernel
theorem dX5_reelAt_8 : decode cX5_reelAt 8 = .ok (.goto 19, 3) := by decide +kernel
theorem dX5_reelAt_11 : decode cX5_reelAt 11 = .ok (.iload_n 1, 1) := by decide +kernel
theorem dX5_reelAt_12 : decode cX5_reelAt 12 = .ok (.iconst 1, 1) := by decide +kernel
theorem dX5_reelAt_13 : decode cX5_reelAt 13 = .ok (.if_icmp .ne 10, 3) := by decide +kernel
theorem dX5_reelAt_16 : decode cX5_reelAt 16 = .ok (.aload_n 0, 1) := by decide +kernel
theorem dX5_reelAt_17 : decode cX5_reelAt 17 = .ok (.getfield 18, 3) := by decide +kernel
theorem dX5_reelAt_20 : decode cX5_reelAt 20 = .ok (.goto 7, 3) := by decide +kernel
theorem dX5_reelAt_23 : decode cX5_reelAt 23 = .ok (.aload_n 0, 1) := by decide +kernel
theorem dX5_reelAt_24 : decode cX5_reelAt 24 = .ok (.getfield 21, 3) := by decide +kernel
theorem dX5_reelAt_27 : decode cX5_reelAt 27 = .ok (.areturn, 1) := by decide +kernel
theorem dX5_pieces_0 : decode cX5_pieces 0 = .ok (.aload_n 0, 1) := by decide +kernel
theorem dX5_pieces_1 : decode cX5_pieces 1 = .ok (.getfield 29, 3) := by decide +kernel
theorem dX5_pieces_4 : decode cX5_pieces 4 = .ok (.invokevirtual 46, 3) := by decide +kernel
theorem dX5_pieces_7 : decode cX5_pieces 7 = .ok (.ireturn, 1) := by decide +kernel
theorem dX5_hasPiece_0 : decode cX5_hasPiece 0 = .ok (.iload_n 1, 1) := by decide +kernel
theorem dX5_hasPiece_1 : decode cX5_hasPiece 1 = .ok (.ifCond .lt 15, 3) := by decide +kernel
theorem dX5_hasPiece_4 : decode cX5_hasPiece 4 = .ok (.iload_n 1, 1) := by decide +kernel
theorem dX5_hasPiece_5 : decode cX5_hasPiece 5 = .ok (.aload_n 0, 1) := by decide +kernel
theorem dX5_hasPiece_6 : decode cX5_hasPiece 6 = .ok (.invokevirtual 50, 3) := by decide +kernel
theorem dX5_hasPiece_9 : decode cX5_hasPiece 9 = .ok (.if_icmp .ge 7, 3) := by decide +kernel
theorem dX5_hasPiece_12 : decode cX5_hasPiece 12 = .ok (.iconst 1, 1) := by decide +kernel
theorem dX5_hasPiece_13 : decode cX5_hasPiece 13 = .ok (.goto 4, 3) := by decide +kernel
theorem dX5_hasPiece_16 : decode cX5_hasPiece 16 = .ok (.iconst 0, 1) := by decide +kernel
theorem dX5_hasPiece_17 : decode cX5_hasPiece 17 = .ok (.ireturn, 1) := by decide +kernel
theorem dX5_cuesWith_0 : decode cX5_cuesWith 0 = .ok (.iconst 0, 1) := by decide +kernel
theorem dX5_cuesWith_1 : decode cX5_cuesWith 1 = .ok (.istore_n 2, 1) := by decide +kernel
theorem dX5_cuesWith_2 : decode cX5_cuesWith 2 = .ok (.iconst 0, 1) := by decide +kernel
theorem dX5_cuesWith_3 : decode cX5_cuesWith 3 = .ok (.istore_n 3, 1) := by decide +kernel
theorem dX5_cuesWith_4 : decode cX5_cuesWith 4 = .ok (.iload_n 3, 1) := by decide +kernel
theorem dX5_cuesWith_5 : decode cX5_cuesWith 5 = .ok (.iconst 3, 1) := by decide +kernel
theorem dX5_cuesWith_6 : decode cX5_cuesWith 6 = .ok (.if_icmp .ge 57, 3) := by decide +kernel
theorem dX5_cuesWith_9 : decode cX5_cuesWith 9 = .ok (.aload_n 0, 1) := by decide +kernel
theorem dX5_cuesWith_10 : decode cX5_cuesWith 10 = .ok (.iload_n 3, 1) := by decide +kernel
theorem dX5_cuesWith_11 : decode cX5_cuesWith 11 = .ok (.invokevirtual 53, 3) := by decide +kernel
theorem dX5_cuesWith_14 : decode cX5_cuesWith 14 = .ok (.getfield 57, 3) := by decide +kernel
theorem dX5_cuesWith_17 : decode cX5_cuesWith 17 = .ok (.astore 4, 2) := by decide +kernel
theorem dX5_cuesWith_19 : decode cX5_cuesWith 19 = .ok (.iconst 0, 1) := by decide +kernel
theorem dX5_cuesWith_20 : decode cX5_cuesWith 20 = .ok (.istore 5, 2) := by decide +kernel
theorem dX5_cuesWith_22 : decode cX5_cuesWith 22 = .ok (.iload 5, 2) := by decide +kernel
theorem dX5_cuesWith_24 : decode cX5_cuesWith 24 = .ok (.aload 4, 2) := by decide +kernel
theorem dX5_cuesWith_26 : decode cX5_cuesWith 26 = .ok (.invokevirtual 46, 3) := by decide +kernel
theorem dX5_cuesWith_29 : decode cX5_cuesWith 29 = .ok (.if_icmp .ge 28, 3) := by decide +kernel
theorem dX5_cuesWith_32 : decode cX5_cuesWith 32 = .ok (.iload_n 2, 1) := by decide +kernel
theorem dX5_cuesWith_33 : decode cX5_cuesWith 33 = .ok (.aload 4, 2) := by decide +kernel
theorem dX5_cuesWith_35 : decode cX5_cuesWith 35 = .ok (.iload 5, 2) := by decide +kernel
theorem dX5_cuesWith_37 : decode cX5_cuesWith 37 = .ok (.invokevirtual 59, 3) := by decide +kernel
theorem dX5_cuesWith_40 : decode cX5_cuesWith 40 = .ok (.iload_n 1, 1) := by decide +kernel
theorem dX5_cuesWith_41 : decode cX5_cuesWith 41 = .ok (.if_icmp .ne 7, 3) := by decide +kernel
theorem dX5_cuesWith_44 : decode cX5_cuesWith 44 = .ok (.iconst 1, 1) := by decide +kernel
theorem dX5_cuesWith_45 : decode cX5_cuesWith 45 = .ok (.goto 4, 3) := by decide +kernel
theorem dX5_cuesWith_48 : decode cX5_cuesWith 48 = .ok (.iconst 0, 1) := by decide +kernel
theorem dX5_cuesWith_49 : decode cX5_cuesWith 49 = .ok (.iadd, 1) := by decide +kernel
theorem dX5_cuesWith_50 : decode cX5_cuesWith 50 = .ok (.istore_n 2, 1) := by decide +kernel
theorem dX5_cuesWith_51 : decode cX5_cuesWith 51 = .ok (.iinc 5 1, 3) := by decide +kernel
theorem dX5_cuesWith_54 : decode cX5_cuesWith 54 = .ok (.goto (-32), 3) := by decide +kernel
theorem dX5_cuesWith_57 : decode cX5_cuesWith 57 = .ok (.iinc 3 1, 3) := by decide +kernel
theorem dX5_cuesWith_60 : decode cX5_cuesWith 60 = .ok (.goto (-56), 3) := by decide +kernel
theorem dX5_cuesWith_63 : decode cX5_cuesWith 63 = .ok (.iload_n 2, 1) := by decide +kernel
theorem dX5_cuesWith_64 : decode cX5_cuesWith 64 = .ok (.ireturn, 1) := by decide +kernel
theorem dX5_playTime_0 : decode cX5_playTime 0 = .ok (.aload_n 0, 1) := by decide +kernel
theorem dX5_playTime_1 : decode cX5_playTime 1 = .ok (.getfield 29, 3) := by decide +kernel
theorem dX5_playTime_4 : decode cX5_playTime 4 = .ok (.iload_n 1, 1) := by decide +kernel
theorem dX5_playTime_5 : decode cX5_playTime 5 = .ok (.invokevirtual 59, 3) := by decide +kernel
theorem dX5_playTime_8 : decode cX5_playTime 8 = .ok (.iload_n 2, 1) := by decide +kernel
theorem dX5_playTime_9 : decode cX5_playTime 9 = .ok (.aload_n 0, 1) := by decide +kernel
theorem dX5_playTime_10 : decode cX5_playTime 10 = .ok (.getfield 33, 3) := by decide +kernel
theorem dX5_playTime_13 : decode cX5_playTime 13 = .ok (.iload_n 1, 1) := by decide +kernel
theorem dX5_playTime_14 : decode cX5_playTime 14 = .ok (.invokevirtual 59, 3) := by decide +kernel
theorem dX5_playTime_17 : decode cX5_playTime 17 = .ok (.imul, 1) := by decide +kernel
theorem dX5_playTime_18 : decode cX5_playTime 18 = .ok (.iadd, 1) := by decide +kernel
theorem dX5_playTime_19 : decode cX5_playTime 19 = .ok (.aload_n 0, 1) := by decide +kernel
theorem dX5_playTime_20 : decode cX5_playTime 20 = .ok (.getfield 36, 3) := by decide +kernel
theorem dX5_playTime_23 : decode cX5_playTime 23 = .ok (.iload_n 1, 1) := by decide +kernel
theorem dX5_playTime_24 : decode cX5_playTime 24 = .ok (.invokevirtual 59, 3) := by decide +kernel
theorem dX5_playTime_27 : decode cX5_playTime 27 = .ok (.iadd, 1) := by decide +kernel
theorem dX5_playTime_28 : decode cX5_playTime 28 = .ok (.iload_n 3, 1) := by decide +kernel
theorem dX5_playTime_29 : decode cX5_playTime 29 = .ok (.invokestatic 63, 3) := by decide +kernel
theorem dX5_playTime_32 : decode cX5_playTime 32 = .ok (.ireturn, 1) := by decide +kernel
theorem dX5_timeAtPace_0 : decode cX5_timeAtPace 0 = .ok (.iload_n 1, 1) := by decide +kernel
theorem dX5_timeAtPace_1 : decode cX5_timeAtPace 1 = .ok (.ifCond .gt 7, 3) := by decide +kernel
theorem dX5_timeAtPace_4 : decode cX5_timeAtPace 4 = .ok (.iconst 0, 1) := by decide +kernel
theorem dX5_timeAtPace_5 : decode cX5_timeAtPace 5 = .ok (.goto 9, 3) := by decide +kernel
theorem dX5_timeAtPace_8 : decode cX5_timeAtPace 8 = .ok (.iload_n 0, 1) := by decide +kernel
theorem dX5_timeAtPace_9 : decode cX5_timeAtPace 9 = .ok (.bipush 100, 2) := by decide +kernel
theorem dX5_timeAtPace_11 : decode cX5_timeAtPace 11 = .ok (.imul, 1) := by decide +kernel
theorem dX5_timeAtPace_12 : decode cX5_timeAtPace 12 = .ok (.iload_n 1, 1) := by decide +kernel
theorem dX5_timeAtPace_13 : decode cX5_timeAtPace 13 = .ok (.idiv, 1) := by decide +kernel
theorem dX5_timeAtPace_14 : decode cX5_timeAtPace 14 = .ok (.ireturn, 1) := by decide +kernel
theorem dX5_isBad_0 : decode cX5_isBad 0 = .ok (.iload_n 1, 1) := by decide +kernel
theorem dX5_isBad_1 : decode cX5_isBad 1 = .ok (.invokestatic 67, 3) := by decide +kernel
theorem dX5_isBad_4 : decode cX5_isBad 4 = .ok (.aload_n 0, 1) := by decide +kernel
theorem dX5_isBad_5 : decode cX5_isBad 5 = .ok (.getfield 39, 3) := by decide +kernel
theorem dX5_isBad_8 : decode cX5_isBad 8 = .ok (.if_icmp .le 7, 3) := by decide +kernel
theorem dX5_isBad_11 : decode cX5_isBad 11 = .ok (.iconst 1, 1) := by decide +kernel
theorem dX5_isBad_12 : decode cX5_isBad 12 = .ok (.goto 4, 3) := by decide +kernel
theorem dX5_isBad_15 : decode cX5_isBad 15 = .ok (.iconst 0, 1) := by decide +kernel
theorem dX5_isBad_16 : decode cX5_isBad 16 = .ok (.ireturn, 1) := by decide +kernel
theorem dX5_takeFrom_0 : decode cX5_takeFrom 0 = .ok (.aload_n 0, 1) := by decide +kernel
theorem dX5_takeFrom_1 : decode cX5_takeFrom 1 = .ok (.getfield 12, 3) := by decide +kernel
theorem dX5_takeFrom_4 : decode cX5_takeFrom 4 = .ok (.aload_n 1, 1) := by decide +kernel
theorem dX5_takeFrom_5 : decode cX5_takeFrom 5 = .ok (.getfield 12, 3) := by decide +kernel
theorem dX5_takeFrom_8 : decode cX5_takeFrom 8 = .ok (.invokevirtual 72, 3) := by decide +kernel
theorem dX5_takeFrom_11 : decode cX5_takeFrom 11 = .ok (.aload_n 0, 1) := by decide +kernel
theorem dX5_takeFrom_12 : decode cX5_takeFrom 12 = .ok (.getfield 18, 3) := by decide +kernel
theorem dX5_takeFrom_15 : decode cX5_takeFrom 15 = .ok (.aload_n 1, 1) := by decide +kernel
theorem dX5_takeFrom_16 : decode cX5_takeFrom 16 = .ok (.getfield 18, 3) := by decide +kernel
theorem dX5_takeFrom_19 : decode cX5_takeFrom 19 = .ok (.invokevirtual 72, 3) := by decide +kernel
theorem dX5_takeFrom_22 : decode cX5_takeFrom 22 = .ok (.aload_n 0, 1) := by decide +kernel
theorem dX5_takeFrom_23 : decode cX5_takeFrom 23 = .ok (.getfield 21, 3) := by decide +kernel
theorem dX5_takeFrom_26 : decode cX5_takeFrom 26 = .ok (.aload_n 1, 1) := by decide +kernel
theorem dX5_takeFrom_27 : decode cX5_takeFrom 27 = .ok (.getfield 21, 3) := by decide +kernel
theorem dX5_takeFrom_30 : decode cX5_takeFrom 30 = .ok (.invokevirtual 72, 3) := by decide +kernel
theorem dX5_takeFrom_33 : decode cX5_takeFrom 33 = .ok (.aload_n 0, 1) := by decide +kernel
theorem dX5_takeFrom_34 : decode cX5_takeFrom 34 = .ok (.getfield 29, 3) := by decide +kernel
theorem dX5_takeFrom_37 : decode cX5_takeFrom 37 = .ok (.aload_n 1, 1) := by decide +kernel
theorem dX5_takeFrom_38 : decode cX5_takeFrom 38 = .ok (.getfield 29, 3) := by decide +kernel
theorem dX5_takeFrom_41 : decode cX5_takeFrom 41 = .ok (.invokevirtual 76, 3) := by decide +kernel
theorem dX5_takeFrom_44 : decode cX5_takeFrom 44 = .ok (.aload_n 0, 1) := by decide +kernel
theorem dX5_takeFrom_45 : decode cX5_takeFrom 45 = .ok (.getfield 33, 3) := by decide +kernel
theorem dX5_takeFrom_48 : decode cX5_takeFrom 48 = .ok (.aload_n 1, 1) := by decide +kernel
theorem dX5_takeFrom_49 : decode cX5_takeFrom 49 = .ok (.getfield 33, 3) := by decide +kernel
theorem dX5_takeFrom_52 : decode cX5_takeFrom 52 = .ok (.invokevirtual 76, 3) := by decide +kernel
theorem dX5_takeFrom_55 : decode cX5_takeFrom 55 = .ok (.aload_n 0, 1) := by decide +kernel
theorem dX5_takeFrom_56 : decode cX5_takeFrom 56 = .ok (.getfield 36, 3) := by decide +kernel
theorem dX5_takeFrom_59 : decode cX5_takeFrom 59 = .ok (.aload_n 1, 1) := by decide +kernel
theorem dX5_takeFrom_60 : decode cX5_takeFrom 60 = .ok (.getfield 36, 3) := by decide +kernel
theorem dX5_takeFrom_63 : decode cX5_takeFrom 63 = .ok (.invokevirtual 76, 3) := by decide +kernel
theorem dX5_takeFrom_66 : decode cX5_takeFrom 66 = .ok (.aload_n 0, 1) := by decide +kernel
theorem dX5_takeFrom_67 : decode cX5_takeFrom 67 = .ok (.aload_n 1, 1) := by decide +kernel
theorem dX5_takeFrom_68 : decode cX5_takeFrom 68 = .ok (.getfield 39, 3) := by decide +kernel
theorem dX5_takeFrom_71 : decode cX5_takeFrom 71 = .ok (.putfield 39, 3) := by decide +kernel
theorem dX5_takeFrom_74 : decode cX5_takeFrom 74 = .ok (.aload_n 0, 1) := by decide +kernel
theorem dX5_takeFrom_75 : decode cX5_takeFrom 75 = .ok (.aload_n 1, 1) := by decide +kernel
theorem dX5_takeFrom_76 : decode cX5_takeFrom 76 = .ok (.getfield 43, 3) := by decide +kernel
theorem dX5_takeFrom_79 : decode cX5_takeFrom 79 = .ok (.putfield 43, 3) := by decide +kernel
theorem dX5_takeFrom_82 : decode cX5_takeFrom 82 = .ok (.return_, 1) := by decide +kernel
theorem dX6_init_0 : decode cX6_init 0 = .ok (.aload_n 0, 1) := by decide +kernel
theorem dX6_init_1 : decode cX6_init 1 = .ok (.invokespecial 3, 3) := by decide +kernel
theorem dX6_init_4 : decode cX6_init 4 = .ok (.aload_n 0, 1) := by decide +kernel
theorem dX6_init_5 : decode cX6_init 5 = .ok (.new 9, 3) := by decide +kernel
theorem dX6_init_8 : decode cX6_init 8 = .ok (.dup, 1) := by decide +kernel
theorem dX6_init_9 : decode cX6_init 9 = .ok (.bipush 10, 2) := by decide +kernel
theorem dX6_init_11 : decode cX6_init 11 = .ok (.invokespecial 11, 3) := by decide +kernel
theorem dX6_init_14 : decode cX6_init 14 = .ok (.putfield 14, 3) := by decide +kernel
theorem dX6_init_17 : decode cX6_init 17 = .ok (.aload_n 0, 1) := by decide +kernel
theorem dX6_init_18 : decode cX6_init 18 = .ok (.new 9, 3) := by decide +kernel
theorem dX6_init_21 : decode cX6_init 21 = .ok (.dup, 1) := by decide +kernel
theorem dX6_init_22 : decode cX6_init 22 = .ok (.bipush 10, 2) := by decide +kernel
theorem dX6_init_24 : decode cX6_init 24 = .ok (.invokespecial 11, 3) := by decide +kernel
theorem dX6_init_27 : decode cX6_init 27 = .ok (.putfield 20, 3) := by decide +kernel
theorem dX6_init_30 : decode cX6_init 30 = .ok (.aload_n 0, 1) := by decide +kernel
theorem dX6_init_31 : decode cX6_init 31 = .ok (.new 9, 3) := by decide +kernel
theorem dX6_init_34 : decode cX6_init 34 = .ok (.dup, 1) := by decide +kernel
theorem dX6_init_35 : decode cX6_init 35 = .ok (.bipush 10, 2) := by decide +kernel
theorem dX6_init_37 : decode cX6_init 37 = .ok (.invokespecial 11, 3) := by decide +kernel
theorem dX6_init_40 : decode cX6_init 40 = .ok (.putfield 23, 3) := by decide +kernel
theorem dX6_init_43 : decode cX6_init 43 = .ok (.aload_n 0, 1) := by decide +kernel
theorem dX6_init_44 : decode cX6_init 44 = .ok (.new 9, 3) := by decide +kernel
theorem dX6_init_47 : decode cX6_init 47 = .ok (.dup, 1) := by decide +kernel
theorem dX6_init_48 : decode cX6_init 48 = .ok (.bipush 10, 2) := by decide +kernel
theorem dX6_init_50 : decode cX6_init 50 = .ok (.invokespecial 11, 3) := by decide +kernel
theorem dX6_init_53 : decode cX6_init 53 = .ok (.putfield 26, 3) := by decide +kernel
theorem dX6_init_56 : decode cX6_init 56 = .ok (.aload_n 0, 1) := by decide +kernel
theorem dX6_init_57 : decode cX6_init 57 = .ok (.new 9, 3) := by decide +kernel
theorem dX6_init_60 : decode cX6_init 60 = .ok (.dup, 1) := by decide +kernel
theorem dX6_init_61 : decode cX6_init 61 = .ok (.bipush 10, 2) := by decide +kernel
theorem dX6_init_63 : decode cX6_init 63 = .ok (.invokespecial 11, 3) := by decide +kernel
theorem dX6_init_66 : decode cX6_init 66 = .ok (.putfield 29, 3) := by decide +kernel
theorem dX6_init_69 : decode cX6_init 69 = .ok (.aload_n 0, 1) := by decide +kernel
theorem dX6_init_70 : decode cX6_init 70 = .ok (.new 9, 3) := by decide +kernel
theorem dX6_init_73 : decode cX6_init 73 = .ok (.dup, 1) := by decide +kernel
theorem dX6_init_74 : decode cX6_init 74 = .ok (.bipush 10, 2) := by decide +kernel
theorem dX6_init_76 : decode cX6_init 76 = .ok (.invokespecial 11, 3) := by decide +kernel
theorem dX6_init_79 : decode cX6_init 79 = .ok (.putfield 32, 3) := by decide +kernel
theorem dX6_init_82 : decode cX6_init 82 = .ok (.aload_n 0, 1) := by decide +kernel
theorem dX6_init_83 : decode cX6_init 83 = .ok (.new 9, 3) := by decide +kernel
theorem dX6_init_86 : decode cX6_init 86 = .ok (.dup, 1) := by decide +kernel
theorem dX6_init_87 : decode cX6_init 87 = .ok (.bipush 10, 2) := by decide +kernel
theorem dX6_init_89 : decode cX6_init 89 = .ok (.invokespecial 11, 3) := by decide +kernel
theorem dX6_init_92 : decode cX6_init 92 = .ok (.putfield 35, 3) := by decide +kernel
theorem dX6_init_95 : decode cX6_init 95 = .ok (.return_, 1) := by decide +kernel
theorem dX6_measure_0 : decode cX6_measure 0 = .ok (.aload_n 0, 1) := by decide +kernel
theorem dX6_measure_1 : decode cX6_measure 1 = .ok (.invokevirtual 38, 3) := by decide +kernel
theorem dX6_measure_4 : decode cX6_measure 4 = .ok (.iconst 0, 1) := by decide +kernel
theorem dX6_measure_5 : decode cX6_measure 5 = .ok (.istore 4, 2) := by decide +kernel
theorem dX6_measure_7 : decode cX6_measure 7 = .ok (.iload 4, 2) := by decide +kernel
theorem dX6_measure_9 : decode cX6_measure 9 = .ok (.aload_n 2, 1) := by decide +kernel
theorem dX6_measure_10 : decode cX6_measure 10 = .ok (.invokevirtual 41, 3) := by decide +kernel
theorem dX6_measure_13 : decode cX6_measure 13 = .ok (.if_icmp .ge 126, 3) := by decide +kernel
theorem dX6_measure_16 : decode cX6_measure 16 = .ok (.aload_n 0, 1) := by decide +kernel
theorem dX6_measure_17 : decode cX6_measure 17 = .ok (.getfield 47, 3) := by decide +kernel
theorem dX6_measure_20 : decode cX6_measure 20 = .ok (.aload_n 2, 1) := by decide +kernel
theorem dX6_measure_21 : decode cX6_measure 21 = .ok (.getfield 51, 3) := by decide +kernel
theorem dX6_measure_24 : decode cX6_measure 24 = .ok (.iload 4, 2) := by decide +kernel
theorem dX6_measure_26 : decode cX6_measure 26 = .ok (.invokevirtual 54, 3) := by decide +kernel
theorem dX6_measure_29 : decode cX6_measure 29 = .ok (.iadd, 1) := by decide +kernel
theorem dX6_measure_30 : decode cX6_measure 30 = .ok (.istore 5, 2) := by decide +kernel
theorem dX6_measure_32 : decode cX6_measure 32 = .ok (.aload_n 2, 1) := by decide +kernel
theorem dX6_measure_33 : decode cX6_measure 33 = .ok (.aload_n 0, 1) := by decide +kernel
theorem dX6_measure_34 : decode cX6_measure 34 = .ok (.getfield 47, 3) := by decide +kernel
theorem dX6_measure_37 : decode cX6_measure 37 = .ok (.iload 5, 2) := by decide +kernel
theorem dX6_measure_39 : decode cX6_measure 39 = .ok (.invokevirtual 58, 3) := by decide +kernel
theorem dX6_measure_42 : decode cX6_measure 42 = .ok (.istore 6, 2) := by decide +kernel
theorem dX6_measure_44 : decode cX6_measure 44 = .ok (.aload_n 2, 1) := by decide +kernel
theorem dX6_measure_45 : decode cX6_measure 45 = .ok (.aload_n 0, 1) := by decide +kernel
theorem dX6_measure_46 : decode cX6_measure 46 = .ok (.getfield 47, 3) := by decide +kernel
theorem dX6_measure_49 : decode cX6_measure 49 = .ok (.iload 5, 2) := by decide +kernel
theorem dX6_measure_51 : decode cX6_measure 51 = .ok (.iload_n 3, 1) := by decide +kernel
theorem dX6_measure_52 : decode cX6_measure 52 = .ok (.invokevirtual 62, 3) := by decide +kernel
theorem dX6_measure_55 : decode cX6_measure 55 = .ok (.istore 7, 2) := by decide +kernel
theorem dX6_measure_57 : decode cX6_measure 57 = .ok (.aload_n 0, 1) := by decide +kernel
theorem dX6_measure_58 : decode cX6_measure 58 = .ok (.getfield 14, 3) := by decide +kernel
theorem dX6_measure_61 : decode cX6_measure 61 = .ok (.aload_n 0, 1) := by decide +kernel
theorem dX6_measure_62 : decode cX6_measure 62 = .ok (.getfield 47, 3) := by decide +kernel
theorem dX6_measure_65 : decode cX6_measure 65 = .ok (.invokevirtual 66, 3) := by decide +kernel
theorem dX6_measure_68 : decode cX6_measure 68 = .ok (.aload_n 0, 1) := by decide +kernel
theorem dX6_measure_69 : decode cX6_measure 69 = .ok (.getfield 20, 3) := by decide +kernel
theorem dX6_measure_72 : decode cX6_measure 72 = .ok (.iload 6, 2) := by decide +kernel
theorem dX6_measure_74 : decode cX6_measure 74 = .ok (.invokevirtual 66, 3) := by decide +kernel
theorem dX6_measure_77 : decode cX6_measure 77 = .ok (.aload_n 0, 1) := by decide +kernel
theorem dX6_measure_78 : decode cX6_measure 78 = .ok (.getfield 23, 3) := by decide +kernel
theorem dX6_measure_81 : decode cX6_measure 81 = .ok (.iload 7, 2) := by decide +kernel
theorem dX6_measure_83 : decode cX6_measure 83 = .ok (.invokevirtual 66, 3) := by decide +kernel
theorem dX6_measure_86 : decode cX6_measure 86 = .ok (.aload_n 0, 1) := by decide +kernel
theorem dX6_measure_87 : decode cX6_measure 87 = .ok (.getfield 26, 3) := by decide +kernel
theorem dX6_measure_90 : decode cX6_measure 90 = .ok (.aload_n 0, 1) := by decide +kernel
theorem dX6_measure_91 : decode cX6_measure 91 = .ok (.getfield 69, 3) := by decide +kernel
theorem dX6_measure_94 : decode cX6_measure 94 = .ok (.invokevirtual 66, 3) := by decide +kernel
theorem dX6_measure_97 : decode cX6_measure 97 = .ok (.aload_n 0, 1) := by decide +kernel
theorem dX6_measure_98 : decode cX6_measure 98 = .ok (.iload 5, 2) := by decide +kernel
theorem dX6_measure_100 : decode cX6_measure 100 = .ok (.putfield 47, 3) := by decide +kernel
theorem dX6_measure_103 : decode cX6_measure 103 = .ok (.aload_n 0, 1) := by decide +kernel
theorem dX6_measure_104 : decode cX6_measure 104 = .ok (.dup, 1) := by decide +kernel
theorem dX6_measure_105 : decode cX6_measure 105 = .ok (.getfield 72, 3) := by decide +kernel
theorem dX6_measure_108 : decode cX6_measure 108 = .ok (.iload 6, 2) := by decide +kernel
theorem dX6_measure_110 : decode cX6_measure 110 = .ok (.iadd, 1) := by decide +kernel
theorem dX6_measure_111 : decode cX6_measure 111 = .ok (.putfield 72, 3) := by decide +kernel
theorem dX6_measure_114 : decode cX6_measure 114 = .ok (.aload_n 0, 1) := by decide +kernel
theorem dX6_measure_115 : decode cX6_measure 115 = .ok (.dup, 1) := by decide +kernel
theorem dX6_measure_116 : decode cX6_measure 116 = .ok (.getfield 69, 3) := by decide +kernel
theorem dX6_measure_119 : decode cX6_measure 119 = .ok (.iload 7, 2) := by decide +kernel
theorem dX6_measure_121 : decode cX6_measure 121 = .ok (.iadd, 1) := by decide +kernel
theorem dX6_measure_122 : decode cX6_measure 122 = .ok (.putfield 69, 3) := by decide +kernel
theorem dX6_measure_125 : decode cX6_measure 125 = .ok (.aload_n 0, 1) := by decide +kernel
theorem dX6_measure_126 : decode cX6_measure 126 = .ok (.aload_n 1, 1) := by decide +kernel
theorem dX6_measure_127 : decode cX6_measure 127 = .ok (.aload_n 2, 1) := by decide +kernel
theorem dX6_measure_128 : decode cX6_measure 128 = .ok (.iload 4, 2) := by decide +kernel
theorem dX6_measure_130 : decode cX6_measure 130 = .ok (.invokevirtual 75, 3) := by decide +kernel
theorem dX6_measure_133 : decode cX6_measure 133 = .ok (.iinc 4 1, 3) := by decide +kernel
theorem dX6_measure_136 : decode cX6_measure 136 = .ok (.goto (-129), 3) := by decide +kernel
theorem dX6_measure_139 : decode cX6_measure 139 = .ok (.return_, 1) := by decide +kernel
theorem dX6_clear_0 : decode cX6_clear 0 = .ok (.aload_n 0, 1) := by decide +kernel
theorem dX6_clear_1 : decode cX6_clear 1 = .ok (.getfield 14, 3) := by decide +kernel
theorem dX6_clear_4 : decode cX6_clear 4 = .ok (.invokevirtual 79, 3) := by decide +kernel
theorem dX6_clear_7 : decode cX6_clear 7 = .ok (.aload_n 0, 1) := by decide +kernel
theorem dX6_clear_8 : decode cX6_clear 8 = .ok (.getfield 20, 3) := by decide +kernel
theorem dX6_clear_11 : decode cX6_clear 11 = .ok (.invokevirtual 79, 3) := by decide +kernel
theorem dX6_clear_14 : decode cX6_clear 14 = .ok (.aload_n 0, 1) := by decide +kernel
theorem dX6_clear_15 : decode cX6_clear 15 = .ok (.getfield 23, 3) := by decide +kernel
theorem dX6_clear_18 : decode cX6_clear 18 = .ok (.invokevirtual 79, 3) := by decide +kernel
theorem dX6_clear_21 : decode cX6_clear 21 = .ok (.aload_n 0, 1) := by decide +kernel
theorem dX6_clear_22 : decode cX6_clear 22 = .ok (.getfield 26, 3) := by decide +kernel
theorem dX6_clear_25 : decode cX6_clear 25 = .ok (.invokevirtual 79, 3) := by decide +kernel
theorem dX6_clear_28 : decode cX6_clear 28 = .ok (.aload_n 0, 1) := by decide +kernel
theorem dX6_clear_29 : decode cX6_clear 29 = .ok (.getfield 29, 3) := by decide +kernel
theorem dX6_clear_32 : decode cX6_clear 32 = .ok (.invokevirtual 79, 3) := by decide +kernel
theorem dX6_clear_35 : decode cX6_clear 35 = .ok (.aload_n 0, 1) := by decide +kernel
theorem dX6_clear_36 : decode cX6_clear 36 = .ok (.getfield 32, 3) := by decide +kernel
theorem dX6_clear_39 : decode cX6_clear 39 = .ok (.invokevirtual 79, 3) := by decide +kernel
theorem dX6_clear_42 : decode cX6_clear 42 = .ok (.aload_n 0, 1) := by decide +kernel
theorem dX6_clear_43 : decode cX6_clear 43 = .ok (.getfield 35, 3) := by decide +kernel
theorem dX6_clear_46 : decode cX6_clear 46 = .ok (.invokevirtual 79, 3) := by decide +kernel
theorem dX6_clear_49 : decode cX6_clear 49 = .ok (.aload_n 0, 1) := by decide +kernel
theorem dX6_clear_50 : decode cX6_clear 50 = .ok (.iconst 0, 1) := by decide +kernel
theorem dX6_clear_51 : decode cX6_clear 51 = .ok (.putfield 47, 3) := by decide +kernel
theorem dX6_clear_54 : decode cX6_clear 54 = .ok (.aload_n 0, 1) := by decide +kernel
theorem dX6_clear_55 : decode cX6_clear 55 = .ok (.iconst 0, 1) := by decide +kernel
theorem dX6_clear_56 : decode cX6_clear 56 = .ok (.putfield 72, 3) := by decide +kernel
theorem dX6_clear_59 : decode cX6_clear 59 = .ok (.aload_n 0, 1) := by decide +kernel
theorem dX6_clear_60 : decode cX6_clear 60 = .ok (.iconst 0, 1) := by decide +kernel
theorem dX6_clear_61 : decode cX6_clear 61 = .ok (.putfield 69, 3) := by decide +kernel
theorem dX6_clear_64 : decode cX6_clear 64 = .ok (.aload_n 0, 1) := by decide +kernel
theorem dX6_clear_65 : decode cX6_clear 65 = .ok (.iconst 0, 1) := by decide +kernel
theorem dX6_clear_66 : decode cX6_clear 66 = .ok (.putfield 80, 3) := by decide +kernel
theorem dX6_clear_69 : decode cX6_clear 69 = .ok (.aload_n 0, 1) := by decide +kernel
theorem dX6_clear_70 : decode cX6_clear 70 = .ok (.iconst 0, 1) := by decide +kernel
theorem dX6_clear_71 : decode cX6_clear 71 = .ok (.putfield 83, 3) := by decide +kernel
theorem dX6_clear_74 : decode cX6_clear 74 = .ok (.aload_n 0, 1) := by decide +kernel
theorem dX6_clear_75 : decode cX6_clear 75 = .ok (.iconst 0, 1) := by decide +kernel
theorem dX6_clear_76 : decode cX6_clear 76 = .ok (.putfield 86, 3) := by decide +kernel
theorem dX6_clear_79 : decode cX6_clear 79 = .ok (.aload_n 0, 1) := by decide +kernel
theorem dX6_clear_80 : decode cX6_clear 80 = .ok (.iconst 0, 1) := by decide +kernel
theorem dX6_clear_81 : decode cX6_clear 81 = .ok (.putfield 89, 3) := by decide +kernel
theorem dX6_clear_84 : decode cX6_clear 84 = .ok (.return_, 1) := by decide +kernel
theorem dX6_measureCue_0 : decode cX6_measureCue 0 = .ok (.aload_n 0, 1) := by decide +kernel
theorem dX6_measureCue_1 : decode cX6_measureCue 1 = .ok (.getfield 26, 3) := by decide +kernel
theorem dX6_measureCue_4 : decode cX6_measureCue 4 = .ok (.iload_n 3, 1) := by decide +kernel
theorem dX6_measureCue_5 : decode cX6_measureCue 5 = .ok (.invokevirtual 54, 3) := by decide +kernel
theorem dX6_measureCue_8 : decode cX6_measureCue 8 = .ok (.aload_n 0, 1) := by decide +kernel
theorem dX6_measureCue_9 : decode cX6_measureCue 9 = .ok (.getfield 89, 3) := by decide +kernel
theorem dX6_measureCue_12 : decode cX6_measureCue 12 = .ok (.invokestatic 92, 3) := by decide +kernel
theorem dX6_measureCue_15 : decode cX6_measureCue 15 = .ok (.istore 4, 2) := by decide +kernel
theorem dX6_measureCue_17 : decode cX6_measureCue 17 = .ok (.aload_n 0, 1) := by decide +kernel
theorem dX6_measureCue_18 : decode cX6_measureCue 18 = .ok (.getfield 29, 3) := by decide +kernel
theorem dX6_measureCue_21 : decode cX6_measureCue 21 = .ok (.iload 4, 2) := by decide +kernel
theorem dX6_measureCue_23 : decode cX6_measureCue 23 = .ok (.invokevirtual 66, 3) := by decide +kernel
theorem dX6_measureCue_26 : decode cX6_measureCue 26 = .ok (.aload_n 2, 1) := by decide +kernel
theorem dX6_measureCue_27 : decode cX6_measureCue 27 = .ok (.iload_n 3, 1) := by decide +kernel
theorem dX6_measureCue_28 : decode cX6_measureCue 28 = .ok (.invokevirtual 97, 3) := by decide +kernel
theorem dX6_measureCue_31 : decode cX6_measureCue 31 = .ok (.ifCond .ne 20, 3) := by decide +kernel
theorem dX6_measureCue_34 : decode cX6_measureCue 34 = .ok (.aload_n 0, 1) := by decide +kernel
theorem dX6_measureCue_35 : decode cX6_measureCue 35 = .ok (.getfield 32, 3) := by decide +kernel
theorem dX6_measureCue_38 : decode cX6_measureCue 38 = .ok (.iconst 0, 1) := by decide +kernel
theorem dX6_measureCue_39 : decode cX6_measureCue 39 = .ok (.invokevirtual 66, 3) := by decide +kernel
theorem dX6_measureCue_42 : decode cX6_measureCue 42 = .ok (.aload_n 0, 1) := by decide +kernel
theorem dX6_measureCue_43 : decode cX6_measureCue 43 = .ok (.getfield 35, 3) := by decide +kernel
theorem dX6_measureCue_46 : decode cX6_measureCue 46 = .ok (.iconst 0, 1) := by decide +kernel
theorem dX6_measureCue_47 : decode cX6_measureCue 47 = .ok (.invokevirtual 66, 3) := by decide +kernel
theorem dX6_measureCue_50 : decode cX6_measureCue 50 = .ok (.return_, 1) := by decide +kernel
theorem dX6_measureCue_51 : decode cX6_measureCue 51 = .ok (.aload_n 0, 1) := by decide +kernel
theorem dX6_measureCue_52 : decode cX6_measureCue 52 = .ok (.iload 4, 2) := by decide +kernel
theorem dX6_measureCue_54 : decode cX6_measureCue 54 = .ok (.aload_n 1, 1) := by decide +kernel
theorem dX6_measureCue_55 : decode cX6_measureCue 55 = .ok (.aload_n 2, 1) := by decide +kernel
theorem dX6_measureCue_56 : decode cX6_measureCue 56 = .ok (.getfield 101, 3) := by decide +kernel
theorem dX6_measureCue_59 : decode cX6_measureCue 59 = .ok (.iload_n 3, 1) := by decide +kernel
theorem dX6_measureCue_60 : decode cX6_measureCue 60 = .ok (.invokevirtual 54, 3) := by decide +kernel
theorem dX6_measureCue_63 : decode cX6_measureCue 63 = .ok (.aload_n 2, 1) := by decide +kernel
theorem dX6_measureCue_64 : decode cX6_measureCue 64 = .ok (.getfield 104, 3) := by decide +kernel
theorem dX6_measureCue_67 : decode cX6_measureCue 67 = .ok (.iload_n 3, 1) := by decide +kernel
theorem dX6_measureCue_68 : decode cX6_measureCue 68 = .ok (.invokevirtual 54, 3) := by decide +kernel
theorem dX6_measureCue_71 : decode cX6_measureCue 71 = .ok (.aload_n 2, 1) := by decide +kernel
theorem dX6_measureCue_72 : decode cX6_measureCue 72 = .ok (.getfield 107, 3) := by decide +kernel
theorem dX6_measureCue_75 : decode cX6_measureCue 75 = .ok (.iload_n 3, 1) := by decide +kernel
theorem dX6_measureCue_76 : decode cX6_measureCue 76 = .ok (.invokevirtual 54, 3) := by decide +kernel
theorem dX6_measureCue_79 : decode cX6_measureCue 79 = .ok (.invokevirtual 110, 3) := by decide +kernel
theorem dX6_measureCue_82 : decode cX6_measureCue 82 = .ok (.iadd, 1) := by decide +kernel
theorem dX6_measureCue_83 : decode cX6_measureCue 83 = .ok (.putfield 89, 3) := by decide +kernel
theorem dX6_measureCue_86 : decode cX6_measureCue 86 = .ok (.aload_n 0, 1) := by decide +kernel
theorem dX6_measureCue_87 : decode cX6_measureCue 87 = .ok (.getfield 89, 3) := by decide +kernel
theorem dX6_measureCue_90 : decode cX6_measureCue 90 = .ok (.aload_n 0, 1) := by decide +kernel
theorem dX6_measureCue_91 : decode cX6_measureCue 91 = .ok (.getfield 69, 3) := by decide +kernel
theorem dX6_measureCue_94 : decode cX6_measureCue 94 = .ok (.isub, 1) := by decide +kernel
theorem dX6_measureCue_95 : decode cX6_measureCue 95 = .ok (.istore 5, 2) := by decide +kernel
theorem dX6_measureCue_97 : decode cX6_measureCue 97 = .ok (.aload_n 0, 1) := by decide +kernel
theorem dX6_measureCue_98 : decode cX6_measureCue 98 = .ok (.getfield 32, 3) := by decide +kernel
theorem dX6_measureCue_101 : decode cX6_measureCue 101 = .ok (.aload_n 0, 1) := by decide +kernel
theorem dX6_measureCue_102 : decode cX6_measureCue 102 = .ok (.getfield 89, 3) := by decide +kernel
theorem dX6_measureCue_105 : decode cX6_measureCue 105 = .ok (.invokevirtual 66, 3) := by decide +kernel
theorem dX6_measureCue_108 : decode cX6_measureCue 108 = .ok (.aload_n 0, 1) := by decide +kernel
theorem dX6_measureCue_109 : decode cX6_measureCue 109 = .ok (.getfield 35, 3) := by decide +kernel
theorem dX6_measureCue_112 : decode cX6_measureCue 112 = .ok (.iload 5, 2) := by decide +kernel
theorem dX6_measureCue_114 : decode cX6_measureCue 114 = .ok (.invokevirtual 66, 3) := by decide +kernel
theorem dX6_measureCue_117 : decode cX6_measureCue 117 = .ok (.aload_n 0, 1) := by decide +kernel
theorem dX6_measureCue_118 : decode cX6_measureCue 118 = .ok (.dup, 1) := by decide +kernel
theorem dX6_measureCue_119 : decode cX6_measureCue 119 = .ok (.getfield 80, 3) := by decide +kernel
theorem dX6_measureCue_122 : decode cX6_measureCue 122 = .ok (.iconst 1, 1) := by decide +kernel
theorem dX6_measureCue_123 : decode cX6_measureCue 123 = .ok (.iadd, 1) := by decide +kernel
theorem dX6_measureCue_124 : decode cX6_measureCue 124 = .ok (.putfield 80, 3) := by decide +kernel
theorem dX6_measureCue_127 : decode cX6_measureCue 127 = .ok (.aload_n 0, 1) := by decide +kernel
theorem dX6_measureCue_128 : decode cX6_measureCue 128 = .ok (.dup, 1) := by decide +kernel
theorem dX6_measureCue_129 : decode cX6_measureCue 129 = .ok (.getfield 86, 3) := by decide +kernel
theorem dX6_measureCue_132 : decode cX6_measureCue 132 = .ok (.iload 5, 2) := by decide +kernel
theorem dX6_measureCue_134 : decode cX6_measureCue 134 = .ok (.invokestatic 115, 3) := by decide +kernel
theorem dX6_measureCue_137 : decode cX6_measureCue 137 = .ok (.iadd, 1) := by decide +kernel
theorem dX6_measureCue_138 : decode cX6_measureCue 138 = .ok (.putfield 86, 3) := by decide +kernel
theorem dX6_measureCue_141 : decode cX6_measureCue 141 = .ok (.aload_n 0, 1) := by decide +kernel
theorem dX6_measureCue_142 : decode cX6_measureCue 142 = .ok (.dup, 1) := by decide +kernel
theorem dX6_measureCue_143 : decode cX6_measureCue 143 = .ok (.getfield 83, 3) := by decide +kernel
theorem dX6_measureCue_146 : decode cX6_measureCue 146 = .ok (.aload_n 1, 1) := by decide +kernel
theorem dX6_measureCue_147 : decode cX6_measureCue 147 = .ok (.iload 5, 2) := by decide +kernel
theorem dX6_measureCue_149 : decode cX6_measureCue 149 = .ok (.invokevirtual 118, 3) := by decide +kernel
theorem dX6_measureCue_152 : decode cX6_measureCue 152 = .ok (.ifCond .eq 7, 3) := by decide +kernel
theorem dX6_measureCue_155 : decode cX6_measureCue 155 = .ok (.iconst 1, 1) := by decide +kernel
theorem dX6_measureCue_156 : decode cX6_measureCue 156 = .ok (.goto 4, 3) := by decide +kernel
theorem dX6_measureCue_159 : decode cX6_measureCue 159 = .ok (.iconst 0, 1) := by decide +kernel
theorem dX6_measureCue_160 : decode cX6_measureCue 160 = .ok (.iadd, 1) := by decide +kernel
theorem dX6_measureCue_161 : decode cX6_measureCue 161 = .ok (.putfield 83, 3) := by decide +kernel
theorem dX6_measureCue_164 : decode cX6_measureCue 164 = .ok (.return_, 1) := by decide +kernel
theorem dX6_roomForCue_0 : decode cX6_roomForCue 0 = .ok (.aload_n 0, 1) := by decide +kernel
theorem dX6_roomForCue_1 : decode cX6_roomForCue 1 = .ok (.getfield 26, 3) := by decide +kernel
theorem dX6_roomForCue_4 : decode cX6_roomForCue 4 = .ok (.iload_n 1, 1) := by decide +kernel
theorem dX6_roomForCue_5 : decode cX6_roomForCue 5 = .ok (.invokevirtual 54, 3) := by decide +kernel
theorem dX6_roomForCue_8 : decode cX6_roomForCue 8 = .ok (.aload_n 0, 1) := by decide +kernel
theorem dX6_roomForCue_9 : decode cX6_roomForCue 9 = .ok (.getfield 23, 3) := by decide +kernel
theorem dX6_roomForCue_12 : decode cX6_roomForCue 12 = .ok (.iload_n 1, 1) := by decide +kernel
theorem dX6_roomForCue_13 : decode cX6_roomForCue 13 = .ok (.invokevirtual 54, 3) := by decide +kernel
theorem dX6_roomForCue_16 : decode cX6_roomForCue 16 = .ok (.iadd, 1) := by decide +kernel
theorem dX6_roomForCue_17 : decode cX6_roomForCue 17 = .ok (.aload_n 0, 1) := by decide +kernel
theorem dX6_roomForCue_18 : decode cX6_roomForCue 18 = .ok (.getfield 29, 3) := by decide +kernel
theorem dX6_roomForCue_21 : decode cX6_roomForCue 21 = .ok (.iload_n 1, 1) := by decide +kernel
theorem dX6_roomForCue_22 : decode cX6_roomForCue 22 = .ok (.invokevirtual 54, 3) := by decide +kernel
theorem dX6_roomForCue_25 : decode cX6_roomForCue 25 = .ok (.isub, 1) := by decide +kernel
theorem dX6_roomForCue_26 : decode cX6_roomForCue 26 = .ok (.ireturn, 1) := by decide +kernel
theorem dX6_silence_0 : decode cX6_silence 0 = .ok (.iconst 0, 1) := by decide +kernel
theorem dX6_silence_1 : decode cX6_silence 1 = .ok (.istore_n 2, 1) := by decide +kernel
theorem dX6_silence_2 : decode cX6_silence 2 = .ok (.iconst 0, 1) := by decide +kernel
theorem dX6_silence_3 : decode cX6_silence 3 = .ok (.istore_n 3, 1) := by decide +kernel
theorem dX6_silence_4 : decode cX6_silence 4 = .ok (.iload_n 3, 1) := by decide +kernel
theorem dX6_silence_5 : decode cX6_silence 5 = .ok (.aload_n 1, 1) := by decide +kernel
theorem dX6_silence_6 : decode cX6_silence 6 = .ok (.invokevirtual 41, 3) := by decide +kernel
theorem dX6_silence_9 : decode cX6_silence 9 = .ok (.if_icmp .ge 48, 3) := by decide +kernel
theorem dX6_silence_12 : decode cX6_silence 12 = .ok (.aload_n 1, 1) := by decide +kernel
theorem dX6_silence_13 : decode cX6_silence 13 = .ok (.iload_n 3, 1) := by decide +kernel
theorem dX6_silence_14 : decode cX6_silence 14 = .ok (.invokevirtual 97, 3) := by decide +kernel
theorem dX6_silence_17 : decode cX6_silence 17 = .ok (.ifCond .eq 34, 3) := by decide +kernel
theorem dX6_silence_20 : decode cX6_silence 20 = .ok (.iload_n 2, 1) := by decide +kernel
theorem dX6_silence_21 : decode cX6_silence 21 = .ok (.iconst 0, 1) := by decide +kernel
theorem dX6_silence_22 : decode cX6_silence 22 = .ok (.aload_n 0, 1) := by decide +kernel
theorem dX6_silence_23 : decode cX6_silence 23 = .ok (.getfield 32, 3) := by decide +kernel
theorem dX6_silence_26 : decode cX6_silence 26 = .ok (.iload_n 3, 1) := by decide +kernel
theorem dX6_silence_27 : decode cX6_silence 27 = .ok (.invokevirtual 54, 3) := by decide +kernel
theorem dX6_silence_30 : decode cX6_silence 30 = .ok (.aload_n 0, 1) := by decide +kernel
theorem dX6_silence_31 : decode cX6_silence 31 = .ok (.getfield 69, 3) := by decide +kernel
theorem dX6_silence_34 : decode cX6_silence 34 = .ok (.invokestatic 121, 3) := by decide +kernel
theorem dX6_silence_37 : decode cX6_silence 37 = .ok (.aload_n 0, 1) := by decide +kernel
theorem dX6_silence_38 : decode cX6_silence 38 = .ok (.getfield 29, 3) := by decide +kernel
theorem dX6_silence_41 : decode cX6_silence 41 = .ok (.iload_n 3, 1) := by decide +kernel
theorem dX6_silence_42 : decode cX6_silence 42 = .ok (.invokevirtual 54, 3) := by decide +kernel
theorem dX6_silence_45 : decode cX6_silence 45 = .ok (.isub, 1) := by decide +kernel
theorem dX6_silence_46 : decode cX6_silence 46 = .ok (.invokestatic 92, 3) := by decide +kernel
theorem dX6_silence_49 : decode cX6_silence 49 = .ok (.iadd, 1) := by decide +kernel
theorem dX6_silence_50 : decode cX6_silence 50 = .ok (.istore_n 2, 1) := by decide +kernel
theorem dX6_silence_51 : decode cX6_silence 51 = .ok (.iinc 3 1, 3) := by decide +kernel
theorem dX6_silence_54 : decode cX6_silence 54 = .ok (.goto (-50), 3) := by decide +kernel
theorem dX6_silence_57 : decode cX6_silence 57 = .ok (.aload_n 0, 1) := by decide +kernel
theorem dX6_silence_58 : decode cX6_silence 58 = .ok (.getfield 69, 3) := by decide +kernel
theorem dX6_silence_61 : decode cX6_silence 61 = .ok (.iload_n 2, 1) := by decide +kernel
theorem dX6_silence_62 : decode cX6_silence 62 = .ok (.isub, 1) := by decide +kernel
theorem dX6_silence_63 : decode cX6_silence 63 = .ok (.ireturn, 1) := by decide +kernel
theorem dJxe99ae_isNaN_b9ae7_0 : decode cJxe99ae_isNaN_b9ae7 0 = .ok (.dload_n 0, 1) := by decide +kernel
theorem dJxe99ae_isNaN_b9ae7_1 : decode cJxe99ae_isNaN_b9ae7 1 = .ok (.dload_n 0, 1) := by decide +kernel
theorem dJxe99ae_isNaN_b9ae7_2 : decode cJxe99ae_isNaN_b9ae7 2 = .ok (.dcmp .l, 1) := by decide +kernel
theorem dJxe99ae_isNaN_b9ae7_3 : decode cJxe99ae_isNaN_b9ae7 3 = .ok (.ifCond .eq 7, 3) := by decide +kernel
theorem dJxe99ae_isNaN_b9ae7_6 : decode cJxe99ae_isNaN_b9ae7 6 = .ok (.iconst 1, 1) := by decide +kernel
theorem dJxe99ae_isNaN_b9ae7_7 : decode cJxe99ae_isNaN_b9ae7 7 = .ok (.goto 4, 3) := by decide +kernel
theorem dJxe99ae_isNaN_b9ae7_10 : decode cJxe99ae_isNaN_b9ae7 10 = .ok (.iconst 0, 1) := by decide +kernel
theorem dJxe99ae_isNaN_b9ae7_11 : decode cJxe99ae_isNaN_b9ae7 11 = .ok (.ireturn, 1) := by decide +kernel
theorem dJxe99ae_doubleToLongBits_ccdee_0 : decode cJxe99ae_doubleToLongBits_ccdee 0 = .ok (.dload_n 0, 1) := by decide +kernel
theorem dJxe99ae_doubleToLongBits_ccdee_1 : decode cJxe99ae_doubleToLongBits_ccdee 1 = .ok (.invokestatic 122, 3) := by decide +kernel
theorem dJxe99ae_doubleToLongBits_ccdee_4 : decode cJxe99ae_doubleToLongBits_ccdee 4 = .ok (.ifCond .ne 8, 3) := by decide +kernel
theorem dJxe99ae_doubleToLongBits_ccdee_7 : decode cJxe99ae_doubleToLongBits_ccdee 7 = .ok (.dload_n 0, 1) := by decide +kernel
theorem dJxe99ae_doubleToLongBits_ccdee_8 : decode cJxe99ae_doubleToLongBits_ccdee 8 = .ok (.invokestatic 134, 3) := by decide +kernel
theorem dJxe99ae_doubleToLongBits_ccdee_11 : decode cJxe99ae_doubleToLongBits_ccdee 11 = .ok (.lreturn, 1) := by decide +kernel
theorem dJxe99ae_doubleToLongBits_ccdee_12 : decode cJxe99ae_doubleToLongBits_ccdee 12 = .ok (.ldc2_w 137, 3) := by decide +kernel
theorem dJxe99ae_doubleToLongBits_ccdee_15 : decode cJxe99ae_doubleToLongBits_ccdee 15 = .ok (.lreturn, 1) := by decide +kernel
theorem dJxf58ca_isNaN_12338_0 : decode cJxf58ca_isNaN_12338 0 = .ok (.fload_n 0, 1) := by decide +kernel
theorem dJxf58ca_isNaN_12338_1 : decode cJxf58ca_isNaN_12338 1 = .ok (.fload_n 0, 1) := by decide +kernel
theorem dJxf58ca_isNaN_12338_2 : decode cJxf58ca_isNaN_12338 2 = .ok (.fcmp .l, 1) := by decide +kernel
theorem dJxf58ca_isNaN_12338_3 : decode cJxf58ca_isNaN_12338 3 = .ok (.ifCond .eq 7, 3) := by decide +kernel
theorem dJxf58ca_isNaN_12338_6 : decode cJxf58ca_isNaN_12338 6 = .ok (.iconst 1, 1) := by decide +kernel
theorem dJxf58ca_isNaN_12338_7 : decode cJxf58ca_isNaN_12338 7 = .ok (.goto 4, 3) := by decide +kernel
theorem dJxf58ca_isNaN_12338_10 : decode cJxf58ca_isNaN_12338 10 = .ok (.iconst 0, 1) := by decide +kernel
theorem dJxf58ca_isNaN_12338_11 : decode cJxf58ca_isNaN_12338 11 = .ok (.ireturn, 1) := by decide +kernel
theorem dJxf58ca_floatToIntBits_5c35a_0 : decode cJxf58ca_floatToIntBits_5c35a 0 = .ok (.fload_n 0, 1) := by decide +kernel
theorem dJxf58ca_floatToIntBits_5c35a_1 : decode cJxf58ca_floatToIntBits_5c35a 1 = .ok (.invokestatic 59, 3) := by decide +kernel
theorem dJxf58ca_floatToIntBits_5c35a_4 : decode cJxf58ca_floatToIntBits_5c35a 4 = .ok (.ifCond .ne 8, 3) := by decide +kernel
theorem dJxf58ca_floatToIntBits_5c35a_7 : decode cJxf58ca_floatToIntBits_5c35a 7 = .ok (.fload_n 0, 1) := by decide +kernel
theorem dJxf58ca_floatToIntBits_5c35a_8 : decode cJxf58ca_floatToIntBits_5c35a 8 = .ok (.invokestatic 74, 3) := by decide +kernel
theorem dJxf58ca_floatToIntBits_5c35a_11 : decode cJxf58ca_floatToIntBits_5c35a 11 = .ok (.ireturn, 1) := by decide +kernel
theorem dJxf58ca_floatToIntBits_5c35a_12 : decode cJxf58ca_floatToIntBits_5c35a 12 = .ok (.ldc 77, 2) := by decide +kernel
theorem dJxf58ca_floatToIntBits_5c35a_14 : decode cJxf58ca_floatToIntBits_5c35a 14 = .ok (.ireturn, 1) := by decide +kernel
theorem dJ9_abs_0f7a4_0 : decode cJ9_abs_0f7a4 0 = .ok (.iload_n 0, 1) := by decide +kernel
theorem dJ9_abs_0f7a4_1 : decode cJ9_abs_0f7a4 1 = .ok (.ifCond .ge 8, 3) := by decide +kernel
theorem dJ9_abs_0f7a4_4 : decode cJ9_abs_0f7a4 4 = .ok (.iload_n 0, 1) := by decide +kernel
theorem dJ9_abs_0f7a4_5 : decode cJ9_abs_0f7a4 5 = .ok (.ineg, 1) := by decide +kernel
theorem dJ9_abs_0f7a4_6 : decode cJ9_abs_0f7a4 6 = .ok (.goto 4, 3) := by decide +kernel
theorem dJ9_abs_0f7a4_9 : decode cJ9_abs_0f7a4 9 = .ok (.iload_n 0, 1) := by decide +kernel
theorem dJ9_abs_0f7a4_10 : decode cJ9_abs_0f7a4 10 = .ok (.ireturn, 1) := by decide +kernel
theorem dJ9_max_7cf53_0 : decode cJ9_max_7cf53 0 = .ok (.iload_n 0, 1) := by decide +kernel
theorem dJ9_max_7cf53_1 : decode cJ9_max_7cf53 1 = .ok (.iload_n 1, 1) := by decide +kernel
theorem dJ9_max_7cf53_2 : decode cJ9_max_7cf53 2 = .ok (.if_icmp .lt 7, 3) := by decide +kernel
theorem dJ9_max_7cf53_5 : decode cJ9_max_7cf53 5 = .ok (.iload_n 0, 1) := by decide +kernel
theorem dJ9_max_7cf53_6 : decode cJ9_max_7cf53 6 = .ok (.goto 4, 3) := by decide +kernel
theorem dJ9_max_7cf53_9 : decode cJ9_max_7cf53 9 = .ok (.iload_n 1, 1) := by decide +kernel
theorem dJ9_max_7cf53_10 : decode cJ9_max_7cf53 10 = .ok (.ireturn, 1) := by decide +kernel
theorem dJ9_min_7cf53_0 : decode cJ9_min_7cf53 0 = .ok (.iload_n 0, 1) := by decide +kernel
theorem dJ9_min_7cf53_1 : decode cJ9_min_7cf53 1 = .ok (.iload_n 1, 1) := by decide +kernel
theorem dJ9_min_7cf53_2 : decode cJ9_min_7cf53 2 = .ok (.if_icmp .gt 7, 3) := by decide +kernel
theorem dJ9_min_7cf53_5 : decode cJ9_min_7cf53 5 = .ok (.iload_n 0, 1) := by decide +kernel
theorem dJ9_min_7cf53_6 : decode cJ9_min_7cf53 6 = .ok (.goto 4, 3) := by decide +kernel
theorem dJ9_min_7cf53_9 : decode cJ9_min_7cf53 9 = .ok (.iload_n 1, 1) := by decide +kernel
theorem dJ9_min_7cf53_10 : decode cJ9_min_7cf53 10 = .ok (.ireturn, 1) := by decide +kernel
end
section
/-! ===== BEGIN a constructor that throws (launches without stack traces) ===== -/
section VXIA
variable {p : Program} {l : Launch} {e : Env} {R : Room} {s : State} {m : MethodId} {args : Array Value} {below : List Frame} {meth : Method} {c : Code} {T : State} {locs : List Loc} {cells slots : Nat}
theorem vx_callI (X : Stand p l e R s m args below meth c T locs cells slots) (hexec : p.tables.exec = Jvm.exec) {own : String} {index : Nat} {y : MethodName} {bytes : ByteArray} {maxL : Nat}
    (hown : s.vm.findClass own = some m.cls) (hy1 : y.name = "<init>") (hlink : (Cond.methodLink own index y).before args s = true) (hinst : (Cond.instanceMethod y).before args s = true)
    (hcode : (Cond.code y bytes maxL none).before args s = true) (hy : y.cls ≠ "java/lang/invoke/MethodHandle" ∧ y.cls ≠ "java/lang/invoke/VarHandle")
    {W9 : Nat} {Pre : Pt → Array Value → Prop} {Post : Pt → Array Value → Option Value → Pt → Prop} {PostX : Pt → Array Value → Addr → Pt → Prop} (hK : vx_Back l R p e below s args y 3 W9 Pre Post PostX)
    {g : JFrame} (hg : g.method = m) (hsize : g.locals.size = c.maxLocals) {a : Addr} {argsL rest : List Value} (hlen : ∀ sig, parseMethodDescriptor y.desc = some sig → argsL.length = sig.parameters.length)
    (hstack : g.stack = argsL.reverse ++ .ref a :: rest) (hW : 2 * g.monitorRoom + (rest.map fun v => v.category).sum ≤ W9) (hdg : decode c.code g.pc = .ok (.invokespecial index, 3))
    (hpre : ∀ vm₁, s.WarmedH vm₁ → Pre ⟨T.setVm vm₁, locs, cells, slots⟩ (Value.ref a :: argsL).toArray) :
    (∃ (v : Option Value) (vm₁ : Vm) (B : Pt), s.WarmedH vm₁ ∧ Stand p l e R s m args below meth c B.U B.locs B.cells B.slots ∧ Post ⟨T.setVm vm₁, locs, cells, slots⟩ (Value.ref a :: argsL).toArray v B ∧
      ∀ target, Steps p.tables e below (B.U.setTop { g with pc := g.pc + 3, stack := v.toList ++ rest }) target → Steps p.tables e below (T.setTop g) target) ∨
    (∃ (q : Addr) (vm₁ : Vm) (B : Pt), s.WarmedH vm₁ ∧ Stand p l e R s m args below meth c B.U B.locs B.cells B.slots ∧ PostX ⟨T.setVm vm₁, locs, cells, slots⟩ (Value.ref a :: argsL).toArray q B ∧
      Steps p.tables e below (T.setTop g) ((B.U.setTop { g with stack := rest }).pushFrame (.throwing q))) := by
  subst hg
  have hpl : e.platform.magicAccessors = ({} : Platform).magicAccessors := by rw [X.admits.platform]
  obtain ⟨mk, methM, cM, kP, vm₁, hnamed, hmethM, hcodeM, -, hlocalsM, -, hkP, -, hW₁, hstep₁⟩ := Steps.initColdArgs (e := e) X.here hexec X.warmed hpl hown hy1 hy hlink hinst hcode (f := g) rfl hlen hstack hdg
  have X₁ := X.noted hW₁
  rcases hK g.method meth c ⟨T.setVm vm₁, locs, cells, slots⟩ { g with stack := rest } (.invokespecial index) mk (Value.ref a :: argsL).toArray X₁ rfl hsize hdg hW (X₁.named hnamed) (hpre vm₁ X₁.warmed) with ⟨v, B, X', hpost, hsteps⟩ | ⟨q, B, X', hpost, hsteps⟩
  · exact Or.inl ⟨v, vm₁, B, X₁.warmed, X', hpost, fun target h => hstep₁ _ fun acts => by rw [doInvoke_state]; exact hsteps.trans h⟩
  · exact Or.inr ⟨q, vm₁, B, X₁.warmed, X', hpost, hstep₁ _ fun acts => by rw [doInvoke_state]; exact hsteps⟩
end VXIA
section VXIB
variable {p : Program} {l : Launch} {e : Env} {R : Room} {s : State} {m : MethodId} {args : Array Value} {below : List Frame} {meth : Method} {c : Code} {H : Heap} {locs : List Loc} {cells slots : Nat}
variable {y : MethodName} {bytes cc : ByteArray} {maxL nL mc ms n index : Nat} {ret : Option FieldType} {ws : List Cond} {rm : Room} {Pc : Array Value → State → Prop} {Qc : Array Value → State → Outcome → State → Prop} {XC : String → State → State → Prop} {free : Addr → Prop} {Ts : List Cond} {own C : String} {b : Addr} {As rest : List Value} {g : JFrame}
theorem vx_runI (S : CallFix p m c cc nL s args Ts own) (hM : vx_Met l y ws rm Pc Qc XC mc ms free) (cw : CallB R s args own index y bytes maxL none ws rm mc ms n ∧ y.name = "<init>" ∧ (Cond.instanceMethod y).before args s = true) (hp : PreS s H Pc (.ref b :: As))
    (hg : g.method = m) (hn : As.length = n) (hsize : g.locals.size = nL) (hstack : g.stack = As.reverse ++ .ref b :: rest) (hW : 2 * g.monitorRoom + (rest.map fun v => v.category).sum ≤ 8) (hdg : decode cc g.pc = .ok (.invokespecial index, 3)) (hf : cells + mc ≤ R.cells ∧ slots + ms ≤ R.slots) :
    vx_Run p l e R s m args below meth c H locs cells slots mc ms g rest (Qc (Value.ref b :: As).toArray) XC free := by
  have hK : vx_Back l R p e below s args y 3 8 (PreOf R mc ms Pc) (PostOf Qc mc ms free) (vx_Post XC mc ms free) := vx_callBack cw.1 hM hp.1
  obtain ⟨⟨-, -, -, -, -, -, hcode, -, hy, hlen, hl⟩, hy1, hin⟩ := cw
  obtain ⟨hx, hb, hml, ho, -⟩ := S
  have hPc := hp.2
  intro T hT X
  rcases vx_callI X hx (bytes := bytes) (maxL := maxL) ho hy1 hl hin hcode hy hK hg (hsize.trans hml.symm) (a := b) (argsL := As) (rest := rest) (fun sig h => hn.trans (hlen sig h)) hstack hW (by rw [hb]; exact hdg)
    (fun vm₁ hW₁ => ⟨hf.1, hf.2, hPc (T.setVm vm₁) hT hW₁⟩) with ⟨v, vm₁, ⟨U', l2, c2, s2⟩, hW₁, X', ⟨g', mk, t, L, e1, e2, hq, h1, hL, h2, h3⟩, st⟩ | ⟨q, vm₁, ⟨U', l2, c2, s2⟩, hW₁, X', ⟨g', mk, t, L, E, ce, e1, e2, hq, hce, hcv, hcl, h1, hL, h2, h3⟩, st⟩
  · dsimp only [Pt.U, Pt.locs, Pt.cells, Pt.slots] at X' e1 e2 h1 h2 h3 st
    subst h1; subst h2; subst h3
    exact Or.inl ⟨v, (T.setVm vm₁).calling g' mk (Value.ref b :: As).toArray, t, U', L, hT, X', hL, e1, e2, hq, st⟩
  · dsimp only [Pt.U, Pt.locs, Pt.cells, Pt.slots] at X' e1 e2 h1 h2 h3 st hcl
    subst h1; subst h2; subst h3
    exact Or.inr ⟨q, (T.setVm vm₁).calling g' mk (Value.ref b :: As).toArray, t, U', L, E, ce, hT, X', hL, e1, e2, hq, hce, hcv, vx_cls hW₁ hcl, st⟩
end VXIB
/-! ===== END ===== -/
/-! ===== BEGIN a private constructor of a nest mate that throws ===== -/
section VXIC
variable {p : Program} {l : Launch} {e : Env} {R : Room} {s : State} {m : MethodId} {args : Array Value} {below : List Frame} {meth : Method} {c : Code} {T : State} {locs : List Loc} {cells slots : Nat}
theorem vx_callIN (X : Stand p l e R s m args below meth c T locs cells slots) (hexec : p.tables.exec = Jvm.exec) {own : String} {index : Nat} {host : String} {y : MethodName} {bytes : ByteArray} {maxL : Nat}
    (hown : s.vm.findClass own = some m.cls) (hy1 : y.name = "<init>") (hlink : (Cond.methodLinkNest own index y host).before args s = true) (hinst : (Cond.instanceMethod y).before args s = true)
    (hcode : (Cond.code y bytes maxL none).before args s = true) (hy : y.cls ≠ "java/lang/invoke/MethodHandle" ∧ y.cls ≠ "java/lang/invoke/VarHandle")
    {W9 : Nat} {Pre : Pt → Array Value → Prop} {Post : Pt → Array Value → Option Value → Pt → Prop} {PostX : Pt → Array Value → Addr → Pt → Prop} (hK : vx_Back l R p e below s args y 3 W9 Pre Post PostX)
    {g : JFrame} (hg : g.method = m) (hsize : g.locals.size = c.maxLocals) {a : Addr} {argsL rest : List Value} (hlen : ∀ sig, parseMethodDescriptor y.desc = some sig → argsL.length = sig.parameters.length)
    (hstack : g.stack = argsL.reverse ++ .ref a :: rest) (hW : 2 * g.monitorRoom + (rest.map fun v => v.category).sum ≤ W9) (hdg : decode c.code g.pc = .ok (.invokespecial index, 3))
    (hpre : ∀ vm₁, s.WarmedH vm₁ → Pre ⟨T.setVm vm₁, locs, cells, slots⟩ (Value.ref a :: argsL).toArray) :
    (∃ (v : Option Value) (vm₁ : Vm) (B : Pt), s.WarmedH vm₁ ∧ Stand p l e R s m args below meth c B.U B.locs B.cells B.slots ∧ Post ⟨T.setVm vm₁, locs, cells, slots⟩ (Value.ref a :: argsL).toArray v B ∧
      ∀ target, Steps p.tables e below (B.U.setTop { g with pc := g.pc + 3, stack := v.toList ++ rest }) target → Steps p.tables e below (T.setTop g) target) ∨
    (∃ (q : Addr) (vm₁ : Vm) (B : Pt), s.WarmedH vm₁ ∧ Stand p l e R s m args below meth c B.U B.locs B.cells B.slots ∧ PostX ⟨T.setVm vm₁, locs, cells, slots⟩ (Value.ref a :: argsL).toArray q B ∧
      Steps p.tables e below (T.setTop g) ((B.U.setTop { g with stack := rest }).pushFrame (.throwing q))) := by
  subst hg
  have hpl : e.platform.magicAccessors = ({} : Platform).magicAccessors := by rw [X.admits.platform]
  obtain ⟨mk, methM, cM, kP, vm₁, hnamed, hmethM, hcodeM, -, hlocalsM, -, hkP, -, hW₁, hstep₁⟩ := Steps.initColdArgsNest (e := e) X.here hexec X.warmed hpl hown hy1 hy hlink hinst hcode (f := g) rfl hlen hstack hdg
  have X₁ := X.noted hW₁
  rcases hK g.method meth c ⟨T.setVm vm₁, locs, cells, slots⟩ { g with stack := rest } (.invokespecial index) mk (Value.ref a :: argsL).toArray X₁ rfl hsize hdg hW (X₁.named hnamed) (hpre vm₁ X₁.warmed) with ⟨v, B, X', hpost, hsteps⟩ | ⟨q, B, X', hpost, hsteps⟩
  · exact Or.inl ⟨v, vm₁, B, X₁.warmed, X', hpost, fun target h => hstep₁ _ fun acts => by rw [doInvoke_state]; exact hsteps.trans h⟩
  · exact Or.inr ⟨q, vm₁, B, X₁.warmed, X', hpost, hstep₁ _ fun acts => by rw [doInvoke_state]; exact hsteps⟩
end VXIC
section VXID
variable {p : Program} {l : Launch} {e : Env} {R : Room} {s : State} {m : MethodId} {args : Array Value} {below : List Frame} {meth : Method} {c : Code} {H : Heap} {locs : List Loc} {cells slots : Nat}
theorem vx_runIN {y : MethodName} {bytes cc : ByteArray} {maxL nL mc ms n index : Nat} {ws : List Cond} {rm : Room} {Pc : Array Value → State → Prop} {Qc : Array Value → State → Outcome → State → Prop} {XC : String → State → State → Prop} {free : Addr → Prop} {Ts : List Cond} {own host : String} {b : Addr} {As rest : List Value} {g : JFrame}
    (S : CallFix p m c cc nL s args Ts own) (hM : vx_Met l y ws rm Pc Qc XC mc ms free) (cw : va_CN R s args own index y host bytes maxL none ws rm mc ms n ∧ y.name = "<init>" ∧ (Cond.instanceMethod y).before args s = true) (hp : PreS s H Pc (.ref b :: As))
    (hg : g.method = m) (hn : As.length = n) (hsize : g.locals.size = nL) (hstack : g.stack = As.reverse ++ .ref b :: rest) (hW : 2 * g.monitorRoom + (rest.map fun v => v.category).sum ≤ 8) (hdg : decode cc g.pc = .ok (.invokespecial index, 3)) (hf : cells + mc ≤ R.cells ∧ slots + ms ≤ R.slots) :
    vx_Run p l e R s m args below meth c H locs cells slots mc ms g rest (Qc (Value.ref b :: As).toArray) XC free := by
  obtain ⟨⟨⟨hrc, hrs, hfr, hlo, hws, hcw⟩, hcode, hini, hy, hlen, hl⟩, hx1, hx2⟩ := cw
  have hK : vx_Back l R p e below s args y 3 8 (PreOf R mc ms Pc) (PostOf Qc mc ms free) (vx_Post XC mc ms free) := vx_back (bytes := bytes) (maxL := maxL) (ret := none) hM hp.1 hrc hrs hfr hlo hws hcw (fun a' U hW => word_at hW (Or.inl (by first | rfl | simp [Cond.onTables, Cond.keeps, Cond.steady])) hini)
  obtain ⟨hx, hb, hml, ho, -⟩ := S
  have hPc := hp.2
  intro T hT X
  rcases vx_callIN X hx (bytes := bytes) (maxL := maxL) ho hx1 hl hx2 hcode hy hK hg (hsize.trans hml.symm) (a := b) (argsL := As) (rest := rest) (fun sig h => hn.trans (hlen sig h)) hstack hW (by rw [hb]; exact hdg)
    (fun vm₁ hW₁ => ⟨hf.1, hf.2, hPc (T.setVm vm₁) hT hW₁⟩) with ⟨v, vm₁, ⟨U', l2, c2, s2⟩, hW₁, X', ⟨g', mk, t, L, e1, e2, hq, h1, hL, h2, h3⟩, st⟩ | ⟨q, vm₁, ⟨U', l2, c2, s2⟩, hW₁, X', ⟨g', mk, t, L, E, ce, e1, e2, hq, hce, hcv, hcl, h1, hL, h2, h3⟩, st⟩
  · dsimp only [Pt.U, Pt.locs, Pt.cells, Pt.slots] at X' e1 e2 h1 h2 h3 st
    subst h1; subst h2; subst h3
    exact Or.inl ⟨v, (T.setVm vm₁).calling g' mk (Value.ref b :: As).toArray, t, U', L, hT, X', hL, e1, e2, hq, st⟩
  · dsimp only [Pt.U, Pt.locs, Pt.cells, Pt.slots] at X' e1 e2 h1 h2 h3 st hcl
    subst h1; subst h2; subst h3
    exact Or.inr ⟨q, (T.setVm vm₁).calling g' mk (Value.ref b :: As).toArray, t, U', L, E, ce, hT, X', hL, e1, e2, hq, hce, hcv, vx_cls hW₁ hcl, st⟩
end VXID
/-! ===== END ===== -/
end
section
/-! THE FRAME: the world as kinds T (fixed once made), numbers V (by address and place), longs and doubles X, and the heap's size; J: the machine at a pc of a method, over such a world; Sp: a method's contract at given arguments and world -/
abbrev jK : Type := (Nat × List (Nat ⊕ Option Nat)) ⊕ ((Nat × Nat) ⊕ (Nat × (Nat → Option Nat)))
abbrev jT : Type := Nat → Option jK
abbrev jV : Type := Nat → Nat → Int32
abbrev jX : Type := (Nat → Nat → Int64) × (Nat → Nat → UInt64)
abbrev jD : Type := va_G × (Nat → ClassId)
abbrev jM : Type := MethodName × ByteArray × Nat × Option FieldType × List (Nat × Nat × Nat × Nat)
abbrev jO : Type := Option Value ⊕ String
abbrev jQ : Type := jO → jT → jV → jX → Nat → Prop
def j_fv (V : jV) (X : jX) (q k : Nat) : Nat ⊕ Option Nat → Value
  | .inl 0 => .int (V q k)
  | .inl _ => .long (X.1 q k)
  | .inr r => va_rf r
def j_fs (V : jV) (X : jX) (q : Nat) : Nat → List (Nat ⊕ Option Nat) → List Value
  | _, [] => []
  | k, f :: r => j_fv V X q k f :: j_fs V X q (k + 1) r
def j_E (cA : Nat → ClassId) (V : jV) (X : jX) (q : Nat) : jK → va_E
  | .inl o => .inr (o.1, j_fs V X q 0 o.2)
  | .inr (.inl (0, n)) => .inl (cA 0, n, .inl (V q))
  | .inr (.inl (1, n)) => .inl (cA 1, n, .inr (.inl (X.1 q)))
  | .inr (.inl (_, n)) => .inl (cA 2, n, .inr (.inr (.inr (.inl (X.2 q)))))
  | .inr (.inr (n, f)) => .inl (cA 3, n, .inr (.inr (.inr (.inr f))))
theorem j_fs_get (V : jV) (X : jX) (q : Nat) : ∀ (fs : List (Nat ⊕ Option Nat)) (i k : Nat) (f : Nat ⊕ Option Nat), fs[k]? = some f → (j_fs V X q i fs)[k]? = some (j_fv V X q (i + k) f)
  | [], _, _, _, h => by simp at h
  | a :: r, i, 0, f, h => by simp at h; subst h; rfl
  | a :: r, i, k + 1, f, h => by
    have h' : r[k]? = some f := by simpa using h
    have := j_fs_get V X q r (i + 1) k f h'
    rw [show i + (k + 1) = i + 1 + k by omega]
    simpa [j_fs] using this
theorem j_fs_len (V : jV) (X : jX) (q : Nat) : ∀ (fs : List (Nat ⊕ Option Nat)) (i : Nat), (j_fs V X q i fs).length = fs.length
  | [], _ => rfl
  | a :: r, i => by simp [j_fs, j_fs_len V X q r (i + 1)]
theorem j_fs_congr (V V' : jV) (X X' : jX) (q : Nat) (h : V q = V' q) (h1 : X.1 q = X'.1 q) : ∀ (fs : List (Nat ⊕ Option Nat)) (i : Nat), j_fs V X q i fs = j_fs V' X' q i fs
  | [], _ => rfl
  | a :: r, i => by
    have e : j_fv V X q i a = j_fv V' X' q i a := by
      rcases a with (_ | n) | b
      · show Value.int (V q i) = .int (V' q i); rw [h]
      · show Value.long (X.1 q i) = .long (X'.1 q i); rw [h1]
      · rfl
    show j_fv V X q i a :: j_fs V X q (i + 1) r = j_fv V' X' q i a :: j_fs V' X' q (i + 1) r
    rw [e, j_fs_congr V V' X X' q h h1 r (i + 1)]
theorem j_E_congr {cA : Nat → ClassId} {V V' : jV} {X X' : jX} {q : Nat} (h : V q = V' q) (h1 : X.1 q = X'.1 q) (h2 : X.2 q = X'.2 q) (k : jK) : j_E cA V X q k = j_E cA V' X' q k := by
  rcases k with o | ((⟨_ | _ | t, n⟩) | ⟨n, f⟩)
  · show Sum.inr (o.1, j_fs V X q 0 o.2) = Sum.inr (o.1, j_fs V' X' q 0 o.2); rw [j_fs_congr V V' X X' q h h1]
  · show Sum.inl (cA 0, n, Sum.inl (V q)) = _; rw [h]; rfl
  · show Sum.inl (cA 1, n, Sum.inr (Sum.inl (X.1 q))) = _; rw [h1]; rfl
  · show Sum.inl (cA 2, n, Sum.inr (Sum.inr (Sum.inr (Sum.inl (X.2 q))))) = _; rw [h2]; rfl
  · rfl
/-- one number set -/
def jset {α : Type} (V : Nat → Nat → α) (q k : Nat) (v : α) : Nat → Nat → α := fun a i => if a = q ∧ i = k then v else V a i
theorem jset_eq {α : Type} {V : Nat → Nat → α} {q k : Nat} {v : α} : jset V q k v q k = v := by simp [jset]
theorem jset_ne {α : Type} {V : Nat → Nat → α} {q k a i : Nat} {v : α} (h : a ≠ q ∨ i ≠ k) : jset V q k v a i = V a i := by
  unfold jset
  rw [if_neg]
  rintro ⟨h1, h2⟩
  rcases h with h | h
  · exact h h1
  · exact h h2
theorem jset_row {α : Type} {V : Nat → Nat → α} {q k a : Nat} {v : α} (h : a ≠ q) : jset V q k v a = V a := funext fun i => jset_ne (Or.inl h)
theorem jset_at {α : Type} {V : Nat → Nat → α} {q k : Nat} {v : α} : jset V q k v q = fun i => if i = k then v else V q i := funext fun i => by simp [jset]
/-- fields of an object with one number set -/
theorem j_fs_set (V : jV) (X : jX) (q : Nat) (v : Int32) : ∀ (fs : List (Nat ⊕ Option Nat)) (i k : Nat), fs[k]? = some (.inl 0) → (j_fs V X q i fs).set k (.int v) = j_fs (jset V q (i + k) v) X q i fs
  | [], _, _, h => by simp at h
  | a :: r, i, 0, h => by
    simp at h; subst h
    show Value.int v :: j_fs V X q (i + 1) r = Value.int (jset V q (i + 0) v q i) :: _
    rw [show i + 0 = i by omega, jset_eq]
    congr 1
    have : ∀ (r : List (Nat ⊕ Option Nat)) (j : Nat), i < j → j_fs V X q j r = j_fs (jset V q i v) X q j r := by
      intro r
      induction r with
      | nil => intro _ _; rfl
      | cons b t ih =>
        intro j hj
        have e : j_fv V X q j b = j_fv (jset V q i v) X q j b := by
          rcases b with (_ | n) | b
          · show Value.int (V q j) = .int _; rw [jset_ne (Or.inr (by omega))]
          · rfl
          · rfl
        show _ :: _ = _ :: _
        rw [e, ih (j + 1) (by omega)]
    exact this r (i + 1) (by omega)
  | a :: r, i, k + 1, h => by
    have h' : r[k]? = some (.inl 0) := by simpa using h
    have := j_fs_set V X q v r (i + 1) k h'
    show j_fv V X q i a :: (j_fs V X q (i + 1) r).set k (.int v) = _ :: _
    rw [this, show i + (k + 1) = i + 1 + k by omega]
    congr 1
    rcases a with (_ | n) | b
    · show Value.int (V q i) = .int _; rw [jset_ne (Or.inr (by omega))]
    · rfl
    · rfl
theorem j_fs_setL (V : jV) (X : jX) (q : Nat) (v : Int64) : ∀ (fs : List (Nat ⊕ Option Nat)) (i k : Nat), fs[k]? = some (.inl 1) → (j_fs V X q i fs).set k (.long v) = j_fs V (jset X.1 q (i + k) v, X.2) q i fs
  | [], _, _, h => by simp at h
  | a :: r, i, 0, h => by
    simp at h; subst h
    show Value.long v :: j_fs V X q (i + 1) r = Value.long (jset X.1 q (i + 0) v q i) :: _
    rw [show i + 0 = i by omega, jset_eq]
    congr 1
    have : ∀ (r : List (Nat ⊕ Option Nat)) (j : Nat), i < j → j_fs V X q j r = j_fs V (jset X.1 q i v, X.2) q j r := by
      intro r
      induction r with
      | nil => intro _ _; rfl
      | cons b t ih =>
        intro j hj
        have e : j_fv V X q j b = j_fv V (jset X.1 q i v, X.2) q j b := by
          rcases b with (_ | n) | b
          · rfl
          · show Value.long (X.1 q j) = .long (jset X.1 q i v q j); rw [jset_ne (Or.inr (by omega))]
          · rfl
        show _ :: _ = _ :: _
        rw [e, ih (j + 1) (by omega)]
    exact this r (i + 1) (by omega)
  | a :: r, i, k + 1, h => by
    have h' : r[k]? = some (.inl 1) := by simpa using h
    have := j_fs_setL V X q v r (i + 1) k h'
    show j_fv V X q i a :: (j_fs V X q (i + 1) r).set k (.long v) = _ :: _
    rw [this, show i + (k + 1) = i + 1 + k by omega]
    congr 1
    rcases a with (_ | n) | b
    · rfl
    · show Value.long (X.1 q i) = .long (jset X.1 q (i + 1 + k) v q i); rw [jset_ne (Or.inr (by omega))]
    · rfl
theorem j_fs_setR (V : jV) (X : jX) (q : Nat) (r : Option Nat) : ∀ (fs : List (Nat ⊕ Option Nat)) (i k : Nat), (j_fs V X q i fs).set k (va_rf r) = j_fs V X q i (fs.set k (.inr r))
  | [], _, _ => rfl
  | a :: t, i, 0 => rfl
  | a :: t, i, k + 1 => by
    show _ :: _ = _ :: _
    rw [j_fs_setR V X q r t (i + 1) k]
/-- what holds of the start of all: the launch keeps no traces, every word of the tables, the classes, the two statics that a throw reads, the texts -/
def jB (l : Launch) (s0 : State) (D : jD) : Prop :=
  l.stackTraces = false ∧ (∃ a0 : Array Value, ∀ w ∈ lw_tbl, w.before a0 s0 = true) ∧ va_K D.1 vwCl [(D.2 0, .int), (D.2 1, .long), (D.2 2, .double), (D.2 3, .object "CueSheets$State")] s0 ∧
  vx_Zq Bundle.tN "UNASSIGNED_STACK" Bundle.steD (fun q => s0.heap.size ≤ q) s0 s0.heap ∧ vx_Zq Bundle.tN "SUPPRESSED_SENTINEL" Bundle.listD (fun q => s0.heap.size ≤ q) s0 s0.heap ∧
  (∀ (own text : String) (k : Nat), Cond.stringRef own k text ∈ lw_tbl → ∃ a, vk_R own k text a s0)
def jA (s0 : State) : Nat → Prop := fun q => s0.heap.size ≤ q
def jC (s0 : State) (M : jM) (p : Program) (e : Env) (s : State) (m : MethodId) (args : Array Value) (meth : Method) (c : Code) : Prop :=
  p.tables.exec = Jvm.exec ∧ c.code = M.2.1 ∧ c.maxLocals = M.2.2.1 ∧ meth.sig.returnType = M.2.2.2.1 ∧ s.vm.findClass M.1.cls = some m.cls ∧ meth.locks = false ∧ s0.WarmedH s.vm ∧ meth.name = M.1.name ∧ c.exceptionTable.toList = tableOf M.2.2.2.2
def jH (s0 : State) (D : jD) (s : State) (T : jT) (V : jV) (X : jX) (sz : Nat) (H : Heap) (locs : List Loc) : Prop :=
  s0.heap.size ≤ s.heap.size ∧ s.heap.size ≤ H.size ∧ (∀ q, q < s0.heap.size → s.heap[q]? = s0.heap[q]?) ∧ (∀ q, q < s0.heap.size → H[q]? = s0.heap[q]?) ∧ (∀ q k, T q = some k → s0.heap.size ≤ q ∧ va_at D.1 vwCl (q, j_E D.2 V X q k) H) ∧ H.size = sz ∧ ∀ z ∈ locs, s0.heap.size ≤ z.base
def jWd (s0 : State) (D : jD) (T : jT) (V : jV) (X : jX) (sz : Nat) (U : State) : Prop :=
  s0.heap.size ≤ U.heap.size ∧ (∀ q, q < s0.heap.size → U.heap[q]? = s0.heap[q]?) ∧ (∀ q k, T q = some k → s0.heap.size ≤ q ∧ va_at D.1 vwCl (q, j_E D.2 V X q k) U.heap) ∧ U.heap.size = sz
def jQc (s0 : State) (D : jD) (Q : jQ) : Array Value → State → Outcome → State → Prop := fun _ _ o t => ∃ (v : Option Value) (T : jT) (V : jV) (X : jX) (sz : Nat), o = .returned v ∧ Q (.inl v) T V X sz ∧ jWd s0 D T V X sz t
def jXC (s0 : State) (D : jD) (Q : jQ) : String → State → State → Prop := fun E _ t => ∃ (T : jT) (V : jV) (X : jX) (sz : Nat), Q (.inr E) T V X sz ∧ jWd s0 D T V X sz t
/-- the machine stands at pc of the method M, with these locals and this stack, over this world; c cells of n slots are new; it comes to an end that Q allows -/
def J (l : Launch) (s0 : State) (D : jD) (M : jM) (R : Room) (mc ms : Nat) (Q : jQ) (pc : Nat) (L : List (Nat × Value)) (st : List Value) (T : jT) (V : jV) (X : jX) (sz c n : Nat) : Prop :=
  ∀ (p : Program) (e : Env) (s : State) (m : MethodId) (args : Array Value) (below : List Frame) (meth : Method) (cd : Code) (H : Heap) (locs : List Loc) (ls : Array Slot), jC s0 M p e s m args meth cd → jH s0 D s T V X sz H locs → lv_has ls M.2.2.1 L →
    W p l e R s m args below meth cd H locs c n (vx_MQ below (jQc s0 D Q) (jXC s0 D Q) args s mc ms (jA s0)) (F0 m pc ls st)
/-- .. with an exception of the class E over it -/
def JX (l : Launch) (s0 : State) (D : jD) (M : jM) (R : Room) (mc ms : Nat) (Q : jQ) (pc : Nat) (L : List (Nat × Value)) (E : String) (T : jT) (V : jV) (X : jX) (sz c n : Nat) : Prop :=
  ∀ (p : Program) (e : Env) (s : State) (m : MethodId) (args : Array Value) (below : List Frame) (meth : Method) (cd : Code) (H : Heap) (locs : List Loc) (ls : Array Slot) (rest : List Value) (q : Addr) (ce : Cell), jC s0 M p e s m args meth cd → jH s0 D s T V X sz H locs → lv_has ls M.2.2.1 L → H[q]? = some ce → ce.vm = .none → s.vm.findClass E = some ce.cls →
    vx_W p l e R s m args below meth cd H locs c n (vx_MQ below (jQc s0 D Q) (jXC s0 D Q) args s mc ms (jA s0)) (F0 m pc ls rest) q
/-- a method's contract at these arguments in this world -/
def Sp (l : Launch) (s0 : State) (D : jD) (M : jM) (R : Room) (mc ms : Nat) (as : List Value) (T : jT) (V : jV) (X : jX) (sz : Nat) (Q : jQ) : Prop :=
  vx_Met l M.1 [Cond.code M.1 M.2.1 M.2.2.1 M.2.2.2.1] R (fun v U => v = as.toArray ∧ s0.WarmedH U.vm ∧ jWd s0 D T V X sz U) (jQc s0 D Q) (jXC s0 D Q) mc ms (jA s0)
/-- .. of a method with a table of handlers -/
def SpH (l : Launch) (s0 : State) (D : jD) (M : jM) (R : Room) (mc ms : Nat) (as : List Value) (T : jT) (V : jV) (X : jX) (sz : Nat) (Q : jQ) : Prop :=
  vx_Met l M.1 [Cond.codeWith M.1 M.2.1 M.2.2.1 M.2.2.2.1 M.2.2.2.2] R (fun v U => v = as.toArray ∧ s0.WarmedH U.vm ∧ jWd s0 D T V X sz U) (jQc s0 D Q) (jXC s0 D Q) mc ms (jA s0)
theorem jWd.frameBlind {s0 : State} {D : jD} {T : jT} {V : jV} {X : jX} {sz : Nat} {as : List Value} : FrameBlind (fun v U => v = as.toArray ∧ s0.WarmedH U.vm ∧ jWd s0 D T V X sz U) := fun _ _ _ _ q => q
theorem jH.wd {s0 : State} {D : jD} {s : State} {T : jT} {V : jV} {X : jX} {sz : Nat} {H : Heap} {locs : List Loc} {t : State} (h : jH s0 D s T V X sz H locs) (ht : t.heap = H) : jWd s0 D T V X sz t := by
  obtain ⟨h1, h2, h3, h4, h5, h6, h7⟩ := h
  subst ht
  exact ⟨Nat.le_trans h1 h2, h4, h5, h6⟩
theorem jH.va {s0 : State} {D : jD} {s : State} {T : jT} {V : jV} {X : jX} {sz : Nat} {H : Heap} {locs : List Loc} (h : jH s0 D s T V X sz H locs) : va_S (fun q => s0.heap.size ≤ q) s.heap H locs := by
  obtain ⟨h1, h2, h3, h4, h5, h6, h7⟩ := h
  exact ⟨h2, fun q _ hq => by rw [h4 q (Nat.lt_of_not_le hq), h3 q (Nat.lt_of_not_le hq)], h7⟩
theorem Sp.of {l : Launch} {s0 : State} {D : jD} {M : jM} {R : Room} {mc ms : Nat} {as : List Value} {T : jT} {V : jV} {X : jX} {sz : Nat} {Q : jQ} (hy : plainName M.1.cls = true) (hh : M.2.2.2.2 = []) (hL : (lg_sl as).length ≤ M.2.2.1)
    (k : J l s0 D M R mc ms Q 0 (lv_args 0 as) [] T V X sz 0 0) : Sp l s0 D M R mc ms as T V X sz Q := by
  refine vx_ofW hy rfl ?_
  intro p e s m args below meth c s₁ B hml ht hv
  obtain ⟨rfl, w1, w2, w3, w4, w5⟩ := hv
  rw [lg_entry_eq]
  refine k p e s m as.toArray below meth c s.heap [] _ ⟨B.exec, B.bytes, hml, B.returns, findClass_of_methodNamed B.named, B.notSynchronized, w1, (name_of_methodNamed B.named B.method).1, ?_⟩ ⟨w2, Nat.le_refl _, w3, w3, w4, w5, fun z hz => nomatch hz⟩ (lv_entry as hL)
  rw [hh]
  cases hc : c.exceptionTable.toList with
  | nil => rfl
  | cons a r => exact absurd (ht a (by rw [hc]; exact List.mem_cons_self)) id
theorem SpH.of {l : Launch} {s0 : State} {D : jD} {M : jM} {R : Room} {mc ms : Nat} {as : List Value} {T : jT} {V : jV} {X : jX} {sz : Nat} {Q : jQ} (hy : plainName M.1.cls = true) (hL : (lg_sl as).length ≤ M.2.2.1)
    (k : J l s0 D M R mc ms Q 0 (lv_args 0 as) [] T V X sz 0 0) : SpH l s0 D M R mc ms as T V X sz Q := by
  refine vx_ofWH hy rfl ?_
  intro p e s m args below meth c s₁ B hml hv
  obtain ⟨rfl, w1, w2, w3, w4, w5⟩ := hv
  have hcw := atoms_spec B.pre (Cond.codeWith M.1 M.2.1 M.2.2.1 M.2.2.2.1 M.2.2.2.2) List.mem_cons_self
  rw [lg_entry_eq]
  exact k p e s m as.toArray below meth c s.heap [] _ ⟨B.exec, B.bytes, hml, B.returns, findClass_of_methodNamed B.named, B.notSynchronized, w1, (name_of_methodNamed B.named B.method).1, vx_table (x := M.1) B hcw⟩ ⟨w2, Nat.le_refl _, w3, w3, w4, w5, fun z hz => nomatch hz⟩ (lv_entry as hL)
theorem Sp.mono {l : Launch} {s0 : State} {D : jD} {M : jM} {R : Room} {mc ms : Nat} {as : List Value} {T : jT} {V : jV} {X : jX} {sz : Nat} {Q Q' : jQ} (hQ : ∀ o T V X sz, Q o T V X sz → Q' o T V X sz) (h : Sp l s0 D M R mc ms as T V X sz Q) : Sp l s0 D M R mc ms as T V X sz Q' := by
  intro p e ha hc hk s m args below hf hn hpre htr
  obtain ⟨t, o, h1, h2, h3, hq⟩ := h p e ha hc hk s m args below hf hn hpre htr
  refine ⟨t, o, h1, h2, h3, ?_⟩
  rcases hq with ⟨⟨v, T', V', X', sz', e1, e2, e3⟩, e4⟩ | ⟨q, e1, E, ce, L, ⟨T', V', X', sz', e2, e3⟩, e4⟩
  · exact Or.inl ⟨⟨v, T', V', X', sz', e1, hQ _ _ _ _ _ e2, e3⟩, e4⟩
  · exact Or.inr ⟨q, e1, E, ce, L, ⟨T', V', X', sz', hQ _ _ _ _ _ e2, e3⟩, e4⟩
/-- a word of the tables at a method's start -/
theorem jB.word {l : Launch} {s0 : State} {D : jD} (hB : jB l s0 D) {s : State} (hW : s0.WarmedH s.vm) {cw : Cond} (hw : cw ∈ lw_tbl) (hg : goodWord cw = true) (args : Array Value) : cw.before args s = true := by
  obtain ⟨-, ⟨a0, h⟩, -⟩ := hB
  exact word_at hW (good_of_word hg) (h cw hw)
theorem jB.nestF {l : Launch} {s0 : State} {D : jD} (hB : jB l s0 D) {s : State} (hW : s0.WarmedH s.vm) {a b n d h : String} {i : Nat} (hw : Cond.fieldLinkNest a i b n d h ∈ lw_tbl) (args : Array Value) : (Cond.fieldLinkNest a i b n d h).before args s = true := by
  obtain ⟨-, ⟨a0, hh⟩, -⟩ := hB
  exact va_Nw.use rfl (va_Nw.warmF hW (va_Nw.of rfl (hh _ hw)))
theorem jB.nestM {l : Launch} {s0 : State} {D : jD} (hB : jB l s0 D) {s : State} (hW : s0.WarmedH s.vm) {a h : String} {i : Nat} {x : MethodName} (hw : Cond.methodLinkNest a i x h ∈ lw_tbl) : va_Nw (.methodLinkNest a i x h) s := by
  obtain ⟨-, ⟨a0, hh⟩, -⟩ := hB
  exact va_Nw.warmM hW (va_Nw.of rfl (hh _ hw))
theorem j_tb {w : Cond} (h : w ∈ tables_1) : w ∈ lw_tbl := List.mem_append_right _ h

theorem lk_mem {L : List (Nat × Value)} {i : Nat} {v : Value} (h : L.lookup i = some v) : (i, v) ∈ L := by
  induction L with
  | nil => simp at h
  | cons a r ih =>
    obtain ⟨k, x⟩ := a
    rw [List.lookup_cons] at h
    by_cases hk : i == k
    · rw [hk] at h
      simp at h
      have : i = k := by simpa using hk
      subst this; subst h
      exact List.mem_cons_self
    · simp only [hk] at h
      exact List.mem_cons_of_mem _ (ih h)
theorem lk_at {ls : Array Slot} {nL : Nat} {L : List (Nat × Value)} {i : Nat} {v : Value} (h : lv_has ls nL L) (hl : L.lookup i = some v) : ls[i]? = some (.val v) := h.2.2 (i, v) (lk_mem hl)
/-- the locals with one set, in its place -/
def js1 (L : List (Nat × Value)) (i : Nat) (v : Value) : List (Nat × Value) :=
  if L.any (fun q => q.1 == i) then (L.filter (fun q => !(q.1 + 1 == i && q.2.category == 2))).map (fun q => if q.1 == i then (i, v) else q) else L.filter (fun q => !(q.1 + 1 == i && q.2.category == 2)) ++ [(i, v)]
theorem js1_has {ls : Array Slot} {nL : Nat} {L : List (Nat × Value)} {i : Nat} {v : Value} (h : lv_has ls nL ((i, v) :: L.filter (fun q => !(q.1 == i) && !(q.1 + 1 == i && q.2.category == 2)))) : lv_has ls nL (js1 L i v) := by
  refine ⟨h.1, h.2.1, fun q hq => h.2.2 q ?_⟩
  unfold js1 at hq
  by_cases ha : L.any (fun q => q.1 == i) = true
  · rw [if_pos ha] at hq
    obtain ⟨q', h1, h2⟩ := List.mem_map.mp hq
    by_cases hk : (q'.1 == i) = true
    · rw [if_pos hk] at h2; rw [← h2]; exact List.mem_cons_self
    · rw [if_neg hk] at h2; subst h2
      obtain ⟨g1, g2⟩ := List.mem_filter.mp h1
      refine List.mem_cons_of_mem _ (List.mem_filter.mpr ⟨g1, ?_⟩)
      simp only [hk, Bool.and_eq_true, Bool.not_eq_true']
      simp only [Bool.not_eq_true'] at g2
      exact ⟨by simpa using hk, g2⟩
  · rw [if_neg ha] at hq
    rcases List.mem_append.mp hq with h1 | h1
    · obtain ⟨g1, g2⟩ := List.mem_filter.mp h1
      have hk : ¬ (q.1 == i) = true := fun z => ha (List.any_eq_true.mpr ⟨q, g1, z⟩)
      refine List.mem_cons_of_mem _ (List.mem_filter.mpr ⟨g1, ?_⟩)
      simp only [Bool.and_eq_true, Bool.not_eq_true']
      simp only [Bool.not_eq_true'] at g2
      exact ⟨by simpa using hk, g2⟩
    · rw [List.mem_singleton.mp h1]; exact List.mem_cons_self
/-- .. a long or a double -/
def js2 (L : List (Nat × Value)) (i : Nat) (v : Value) : List (Nat × Value) :=
  if L.any (fun q => q.1 == i) then (L.filter (fun q => !(q.1 == i + 1) && !(q.1 + 1 == i && q.2.category == 2))).map (fun q => if q.1 == i then (i, v) else q) else L.filter (fun q => !(q.1 == i + 1) && !(q.1 + 1 == i && q.2.category == 2)) ++ [(i, v)]
theorem js2_has {ls : Array Slot} {nL : Nat} {L : List (Nat × Value)} {i : Nat} {v : Value} (h : lv_has ls nL ((i, v) :: L.filter (fun q => !(q.1 == i) && (!(q.1 == i + 1) && !(q.1 + 1 == i && q.2.category == 2))))) : lv_has ls nL (js2 L i v) := by
  refine ⟨h.1, h.2.1, fun q hq => h.2.2 q ?_⟩
  unfold js2 at hq
  by_cases ha : L.any (fun q => q.1 == i) = true
  · rw [if_pos ha] at hq
    obtain ⟨q', h1, h2⟩ := List.mem_map.mp hq
    by_cases hk : (q'.1 == i) = true
    · rw [if_pos hk] at h2; rw [← h2]; exact List.mem_cons_self
    · rw [if_neg hk] at h2; subst h2
      obtain ⟨g1, g2⟩ := List.mem_filter.mp h1
      refine List.mem_cons_of_mem _ (List.mem_filter.mpr ⟨g1, ?_⟩)
      rw [Bool.and_eq_true]
      exact ⟨by simpa using hk, g2⟩
  · rw [if_neg ha] at hq
    rcases List.mem_append.mp hq with h1 | h1
    · obtain ⟨g1, g2⟩ := List.mem_filter.mp h1
      have hk : ¬ (q.1 == i) = true := fun z => ha (List.any_eq_true.mpr ⟨q, g1, z⟩)
      refine List.mem_cons_of_mem _ (List.mem_filter.mpr ⟨g1, ?_⟩)
      rw [Bool.and_eq_true]
      exact ⟨by simpa using hk, g2⟩
    · rw [List.mem_singleton.mp h1]; exact List.mem_cons_self
end
section
/-! THE ROWS: an instruction, a row -/
section JF
variable {l : Launch} {s0 : State} {D : jD} {M : jM} {R : Room} {mc ms : Nat} {Q : jQ} {pc : Nat} {L : List (Nat × Value)} {st rest : List Value} {T : jT} {V : jV} {X : jX} {sz c n : Nat}
theorem j_iadd {x y : Int32} (d : decode M.2.1 pc = .ok (.iadd, 1))  (k : J l s0 D M R mc ms Q (pc + 1) L (.int (x + y) :: rest) T V X sz c n) : J l s0 D M R mc ms Q pc L (.int y :: .int x :: rest) T V X sz c n := fun p e s m args below meth cd H locs ls hC hH hl => lv_iadd hC.1 hC.2.1 d  (k p e s m args below meth cd H locs ls hC hH hl)
theorem j_isub {x y : Int32} (d : decode M.2.1 pc = .ok (.isub, 1))  (k : J l s0 D M R mc ms Q (pc + 1) L (.int (x - y) :: rest) T V X sz c n) : J l s0 D M R mc ms Q pc L (.int y :: .int x :: rest) T V X sz c n := fun p e s m args below meth cd H locs ls hC hH hl => lv_isub hC.1 hC.2.1 d  (k p e s m args below meth cd H locs ls hC hH hl)
theorem j_imul {x y : Int32} (d : decode M.2.1 pc = .ok (.imul, 1))  (k : J l s0 D M R mc ms Q (pc + 1) L (.int (x * y) :: rest) T V X sz c n) : J l s0 D M R mc ms Q pc L (.int y :: .int x :: rest) T V X sz c n := fun p e s m args below meth cd H locs ls hC hH hl => lv_imul hC.1 hC.2.1 d  (k p e s m args below meth cd H locs ls hC hH hl)
theorem j_iand {x y : Int32} (d : decode M.2.1 pc = .ok (.iand, 1))  (k : J l s0 D M R mc ms Q (pc + 1) L (.int (x &&& y) :: rest) T V X sz c n) : J l s0 D M R mc ms Q pc L (.int y :: .int x :: rest) T V X sz c n := fun p e s m args below meth cd H locs ls hC hH hl => lv_iand hC.1 hC.2.1 d  (k p e s m args below meth cd H locs ls hC hH hl)
theorem j_ladd {x y : Int64} (d : decode M.2.1 pc = .ok (.ladd, 1))  (k : J l s0 D M R mc ms Q (pc + 1) L (.long (x + y) :: rest) T V X sz c n) : J l s0 D M R mc ms Q pc L (.long y :: .long x :: rest) T V X sz c n := fun p e s m args below meth cd H locs ls hC hH hl => lv_ladd hC.1 hC.2.1 d  (k p e s m args below meth cd H locs ls hC hH hl)
theorem j_lsub {x y : Int64} (d : decode M.2.1 pc = .ok (.lsub, 1))  (k : J l s0 D M R mc ms Q (pc + 1) L (.long (x - y) :: rest) T V X sz c n) : J l s0 D M R mc ms Q pc L (.long y :: .long x :: rest) T V X sz c n := fun p e s m args below meth cd H locs ls hC hH hl => lv_lsub hC.1 hC.2.1 d  (k p e s m args below meth cd H locs ls hC hH hl)
theorem j_lmul {x y : Int64} (d : decode M.2.1 pc = .ok (.lmul, 1))  (k : J l s0 D M R mc ms Q (pc + 1) L (.long (x * y) :: rest) T V X sz c n) : J l s0 D M R mc ms Q pc L (.long y :: .long x :: rest) T V X sz c n := fun p e s m args below meth cd H locs ls hC hH hl => lv_lmul hC.1 hC.2.1 d  (k p e s m args below meth cd H locs ls hC hH hl)
theorem j_idiv {x y : Int32} (d : decode M.2.1 pc = .ok (.idiv, 1)) (hne : ¬ y = 0) (k : J l s0 D M R mc ms Q (pc + 1) L (.int (x / y) :: rest) T V X sz c n) : J l s0 D M R mc ms Q pc L (.int y :: .int x :: rest) T V X sz c n := fun p e s m args below meth cd H locs ls hC hH hl => lv_idiv hC.1 hC.2.1 d hne (k p e s m args below meth cd H locs ls hC hH hl)
theorem j_irem {x y : Int32} (d : decode M.2.1 pc = .ok (.irem, 1)) (hne : ¬ y = 0) (k : J l s0 D M R mc ms Q (pc + 1) L (.int (x - x / y * y) :: rest) T V X sz c n) : J l s0 D M R mc ms Q pc L (.int y :: .int x :: rest) T V X sz c n := fun p e s m args below meth cd H locs ls hC hH hl => lv_irem hC.1 hC.2.1 d hne (k p e s m args below meth cd H locs ls hC hH hl)
theorem j_ineg {x : Int32} (d : decode M.2.1 pc = .ok (.ineg, 1))  (k : J l s0 D M R mc ms Q (pc + 1) L (.int (-x) :: rest) T V X sz c n) : J l s0 D M R mc ms Q pc L (.int x :: rest) T V X sz c n := fun p e s m args below meth cd H locs ls hC hH hl => lv_ineg hC.1 hC.2.1 d  (k p e s m args below meth cd H locs ls hC hH hl)
theorem j_lshl {x : Int64} {y : Int32} (d : decode M.2.1 pc = .ok (.lshl, 1))  (k : J l s0 D M R mc ms Q (pc + 1) L (.long (x <<< (y.toInt64 &&& 63)) :: rest) T V X sz c n) : J l s0 D M R mc ms Q pc L (.int y :: .long x :: rest) T V X sz c n := fun p e s m args below meth cd H locs ls hC hH hl => lv_lshl hC.1 hC.2.1 d rfl (k p e s m args below meth cd H locs ls hC hH hl)
theorem j_i2l {x : Int32} (d : decode M.2.1 pc = .ok (.i2l, 1))  (k : J l s0 D M R mc ms Q (pc + 1) L (.long x.toInt64 :: rest) T V X sz c n) : J l s0 D M R mc ms Q pc L (.int x :: rest) T V X sz c n := fun p e s m args below meth cd H locs ls hC hH hl => lv_i2l hC.1 hC.2.1 d rfl (k p e s m args below meth cd H locs ls hC hH hl)
theorem j_dup {v : Value} (d : decode M.2.1 pc = .ok (.dup, 1)) (hv : v.category = 1) (k : J l s0 D M R mc ms Q (pc + 1) L (v :: v :: rest) T V X sz c n) : J l s0 D M R mc ms Q pc L (v :: rest) T V X sz c n := fun p e s m args below meth cd H locs ls hC hH hl => lv_dup hC.1 hC.2.1 d hv (k p e s m args below meth cd H locs ls hC hH hl)
theorem j_pop {v : Value} (d : decode M.2.1 pc = .ok (.pop, 1)) (hv : v.category = 1) (k : J l s0 D M R mc ms Q (pc + 1) L rest T V X sz c n) : J l s0 D M R mc ms Q pc L (v :: rest) T V X sz c n := fun p e s m args below meth cd H locs ls hC hH hl => lv_pop hC.1 hC.2.1 d hv (k p e s m args below meth cd H locs ls hC hH hl)
theorem j_dup2 {v u : Value} (d : decode M.2.1 pc = .ok (.dup2, 1)) (hv : v.category = 1) (hu : u.category = 1) (k : J l s0 D M R mc ms Q (pc + 1) L (v :: u :: v :: u :: rest) T V X sz c n) : J l s0 D M R mc ms Q pc L (v :: u :: rest) T V X sz c n := fun p e s m args below meth cd H locs ls hC hH hl => lv_dup2_11 hC.1 hC.2.1 d hv hu (k p e s m args below meth cd H locs ls hC hH hl)
theorem j_dup2w {v : Value} (d : decode M.2.1 pc = .ok (.dup2, 1)) (hv : v.category = 2) (k : J l s0 D M R mc ms Q (pc + 1) L (v :: v :: rest) T V X sz c n) : J l s0 D M R mc ms Q pc L (v :: rest) T V X sz c n := fun p e s m args below meth cd H locs ls hC hH hl => lv_dup2_2 hC.1 hC.2.1 d hv (k p e s m args below meth cd H locs ls hC hH hl)
theorem j_null  (d : decode M.2.1 pc = .ok (.aconst_null, 1))  (k : J l s0 D M R mc ms Q (pc + 1) L (.null :: rest) T V X sz c n) : J l s0 D M R mc ms Q pc L rest T V X sz c n := fun p e s m args below meth cd H locs ls hC hH hl => lv_null hC.1 hC.2.1 d  (k p e s m args below meth cd H locs ls hC hH hl)
theorem j_iconst {i : Int} {v : Int32} (d : decode M.2.1 pc = .ok (.iconst i, 1)) (hv : Int32.ofInt i = v) (k : J l s0 D M R mc ms Q (pc + 1) L (.int v :: rest) T V X sz c n) : J l s0 D M R mc ms Q pc L rest T V X sz c n := fun p e s m args below meth cd H locs ls hC hH hl => lv_iconst hC.1 hC.2.1 d hv (k p e s m args below meth cd H locs ls hC hH hl)
theorem j_bipush {i : Int} {v : Int32} (d : decode M.2.1 pc = .ok (.bipush i, 2)) (hv : (Int8.ofInt i).toInt32 = v) (k : J l s0 D M R mc ms Q (pc + 2) L (.int v :: rest) T V X sz c n) : J l s0 D M R mc ms Q pc L rest T V X sz c n := fun p e s m args below meth cd H locs ls hC hH hl => lv_bipush hC.1 hC.2.1 d hv (k p e s m args below meth cd H locs ls hC hH hl)
theorem j_sipush {i : Int} {v : Int32} (d : decode M.2.1 pc = .ok (.sipush i, 3)) (hv : (Int16.ofInt i).toInt32 = v) (k : J l s0 D M R mc ms Q (pc + 3) L (.int v :: rest) T V X sz c n) : J l s0 D M R mc ms Q pc L rest T V X sz c n := fun p e s m args below meth cd H locs ls hC hH hl => lv_sipush hC.1 hC.2.1 d hv (k p e s m args below meth cd H locs ls hC hH hl)
theorem j_lconst {i : Fin 2} {v : Int64} (d : decode M.2.1 pc = .ok (.lconst i, 1)) (hv : Int64.ofNat (i : Nat) = v) (k : J l s0 D M R mc ms Q (pc + 1) L (.long v :: rest) T V X sz c n) : J l s0 D M R mc ms Q pc L rest T V X sz c n := fun p e s m args below meth cd H locs ls hC hH hl => lv_lconst hC.1 hC.2.1 d hv (k p e s m args below meth cd H locs ls hC hH hl)
theorem j_fconst0  (d : decode M.2.1 pc = .ok (.fconst 0, 1))  (k : J l s0 D M R mc ms Q (pc + 1) L (.float FP.fconst0 :: rest) T V X sz c n) : J l s0 D M R mc ms Q pc L rest T V X sz c n := fun p e s m args below meth cd H locs ls hC hH hl => lv_fconst0 hC.1 hC.2.1 d  (k p e s m args below meth cd H locs ls hC hH hl)
theorem j_fconst1  (d : decode M.2.1 pc = .ok (.fconst 1, 1))  (k : J l s0 D M R mc ms Q (pc + 1) L (.float FP.fconst1 :: rest) T V X sz c n) : J l s0 D M R mc ms Q pc L rest T V X sz c n := fun p e s m args below meth cd H locs ls hC hH hl => lv_fconst1 hC.1 hC.2.1 d  (k p e s m args below meth cd H locs ls hC hH hl)
theorem j_fconst2  (d : decode M.2.1 pc = .ok (.fconst 2, 1))  (k : J l s0 D M R mc ms Q (pc + 1) L (.float FP.fconst2 :: rest) T V X sz c n) : J l s0 D M R mc ms Q pc L rest T V X sz c n := fun p e s m args below meth cd H locs ls hC hH hl => lv_fconst2 hC.1 hC.2.1 d  (k p e s m args below meth cd H locs ls hC hH hl)
theorem j_dconst0  (d : decode M.2.1 pc = .ok (.dconst 0, 1))  (k : J l s0 D M R mc ms Q (pc + 1) L (.double FP.dconst0 :: rest) T V X sz c n) : J l s0 D M R mc ms Q pc L rest T V X sz c n := fun p e s m args below meth cd H locs ls hC hH hl => lv_dconst0 hC.1 hC.2.1 d  (k p e s m args below meth cd H locs ls hC hH hl)
theorem j_dconst1  (d : decode M.2.1 pc = .ok (.dconst 1, 1))  (k : J l s0 D M R mc ms Q (pc + 1) L (.double FP.dconst1 :: rest) T V X sz c n) : J l s0 D M R mc ms Q pc L rest T V X sz c n := fun p e s m args below meth cd H locs ls hC hH hl => lv_dconst1 hC.1 hC.2.1 d  (k p e s m args below meth cd H locs ls hC hH hl)
theorem j_fmul {x y : UInt32} (d : decode M.2.1 pc = .ok (.fmul, 1)) (hne : vf_n32 (FP.fmul x y)) (k : J l s0 D M R mc ms Q (pc + 1) L (.float (FP.fmul x y) :: rest) T V X sz c n) : J l s0 D M R mc ms Q pc L (.float y :: .float x :: rest) T V X sz c n := fun p e s m args below meth cd H locs ls hC hH hl => lv_fmul hC.1 hC.2.1 d hne (k p e s m args below meth cd H locs ls hC hH hl)
theorem j_fdiv {x y : UInt32} (d : decode M.2.1 pc = .ok (.fdiv, 1)) (hne : vf_n32 (FP.fdiv x y)) (k : J l s0 D M R mc ms Q (pc + 1) L (.float (FP.fdiv x y) :: rest) T V X sz c n) : J l s0 D M R mc ms Q pc L (.float y :: .float x :: rest) T V X sz c n := fun p e s m args below meth cd H locs ls hC hH hl => lv_fdiv hC.1 hC.2.1 d hne (k p e s m args below meth cd H locs ls hC hH hl)
theorem j_dmul {x y : UInt64} (d : decode M.2.1 pc = .ok (.dmul, 1)) (hne : vf_n64 (FP.dmul x y)) (k : J l s0 D M R mc ms Q (pc + 1) L (.double (FP.dmul x y) :: rest) T V X sz c n) : J l s0 D M R mc ms Q pc L (.double y :: .double x :: rest) T V X sz c n := fun p e s m args below meth cd H locs ls hC hH hl => lv_dmul hC.1 hC.2.1 d hne (k p e s m args below meth cd H locs ls hC hH hl)
theorem j_ddiv {x y : UInt64} (d : decode M.2.1 pc = .ok (.ddiv, 1)) (hne : vf_n64 (FP.ddiv x y)) (k : J l s0 D M R mc ms Q (pc + 1) L (.double (FP.ddiv x y) :: rest) T V X sz c n) : J l s0 D M R mc ms Q pc L (.double y :: .double x :: rest) T V X sz c n := fun p e s m args below meth cd H locs ls hC hH hl => lv_ddiv hC.1 hC.2.1 d hne (k p e s m args below meth cd H locs ls hC hH hl)
theorem j_fcmp {x y : UInt32} {op : CmpOp} (d : decode M.2.1 pc = .ok (.fcmp op, 1))  (k : J l s0 D M R mc ms Q (pc + 1) L (.int (Op.cmpValue (FP.fcmp x y) op) :: rest) T V X sz c n) : J l s0 D M R mc ms Q pc L (.float y :: .float x :: rest) T V X sz c n := fun p e s m args below meth cd H locs ls hC hH hl => lv_fcmp hC.1 hC.2.1 d  (k p e s m args below meth cd H locs ls hC hH hl)
theorem j_dcmp {x y : UInt64} {op : CmpOp} (d : decode M.2.1 pc = .ok (.dcmp op, 1))  (k : J l s0 D M R mc ms Q (pc + 1) L (.int (Op.cmpValue (FP.dcmp x y) op) :: rest) T V X sz c n) : J l s0 D M R mc ms Q pc L (.double y :: .double x :: rest) T V X sz c n := fun p e s m args below meth cd H locs ls hC hH hl => lv_dcmp hC.1 hC.2.1 d  (k p e s m args below meth cd H locs ls hC hH hl)
theorem j_i2f {x : Int32} (d : decode M.2.1 pc = .ok (.i2f, 1))  (k : J l s0 D M R mc ms Q (pc + 1) L (.float (FP.i2f x) :: rest) T V X sz c n) : J l s0 D M R mc ms Q pc L (.int x :: rest) T V X sz c n := fun p e s m args below meth cd H locs ls hC hH hl => lv_i2f hC.1 hC.2.1 d  (k p e s m args below meth cd H locs ls hC hH hl)
theorem j_i2d {x : Int32} (d : decode M.2.1 pc = .ok (.i2d, 1))  (k : J l s0 D M R mc ms Q (pc + 1) L (.double (FP.i2d x) :: rest) T V X sz c n) : J l s0 D M R mc ms Q pc L (.int x :: rest) T V X sz c n := fun p e s m args below meth cd H locs ls hC hH hl => lv_i2d hC.1 hC.2.1 d  (k p e s m args below meth cd H locs ls hC hH hl)
theorem j_f2l {x : UInt32} (d : decode M.2.1 pc = .ok (.f2l, 1))  (k : J l s0 D M R mc ms Q (pc + 1) L (.long (FP.f2l x) :: rest) T V X sz c n) : J l s0 D M R mc ms Q pc L (.float x :: rest) T V X sz c n := fun p e s m args below meth cd H locs ls hC hH hl => lv_f2l hC.1 hC.2.1 d  (k p e s m args below meth cd H locs ls hC hH hl)
theorem j_d2l {x : UInt64} (d : decode M.2.1 pc = .ok (.d2l, 1))  (k : J l s0 D M R mc ms Q (pc + 1) L (.long (FP.d2l x) :: rest) T V X sz c n) : J l s0 D M R mc ms Q pc L (.double x :: rest) T V X sz c n := fun p e s m args below meth cd H locs ls hC hH hl => lv_d2l hC.1 hC.2.1 d  (k p e s m args below meth cd H locs ls hC hH hl)
theorem j_f2d {x : UInt32} (d : decode M.2.1 pc = .ok (.f2d, 1)) (hne : vf_n64 (FP.f2d x)) (k : J l s0 D M R mc ms Q (pc + 1) L (.double (FP.f2d x) :: rest) T V X sz c n) : J l s0 D M R mc ms Q pc L (.float x :: rest) T V X sz c n := fun p e s m args below meth cd H locs ls hC hH hl => lv_f2d hC.1 hC.2.1 d hne (k p e s m args below meth cd H locs ls hC hH hl)
theorem j_lcmp {x y : Int64} (d : decode M.2.1 pc = .ok (.lcmp, 1)) (k : J l s0 D M R mc ms Q (pc + 1) L (.int (lg_cmp x y) :: rest) T V X sz c n) : J l s0 D M R mc ms Q pc L (.long y :: .long x :: rest) T V X sz c n := fun p e s m args below meth cd H locs ls hC hH hl => W.lcmp hC.1 hC.2.1 d (k p e s m args below meth cd H locs ls hC hH hl)
theorem j_iload_n {i : Fin 4} {x : Int32} (d : decode M.2.1 pc = .ok (.iload_n i, 1)) (h : L.lookup (i : Nat) = some (.int x)) (k : J l s0 D M R mc ms Q (pc + 1) L (.int x :: rest) T V X sz c n) : J l s0 D M R mc ms Q pc L rest T V X sz c n := fun p e s m args below meth cd H locs ls hC hH hl => lv_iload_n hC.1 hC.2.1 d rfl (lk_at hl h) (k p e s m args below meth cd H locs ls hC hH hl)
theorem j_iload {i : Nat} {x : Int32} (d : decode M.2.1 pc = .ok (.iload i, 2)) (h : L.lookup i = some (.int x)) (k : J l s0 D M R mc ms Q (pc + 2) L (.int x :: rest) T V X sz c n) : J l s0 D M R mc ms Q pc L rest T V X sz c n := fun p e s m args below meth cd H locs ls hC hH hl => lv_iload hC.1 hC.2.1 d (lk_at hl h) (k p e s m args below meth cd H locs ls hC hH hl)
theorem j_istore_n {i : Fin 4} {x : Int32} {L' : List (Nat × Value)} (d : decode M.2.1 pc = .ok (.istore_n i, 1)) (hn : (i : Nat) < M.2.2.1) (hL : js1 L (i : Nat) (.int x) = L') (k : J l s0 D M R mc ms Q (pc + 1) L' rest T V X sz c n) : J l s0 D M R mc ms Q pc L (.int x :: rest) T V X sz c n := fun p e s m args below meth cd H locs ls hC hH hl => lv_istore_n hC.1 hC.2.1 d rfl hl hn rfl (fun ls' hl' => k p e s m args below meth cd H locs ls' hC hH (by rw [← hL]; exact js1_has hl'))
theorem j_istore {i : Nat} {x : Int32} {L' : List (Nat × Value)} (d : decode M.2.1 pc = .ok (.istore i, 2)) (hn : i < M.2.2.1) (hL : js1 L i (.int x) = L') (k : J l s0 D M R mc ms Q (pc + 2) L' rest T V X sz c n) : J l s0 D M R mc ms Q pc L (.int x :: rest) T V X sz c n := fun p e s m args below meth cd H locs ls hC hH hl => lv_istore hC.1 hC.2.1 d hl hn rfl (fun ls' hl' => k p e s m args below meth cd H locs ls' hC hH (by rw [← hL]; exact js1_has hl'))
theorem j_lload_n {i : Fin 4} {x : Int64} (d : decode M.2.1 pc = .ok (.lload_n i, 1)) (h : L.lookup (i : Nat) = some (.long x)) (k : J l s0 D M R mc ms Q (pc + 1) L (.long x :: rest) T V X sz c n) : J l s0 D M R mc ms Q pc L rest T V X sz c n := fun p e s m args below meth cd H locs ls hC hH hl => lv_lload_n hC.1 hC.2.1 d rfl (lk_at hl h) (k p e s m args below meth cd H locs ls hC hH hl)
theorem j_lload {i : Nat} {x : Int64} (d : decode M.2.1 pc = .ok (.lload i, 2)) (h : L.lookup i = some (.long x)) (k : J l s0 D M R mc ms Q (pc + 2) L (.long x :: rest) T V X sz c n) : J l s0 D M R mc ms Q pc L rest T V X sz c n := fun p e s m args below meth cd H locs ls hC hH hl => lv_lload hC.1 hC.2.1 d (lk_at hl h) (k p e s m args below meth cd H locs ls hC hH hl)
theorem j_lstore_n {i : Fin 4} {x : Int64} {L' : List (Nat × Value)} (d : decode M.2.1 pc = .ok (.lstore_n i, 1)) (hn : (i : Nat) + 1 < M.2.2.1) (hL : js2 L (i : Nat) (.long x) = L') (k : J l s0 D M R mc ms Q (pc + 1) L' rest T V X sz c n) : J l s0 D M R mc ms Q pc L (.long x :: rest) T V X sz c n := fun p e s m args below meth cd H locs ls hC hH hl => lv_lstore_n hC.1 hC.2.1 d rfl hl hn rfl (fun ls' hl' => k p e s m args below meth cd H locs ls' hC hH (by rw [← hL]; exact js2_has hl'))
theorem j_lstore {i : Nat} {x : Int64} {L' : List (Nat × Value)} (d : decode M.2.1 pc = .ok (.lstore i, 2)) (hn : i + 1 < M.2.2.1) (hL : js2 L i (.long x) = L') (k : J l s0 D M R mc ms Q (pc + 2) L' rest T V X sz c n) : J l s0 D M R mc ms Q pc L (.long x :: rest) T V X sz c n := fun p e s m args below meth cd H locs ls hC hH hl => lv_lstore hC.1 hC.2.1 d hl hn rfl (fun ls' hl' => k p e s m args below meth cd H locs ls' hC hH (by rw [← hL]; exact js2_has hl'))
theorem j_fload_n {i : Fin 4} {x : UInt32} (d : decode M.2.1 pc = .ok (.fload_n i, 1)) (h : L.lookup (i : Nat) = some (.float x)) (k : J l s0 D M R mc ms Q (pc + 1) L (.float x :: rest) T V X sz c n) : J l s0 D M R mc ms Q pc L rest T V X sz c n := fun p e s m args below meth cd H locs ls hC hH hl => lv_fload_n hC.1 hC.2.1 d rfl (lk_at hl h) (k p e s m args below meth cd H locs ls hC hH hl)
theorem j_fload {i : Nat} {x : UInt32} (d : decode M.2.1 pc = .ok (.fload i, 2)) (h : L.lookup i = some (.float x)) (k : J l s0 D M R mc ms Q (pc + 2) L (.float x :: rest) T V X sz c n) : J l s0 D M R mc ms Q pc L rest T V X sz c n := fun p e s m args below meth cd H locs ls hC hH hl => lv_fload hC.1 hC.2.1 d (lk_at hl h) (k p e s m args below meth cd H locs ls hC hH hl)
theorem j_fstore_n {i : Fin 4} {x : UInt32} {L' : List (Nat × Value)} (d : decode M.2.1 pc = .ok (.fstore_n i, 1)) (hn : (i : Nat) < M.2.2.1) (hL : js1 L (i : Nat) (.float x) = L') (k : J l s0 D M R mc ms Q (pc + 1) L' rest T V X sz c n) : J l s0 D M R mc ms Q pc L (.float x :: rest) T V X sz c n := fun p e s m args below meth cd H locs ls hC hH hl => lv_fstore_n hC.1 hC.2.1 d rfl hl hn rfl (fun ls' hl' => k p e s m args below meth cd H locs ls' hC hH (by rw [← hL]; exact js1_has hl'))
theorem j_fstore {i : Nat} {x : UInt32} {L' : List (Nat × Value)} (d : decode M.2.1 pc = .ok (.fstore i, 2)) (hn : i < M.2.2.1) (hL : js1 L i (.float x) = L') (k : J l s0 D M R mc ms Q (pc + 2) L' rest T V X sz c n) : J l s0 D M R mc ms Q pc L (.float x :: rest) T V X sz c n := fun p e s m args below meth cd H locs ls hC hH hl => lv_fstore hC.1 hC.2.1 d hl hn rfl (fun ls' hl' => k p e s m args below meth cd H locs ls' hC hH (by rw [← hL]; exact js1_has hl'))
theorem j_dload_n {i : Fin 4} {x : UInt64} (d : decode M.2.1 pc = .ok (.dload_n i, 1)) (h : L.lookup (i : Nat) = some (.double x)) (k : J l s0 D M R mc ms Q (pc + 1) L (.double x :: rest) T V X sz c n) : J l s0 D M R mc ms Q pc L rest T V X sz c n := fun p e s m args below meth cd H locs ls hC hH hl => lv_dload_n hC.1 hC.2.1 d rfl (lk_at hl h) (k p e s m args below meth cd H locs ls hC hH hl)
theorem j_dload {i : Nat} {x : UInt64} (d : decode M.2.1 pc = .ok (.dload i, 2)) (h : L.lookup i = some (.double x)) (k : J l s0 D M R mc ms Q (pc + 2) L (.double x :: rest) T V X sz c n) : J l s0 D M R mc ms Q pc L rest T V X sz c n := fun p e s m args below meth cd H locs ls hC hH hl => lv_dload hC.1 hC.2.1 d (lk_at hl h) (k p e s m args below meth cd H locs ls hC hH hl)
theorem j_dstore_n {i : Fin 4} {x : UInt64} {L' : List (Nat × Value)} (d : decode M.2.1 pc = .ok (.dstore_n i, 1)) (hn : (i : Nat) + 1 < M.2.2.1) (hL : js2 L (i : Nat) (.double x) = L') (k : J l s0 D M R mc ms Q (pc + 1) L' rest T V X sz c n) : J l s0 D M R mc ms Q pc L (.double x :: rest) T V X sz c n := fun p e s m args below meth cd H locs ls hC hH hl => lv_dstore_n hC.1 hC.2.1 d rfl hl hn rfl (fun ls' hl' => k p e s m args below meth cd H locs ls' hC hH (by rw [← hL]; exact js2_has hl'))
theorem j_dstore {i : Nat} {x : UInt64} {L' : List (Nat × Value)} (d : decode M.2.1 pc = .ok (.dstore i, 2)) (hn : i + 1 < M.2.2.1) (hL : js2 L i (.double x) = L') (k : J l s0 D M R mc ms Q (pc + 2) L' rest T V X sz c n) : J l s0 D M R mc ms Q pc L (.double x :: rest) T V X sz c n := fun p e s m args below meth cd H locs ls hC hH hl => lv_dstore hC.1 hC.2.1 d hl hn rfl (fun ls' hl' => k p e s m args below meth cd H locs ls' hC hH (by rw [← hL]; exact js2_has hl'))
theorem j_aload_n {i : Fin 4} {x : Nat} (d : decode M.2.1 pc = .ok (.aload_n i, 1)) (h : L.lookup (i : Nat) = some (.ref x)) (k : J l s0 D M R mc ms Q (pc + 1) L (.ref x :: rest) T V X sz c n) : J l s0 D M R mc ms Q pc L rest T V X sz c n := fun p e s m args below meth cd H locs ls hC hH hl => lv_aload_n hC.1 hC.2.1 d rfl (lk_at hl h) (k p e s m args below meth cd H locs ls hC hH hl)
theorem j_aload {i : Nat} {x : Nat} (d : decode M.2.1 pc = .ok (.aload i, 2)) (h : L.lookup i = some (.ref x)) (k : J l s0 D M R mc ms Q (pc + 2) L (.ref x :: rest) T V X sz c n) : J l s0 D M R mc ms Q pc L rest T V X sz c n := fun p e s m args below meth cd H locs ls hC hH hl => lv_aload hC.1 hC.2.1 d (lk_at hl h) (k p e s m args below meth cd H locs ls hC hH hl)
theorem j_astore_n {i : Fin 4} {x : Nat} {L' : List (Nat × Value)} (d : decode M.2.1 pc = .ok (.astore_n i, 1)) (hn : (i : Nat) < M.2.2.1) (hL : js1 L (i : Nat) (.ref x) = L') (k : J l s0 D M R mc ms Q (pc + 1) L' rest T V X sz c n) : J l s0 D M R mc ms Q pc L (.ref x :: rest) T V X sz c n := fun p e s m args below meth cd H locs ls hC hH hl => lv_astore_n hC.1 hC.2.1 d rfl hl hn rfl (fun ls' hl' => k p e s m args below meth cd H locs ls' hC hH (by rw [← hL]; exact js1_has hl'))
theorem j_astore {i : Nat} {x : Nat} {L' : List (Nat × Value)} (d : decode M.2.1 pc = .ok (.astore i, 2)) (hn : i < M.2.2.1) (hL : js1 L i (.ref x) = L') (k : J l s0 D M R mc ms Q (pc + 2) L' rest T V X sz c n) : J l s0 D M R mc ms Q pc L (.ref x :: rest) T V X sz c n := fun p e s m args below meth cd H locs ls hC hH hl => lv_astore hC.1 hC.2.1 d hl hn rfl (fun ls' hl' => k p e s m args below meth cd H locs ls' hC hH (by rw [← hL]; exact js1_has hl'))
theorem j_iinc {i : Nat} {w : Int} {x v : Int32} {L' : List (Nat × Value)} (d : decode M.2.1 pc = .ok (.iinc i w, 3)) (h : L.lookup i = some (.int x)) (hv : Int32.ofInt w = v) (hn : i < M.2.2.1) (hL : js1 L i (.int (x + v)) = L') (k : J l s0 D M R mc ms Q (pc + 3) L' rest T V X sz c n) : J l s0 D M R mc ms Q pc L rest T V X sz c n := by
  intro p e s m args below meth cd H locs ls hC hH hl
  subst hv
  have hm := lk_mem h
  obtain ⟨j, hj⟩ := List.getElem?_of_mem hm
  exact lv_iinc hC.1 hC.2.1 d hl hj rfl hn rfl (fun ls' hl' => k p e s m args below meth cd H locs ls' hC hH (by rw [← hL]; exact js1_has hl'))
theorem j_if_eq {x : Int32} {off : Int} {tgt : Nat} (d : decode M.2.1 pc = .ok (.ifCond .eq off, 3)) (ht : (pc : Int) + off = (tgt : Int)) (kt : x = 0 → J l s0 D M R mc ms Q tgt L rest T V X sz c n) (kf : ¬ x = 0 → J l s0 D M R mc ms Q (pc + 3) L rest T V X sz c n) : J l s0 D M R mc ms Q pc L (.int x :: rest) T V X sz c n := fun p e s m args below meth cd H locs ls hC hH hl => lv_if_eq hC.1 hC.2.1 d ht (fun z => kt z p e s m args below meth cd H locs ls hC hH hl) (fun z => kf z p e s m args below meth cd H locs ls hC hH hl)
theorem j_icmp_eq {x y : Int32} {off : Int} {tgt : Nat} (d : decode M.2.1 pc = .ok (.if_icmp .eq off, 3)) (ht : (pc : Int) + off = (tgt : Int)) (kt : x = y → J l s0 D M R mc ms Q tgt L rest T V X sz c n) (kf : ¬ x = y → J l s0 D M R mc ms Q (pc + 3) L rest T V X sz c n) : J l s0 D M R mc ms Q pc L (.int y :: .int x :: rest) T V X sz c n := fun p e s m args below meth cd H locs ls hC hH hl => lv_icmp_eq hC.1 hC.2.1 d ht (fun z => kt z p e s m args below meth cd H locs ls hC hH hl) (fun z => kf z p e s m args below meth cd H locs ls hC hH hl)
theorem j_if_ne {x : Int32} {off : Int} {tgt : Nat} (d : decode M.2.1 pc = .ok (.ifCond .ne off, 3)) (ht : (pc : Int) + off = (tgt : Int)) (kt : ¬ x = 0 → J l s0 D M R mc ms Q tgt L rest T V X sz c n) (kf : x = 0 → J l s0 D M R mc ms Q (pc + 3) L rest T V X sz c n) : J l s0 D M R mc ms Q pc L (.int x :: rest) T V X sz c n := fun p e s m args below meth cd H locs ls hC hH hl => lv_if_ne hC.1 hC.2.1 d ht (fun z => kt z p e s m args below meth cd H locs ls hC hH hl) (fun z => kf z p e s m args below meth cd H locs ls hC hH hl)
theorem j_icmp_ne {x y : Int32} {off : Int} {tgt : Nat} (d : decode M.2.1 pc = .ok (.if_icmp .ne off, 3)) (ht : (pc : Int) + off = (tgt : Int)) (kt : ¬ x = y → J l s0 D M R mc ms Q tgt L rest T V X sz c n) (kf : x = y → J l s0 D M R mc ms Q (pc + 3) L rest T V X sz c n) : J l s0 D M R mc ms Q pc L (.int y :: .int x :: rest) T V X sz c n := fun p e s m args below meth cd H locs ls hC hH hl => lv_icmp_ne hC.1 hC.2.1 d ht (fun z => kt z p e s m args below meth cd H locs ls hC hH hl) (fun z => kf z p e s m args below meth cd H locs ls hC hH hl)
theorem ti_lt {x y : Int32} (h : x < y) : x.toInt < y.toInt := Int32.lt_iff_toInt_lt.mp h
theorem ti_nlt {x y : Int32} (h : ¬ x < y) : y.toInt ≤ x.toInt := by have := mt Int32.lt_iff_toInt_lt.mpr h; omega
theorem ti_le {x y : Int32} (h : x ≤ y) : x.toInt ≤ y.toInt := Int32.le_iff_toInt_le.mp h
theorem ti_nle {x y : Int32} (h : ¬ x ≤ y) : y.toInt < x.toInt := by have := mt Int32.le_iff_toInt_le.mpr h; omega
theorem ti_0 : (0 : Int32).toInt = 0 := by decide
theorem j_if_lt {x : Int32} {off : Int} {tgt : Nat} (d : decode M.2.1 pc = .ok (.ifCond .lt off, 3)) (ht : (pc : Int) + off = (tgt : Int)) (kt : x.toInt < 0 → J l s0 D M R mc ms Q tgt L rest T V X sz c n) (kf : 0 ≤ x.toInt → J l s0 D M R mc ms Q (pc + 3) L rest T V X sz c n) : J l s0 D M R mc ms Q pc L (.int x :: rest) T V X sz c n := fun p e s m args below meth cd H locs ls hC hH hl => lv_if_lt hC.1 hC.2.1 d ht (fun z => kt (by have h9 := ti_lt z; rw [ti_0] at h9; exact h9) p e s m args below meth cd H locs ls hC hH hl) (fun z => kf (by have h9 := ti_nlt z; rw [ti_0] at h9; exact h9) p e s m args below meth cd H locs ls hC hH hl)
theorem j_icmp_lt {x y : Int32} {off : Int} {tgt : Nat} (d : decode M.2.1 pc = .ok (.if_icmp .lt off, 3)) (ht : (pc : Int) + off = (tgt : Int)) (kt : x.toInt < y.toInt → J l s0 D M R mc ms Q tgt L rest T V X sz c n) (kf : y.toInt ≤ x.toInt → J l s0 D M R mc ms Q (pc + 3) L rest T V X sz c n) : J l s0 D M R mc ms Q pc L (.int y :: .int x :: rest) T V X sz c n := fun p e s m args below meth cd H locs ls hC hH hl => lv_icmp_lt hC.1 hC.2.1 d ht (fun z => kt (ti_lt z) p e s m args below meth cd H locs ls hC hH hl) (fun z => kf (ti_nlt z) p e s m args below meth cd H locs ls hC hH hl)
theorem j_if_ge {x : Int32} {off : Int} {tgt : Nat} (d : decode M.2.1 pc = .ok (.ifCond .ge off, 3)) (ht : (pc : Int) + off = (tgt : Int)) (kt : 0 ≤ x.toInt → J l s0 D M R mc ms Q tgt L rest T V X sz c n) (kf : x.toInt < 0 → J l s0 D M R mc ms Q (pc + 3) L rest T V X sz c n) : J l s0 D M R mc ms Q pc L (.int x :: rest) T V X sz c n := fun p e s m args below meth cd H locs ls hC hH hl => lv_if_ge hC.1 hC.2.1 d ht (fun z => kt (by have h9 := ti_le z; rw [ti_0] at h9; exact h9) p e s m args below meth cd H locs ls hC hH hl) (fun z => kf (by have h9 := ti_nle z; rw [ti_0] at h9; exact h9) p e s m args below meth cd H locs ls hC hH hl)
theorem j_icmp_ge {x y : Int32} {off : Int} {tgt : Nat} (d : decode M.2.1 pc = .ok (.if_icmp .ge off, 3)) (ht : (pc : Int) + off = (tgt : Int)) (kt : y.toInt ≤ x.toInt → J l s0 D M R mc ms Q tgt L rest T V X sz c n) (kf : x.toInt < y.toInt → J l s0 D M R mc ms Q (pc + 3) L rest T V X sz c n) : J l s0 D M R mc ms Q pc L (.int y :: .int x :: rest) T V X sz c n := fun p e s m args below meth cd H locs ls hC hH hl => lv_icmp_ge hC.1 hC.2.1 d ht (fun z => kt (ti_le z) p e s m args below meth cd H locs ls hC hH hl) (fun z => kf (ti_nle z) p e s m args below meth cd H locs ls hC hH hl)
theorem j_if_gt {x : Int32} {off : Int} {tgt : Nat} (d : decode M.2.1 pc = .ok (.ifCond .gt off, 3)) (ht : (pc : Int) + off = (tgt : Int)) (kt : 0 < x.toInt → J l s0 D M R mc ms Q tgt L rest T V X sz c n) (kf : x.toInt ≤ 0 → J l s0 D M R mc ms Q (pc + 3) L rest T V X sz c n) : J l s0 D M R mc ms Q pc L (.int x :: rest) T V X sz c n := fun p e s m args below meth cd H locs ls hC hH hl => lv_if_gt hC.1 hC.2.1 d ht (fun z => kt (by have h9 := ti_lt z; rw [ti_0] at h9; exact h9) p e s m args below meth cd H locs ls hC hH hl) (fun z => kf (by have h9 := ti_nlt z; rw [ti_0] at h9; exact h9) p e s m args below meth cd H locs ls hC hH hl)
theorem j_icmp_gt {x y : Int32} {off : Int} {tgt : Nat} (d : decode M.2.1 pc = .ok (.if_icmp .gt off, 3)) (ht : (pc : Int) + off = (tgt : Int)) (kt : y.toInt < x.toInt → J l s0 D M R mc ms Q tgt L rest T V X sz c n) (kf : x.toInt ≤ y.toInt → J l s0 D M R mc ms Q (pc + 3) L rest T V X sz c n) : J l s0 D M R mc ms Q pc L (.int y :: .int x :: rest) T V X sz c n := fun p e s m args below meth cd H locs ls hC hH hl => lv_icmp_gt hC.1 hC.2.1 d ht (fun z => kt (ti_lt z) p e s m args below meth cd H locs ls hC hH hl) (fun z => kf (ti_nlt z) p e s m args below meth cd H locs ls hC hH hl)
theorem j_if_le {x : Int32} {off : Int} {tgt : Nat} (d : decode M.2.1 pc = .ok (.ifCond .le off, 3)) (ht : (pc : Int) + off = (tgt : Int)) (kt : x.toInt ≤ 0 → J l s0 D M R mc ms Q tgt L rest T V X sz c n) (kf : 0 < x.toInt → J l s0 D M R mc ms Q (pc + 3) L rest T V X sz c n) : J l s0 D M R mc ms Q pc L (.int x :: rest) T V X sz c n := fun p e s m args below meth cd H locs ls hC hH hl => lv_if_le hC.1 hC.2.1 d ht (fun z => kt (by have h9 := ti_le z; rw [ti_0] at h9; exact h9) p e s m args below meth cd H locs ls hC hH hl) (fun z => kf (by have h9 := ti_nle z; rw [ti_0] at h9; exact h9) p e s m args below meth cd H locs ls hC hH hl)
theorem j_icmp_le {x y : Int32} {off : Int} {tgt : Nat} (d : decode M.2.1 pc = .ok (.if_icmp .le off, 3)) (ht : (pc : Int) + off = (tgt : Int)) (kt : x.toInt ≤ y.toInt → J l s0 D M R mc ms Q tgt L rest T V X sz c n) (kf : y.toInt < x.toInt → J l s0 D M R mc ms Q (pc + 3) L rest T V X sz c n) : J l s0 D M R mc ms Q pc L (.int y :: .int x :: rest) T V X sz c n := fun p e s m args below meth cd H locs ls hC hH hl => lv_icmp_le hC.1 hC.2.1 d ht (fun z => kt (ti_le z) p e s m args below meth cd H locs ls hC hH hl) (fun z => kf (ti_nle z) p e s m args below meth cd H locs ls hC hH hl)
theorem j_goto {off : Int} {tgt : Nat} (d : decode M.2.1 pc = .ok (.goto off, 3)) (ht : (pc : Int) + off = (tgt : Int)) (k : J l s0 D M R mc ms Q tgt L rest T V X sz c n) : J l s0 D M R mc ms Q pc L rest T V X sz c n := fun p e s m args below meth cd H locs ls hC hH hl => lv_goto hC.1 hC.2.1 d ht (k p e s m args below meth cd H locs ls hC hH hl)
theorem j_ifnull {off : Int} {x : Nat} (d : decode M.2.1 pc = .ok (.ifnull off, 3)) (k : J l s0 D M R mc ms Q (pc + 3) L rest T V X sz c n) : J l s0 D M R mc ms Q pc L (.ref x :: rest) T V X sz c n := fun p e s m args below meth cd H locs ls hC hH hl => lv_ifnull hC.1 hC.2.1 d (k p e s m args below meth cd H locs ls hC hH hl)
theorem j_ifnullN {off : Int} {tgt : Nat} (d : decode M.2.1 pc = .ok (.ifnull off, 3)) (ht : (pc : Int) + off = (tgt : Int)) (k : J l s0 D M R mc ms Q tgt L rest T V X sz c n) : J l s0 D M R mc ms Q pc L (.null :: rest) T V X sz c n := fun p e s m args below meth cd H locs ls hC hH hl => lv_ifnullN hC.1 hC.2.1 d ht (k p e s m args below meth cd H locs ls hC hH hl)
theorem j_tswO {dflt lo hi : Int} {offs : Array Int} {len : Nat} {x : Int32} {tgt : Nat} (d : decode M.2.1 pc = .ok (.tableswitch dflt lo hi offs, len)) (h : x.toInt < lo ∨ hi < x.toInt) (ht : (pc : Int) + dflt = (tgt : Int)) (k : J l s0 D M R mc ms Q tgt L rest T V X sz c n) : J l s0 D M R mc ms Q pc L (.int x :: rest) T V X sz c n := fun p e s m args below meth cd H locs ls hC hH hl => lv_tableOut hC.1 hC.2.1 d h ht (k p e s m args below meth cd H locs ls hC hH hl)
theorem j_tsw {dflt lo hi : Int} {offs : Array Int} {len : Nat} {x : Int32} {i : Nat} {off : Int} {tgt : Nat} (d : decode M.2.1 pc = .ok (.tableswitch dflt lo hi offs, len)) (h : x.toInt = lo + i) (h2 : lo + i ≤ hi) (ho : offs[i]? = some off) (ht : (pc : Int) + off = (tgt : Int)) (k : J l s0 D M R mc ms Q tgt L rest T V X sz c n) : J l s0 D M R mc ms Q pc L (.int x :: rest) T V X sz c n := fun p e s m args below meth cd H locs ls hC hH hl => lv_tableIn hC.1 hC.2.1 d (by omega) (by omega) (by rw [show (x.toInt - lo).toNat = i by omega]; exact ho) ht (k p e s m args below meth cd H locs ls hC hH hl)
theorem j_lsw {dflt : Int} {ps : Array (Int × Int)} {len : Nat} {x : Int32} {off : Int} {tgt : Nat} (d : decode M.2.1 pc = .ok (.lookupswitch dflt ps, len)) (hp : (ps.toList.zip (ps.toList.drop 1)).all (fun (a, next) => a.1 < next.1) = true) (ho : Op.lookupswitch.offset ps.toList dflt x.toInt = off) (ht : (pc : Int) + off = (tgt : Int)) (k : J l s0 D M R mc ms Q tgt L rest T V X sz c n) : J l s0 D M R mc ms Q pc L (.int x :: rest) T V X sz c n := fun p e s m args below meth cd H locs ls hC hH hl => lv_lookup hC.1 hC.2.1 d hp ho ht (k p e s m args below meth cd H locs ls hC hH hl)
theorem j_ldc {i : Nat} {v : Int32} (d : decode M.2.1 pc = .ok (.ldc i, 2)) (hB : jB l s0 D) (hc : Cond.constant M.1.cls i v ∈ lw_tbl) (k : J l s0 D M R mc ms Q (pc + 2) L (.int v :: rest) T V X sz c n) : J l s0 D M R mc ms Q pc L rest T V X sz c n := fun p e s m args below meth cd H locs ls hC hH hl => lv_ldc hC.1 hC.2.1 hC.2.2.2.2.1 (hB.word hC.2.2.2.2.2.2.1 hc rfl args) d (k p e s m args below meth cd H locs ls hC hH hl)
theorem j_ldcw {i : Nat} {v : Int32} (d : decode M.2.1 pc = .ok (.ldc_w i, 3)) (hB : jB l s0 D) (hc : Cond.constant M.1.cls i v ∈ lw_tbl) (k : J l s0 D M R mc ms Q (pc + 3) L (.int v :: rest) T V X sz c n) : J l s0 D M R mc ms Q pc L rest T V X sz c n := fun p e s m args below meth cd H locs ls hC hH hl => lv_ldcw hC.1 hC.2.1 hC.2.2.2.2.1 (hB.word hC.2.2.2.2.2.2.1 hc rfl args) d (k p e s m args below meth cd H locs ls hC hH hl)
theorem j_ldcf {i : Nat} {v : UInt32} (d : decode M.2.1 pc = .ok (.ldc i, 2)) (hB : jB l s0 D) (hc : Cond.constantFloat M.1.cls i v ∈ lw_tbl) (k : J l s0 D M R mc ms Q (pc + 2) L (.float v :: rest) T V X sz c n) : J l s0 D M R mc ms Q pc L rest T V X sz c n := fun p e s m args below meth cd H locs ls hC hH hl => lv_ldcf hC.1 hC.2.1 hC.2.2.2.2.1 (hB.word hC.2.2.2.2.2.2.1 hc rfl args) d (k p e s m args below meth cd H locs ls hC hH hl)
theorem j_ldc2 {i : Nat} {v : Int64} (d : decode M.2.1 pc = .ok (.ldc2_w i, 3)) (hB : jB l s0 D) (hc : Cond.constantLong M.1.cls i v ∈ lw_tbl) (k : J l s0 D M R mc ms Q (pc + 3) L (.long v :: rest) T V X sz c n) : J l s0 D M R mc ms Q pc L rest T V X sz c n := fun p e s m args below meth cd H locs ls hC hH hl => lv_ldc2 hC.1 hC.2.1 hC.2.2.2.2.1 (hB.word hC.2.2.2.2.2.2.1 hc rfl args) d (k p e s m args below meth cd H locs ls hC hH hl)
theorem j_ldc2d {i : Nat} {v : UInt64} (d : decode M.2.1 pc = .ok (.ldc2_w i, 3)) (hB : jB l s0 D) (hc : Cond.constantDouble M.1.cls i v ∈ lw_tbl) (k : J l s0 D M R mc ms Q (pc + 3) L (.double v :: rest) T V X sz c n) : J l s0 D M R mc ms Q pc L rest T V X sz c n := fun p e s m args below meth cd H locs ls hC hH hl => lv_ldc2d hC.1 hC.2.1 hC.2.2.2.2.1 (hB.word hC.2.2.2.2.2.2.1 hc rfl args) d (k p e s m args below meth cd H locs ls hC hH hl)
theorem j_sub {L' : List (Nat × Value)} (h : L'.all (fun q => L.lookup q.1 == some q.2) = true) (k : J l s0 D M R mc ms Q pc L' st T V X sz c n) : J l s0 D M R mc ms Q pc L st T V X sz c n := by
  intro p e s m args below meth cd H locs ls hC hH hl
  refine k p e s m args below meth cd H locs ls hC hH ⟨hl.1, hl.2.1, fun q hq => ?_⟩
  have := List.all_eq_true.mp h q hq
  exact lk_at hl (by simpa using this)
theorem j_sub2 {L' : List (Nat × Value)} (h : ∀ q ∈ L', L.lookup q.1 = some q.2) (k : J l s0 D M R mc ms Q pc L' st T V X sz c n) : J l s0 D M R mc ms Q pc L st T V X sz c n := by
  intro p e s m args below meth cd H locs ls hC hH hl
  exact k p e s m args below meth cd H locs ls hC hH ⟨hl.1, hl.2.1, fun q hq => lk_at hl (h q hq)⟩
/-- where a field of a class is linked: the class, the place, the link in the tables -/
def jlf (own : String) (idx ci k : Nat) : Prop := ∃ r : vw_C, vwCl[ci]? = some r ∧ k < r.2.2 ∧ (∀ w ∈ u_ws r.1 r.2.1 r.2.2, w ∈ lw_tbl ∧ goodWord w = true) ∧ (Cond.fieldLink own idx (r.2.1 k).1 (r.2.1 k).2.1 (r.2.1 k).2.2.1 ∈ lw_tbl ∨ ∃ h, Cond.fieldLinkNest own idx (r.2.1 k).1 (r.2.1 k).2.1 (r.2.1 k).2.2.1 h ∈ lw_tbl)
theorem j_get {idx ci k q : Nat} {fs : List (Nat ⊕ Option Nat)} {f : Nat ⊕ Option Nat} (d : decode M.2.1 pc = .ok (.getfield idx, 3)) (hB : jB l s0 D) (hlk : jlf M.1.cls idx ci k) (ht : T q = some (.inl (ci, fs))) (hf : fs[k]? = some f) (K : J l s0 D M R mc ms Q (pc + 3) L (j_fv V X q k f :: rest) T V X sz c n) : J l s0 D M R mc ms Q pc L (.ref q :: rest) T V X sz c n := by
  intro p e s m args below meth cd H locs ls hC hH hl
  obtain ⟨r, h1, h2, h3, h4⟩ := hlk
  obtain ⟨C, TT, N⟩ := r
  have hW := hC.2.2.2.2.2.2.1
  have hK := va_K.moved (hW.alike) hB.2.2.1
  have hts : ∀ w ∈ u_ws C TT N, w.before args s = true := fun w hw => hB.word hW (h3 w hw).1 (h3 w hw).2 args
  have hat := (hH.2.2.2.2.1 q _ ht).2
  have hP : va_P D.1 vwCl [(q, j_E D.2 V X q (.inl (ci, fs)))] H := fun i x hx => by
    have hz : i < 1 := (List.getElem?_eq_some_iff.mp hx).1
    rw [show i = 0 by omega] at hx
    cases hx
    exact hat
  have hv : (j_fs V X q 0 fs)[k]? = some (j_fv V X q k f) := by have := j_fs_get V X q fs 0 k f hf; rwa [Nat.zero_add] at this
  have kk := K p e s m args below meth cd H locs ls hC hH hl
  rcases h4 with h4 | ⟨h, h4⟩
  · exact va_get hC.1 hC.2.1 hts (fun w hw => hw) hC.2.2.2.2.1 hK hP 0 (fs := j_fs V X q 0 fs) rfl h1 k h2 (hB.word hW h4 rfl args) (fun _ h9 => h9) hv d kk
  · exact va_getN hC.1 hC.2.1 hts (fun w hw => hw) hC.2.2.2.2.1 hK hP 0 (fs := j_fs V X q 0 fs) rfl h1 k h2 (hB.nestF hW h4 args) (fun _ h9 => h9) hv d kk
theorem j_geti {idx ci k q : Nat} {fs : List (Nat ⊕ Option Nat)} (d : decode M.2.1 pc = .ok (.getfield idx, 3)) (hB : jB l s0 D) (hlk : jlf M.1.cls idx ci k) (ht : T q = some (.inl (ci, fs))) (hf : fs[k]? = some (.inl 0)) (K : J l s0 D M R mc ms Q (pc + 3) L (.int (V q k) :: rest) T V X sz c n) : J l s0 D M R mc ms Q pc L (.ref q :: rest) T V X sz c n := j_get d hB hlk ht hf K
theorem j_getl {idx ci k q : Nat} {fs : List (Nat ⊕ Option Nat)} (d : decode M.2.1 pc = .ok (.getfield idx, 3)) (hB : jB l s0 D) (hlk : jlf M.1.cls idx ci k) (ht : T q = some (.inl (ci, fs))) (hf : fs[k]? = some (.inl 1)) (K : J l s0 D M R mc ms Q (pc + 3) L (.long (X.1 q k) :: rest) T V X sz c n) : J l s0 D M R mc ms Q pc L (.ref q :: rest) T V X sz c n := j_get d hB hlk ht hf K
theorem j_getr {idx ci k q a : Nat} {fs : List (Nat ⊕ Option Nat)} (d : decode M.2.1 pc = .ok (.getfield idx, 3)) (hB : jB l s0 D) (hlk : jlf M.1.cls idx ci k) (ht : T q = some (.inl (ci, fs))) (hf : fs[k]? = some (.inr (some a))) (K : J l s0 D M R mc ms Q (pc + 3) L (.ref a :: rest) T V X sz c n) : J l s0 D M R mc ms Q pc L (.ref q :: rest) T V X sz c n := j_get d hB hlk ht hf K
/-- a world with one cell changed -/
theorem jH.one {s : State} {T' : jT} {V' : jV} {X' : jX} {H H' : Heap} {locs : List Loc} {a i : Nat} (h : jH s0 D s T V X sz H locs) (ha : s0.heap.size ≤ a) (z : H'.size = H.size) (oq : ∀ q, q ≠ a → H'[q]? = H[q]?) (hT : ∀ q, q ≠ a → T' q = T q) (hV : ∀ q, q ≠ a → V' q = V q) (hX : ∀ q, q ≠ a → X'.1 q = X.1 q ∧ X'.2 q = X.2 q) (hat : ∀ k, T' a = some k → va_at D.1 vwCl (a, j_E D.2 V' X' a k) H') : jH s0 D s T' V' X' sz H' (locs ++ [⟨a, i⟩]) := by
  obtain ⟨h1, h2, h3, h4, h5, h6, h7⟩ := h
  refine ⟨h1, by rw [z]; exact h2, h3, fun q hq => ?_, fun q k hq => ?_, by rw [z]; exact h6, fun x hx => ?_⟩
  · rw [oq q (by omega)]; exact h4 q hq
  · by_cases e : q = a
    · subst e
      exact ⟨ha, hat k hq⟩
    · rw [hT q e] at hq
      obtain ⟨g1, g2⟩ := h5 q k hq
      refine ⟨g1, ?_⟩
      rw [j_E_congr (hV q e) (hX q e).1 (hX q e).2]
      exact g2.kept (oq q e)
  · rcases List.mem_append.mp hx with hx | hx
    · exact h7 x hx
    · rw [List.mem_singleton.mp hx]; exact ha

/-- putfield, of any kind: the cell holds the fields with this one set -/
theorem jw_put {p : Program} {e : Env} {s : State} {m : MethodId} {args : Array Value} {below : List Frame} {meth : Method} {cd : Code} {H : Heap} {locs : List Loc} {ls : Array Slot} {Qs : State → Prop} {idx ci k a : Nat} {fv : List Value} {r : vw_C} {ty : FieldType} {v : Value} (d : decode M.2.1 pc = .ok (.putfield idx, 3)) (hB : jB l s0 D) (hC : jC s0 M p e s m args meth cd) (h1 : vwCl[ci]? = some r) (h2 : k < r.2.2) (h3 : ∀ w ∈ u_ws r.1 r.2.1 r.2.2, w ∈ lw_tbl ∧ goodWord w = true)
    (h4 : Cond.fieldLink M.1.cls idx (r.2.1 k).1 (r.2.1 k).2.1 (r.2.1 k).2.2.1 ∈ lw_tbl ∨ ∃ h, Cond.fieldLinkNest M.1.cls idx (r.2.1 k).1 (r.2.1 k).2.1 (r.2.1 k).2.2.1 h ∈ lw_tbl) (hnm : ∀ a, a < r.2.2 → ∀ b, b < r.2.2 → a ≠ b → (r.2.1 a).2.1 ≠ (r.2.1 b).2.1) (hty : ∀ k, k < r.2.2 → ∃ t, parseFieldDescriptor (r.2.1 k).2.2.1 = some t)
    (hfin : (r.2.1 k).2.2.2 = false ∨ ((r.2.1 k).2.2.2 = true ∧ M.1.name = "<init>" ∧ (r.2.1 k).1 = M.1.cls ∧ Cond.fieldLink M.1.cls idx (r.2.1 k).1 (r.2.1 k).2.1 (r.2.1 k).2.2.1 ∈ lw_tbl)) (hd : parseFieldDescriptor (r.2.1 k).2.2.1 = some ty) (hn : narrow ty v = v) (hfit : fits ty v = true) (hlen : k < fv.length) (hat : va_at D.1 vwCl (a, .inr (ci, fv)) H)
    (kk : ∀ (H' : Heap) (i : Nat), va_at D.1 vwCl (a, .inr (ci, fv.set k v)) H' → H'.size = H.size → (∀ q, q ≠ a → H'[q]? = H[q]?) → W p l e R s m args below meth cd H' (locs ++ [⟨a, i⟩]) c n Qs (F0 m (pc + 3) ls rest)) : W p l e R s m args below meth cd H locs c n Qs (F0 m pc ls (v :: .ref a :: rest)) := by
  obtain ⟨C, TT, N⟩ := r
  have hW := hC.2.2.2.2.2.2.1
  have hK := va_K.moved (hW.alike) hB.2.2.1
  have hts : ∀ w ∈ u_ws C TT N, w.before args s = true := fun w hw => hB.word hW (h3 w hw).1 (h3 w hw).2 args
  have hty0 : ∃ ty0 : Nat → FieldType, ∀ k, k < N → parseFieldDescriptor (TT k).2.2.1 = some (ty0 k) := by
    refine ⟨fun k => if h : k < N then Classical.choose (hty k h) else .int, fun k hk => ?_⟩
    have e9 : (fun k => if h : k < N then Classical.choose (hty k h) else FieldType.int) k = Classical.choose (hty k hk) := dif_pos hk
    rw [e9]
    exact Classical.choose_spec (hty k hk)
  obtain ⟨ty0, hty0⟩ := hty0
  have hap := va_apart (own := M.1.cls) (tys := [(D.2 0, .int), (D.2 1, .long), (D.2 2, .double), (D.2 3, .object "CueSheets$State")]) (D := D.1) (cl := vwCl) (s := s) (ci := ci) hts (fun w hw => hw) ty0 hty0 hnm hK h1
  obtain ⟨r', h1', cell, q1, q2, q3, q4⟩ := hat
  have hr : r' = (C, TT, N) := Option.some.inj (h1'.symm.trans h1)
  subst hr
  obtain ⟨hS, hfc, kC, hkC, hkind⟩ := hK.1 ci _ h1
  obtain ⟨cf, kf, fi, f, hi, hsl⟩ := hS k h2
  have hst := (u_facts hfc hkC (u_lays hts (fun w hw => hw) h2) hi).1
  have hlay := hts _ (u_in_lay h2)
  have fin : ∀ (H' : Heap), H'[a]? = some (cell.setSlot f.slot v) → va_at D.1 vwCl (a, .inr (ci, fv.set k v)) H' := by
    intro H' e1
    rw [hsl] at e1
    exact ⟨_, h1, t_OB.to (V := updV (vp_V fv) k v) ⟨_, e1, q2, q3, t_set q4 hap h2 v⟩ (fun j _ => vp_updV_set hlen v j)⟩
  unfold u_lay at hlay
  rcases hfin with hfin | ⟨hfin, hin, hdecl, h4'⟩
  · rw [if_neg (by rw [hfin]; decide)] at hlay
    have h6 := u_store hfc hkC hkind hlay hi hd hn hfit
    rcases h4 with h4 | ⟨h, h4⟩
    · exact W.putK hC.1 hC.2.1 (f := f) ⟨hC.2.2.2.2.1, hB.word hW h4 rfl args, ⟨_, _, _, hi⟩, hst⟩ (by rw [q2]; exact h6) q1 q3 (by rw [hsl]; exact k2_hasslot (q4 k h2)) rfl rfl d fun H' e1 e2 e3 => kk H' f.slot (fin H' e1) e2 e3
    · exact va_WputK hC.1 hC.2.1 (f := f) hC.2.2.2.2.1 (hB.nestF hW h4 args) hi hst (by rw [q2]; exact h6) q1 q3 (by rw [hsl]; exact k2_hasslot (q4 k h2)) rfl rfl d fun H' e1 e2 e3 => kk H' f.slot (fin H' e1) e2 e3
  · rw [if_pos hfin] at hlay
    have hcf : m.cls = cf := by
      obtain ⟨_, _, c', _, _, _, -, -, hf', -, -, -, hown2, -⟩ := Cond.laysFinal_spec hlay
      have e1 : c' = cf := by have := hi.symm.trans hf'; simp at this; exact this.1.symm
      have e2 : (TT k).1 = M.1.cls := hdecl
      rw [e2] at hown2
      rw [← e1]; exact Option.some.inj (hC.2.2.2.2.1.symm.trans hown2)
    have h6 := u_fits hfc hkC hkind (Or.inr hlay) hi hd hn hfit
    exact W.putFinK hC.1 hC.2.1 hC.2.2.2.2.1 (hB.word hW h4' rfl args) hi hst hcf (hC.2.2.2.2.2.2.2.1.trans hin) (by rw [q2]; exact h6) q1 q3 (by rw [hsl]; exact k2_hasslot (q4 k h2)) rfl rfl d fun H' e1 e2 e3 => kk H' f.slot (fin H' e1) e2 e3
/-- where a field is linked for writing -/
def jlp (M : jM) (idx ci k : Nat) (ty : FieldType) : Prop := ∃ r : vw_C, vwCl[ci]? = some r ∧ k < r.2.2 ∧ (∀ w ∈ u_ws r.1 r.2.1 r.2.2, w ∈ lw_tbl ∧ goodWord w = true) ∧ (Cond.fieldLink M.1.cls idx (r.2.1 k).1 (r.2.1 k).2.1 (r.2.1 k).2.2.1 ∈ lw_tbl ∨ ∃ h, Cond.fieldLinkNest M.1.cls idx (r.2.1 k).1 (r.2.1 k).2.1 (r.2.1 k).2.2.1 h ∈ lw_tbl) ∧ (∀ a, a < r.2.2 → ∀ b, b < r.2.2 → a ≠ b → (r.2.1 a).2.1 ≠ (r.2.1 b).2.1) ∧ (∀ k, k < r.2.2 → ∃ t, parseFieldDescriptor (r.2.1 k).2.2.1 = some t) ∧
  ((r.2.1 k).2.2.2 = false ∨ ((r.2.1 k).2.2.2 = true ∧ M.1.name = "<init>" ∧ (r.2.1 k).1 = M.1.cls ∧ Cond.fieldLink M.1.cls idx (r.2.1 k).1 (r.2.1 k).2.1 (r.2.1 k).2.2.1 ∈ lw_tbl)) ∧ parseFieldDescriptor (r.2.1 k).2.2.1 = some ty
theorem j_puti {idx ci k q : Nat} {fs : List (Nat ⊕ Option Nat)} {v : Int32} (d : decode M.2.1 pc = .ok (.putfield idx, 3)) (hB : jB l s0 D) (hlk : jlp M idx ci k .int) (ht : T q = some (.inl (ci, fs))) (hf : fs[k]? = some (.inl 0)) (K : J l s0 D M R mc ms Q (pc + 3) L rest T (jset V q k v) X sz c n) : J l s0 D M R mc ms Q pc L (.int v :: .ref q :: rest) T V X sz c n := by
  intro p e s m args below meth cd H locs ls hC hH hl
  obtain ⟨r, h1, h2, h3, h4, h5, h6, h7, h8⟩ := hlk
  obtain ⟨g1, g2⟩ := hH.2.2.2.2.1 q _ ht
  refine jw_put d hB hC h1 h2 h3 h4 h5 h6 h7 h8 rfl rfl (by rw [j_fs_len]; exact (List.getElem?_eq_some_iff.mp hf).1) g2 (fun H' i e1 e2 e3 => ?_)
  refine K p e s m args below meth cd H' _ ls hC (hH.one g1 e2 e3 (fun _ _ => rfl) (fun a h => jset_row h) (fun _ _ => ⟨rfl, rfl⟩) fun k' hk' => ?_) hl
  cases ht.symm.trans hk'
  have := j_fs_set V X q v fs 0 k hf
  rw [Nat.zero_add] at this
  rw [this] at e1
  exact e1
theorem j_putl {idx ci k q : Nat} {fs : List (Nat ⊕ Option Nat)} {v : Int64} (d : decode M.2.1 pc = .ok (.putfield idx, 3)) (hB : jB l s0 D) (hlk : jlp M idx ci k .long) (ht : T q = some (.inl (ci, fs))) (hf : fs[k]? = some (.inl 1)) (K : J l s0 D M R mc ms Q (pc + 3) L rest T V (jset X.1 q k v, X.2) sz c n) : J l s0 D M R mc ms Q pc L (.long v :: .ref q :: rest) T V X sz c n := by
  intro p e s m args below meth cd H locs ls hC hH hl
  obtain ⟨r, h1, h2, h3, h4, h5, h6, h7, h8⟩ := hlk
  obtain ⟨g1, g2⟩ := hH.2.2.2.2.1 q _ ht
  refine jw_put d hB hC h1 h2 h3 h4 h5 h6 h7 h8 rfl rfl (by rw [j_fs_len]; exact (List.getElem?_eq_some_iff.mp hf).1) g2 (fun H' i e1 e2 e3 => ?_)
  refine K p e s m args below meth cd H' _ ls hC (hH.one g1 e2 e3 (fun _ _ => rfl) (fun _ _ => rfl) (fun a h => ⟨jset_row h, rfl⟩) fun k' hk' => ?_) hl
  cases ht.symm.trans hk'
  have := j_fs_setL V X q v fs 0 k hf
  rw [Nat.zero_add] at this
  rw [this] at e1
  exact e1
/-- the kinds with a cell's kind set -/
def jup (T : jT) (q : Nat) (k : jK) : jT := fun a => if a = q then some k else T a
theorem jup_eq {T : jT} {q : Nat} {k : jK} : jup T q k q = some k := by simp [jup]
theorem jup_ne {T : jT} {q a : Nat} {k : jK} (h : a ≠ q) : jup T q k a = T a := by simp [jup, h]
theorem j_putr {idx ci k q b : Nat} {fs : List (Nat ⊕ Option Nat)} {ty : FieldType} (d : decode M.2.1 pc = .ok (.putfield idx, 3)) (hB : jB l s0 D) (hlk : jlp M idx ci k ty) (hty : (∃ nm, ty = .object nm) ∨ ∃ t, ty = .array t) (ht : T q = some (.inl (ci, fs))) (hk : k < fs.length) (K : J l s0 D M R mc ms Q (pc + 3) L rest (jup T q (.inl (ci, fs.set k (.inr (some b))))) V X sz c n) : J l s0 D M R mc ms Q pc L (.ref b :: .ref q :: rest) T V X sz c n := by
  intro p e s m args below meth cd H locs ls hC hH hl
  obtain ⟨r, h1, h2, h3, h4, h5, h6, h7, h8⟩ := hlk
  obtain ⟨g1, g2⟩ := hH.2.2.2.2.1 q _ ht
  refine jw_put d hB hC h1 h2 h3 h4 h5 h6 h7 h8 (by rcases hty with ⟨nm, rfl⟩ | ⟨t, rfl⟩ <;> rfl) (by rcases hty with ⟨nm, rfl⟩ | ⟨t, rfl⟩ <;> rfl) (by rw [j_fs_len]; exact hk) g2 (fun H' i e1 e2 e3 => ?_)
  refine K p e s m args below meth cd H' _ ls hC (hH.one g1 e2 e3 (fun a h => jup_ne h) (fun _ _ => rfl) (fun _ _ => ⟨rfl, rfl⟩) fun k' hk' => ?_) hl
  rw [jup_eq] at hk'
  cases hk'
  have := j_fs_setR V X q (some b) fs 0 k
  have e : (va_rf (some b)) = Value.ref b := rfl
  rw [e] at this
  rw [this] at e1
  exact e1
theorem jin_of {i : Int32} {len : Nat} (h0 : 0 ≤ i.toInt) (h1 : i.toInt < len) : vp_in i len := vp_in_iff.mpr ⟨h0, h1⟩
theorem j_iald {a len : Nat} {i : Int32} (d : decode M.2.1 pc = .ok (.iaload, 1)) (hB : jB l s0 D) (ht : T a = some (.inr (.inl (0, len)))) (h0 : 0 ≤ i.toInt) (h1 : i.toInt < len) (K : J l s0 D M R mc ms Q (pc + 1) L (.int (V a i.toNatClampNeg) :: rest) T V X sz c n) : J l s0 D M R mc ms Q pc L (.int i :: .ref a :: rest) T V X sz c n := by
  intro p e s m args below meth cd H locs ls hC hH hl
  have hK := va_K.moved (hC.2.2.2.2.2.2.1.alike) hB.2.2.1
  have hat := (hH.2.2.2.2.1 a _ ht).2
  have hP : va_P D.1 vwCl [(a, .inl (D.2 0, len, .inl (V a)))] H := fun i x hx => by
    have hz : i < 1 := (List.getElem?_eq_some_iff.mp hx).1
    rw [show i = 0 by omega] at hx
    cases hx
    exact hat
  exact va_iald hC.1 hC.2.1 hK hP 0 0 rfl rfl (jin_of h0 h1) d (K p e s m args below meth cd H locs ls hC hH hl)
theorem j_lald {a len : Nat} {i : Int32} (d : decode M.2.1 pc = .ok (.laload, 1)) (hB : jB l s0 D) (ht : T a = some (.inr (.inl (1, len)))) (h0 : 0 ≤ i.toInt) (h1 : i.toInt < len) (K : J l s0 D M R mc ms Q (pc + 1) L (.long (X.1 a i.toNatClampNeg) :: rest) T V X sz c n) : J l s0 D M R mc ms Q pc L (.int i :: .ref a :: rest) T V X sz c n := by
  intro p e s m args below meth cd H locs ls hC hH hl
  have hK := va_K.moved (hC.2.2.2.2.2.2.1.alike) hB.2.2.1
  have hat := (hH.2.2.2.2.1 a _ ht).2
  have hP : va_P D.1 vwCl [(a, .inl (D.2 1, len, .inr (.inl (X.1 a))))] H := fun i x hx => by
    have hz : i < 1 := (List.getElem?_eq_some_iff.mp hx).1
    rw [show i = 0 by omega] at hx
    cases hx
    exact hat
  exact va_lald hC.1 hC.2.1 hK hP 0 1 rfl rfl (jin_of h0 h1) d (K p e s m args below meth cd H locs ls hC hH hl)
theorem j_dald {a len : Nat} {i : Int32} (d : decode M.2.1 pc = .ok (.daload, 1)) (hB : jB l s0 D) (ht : T a = some (.inr (.inl (2, len)))) (h0 : 0 ≤ i.toInt) (h1 : i.toInt < len) (K : J l s0 D M R mc ms Q (pc + 1) L (.double (X.2 a i.toNatClampNeg) :: rest) T V X sz c n) : J l s0 D M R mc ms Q pc L (.int i :: .ref a :: rest) T V X sz c n := by
  intro p e s m args below meth cd H locs ls hC hH hl
  have hK := va_K.moved (hC.2.2.2.2.2.2.1.alike) hB.2.2.1
  have hat := (hH.2.2.2.2.1 a _ ht).2
  have hP : va_P D.1 vwCl [(a, .inl (D.2 2, len, .inr (.inr (.inr (.inl (X.2 a))))))] H := fun i x hx => by
    have hz : i < 1 := (List.getElem?_eq_some_iff.mp hx).1
    rw [show i = 0 by omega] at hx
    cases hx
    exact hat
  exact va_dald hC.1 hC.2.1 hK hP 0 2 rfl rfl (jin_of h0 h1) d (K p e s m args below meth cd H locs ls hC hH hl)
theorem j_aald {a len : Nat} {i : Int32} {f : Nat → Option Nat} (d : decode M.2.1 pc = .ok (.aaload, 1)) (hB : jB l s0 D) (ht : T a = some (.inr (.inr (len, f)))) (h0 : 0 ≤ i.toInt) (h1 : i.toInt < len) (K : J l s0 D M R mc ms Q (pc + 1) L (va_rf (f i.toNatClampNeg) :: rest) T V X sz c n) : J l s0 D M R mc ms Q pc L (.int i :: .ref a :: rest) T V X sz c n := by
  intro p e s m args below meth cd H locs ls hC hH hl
  have hK := va_K.moved (hC.2.2.2.2.2.2.1.alike) hB.2.2.1
  have hat := (hH.2.2.2.2.1 a _ ht).2
  have hP : va_P D.1 vwCl [(a, .inl (D.2 3, len, .inr (.inr (.inr (.inr f)))))] H := fun i x hx => by
    have hz : i < 1 := (List.getElem?_eq_some_iff.mp hx).1
    rw [show i = 0 by omega] at hx
    cases hx
    exact hat
  exact va_aldq hC.1 hC.2.1 hK hP 0 3 rfl rfl (jin_of h0 h1) d (K p e s m args below meth cd H locs ls hC hH hl)
theorem j_alen {a len : Nat} (d : decode M.2.1 pc = .ok (.arraylength, 1)) (hB : jB l s0 D) (ht : T a = some (.inr (.inl (0, len))) ∨ ∃ f, T a = some (.inr (.inr (len, f)))) (K : J l s0 D M R mc ms Q (pc + 1) L (.int (Int32.ofNat len) :: rest) T V X sz c n) : J l s0 D M R mc ms Q pc L (.ref a :: rest) T V X sz c n := by
  intro p e s m args below meth cd H locs ls hC hH hl
  have hK := va_K.moved (hC.2.2.2.2.2.2.1.alike) hB.2.2.1
  rcases ht with ht | ⟨f, ht⟩
  · have hat := (hH.2.2.2.2.1 a _ ht).2
    have hP : va_P D.1 vwCl [(a, .inl (D.2 0, len, .inl (V a)))] H := fun i x hx => by
      have hz : i < 1 := (List.getElem?_eq_some_iff.mp hx).1
      rw [show i = 0 by omega] at hx
      cases hx
      exact hat
    exact va_alen hC.1 hC.2.1 hK hP 0 0 rfl rfl rfl d (K p e s m args below meth cd H locs ls hC hH hl)
  · have hat := (hH.2.2.2.2.1 a _ ht).2
    have hP : va_P D.1 vwCl [(a, .inl (D.2 3, len, .inr (.inr (.inr (.inr f)))))] H := fun i x hx => by
      have hz : i < 1 := (List.getElem?_eq_some_iff.mp hx).1
      rw [show i = 0 by omega] at hx
      cases hx
      exact hat
    exact va_alen hC.1 hC.2.1 hK hP 0 3 rfl rfl rfl d (K p e s m args below meth cd H locs ls hC hH hl)

theorem j_iast {a len : Nat} {i : Int32} {v : Int32} (d : decode M.2.1 pc = .ok (.iastore, 1)) (hB : jB l s0 D) (ht : T a = some (.inr (.inl (0, len)))) (h0 : 0 ≤ i.toInt) (h1 : i.toInt < len) (K : J l s0 D M R mc ms Q (pc + 1) L rest T (jset V a i.toNatClampNeg v) X sz c n) : J l s0 D M R mc ms Q pc L (.int v :: .int i :: .ref a :: rest) T V X sz c n := by
  intro p e s m args below meth cd H locs ls hC hH hl
  have hK := va_K.moved (hC.2.2.2.2.2.2.1.alike) hB.2.2.1
  obtain ⟨g1, g2⟩ := hH.2.2.2.2.1 a _ ht
  have hin := jin_of h0 h1
  refine W.iast hC.1 hC.2.1 g2 ((hK.2 0 _ rfl).1 len (fun j => .int (V a j))) (fun q => by cases q) (by show ¬ (i < 0 ∨ (arrV _ _ _).slots.size ≤ _); rw [arrV_size]; exact hin) rfl rfl d fun H' e1 e2 e3 => ?_
  refine K p e s m args below meth cd H' _ ls hC (hH.one g1 e2 e3 (fun _ _ => rfl) (fun a h => jset_row h) (fun _ _ => ⟨rfl, rfl⟩) fun k' hk' => ?_) hl
  cases ht.symm.trans hk'
  show H'[a]? = some (vp_cell (D.2 0) (len, _))
  rw [e1]
  show some ((vp_cell (D.2 0) (len, _)).setSlot _ _) = _
  rw [vp_cell_i, vp_cell_i, arrV_store]
  congr 2
  funext q
  by_cases hq : q = i.toNatClampNeg
  · subst hq
    simp [updV, jset]
  · simp [updV, jset, hq]
theorem j_last {a len : Nat} {i : Int32} {v : Int64} (d : decode M.2.1 pc = .ok (.lastore, 1)) (hB : jB l s0 D) (ht : T a = some (.inr (.inl (1, len)))) (h0 : 0 ≤ i.toInt) (h1 : i.toInt < len) (K : J l s0 D M R mc ms Q (pc + 1) L rest T V (jset X.1 a i.toNatClampNeg v, X.2) sz c n) : J l s0 D M R mc ms Q pc L (.long v :: .int i :: .ref a :: rest) T V X sz c n := by
  intro p e s m args below meth cd H locs ls hC hH hl
  have hK := va_K.moved (hC.2.2.2.2.2.2.1.alike) hB.2.2.1
  obtain ⟨g1, g2⟩ := hH.2.2.2.2.1 a _ ht
  have hin := jin_of h0 h1
  refine W.last hC.1 hC.2.1 g2 ((hK.2 1 _ rfl).1 len (fun j => .long (X.1 a j))) (fun q => by cases q) (by show ¬ (i < 0 ∨ (arrV _ _ _).slots.size ≤ _); rw [arrV_size]; exact hin) rfl rfl d fun H' e1 e2 e3 => ?_
  refine K p e s m args below meth cd H' _ ls hC (hH.one g1 e2 e3 (fun _ _ => rfl) (fun _ _ => rfl) (fun a h => ⟨jset_row h, rfl⟩) fun k' hk' => ?_) hl
  cases ht.symm.trans hk'
  show H'[a]? = some (vp_cell (D.2 1) (len, _))
  rw [e1]
  show some ((vp_cell (D.2 1) (len, _)).setSlot _ _) = _
  rw [vp_cell_l, vp_cell_l, arrV_store]
  congr 2
  funext q
  by_cases hq : q = i.toNatClampNeg
  · subst hq
    simp [updV, jset]
  · simp [updV, jset, hq]
theorem j_dast {a len : Nat} {i : Int32} {v : UInt64} (d : decode M.2.1 pc = .ok (.dastore, 1)) (hB : jB l s0 D) (ht : T a = some (.inr (.inl (2, len)))) (h0 : 0 ≤ i.toInt) (h1 : i.toInt < len) (K : J l s0 D M R mc ms Q (pc + 1) L rest T V (X.1, jset X.2 a i.toNatClampNeg v) sz c n) : J l s0 D M R mc ms Q pc L (.double v :: .int i :: .ref a :: rest) T V X sz c n := by
  intro p e s m args below meth cd H locs ls hC hH hl
  have hK := va_K.moved (hC.2.2.2.2.2.2.1.alike) hB.2.2.1
  obtain ⟨g1, g2⟩ := hH.2.2.2.2.1 a _ ht
  have hin := jin_of h0 h1
  refine W.dast hC.1 hC.2.1 g2 ((hK.2 2 _ rfl).1 len (fun j => .double (X.2 a j))) (fun q => by cases q) (by show ¬ (i < 0 ∨ (arrV _ _ _).slots.size ≤ _); rw [arrV_size]; exact hin) rfl rfl d fun H' e1 e2 e3 => ?_
  refine K p e s m args below meth cd H' _ ls hC (hH.one g1 e2 e3 (fun _ _ => rfl) (fun _ _ => rfl) (fun a h => ⟨rfl, jset_row h⟩) fun k' hk' => ?_) hl
  cases ht.symm.trans hk'
  show H'[a]? = some (vp_cell (D.2 2) (len, _))
  rw [e1]
  show some ((vp_cell (D.2 2) (len, _)).setSlot _ _) = _
  rw [vp_cell_d, vp_cell_d, arrV_store]
  congr 2
  funext q
  by_cases hq : q = i.toNatClampNeg
  · subst hq
    simp [updV, jset]
  · simp [updV, jset, hq]
theorem j_iret {v : Int32} (d : decode M.2.1 pc = .ok (.ireturn, 1)) {rt : FieldType} (hr : M.2.2.2.1 = some rt) (hnr : narrow rt (.int v) = .int v) (hc : c ≤ mc) (hn : n ≤ ms) (hq : Q (.inl (some (.int v))) T V X sz) : J l s0 D M R mc ms Q pc L [.int v] T V X sz c n := by
  intro p e s m args below meth cd H locs ls hC hH hl
  have hlocks := hC.2.2.2.2.2.1
  exact vx_ret (W.widen hc hn (W.zret (v := v) hC.1 hC.2.1 (hC.2.2.2.1.trans hr) hnr (fun t ht hW => ⟨_, T, V, X, sz, rfl, hq, hH.wd ht⟩) hH.2.2.2.2.2.2 d hlocks))
theorem j_lret {v : Int64} (d : decode M.2.1 pc = .ok (.lreturn, 1)) (hr : M.2.2.2.1 = some .long) (hc : c ≤ mc) (hn : n ≤ ms) (hq : Q (.inl (some (.long v))) T V X sz) : J l s0 D M R mc ms Q pc L [.long v] T V X sz c n := by
  intro p e s m args below meth cd H locs ls hC hH hl
  have hlocks := hC.2.2.2.2.2.1
  exact vx_ret (W.widen hc hn (W.lret (v := v) hC.1 hC.2.1 (hC.2.2.2.1.trans hr) (fun t ht hW => ⟨_, T, V, X, sz, rfl, hq, hH.wd ht⟩) hH.2.2.2.2.2.2 d hlocks))
theorem j_fret {v : UInt32} (d : decode M.2.1 pc = .ok (.freturn, 1)) (hr : M.2.2.2.1 = some .float) (hc : c ≤ mc) (hn : n ≤ ms) (hq : Q (.inl (some (.float v))) T V X sz) : J l s0 D M R mc ms Q pc L [.float v] T V X sz c n := by
  intro p e s m args below meth cd H locs ls hC hH hl
  have hlocks := hC.2.2.2.2.2.1
  exact vx_ret (W.widen hc hn (W.fret (v := v) hC.1 hC.2.1 (hC.2.2.2.1.trans hr) (fun t ht hW => ⟨_, T, V, X, sz, rfl, hq, hH.wd ht⟩) hH.2.2.2.2.2.2 d hlocks))
theorem j_dret {v : UInt64} (d : decode M.2.1 pc = .ok (.dreturn, 1)) (hr : M.2.2.2.1 = some .double) (hc : c ≤ mc) (hn : n ≤ ms) (hq : Q (.inl (some (.double v))) T V X sz) : J l s0 D M R mc ms Q pc L [.double v] T V X sz c n := by
  intro p e s m args below meth cd H locs ls hC hH hl
  have hlocks := hC.2.2.2.2.2.1
  exact vx_ret (W.widen hc hn (W.dret (v := v) hC.1 hC.2.1 (hC.2.2.2.1.trans hr) (fun t ht hW => ⟨_, T, V, X, sz, rfl, hq, hH.wd ht⟩) hH.2.2.2.2.2.2 d hlocks))
theorem j_vret (d : decode M.2.1 pc = .ok (.return_, 1)) (hr : M.2.2.2.1 = none) (hc : c ≤ mc) (hn : n ≤ ms) (hq : Q (.inl none) T V X sz) : J l s0 D M R mc ms Q pc L [] T V X sz c n := by
  intro p e s m args below meth cd H locs ls hC hH hl
  have hlocks := hC.2.2.2.2.2.1
  exact vx_ret (W.widen hc hn (W.vret hC.1 hC.2.1 (hC.2.2.2.1.trans hr) (fun t ht hW => ⟨_, T, V, X, sz, rfl, hq, hH.wd ht⟩) hH.2.2.2.2.2.2 d hlocks))
theorem j_aret {r : Option Nat} {rt : FieldType} (d : decode M.2.1 pc = .ok (.areturn, 1)) (hr : M.2.2.2.1 = some rt) (hrt : (∃ n, rt = .object n) ∨ ∃ t, rt = .array t) (hc : c ≤ mc) (hn : n ≤ ms) (hq : Q (.inl (some (va_rf r))) T V X sz) : J l s0 D M R mc ms Q pc L [va_rf r] T V X sz c n := by
  intro p e s m args below meth cd H locs ls hC hH hl
  have hlocks := hC.2.2.2.2.2.1
  exact vx_ret (W.widen hc hn (W.aret hC.1 hC.2.1 (hC.2.2.2.1.trans hr) hrt (by cases r with | none => exact Or.inl rfl | some a => exact Or.inr ⟨a, rfl⟩) (fun t ht hW => ⟨_, T, V, X, sz, rfl, hq, hH.wd ht⟩) hH.2.2.2.2.2.2 d hlocks))
end JF
end
section
/-! THE ROWS: calls, throws, what is made -/
section JG
variable {l : Launch} {s0 : State} {D : jD} {M : jM} {R : Room} {mc ms : Nat} {Q : jQ} {pc : Nat} {L : List (Nat × Value)} {st rest : List Value} {T : jT} {V : jV} {X : jX} {sz c n : Nat}
/-- what the tables say of a method that is called by its object -/
def jmV (M2 : jM) (na : Nat) : Prop := M2.2.2.2.2 = [] ∧ Cond.code M2.1 M2.2.1 M2.2.2.1 M2.2.2.2.1 ∈ lw_tbl ∧ Cond.instanceMethod M2.1 ∈ lw_tbl ∧ Cond.selects M2.1.cls M2.1 M2.1 ∈ lw_tbl ∧ Cond.initialized M2.1.cls ∈ lw_tbl ∧ (M2.1.cls ≠ "java/lang/invoke/MethodHandle" ∧ M2.1.cls ≠ "java/lang/invoke/VarHandle") ∧ (parseMethodDescriptor M2.1.desc).map (fun d => d.parameters.length) = some na
/-- .. statically -/
def jmS (M2 : jM) (na : Nat) : Prop := M2.2.2.2.2 = [] ∧ Cond.code M2.1 M2.2.1 M2.2.2.1 M2.2.2.2.1 ∈ lw_tbl ∧ Cond.static M2.1 ∈ lw_tbl ∧ Cond.initialized M2.1.cls ∈ lw_tbl ∧ (M2.1.cls ≠ "java/lang/invoke/MethodHandle" ∧ M2.1.cls ≠ "java/lang/invoke/VarHandle") ∧ (parseMethodDescriptor M2.1.desc).map (fun d => d.parameters.length) = some na
/-- .. statically, with a table of handlers -/
def jmH (M2 : jM) (na : Nat) : Prop := Cond.codeWith M2.1 M2.2.1 M2.2.2.1 M2.2.2.2.1 M2.2.2.2.2 ∈ lw_tbl ∧ Cond.static M2.1 ∈ lw_tbl ∧ Cond.initialized M2.1.cls ∈ lw_tbl ∧ (M2.1.cls ≠ "java/lang/invoke/MethodHandle" ∧ M2.1.cls ≠ "java/lang/invoke/VarHandle") ∧ (parseMethodDescriptor M2.1.desc).map (fun d => d.parameters.length) = some na
/-- .. a constructor -/
def jmI (M2 : jM) (na : Nat) : Prop := M2.2.2.2.2 = [] ∧ Cond.code M2.1 M2.2.1 M2.2.2.1 none ∈ lw_tbl ∧ M2.2.2.2.1 = none ∧ M2.1.name = "<init>" ∧ Cond.instanceMethod M2.1 ∈ lw_tbl ∧ Cond.initialized M2.1.cls ∈ lw_tbl ∧ (M2.1.cls ≠ "java/lang/invoke/MethodHandle" ∧ M2.1.cls ≠ "java/lang/invoke/VarHandle") ∧ (parseMethodDescriptor M2.1.desc).map (fun d => d.parameters.length) = some na
/-- the room that a call asks -/
def jrm (R R2 : Room) (mc2 ms2 nL : Nat) : Prop := R2.cells = mc2 ∧ R2.slots = ms2 ∧ R2.frames + 1 ≤ R.frames ∧ 8 + (nL + 11) + R2.locals ≤ R.locals
theorem jlen {y : MethodName} {na : Nat} (h : (parseMethodDescriptor y.desc).map (fun d => d.parameters.length) = some na) : ∀ sig, parseMethodDescriptor y.desc = some sig → na = sig.parameters.length := by
  intro sig h9
  rw [h9] at h
  exact (Option.some.inj h).symm
theorem j_size {s : State} {T : State} {p : Program} {e : Env} {m : MethodId} {args : Array Value} {below : List Frame} {meth : Method} {cd : Code} {locs : List Loc} (X : Stand p l e R s m args below meth cd T locs c n) : s.heap.size ≤ T.heap.size := X.same.2.1
/-- behind a call that returns or throws -/
theorem j_run {p : Program} {e : Env} {s : State} {m : MethodId} {args : Array Value} {below : List Frame} {meth : Method} {cd : Code} {H : Heap} {locs : List Loc} {ls : Array Slot} {a : Array Value} {mc2 ms2 : Nat} {Q2 : jQ} (hC : jC s0 M p e s m args meth cd) (hH : jH s0 D s T V X sz H locs) (hl : lv_has ls M.2.2.1 L)
    (hr : vx_Run p l e R s m args below meth cd H locs c n mc2 ms2 (F0 m pc ls st) rest (jQc s0 D Q2 a) (jXC s0 D Q2) (jA s0))
    (K : ∀ v T' V' X' sz', Q2 (.inl v) T' V' X' sz' → J l s0 D M R mc ms Q (pc + 3) L (v.toList ++ rest) T' V' X' sz' (c + mc2) (n + ms2))
    (KX : ∀ E T' V' X' sz', Q2 (.inr E) T' V' X' sz' → JX l s0 D M R mc ms Q pc L E T' V' X' sz' (c + mc2) (n + ms2)) :
    W p l e R s m args below meth cd H locs c n (vx_MQ below (jQc s0 D Q) (jXC s0 D Q) args s mc ms (jA s0)) (F0 m pc ls st) := by
  intro T0 hT0 X0
  have hz : ∀ (T' t : State) (L' : List Loc) (T2 : jT) (V2 : jV) (X2 : jX) (sz2 : Nat), Stand p l e R s m args below meth cd T' (locs ++ L') (c + mc2) (n + ms2) → (∀ q ∈ L', jA s0 q.base) → T'.heap = t.heap → jWd s0 D T2 V2 X2 sz2 t → jH s0 D s T2 V2 X2 sz2 T'.heap (locs ++ L') := by
    intro T' t L' T2 V2 X2 sz2 X' hL e1 hw
    obtain ⟨w1, w2, w3, w4⟩ := hw
    rw [← e1] at w1 w2 w3 w4
    refine ⟨hH.1, j_size X', hH.2.2.1, w2, w3, w4, fun z hz => ?_⟩
    rcases List.mem_append.mp hz with h | h
    · exact hH.2.2.2.2.2.2 z h
    · exact hL z h
  rcases hr T0 hT0 X0 with ⟨v, st₀, t, T', L', h0, X', hL, e1, e2, ⟨v', T2, V2, X2, sz2, hv, hq, hw⟩, stp⟩ | ⟨q, st₀, t, T', L', E, ce, h0, X', hL, e1, e2, ⟨T2, V2, X2, sz2, hq, hw⟩, hce, hcv, hcl, stp⟩
  · cases hv
    obtain ⟨t2, a1, b1⟩ := K v T2 V2 X2 sz2 hq p e s m args below meth cd T'.heap (locs ++ L') ls hC (hz T' t L' T2 V2 X2 sz2 X' hL e1 hw) hl T' rfl X'
    exact ⟨t2, stp t2 a1, b1⟩
  · obtain ⟨t2, a1, b1⟩ := KX E T2 V2 X2 sz2 hq p e s m args below meth cd T'.heap (locs ++ L') ls rest q ce hC (hz T' t L' T2 V2 X2 sz2 X' hL e1 hw) hl (by rw [e1]; exact hce) hcv hcl T' rfl X'
    exact ⟨t2, stp.trans a1, b1⟩
/-- not caught in a method without a table -/
theorem JX.out {E : String} (hh : M.2.2.2.2 = []) (hc : c ≤ mc) (hn : n ≤ ms) (hq : Q (.inr E) T V X sz) : JX l s0 D M R mc ms Q pc L E T V X sz c n := by
  intro p e s m args below meth cd H locs ls rest q ce hC hH hl hce hcv hcl
  have ht : cd.exceptionTable.toList = tableOf M.2.2.2.2 := hC.2.2.2.2.2.2.2.2
  exact vx_out (fun x hx => by rw [ht, hh] at hx; cases hx) hC.2.2.2.2.2.1 hce hcv hcl (fun t ht _ => ⟨T, V, X, sz, hq, hH.wd ht⟩) hH.2.2.2.2.2.2 hc hn
/-- a receiver -/
theorem j_recv {s : State} {H : Heap} {locs : List Loc} {b ci : Nat} {fs : List (Nat ⊕ Option Nat)} {r : vw_C} (hB : jB l s0 D) (hW : s0.WarmedH s.vm) (hH : jH s0 D s T V X sz H locs) (ht : T b = some (.inl (ci, fs))) (hc : vwCl[ci]? = some r) : ∃ cell : Cell, H[b]? = some cell ∧ cell.vm.isStatics = false ∧ s.vm.findClass r.1 = some cell.cls := by
  have hK := va_K.moved (hW.alike) hB.2.2.1
  obtain ⟨r', h1, cell, g1, g2, g3, -⟩ := (hH.2.2.2.2.1 b _ ht).2
  cases h1.symm.trans hc
  exact ⟨cell, g1, by rw [g3]; rfl, by rw [g2]; exact (hK.1 ci r hc).2.1⟩
/-- a method is called on its object -/
theorem j_callV {M2 : jM} {R2 : Room} {mc2 ms2 idx ci b na : Nat} {as : List Value} {fs : List (Nat ⊕ Option Nat)} {r : vw_C} {Q2 : jQ} (d : decode M.2.1 pc = .ok (.invokevirtual idx, 3)) (hB : jB l s0 D) (hm : jmV M2 na) (hlk : Cond.methodLink M.1.cls idx M2.1 ∈ lw_tbl) (sp : Sp l s0 D M2 R2 mc2 ms2 (.ref b :: as) T V X sz Q2) (ht : T b = some (.inl (ci, fs))) (hc : vwCl[ci]? = some r) (hr : r.1 = M2.1.cls) (hn : as.length = na) (hst : st = as.reverse ++ .ref b :: rest) (hrm : jrm R R2 mc2 ms2 M2.2.2.1) (hcat : (rest.map fun v => v.category).sum ≤ 8) (hf : c + mc2 ≤ R.cells ∧ n + ms2 ≤ R.slots)
    (K : ∀ v T' V' X' sz', Q2 (.inl v) T' V' X' sz' → J l s0 D M R mc ms Q (pc + 3) L (v.toList ++ rest) T' V' X' sz' (c + mc2) (n + ms2))
    (KX : ∀ E T' V' X' sz', Q2 (.inr E) T' V' X' sz' → JX l s0 D M R mc ms Q pc L E T' V' X' sz' (c + mc2) (n + ms2)) : J l s0 D M R mc ms Q pc L st T V X sz c n := by
  intro p e s m args below meth cd H locs ls hC hH hl
  have hW := hC.2.2.2.2.2.2.1
  obtain ⟨m1, m2, m3, m4, m5, m6, m7⟩ := hm
  have hs : ∀ U : State, s.WarmedH U.vm → s0.WarmedH U.vm := fun U h => State.WarmedH.trans hW h
  have hcall : vx_Run p l e R s m args below meth cd H locs c n mc2 ms2 (F0 m pc ls st) rest (jQc s0 D Q2 (Value.ref b :: as).toArray) (jXC s0 D Q2) (jA s0) :=
    vx_runV (As := as) (b := b) (C := M2.1.cls) (Ts := []) (own := M.1.cls) (cc := M.2.1) (nL := M.2.2.1) ⟨hC.1, hC.2.1, hC.2.2.1, hC.2.2.2.2.1, fun w hw => by cases hw⟩ sp
      ⟨⟨hrm.1, hrm.2.1, hrm.2.2.1, hrm.2.2.2, fun w hw a' U hU => by
        rw [List.mem_singleton.mp hw]; exact hB.word (hs U hU) m2 rfl a', List.mem_singleton.mpr rfl, hB.word hW m2 rfl args, hB.word hW m5 rfl args, m6, jlen m7, hB.word hW hlk rfl args⟩, hB.word hW m3 rfl args, hB.word hW m4 rfl args⟩
      ⟨fun _ _ _ _ q => q, by rw [← hr]; exact j_recv hB hW hH ht hc, fun U hU hWU => ⟨rfl, hs U hWU, hH.wd hU⟩⟩ rfl hn hl.1 hst (lv_room hcat) d hf
  exact j_run hC hH hl hcall K KX
theorem j_callS {M2 : jM} {R2 : Room} {mc2 ms2 idx na : Nat} {as : List Value} {Q2 : jQ} (d : decode M.2.1 pc = .ok (.invokestatic idx, 3)) (hB : jB l s0 D) (hm : jmS M2 na) (hlk : Cond.methodLink M.1.cls idx M2.1 ∈ lw_tbl) (sp : Sp l s0 D M2 R2 mc2 ms2 as T V X sz Q2) (hn : as.length = na) (hst : st = as.reverse ++ rest) (hrm : jrm R R2 mc2 ms2 M2.2.2.1) (hcat : (rest.map fun v => v.category).sum ≤ 8) (hf : c + mc2 ≤ R.cells ∧ n + ms2 ≤ R.slots)
    (K : ∀ v T' V' X' sz', Q2 (.inl v) T' V' X' sz' → J l s0 D M R mc ms Q (pc + 3) L (v.toList ++ rest) T' V' X' sz' (c + mc2) (n + ms2))
    (KX : ∀ E T' V' X' sz', Q2 (.inr E) T' V' X' sz' → JX l s0 D M R mc ms Q pc L E T' V' X' sz' (c + mc2) (n + ms2)) : J l s0 D M R mc ms Q pc L st T V X sz c n := by
  intro p e s m args below meth cd H locs ls hC hH hl
  have hW := hC.2.2.2.2.2.2.1
  obtain ⟨m1, m2, m3, m5, m6, m7⟩ := hm
  have hs : ∀ U : State, s.WarmedH U.vm → s0.WarmedH U.vm := fun U h => State.WarmedH.trans hW h
  have hcall : vx_Run p l e R s m args below meth cd H locs c n mc2 ms2 (F0 m pc ls st) rest (jQc s0 D Q2 as.toArray) (jXC s0 D Q2) (jA s0) :=
    vx_runS (As := as) (Ts := []) (own := M.1.cls) (cc := M.2.1) (nL := M.2.2.1) ⟨hC.1, hC.2.1, hC.2.2.1, hC.2.2.2.2.1, fun w hw => by cases hw⟩ sp
      ⟨⟨hrm.1, hrm.2.1, hrm.2.2.1, hrm.2.2.2, fun w hw a' U hU => by
        rw [List.mem_singleton.mp hw]; exact hB.word (hs U hU) m2 rfl a', List.mem_singleton.mpr rfl, hB.word hW m2 rfl args, hB.word hW m5 rfl args, m6, jlen m7, hB.word hW hlk rfl args⟩, hB.word hW m3 rfl args⟩
      ⟨fun _ _ _ _ q => q, fun U hU hWU => ⟨rfl, hs U hWU, hH.wd hU⟩⟩ rfl hn hl.1 hst (lv_room hcat) d hf
  exact j_run hC hH hl hcall K KX
/-- .. that has a table of handlers -/
theorem j_callH {M2 : jM} {R2 : Room} {mc2 ms2 idx na : Nat} {as : List Value} {Q2 : jQ} (d : decode M.2.1 pc = .ok (.invokestatic idx, 3)) (hB : jB l s0 D) (hm : jmH M2 na) (hlk : Cond.methodLink M.1.cls idx M2.1 ∈ lw_tbl) (sp : SpH l s0 D M2 R2 mc2 ms2 as T V X sz Q2) (hn : as.length = na) (hst : st = as.reverse ++ rest) (hrm : jrm R R2 mc2 ms2 M2.2.2.1) (hcat : (rest.map fun v => v.category).sum ≤ 8) (hf : c + mc2 ≤ R.cells ∧ n + ms2 ≤ R.slots)
    (K : ∀ v T' V' X' sz', Q2 (.inl v) T' V' X' sz' → J l s0 D M R mc ms Q (pc + 3) L (v.toList ++ rest) T' V' X' sz' (c + mc2) (n + ms2))
    (KX : ∀ E T' V' X' sz', Q2 (.inr E) T' V' X' sz' → JX l s0 D M R mc ms Q pc L E T' V' X' sz' (c + mc2) (n + ms2)) : J l s0 D M R mc ms Q pc L st T V X sz c n := by
  intro p e s m args below meth cd H locs ls hC hH hl
  have hW := hC.2.2.2.2.2.2.1
  obtain ⟨m2, m3, m5, m6, m7⟩ := hm
  have hs : ∀ U : State, s.WarmedH U.vm → s0.WarmedH U.vm := fun U h => State.WarmedH.trans hW h
  have hcall : vx_Run p l e R s m args below meth cd H locs c n mc2 ms2 (F0 m pc ls st) rest (jQc s0 D Q2 as.toArray) (jXC s0 D Q2) (jA s0) :=
    vx_runSX (hh := M2.2.2.2.2) (bytes := M2.2.1) (maxL := M2.2.2.1) (ret := M2.2.2.2.1) (As := as) (Ts := []) (own := M.1.cls) (cc := M.2.1) (nL := M.2.2.1) ⟨hC.1, hC.2.1, hC.2.2.1, hC.2.2.2.2.1, fun w hw => by cases hw⟩ sp
      ⟨⟨hrm.1, hrm.2.1, hrm.2.2.1, hrm.2.2.2, fun w hw a' U hU => by
        rw [List.mem_singleton.mp hw]; exact hB.word (hs U hU) m2 rfl a', List.mem_singleton.mpr rfl⟩, hB.word hW m2 rfl args, hB.word hW m5 rfl args, m6, jlen m7, hB.word hW hlk rfl args, hB.word hW m3 rfl args⟩
      ⟨fun _ _ _ _ q => q, fun U hU hWU => ⟨rfl, hs U hWU, hH.wd hU⟩⟩ rfl hn hl.1 hst (lv_room hcat) d hf
  exact j_run hC hH hl hcall K KX
/-- a constructor -/
theorem j_callI {M2 : jM} {R2 : Room} {mc2 ms2 idx b na : Nat} {as : List Value} {Q2 : jQ} (d : decode M.2.1 pc = .ok (.invokespecial idx, 3)) (hB : jB l s0 D) (hm : jmI M2 na) (hlk : Cond.methodLink M.1.cls idx M2.1 ∈ lw_tbl) (sp : Sp l s0 D M2 R2 mc2 ms2 (.ref b :: as) T V X sz Q2) (hn : as.length = na) (hst : st = as.reverse ++ .ref b :: rest) (hrm : jrm R R2 mc2 ms2 M2.2.2.1) (hcat : (rest.map fun v => v.category).sum ≤ 8) (hf : c + mc2 ≤ R.cells ∧ n + ms2 ≤ R.slots)
    (K : ∀ v T' V' X' sz', Q2 (.inl v) T' V' X' sz' → J l s0 D M R mc ms Q (pc + 3) L (v.toList ++ rest) T' V' X' sz' (c + mc2) (n + ms2))
    (KX : ∀ E T' V' X' sz', Q2 (.inr E) T' V' X' sz' → JX l s0 D M R mc ms Q pc L E T' V' X' sz' (c + mc2) (n + ms2)) : J l s0 D M R mc ms Q pc L st T V X sz c n := by
  intro p e s m args below meth cd H locs ls hC hH hl
  have hW := hC.2.2.2.2.2.2.1
  obtain ⟨m1, m2, mr, mi, m3, m5, m6, m7⟩ := hm
  have hs : ∀ U : State, s.WarmedH U.vm → s0.WarmedH U.vm := fun U h => State.WarmedH.trans hW h
  have sp' : vx_Met l M2.1 [Cond.code M2.1 M2.2.1 M2.2.2.1 none] R2 (fun v U => v = (Value.ref b :: as).toArray ∧ s0.WarmedH U.vm ∧ jWd s0 D T V X sz U) (jQc s0 D Q2) (jXC s0 D Q2) mc2 ms2 (jA s0) := by
    have := sp
    unfold Sp at this
    rw [mr] at this
    exact this
  have hcall : vx_Run p l e R s m args below meth cd H locs c n mc2 ms2 (F0 m pc ls st) rest (jQc s0 D Q2 (Value.ref b :: as).toArray) (jXC s0 D Q2) (jA s0) :=
    vx_runI (bytes := M2.2.1) (maxL := M2.2.2.1) (As := as) (b := b) (Ts := []) (own := M.1.cls) (cc := M.2.1) (nL := M.2.2.1) ⟨hC.1, hC.2.1, hC.2.2.1, hC.2.2.2.2.1, fun w hw => by cases hw⟩ sp'
      ⟨⟨hrm.1, hrm.2.1, hrm.2.2.1, hrm.2.2.2, fun w hw a' U hU => by
        rw [List.mem_singleton.mp hw]; exact hB.word (hs U hU) m2 rfl a', List.mem_singleton.mpr rfl, hB.word hW m2 rfl args, hB.word hW m5 rfl args, m6, jlen m7, hB.word hW hlk rfl args⟩, mi, hB.word hW m3 rfl args⟩
      ⟨fun _ _ _ _ q => q, fun U hU hWU => ⟨rfl, hs U hWU, hH.wd hU⟩⟩ rfl hn hl.1 hst (lv_room hcat) d hf
  exact j_run hC hH hl hcall K KX
/-- Object() -/
theorem j_objInit {idx a : Nat} (d : decode M.2.1 pc = .ok (.invokespecial idx, 3)) (hB : jB l s0 D) (hlk : Cond.methodLink M.1.cls idx objectInit ∈ lw_tbl) (h2 : Cond.instanceMethod objectInit ∈ lw_tbl) (h3 : Cond.code objectInit ⟨#[0xb1]⟩ 1 none ∈ lw_tbl) (hR : 1 ≤ R.frames) (hR2 : (rest.map fun v => v.category).sum + 12 ≤ R.locals) (K : J l s0 D M R mc ms Q (pc + 3) L rest T V X sz c n) : J l s0 D M R mc ms Q pc L (.ref a :: rest) T V X sz c n := by
  intro p e s m args below meth cd H locs ls hC hH hl
  have hW := hC.2.2.2.2.2.2.1
  refine W.objInit hC.1 hC.2.1 hC.2.2.2.2.1 (hB.word hW hlk rfl args) (hB.word hW h2 rfl args) (hB.word hW h3 rfl args) rfl (by show ls.size = _; rw [hl.1]; exact hC.2.2.1.symm) rfl d hR ?_ (K p e s m args below meth cd H locs ls hC hH hl)
  show 2 * 0 + _ + 12 ≤ _
  omega
end JG
end
section
/-! THE ROWS: objects and rows that are made, throws, handlers, Math -/
section JM
variable {l : Launch} {s0 : State} {D : jD} {M : jM} {R : Room} {mc ms : Nat} {Q : jQ} {pc : Nat} {L : List (Nat × Value)} {st rest : List Value} {T : jT} {V : jV} {X : jX} {sz c n : Nat}
/-- the numbers of one address all zero -/
def jz {α : Type} (V : Nat → Nat → α) (q : Nat) (z : α) : Nat → Nat → α := fun a i => if a = q then z else V a i
theorem jz_at {α : Type} {V : Nat → Nat → α} {q i : Nat} {z : α} : jz V q z q i = z := by simp [jz]
theorem jz_row {α : Type} {V : Nat → Nat → α} {q : Nat} {z : α} : jz V q z q = fun _ => z := funext fun i => by simp [jz]
theorem jz_ne {α : Type} {V : Nat → Nat → α} {q a : Nat} {z : α} (h : a ≠ q) : jz V q z a = V a := funext fun i => by simp [jz, h]
/-- what a field of this kind holds at first -/
def jdv : Nat ⊕ Option Nat → Value
  | .inl 0 => .int 0
  | .inl _ => .long 0
  | .inr r => va_rf r
/-- a world with one cell more -/
theorem jH.more {s : State} {k : jK} {H H' : Heap} {locs : List Loc} {V' : jV} {X' : jX} (h : jH s0 D s T V X sz H locs) (z : H'.size = H.size + 1) (oq : ∀ q, q < H.size → H'[q]? = H[q]?) (hV : ∀ q, q ≠ sz → V' q = V q) (hX : ∀ q, q ≠ sz → X'.1 q = X.1 q ∧ X'.2 q = X.2 q) (hat : va_at D.1 vwCl (sz, j_E D.2 V' X' sz k) H') : jH s0 D s (jup T sz k) V' X' (sz + 1) H' locs := by
  obtain ⟨h1, h2, h3, h4, h5, h6, h7⟩ := h
  subst h6
  refine ⟨h1, by rw [z]; omega, h3, fun q hq => ?_, fun q k' hq => ?_, by rw [z], h7⟩
  · rw [oq q (by omega)]; exact h4 q hq
  · by_cases e : q = H.size
    · subst e
      rw [jup_eq] at hq
      cases hq
      exact ⟨by omega, hat⟩
    · rw [jup_ne e] at hq
      obtain ⟨g1, g2⟩ := h5 q k' hq
      refine ⟨g1, ?_⟩
      rw [j_E_congr (hV q e) (hX q e).1 (hX q e).2]
      exact g2.kept (oq q (va_at.lt g2))
/-- where a class is linked and made -/
def jln (own : String) (idx ci : Nat) (fs0 : List (Nat ⊕ Option Nat)) : Prop := ∃ r : vw_C, vwCl[ci]? = some r ∧ (∀ w ∈ u_ws r.1 r.2.1 r.2.2, w ∈ lw_tbl ∧ goodWord w = true) ∧ Cond.classLink own idx r.1 ∈ lw_tbl ∧ Cond.instantiable r.1 r.2.2 ∈ lw_tbl ∧ Cond.initialized r.1 ∈ lw_tbl ∧ fs0.length = r.2.2 ∧ (∀ k, k < r.2.2 → (parseFieldDescriptor (r.2.1 k).2.2.1).map defaultValue = (fs0[k]?).map jdv ∧ (fs0[k]?).isSome = true)
theorem j_fs_def {V : jV} {X : jX} {q : Nat} (hV : ∀ i, V q i = 0) (hX : ∀ i, X.1 q i = 0) {fs : List (Nat ⊕ Option Nat)} {k : Nat} {f : Nat ⊕ Option Nat} (h : fs[k]? = some f) : vp_V (j_fs V X q 0 fs) k = jdv f := by
  have := j_fs_get V X q fs 0 k f h
  rw [Nat.zero_add] at this
  unfold vp_V
  rw [List.getD_eq_getElem?_getD, this]
  rcases f with (_ | n) | r
  · show Value.int (V q k) = .int 0; rw [hV]
  · show Value.long (X.1 q k) = .long 0; rw [hX]
  · rfl
theorem j_new {idx ci : Nat} {fs0 : List (Nat ⊕ Option Nat)} (d : decode M.2.1 pc = .ok (.new idx, 3)) (hB : jB l s0 D) (hlk : jln M.1.cls idx ci fs0) (hc : c + 1 ≤ R.cells) (hn : n + fs0.length ≤ R.slots) (K : J l s0 D M R mc ms Q (pc + 3) L (.ref sz :: rest) (jup T sz (.inl (ci, fs0))) (jz V sz 0) (jz X.1 sz 0, X.2) (sz + 1) (c + 1) (n + fs0.length)) : J l s0 D M R mc ms Q pc L rest T V X sz c n := by
  intro p e s m args below meth cd H locs ls hC hH hl
  obtain ⟨r, h1, h2, h3, h4, h5, h6, h7⟩ := hlk
  obtain ⟨C, TT, N⟩ := r
  have hW := hC.2.2.2.2.2.2.1
  have hK := va_K.moved (hW.alike) hB.2.2.1
  have hts : ∀ w ∈ u_ws C TT N, w.before args s = true := fun w hw => hB.word hW (h2 w hw).1 (h2 w hw).2 args
  have hKn := hK.1 ci _ h1
  have hsz : H.size = sz := hH.2.2.2.2.2.1
  have hty0 : ∃ ty0 : Nat → FieldType, ∀ k, k < N → parseFieldDescriptor (TT k).2.2.1 = some (ty0 k) := by
    refine ⟨fun k => (parseFieldDescriptor (TT k).2.2.1).getD .int, fun k hk => ?_⟩
    obtain ⟨a1, a2⟩ := h7 k hk
    cases hp : parseFieldDescriptor (TT k).2.2.1 with
    | some t => show some t = some ((parseFieldDescriptor (TT k).2.2.1).getD .int); rw [hp]; rfl
    | none =>
      have e9 : (none : Option FieldType).map defaultValue = (fs0[k]?).map jdv := by rw [← hp]; exact a1
      cases hf : fs0[k]? with
      | none => rw [hf] at a2; cases a2
      | some f => rw [hf] at e9; cases e9
  obtain ⟨ty0, hty0⟩ := hty0
  have h6 : fs0.length = N := h6
  rw [h6] at K hn
  refine W.newcK hC.1 hC.2.1 hC.2.2.2.2.1 (hB.word hW h3 rfl args) (hB.word hW h4 rfl args) (hB.word hW h5 rfl args) rfl d hc hn hKn.2.1 hsz fun H1 kC hkC e1 z1 o1 => ?_
  refine K p e s m args below meth cd H1 locs ls hC (hH.more (by rw [z1, hsz]) (fun q hq => o1 q (by omega)) (fun q hq => jz_ne hq) (fun q hq => ⟨jz_ne hq, rfl⟩) ?_) hl
  refine ⟨_, h1, (u_born ty0 hts (fun w hw => hw) hKn hkC e1 hty0).to fun k hk => ?_⟩
  obtain ⟨a1, a2⟩ := h7 k hk
  have a3 : (some (ty0 k)).map defaultValue = (fs0[k]?).map jdv := by rw [← hty0 k hk]; exact a1
  cases hf : fs0[k]? with
  | none => rw [hf] at a2; cases a2
  | some f =>
    rw [hf] at a3
    rw [j_fs_def (fun i => jz_at) (fun i => jz_at) hf]
    exact Option.some.inj a3
theorem j_newi {v : Int32} {N : Nat} (d : decode M.2.1 pc = .ok (.newarray .int, 2)) (hB : jB l s0 D) (hA : Cond.arrayClass .int ∈ lw_tbl) (hv : v.toInt = N) (hN : N ≤ 100000) (hc : c + 1 ≤ R.cells) (hn : n + N ≤ R.slots) (K : J l s0 D M R mc ms Q (pc + 2) L (.ref sz :: rest) (jup T sz (.inr (.inl (0, N)))) (jz V sz 0) X (sz + 1) (c + 1) (n + N)) : J l s0 D M R mc ms Q pc L (.int v :: rest) T V X sz c n := by
  intro p e s m args below meth cd H locs ls hC hH hl
  have hW := hC.2.2.2.2.2.2.1
  have hK := va_K.moved (hW.alike) hB.2.2.1
  have hsz : H.size = sz := hH.2.2.2.2.2.1
  have hneg : ¬ v < 0 := fun h => by have := ti_lt h; rw [ti_0] at this; omega
  have hcl : v.toNatClampNeg = N := by rw [← Int32.toNat_toInt]; omega
  refine va_newaK (atype := .int) hC.1 hC.2.1 (hB.word hW hA rfl args) rfl d rfl hneg hcl (by show N * 4 ≤ _; omega) hc hn hsz fun H1 cA e1 z1 o1 hAr hNm => ?_
  have hcA : cA = D.2 0 := Option.some.inj (hNm.symm.trans (hK.2 0 _ rfl).2)
  subst hcA
  refine K p e s m args below meth cd H1 locs ls hC (hH.more (by rw [z1, hsz]) (fun q hq => o1 q (by omega)) (fun q hq => jz_ne hq) (fun q hq => ⟨rfl, rfl⟩) ?_) hl
  show H1[sz]? = some (vp_cell (D.2 0) (N, .inl (jz V sz 0 sz)))
  rw [e1, jz_row]; rfl
theorem j_newl {v : Int32} {N : Nat} (d : decode M.2.1 pc = .ok (.newarray .long, 2)) (hB : jB l s0 D) (hA : Cond.arrayClass .long ∈ lw_tbl) (hv : v.toInt = N) (hN : N ≤ 100000) (hc : c + 1 ≤ R.cells) (hn : n + N ≤ R.slots) (K : J l s0 D M R mc ms Q (pc + 2) L (.ref sz :: rest) (jup T sz (.inr (.inl (1, N)))) V (jz X.1 sz 0, X.2) (sz + 1) (c + 1) (n + N)) : J l s0 D M R mc ms Q pc L (.int v :: rest) T V X sz c n := by
  intro p e s m args below meth cd H locs ls hC hH hl
  have hW := hC.2.2.2.2.2.2.1
  have hK := va_K.moved (hW.alike) hB.2.2.1
  have hsz : H.size = sz := hH.2.2.2.2.2.1
  have hneg : ¬ v < 0 := fun h => by have := ti_lt h; rw [ti_0] at this; omega
  have hcl : v.toNatClampNeg = N := by rw [← Int32.toNat_toInt]; omega
  refine va_newaK (atype := .long) hC.1 hC.2.1 (hB.word hW hA rfl args) rfl d rfl hneg hcl (by show N * 8 ≤ _; omega) hc hn hsz fun H1 cA e1 z1 o1 hAr hNm => ?_
  have hcA : cA = D.2 1 := Option.some.inj (hNm.symm.trans (hK.2 1 _ rfl).2)
  subst hcA
  refine K p e s m args below meth cd H1 locs ls hC (hH.more (by rw [z1, hsz]) (fun q hq => o1 q (by omega)) (fun q hq => rfl) (fun q hq => ⟨jz_ne hq, rfl⟩) ?_) hl
  show H1[sz]? = some (vp_cell (D.2 1) (N, .inr (.inl (jz X.1 sz 0 sz))))
  rw [e1, jz_row]; rfl
theorem j_newd {v : Int32} {N : Nat} (d : decode M.2.1 pc = .ok (.newarray .double, 2)) (hB : jB l s0 D) (hA : Cond.arrayClass .double ∈ lw_tbl) (hv : v.toInt = N) (hN : N ≤ 100000) (hc : c + 1 ≤ R.cells) (hn : n + N ≤ R.slots) (K : J l s0 D M R mc ms Q (pc + 2) L (.ref sz :: rest) (jup T sz (.inr (.inl (2, N)))) V (X.1, jz X.2 sz 0) (sz + 1) (c + 1) (n + N)) : J l s0 D M R mc ms Q pc L (.int v :: rest) T V X sz c n := by
  intro p e s m args below meth cd H locs ls hC hH hl
  have hW := hC.2.2.2.2.2.2.1
  have hK := va_K.moved (hW.alike) hB.2.2.1
  have hsz : H.size = sz := hH.2.2.2.2.2.1
  have hneg : ¬ v < 0 := fun h => by have := ti_lt h; rw [ti_0] at this; omega
  have hcl : v.toNatClampNeg = N := by rw [← Int32.toNat_toInt]; omega
  refine va_newaK (atype := .double) hC.1 hC.2.1 (hB.word hW hA rfl args) rfl d rfl hneg hcl (by show N * 8 ≤ _; omega) hc hn hsz fun H1 cA e1 z1 o1 hAr hNm => ?_
  have hcA : cA = D.2 2 := Option.some.inj (hNm.symm.trans (hK.2 2 _ rfl).2)
  subst hcA
  refine K p e s m args below meth cd H1 locs ls hC (hH.more (by rw [z1, hsz]) (fun q hq => o1 q (by omega)) (fun q hq => rfl) (fun q hq => ⟨rfl, jz_ne hq⟩) ?_) hl
  show H1[sz]? = some (vp_cell (D.2 2) (N, .inr (.inr (.inr (.inl (jz X.2 sz 0 sz))))))
  rw [e1, jz_row]; rfl
theorem j_newq {v : Int32} {N idx : Nat} (d : decode M.2.1 pc = .ok (.anewarray idx, 3)) (hB : jB l s0 D) (hlk : Cond.classLink M.1.cls idx "CueSheets$State" ∈ lw_tbl) (hA : Cond.arrayOver (.object "CueSheets$State") ∈ lw_tbl) (hgA : goodWord (Cond.arrayOver (.object "CueSheets$State")) = true) (hv : v.toInt = N) (hN : N ≤ 100000) (hc : c + 1 ≤ R.cells) (hn : n + N ≤ R.slots) (K : J l s0 D M R mc ms Q (pc + 3) L (.ref sz :: rest) (jup T sz (.inr (.inr (N, fun _ => none)))) V X (sz + 1) (c + 1) (n + N)) : J l s0 D M R mc ms Q pc L (.int v :: rest) T V X sz c n := by
  intro p e s m args below meth cd H locs ls hC hH hl
  have hW := hC.2.2.2.2.2.2.1
  have hK := va_K.moved (hW.alike) hB.2.2.1
  have hsz : H.size = sz := hH.2.2.2.2.2.1
  have hneg : ¬ v < 0 := fun h => by have := ti_lt h; rw [ti_0] at this; omega
  have hcl : v.toNatClampNeg = N := by rw [← Int32.toNat_toInt]; omega
  subst hcl
  refine W.anew hC.1 hC.2.1 hC.2.2.2.2.1 (hB.word hW hlk rfl args) (hB.word hW hA hgA args) rfl d rfl hneg (by omega) hc hn fun cA kA comp f1 f2 f3 f4 => ?_
  generalize hH1 : H.push ({ cls := cA, slots := Array.replicate v.toNatClampNeg .null, vm := .none } : Cell) = H1
  have z1 : H1.size = H.size + 1 := by rw [← hH1, Array.size_push]
  have e1 : H1[H.size]? = some (arrV cA v.toNatClampNeg (fun _ => .null)) := by rw [← hH1, Array.getElem?_push_size, ← arrV_new]
  have o1 : ∀ q : Nat, q < H.size → H1[q]? = H[q]? := fun q hq => by rw [← hH1, Array.getElem?_push, if_neg (Nat.ne_of_lt hq)]
  obtain ⟨kA', comp', k1, k2, k3, k4⟩ := (hK.2 3 _ rfl).2
  have hcA : cA = D.2 3 := Option.some.inj (f1.symm.trans k4)
  subst hcA
  subst hsz
  refine K p e s m args below meth cd H1 locs ls hC (hH.more z1 o1 (fun q hq => rfl) (fun q hq => ⟨rfl, rfl⟩) ?_) hl
  show H1[H.size]? = some (vp_cell (D.2 3) (v.toNatClampNeg, .inr (.inr (.inr (.inr (fun _ => none))))))
  rw [e1]; rfl
theorem j_aast {a len b : Nat} {i : Int32} {f : Nat → Option Nat} {fs : List (Nat ⊕ Option Nat)} (d : decode M.2.1 pc = .ok (.aastore, 1)) (hB : jB l s0 D) (ht : T a = some (.inr (.inr (len, f)))) (hb : T b = some (.inl (5, fs))) (h0 : 0 ≤ i.toInt) (h1 : i.toInt < len) (K : J l s0 D M R mc ms Q (pc + 1) L rest (jup T a (.inr (.inr (len, va_up f i.toNatClampNeg (some b))))) V X sz c n) : J l s0 D M R mc ms Q pc L (.ref b :: .int i :: .ref a :: rest) T V X sz c n := by
  intro p e s m args below meth cd H locs ls hC hH hl
  have hW := hC.2.2.2.2.2.2.1
  have hK := va_K.moved (hW.alike) hB.2.2.1
  obtain ⟨g1, g2⟩ := hH.2.2.2.2.1 a _ ht
  have hin := jin_of h0 h1
  have hlt : i.toNatClampNeg < len := Nat.not_le.mp fun q => hin (Or.inr q)
  have hz : ¬ i < 0 := fun q => hin (Or.inl q)
  obtain ⟨r', hr', cellV, b1, b2, b3, -⟩ := (hH.2.2.2.2.1 b _ hb).2
  have hcls := (hK.1 5 _ rfl).2
  obtain ⟨kA, comp, k1, k2, k3, -⟩ := (hK.2 3 _ rfl).2
  have hcomp : comp = D.1.1 5 := Option.some.inj (k3.symm.trans hcls.1)
  subst hcomp
  obtain ⟨kC, hkC, -⟩ := hcls.2
  refine W.aast hC.1 hC.2.1 g2 (fun q h => by cases h) (fun h => by cases h) k1 k2 rfl hkC ⟨hz, by show _ < (arrV _ _ _).slots.size; rw [arrV_size]; exact hlt⟩ b1 (fun q h => by rw [b3] at h; cases h) (by rw [b2]; exact hkC) (by rw [b2]; exact va_assign hcls) rfl rfl d fun H1 e1 e2 e3 => ?_
  refine K p e s m args below meth cd H1 _ ls hC (hH.one g1 e2 e3 (fun q h => jup_ne h) (fun _ _ => rfl) (fun _ _ => ⟨rfl, rfl⟩) fun k' hk' => ?_) hl
  rw [jup_eq] at hk'
  cases hk'
  show H1[a]? = some (vp_cell (D.2 3) (len, _))
  rw [e1]
  show some ((vp_cell (D.2 3) (len, _)).setSlot _ _) = _
  rw [vp_cell_q, vp_cell_q, arrV_store]
  congr 2
  funext q
  by_cases hq : q = i.toNatClampNeg
  · subst hq
    simp [updV, va_up, va_rf]
  · simp [updV, va_up, hq]
theorem jm_max : Cond.static Lib.Math.max.name ∈ lw_tbl ∧ Cond.initialized "java/lang/Math" ∈ lw_tbl ∧ Cond.code Lib.Math.max.name Lib.Math.max.code 2 (some .int) ∈ lw_tbl := by decide +kernel
theorem jm_min : Cond.static Lib.Math.min.name ∈ lw_tbl ∧ Cond.initialized "java/lang/Math" ∈ lw_tbl ∧ Cond.code Lib.Math.min.name Lib.Math.min.code 2 (some .int) ∈ lw_tbl := by decide +kernel
theorem jm_abs : Cond.static Lib.Math.abs.name ∈ lw_tbl ∧ Cond.initialized "java/lang/Math" ∈ lw_tbl ∧ Cond.code Lib.Math.abs.name Lib.Math.abs.code 1 (some .int) ∈ lw_tbl := by decide +kernel

theorem j_mmax {idx : Nat} {x y : Int32} (d : decode M.2.1 pc = .ok (.invokestatic idx, 3)) (hB : jB l s0 D) (hlk : Cond.methodLink M.1.cls idx Lib.Math.max.name ∈ lw_tbl) (hR : 1 ≤ R.frames) (hR2 : (rest.map fun v => v.category).sum + 13 ≤ R.locals) (hc : c ≤ R.cells) (hn : n ≤ R.slots) (K : J l s0 D M R mc ms Q (pc + 3) L (.int (if x < y then y else x) :: rest) T V X sz c n) : J l s0 D M R mc ms Q pc L (.int y :: .int x :: rest) T V X sz c n := by
  intro p e s m args below meth cd H locs ls hC hH hl
  have hW := hC.2.2.2.2.2.2.1
  exact va_mmax hC.1 hC.2.1 (hC.2.2.1.trans hl.1.symm) hC.2.2.2.2.1 (hB.word hW hlk rfl args) (hB.word hW jm_max.1 rfl args) (hB.word hW jm_max.2.1 rfl args) (hB.word hW jm_max.2.2 rfl args) hR hR2 hc hn d (K p e s m args below meth cd H locs ls hC hH hl)
theorem j_mmin {idx : Nat} {x y : Int32} (d : decode M.2.1 pc = .ok (.invokestatic idx, 3)) (hB : jB l s0 D) (hlk : Cond.methodLink M.1.cls idx Lib.Math.min.name ∈ lw_tbl) (hR : 1 ≤ R.frames) (hR2 : (rest.map fun v => v.category).sum + 13 ≤ R.locals) (hc : c ≤ R.cells) (hn : n ≤ R.slots) (K : J l s0 D M R mc ms Q (pc + 3) L (.int (if y < x then y else x) :: rest) T V X sz c n) : J l s0 D M R mc ms Q pc L (.int y :: .int x :: rest) T V X sz c n := by
  intro p e s m args below meth cd H locs ls hC hH hl
  have hW := hC.2.2.2.2.2.2.1
  exact va_mmin hC.1 hC.2.1 (hC.2.2.1.trans hl.1.symm) hC.2.2.2.2.1 (hB.word hW hlk rfl args) (hB.word hW jm_min.1 rfl args) (hB.word hW jm_min.2.1 rfl args) (hB.word hW jm_min.2.2 rfl args) hR hR2 hc hn d (K p e s m args below meth cd H locs ls hC hH hl)
theorem j_mabs {idx : Nat} {x : Int32} (d : decode M.2.1 pc = .ok (.invokestatic idx, 3)) (hB : jB l s0 D) (hlk : Cond.methodLink M.1.cls idx Lib.Math.abs.name ∈ lw_tbl) (hR : 1 ≤ R.frames) (hR2 : (rest.map fun v => v.category).sum + 13 ≤ R.locals) (hc : c ≤ R.cells) (hn : n ≤ R.slots) (K : J l s0 D M R mc ms Q (pc + 3) L (.int (if 0 ≤ x then x else 0 - x) :: rest) T V X sz c n) : J l s0 D M R mc ms Q pc L (.int x :: rest) T V X sz c n := by
  intro p e s m args below meth cd H locs ls hC hH hl
  have hW := hC.2.2.2.2.2.2.1
  exact va_mabs hC.1 hC.2.1 (hC.2.2.1.trans hl.1.symm) hC.2.2.2.2.1 (hB.word hW hlk rfl args) (hB.word hW jm_abs.1 rfl args) (hB.word hW jm_abs.2.1 rfl args) (hB.word hW jm_abs.2.2 rfl args) hR hR2 hc hn d (K p e s m args below meth cd H locs ls hC hH hl)
/-- the words of a throw: E's own, but castable and declares -/
def jthD (C : String) : MethodName := ⟨C, "<init>", "(Ljava/lang/String;)V"⟩
def jthB (E : String) : List Cond := [.castable E E, .declares (jthD "java/lang/RuntimeException"), .declares (jthD "java/lang/Exception"), .declares (jthD "java/lang/Throwable")]
def jthr (own : String) (ik is ic : Nat) (E text : String) : Prop := Bundle.fit E = true ∧ (Cond.classLink own ik E ∈ lw_tbl ∧ goodWord (.classLink own ik E) = true) ∧ (Cond.initialized E ∈ lw_tbl ∧ goodWord (.initialized E) = true) ∧ Cond.stringRef own is text ∈ lw_tbl ∧ (∀ w ∈ (vx_atS own ic E ["java/lang/RuntimeException", "java/lang/Exception"]).filter goodWord, w ∈ lw_tbl) ∧ (∀ w ∈ (vx_atS own ic E ["java/lang/RuntimeException", "java/lang/Exception"]).filter (fun w => !goodWord w), w ∈ jthB E) ∧ (∀ w ∈ jthB E, w ∈ lw_tbl) ∧ (∀ w ∈ Cond.classLink own ik E :: Cond.initialized E :: vx_atS own ic E ["java/lang/RuntimeException", "java/lang/Exception"], vx_ot w = true)
theorem jB.cast {s : State} (hB : jB l s0 D) (hW : s0.WarmedH s.vm) {A B : String} (hw : Cond.castable A B ∈ lw_tbl) (args : Array Value) : (Cond.castable A B).before args s = true := by
  obtain ⟨-, ⟨a0, hh⟩, -⟩ := hB
  exact va_Nw.use rfl (va_Nw.warmC hW (va_Nw.of rfl (hh _ hw)))
theorem jB.decl {s : State} (hB : jB l s0 D) (hW : s0.WarmedH s.vm) {x : MethodName} (hw : Cond.declares x ∈ lw_tbl) (args : Array Value) : (Cond.declares x).before args s = true := by
  obtain ⟨-, ⟨a0, hh⟩, -⟩ := hB
  exact va_Nw.use rfl (va_Nw.warmD hW (va_Nw.of rfl (hh _ hw)))
theorem jB.thB {s : State} (hB : jB l s0 D) (hW : s0.WarmedH s.vm) {E : String} (h : ∀ w ∈ jthB E, w ∈ lw_tbl) (args : Array Value) : ∀ w ∈ jthB E, w.before args s = true :=
  vx_c (hB.cast hW (h _ (by simp [jthB])) args) (vx_c (hB.decl hW (h _ (by simp [jthB])) args) (vx_c (hB.decl hW (h _ (by simp [jthB])) args) (vx_c (hB.decl hW (h _ (by simp [jthB])) args) vx_n)))
/-- throw new E("text") -/
theorem j_throw {ik is ic : Nat} {E text : String} (d0 : decode M.2.1 pc = .ok (.new ik, 3)) (d3 : decode M.2.1 (pc + 3) = .ok (.dup, 1)) (d4 : decode M.2.1 (pc + 4) = .ok (.ldc is, 2)) (d6 : decode M.2.1 (pc + 6) = .ok (.invokespecial ic, 3)) (d9 : decode M.2.1 (pc + 9) = .ok (.athrow, 1)) (hB : jB l s0 D) (hh : M.2.2.2.2 = []) (hth : jthr M.1.cls ik is ic E text) (hR : 5 < R.frames) (hR2 : (rest.map fun v => v.category).sum + 82 ≤ R.locals) (hc : c + 1 ≤ R.cells) (hn : n + 6 ≤ R.slots) (hc2 : c + 1 ≤ mc) (hn2 : n + 6 ≤ ms) (hq : ∀ sz', sz ≤ sz' → Q (.inr E) T V X sz') : J l s0 D M R mc ms Q pc L rest T V X sz c n := by
  intro p e s m args below meth cd H locs ls hC hH hl
  have hW := hC.2.2.2.2.2.2.1
  obtain ⟨t1, t2, t3, t4, t5, t6, t7, t8⟩ := hth
  obtain ⟨sa, hsa⟩ := hB.2.2.2.2.2 _ _ _ t4
  have ht : cd.exceptionTable.toList = tableOf M.2.2.2.2 := hC.2.2.2.2.2.2.2.2
  have hlow : ∀ a : Nat, a < s0.heap.size → ¬ s0.heap.size ≤ a → s.heap[a]? = s0.heap[a]? := fun a ha _ => hH.2.2.1 a ha
  refine vx_throwS (cls := E) (text := text) (names := ["java/lang/RuntimeException", "java/lang/Exception"]) hC.1 hC.2.1 hB.1 hC.2.2.2.2.1 t1 (by intro n hn; rcases List.mem_cons.mp hn with rfl | hn <;> first | decide +kernel | (rcases List.mem_cons.mp hn with rfl | hn <;> first | decide +kernel | cases hn)) (hB.word hW t2.1 t2.2 args) (hB.word hW t3.1 t3.2 args) (vk_R.warm hW hsa) ?_ t8 (A := fun q => s0.heap.size ≤ q) ((vx_Zq.moved (hW.alike) hB.2.2.2.1).kept hlow) ((vx_Zq.moved (hW.alike) hB.2.2.2.2.1).kept hlow) hH.va (hl.1.trans hC.2.2.1.symm) d0 d3 d4 d6 d9 (fun x hx => by rw [ht, hh] at hx; cases hx) (by show 2 + 3 < _; exact hR) (by show _ + (13 * 3 + 43) ≤ _; exact hR2) hc hn hC.2.2.2.2.2.1 ?_ hH.2.2.2.2.2.2 hc2 hn2
  · exact vx_hat (fun w hw => hB.word hW (t5 w hw) (by have := (List.mem_filter.mp hw).2; exact this) args) t6 (hB.thB hW t7 args)
  · intro t _ hz hq'
    refine ⟨T, V, X, t.heap.size, hq _ (by rw [← hH.2.2.2.2.2.1]; exact hz), Nat.le_trans (Nat.le_trans hH.1 hH.2.1) hz, fun q hqq => ?_, fun q k hk => ?_, rfl⟩
    · rw [hq' q (Nat.lt_of_lt_of_le hqq (Nat.le_trans hH.1 hH.2.1))]; exact hH.2.2.2.1 q hqq
    · obtain ⟨g1, g2⟩ := hH.2.2.2.2.1 q k hk
      exact ⟨g1, g2.kept (hq' q (va_at.lt g2))⟩
/-- .. with the text by a wide index -/
theorem j_throwW {ik is ic : Nat} {E text : String} (d0 : decode M.2.1 pc = .ok (.new ik, 3)) (d3 : decode M.2.1 (pc + 3) = .ok (.dup, 1)) (d4 : decode M.2.1 (pc + 4) = .ok (.ldc_w is, 3)) (d6 : decode M.2.1 (pc + 7) = .ok (.invokespecial ic, 3)) (d9 : decode M.2.1 (pc + 10) = .ok (.athrow, 1)) (hB : jB l s0 D) (hh : M.2.2.2.2 = []) (hth : jthr M.1.cls ik is ic E text) (hR : 5 < R.frames) (hR2 : (rest.map fun v => v.category).sum + 82 ≤ R.locals) (hc : c + 1 ≤ R.cells) (hn : n + 6 ≤ R.slots) (hc2 : c + 1 ≤ mc) (hn2 : n + 6 ≤ ms) (hq : ∀ sz', sz ≤ sz' → Q (.inr E) T V X sz') : J l s0 D M R mc ms Q pc L rest T V X sz c n := by
  intro p e s m args below meth cd H locs ls hC hH hl
  have hW := hC.2.2.2.2.2.2.1
  obtain ⟨t1, t2, t3, t4, t5, t6, t7, t8⟩ := hth
  obtain ⟨sa, hsa⟩ := hB.2.2.2.2.2 _ _ _ t4
  have ht : cd.exceptionTable.toList = tableOf M.2.2.2.2 := hC.2.2.2.2.2.2.2.2
  have hlow : ∀ a : Nat, a < s0.heap.size → ¬ s0.heap.size ≤ a → s.heap[a]? = s0.heap[a]? := fun a ha _ => hH.2.2.1 a ha
  refine vx_throwSW (cls := E) (text := text) (names := ["java/lang/RuntimeException", "java/lang/Exception"]) hC.1 hC.2.1 hB.1 hC.2.2.2.2.1 t1 (by intro n hn; rcases List.mem_cons.mp hn with rfl | hn <;> first | decide +kernel | (rcases List.mem_cons.mp hn with rfl | hn <;> first | decide +kernel | cases hn)) (hB.word hW t2.1 t2.2 args) (hB.word hW t3.1 t3.2 args) (vk_R.warm hW hsa) ?_ t8 (A := fun q => s0.heap.size ≤ q) ((vx_Zq.moved (hW.alike) hB.2.2.2.1).kept hlow) ((vx_Zq.moved (hW.alike) hB.2.2.2.2.1).kept hlow) hH.va (hl.1.trans hC.2.2.1.symm) d0 d3 d4 d6 d9 (fun x hx => by rw [ht, hh] at hx; cases hx) (by show 2 + 3 < _; exact hR) (by show _ + (13 * 3 + 43) ≤ _; exact hR2) hc hn hC.2.2.2.2.2.1 ?_ hH.2.2.2.2.2.2 hc2 hn2
  · exact vx_hat (fun w hw => hB.word hW (t5 w hw) (by have := (List.mem_filter.mp hw).2; exact this) args) t6 (hB.thB hW t7 args)
  · intro t _ hz hq'
    refine ⟨T, V, X, t.heap.size, hq _ (by rw [← hH.2.2.2.2.2.1]; exact hz), Nat.le_trans (Nat.le_trans hH.1 hH.2.1) hz, fun q hqq => ?_, fun q k hk => ?_, rfl⟩
    · rw [hq' q (Nat.lt_of_lt_of_le hqq (Nat.le_trans hH.1 hH.2.1))]; exact hH.2.2.2.1 q hqq
    · obtain ⟨g1, g2⟩ := hH.2.2.2.2.1 q k hk
      exact ⟨g1, g2.kept (hq' q (va_at.lt g2))⟩
end JM
end
section
/-! THE SITES: methods as data, links by their places in the tables (by program) -/
/-- the room of a method at a depth -/
abbrev jR (d mc ms : Nat) : Room := { frames := d, cells := mc, slots := ms, locals := 36 * d }
/-- the kinds of the objects -/
abbrev kChoice : jK := .inl (0, [.inl 0, .inl 0, .inl 0])
abbrev kMarks (a b : Nat) : jK := .inl (1, [.inr (some a), .inr (some b)])
abbrev kReel (a b c d e f : Nat) : jK := .inl (2, [.inr (some a), .inr (some b), .inr (some c), .inr (some d), .inr (some e), .inr (some f)])
abbrev kRow (a : Nat) : jK := .inl (3, [.inr (some a), .inl 0])
abbrev kReader (a b c d : Nat) : jK := .inl (4, [.inr (some a), .inr (some b), .inr (some c), .inr (some d), .inl 0])
abbrev kState (a b c d e f : Nat) : jK := .inl (5, [.inr (some a), .inr (some b), .inr (some c), .inr (some d), .inr (some e), .inr (some f), .inl 0, .inl 0])
abbrev kTiming (a b c d e f g : Nat) : jK := .inl (6, [.inr (some a), .inr (some b), .inr (some c), .inr (some d), .inr (some e), .inr (some f), .inr (some g), .inl 0, .inl 0, .inl 0, .inl 0, .inl 0, .inl 0, .inl 0])
abbrev kCue (a b c d e f g : Nat) : jK := .inl (7, [.inr (some a), .inr (some b), .inl 0, .inl 0, .inr (some c), .inr (some d), .inr (some e), .inr (some f), .inr (some g)])
abbrev kModel (z sv tx bg lo cb ce rd : Nat) : jK := .inl (8, [.inl 0, .inr (some z), .inl 0, .inr (some sv), .inl 0, .inr (some tx), .inr (some bg), .inr (some lo), .inr (some cb), .inr (some ce), .inl 0, .inl 0, .inl 0, .inl 0, .inr (some rd), .inl 1])
abbrev kI (n : Nat) : jK := .inr (.inl (0, n))
abbrev kJ (n : Nat) : jK := .inr (.inl (1, n))
abbrev kDb (n : Nat) : jK := .inr (.inl (2, n))
abbrev kQ (n : Nat) (f : Nat → Option Nat) : jK := .inr (.inr (n, f))

theorem cw_0 : ∀ w ∈ u_ws RX0 TX0 3, w ∈ lw_tbl ∧ goodWord w = true := by decide +kernel
theorem cp_0 : ∀ k, k < 3 → ∃ t, parseFieldDescriptor (TX0 k).2.2.1 = some t := fun k hk => ⟨_, tyX0_ok k hk⟩
theorem cw_1 : ∀ w ∈ u_ws RX1 TX1 2, w ∈ lw_tbl ∧ goodWord w = true := by decide +kernel
theorem cp_1 : ∀ k, k < 2 → ∃ t, parseFieldDescriptor (TX1 k).2.2.1 = some t := fun k hk => ⟨_, tyX1_ok k hk⟩
theorem cw_2 : ∀ w ∈ u_ws RX2 TX2 6, w ∈ lw_tbl ∧ goodWord w = true := by decide +kernel
theorem cp_2 : ∀ k, k < 6 → ∃ t, parseFieldDescriptor (TX2 k).2.2.1 = some t := fun k hk => ⟨_, tyX2_ok k hk⟩
theorem cw_3 : ∀ w ∈ u_ws RX3 TX3 2, w ∈ lw_tbl ∧ goodWord w = true := by decide +kernel
theorem cp_3 : ∀ k, k < 2 → ∃ t, parseFieldDescriptor (TX3 k).2.2.1 = some t := fun k hk => ⟨_, tyX3_ok k hk⟩
theorem cw_4 : ∀ w ∈ u_ws RX4 TX4 5, w ∈ lw_tbl ∧ goodWord w = true := by decide +kernel
theorem cp_4 : ∀ k, k < 5 → ∃ t, parseFieldDescriptor (TX4 k).2.2.1 = some t := fun k hk => ⟨_, tyX4_ok k hk⟩
theorem cw_5 : ∀ w ∈ u_ws RX5 TX5 8, w ∈ lw_tbl ∧ goodWord w = true := by decide +kernel
theorem cp_5 : ∀ k, k < 8 → ∃ t, parseFieldDescriptor (TX5 k).2.2.1 = some t := fun k hk => ⟨_, tyX5_ok k hk⟩
theorem cw_6 : ∀ w ∈ u_ws RX6 TX6 14, w ∈ lw_tbl ∧ goodWord w = true := by decide +kernel
theorem cp_6 : ∀ k, k < 14 → ∃ t, parseFieldDescriptor (TX6 k).2.2.1 = some t := fun k hk => ⟨_, tyX6_ok k hk⟩
theorem cw_7 : ∀ w ∈ u_ws RX7 TX7 9, w ∈ lw_tbl ∧ goodWord w = true := by decide +kernel
theorem cp_7 : ∀ k, k < 9 → ∃ t, parseFieldDescriptor (TX7 k).2.2.1 = some t := fun k hk => ⟨_, tyX7_ok k hk⟩
theorem cw_8 : ∀ w ∈ u_ws RX8 TX8 16, w ∈ lw_tbl ∧ goodWord w = true := by decide +kernel
theorem cp_8 : ∀ k, k < 16 → ∃ t, parseFieldDescriptor (TX8 k).2.2.1 = some t := fun k hk => ⟨_, tyX8_ok k hk⟩
abbrev kX0_init : jM := (yX0_init, cX0_init, 1, none, [])
theorem pn_X0_init : plainName (kX0_init : jM).1.cls = true := by decide +kernel
theorem mo_X0_init : jmI kX0_init 0 := ⟨rfl, j_tb (List.mem_of_getElem? (i := 270) (by decide +kernel)), rfl, rfl, j_tb (List.mem_of_getElem? (i := 269) (by decide +kernel)), j_tb (List.mem_of_getElem? (i := 8) (by decide +kernel)), by decide +kernel, by decide +kernel⟩
abbrev kX0_search : jM := (yX0_search, cX0_search, 7, none, [])
theorem pn_X0_search : plainName (kX0_search : jM).1.cls = true := by decide +kernel
theorem mo_X0_search : jmV kX0_search 3 := ⟨rfl, j_tb (List.mem_of_getElem? (i := 509) (by decide +kernel)), j_tb (List.mem_of_getElem? (i := 507) (by decide +kernel)), j_tb (List.mem_of_getElem? (i := 508) (by decide +kernel)), j_tb (List.mem_of_getElem? (i := 8) (by decide +kernel)), by decide +kernel, by decide +kernel⟩
abbrev kX0_tryPaces : jM := (yX0_tryPaces, cX0_tryPaces, 8, none, [])
theorem pn_X0_tryPaces : plainName (kX0_tryPaces : jM).1.cls = true := by decide +kernel
theorem mo_X0_tryPaces : jmV kX0_tryPaces 4 := ⟨rfl, j_tb (List.mem_of_getElem? (i := 515) (by decide +kernel)), j_tb (List.mem_of_getElem? (i := 514) (by decide +kernel)), List.mem_append_left _ (by decide +kernel), j_tb (List.mem_of_getElem? (i := 8) (by decide +kernel)), by decide +kernel, by decide +kernel⟩
abbrev kX0_consider : jM := (yX0_consider, cX0_consider, 4, none, [])
theorem pn_X0_consider : plainName (kX0_consider : jM).1.cls = true := by decide +kernel
theorem mo_X0_consider : jmV kX0_consider 3 := ⟨rfl, j_tb (List.mem_of_getElem? (i := 520) (by decide +kernel)), j_tb (List.mem_of_getElem? (i := 519) (by decide +kernel)), List.mem_append_left _ (by decide +kernel), j_tb (List.mem_of_getElem? (i := 8) (by decide +kernel)), by decide +kernel, by decide +kernel⟩
abbrev kX1_init : jM := (yX1_init, cX1_init, 1, none, [])
theorem pn_X1_init : plainName (kX1_init : jM).1.cls = true := by decide +kernel
theorem mo_X1_init : jmI kX1_init 0 := ⟨rfl, j_tb (List.mem_of_getElem? (i := 57) (by decide +kernel)), rfl, rfl, j_tb (List.mem_of_getElem? (i := 56) (by decide +kernel)), j_tb (List.mem_of_getElem? (i := 5) (by decide +kernel)), by decide +kernel, by decide +kernel⟩
abbrev kX1_size : jM := (yX1_size, cX1_size, 1, some .int, [])
theorem pn_X1_size : plainName (kX1_size : jM).1.cls = true := by decide +kernel
theorem mo_X1_size : jmV kX1_size 0 := ⟨rfl, j_tb (List.mem_of_getElem? (i := 485) (by decide +kernel)), j_tb (List.mem_of_getElem? (i := 483) (by decide +kernel)), j_tb (List.mem_of_getElem? (i := 484) (by decide +kernel)), j_tb (List.mem_of_getElem? (i := 5) (by decide +kernel)), by decide +kernel, by decide +kernel⟩
abbrev kX1_placeOf : jM := (yX1_placeOf, cX1_placeOf, 3, some .int, [])
theorem pn_X1_placeOf : plainName (kX1_placeOf : jM).1.cls = true := by decide +kernel
theorem mo_X1_placeOf : jmV kX1_placeOf 1 := ⟨rfl, j_tb (List.mem_of_getElem? (i := 77) (by decide +kernel)), j_tb (List.mem_of_getElem? (i := 76) (by decide +kernel)), List.mem_append_left _ (by decide +kernel), j_tb (List.mem_of_getElem? (i := 5) (by decide +kernel)), by decide +kernel, by decide +kernel⟩
abbrev kX1_isAt : jM := (yX1_isAt, cX1_isAt, 3, some .boolean, [])
theorem pn_X1_isAt : plainName (kX1_isAt : jM).1.cls = true := by decide +kernel
theorem mo_X1_isAt : jmV kX1_isAt 2 := ⟨rfl, j_tb (List.mem_of_getElem? (i := 89) (by decide +kernel)), j_tb (List.mem_of_getElem? (i := 88) (by decide +kernel)), List.mem_append_left _ (by decide +kernel), j_tb (List.mem_of_getElem? (i := 5) (by decide +kernel)), by decide +kernel, by decide +kernel⟩
abbrev kX1_hasRoomFor : jM := (yX1_hasRoomFor, cX1_hasRoomFor, 2, some .boolean, [])
theorem pn_X1_hasRoomFor : plainName (kX1_hasRoomFor : jM).1.cls = true := by decide +kernel
theorem mo_X1_hasRoomFor : jmV kX1_hasRoomFor 1 := ⟨rfl, j_tb (List.mem_of_getElem? (i := 733) (by decide +kernel)), j_tb (List.mem_of_getElem? (i := 731) (by decide +kernel)), j_tb (List.mem_of_getElem? (i := 732) (by decide +kernel)), j_tb (List.mem_of_getElem? (i := 5) (by decide +kernel)), by decide +kernel, by decide +kernel⟩
abbrev kX1_mark : jM := (yX1_mark, cX1_mark, 4, none, [])
theorem pn_X1_mark : plainName (kX1_mark : jM).1.cls = true := by decide +kernel
theorem mo_X1_mark : jmV kX1_mark 2 := ⟨rfl, j_tb (List.mem_of_getElem? (i := 73) (by decide +kernel)), j_tb (List.mem_of_getElem? (i := 71) (by decide +kernel)), j_tb (List.mem_of_getElem? (i := 72) (by decide +kernel)), j_tb (List.mem_of_getElem? (i := 5) (by decide +kernel)), by decide +kernel, by decide +kernel⟩
abbrev kX1_unmark : jM := (yX1_unmark, cX1_unmark, 3, none, [])
theorem pn_X1_unmark : plainName (kX1_unmark : jM).1.cls = true := by decide +kernel
theorem mo_X1_unmark : jmV kX1_unmark 1 := ⟨rfl, j_tb (List.mem_of_getElem? (i := 747) (by decide +kernel)), j_tb (List.mem_of_getElem? (i := 745) (by decide +kernel)), j_tb (List.mem_of_getElem? (i := 746) (by decide +kernel)), j_tb (List.mem_of_getElem? (i := 5) (by decide +kernel)), by decide +kernel, by decide +kernel⟩
abbrev kX1_valueHoldingAt : jM := (yX1_valueHoldingAt, cX1_valueHoldingAt, 4, some .int, [])
theorem pn_X1_valueHoldingAt : plainName (kX1_valueHoldingAt : jM).1.cls = true := by decide +kernel
theorem mo_X1_valueHoldingAt : jmV kX1_valueHoldingAt 1 := ⟨rfl, j_tb (List.mem_of_getElem? (i := 525) (by decide +kernel)), j_tb (List.mem_of_getElem? (i := 523) (by decide +kernel)), j_tb (List.mem_of_getElem? (i := 524) (by decide +kernel)), j_tb (List.mem_of_getElem? (i := 5) (by decide +kernel)), by decide +kernel, by decide +kernel⟩
abbrev kX1_takeFrom : jM := (yX1_takeFrom, cX1_takeFrom, 2, none, [])
theorem pn_X1_takeFrom : plainName (kX1_takeFrom : jM).1.cls = true := by decide +kernel
theorem mo_X1_takeFrom : jmV kX1_takeFrom 1 := ⟨rfl, j_tb (List.mem_of_getElem? (i := 695) (by decide +kernel)), j_tb (List.mem_of_getElem? (i := 693) (by decide +kernel)), j_tb (List.mem_of_getElem? (i := 694) (by decide +kernel)), j_tb (List.mem_of_getElem? (i := 5) (by decide +kernel)), by decide +kernel, by decide +kernel⟩
abbrev kX2_init : jM := (yX2_init, cX2_init, 1, none, [])
theorem pn_X2_init : plainName (kX2_init : jM).1.cls = true := by decide +kernel
theorem mo_X2_init : jmI kX2_init 0 := ⟨rfl, j_tb (List.mem_of_getElem? (i := 37) (by decide +kernel)), rfl, rfl, j_tb (List.mem_of_getElem? (i := 36) (by decide +kernel)), j_tb (List.mem_of_getElem? (i := 3) (by decide +kernel)), by decide +kernel, by decide +kernel⟩
abbrev kX2_scenes : jM := (yX2_scenes, cX2_scenes, 1, some .int, [])
theorem pn_X2_scenes : plainName (kX2_scenes : jM).1.cls = true := by decide +kernel
theorem mo_X2_scenes : jmV kX2_scenes 0 := ⟨rfl, j_tb (List.mem_of_getElem? (i := 411) (by decide +kernel)), j_tb (List.mem_of_getElem? (i := 409) (by decide +kernel)), j_tb (List.mem_of_getElem? (i := 410) (by decide +kernel)), j_tb (List.mem_of_getElem? (i := 3) (by decide +kernel)), by decide +kernel, by decide +kernel⟩
abbrev kX2_hasCue : jM := (yX2_hasCue, cX2_hasCue, 2, some .boolean, [])
theorem pn_X2_hasCue : plainName (kX2_hasCue : jM).1.cls = true := by decide +kernel
theorem mo_X2_hasCue : jmV kX2_hasCue 1 := ⟨rfl, j_tb (List.mem_of_getElem? (i := 442) (by decide +kernel)), j_tb (List.mem_of_getElem? (i := 440) (by decide +kernel)), j_tb (List.mem_of_getElem? (i := 441) (by decide +kernel)), j_tb (List.mem_of_getElem? (i := 3) (by decide +kernel)), by decide +kernel, by decide +kernel⟩
abbrev kX2_extend : jM := (yX2_extend, cX2_extend, 5, none, [])
theorem pn_X2_extend : plainName (kX2_extend : jM).1.cls = true := by decide +kernel
theorem mo_X2_extend : jmV kX2_extend 4 := ⟨rfl, j_tb (List.mem_of_getElem? (i := 701) (by decide +kernel)), j_tb (List.mem_of_getElem? (i := 699) (by decide +kernel)), j_tb (List.mem_of_getElem? (i := 700) (by decide +kernel)), j_tb (List.mem_of_getElem? (i := 3) (by decide +kernel)), by decide +kernel, by decide +kernel⟩
abbrev kX2_cutOut : jM := (yX2_cutOut, cX2_cutOut, 2, none, [])
theorem pn_X2_cutOut : plainName (kX2_cutOut : jM).1.cls = true := by decide +kernel
theorem mo_X2_cutOut : jmV kX2_cutOut 1 := ⟨rfl, j_tb (List.mem_of_getElem? (i := 718) (by decide +kernel)), j_tb (List.mem_of_getElem? (i := 716) (by decide +kernel)), j_tb (List.mem_of_getElem? (i := 717) (by decide +kernel)), j_tb (List.mem_of_getElem? (i := 3) (by decide +kernel)), by decide +kernel, by decide +kernel⟩
abbrev kX2_giveCue : jM := (yX2_giveCue, cX2_giveCue, 5, none, [])
theorem pn_X2_giveCue : plainName (kX2_giveCue : jM).1.cls = true := by decide +kernel
theorem mo_X2_giveCue : jmV kX2_giveCue 4 := ⟨rfl, j_tb (List.mem_of_getElem? (i := 778) (by decide +kernel)), j_tb (List.mem_of_getElem? (i := 776) (by decide +kernel)), j_tb (List.mem_of_getElem? (i := 777) (by decide +kernel)), j_tb (List.mem_of_getElem? (i := 3) (by decide +kernel)), by decide +kernel, by decide +kernel⟩
abbrev kX2_lostBetween : jM := (yX2_lostBetween, cX2_lostBetween, 9, some .int, [])
theorem pn_X2_lostBetween : plainName (kX2_lostBetween : jM).1.cls = true := by decide +kernel
theorem mo_X2_lostBetween : jmV kX2_lostBetween 2 := ⟨rfl, j_tb (List.mem_of_getElem? (i := 417) (by decide +kernel)), j_tb (List.mem_of_getElem? (i := 415) (by decide +kernel)), j_tb (List.mem_of_getElem? (i := 416) (by decide +kernel)), j_tb (List.mem_of_getElem? (i := 3) (by decide +kernel)), by decide +kernel, by decide +kernel⟩
abbrev kX2_footTime : jM := (yX2_footTime, cX2_footTime, 1, some .int, [])
theorem pn_X2_footTime : plainName (kX2_footTime : jM).1.cls = true := by decide +kernel
theorem mo_X2_footTime : jmS kX2_footTime 1 := ⟨rfl, j_tb (List.mem_of_getElem? (i := 432) (by decide +kernel)), j_tb (List.mem_of_getElem? (i := 431) (by decide +kernel)), j_tb (List.mem_of_getElem? (i := 3) (by decide +kernel)), by decide +kernel, by decide +kernel⟩
abbrev kX2_timeBetween : jM := (yX2_timeBetween, cX2_timeBetween, 9, some .int, [])
theorem pn_X2_timeBetween : plainName (kX2_timeBetween : jM).1.cls = true := by decide +kernel
theorem mo_X2_timeBetween : jmV kX2_timeBetween 3 := ⟨rfl, j_tb (List.mem_of_getElem? (i := 428) (by decide +kernel)), j_tb (List.mem_of_getElem? (i := 426) (by decide +kernel)), j_tb (List.mem_of_getElem? (i := 427) (by decide +kernel)), j_tb (List.mem_of_getElem? (i := 3) (by decide +kernel)), by decide +kernel, by decide +kernel⟩
abbrev kX2_takeFrom : jM := (yX2_takeFrom, cX2_takeFrom, 2, none, [])
theorem pn_X2_takeFrom : plainName (kX2_takeFrom : jM).1.cls = true := by decide +kernel
theorem mo_X2_takeFrom : jmV kX2_takeFrom 1 := ⟨rfl, j_tb (List.mem_of_getElem? (i := 686) (by decide +kernel)), j_tb (List.mem_of_getElem? (i := 684) (by decide +kernel)), j_tb (List.mem_of_getElem? (i := 685) (by decide +kernel)), j_tb (List.mem_of_getElem? (i := 3) (by decide +kernel)), by decide +kernel, by decide +kernel⟩
abbrev kX3_init : jM := (yX3_init, cX3_init, 2, none, [])
theorem pn_X3_init : plainName (kX3_init : jM).1.cls = true := by decide +kernel
theorem mo_X3_init : jmI kX3_init 1 := ⟨rfl, j_tb (List.mem_of_getElem? (i := 43) (by decide +kernel)), rfl, rfl, j_tb (List.mem_of_getElem? (i := 42) (by decide +kernel)), j_tb (List.mem_of_getElem? (i := 4) (by decide +kernel)), by decide +kernel, by decide +kernel⟩
abbrev kX3_size : jM := (yX3_size, cX3_size, 1, some .int, [])
theorem pn_X3_size : plainName (kX3_size : jM).1.cls = true := by decide +kernel
theorem mo_X3_size : jmV kX3_size 0 := ⟨rfl, j_tb (List.mem_of_getElem? (i := 81) (by decide +kernel)), j_tb (List.mem_of_getElem? (i := 79) (by decide +kernel)), j_tb (List.mem_of_getElem? (i := 80) (by decide +kernel)), j_tb (List.mem_of_getElem? (i := 4) (by decide +kernel)), by decide +kernel, by decide +kernel⟩
abbrev kX3_at : jM := (yX3_at, cX3_at, 2, some .int, [])
theorem pn_X3_at : plainName (kX3_at : jM).1.cls = true := by decide +kernel
theorem mo_X3_at : jmV kX3_at 1 := ⟨rfl, j_tb (List.mem_of_getElem? (i := 85) (by decide +kernel)), j_tb (List.mem_of_getElem? (i := 83) (by decide +kernel)), j_tb (List.mem_of_getElem? (i := 84) (by decide +kernel)), j_tb (List.mem_of_getElem? (i := 4) (by decide +kernel)), by decide +kernel, by decide +kernel⟩
abbrev kX3_put : jM := (yX3_put, cX3_put, 3, none, [])
theorem pn_X3_put : plainName (kX3_put : jM).1.cls = true := by decide +kernel
theorem mo_X3_put : jmV kX3_put 2 := ⟨rfl, j_tb (List.mem_of_getElem? (i := 93) (by decide +kernel)), j_tb (List.mem_of_getElem? (i := 91) (by decide +kernel)), j_tb (List.mem_of_getElem? (i := 92) (by decide +kernel)), j_tb (List.mem_of_getElem? (i := 4) (by decide +kernel)), by decide +kernel, by decide +kernel⟩
abbrev kX3_add : jM := (yX3_add, cX3_add, 2, none, [])
theorem pn_X3_add : plainName (kX3_add : jM).1.cls = true := by decide +kernel
theorem mo_X3_add : jmV kX3_add 1 := ⟨rfl, j_tb (List.mem_of_getElem? (i := 101) (by decide +kernel)), j_tb (List.mem_of_getElem? (i := 99) (by decide +kernel)), j_tb (List.mem_of_getElem? (i := 100) (by decide +kernel)), j_tb (List.mem_of_getElem? (i := 4) (by decide +kernel)), by decide +kernel, by decide +kernel⟩
abbrev kX3_insert : jM := (yX3_insert, cX3_insert, 4, none, [])
theorem pn_X3_insert : plainName (kX3_insert : jM).1.cls = true := by decide +kernel
theorem mo_X3_insert : jmV kX3_insert 2 := ⟨rfl, j_tb (List.mem_of_getElem? (i := 97) (by decide +kernel)), j_tb (List.mem_of_getElem? (i := 95) (by decide +kernel)), j_tb (List.mem_of_getElem? (i := 96) (by decide +kernel)), j_tb (List.mem_of_getElem? (i := 4) (by decide +kernel)), by decide +kernel, by decide +kernel⟩
abbrev kX3_remove : jM := (yX3_remove, cX3_remove, 3, none, [])
theorem pn_X3_remove : plainName (kX3_remove : jM).1.cls = true := by decide +kernel
theorem mo_X3_remove : jmV kX3_remove 1 := ⟨rfl, j_tb (List.mem_of_getElem? (i := 722) (by decide +kernel)), j_tb (List.mem_of_getElem? (i := 720) (by decide +kernel)), j_tb (List.mem_of_getElem? (i := 721) (by decide +kernel)), j_tb (List.mem_of_getElem? (i := 4) (by decide +kernel)), by decide +kernel, by decide +kernel⟩
abbrev kX3_clear : jM := (yX3_clear, cX3_clear, 1, none, [])
theorem pn_X3_clear : plainName (kX3_clear : jM).1.cls = true := by decide +kernel
theorem mo_X3_clear : jmV kX3_clear 0 := ⟨rfl, j_tb (List.mem_of_getElem? (i := 321) (by decide +kernel)), j_tb (List.mem_of_getElem? (i := 319) (by decide +kernel)), j_tb (List.mem_of_getElem? (i := 320) (by decide +kernel)), j_tb (List.mem_of_getElem? (i := 4) (by decide +kernel)), by decide +kernel, by decide +kernel⟩
abbrev kX3_takeFrom : jM := (yX3_takeFrom, cX3_takeFrom, 3, none, [])
theorem pn_X3_takeFrom : plainName (kX3_takeFrom : jM).1.cls = true := by decide +kernel
theorem mo_X3_takeFrom : jmV kX3_takeFrom 1 := ⟨rfl, j_tb (List.mem_of_getElem? (i := 690) (by decide +kernel)), j_tb (List.mem_of_getElem? (i := 688) (by decide +kernel)), j_tb (List.mem_of_getElem? (i := 689) (by decide +kernel)), j_tb (List.mem_of_getElem? (i := 4) (by decide +kernel)), by decide +kernel, by decide +kernel⟩
abbrev kX4_init : jM := (yX4_init, cX4_init, 1, none, [])
theorem pn_X4_init : plainName (kX4_init : jM).1.cls = true := by decide +kernel
theorem mo_X4_init : jmI kX4_init 0 := ⟨rfl, j_tb (List.mem_of_getElem? (i := 177) (by decide +kernel)), rfl, rfl, j_tb (List.mem_of_getElem? (i := 176) (by decide +kernel)), j_tb (List.mem_of_getElem? (i := 6) (by decide +kernel)), by decide +kernel, by decide +kernel⟩
abbrev kX4_scenes : jM := (yX4_scenes, cX4_scenes, 1, some .int, [])
theorem pn_X4_scenes : plainName (kX4_scenes : jM).1.cls = true := by decide +kernel
theorem mo_X4_scenes : jmV kX4_scenes 0 := ⟨rfl, j_tb (List.mem_of_getElem? (i := 818) (by decide +kernel)), j_tb (List.mem_of_getElem? (i := 816) (by decide +kernel)), j_tb (List.mem_of_getElem? (i := 817) (by decide +kernel)), j_tb (List.mem_of_getElem? (i := 6) (by decide +kernel)), by decide +kernel, by decide +kernel⟩
abbrev kX4_begin : jM := (yX4_begin, cX4_begin, 1, none, [])
theorem pn_X4_begin : plainName (kX4_begin : jM).1.cls = true := by decide +kernel
theorem mo_X4_begin : jmV kX4_begin 0 := ⟨rfl, j_tb (List.mem_of_getElem? (i := 333) (by decide +kernel)), j_tb (List.mem_of_getElem? (i := 331) (by decide +kernel)), j_tb (List.mem_of_getElem? (i := 332) (by decide +kernel)), j_tb (List.mem_of_getElem? (i := 6) (by decide +kernel)), by decide +kernel, by decide +kernel⟩
abbrev kX4_beginScene : jM := (yX4_beginScene, cX4_beginScene, 1, none, [])
theorem pn_X4_beginScene : plainName (kX4_beginScene : jM).1.cls = true := by decide +kernel
theorem mo_X4_beginScene : jmV kX4_beginScene 0 := ⟨rfl, j_tb (List.mem_of_getElem? (i := 338) (by decide +kernel)), j_tb (List.mem_of_getElem? (i := 337) (by decide +kernel)), List.mem_append_left _ (by decide +kernel), j_tb (List.mem_of_getElem? (i := 6) (by decide +kernel)), by decide +kernel, by decide +kernel⟩
abbrev kX4_latest : jM := (yX4_latest, cX4_latest, 1, some .int, [])
theorem pn_X4_latest : plainName (kX4_latest : jM).1.cls = true := by decide +kernel
theorem mo_X4_latest : jmV kX4_latest 0 := ⟨rfl, j_tb (List.mem_of_getElem? (i := 357) (by decide +kernel)), j_tb (List.mem_of_getElem? (i := 356) (by decide +kernel)), List.mem_append_left _ (by decide +kernel), j_tb (List.mem_of_getElem? (i := 6) (by decide +kernel)), by decide +kernel, by decide +kernel⟩
abbrev kX4_isComplete : jM := (yX4_isComplete, cX4_isComplete, 1, some .boolean, [])
theorem pn_X4_isComplete : plainName (kX4_isComplete : jM).1.cls = true := by decide +kernel
theorem mo_X4_isComplete : jmV kX4_isComplete 0 := ⟨rfl, j_tb (List.mem_of_getElem? (i := 353) (by decide +kernel)), j_tb (List.mem_of_getElem? (i := 351) (by decide +kernel)), j_tb (List.mem_of_getElem? (i := 352) (by decide +kernel)), j_tb (List.mem_of_getElem? (i := 6) (by decide +kernel)), by decide +kernel, by decide +kernel⟩
abbrev kX4_read : jM := (yX4_read, cX4_read, 2, some .boolean, [])
theorem pn_X4_read : plainName (kX4_read : jM).1.cls = true := by decide +kernel
theorem mo_X4_read : jmV kX4_read 1 := ⟨rfl, j_tb (List.mem_of_getElem? (i := 345) (by decide +kernel)), j_tb (List.mem_of_getElem? (i := 343) (by decide +kernel)), j_tb (List.mem_of_getElem? (i := 344) (by decide +kernel)), j_tb (List.mem_of_getElem? (i := 6) (by decide +kernel)), by decide +kernel, by decide +kernel⟩
abbrev kX4_step : jM := (yX4_step, cX4_step, 3, some .boolean, [])
theorem pn_X4_step : plainName (kX4_step : jM).1.cls = true := by decide +kernel
theorem mo_X4_step : jmV kX4_step 2 := ⟨rfl, j_tb (List.mem_of_getElem? (i := 363) (by decide +kernel)), j_tb (List.mem_of_getElem? (i := 362) (by decide +kernel)), List.mem_append_left _ (by decide +kernel), j_tb (List.mem_of_getElem? (i := 6) (by decide +kernel)), by decide +kernel, by decide +kernel⟩
abbrev kX4_readComma : jM := (yX4_readComma, cX4_readComma, 1, some .boolean, [])
theorem pn_X4_readComma : plainName (kX4_readComma : jM).1.cls = true := by decide +kernel
theorem mo_X4_readComma : jmV kX4_readComma 0 := ⟨rfl, j_tb (List.mem_of_getElem? (i := 349) (by decide +kernel)), j_tb (List.mem_of_getElem? (i := 348) (by decide +kernel)), List.mem_append_left _ (by decide +kernel), j_tb (List.mem_of_getElem? (i := 6) (by decide +kernel)), by decide +kernel, by decide +kernel⟩
abbrev kX4_readAtSign : jM := (yX4_readAtSign, cX4_readAtSign, 1, some .boolean, [])
theorem pn_X4_readAtSign : plainName (kX4_readAtSign : jM).1.cls = true := by decide +kernel
theorem mo_X4_readAtSign : jmV kX4_readAtSign 0 := ⟨rfl, j_tb (List.mem_of_getElem? (i := 367) (by decide +kernel)), j_tb (List.mem_of_getElem? (i := 366) (by decide +kernel)), List.mem_append_left _ (by decide +kernel), j_tb (List.mem_of_getElem? (i := 6) (by decide +kernel)), by decide +kernel, by decide +kernel⟩
abbrev kX4_readDigit : jM := (yX4_readDigit, cX4_readDigit, 2, some .boolean, [])
theorem pn_X4_readDigit : plainName (kX4_readDigit : jM).1.cls = true := by decide +kernel
theorem mo_X4_readDigit : jmV kX4_readDigit 1 := ⟨rfl, j_tb (List.mem_of_getElem? (i := 372) (by decide +kernel)), j_tb (List.mem_of_getElem? (i := 371) (by decide +kernel)), List.mem_append_left _ (by decide +kernel), j_tb (List.mem_of_getElem? (i := 6) (by decide +kernel)), by decide +kernel, by decide +kernel⟩
abbrev kX4_grow : jM := (yX4_grow, cX4_grow, 7, some .boolean, [])
theorem pn_X4_grow : plainName (kX4_grow : jM).1.cls = true := by decide +kernel
theorem mo_X4_grow : jmV kX4_grow 4 := ⟨rfl, j_tb (List.mem_of_getElem? (i := 376) (by decide +kernel)), j_tb (List.mem_of_getElem? (i := 375) (by decide +kernel)), List.mem_append_left _ (by decide +kernel), j_tb (List.mem_of_getElem? (i := 6) (by decide +kernel)), by decide +kernel, by decide +kernel⟩
abbrev kX5_init : jM := (yX5_init, cX5_init, 1, none, [])
theorem pn_X5_init : plainName (kX5_init : jM).1.cls = true := by decide +kernel
theorem mo_X5_init : jmI kX5_init 0 := ⟨rfl, j_tb (List.mem_of_getElem? (i := 31) (by decide +kernel)), rfl, rfl, j_tb (List.mem_of_getElem? (i := 30) (by decide +kernel)), j_tb (List.mem_of_getElem? (i := 2) (by decide +kernel)), by decide +kernel, by decide +kernel⟩
abbrev kX5_reelAt : jM := (yX5_reelAt, cX5_reelAt, 2, some (.object "CueSheets$Reel"), [])
theorem pn_X5_reelAt : plainName (kX5_reelAt : jM).1.cls = true := by decide +kernel
theorem mo_X5_reelAt : jmV kX5_reelAt 1 := ⟨rfl, j_tb (List.mem_of_getElem? (i := 398) (by decide +kernel)), j_tb (List.mem_of_getElem? (i := 396) (by decide +kernel)), j_tb (List.mem_of_getElem? (i := 397) (by decide +kernel)), j_tb (List.mem_of_getElem? (i := 2) (by decide +kernel)), by decide +kernel, by decide +kernel⟩
abbrev kX5_pieces : jM := (yX5_pieces, cX5_pieces, 1, some .int, [])
theorem pn_X5_pieces : plainName (kX5_pieces : jM).1.cls = true := by decide +kernel
theorem mo_X5_pieces : jmV kX5_pieces 0 := ⟨rfl, j_tb (List.mem_of_getElem? (i := 389) (by decide +kernel)), j_tb (List.mem_of_getElem? (i := 387) (by decide +kernel)), j_tb (List.mem_of_getElem? (i := 388) (by decide +kernel)), j_tb (List.mem_of_getElem? (i := 2) (by decide +kernel)), by decide +kernel, by decide +kernel⟩
abbrev kX5_hasPiece : jM := (yX5_hasPiece, cX5_hasPiece, 2, some .boolean, [])
theorem pn_X5_hasPiece : plainName (kX5_hasPiece : jM).1.cls = true := by decide +kernel
theorem mo_X5_hasPiece : jmV kX5_hasPiece 1 := ⟨rfl, j_tb (List.mem_of_getElem? (i := 772) (by decide +kernel)), j_tb (List.mem_of_getElem? (i := 770) (by decide +kernel)), j_tb (List.mem_of_getElem? (i := 771) (by decide +kernel)), j_tb (List.mem_of_getElem? (i := 2) (by decide +kernel)), by decide +kernel, by decide +kernel⟩
abbrev kX5_cuesWith : jM := (yX5_cuesWith, cX5_cuesWith, 6, some .int, [])
theorem pn_X5_cuesWith : plainName (kX5_cuesWith : jM).1.cls = true := by decide +kernel
theorem mo_X5_cuesWith : jmV kX5_cuesWith 1 := ⟨rfl, j_tb (List.mem_of_getElem? (i := 472) (by decide +kernel)), j_tb (List.mem_of_getElem? (i := 470) (by decide +kernel)), j_tb (List.mem_of_getElem? (i := 471) (by decide +kernel)), j_tb (List.mem_of_getElem? (i := 2) (by decide +kernel)), by decide +kernel, by decide +kernel⟩
abbrev kX5_playTime : jM := (yX5_playTime, cX5_playTime, 4, some .int, [])
theorem pn_X5_playTime : plainName (kX5_playTime : jM).1.cls = true := by decide +kernel
theorem mo_X5_playTime : jmV kX5_playTime 3 := ⟨rfl, j_tb (List.mem_of_getElem? (i := 447) (by decide +kernel)), j_tb (List.mem_of_getElem? (i := 445) (by decide +kernel)), j_tb (List.mem_of_getElem? (i := 446) (by decide +kernel)), j_tb (List.mem_of_getElem? (i := 2) (by decide +kernel)), by decide +kernel, by decide +kernel⟩
abbrev kX5_timeAtPace : jM := (yX5_timeAtPace, cX5_timeAtPace, 2, some .int, [])
theorem pn_X5_timeAtPace : plainName (kX5_timeAtPace : jM).1.cls = true := by decide +kernel
theorem mo_X5_timeAtPace : jmS kX5_timeAtPace 2 := ⟨rfl, j_tb (List.mem_of_getElem? (i := 451) (by decide +kernel)), j_tb (List.mem_of_getElem? (i := 450) (by decide +kernel)), j_tb (List.mem_of_getElem? (i := 2) (by decide +kernel)), by decide +kernel, by decide +kernel⟩
abbrev kX5_isBad : jM := (yX5_isBad, cX5_isBad, 2, some .boolean, [])
theorem pn_X5_isBad : plainName (kX5_isBad : jM).1.cls = true := by decide +kernel
theorem mo_X5_isBad : jmV kX5_isBad 1 := ⟨rfl, j_tb (List.mem_of_getElem? (i := 458) (by decide +kernel)), j_tb (List.mem_of_getElem? (i := 456) (by decide +kernel)), j_tb (List.mem_of_getElem? (i := 457) (by decide +kernel)), j_tb (List.mem_of_getElem? (i := 2) (by decide +kernel)), by decide +kernel, by decide +kernel⟩
abbrev kX5_takeFrom : jM := (yX5_takeFrom, cX5_takeFrom, 2, none, [])
theorem pn_X5_takeFrom : plainName (kX5_takeFrom : jM).1.cls = true := by decide +kernel
theorem mo_X5_takeFrom : jmV kX5_takeFrom 1 := ⟨rfl, j_tb (List.mem_of_getElem? (i := 682) (by decide +kernel)), j_tb (List.mem_of_getElem? (i := 680) (by decide +kernel)), j_tb (List.mem_of_getElem? (i := 681) (by decide +kernel)), j_tb (List.mem_of_getElem? (i := 2) (by decide +kernel)), by decide +kernel, by decide +kernel⟩
abbrev kX6_init : jM := (yX6_init, cX6_init, 1, none, [])
theorem pn_X6_init : plainName (kX6_init : jM).1.cls = true := by decide +kernel
theorem mo_X6_init : jmI kX6_init 0 := ⟨rfl, j_tb (List.mem_of_getElem? (i := 205) (by decide +kernel)), rfl, rfl, j_tb (List.mem_of_getElem? (i := 204) (by decide +kernel)), j_tb (List.mem_of_getElem? (i := 7) (by decide +kernel)), by decide +kernel, by decide +kernel⟩
abbrev kX6_measure : jM := (yX6_measure, cX6_measure, 8, none, [])
theorem pn_X6_measure : plainName (kX6_measure : jM).1.cls = true := by decide +kernel
theorem mo_X6_measure : jmV kX6_measure 3 := ⟨rfl, j_tb (List.mem_of_getElem? (i := 402) (by decide +kernel)), j_tb (List.mem_of_getElem? (i := 400) (by decide +kernel)), j_tb (List.mem_of_getElem? (i := 401) (by decide +kernel)), j_tb (List.mem_of_getElem? (i := 7) (by decide +kernel)), by decide +kernel, by decide +kernel⟩
abbrev kX6_clear : jM := (yX6_clear, cX6_clear, 1, none, [])
theorem pn_X6_clear : plainName (kX6_clear : jM).1.cls = true := by decide +kernel
theorem mo_X6_clear : jmV kX6_clear 0 := ⟨rfl, j_tb (List.mem_of_getElem? (i := 406) (by decide +kernel)), j_tb (List.mem_of_getElem? (i := 405) (by decide +kernel)), List.mem_append_left _ (by decide +kernel), j_tb (List.mem_of_getElem? (i := 7) (by decide +kernel)), by decide +kernel, by decide +kernel⟩
abbrev kX6_measureCue : jM := (yX6_measureCue, cX6_measureCue, 6, none, [])
theorem pn_X6_measureCue : plainName (kX6_measureCue : jM).1.cls = true := by decide +kernel
theorem mo_X6_measureCue : jmV kX6_measureCue 3 := ⟨rfl, j_tb (List.mem_of_getElem? (i := 437) (by decide +kernel)), j_tb (List.mem_of_getElem? (i := 436) (by decide +kernel)), List.mem_append_left _ (by decide +kernel), j_tb (List.mem_of_getElem? (i := 7) (by decide +kernel)), by decide +kernel, by decide +kernel⟩
abbrev kX6_roomForCue : jM := (yX6_roomForCue, cX6_roomForCue, 2, some .int, [])
theorem pn_X6_roomForCue : plainName (kX6_roomForCue : jM).1.cls = true := by decide +kernel
theorem mo_X6_roomForCue : jmV kX6_roomForCue 1 := ⟨rfl, j_tb (List.mem_of_getElem? (i := 500) (by decide +kernel)), j_tb (List.mem_of_getElem? (i := 498) (by decide +kernel)), j_tb (List.mem_of_getElem? (i := 499) (by decide +kernel)), j_tb (List.mem_of_getElem? (i := 7) (by decide +kernel)), by decide +kernel, by decide +kernel⟩
abbrev kX6_silence : jM := (yX6_silence, cX6_silence, 4, some .int, [])
theorem pn_X6_silence : plainName (kX6_silence : jM).1.cls = true := by decide +kernel
theorem mo_X6_silence : jmV kX6_silence 1 := ⟨rfl, j_tb (List.mem_of_getElem? (i := 489) (by decide +kernel)), j_tb (List.mem_of_getElem? (i := 487) (by decide +kernel)), j_tb (List.mem_of_getElem? (i := 488) (by decide +kernel)), j_tb (List.mem_of_getElem? (i := 7) (by decide +kernel)), by decide +kernel, by decide +kernel⟩
abbrev kX7_init : jM := (yX7_init, cX7_init, 2, none, [])
theorem pn_X7_init : plainName (kX7_init : jM).1.cls = true := by decide +kernel
theorem mo_X7_init : jmI kX7_init 0 := ⟨rfl, j_tb (List.mem_of_getElem? (i := 23) (by decide +kernel)), rfl, rfl, j_tb (List.mem_of_getElem? (i := 22) (by decide +kernel)), j_tb (List.mem_of_getElem? (i := 1) (by decide +kernel)), by decide +kernel, by decide +kernel⟩
abbrev kX7_addScene : jM := (yX7_addScene, cX7_addScene, 4, some .int, [])
theorem pn_X7_addScene : plainName (kX7_addScene : jM).1.cls = true := by decide +kernel
theorem mo_X7_addScene : jmV kX7_addScene 2 := ⟨rfl, j_tb (List.mem_of_getElem? (i := 563) (by decide +kernel)), j_tb (List.mem_of_getElem? (i := 561) (by decide +kernel)), j_tb (List.mem_of_getElem? (i := 562) (by decide +kernel)), j_tb (List.mem_of_getElem? (i := 1) (by decide +kernel)), by decide +kernel, by decide +kernel⟩
abbrev kX7_removeScene : jM := (yX7_removeScene, cX7_removeScene, 4, some .int, [])
theorem pn_X7_removeScene : plainName (kX7_removeScene : jM).1.cls = true := by decide +kernel
theorem mo_X7_removeScene : jmV kX7_removeScene 2 := ⟨rfl, j_tb (List.mem_of_getElem? (i := 709) (by decide +kernel)), j_tb (List.mem_of_getElem? (i := 707) (by decide +kernel)), j_tb (List.mem_of_getElem? (i := 708) (by decide +kernel)), j_tb (List.mem_of_getElem? (i := 1) (by decide +kernel)), by decide +kernel, by decide +kernel⟩
abbrev kX7_crank : jM := (yX7_crank, cX7_crank, 5, some .int, [])
theorem pn_X7_crank : plainName (kX7_crank : jM).1.cls = true := by decide +kernel
theorem mo_X7_crank : jmV kX7_crank 3 := ⟨rfl, j_tb (List.mem_of_getElem? (i := 729) (by decide +kernel)), j_tb (List.mem_of_getElem? (i := 727) (by decide +kernel)), j_tb (List.mem_of_getElem? (i := 728) (by decide +kernel)), j_tb (List.mem_of_getElem? (i := 1) (by decide +kernel)), by decide +kernel, by decide +kernel⟩
abbrev kX7_splice : jM := (yX7_splice, cX7_splice, 5, some .int, [])
theorem pn_X7_splice : plainName (kX7_splice : jM).1.cls = true := by decide +kernel
theorem mo_X7_splice : jmV kX7_splice 3 := ⟨rfl, j_tb (List.mem_of_getElem? (i := 742) (by decide +kernel)), j_tb (List.mem_of_getElem? (i := 740) (by decide +kernel)), j_tb (List.mem_of_getElem? (i := 741) (by decide +kernel)), j_tb (List.mem_of_getElem? (i := 1) (by decide +kernel)), by decide +kernel, by decide +kernel⟩
abbrev kX7_addPiece : jM := (yX7_addPiece, cX7_addPiece, 4, some .int, [])
theorem pn_X7_addPiece : plainName (kX7_addPiece : jM).1.cls = true := by decide +kernel
theorem mo_X7_addPiece : jmV kX7_addPiece 3 := ⟨rfl, j_tb (List.mem_of_getElem? (i := 755) (by decide +kernel)), j_tb (List.mem_of_getElem? (i := 753) (by decide +kernel)), j_tb (List.mem_of_getElem? (i := 754) (by decide +kernel)), j_tb (List.mem_of_getElem? (i := 1) (by decide +kernel)), by decide +kernel, by decide +kernel⟩
abbrev kX7_setCue : jM := (yX7_setCue, cX7_setCue, 7, some .int, [])
theorem pn_X7_setCue : plainName (kX7_setCue : jM).1.cls = true := by decide +kernel
theorem mo_X7_setCue : jmV kX7_setCue 5 := ⟨rfl, j_tb (List.mem_of_getElem? (i := 764) (by decide +kernel)), j_tb (List.mem_of_getElem? (i := 762) (by decide +kernel)), j_tb (List.mem_of_getElem? (i := 763) (by decide +kernel)), j_tb (List.mem_of_getElem? (i := 1) (by decide +kernel)), by decide +kernel, by decide +kernel⟩
abbrev kX7_fit : jM := (yX7_fit, cX7_fit, 5, some .int, [])
theorem pn_X7_fit : plainName (kX7_fit : jM).1.cls = true := by decide +kernel
theorem mo_X7_fit : jmV kX7_fit 1 := ⟨rfl, j_tb (List.mem_of_getElem? (i := 786) (by decide +kernel)), j_tb (List.mem_of_getElem? (i := 784) (by decide +kernel)), j_tb (List.mem_of_getElem? (i := 785) (by decide +kernel)), j_tb (List.mem_of_getElem? (i := 1) (by decide +kernel)), by decide +kernel, by decide +kernel⟩
abbrev kX7_set : jM := (yX7_set, cX7_set, 4, some .int, [])
theorem pn_X7_set : plainName (kX7_set : jM).1.cls = true := by decide +kernel
theorem mo_X7_set : jmV kX7_set 2 := ⟨rfl, j_tb (List.mem_of_getElem? (i := 797) (by decide +kernel)), j_tb (List.mem_of_getElem? (i := 795) (by decide +kernel)), j_tb (List.mem_of_getElem? (i := 796) (by decide +kernel)), j_tb (List.mem_of_getElem? (i := 1) (by decide +kernel)), by decide +kernel, by decide +kernel⟩
abbrev kX7_append : jM := (yX7_append, cX7_append, 2, some .int, [])
theorem pn_X7_append : plainName (kX7_append : jM).1.cls = true := by decide +kernel
theorem mo_X7_append : jmV kX7_append 1 := ⟨rfl, j_tb (List.mem_of_getElem? (i := 804) (by decide +kernel)), j_tb (List.mem_of_getElem? (i := 802) (by decide +kernel)), j_tb (List.mem_of_getElem? (i := 803) (by decide +kernel)), j_tb (List.mem_of_getElem? (i := 1) (by decide +kernel)), by decide +kernel, by decide +kernel⟩
abbrev kX7_clearBuffer : jM := (yX7_clearBuffer, cX7_clearBuffer, 2, some .int, [])
theorem pn_X7_clearBuffer : plainName (kX7_clearBuffer : jM).1.cls = true := by decide +kernel
theorem mo_X7_clearBuffer : jmV kX7_clearBuffer 0 := ⟨rfl, j_tb (List.mem_of_getElem? (i := 316) (by decide +kernel)), j_tb (List.mem_of_getElem? (i := 314) (by decide +kernel)), j_tb (List.mem_of_getElem? (i := 315) (by decide +kernel)), j_tb (List.mem_of_getElem? (i := 1) (by decide +kernel)), by decide +kernel, by decide +kernel⟩
abbrev kX7_firstError : jM := (yX7_firstError, cX7_firstError, 1, some .int, [])
theorem pn_X7_firstError : plainName (kX7_firstError : jM).1.cls = true := by decide +kernel
theorem mo_X7_firstError : jmV kX7_firstError 0 := ⟨rfl, j_tb (List.mem_of_getElem? (i := 325) (by decide +kernel)), j_tb (List.mem_of_getElem? (i := 323) (by decide +kernel)), j_tb (List.mem_of_getElem? (i := 324) (by decide +kernel)), j_tb (List.mem_of_getElem? (i := 1) (by decide +kernel)), by decide +kernel, by decide +kernel⟩
abbrev kX7_load : jM := (yX7_load, cX7_load, 4, some .int, [])
theorem pn_X7_load : plainName (kX7_load : jM).1.cls = true := by decide +kernel
theorem mo_X7_load : jmV kX7_load 1 := ⟨rfl, j_tb (List.mem_of_getElem? (i := 812) (by decide +kernel)), j_tb (List.mem_of_getElem? (i := 810) (by decide +kernel)), j_tb (List.mem_of_getElem? (i := 811) (by decide +kernel)), j_tb (List.mem_of_getElem? (i := 1) (by decide +kernel)), by decide +kernel, by decide +kernel⟩
abbrev kX7_undo : jM := (yX7_undo, cX7_undo, 2, some .int, [])
theorem pn_X7_undo : plainName (kX7_undo : jM).1.cls = true := by decide +kernel
theorem mo_X7_undo : jmV kX7_undo 0 := ⟨rfl, j_tb (List.mem_of_getElem? (i := 830) (by decide +kernel)), j_tb (List.mem_of_getElem? (i := 828) (by decide +kernel)), j_tb (List.mem_of_getElem? (i := 829) (by decide +kernel)), j_tb (List.mem_of_getElem? (i := 1) (by decide +kernel)), by decide +kernel, by decide +kernel⟩
abbrev kX7_scene : jM := (yX7_scene, cX7_scene, 5, some .int, [])
theorem pn_X7_scene : plainName (kX7_scene : jM).1.cls = true := by decide +kernel
theorem mo_X7_scene : jmV kX7_scene 3 := ⟨rfl, j_tb (List.mem_of_getElem? (i := 838) (by decide +kernel)), j_tb (List.mem_of_getElem? (i := 836) (by decide +kernel)), j_tb (List.mem_of_getElem? (i := 837) (by decide +kernel)), j_tb (List.mem_of_getElem? (i := 1) (by decide +kernel)), by decide +kernel, by decide +kernel⟩
abbrev kX7_reel : jM := (yX7_reel, cX7_reel, 4, some .int, [])
theorem pn_X7_reel : plainName (kX7_reel : jM).1.cls = true := by decide +kernel
theorem mo_X7_reel : jmV kX7_reel 2 := ⟨rfl, j_tb (List.mem_of_getElem? (i := 845) (by decide +kernel)), j_tb (List.mem_of_getElem? (i := 843) (by decide +kernel)), j_tb (List.mem_of_getElem? (i := 844) (by decide +kernel)), j_tb (List.mem_of_getElem? (i := 1) (by decide +kernel)), by decide +kernel, by decide +kernel⟩
abbrev kX7_speedAt : jM := (yX7_speedAt, cX7_speedAt, 3, some .int, [])
theorem pn_X7_speedAt : plainName (kX7_speedAt : jM).1.cls = true := by decide +kernel
theorem mo_X7_speedAt : jmV kX7_speedAt 2 := ⟨rfl, j_tb (List.mem_of_getElem? (i := 852) (by decide +kernel)), j_tb (List.mem_of_getElem? (i := 850) (by decide +kernel)), j_tb (List.mem_of_getElem? (i := 851) (by decide +kernel)), j_tb (List.mem_of_getElem? (i := 1) (by decide +kernel)), by decide +kernel, by decide +kernel⟩
abbrev kX7_piece : jM := (yX7_piece, cX7_piece, 3, some .int, [])
theorem pn_X7_piece : plainName (kX7_piece : jM).1.cls = true := by decide +kernel
theorem mo_X7_piece : jmV kX7_piece 2 := ⟨rfl, j_tb (List.mem_of_getElem? (i := 859) (by decide +kernel)), j_tb (List.mem_of_getElem? (i := 857) (by decide +kernel)), j_tb (List.mem_of_getElem? (i := 858) (by decide +kernel)), j_tb (List.mem_of_getElem? (i := 1) (by decide +kernel)), by decide +kernel, by decide +kernel⟩
abbrev kX7_count : jM := (yX7_count, cX7_count, 2, some .int, [])
theorem pn_X7_count : plainName (kX7_count : jM).1.cls = true := by decide +kernel
theorem mo_X7_count : jmV kX7_count 1 := ⟨rfl, j_tb (List.mem_of_getElem? (i := 866) (by decide +kernel)), j_tb (List.mem_of_getElem? (i := 864) (by decide +kernel)), j_tb (List.mem_of_getElem? (i := 865) (by decide +kernel)), j_tb (List.mem_of_getElem? (i := 1) (by decide +kernel)), by decide +kernel, by decide +kernel⟩
abbrev kX7_bestCue : jM := (yX7_bestCue, cX7_bestCue, 4, some .int, [])
theorem pn_X7_bestCue : plainName (kX7_bestCue : jM).1.cls = true := by decide +kernel
theorem mo_X7_bestCue : jmV kX7_bestCue 3 := ⟨rfl, j_tb (List.mem_of_getElem? (i := 873) (by decide +kernel)), j_tb (List.mem_of_getElem? (i := 871) (by decide +kernel)), j_tb (List.mem_of_getElem? (i := 872) (by decide +kernel)), j_tb (List.mem_of_getElem? (i := 1) (by decide +kernel)), by decide +kernel, by decide +kernel⟩
abbrev kX7_bestPiece : jM := (yX7_bestPiece, cX7_bestPiece, 3, some .int, [])
theorem pn_X7_bestPiece : plainName (kX7_bestPiece : jM).1.cls = true := by decide +kernel
theorem mo_X7_bestPiece : jmV kX7_bestPiece 2 := ⟨rfl, j_tb (List.mem_of_getElem? (i := 880) (by decide +kernel)), j_tb (List.mem_of_getElem? (i := 878) (by decide +kernel)), j_tb (List.mem_of_getElem? (i := 879) (by decide +kernel)), j_tb (List.mem_of_getElem? (i := 1) (by decide +kernel)), by decide +kernel, by decide +kernel⟩
abbrev kX7_ifCranked : jM := (yX7_ifCranked, cX7_ifCranked, 3, some .int, [])
theorem pn_X7_ifCranked : plainName (kX7_ifCranked : jM).1.cls = true := by decide +kernel
theorem mo_X7_ifCranked : jmV kX7_ifCranked 2 := ⟨rfl, j_tb (List.mem_of_getElem? (i := 887) (by decide +kernel)), j_tb (List.mem_of_getElem? (i := 885) (by decide +kernel)), j_tb (List.mem_of_getElem? (i := 886) (by decide +kernel)), j_tb (List.mem_of_getElem? (i := 1) (by decide +kernel)), by decide +kernel, by decide +kernel⟩
abbrev kX7_bestSpeed : jM := (yX7_bestSpeed, cX7_bestSpeed, 2, some .int, [])
theorem pn_X7_bestSpeed : plainName (kX7_bestSpeed : jM).1.cls = true := by decide +kernel
theorem mo_X7_bestSpeed : jmV kX7_bestSpeed 1 := ⟨rfl, j_tb (List.mem_of_getElem? (i := 894) (by decide +kernel)), j_tb (List.mem_of_getElem? (i := 892) (by decide +kernel)), j_tb (List.mem_of_getElem? (i := 893) (by decide +kernel)), j_tb (List.mem_of_getElem? (i := 1) (by decide +kernel)), by decide +kernel, by decide +kernel⟩
abbrev kX7_offShare : jM := (yX7_offShare, cX7_offShare, 2, some .float, [])
theorem pn_X7_offShare : plainName (kX7_offShare : jM).1.cls = true := by decide +kernel
theorem mo_X7_offShare : jmV kX7_offShare 1 := ⟨rfl, j_tb (List.mem_of_getElem? (i := 901) (by decide +kernel)), j_tb (List.mem_of_getElem? (i := 899) (by decide +kernel)), j_tb (List.mem_of_getElem? (i := 900) (by decide +kernel)), j_tb (List.mem_of_getElem? (i := 1) (by decide +kernel)), by decide +kernel, by decide +kernel⟩
abbrev kX7_meanSpeed : jM := (yX7_meanSpeed, cX7_meanSpeed, 2, some .double, [])
theorem pn_X7_meanSpeed : plainName (kX7_meanSpeed : jM).1.cls = true := by decide +kernel
theorem mo_X7_meanSpeed : jmV kX7_meanSpeed 1 := ⟨rfl, j_tb (List.mem_of_getElem? (i := 908) (by decide +kernel)), j_tb (List.mem_of_getElem? (i := 906) (by decide +kernel)), j_tb (List.mem_of_getElem? (i := 907) (by decide +kernel)), j_tb (List.mem_of_getElem? (i := 1) (by decide +kernel)), by decide +kernel, by decide +kernel⟩
abbrev kX7_digest : jM := (yX7_digest, cX7_digest, 5, some .long, [])
theorem pn_X7_digest : plainName (kX7_digest : jM).1.cls = true := by decide +kernel
theorem mo_X7_digest : jmV kX7_digest 0 := ⟨rfl, j_tb (List.mem_of_getElem? (i := 380) (by decide +kernel)), j_tb (List.mem_of_getElem? (i := 378) (by decide +kernel)), j_tb (List.mem_of_getElem? (i := 379) (by decide +kernel)), j_tb (List.mem_of_getElem? (i := 1) (by decide +kernel)), by decide +kernel, by decide +kernel⟩
abbrev kX7_requireReel : jM := (yX7_requireReel, cX7_requireReel, 2, none, [])
theorem pn_X7_requireReel : plainName (kX7_requireReel : jM).1.cls = true := by decide +kernel
theorem mo_X7_requireReel : jmV kX7_requireReel 1 := ⟨rfl, j_tb (List.mem_of_getElem? (i := 567) (by decide +kernel)), j_tb (List.mem_of_getElem? (i := 566) (by decide +kernel)), List.mem_append_left _ (by decide +kernel), j_tb (List.mem_of_getElem? (i := 1) (by decide +kernel)), by decide +kernel, by decide +kernel⟩
abbrev kX7_requireScene : jM := (yX7_requireScene, cX7_requireScene, 3, none, [])
theorem pn_X7_requireScene : plainName (kX7_requireScene : jM).1.cls = true := by decide +kernel
theorem mo_X7_requireScene : jmV kX7_requireScene 2 := ⟨rfl, j_tb (List.mem_of_getElem? (i := 713) (by decide +kernel)), j_tb (List.mem_of_getElem? (i := 712) (by decide +kernel)), List.mem_append_left _ (by decide +kernel), j_tb (List.mem_of_getElem? (i := 1) (by decide +kernel)), by decide +kernel, by decide +kernel⟩
abbrev kX7_requirePiece : jM := (yX7_requirePiece, cX7_requirePiece, 2, none, [])
theorem pn_X7_requirePiece : plainName (kX7_requirePiece : jM).1.cls = true := by decide +kernel
theorem mo_X7_requirePiece : jmV kX7_requirePiece 1 := ⟨rfl, j_tb (List.mem_of_getElem? (i := 768) (by decide +kernel)), j_tb (List.mem_of_getElem? (i := 767) (by decide +kernel)), List.mem_append_left _ (by decide +kernel), j_tb (List.mem_of_getElem? (i := 1) (by decide +kernel)), by decide +kernel, by decide +kernel⟩
abbrev kX7_requireRange : jM := (yX7_requireRange, cX7_requireRange, 3, none, [])
theorem pn_X7_requireRange : plainName (kX7_requireRange : jM).1.cls = true := by decide +kernel
theorem mo_X7_requireRange : jmS kX7_requireRange 3 := ⟨rfl, j_tb (List.mem_of_getElem? (i := 638) (by decide +kernel)), j_tb (List.mem_of_getElem? (i := 637) (by decide +kernel)), j_tb (List.mem_of_getElem? (i := 1) (by decide +kernel)), by decide +kernel, by decide +kernel⟩
abbrev kX7_save : jM := (yX7_save, cX7_save, 2, none, [])
theorem pn_X7_save : plainName (kX7_save : jM).1.cls = true := by decide +kernel
theorem mo_X7_save : jmV kX7_save 0 := ⟨rfl, j_tb (List.mem_of_getElem? (i := 674) (by decide +kernel)), j_tb (List.mem_of_getElem? (i := 673) (by decide +kernel)), List.mem_append_left _ (by decide +kernel), j_tb (List.mem_of_getElem? (i := 1) (by decide +kernel)), by decide +kernel, by decide +kernel⟩
abbrev kX7_savedAt : jM := (yX7_savedAt, cX7_savedAt, 3, some (.object "CueSheets$State"), [])
theorem pn_X7_savedAt : plainName (kX7_savedAt : jM).1.cls = true := by decide +kernel
theorem mo_X7_savedAt : jmV kX7_savedAt 1 := ⟨rfl, j_tb (List.mem_of_getElem? (i := 678) (by decide +kernel)), j_tb (List.mem_of_getElem? (i := 677) (by decide +kernel)), List.mem_append_left _ (by decide +kernel), j_tb (List.mem_of_getElem? (i := 1) (by decide +kernel)), by decide +kernel, by decide +kernel⟩
abbrev kX7_readBuffer : jM := (yX7_readBuffer, cX7_readBuffer, 2, some .int, [])
theorem pn_X7_readBuffer : plainName (kX7_readBuffer : jM).1.cls = true := by decide +kernel
theorem mo_X7_readBuffer : jmV kX7_readBuffer 0 := ⟨rfl, j_tb (List.mem_of_getElem? (i := 329) (by decide +kernel)), j_tb (List.mem_of_getElem? (i := 328) (by decide +kernel)), List.mem_append_left _ (by decide +kernel), j_tb (List.mem_of_getElem? (i := 1) (by decide +kernel)), by decide +kernel, by decide +kernel⟩
abbrev kX7_hasPiecesThatWereRead : jM := (yX7_hasPiecesThatWereRead, cX7_hasPiecesThatWereRead, 3, some .boolean, [])
theorem pn_X7_hasPiecesThatWereRead : plainName (kX7_hasPiecesThatWereRead : jM).1.cls = true := by decide +kernel
theorem mo_X7_hasPiecesThatWereRead : jmV kX7_hasPiecesThatWereRead 0 := ⟨rfl, j_tb (List.mem_of_getElem? (i := 822) (by decide +kernel)), j_tb (List.mem_of_getElem? (i := 821) (by decide +kernel)), List.mem_append_left _ (by decide +kernel), j_tb (List.mem_of_getElem? (i := 1) (by decide +kernel)), by decide +kernel, by decide +kernel⟩
abbrev kX7_fitScene : jM := (yX7_fitScene, cX7_fitScene, 5, some .boolean, [])
theorem pn_X7_fitScene : plainName (kX7_fitScene : jM).1.cls = true := by decide +kernel
theorem mo_X7_fitScene : jmV kX7_fitScene 2 := ⟨rfl, j_tb (List.mem_of_getElem? (i := 790) (by decide +kernel)), j_tb (List.mem_of_getElem? (i := 789) (by decide +kernel)), List.mem_append_left _ (by decide +kernel), j_tb (List.mem_of_getElem? (i := 1) (by decide +kernel)), by decide +kernel, by decide +kernel⟩
abbrev kX7_pieceForRoom : jM := (yX7_pieceForRoom, cX7_pieceForRoom, 5, some .int, [])
theorem pn_X7_pieceForRoom : plainName (kX7_pieceForRoom : jM).1.cls = true := by decide +kernel
theorem mo_X7_pieceForRoom : jmV kX7_pieceForRoom 1 := ⟨rfl, j_tb (List.mem_of_getElem? (i := 504) (by decide +kernel)), j_tb (List.mem_of_getElem? (i := 503) (by decide +kernel)), List.mem_append_left _ (by decide +kernel), j_tb (List.mem_of_getElem? (i := 1) (by decide +kernel)), by decide +kernel, by decide +kernel⟩
abbrev kX7_speedForReel : jM := (yX7_speedForReel, cX7_speedForReel, 5, some .int, [])
theorem pn_X7_speedForReel : plainName (kX7_speedForReel : jM).1.cls = true := by decide +kernel
theorem mo_X7_speedForReel : jmV kX7_speedForReel 1 := ⟨rfl, j_tb (List.mem_of_getElem? (i := 529) (by decide +kernel)), j_tb (List.mem_of_getElem? (i := 528) (by decide +kernel)), List.mem_append_left _ (by decide +kernel), j_tb (List.mem_of_getElem? (i := 1) (by decide +kernel)), by decide +kernel, by decide +kernel⟩
abbrev kX7_sceneProperty : jM := (yX7_sceneProperty, cX7_sceneProperty, 4, some .int, [])
theorem pn_X7_sceneProperty : plainName (kX7_sceneProperty : jM).1.cls = true := by decide +kernel
theorem mo_X7_sceneProperty : jmV kX7_sceneProperty 3 := ⟨rfl, j_tb (List.mem_of_getElem? (i := 494) (by decide +kernel)), j_tb (List.mem_of_getElem? (i := 493) (by decide +kernel)), List.mem_append_left _ (by decide +kernel), j_tb (List.mem_of_getElem? (i := 1) (by decide +kernel)), by decide +kernel, by decide +kernel⟩
abbrev kX7_reelProperty : jM := (yX7_reelProperty, cX7_reelProperty, 3, some .int, [])
theorem pn_X7_reelProperty : plainName (kX7_reelProperty : jM).1.cls = true := by decide +kernel
theorem mo_X7_reelProperty : jmV kX7_reelProperty 2 := ⟨rfl, j_tb (List.mem_of_getElem? (i := 481) (by decide +kernel)), j_tb (List.mem_of_getElem? (i := 480) (by decide +kernel)), List.mem_append_left _ (by decide +kernel), j_tb (List.mem_of_getElem? (i := 1) (by decide +kernel)), by decide +kernel, by decide +kernel⟩
abbrev kX7_pieceProperty : jM := (yX7_pieceProperty, cX7_pieceProperty, 3, some .int, [])
theorem pn_X7_pieceProperty : plainName (kX7_pieceProperty : jM).1.cls = true := by decide +kernel
theorem mo_X7_pieceProperty : jmV kX7_pieceProperty 2 := ⟨rfl, j_tb (List.mem_of_getElem? (i := 468) (by decide +kernel)), j_tb (List.mem_of_getElem? (i := 467) (by decide +kernel)), List.mem_append_left _ (by decide +kernel), j_tb (List.mem_of_getElem? (i := 1) (by decide +kernel)), by decide +kernel, by decide +kernel⟩
abbrev kX7_countProperty : jM := (yX7_countProperty, cX7_countProperty, 2, some .int, [])
theorem pn_X7_countProperty : plainName (kX7_countProperty : jM).1.cls = true := by decide +kernel
theorem mo_X7_countProperty : jmV kX7_countProperty 1 := ⟨rfl, j_tb (List.mem_of_getElem? (i := 385) (by decide +kernel)), j_tb (List.mem_of_getElem? (i := 384) (by decide +kernel)), List.mem_append_left _ (by decide +kernel), j_tb (List.mem_of_getElem? (i := 1) (by decide +kernel)), by decide +kernel, by decide +kernel⟩
abbrev kX7_sumOverReels : jM := (yX7_sumOverReels, cX7_sumOverReels, 5, some .int, [])
theorem pn_X7_sumOverReels : plainName (kX7_sumOverReels : jM).1.cls = true := by decide +kernel
theorem mo_X7_sumOverReels : jmV kX7_sumOverReels 1 := ⟨rfl, j_tb (List.mem_of_getElem? (i := 394) (by decide +kernel)), j_tb (List.mem_of_getElem? (i := 393) (by decide +kernel)), List.mem_append_left _ (by decide +kernel), j_tb (List.mem_of_getElem? (i := 1) (by decide +kernel)), by decide +kernel, by decide +kernel⟩
abbrev kX7_measuredOffShare : jM := (yX7_measuredOffShare, cX7_measuredOffShare, 1, some .float, [])
theorem pn_X7_measuredOffShare : plainName (kX7_measuredOffShare : jM).1.cls = true := by decide +kernel
theorem mo_X7_measuredOffShare : jmV kX7_measuredOffShare 0 := ⟨rfl, j_tb (List.mem_of_getElem? (i := 533) (by decide +kernel)), j_tb (List.mem_of_getElem? (i := 532) (by decide +kernel)), List.mem_append_left _ (by decide +kernel), j_tb (List.mem_of_getElem? (i := 1) (by decide +kernel)), by decide +kernel, by decide +kernel⟩
abbrev kX7_measuredMeanSpeed : jM := (yX7_measuredMeanSpeed, cX7_measuredMeanSpeed, 3, some .double, [])
theorem pn_X7_measuredMeanSpeed : plainName (kX7_measuredMeanSpeed : jM).1.cls = true := by decide +kernel
theorem mo_X7_measuredMeanSpeed : jmV kX7_measuredMeanSpeed 0 := ⟨rfl, j_tb (List.mem_of_getElem? (i := 544) (by decide +kernel)), j_tb (List.mem_of_getElem? (i := 543) (by decide +kernel)), List.mem_append_left _ (by decide +kernel), j_tb (List.mem_of_getElem? (i := 1) (by decide +kernel)), by decide +kernel, by decide +kernel⟩
abbrev kX7_mix : jM := (yX7_mix, cX7_mix, 4, some .long, [])
theorem pn_X7_mix : plainName (kX7_mix : jM).1.cls = true := by decide +kernel
theorem mo_X7_mix : jmS kX7_mix 2 := ⟨rfl, j_tb (List.mem_of_getElem? (i := 463) (by decide +kernel)), j_tb (List.mem_of_getElem? (i := 462) (by decide +kernel)), j_tb (List.mem_of_getElem? (i := 1) (by decide +kernel)), by decide +kernel, by decide +kernel⟩
abbrev kX7_mixReel : jM := (yX7_mixReel, cX7_mixReel, 8, some .long, [])
theorem pn_X7_mixReel : plainName (kX7_mixReel : jM).1.cls = true := by decide +kernel
theorem mo_X7_mixReel : jmV kX7_mixReel 2 := ⟨rfl, j_tb (List.mem_of_getElem? (i := 477) (by decide +kernel)), j_tb (List.mem_of_getElem? (i := 476) (by decide +kernel)), List.mem_append_left _ (by decide +kernel), j_tb (List.mem_of_getElem? (i := 1) (by decide +kernel)), by decide +kernel, by decide +kernel⟩
abbrev kX7_floatBits : jM := (yX7_floatBits, cX7_floatBits, 5, some .long, [])
theorem pn_X7_floatBits : plainName (kX7_floatBits : jM).1.cls = true := by decide +kernel
theorem mo_X7_floatBits : jmS kX7_floatBits 1 := ⟨rfl, j_tb (List.mem_of_getElem? (i := 536) (by decide +kernel)), j_tb (List.mem_of_getElem? (i := 535) (by decide +kernel)), j_tb (List.mem_of_getElem? (i := 1) (by decide +kernel)), by decide +kernel, by decide +kernel⟩
abbrev kX7_doubleBits : jM := (yX7_doubleBits, cX7_doubleBits, 7, some .long, [])
theorem pn_X7_doubleBits : plainName (kX7_doubleBits : jM).1.cls = true := by decide +kernel
theorem mo_X7_doubleBits : jmS kX7_doubleBits 1 := ⟨rfl, j_tb (List.mem_of_getElem? (i := 548) (by decide +kernel)), j_tb (List.mem_of_getElem? (i := 547) (by decide +kernel)), j_tb (List.mem_of_getElem? (i := 1) (by decide +kernel)), by decide +kernel, by decide +kernel⟩
abbrev kX8_init : jM := (yX8_init, cX8_init, 2, none, [])
theorem pn_X8_init : plainName (kX8_init : jM).1.cls = true := by decide +kernel
theorem mo_X8_init : jmI kX8_init 0 := ⟨rfl, j_tb (List.mem_of_getElem? (i := 913) (by decide +kernel)), rfl, rfl, j_tb (List.mem_of_getElem? (i := 912) (by decide +kernel)), j_tb (List.mem_of_getElem? (i := 9) (by decide +kernel)), by decide +kernel, by decide +kernel⟩
abbrev kX8_thrown : jM := (yX8_thrown, cX8_thrown, 1, some .int, [])
theorem pn_X8_thrown : plainName (kX8_thrown : jM).1.cls = true := by decide +kernel
theorem mo_X8_thrown : jmV kX8_thrown 0 := ⟨rfl, j_tb (List.mem_of_getElem? (i := 967) (by decide +kernel)), j_tb (List.mem_of_getElem? (i := 965) (by decide +kernel)), j_tb (List.mem_of_getElem? (i := 966) (by decide +kernel)), j_tb (List.mem_of_getElem? (i := 9) (by decide +kernel)), by decide +kernel, by decide +kernel⟩
abbrev kX8_within : jM := (yX8_within, cX8_within, 3, some .boolean, [])
theorem pn_X8_within : plainName (kX8_within : jM).1.cls = true := by decide +kernel
theorem mo_X8_within : jmS kX8_within 3 := ⟨rfl, j_tb (List.mem_of_getElem? (i := 981) (by decide +kernel)), j_tb (List.mem_of_getElem? (i := 980) (by decide +kernel)), j_tb (List.mem_of_getElem? (i := 9) (by decide +kernel)), by decide +kernel, by decide +kernel⟩
abbrev kX8_size : jM := (yX8_size, cX8_size, 1, some .int, [])
theorem pn_X8_size : plainName (kX8_size : jM).1.cls = true := by decide +kernel
theorem mo_X8_size : jmS kX8_size 1 := ⟨rfl, j_tb (List.mem_of_getElem? (i := 1081) (by decide +kernel)), j_tb (List.mem_of_getElem? (i := 1080) (by decide +kernel)), j_tb (List.mem_of_getElem? (i := 9) (by decide +kernel)), by decide +kernel, by decide +kernel⟩
abbrev kX8_isReel : jM := (yX8_isReel, cX8_isReel, 1, some .boolean, [])
theorem pn_X8_isReel : plainName (kX8_isReel : jM).1.cls = true := by decide +kernel
theorem mo_X8_isReel : jmS kX8_isReel 1 := ⟨rfl, j_tb (List.mem_of_getElem? (i := 978) (by decide +kernel)), j_tb (List.mem_of_getElem? (i := 977) (by decide +kernel)), j_tb (List.mem_of_getElem? (i := 9) (by decide +kernel)), by decide +kernel, by decide +kernel⟩
abbrev kX8_scenes : jM := (yX8_scenes, cX8_scenes, 2, some .int, [])
theorem pn_X8_scenes : plainName (kX8_scenes : jM).1.cls = true := by decide +kernel
theorem mo_X8_scenes : jmV kX8_scenes 1 := ⟨rfl, j_tb (List.mem_of_getElem? (i := 985) (by decide +kernel)), j_tb (List.mem_of_getElem? (i := 984) (by decide +kernel)), List.mem_append_left _ (by decide +kernel), j_tb (List.mem_of_getElem? (i := 9) (by decide +kernel)), by decide +kernel, by decide +kernel⟩
abbrev kX8_isScene : jM := (yX8_isScene, cX8_isScene, 3, some .boolean, [])
theorem pn_X8_isScene : plainName (kX8_isScene : jM).1.cls = true := by decide +kernel
theorem mo_X8_isScene : jmV kX8_isScene 2 := ⟨rfl, j_tb (List.mem_of_getElem? (i := 1002) (by decide +kernel)), j_tb (List.mem_of_getElem? (i := 1001) (by decide +kernel)), List.mem_append_left _ (by decide +kernel), j_tb (List.mem_of_getElem? (i := 9) (by decide +kernel)), by decide +kernel, by decide +kernel⟩
abbrev kX8_isPiece : jM := (yX8_isPiece, cX8_isPiece, 2, some .boolean, [])
theorem pn_X8_isPiece : plainName (kX8_isPiece : jM).1.cls = true := by decide +kernel
theorem mo_X8_isPiece : jmV kX8_isPiece 1 := ⟨rfl, j_tb (List.mem_of_getElem? (i := 1034) (by decide +kernel)), j_tb (List.mem_of_getElem? (i := 1033) (by decide +kernel)), List.mem_append_left _ (by decide +kernel), j_tb (List.mem_of_getElem? (i := 9) (by decide +kernel)), by decide +kernel, by decide +kernel⟩
abbrev kX8_of : jM := (yX8_of, cX8_of, 4, some .int, [])
theorem pn_X8_of : plainName (kX8_of : jM).1.cls = true := by decide +kernel
theorem mo_X8_of : jmV kX8_of 3 := ⟨rfl, j_tb (List.mem_of_getElem? (i := 1046) (by decide +kernel)), j_tb (List.mem_of_getElem? (i := 1045) (by decide +kernel)), List.mem_append_left _ (by decide +kernel), j_tb (List.mem_of_getElem? (i := 9) (by decide +kernel)), by decide +kernel, by decide +kernel⟩
abbrev kX8_speedOf : jM := (yX8_speedOf, cX8_speedOf, 7, some .int, [])
theorem pn_X8_speedOf : plainName (kX8_speedOf : jM).1.cls = true := by decide +kernel
theorem mo_X8_speedOf : jmV kX8_speedOf 2 := ⟨rfl, j_tb (List.mem_of_getElem? (i := 1054) (by decide +kernel)), j_tb (List.mem_of_getElem? (i := 1053) (by decide +kernel)), List.mem_append_left _ (by decide +kernel), j_tb (List.mem_of_getElem? (i := 9) (by decide +kernel)), by decide +kernel, by decide +kernel⟩
abbrev kX8_isLost : jM := (yX8_isLost, cX8_isLost, 6, some .boolean, [])
theorem pn_X8_isLost : plainName (kX8_isLost : jM).1.cls = true := by decide +kernel
theorem mo_X8_isLost : jmV kX8_isLost 2 := ⟨rfl, j_tb (List.mem_of_getElem? (i := 1050) (by decide +kernel)), j_tb (List.mem_of_getElem? (i := 1049) (by decide +kernel)), List.mem_append_left _ (by decide +kernel), j_tb (List.mem_of_getElem? (i := 9) (by decide +kernel)), by decide +kernel, by decide +kernel⟩
abbrev kX8_firstFoot : jM := (yX8_firstFoot, cX8_firstFoot, 5, some .int, [])
theorem pn_X8_firstFoot : plainName (kX8_firstFoot : jM).1.cls = true := by decide +kernel
theorem mo_X8_firstFoot : jmV kX8_firstFoot 2 := ⟨rfl, j_tb (List.mem_of_getElem? (i := 1149) (by decide +kernel)), j_tb (List.mem_of_getElem? (i := 1148) (by decide +kernel)), List.mem_append_left _ (by decide +kernel), j_tb (List.mem_of_getElem? (i := 9) (by decide +kernel)), by decide +kernel, by decide +kernel⟩
abbrev kX8_layScenes : jM := (yX8_layScenes, cX8_layScenes, 6, none, [])
theorem pn_X8_layScenes : plainName (kX8_layScenes : jM).1.cls = true := by decide +kernel
theorem mo_X8_layScenes : jmV kX8_layScenes 2 := ⟨rfl, j_tb (List.mem_of_getElem? (i := 1042) (by decide +kernel)), j_tb (List.mem_of_getElem? (i := 1041) (by decide +kernel)), List.mem_append_left _ (by decide +kernel), j_tb (List.mem_of_getElem? (i := 9) (by decide +kernel)), by decide +kernel, by decide +kernel⟩
abbrev kX8_playTime : jM := (yX8_playTime, cX8_playTime, 5, some .int, [])
theorem pn_X8_playTime : plainName (kX8_playTime : jM).1.cls = true := by decide +kernel
theorem mo_X8_playTime : jmV kX8_playTime 3 := ⟨rfl, j_tb (List.mem_of_getElem? (i := 1066) (by decide +kernel)), j_tb (List.mem_of_getElem? (i := 1065) (by decide +kernel)), List.mem_append_left _ (by decide +kernel), j_tb (List.mem_of_getElem? (i := 9) (by decide +kernel)), by decide +kernel, by decide +kernel⟩
abbrev kX8_beginOf : jM := (yX8_beginOf, cX8_beginOf, 5, some .int, [])
theorem pn_X8_beginOf : plainName (kX8_beginOf : jM).1.cls = true := by decide +kernel
theorem mo_X8_beginOf : jmV kX8_beginOf 2 := ⟨rfl, j_tb (List.mem_of_getElem? (i := 1062) (by decide +kernel)), j_tb (List.mem_of_getElem? (i := 1061) (by decide +kernel)), List.mem_append_left _ (by decide +kernel), j_tb (List.mem_of_getElem? (i := 9) (by decide +kernel)), by decide +kernel, by decide +kernel⟩
abbrev kX8_layCue : jM := (yX8_layCue, cX8_layCue, 3, none, [])
theorem pn_X8_layCue : plainName (kX8_layCue : jM).1.cls = true := by decide +kernel
theorem mo_X8_layCue : jmV kX8_layCue 2 := ⟨rfl, j_tb (List.mem_of_getElem? (i := 1058) (by decide +kernel)), j_tb (List.mem_of_getElem? (i := 1057) (by decide +kernel)), List.mem_append_left _ (by decide +kernel), j_tb (List.mem_of_getElem? (i := 9) (by decide +kernel)), by decide +kernel, by decide +kernel⟩
abbrev kX8_lay : jM := (yX8_lay, cX8_lay, 4, none, [])
theorem pn_X8_lay : plainName (kX8_lay : jM).1.cls = true := by decide +kernel
theorem mo_X8_lay : jmV kX8_lay 2 := ⟨rfl, j_tb (List.mem_of_getElem? (i := 1038) (by decide +kernel)), j_tb (List.mem_of_getElem? (i := 1037) (by decide +kernel)), List.mem_append_left _ (by decide +kernel), j_tb (List.mem_of_getElem? (i := 9) (by decide +kernel)), by decide +kernel, by decide +kernel⟩
abbrev kX8_drift : jM := (yX8_drift, cX8_drift, 3, some .int, [])
theorem pn_X8_drift : plainName (kX8_drift : jM).1.cls = true := by decide +kernel
theorem mo_X8_drift : jmV kX8_drift 2 := ⟨rfl, j_tb (List.mem_of_getElem? (i := 1070) (by decide +kernel)), j_tb (List.mem_of_getElem? (i := 1069) (by decide +kernel)), List.mem_append_left _ (by decide +kernel), j_tb (List.mem_of_getElem? (i := 9) (by decide +kernel)), by decide +kernel, by decide +kernel⟩
abbrev kX8_isBad : jM := (yX8_isBad, cX8_isBad, 3, some .boolean, [])
theorem pn_X8_isBad : plainName (kX8_isBad : jM).1.cls = true := by decide +kernel
theorem mo_X8_isBad : jmV kX8_isBad 2 := ⟨rfl, j_tb (List.mem_of_getElem? (i := 1153) (by decide +kernel)), j_tb (List.mem_of_getElem? (i := 1152) (by decide +kernel)), List.mem_append_left _ (by decide +kernel), j_tb (List.mem_of_getElem? (i := 9) (by decide +kernel)), by decide +kernel, by decide +kernel⟩
abbrev kX8_bads : jM := (yX8_bads, cX8_bads, 4, some .int, [])
theorem pn_X8_bads : plainName (kX8_bads : jM).1.cls = true := by decide +kernel
theorem mo_X8_bads : jmV kX8_bads 1 := ⟨rfl, j_tb (List.mem_of_getElem? (i := 1173) (by decide +kernel)), j_tb (List.mem_of_getElem? (i := 1172) (by decide +kernel)), List.mem_append_left _ (by decide +kernel), j_tb (List.mem_of_getElem? (i := 9) (by decide +kernel)), by decide +kernel, by decide +kernel⟩
abbrev kX8_drifts : jM := (yX8_drifts, cX8_drifts, 4, some .int, [])
theorem pn_X8_drifts : plainName (kX8_drifts : jM).1.cls = true := by decide +kernel
theorem mo_X8_drifts : jmV kX8_drifts 1 := ⟨rfl, j_tb (List.mem_of_getElem? (i := 1177) (by decide +kernel)), j_tb (List.mem_of_getElem? (i := 1176) (by decide +kernel)), List.mem_append_left _ (by decide +kernel), j_tb (List.mem_of_getElem? (i := 9) (by decide +kernel)), by decide +kernel, by decide +kernel⟩
abbrev kX8_bestOf : jM := (yX8_bestOf, cX8_bestOf, 11, some .int, [])
theorem pn_X8_bestOf : plainName (kX8_bestOf : jM).1.cls = true := by decide +kernel
theorem mo_X8_bestOf : jmV kX8_bestOf 3 := ⟨rfl, j_tb (List.mem_of_getElem? (i := 1078) (by decide +kernel)), j_tb (List.mem_of_getElem? (i := 1077) (by decide +kernel)), List.mem_append_left _ (by decide +kernel), j_tb (List.mem_of_getElem? (i := 9) (by decide +kernel)), by decide +kernel, by decide +kernel⟩
abbrev kX8_save : jM := (yX8_save, cX8_save, 2, none, [])
theorem pn_X8_save : plainName (kX8_save : jM).1.cls = true := by decide +kernel
theorem mo_X8_save : jmV kX8_save 0 := ⟨rfl, j_tb (List.mem_of_getElem? (i := 989) (by decide +kernel)), j_tb (List.mem_of_getElem? (i := 988) (by decide +kernel)), List.mem_append_left _ (by decide +kernel), j_tb (List.mem_of_getElem? (i := 9) (by decide +kernel)), by decide +kernel, by decide +kernel⟩
abbrev kX8_undo : jM := (yX8_undo, cX8_undo, 2, some .int, [])
theorem pn_X8_undo : plainName (kX8_undo : jM).1.cls = true := by decide +kernel
theorem mo_X8_undo : jmV kX8_undo 0 := ⟨rfl, j_tb (List.mem_of_getElem? (i := 971) (by decide +kernel)), j_tb (List.mem_of_getElem? (i := 969) (by decide +kernel)), j_tb (List.mem_of_getElem? (i := 970) (by decide +kernel)), j_tb (List.mem_of_getElem? (i := 9) (by decide +kernel)), by decide +kernel, by decide +kernel⟩
abbrev kX8_bring : jM := (yX8_bring, cX8_bring, 7, none, [])
theorem pn_X8_bring : plainName (kX8_bring : jM).1.cls = true := by decide +kernel
theorem mo_X8_bring : jmV kX8_bring 5 := ⟨rfl, j_tb (List.mem_of_getElem? (i := 994) (by decide +kernel)), j_tb (List.mem_of_getElem? (i := 993) (by decide +kernel)), List.mem_append_left _ (by decide +kernel), j_tb (List.mem_of_getElem? (i := 9) (by decide +kernel)), by decide +kernel, by decide +kernel⟩
abbrev kX8_addScene : jM := (yX8_addScene, cX8_addScene, 3, some .int, [])
theorem pn_X8_addScene : plainName (kX8_addScene : jM).1.cls = true := by decide +kernel
theorem mo_X8_addScene : jmV kX8_addScene 2 := ⟨rfl, j_tb (List.mem_of_getElem? (i := 975) (by decide +kernel)), j_tb (List.mem_of_getElem? (i := 973) (by decide +kernel)), j_tb (List.mem_of_getElem? (i := 974) (by decide +kernel)), j_tb (List.mem_of_getElem? (i := 9) (by decide +kernel)), by decide +kernel, by decide +kernel⟩
abbrev kX8_removeScene : jM := (yX8_removeScene, cX8_removeScene, 5, some .int, [])
theorem pn_X8_removeScene : plainName (kX8_removeScene : jM).1.cls = true := by decide +kernel
theorem mo_X8_removeScene : jmV kX8_removeScene 2 := ⟨rfl, j_tb (List.mem_of_getElem? (i := 998) (by decide +kernel)), j_tb (List.mem_of_getElem? (i := 996) (by decide +kernel)), j_tb (List.mem_of_getElem? (i := 997) (by decide +kernel)), j_tb (List.mem_of_getElem? (i := 9) (by decide +kernel)), by decide +kernel, by decide +kernel⟩
abbrev kX8_holdAt : jM := (yX8_holdAt, cX8_holdAt, 4, some .int, [])
theorem pn_X8_holdAt : plainName (kX8_holdAt : jM).1.cls = true := by decide +kernel
theorem mo_X8_holdAt : jmV kX8_holdAt 2 := ⟨rfl, j_tb (List.mem_of_getElem? (i := 1010) (by decide +kernel)), j_tb (List.mem_of_getElem? (i := 1009) (by decide +kernel)), List.mem_append_left _ (by decide +kernel), j_tb (List.mem_of_getElem? (i := 9) (by decide +kernel)), by decide +kernel, by decide +kernel⟩
abbrev kX8_hold : jM := (yX8_hold, cX8_hold, 5, some .int, [])
theorem pn_X8_hold : plainName (kX8_hold : jM).1.cls = true := by decide +kernel
theorem mo_X8_hold : jmV kX8_hold 3 := ⟨rfl, j_tb (List.mem_of_getElem? (i := 1014) (by decide +kernel)), j_tb (List.mem_of_getElem? (i := 1013) (by decide +kernel)), List.mem_append_left _ (by decide +kernel), j_tb (List.mem_of_getElem? (i := 9) (by decide +kernel)), by decide +kernel, by decide +kernel⟩
abbrev kX8_crank : jM := (yX8_crank, cX8_crank, 6, some .int, [])
theorem pn_X8_crank : plainName (kX8_crank : jM).1.cls = true := by decide +kernel
theorem mo_X8_crank : jmV kX8_crank 3 := ⟨rfl, j_tb (List.mem_of_getElem? (i := 1006) (by decide +kernel)), j_tb (List.mem_of_getElem? (i := 1004) (by decide +kernel)), j_tb (List.mem_of_getElem? (i := 1005) (by decide +kernel)), j_tb (List.mem_of_getElem? (i := 9) (by decide +kernel)), by decide +kernel, by decide +kernel⟩
abbrev kX8_drop : jM := (yX8_drop, cX8_drop, 5, some .int, [])
theorem pn_X8_drop : plainName (kX8_drop : jM).1.cls = true := by decide +kernel
theorem mo_X8_drop : jmV kX8_drop 2 := ⟨rfl, j_tb (List.mem_of_getElem? (i := 1022) (by decide +kernel)), j_tb (List.mem_of_getElem? (i := 1021) (by decide +kernel)), List.mem_append_left _ (by decide +kernel), j_tb (List.mem_of_getElem? (i := 9) (by decide +kernel)), by decide +kernel, by decide +kernel⟩
abbrev kX8_splice : jM := (yX8_splice, cX8_splice, 6, some .int, [])
theorem pn_X8_splice : plainName (kX8_splice : jM).1.cls = true := by decide +kernel
theorem mo_X8_splice : jmV kX8_splice 3 := ⟨rfl, j_tb (List.mem_of_getElem? (i := 1018) (by decide +kernel)), j_tb (List.mem_of_getElem? (i := 1016) (by decide +kernel)), j_tb (List.mem_of_getElem? (i := 1017) (by decide +kernel)), j_tb (List.mem_of_getElem? (i := 9) (by decide +kernel)), by decide +kernel, by decide +kernel⟩
abbrev kX8_addPiece : jM := (yX8_addPiece, cX8_addPiece, 6, some .int, [])
theorem pn_X8_addPiece : plainName (kX8_addPiece : jM).1.cls = true := by decide +kernel
theorem mo_X8_addPiece : jmV kX8_addPiece 3 := ⟨rfl, j_tb (List.mem_of_getElem? (i := 1026) (by decide +kernel)), j_tb (List.mem_of_getElem? (i := 1024) (by decide +kernel)), j_tb (List.mem_of_getElem? (i := 1025) (by decide +kernel)), j_tb (List.mem_of_getElem? (i := 9) (by decide +kernel)), by decide +kernel, by decide +kernel⟩
abbrev kX8_setCue : jM := (yX8_setCue, cX8_setCue, 8, some .int, [])
theorem pn_X8_setCue : plainName (kX8_setCue : jM).1.cls = true := by decide +kernel
theorem mo_X8_setCue : jmV kX8_setCue 5 := ⟨rfl, j_tb (List.mem_of_getElem? (i := 1030) (by decide +kernel)), j_tb (List.mem_of_getElem? (i := 1028) (by decide +kernel)), j_tb (List.mem_of_getElem? (i := 1029) (by decide +kernel)), j_tb (List.mem_of_getElem? (i := 9) (by decide +kernel)), by decide +kernel, by decide +kernel⟩
abbrev kX8_fit : jM := (yX8_fit, cX8_fit, 5, some .int, [])
theorem pn_X8_fit : plainName (kX8_fit : jM).1.cls = true := by decide +kernel
theorem mo_X8_fit : jmV kX8_fit 1 := ⟨rfl, j_tb (List.mem_of_getElem? (i := 1074) (by decide +kernel)), j_tb (List.mem_of_getElem? (i := 1072) (by decide +kernel)), j_tb (List.mem_of_getElem? (i := 1073) (by decide +kernel)), j_tb (List.mem_of_getElem? (i := 9) (by decide +kernel)), by decide +kernel, by decide +kernel⟩
abbrev kX8_set : jM := (yX8_set, cX8_set, 4, some .int, [])
theorem pn_X8_set : plainName (kX8_set : jM).1.cls = true := by decide +kernel
theorem mo_X8_set : jmV kX8_set 2 := ⟨rfl, j_tb (List.mem_of_getElem? (i := 1085) (by decide +kernel)), j_tb (List.mem_of_getElem? (i := 1083) (by decide +kernel)), j_tb (List.mem_of_getElem? (i := 1084) (by decide +kernel)), j_tb (List.mem_of_getElem? (i := 9) (by decide +kernel)), by decide +kernel, by decide +kernel⟩
abbrev kX8_append : jM := (yX8_append, cX8_append, 2, some .int, [])
theorem pn_X8_append : plainName (kX8_append : jM).1.cls = true := by decide +kernel
theorem mo_X8_append : jmV kX8_append 1 := ⟨rfl, j_tb (List.mem_of_getElem? (i := 1089) (by decide +kernel)), j_tb (List.mem_of_getElem? (i := 1087) (by decide +kernel)), j_tb (List.mem_of_getElem? (i := 1088) (by decide +kernel)), j_tb (List.mem_of_getElem? (i := 9) (by decide +kernel)), by decide +kernel, by decide +kernel⟩
abbrev kX8_clearBuffer : jM := (yX8_clearBuffer, cX8_clearBuffer, 2, some .int, [])
theorem pn_X8_clearBuffer : plainName (kX8_clearBuffer : jM).1.cls = true := by decide +kernel
theorem mo_X8_clearBuffer : jmV kX8_clearBuffer 0 := ⟨rfl, j_tb (List.mem_of_getElem? (i := 1093) (by decide +kernel)), j_tb (List.mem_of_getElem? (i := 1091) (by decide +kernel)), j_tb (List.mem_of_getElem? (i := 1092) (by decide +kernel)), j_tb (List.mem_of_getElem? (i := 9) (by decide +kernel)), by decide +kernel, by decide +kernel⟩
abbrev kX8_beginEntry : jM := (yX8_beginEntry, cX8_beginEntry, 1, none, [])
theorem pn_X8_beginEntry : plainName (kX8_beginEntry : jM).1.cls = true := by decide +kernel
theorem mo_X8_beginEntry : jmV kX8_beginEntry 0 := ⟨rfl, j_tb (List.mem_of_getElem? (i := 1105) (by decide +kernel)), j_tb (List.mem_of_getElem? (i := 1104) (by decide +kernel)), List.mem_append_left _ (by decide +kernel), j_tb (List.mem_of_getElem? (i := 9) (by decide +kernel)), by decide +kernel, by decide +kernel⟩
abbrev kX8_goes : jM := (yX8_goes, cX8_goes, 3, some .boolean, [])
theorem pn_X8_goes : plainName (kX8_goes : jM).1.cls = true := by decide +kernel
theorem mo_X8_goes : jmV kX8_goes 2 := ⟨rfl, j_tb (List.mem_of_getElem? (i := 1125) (by decide +kernel)), j_tb (List.mem_of_getElem? (i := 1124) (by decide +kernel)), List.mem_append_left _ (by decide +kernel), j_tb (List.mem_of_getElem? (i := 9) (by decide +kernel)), by decide +kernel, by decide +kernel⟩
abbrev kX8_takesLength : jM := (yX8_takesLength, cX8_takesLength, 4, some .boolean, [])
theorem pn_X8_takesLength : plainName (kX8_takesLength : jM).1.cls = true := by decide +kernel
theorem mo_X8_takesLength : jmV kX8_takesLength 1 := ⟨rfl, j_tb (List.mem_of_getElem? (i := 1121) (by decide +kernel)), j_tb (List.mem_of_getElem? (i := 1120) (by decide +kernel)), List.mem_append_left _ (by decide +kernel), j_tb (List.mem_of_getElem? (i := 9) (by decide +kernel)), by decide +kernel, by decide +kernel⟩
abbrev kX8_takesPace : jM := (yX8_takesPace, cX8_takesPace, 6, some .boolean, [])
theorem pn_X8_takesPace : plainName (kX8_takesPace : jM).1.cls = true := by decide +kernel
theorem mo_X8_takesPace : jmV kX8_takesPace 1 := ⟨rfl, j_tb (List.mem_of_getElem? (i := 1129) (by decide +kernel)), j_tb (List.mem_of_getElem? (i := 1128) (by decide +kernel)), List.mem_append_left _ (by decide +kernel), j_tb (List.mem_of_getElem? (i := 9) (by decide +kernel)), by decide +kernel, by decide +kernel⟩
abbrev kX8_isOver : jM := (yX8_isOver, cX8_isOver, 1, some .boolean, [])
theorem pn_X8_isOver : plainName (kX8_isOver : jM).1.cls = true := by decide +kernel
theorem mo_X8_isOver : jmV kX8_isOver 0 := ⟨rfl, j_tb (List.mem_of_getElem? (i := 1113) (by decide +kernel)), j_tb (List.mem_of_getElem? (i := 1112) (by decide +kernel)), List.mem_append_left _ (by decide +kernel), j_tb (List.mem_of_getElem? (i := 9) (by decide +kernel)), by decide +kernel, by decide +kernel⟩
abbrev kX8_takesPart : jM := (yX8_takesPart, cX8_takesPart, 2, some .boolean, [])
theorem pn_X8_takesPart : plainName (kX8_takesPart : jM).1.cls = true := by decide +kernel
theorem mo_X8_takesPart : jmV kX8_takesPart 1 := ⟨rfl, j_tb (List.mem_of_getElem? (i := 1117) (by decide +kernel)), j_tb (List.mem_of_getElem? (i := 1116) (by decide +kernel)), List.mem_append_left _ (by decide +kernel), j_tb (List.mem_of_getElem? (i := 9) (by decide +kernel)), by decide +kernel, by decide +kernel⟩
abbrev kX8_takes : jM := (yX8_takes, cX8_takes, 2, some .boolean, [])
theorem pn_X8_takes : plainName (kX8_takes : jM).1.cls = true := by decide +kernel
theorem mo_X8_takes : jmV kX8_takes 1 := ⟨rfl, j_tb (List.mem_of_getElem? (i := 1109) (by decide +kernel)), j_tb (List.mem_of_getElem? (i := 1108) (by decide +kernel)), List.mem_append_left _ (by decide +kernel), j_tb (List.mem_of_getElem? (i := 9) (by decide +kernel)), by decide +kernel, by decide +kernel⟩
abbrev kX8_readText : jM := (yX8_readText, cX8_readText, 2, some .int, [])
theorem pn_X8_readText : plainName (kX8_readText : jM).1.cls = true := by decide +kernel
theorem mo_X8_readText : jmV kX8_readText 0 := ⟨rfl, j_tb (List.mem_of_getElem? (i := 1101) (by decide +kernel)), j_tb (List.mem_of_getElem? (i := 1100) (by decide +kernel)), List.mem_append_left _ (by decide +kernel), j_tb (List.mem_of_getElem? (i := 9) (by decide +kernel)), by decide +kernel, by decide +kernel⟩
abbrev kX8_firstError : jM := (yX8_firstError, cX8_firstError, 1, some .int, [])
theorem pn_X8_firstError : plainName (kX8_firstError : jM).1.cls = true := by decide +kernel
theorem mo_X8_firstError : jmV kX8_firstError 0 := ⟨rfl, j_tb (List.mem_of_getElem? (i := 1097) (by decide +kernel)), j_tb (List.mem_of_getElem? (i := 1095) (by decide +kernel)), j_tb (List.mem_of_getElem? (i := 1096) (by decide +kernel)), j_tb (List.mem_of_getElem? (i := 9) (by decide +kernel)), by decide +kernel, by decide +kernel⟩
abbrev kX8_canBring : jM := (yX8_canBring, cX8_canBring, 4, some .boolean, [])
theorem pn_X8_canBring : plainName (kX8_canBring : jM).1.cls = true := by decide +kernel
theorem mo_X8_canBring : jmV kX8_canBring 1 := ⟨rfl, j_tb (List.mem_of_getElem? (i := 1137) (by decide +kernel)), j_tb (List.mem_of_getElem? (i := 1136) (by decide +kernel)), List.mem_append_left _ (by decide +kernel), j_tb (List.mem_of_getElem? (i := 9) (by decide +kernel)), by decide +kernel, by decide +kernel⟩
abbrev kX8_load : jM := (yX8_load, cX8_load, 4, some .int, [])
theorem pn_X8_load : plainName (kX8_load : jM).1.cls = true := by decide +kernel
theorem mo_X8_load : jmV kX8_load 1 := ⟨rfl, j_tb (List.mem_of_getElem? (i := 1133) (by decide +kernel)), j_tb (List.mem_of_getElem? (i := 1131) (by decide +kernel)), j_tb (List.mem_of_getElem? (i := 1132) (by decide +kernel)), j_tb (List.mem_of_getElem? (i := 9) (by decide +kernel)), by decide +kernel, by decide +kernel⟩
abbrev kX8_sceneNow : jM := (yX8_sceneNow, cX8_sceneNow, 5, some .int, [])
theorem pn_X8_sceneNow : plainName (kX8_sceneNow : jM).1.cls = true := by decide +kernel
theorem mo_X8_sceneNow : jmV kX8_sceneNow 3 := ⟨rfl, j_tb (List.mem_of_getElem? (i := 1145) (by decide +kernel)), j_tb (List.mem_of_getElem? (i := 1144) (by decide +kernel)), List.mem_append_left _ (by decide +kernel), j_tb (List.mem_of_getElem? (i := 9) (by decide +kernel)), by decide +kernel, by decide +kernel⟩
abbrev kX8_scene : jM := (yX8_scene, cX8_scene, 4, some .int, [])
theorem pn_X8_scene : plainName (kX8_scene : jM).1.cls = true := by decide +kernel
theorem mo_X8_scene : jmV kX8_scene 3 := ⟨rfl, j_tb (List.mem_of_getElem? (i := 1141) (by decide +kernel)), j_tb (List.mem_of_getElem? (i := 1139) (by decide +kernel)), j_tb (List.mem_of_getElem? (i := 1140) (by decide +kernel)), j_tb (List.mem_of_getElem? (i := 9) (by decide +kernel)), by decide +kernel, by decide +kernel⟩
abbrev kX8_lostFeet : jM := (yX8_lostFeet, cX8_lostFeet, 4, some .int, [])
theorem pn_X8_lostFeet : plainName (kX8_lostFeet : jM).1.cls = true := by decide +kernel
theorem mo_X8_lostFeet : jmV kX8_lostFeet 1 := ⟨rfl, j_tb (List.mem_of_getElem? (i := 1165) (by decide +kernel)), j_tb (List.mem_of_getElem? (i := 1164) (by decide +kernel)), List.mem_append_left _ (by decide +kernel), j_tb (List.mem_of_getElem? (i := 9) (by decide +kernel)), by decide +kernel, by decide +kernel⟩
abbrev kX8_cues : jM := (yX8_cues, cX8_cues, 4, some .int, [])
theorem pn_X8_cues : plainName (kX8_cues : jM).1.cls = true := by decide +kernel
theorem mo_X8_cues : jmV kX8_cues 1 := ⟨rfl, j_tb (List.mem_of_getElem? (i := 1169) (by decide +kernel)), j_tb (List.mem_of_getElem? (i := 1168) (by decide +kernel)), List.mem_append_left _ (by decide +kernel), j_tb (List.mem_of_getElem? (i := 9) (by decide +kernel)), by decide +kernel, by decide +kernel⟩
abbrev kX8_silence : jM := (yX8_silence, cX8_silence, 5, some .int, [])
theorem pn_X8_silence : plainName (kX8_silence : jM).1.cls = true := by decide +kernel
theorem mo_X8_silence : jmV kX8_silence 1 := ⟨rfl, j_tb (List.mem_of_getElem? (i := 1181) (by decide +kernel)), j_tb (List.mem_of_getElem? (i := 1180) (by decide +kernel)), List.mem_append_left _ (by decide +kernel), j_tb (List.mem_of_getElem? (i := 9) (by decide +kernel)), by decide +kernel, by decide +kernel⟩
abbrev kX8_lastEnd : jM := (yX8_lastEnd, cX8_lastEnd, 4, some .int, [])
theorem pn_X8_lastEnd : plainName (kX8_lastEnd : jM).1.cls = true := by decide +kernel
theorem mo_X8_lastEnd : jmV kX8_lastEnd 1 := ⟨rfl, j_tb (List.mem_of_getElem? (i := 1185) (by decide +kernel)), j_tb (List.mem_of_getElem? (i := 1184) (by decide +kernel)), List.mem_append_left _ (by decide +kernel), j_tb (List.mem_of_getElem? (i := 9) (by decide +kernel)), by decide +kernel, by decide +kernel⟩
abbrev kX8_reelNow : jM := (yX8_reelNow, cX8_reelNow, 3, some .int, [])
theorem pn_X8_reelNow : plainName (kX8_reelNow : jM).1.cls = true := by decide +kernel
theorem mo_X8_reelNow : jmV kX8_reelNow 2 := ⟨rfl, j_tb (List.mem_of_getElem? (i := 1161) (by decide +kernel)), j_tb (List.mem_of_getElem? (i := 1160) (by decide +kernel)), List.mem_append_left _ (by decide +kernel), j_tb (List.mem_of_getElem? (i := 9) (by decide +kernel)), by decide +kernel, by decide +kernel⟩
abbrev kX8_reel : jM := (yX8_reel, cX8_reel, 3, some .int, [])
theorem pn_X8_reel : plainName (kX8_reel : jM).1.cls = true := by decide +kernel
theorem mo_X8_reel : jmV kX8_reel 2 := ⟨rfl, j_tb (List.mem_of_getElem? (i := 1157) (by decide +kernel)), j_tb (List.mem_of_getElem? (i := 1155) (by decide +kernel)), j_tb (List.mem_of_getElem? (i := 1156) (by decide +kernel)), j_tb (List.mem_of_getElem? (i := 9) (by decide +kernel)), by decide +kernel, by decide +kernel⟩
abbrev kX8_speedAt : jM := (yX8_speedAt, cX8_speedAt, 3, some .int, [])
theorem pn_X8_speedAt : plainName (kX8_speedAt : jM).1.cls = true := by decide +kernel
theorem mo_X8_speedAt : jmV kX8_speedAt 2 := ⟨rfl, j_tb (List.mem_of_getElem? (i := 1189) (by decide +kernel)), j_tb (List.mem_of_getElem? (i := 1187) (by decide +kernel)), j_tb (List.mem_of_getElem? (i := 1188) (by decide +kernel)), j_tb (List.mem_of_getElem? (i := 9) (by decide +kernel)), by decide +kernel, by decide +kernel⟩
abbrev kX8_usesOf : jM := (yX8_usesOf, cX8_usesOf, 5, some .int, [])
theorem pn_X8_usesOf : plainName (kX8_usesOf : jM).1.cls = true := by decide +kernel
theorem mo_X8_usesOf : jmV kX8_usesOf 1 := ⟨rfl, j_tb (List.mem_of_getElem? (i := 1201) (by decide +kernel)), j_tb (List.mem_of_getElem? (i := 1200) (by decide +kernel)), List.mem_append_left _ (by decide +kernel), j_tb (List.mem_of_getElem? (i := 9) (by decide +kernel)), by decide +kernel, by decide +kernel⟩
abbrev kX8_pieceNow : jM := (yX8_pieceNow, cX8_pieceNow, 3, some .int, [])
theorem pn_X8_pieceNow : plainName (kX8_pieceNow : jM).1.cls = true := by decide +kernel
theorem mo_X8_pieceNow : jmV kX8_pieceNow 2 := ⟨rfl, j_tb (List.mem_of_getElem? (i := 1197) (by decide +kernel)), j_tb (List.mem_of_getElem? (i := 1196) (by decide +kernel)), List.mem_append_left _ (by decide +kernel), j_tb (List.mem_of_getElem? (i := 9) (by decide +kernel)), by decide +kernel, by decide +kernel⟩
abbrev kX8_piece : jM := (yX8_piece, cX8_piece, 3, some .int, [])
theorem pn_X8_piece : plainName (kX8_piece : jM).1.cls = true := by decide +kernel
theorem mo_X8_piece : jmV kX8_piece 2 := ⟨rfl, j_tb (List.mem_of_getElem? (i := 1193) (by decide +kernel)), j_tb (List.mem_of_getElem? (i := 1191) (by decide +kernel)), j_tb (List.mem_of_getElem? (i := 1192) (by decide +kernel)), j_tb (List.mem_of_getElem? (i := 9) (by decide +kernel)), by decide +kernel, by decide +kernel⟩
abbrev kX8_overReels : jM := (yX8_overReels, cX8_overReels, 4, some .int, [])
theorem pn_X8_overReels : plainName (kX8_overReels : jM).1.cls = true := by decide +kernel
theorem mo_X8_overReels : jmV kX8_overReels 1 := ⟨rfl, j_tb (List.mem_of_getElem? (i := 1213) (by decide +kernel)), j_tb (List.mem_of_getElem? (i := 1212) (by decide +kernel)), List.mem_append_left _ (by decide +kernel), j_tb (List.mem_of_getElem? (i := 9) (by decide +kernel)), by decide +kernel, by decide +kernel⟩
abbrev kX8_counted : jM := (yX8_counted, cX8_counted, 2, some .int, [])
theorem pn_X8_counted : plainName (kX8_counted : jM).1.cls = true := by decide +kernel
theorem mo_X8_counted : jmV kX8_counted 1 := ⟨rfl, j_tb (List.mem_of_getElem? (i := 1209) (by decide +kernel)), j_tb (List.mem_of_getElem? (i := 1208) (by decide +kernel)), List.mem_append_left _ (by decide +kernel), j_tb (List.mem_of_getElem? (i := 9) (by decide +kernel)), by decide +kernel, by decide +kernel⟩
abbrev kX8_count : jM := (yX8_count, cX8_count, 2, some .int, [])
theorem pn_X8_count : plainName (kX8_count : jM).1.cls = true := by decide +kernel
theorem mo_X8_count : jmV kX8_count 1 := ⟨rfl, j_tb (List.mem_of_getElem? (i := 1205) (by decide +kernel)), j_tb (List.mem_of_getElem? (i := 1203) (by decide +kernel)), j_tb (List.mem_of_getElem? (i := 1204) (by decide +kernel)), j_tb (List.mem_of_getElem? (i := 9) (by decide +kernel)), by decide +kernel, by decide +kernel⟩
abbrev kX8_bestCue : jM := (yX8_bestCue, cX8_bestCue, 4, some .int, [])
theorem pn_X8_bestCue : plainName (kX8_bestCue : jM).1.cls = true := by decide +kernel
theorem mo_X8_bestCue : jmV kX8_bestCue 3 := ⟨rfl, j_tb (List.mem_of_getElem? (i := 1217) (by decide +kernel)), j_tb (List.mem_of_getElem? (i := 1215) (by decide +kernel)), j_tb (List.mem_of_getElem? (i := 1216) (by decide +kernel)), j_tb (List.mem_of_getElem? (i := 9) (by decide +kernel)), by decide +kernel, by decide +kernel⟩
abbrev kX8_bestPieceNow : jM := (yX8_bestPieceNow, cX8_bestPieceNow, 6, some .int, [])
theorem pn_X8_bestPieceNow : plainName (kX8_bestPieceNow : jM).1.cls = true := by decide +kernel
theorem mo_X8_bestPieceNow : jmV kX8_bestPieceNow 2 := ⟨rfl, j_tb (List.mem_of_getElem? (i := 1225) (by decide +kernel)), j_tb (List.mem_of_getElem? (i := 1224) (by decide +kernel)), List.mem_append_left _ (by decide +kernel), j_tb (List.mem_of_getElem? (i := 9) (by decide +kernel)), by decide +kernel, by decide +kernel⟩
abbrev kX8_bestPiece : jM := (yX8_bestPiece, cX8_bestPiece, 3, some .int, [])
theorem pn_X8_bestPiece : plainName (kX8_bestPiece : jM).1.cls = true := by decide +kernel
theorem mo_X8_bestPiece : jmV kX8_bestPiece 2 := ⟨rfl, j_tb (List.mem_of_getElem? (i := 1221) (by decide +kernel)), j_tb (List.mem_of_getElem? (i := 1219) (by decide +kernel)), j_tb (List.mem_of_getElem? (i := 1220) (by decide +kernel)), j_tb (List.mem_of_getElem? (i := 9) (by decide +kernel)), by decide +kernel, by decide +kernel⟩
abbrev kX8_ifCranked : jM := (yX8_ifCranked, cX8_ifCranked, 3, some .int, [])
theorem pn_X8_ifCranked : plainName (kX8_ifCranked : jM).1.cls = true := by decide +kernel
theorem mo_X8_ifCranked : jmV kX8_ifCranked 2 := ⟨rfl, j_tb (List.mem_of_getElem? (i := 1229) (by decide +kernel)), j_tb (List.mem_of_getElem? (i := 1227) (by decide +kernel)), j_tb (List.mem_of_getElem? (i := 1228) (by decide +kernel)), j_tb (List.mem_of_getElem? (i := 9) (by decide +kernel)), by decide +kernel, by decide +kernel⟩
abbrev kX8_bestSpeedNow : jM := (yX8_bestSpeedNow, cX8_bestSpeedNow, 6, some .int, [])
theorem pn_X8_bestSpeedNow : plainName (kX8_bestSpeedNow : jM).1.cls = true := by decide +kernel
theorem mo_X8_bestSpeedNow : jmV kX8_bestSpeedNow 1 := ⟨rfl, j_tb (List.mem_of_getElem? (i := 1237) (by decide +kernel)), j_tb (List.mem_of_getElem? (i := 1236) (by decide +kernel)), List.mem_append_left _ (by decide +kernel), j_tb (List.mem_of_getElem? (i := 9) (by decide +kernel)), by decide +kernel, by decide +kernel⟩
abbrev kX8_bestSpeed : jM := (yX8_bestSpeed, cX8_bestSpeed, 2, some .int, [])
theorem pn_X8_bestSpeed : plainName (kX8_bestSpeed : jM).1.cls = true := by decide +kernel
theorem mo_X8_bestSpeed : jmV kX8_bestSpeed 1 := ⟨rfl, j_tb (List.mem_of_getElem? (i := 1233) (by decide +kernel)), j_tb (List.mem_of_getElem? (i := 1231) (by decide +kernel)), j_tb (List.mem_of_getElem? (i := 1232) (by decide +kernel)), j_tb (List.mem_of_getElem? (i := 9) (by decide +kernel)), by decide +kernel, by decide +kernel⟩
abbrev kX8_offNow : jM := (yX8_offNow, cX8_offNow, 3, some .float, [])
theorem pn_X8_offNow : plainName (kX8_offNow : jM).1.cls = true := by decide +kernel
theorem mo_X8_offNow : jmV kX8_offNow 1 := ⟨rfl, j_tb (List.mem_of_getElem? (i := 1245) (by decide +kernel)), j_tb (List.mem_of_getElem? (i := 1244) (by decide +kernel)), List.mem_append_left _ (by decide +kernel), j_tb (List.mem_of_getElem? (i := 9) (by decide +kernel)), by decide +kernel, by decide +kernel⟩
abbrev kX8_offShare : jM := (yX8_offShare, cX8_offShare, 2, some .float, [])
theorem pn_X8_offShare : plainName (kX8_offShare : jM).1.cls = true := by decide +kernel
theorem mo_X8_offShare : jmV kX8_offShare 1 := ⟨rfl, j_tb (List.mem_of_getElem? (i := 1241) (by decide +kernel)), j_tb (List.mem_of_getElem? (i := 1239) (by decide +kernel)), j_tb (List.mem_of_getElem? (i := 1240) (by decide +kernel)), j_tb (List.mem_of_getElem? (i := 9) (by decide +kernel)), by decide +kernel, by decide +kernel⟩
abbrev kX8_meanNow : jM := (yX8_meanNow, cX8_meanNow, 4, some .double, [])
theorem pn_X8_meanNow : plainName (kX8_meanNow : jM).1.cls = true := by decide +kernel
theorem mo_X8_meanNow : jmV kX8_meanNow 1 := ⟨rfl, j_tb (List.mem_of_getElem? (i := 1253) (by decide +kernel)), j_tb (List.mem_of_getElem? (i := 1252) (by decide +kernel)), List.mem_append_left _ (by decide +kernel), j_tb (List.mem_of_getElem? (i := 9) (by decide +kernel)), by decide +kernel, by decide +kernel⟩
abbrev kX8_meanSpeed : jM := (yX8_meanSpeed, cX8_meanSpeed, 2, some .double, [])
theorem pn_X8_meanSpeed : plainName (kX8_meanSpeed : jM).1.cls = true := by decide +kernel
theorem mo_X8_meanSpeed : jmV kX8_meanSpeed 1 := ⟨rfl, j_tb (List.mem_of_getElem? (i := 1249) (by decide +kernel)), j_tb (List.mem_of_getElem? (i := 1247) (by decide +kernel)), j_tb (List.mem_of_getElem? (i := 1248) (by decide +kernel)), j_tb (List.mem_of_getElem? (i := 9) (by decide +kernel)), by decide +kernel, by decide +kernel⟩
abbrev kX8_mix : jM := (yX8_mix, cX8_mix, 3, none, [])
theorem pn_X8_mix : plainName (kX8_mix : jM).1.cls = true := by decide +kernel
theorem mo_X8_mix : jmV kX8_mix 1 := ⟨rfl, j_tb (List.mem_of_getElem? (i := 1263) (by decide +kernel)), j_tb (List.mem_of_getElem? (i := 1262) (by decide +kernel)), List.mem_append_left _ (by decide +kernel), j_tb (List.mem_of_getElem? (i := 9) (by decide +kernel)), by decide +kernel, by decide +kernel⟩
abbrev kX8_mixReel : jM := (yX8_mixReel, cX8_mixReel, 5, none, [])
theorem pn_X8_mixReel : plainName (kX8_mixReel : jM).1.cls = true := by decide +kernel
theorem mo_X8_mixReel : jmV kX8_mixReel 1 := ⟨rfl, j_tb (List.mem_of_getElem? (i := 1268) (by decide +kernel)), j_tb (List.mem_of_getElem? (i := 1267) (by decide +kernel)), List.mem_append_left _ (by decide +kernel), j_tb (List.mem_of_getElem? (i := 9) (by decide +kernel)), by decide +kernel, by decide +kernel⟩
abbrev kX8_digest : jM := (yX8_digest, cX8_digest, 2, some .long, [])
theorem pn_X8_digest : plainName (kX8_digest : jM).1.cls = true := by decide +kernel
theorem mo_X8_digest : jmV kX8_digest 0 := ⟨rfl, j_tb (List.mem_of_getElem? (i := 1258) (by decide +kernel)), j_tb (List.mem_of_getElem? (i := 1256) (by decide +kernel)), j_tb (List.mem_of_getElem? (i := 1257) (by decide +kernel)), j_tb (List.mem_of_getElem? (i := 9) (by decide +kernel)), by decide +kernel, by decide +kernel⟩
abbrev kJxe99ae_isNaN_b9ae7 : jM := (yJxe99ae_isNaN_b9ae7, cJxe99ae_isNaN_b9ae7, 2, some .boolean, [])
theorem mo_Jxe99ae_isNaN_b9ae7 : jmS kJxe99ae_isNaN_b9ae7 1 := ⟨rfl, j_tb (List.mem_of_getElem? (i := 1284) (by decide +kernel)), j_tb (List.mem_of_getElem? (i := 1283) (by decide +kernel)), j_tb (List.mem_of_getElem? (i := 18) (by decide +kernel)), by decide +kernel, by decide +kernel⟩
abbrev kJxe99ae_doubleToLongBits_ccdee : jM := (yJxe99ae_doubleToLongBits_ccdee, cJxe99ae_doubleToLongBits_ccdee, 2, some .long, [])
theorem mo_Jxe99ae_doubleToLongBits_ccdee : jmS kJxe99ae_doubleToLongBits_ccdee 1 := ⟨rfl, j_tb (List.mem_of_getElem? (i := 1281) (by decide +kernel)), j_tb (List.mem_of_getElem? (i := 1280) (by decide +kernel)), j_tb (List.mem_of_getElem? (i := 18) (by decide +kernel)), by decide +kernel, by decide +kernel⟩
abbrev kJxf58ca_isNaN_12338 : jM := (yJxf58ca_isNaN_12338, cJxf58ca_isNaN_12338, 1, some .boolean, [])
theorem mo_Jxf58ca_isNaN_12338 : jmS kJxf58ca_isNaN_12338 1 := ⟨rfl, j_tb (List.mem_of_getElem? (i := 1274) (by decide +kernel)), j_tb (List.mem_of_getElem? (i := 1273) (by decide +kernel)), j_tb (List.mem_of_getElem? (i := 17) (by decide +kernel)), by decide +kernel, by decide +kernel⟩
abbrev kJxf58ca_floatToIntBits_5c35a : jM := (yJxf58ca_floatToIntBits_5c35a, cJxf58ca_floatToIntBits_5c35a, 1, some .int, [])
theorem mo_Jxf58ca_floatToIntBits_5c35a : jmS kJxf58ca_floatToIntBits_5c35a 1 := ⟨rfl, j_tb (List.mem_of_getElem? (i := 1271) (by decide +kernel)), j_tb (List.mem_of_getElem? (i := 1270) (by decide +kernel)), j_tb (List.mem_of_getElem? (i := 17) (by decide +kernel)), by decide +kernel, by decide +kernel⟩
abbrev kJ9_abs_0f7a4 : jM := (yJ9_abs_0f7a4, cJ9_abs_0f7a4, 1, some .int, [])
theorem mo_J9_abs_0f7a4 : jmS kJ9_abs_0f7a4 1 := ⟨rfl, j_tb (List.mem_of_getElem? (i := 454) (by decide +kernel)), j_tb (List.mem_of_getElem? (i := 453) (by decide +kernel)), j_tb (List.mem_of_getElem? (i := 16) (by decide +kernel)), by decide +kernel, by decide +kernel⟩
abbrev kJ9_max_7cf53 : jM := (yJ9_max_7cf53, cJ9_max_7cf53, 2, some .int, [])
theorem mo_J9_max_7cf53 : jmS kJ9_max_7cf53 2 := ⟨rfl, j_tb (List.mem_of_getElem? (i := 421) (by decide +kernel)), j_tb (List.mem_of_getElem? (i := 420) (by decide +kernel)), j_tb (List.mem_of_getElem? (i := 16) (by decide +kernel)), by decide +kernel, by decide +kernel⟩
abbrev kJ9_min_7cf53 : jM := (yJ9_min_7cf53, cJ9_min_7cf53, 2, some .int, [])
theorem mo_J9_min_7cf53 : jmS kJ9_min_7cf53 2 := ⟨rfl, j_tb (List.mem_of_getElem? (i := 424) (by decide +kernel)), j_tb (List.mem_of_getElem? (i := 423) (by decide +kernel)), j_tb (List.mem_of_getElem? (i := 16) (by decide +kernel)), by decide +kernel, by decide +kernel⟩
abbrev kL_addScene : jM := (yL_addScene, cL_addScene, 5, some .int, [(0, 10, 13, 13), (0, 10, 17, 15), (0, 10, 21, 17)])
theorem pn_L_addScene : plainName (kL_addScene : jM).1.cls = true := by decide +kernel
theorem mo_L_addScene : jmH kL_addScene 4 := ⟨j_tb (List.mem_of_getElem? (i := 556) (by decide +kernel)), j_tb (List.mem_of_getElem? (i := 555) (by decide +kernel)), j_tb (List.mem_of_getElem? (i := 0) (by decide +kernel)), by decide +kernel, by decide +kernel⟩
abbrev kL_removeScene : jM := (yL_removeScene, cL_removeScene, 5, some .int, [(0, 10, 13, 13)])
theorem pn_L_removeScene : plainName (kL_removeScene : jM).1.cls = true := by decide +kernel
theorem mo_L_removeScene : jmH kL_removeScene 4 := ⟨j_tb (List.mem_of_getElem? (i := 705) (by decide +kernel)), j_tb (List.mem_of_getElem? (i := 704) (by decide +kernel)), j_tb (List.mem_of_getElem? (i := 0) (by decide +kernel)), by decide +kernel, by decide +kernel⟩
abbrev kL_crank : jM := (yL_crank, cL_crank, 6, some .int, [(0, 12, 15, 13), (0, 12, 19, 15), (0, 12, 23, 17)])
theorem pn_L_crank : plainName (kL_crank : jM).1.cls = true := by decide +kernel
theorem mo_L_crank : jmH kL_crank 5 := ⟨j_tb (List.mem_of_getElem? (i := 725) (by decide +kernel)), j_tb (List.mem_of_getElem? (i := 724) (by decide +kernel)), j_tb (List.mem_of_getElem? (i := 0) (by decide +kernel)), by decide +kernel, by decide +kernel⟩
abbrev kL_splice : jM := (yL_splice, cL_splice, 6, some .int, [(0, 12, 15, 13), (0, 12, 19, 15), (0, 12, 23, 17)])
theorem pn_L_splice : plainName (kL_splice : jM).1.cls = true := by decide +kernel
theorem mo_L_splice : jmH kL_splice 5 := ⟨j_tb (List.mem_of_getElem? (i := 738) (by decide +kernel)), j_tb (List.mem_of_getElem? (i := 737) (by decide +kernel)), j_tb (List.mem_of_getElem? (i := 0) (by decide +kernel)), by decide +kernel, by decide +kernel⟩
abbrev kL_addPiece : jM := (yL_addPiece, cL_addPiece, 6, some .int, [(0, 12, 15, 15), (0, 12, 19, 17)])
theorem pn_L_addPiece : plainName (kL_addPiece : jM).1.cls = true := by decide +kernel
theorem mo_L_addPiece : jmH kL_addPiece 5 := ⟨j_tb (List.mem_of_getElem? (i := 751) (by decide +kernel)), j_tb (List.mem_of_getElem? (i := 750) (by decide +kernel)), j_tb (List.mem_of_getElem? (i := 0) (by decide +kernel)), by decide +kernel, by decide +kernel⟩
abbrev kL_setCue : jM := (yL_setCue, cL_setCue, 8, some .int, [(0, 16, 19, 13), (0, 16, 23, 15)])
theorem pn_L_setCue : plainName (kL_setCue : jM).1.cls = true := by decide +kernel
theorem mo_L_setCue : jmH kL_setCue 7 := ⟨j_tb (List.mem_of_getElem? (i := 760) (by decide +kernel)), j_tb (List.mem_of_getElem? (i := 759) (by decide +kernel)), j_tb (List.mem_of_getElem? (i := 0) (by decide +kernel)), by decide +kernel, by decide +kernel⟩
abbrev kL_fit : jM := (yL_fit, cL_fit, 4, some .int, [(0, 9, 12, 13)])
theorem pn_L_fit : plainName (kL_fit : jM).1.cls = true := by decide +kernel
theorem mo_L_fit : jmH kL_fit 3 := ⟨j_tb (List.mem_of_getElem? (i := 782) (by decide +kernel)), j_tb (List.mem_of_getElem? (i := 781) (by decide +kernel)), j_tb (List.mem_of_getElem? (i := 0) (by decide +kernel)), by decide +kernel, by decide +kernel⟩
abbrev kL_set : jM := (yL_set, cL_set, 5, some .int, [(0, 10, 13, 15)])
theorem pn_L_set : plainName (kL_set : jM).1.cls = true := by decide +kernel
theorem mo_L_set : jmH kL_set 4 := ⟨j_tb (List.mem_of_getElem? (i := 793) (by decide +kernel)), j_tb (List.mem_of_getElem? (i := 792) (by decide +kernel)), j_tb (List.mem_of_getElem? (i := 0) (by decide +kernel)), by decide +kernel, by decide +kernel⟩
abbrev kL_append : jM := (yL_append, cL_append, 4, some .int, [(0, 9, 12, 15), (0, 9, 15, 17)])
theorem pn_L_append : plainName (kL_append : jM).1.cls = true := by decide +kernel
theorem mo_L_append : jmH kL_append 3 := ⟨j_tb (List.mem_of_getElem? (i := 800) (by decide +kernel)), j_tb (List.mem_of_getElem? (i := 799) (by decide +kernel)), j_tb (List.mem_of_getElem? (i := 0) (by decide +kernel)), by decide +kernel, by decide +kernel⟩
abbrev kL_load : jM := (yL_load, cL_load, 4, some .int, [(0, 9, 12, 13), (0, 9, 15, 15), (0, 9, 18, 17)])
theorem pn_L_load : plainName (kL_load : jM).1.cls = true := by decide +kernel
theorem mo_L_load : jmH kL_load 3 := ⟨j_tb (List.mem_of_getElem? (i := 808) (by decide +kernel)), j_tb (List.mem_of_getElem? (i := 807) (by decide +kernel)), j_tb (List.mem_of_getElem? (i := 0) (by decide +kernel)), by decide +kernel, by decide +kernel⟩
abbrev kL_undo : jM := (yL_undo, cL_undo, 3, some .int, [(0, 8, 11, 17)])
theorem pn_L_undo : plainName (kL_undo : jM).1.cls = true := by decide +kernel
theorem mo_L_undo : jmH kL_undo 2 := ⟨j_tb (List.mem_of_getElem? (i := 826) (by decide +kernel)), j_tb (List.mem_of_getElem? (i := 825) (by decide +kernel)), j_tb (List.mem_of_getElem? (i := 0) (by decide +kernel)), by decide +kernel, by decide +kernel⟩
abbrev kL_scene : jM := (yL_scene, cL_scene, 6, some .int, [(0, 12, 15, 13), (0, 12, 19, 15)])
theorem pn_L_scene : plainName (kL_scene : jM).1.cls = true := by decide +kernel
theorem mo_L_scene : jmH kL_scene 5 := ⟨j_tb (List.mem_of_getElem? (i := 834) (by decide +kernel)), j_tb (List.mem_of_getElem? (i := 833) (by decide +kernel)), j_tb (List.mem_of_getElem? (i := 0) (by decide +kernel)), by decide +kernel, by decide +kernel⟩
abbrev kL_reel : jM := (yL_reel, cL_reel, 5, some .int, [(0, 10, 13, 13), (0, 10, 17, 15)])
theorem pn_L_reel : plainName (kL_reel : jM).1.cls = true := by decide +kernel
theorem mo_L_reel : jmH kL_reel 4 := ⟨j_tb (List.mem_of_getElem? (i := 841) (by decide +kernel)), j_tb (List.mem_of_getElem? (i := 840) (by decide +kernel)), j_tb (List.mem_of_getElem? (i := 0) (by decide +kernel)), by decide +kernel, by decide +kernel⟩
abbrev kL_speedAt : jM := (yL_speedAt, cL_speedAt, 5, some .int, [(0, 10, 13, 13), (0, 10, 17, 15)])
theorem pn_L_speedAt : plainName (kL_speedAt : jM).1.cls = true := by decide +kernel
theorem mo_L_speedAt : jmH kL_speedAt 4 := ⟨j_tb (List.mem_of_getElem? (i := 848) (by decide +kernel)), j_tb (List.mem_of_getElem? (i := 847) (by decide +kernel)), j_tb (List.mem_of_getElem? (i := 0) (by decide +kernel)), by decide +kernel, by decide +kernel⟩
abbrev kL_piece : jM := (yL_piece, cL_piece, 5, some .int, [(0, 10, 13, 13), (0, 10, 17, 15)])
theorem pn_L_piece : plainName (kL_piece : jM).1.cls = true := by decide +kernel
theorem mo_L_piece : jmH kL_piece 4 := ⟨j_tb (List.mem_of_getElem? (i := 855) (by decide +kernel)), j_tb (List.mem_of_getElem? (i := 854) (by decide +kernel)), j_tb (List.mem_of_getElem? (i := 0) (by decide +kernel)), by decide +kernel, by decide +kernel⟩
abbrev kL_count : jM := (yL_count, cL_count, 4, some .int, [(0, 9, 12, 15)])
theorem pn_L_count : plainName (kL_count : jM).1.cls = true := by decide +kernel
theorem mo_L_count : jmH kL_count 3 := ⟨j_tb (List.mem_of_getElem? (i := 862) (by decide +kernel)), j_tb (List.mem_of_getElem? (i := 861) (by decide +kernel)), j_tb (List.mem_of_getElem? (i := 0) (by decide +kernel)), by decide +kernel, by decide +kernel⟩
abbrev kL_bestCue : jM := (yL_bestCue, cL_bestCue, 6, some .int, [(0, 12, 15, 13)])
theorem pn_L_bestCue : plainName (kL_bestCue : jM).1.cls = true := by decide +kernel
theorem mo_L_bestCue : jmH kL_bestCue 5 := ⟨j_tb (List.mem_of_getElem? (i := 869) (by decide +kernel)), j_tb (List.mem_of_getElem? (i := 868) (by decide +kernel)), j_tb (List.mem_of_getElem? (i := 0) (by decide +kernel)), by decide +kernel, by decide +kernel⟩
abbrev kL_bestPiece : jM := (yL_bestPiece, cL_bestPiece, 5, some .int, [(0, 10, 13, 13)])
theorem pn_L_bestPiece : plainName (kL_bestPiece : jM).1.cls = true := by decide +kernel
theorem mo_L_bestPiece : jmH kL_bestPiece 4 := ⟨j_tb (List.mem_of_getElem? (i := 876) (by decide +kernel)), j_tb (List.mem_of_getElem? (i := 875) (by decide +kernel)), j_tb (List.mem_of_getElem? (i := 0) (by decide +kernel)), by decide +kernel, by decide +kernel⟩
abbrev kL_ifCranked : jM := (yL_ifCranked, cL_ifCranked, 5, some .int, [(0, 10, 13, 13), (0, 10, 17, 15)])
theorem pn_L_ifCranked : plainName (kL_ifCranked : jM).1.cls = true := by decide +kernel
theorem mo_L_ifCranked : jmH kL_ifCranked 4 := ⟨j_tb (List.mem_of_getElem? (i := 883) (by decide +kernel)), j_tb (List.mem_of_getElem? (i := 882) (by decide +kernel)), j_tb (List.mem_of_getElem? (i := 0) (by decide +kernel)), by decide +kernel, by decide +kernel⟩
abbrev kL_bestSpeed : jM := (yL_bestSpeed, cL_bestSpeed, 4, some .int, [(0, 9, 12, 13)])
theorem pn_L_bestSpeed : plainName (kL_bestSpeed : jM).1.cls = true := by decide +kernel
theorem mo_L_bestSpeed : jmH kL_bestSpeed 3 := ⟨j_tb (List.mem_of_getElem? (i := 890) (by decide +kernel)), j_tb (List.mem_of_getElem? (i := 889) (by decide +kernel)), j_tb (List.mem_of_getElem? (i := 0) (by decide +kernel)), by decide +kernel, by decide +kernel⟩
abbrev kL_offShare : jM := (yL_offShare, cL_offShare, 4, some .int, [(0, 9, 12, 13)])
theorem pn_L_offShare : plainName (kL_offShare : jM).1.cls = true := by decide +kernel
theorem mo_L_offShare : jmH kL_offShare 3 := ⟨j_tb (List.mem_of_getElem? (i := 897) (by decide +kernel)), j_tb (List.mem_of_getElem? (i := 896) (by decide +kernel)), j_tb (List.mem_of_getElem? (i := 0) (by decide +kernel)), by decide +kernel, by decide +kernel⟩
abbrev kL_meanSpeed : jM := (yL_meanSpeed, cL_meanSpeed, 4, some .int, [(0, 8, 11, 13)])
theorem pn_L_meanSpeed : plainName (kL_meanSpeed : jM).1.cls = true := by decide +kernel
theorem mo_L_meanSpeed : jmH kL_meanSpeed 3 := ⟨j_tb (List.mem_of_getElem? (i := 904) (by decide +kernel)), j_tb (List.mem_of_getElem? (i := 903) (by decide +kernel)), j_tb (List.mem_of_getElem? (i := 0) (by decide +kernel)), by decide +kernel, by decide +kernel⟩
theorem ml_L_88 : Cond.methodLink RL 88 yX7_init ∈ lw_tbl := j_tb (List.mem_of_getElem? (i := 21) (by decide +kernel))
theorem ml_X7_1 : Cond.methodLink RX7 1 objectInit ∈ lw_tbl := j_tb (List.mem_of_getElem? (i := 24) (by decide +kernel))
theorem ml_X7_9 : Cond.methodLink RX7 9 yX5_init ∈ lw_tbl := j_tb (List.mem_of_getElem? (i := 29) (by decide +kernel))
theorem ml_X5_3 : Cond.methodLink RX5 3 objectInit ∈ lw_tbl := j_tb (List.mem_of_getElem? (i := 32) (by decide +kernel))
theorem ml_X5_11 : Cond.methodLink RX5 11 yX2_init ∈ lw_tbl := j_tb (List.mem_of_getElem? (i := 35) (by decide +kernel))
theorem ml_X2_3 : Cond.methodLink RX2 3 objectInit ∈ lw_tbl := j_tb (List.mem_of_getElem? (i := 38) (by decide +kernel))
theorem ml_X2_11 : Cond.methodLink RX2 11 yX3_init ∈ lw_tbl := j_tb (List.mem_of_getElem? (i := 41) (by decide +kernel))
theorem ml_X3_1 : Cond.methodLink RX3 1 objectInit ∈ lw_tbl := j_tb (List.mem_of_getElem? (i := 44) (by decide +kernel))
theorem ml_X2_31 : Cond.methodLink RX2 31 yX1_init ∈ lw_tbl := j_tb (List.mem_of_getElem? (i := 55) (by decide +kernel))
theorem ml_X1_3 : Cond.methodLink RX1 3 objectInit ∈ lw_tbl := j_tb (List.mem_of_getElem? (i := 58) (by decide +kernel))
theorem ml_X1_11 : Cond.methodLink RX1 11 yX3_init ∈ lw_tbl := j_tb (List.mem_of_getElem? (i := 60) (by decide +kernel))
theorem ml_X2_39 : Cond.methodLink RX2 39 yX1_mark ∈ lw_tbl := j_tb (List.mem_of_getElem? (i := 70) (by decide +kernel))
theorem ml_X1_31 : Cond.methodLink RX1 31 yX1_placeOf ∈ lw_tbl := j_tb (List.mem_of_getElem? (i := 74) (by decide +kernel))
theorem ml_X1_23 : Cond.methodLink RX1 23 yX3_size ∈ lw_tbl := j_tb (List.mem_of_getElem? (i := 78) (by decide +kernel))
theorem ml_X1_27 : Cond.methodLink RX1 27 yX3_at ∈ lw_tbl := j_tb (List.mem_of_getElem? (i := 82) (by decide +kernel))
theorem ml_X1_34 : Cond.methodLink RX1 34 yX1_isAt ∈ lw_tbl := j_tb (List.mem_of_getElem? (i := 86) (by decide +kernel))
theorem ml_X1_38 : Cond.methodLink RX1 38 yX3_put ∈ lw_tbl := j_tb (List.mem_of_getElem? (i := 90) (by decide +kernel))
theorem ml_X1_42 : Cond.methodLink RX1 42 yX3_insert ∈ lw_tbl := j_tb (List.mem_of_getElem? (i := 94) (by decide +kernel))
theorem ml_X3_17 : Cond.methodLink RX3 17 yX3_add ∈ lw_tbl := j_tb (List.mem_of_getElem? (i := 98) (by decide +kernel))
theorem ml_X3_21 : Cond.methodLink RX3 21 yX3_at ∈ lw_tbl := j_tb (List.mem_of_getElem? (i := 102) (by decide +kernel))
theorem ml_X3_25 : Cond.methodLink RX3 25 yX3_put ∈ lw_tbl := j_tb (List.mem_of_getElem? (i := 103) (by decide +kernel))
theorem ml_X5_26 : Cond.methodLink RX5 26 yX3_init ∈ lw_tbl := j_tb (List.mem_of_getElem? (i := 135) (by decide +kernel))
theorem ml_X7_22 : Cond.methodLink RX7 22 yX3_init ∈ lw_tbl := j_tb (List.mem_of_getElem? (i := 172) (by decide +kernel))
theorem ml_X7_31 : Cond.methodLink RX7 31 yX4_init ∈ lw_tbl := j_tb (List.mem_of_getElem? (i := 175) (by decide +kernel))
theorem ml_X4_3 : Cond.methodLink RX4 3 objectInit ∈ lw_tbl := j_tb (List.mem_of_getElem? (i := 178) (by decide +kernel))
theorem ml_X4_11 : Cond.methodLink RX4 11 yX3_init ∈ lw_tbl := j_tb (List.mem_of_getElem? (i := 180) (by decide +kernel))
theorem ml_X7_38 : Cond.methodLink RX7 38 yX6_init ∈ lw_tbl := j_tb (List.mem_of_getElem? (i := 203) (by decide +kernel))
theorem ml_X6_3 : Cond.methodLink RX6 3 objectInit ∈ lw_tbl := j_tb (List.mem_of_getElem? (i := 206) (by decide +kernel))
theorem ml_X6_11 : Cond.methodLink RX6 11 yX3_init ∈ lw_tbl := j_tb (List.mem_of_getElem? (i := 208) (by decide +kernel))
theorem ml_X0_3 : Cond.methodLink RX0 3 objectInit ∈ lw_tbl := j_tb (List.mem_of_getElem? (i := 271) (by decide +kernel))
theorem ml_L_128 : Cond.methodLink RL 128 yX7_clearBuffer ∈ lw_tbl := j_tb (List.mem_of_getElem? (i := 313) (by decide +kernel))
theorem ml_X7_166 : Cond.methodLink RX7 166 yX3_size ∈ lw_tbl := j_tb (List.mem_of_getElem? (i := 317) (by decide +kernel))
theorem ml_X7_169 : Cond.methodLink RX7 169 yX3_clear ∈ lw_tbl := j_tb (List.mem_of_getElem? (i := 318) (by decide +kernel))
theorem ml_L_132 : Cond.methodLink RL 132 yX7_firstError ∈ lw_tbl := j_tb (List.mem_of_getElem? (i := 322) (by decide +kernel))
theorem ml_X7_172 : Cond.methodLink RX7 172 yX7_readBuffer ∈ lw_tbl := j_tb (List.mem_of_getElem? (i := 326) (by decide +kernel))
theorem ml_X7_287 : Cond.methodLink RX7 287 yX4_begin ∈ lw_tbl := j_tb (List.mem_of_getElem? (i := 330) (by decide +kernel))
theorem ml_X4_33 : Cond.methodLink RX4 33 yX3_clear ∈ lw_tbl := j_tb (List.mem_of_getElem? (i := 334) (by decide +kernel))
theorem ml_X4_36 : Cond.methodLink RX4 36 yX4_beginScene ∈ lw_tbl := j_tb (List.mem_of_getElem? (i := 335) (by decide +kernel))
theorem ml_X4_39 : Cond.methodLink RX4 39 yX3_add ∈ lw_tbl := j_tb (List.mem_of_getElem? (i := 339) (by decide +kernel))
theorem ml_X7_148 : Cond.methodLink RX7 148 yX3_at ∈ lw_tbl := j_tb (List.mem_of_getElem? (i := 341) (by decide +kernel))
theorem ml_X7_290 : Cond.methodLink RX7 290 yX4_read ∈ lw_tbl := j_tb (List.mem_of_getElem? (i := 342) (by decide +kernel))
theorem ml_X4_54 : Cond.methodLink RX4 54 yX4_readComma ∈ lw_tbl := j_tb (List.mem_of_getElem? (i := 346) (by decide +kernel))
theorem ml_X4_58 : Cond.methodLink RX4 58 yX4_isComplete ∈ lw_tbl := j_tb (List.mem_of_getElem? (i := 350) (by decide +kernel))
theorem ml_X4_47 : Cond.methodLink RX4 47 yX4_latest ∈ lw_tbl := j_tb (List.mem_of_getElem? (i := 354) (by decide +kernel))
theorem ml_X4_29 : Cond.methodLink RX4 29 yX3_size ∈ lw_tbl := j_tb (List.mem_of_getElem? (i := 358) (by decide +kernel))
theorem ml_X4_50 : Cond.methodLink RX4 50 yX3_at ∈ lw_tbl := j_tb (List.mem_of_getElem? (i := 359) (by decide +kernel))
theorem ml_X4_61 : Cond.methodLink RX4 61 yX4_step ∈ lw_tbl := j_tb (List.mem_of_getElem? (i := 360) (by decide +kernel))
theorem ml_X4_65 : Cond.methodLink RX4 65 yX4_readAtSign ∈ lw_tbl := j_tb (List.mem_of_getElem? (i := 364) (by decide +kernel))
theorem ml_X4_72 : Cond.methodLink RX4 72 yX3_put ∈ lw_tbl := j_tb (List.mem_of_getElem? (i := 368) (by decide +kernel))
theorem ml_X4_68 : Cond.methodLink RX4 68 yX4_readDigit ∈ lw_tbl := j_tb (List.mem_of_getElem? (i := 369) (by decide +kernel))
theorem ml_X4_76 : Cond.methodLink RX4 76 yX4_grow ∈ lw_tbl := j_tb (List.mem_of_getElem? (i := 373) (by decide +kernel))
theorem ml_L_177 : Cond.methodLink RL 177 yX7_digest ∈ lw_tbl := j_tb (List.mem_of_getElem? (i := 377) (by decide +kernel))
theorem ml_X7_227 : Cond.methodLink RX7 227 yX7_countProperty ∈ lw_tbl := j_tb (List.mem_of_getElem? (i := 382) (by decide +kernel))
theorem ml_X7_118 : Cond.methodLink RX7 118 yX5_pieces ∈ lw_tbl := j_tb (List.mem_of_getElem? (i := 386) (by decide +kernel))
theorem ml_X5_46 : Cond.methodLink RX5 46 yX3_size ∈ lw_tbl := j_tb (List.mem_of_getElem? (i := 390) (by decide +kernel))
theorem ml_X7_344 : Cond.methodLink RX7 344 yX7_sumOverReels ∈ lw_tbl := j_tb (List.mem_of_getElem? (i := 391) (by decide +kernel))
theorem ml_X7_60 : Cond.methodLink RX7 60 yX5_reelAt ∈ lw_tbl := j_tb (List.mem_of_getElem? (i := 395) (by decide +kernel))
theorem ml_X7_141 : Cond.methodLink RX7 141 yX6_measure ∈ lw_tbl := j_tb (List.mem_of_getElem? (i := 399) (by decide +kernel))
theorem ml_X6_38 : Cond.methodLink RX6 38 yX6_clear ∈ lw_tbl := j_tb (List.mem_of_getElem? (i := 403) (by decide +kernel))
theorem ml_X6_79 : Cond.methodLink RX6 79 yX3_clear ∈ lw_tbl := j_tb (List.mem_of_getElem? (i := 407) (by decide +kernel))
theorem ml_X6_41 : Cond.methodLink RX6 41 yX2_scenes ∈ lw_tbl := j_tb (List.mem_of_getElem? (i := 408) (by decide +kernel))
theorem ml_X2_43 : Cond.methodLink RX2 43 yX3_size ∈ lw_tbl := j_tb (List.mem_of_getElem? (i := 412) (by decide +kernel))
theorem ml_X6_54 : Cond.methodLink RX6 54 yX3_at ∈ lw_tbl := j_tb (List.mem_of_getElem? (i := 413) (by decide +kernel))
theorem ml_X6_58 : Cond.methodLink RX6 58 yX2_lostBetween ∈ lw_tbl := j_tb (List.mem_of_getElem? (i := 414) (by decide +kernel))
theorem ml_X2_47 : Cond.methodLink RX2 47 yX3_at ∈ lw_tbl := j_tb (List.mem_of_getElem? (i := 418) (by decide +kernel))
theorem ml_X2_64 : Cond.methodLink RX2 64 Lib.Math.max.name ∈ lw_tbl := j_tb (List.mem_of_getElem? (i := 419) (by decide +kernel))
theorem ml_X2_73 : Cond.methodLink RX2 73 Lib.Math.min.name ∈ lw_tbl := j_tb (List.mem_of_getElem? (i := 422) (by decide +kernel))
theorem ml_X6_62 : Cond.methodLink RX6 62 yX2_timeBetween ∈ lw_tbl := j_tb (List.mem_of_getElem? (i := 425) (by decide +kernel))
theorem ml_X2_76 : Cond.methodLink RX2 76 yX2_lostBetween ∈ lw_tbl := j_tb (List.mem_of_getElem? (i := 429) (by decide +kernel))
theorem ml_X2_79 : Cond.methodLink RX2 79 yX2_footTime ∈ lw_tbl := j_tb (List.mem_of_getElem? (i := 430) (by decide +kernel))
theorem ml_X6_66 : Cond.methodLink RX6 66 yX3_add ∈ lw_tbl := j_tb (List.mem_of_getElem? (i := 433) (by decide +kernel))
theorem ml_X6_75 : Cond.methodLink RX6 75 yX6_measureCue ∈ lw_tbl := j_tb (List.mem_of_getElem? (i := 434) (by decide +kernel))
theorem ml_X6_92 : Cond.methodLink RX6 92 Lib.Math.max.name ∈ lw_tbl := j_tb (List.mem_of_getElem? (i := 438) (by decide +kernel))
theorem ml_X6_97 : Cond.methodLink RX6 97 yX2_hasCue ∈ lw_tbl := j_tb (List.mem_of_getElem? (i := 439) (by decide +kernel))
theorem ml_X6_110 : Cond.methodLink RX6 110 yX5_playTime ∈ lw_tbl := j_tb (List.mem_of_getElem? (i := 444) (by decide +kernel))
theorem ml_X5_59 : Cond.methodLink RX5 59 yX3_at ∈ lw_tbl := j_tb (List.mem_of_getElem? (i := 448) (by decide +kernel))
theorem ml_X5_63 : Cond.methodLink RX5 63 yX5_timeAtPace ∈ lw_tbl := j_tb (List.mem_of_getElem? (i := 449) (by decide +kernel))
theorem ml_X6_115 : Cond.methodLink RX6 115 Lib.Math.abs.name ∈ lw_tbl := j_tb (List.mem_of_getElem? (i := 452) (by decide +kernel))
theorem ml_X6_118 : Cond.methodLink RX6 118 yX5_isBad ∈ lw_tbl := j_tb (List.mem_of_getElem? (i := 455) (by decide +kernel))
theorem ml_X5_67 : Cond.methodLink RX5 67 Lib.Math.abs.name ∈ lw_tbl := j_tb (List.mem_of_getElem? (i := 459) (by decide +kernel))
theorem ml_X7_64 : Cond.methodLink RX7 64 yX2_scenes ∈ lw_tbl := j_tb (List.mem_of_getElem? (i := 460) (by decide +kernel))
theorem ml_X7_262 : Cond.methodLink RX7 262 yX7_mix ∈ lw_tbl := j_tb (List.mem_of_getElem? (i := 461) (by decide +kernel))
theorem ml_X7_223 : Cond.methodLink RX7 223 yX7_pieceProperty ∈ lw_tbl := j_tb (List.mem_of_getElem? (i := 465) (by decide +kernel))
theorem ml_X7_341 : Cond.methodLink RX7 341 yX5_cuesWith ∈ lw_tbl := j_tb (List.mem_of_getElem? (i := 469) (by decide +kernel))
theorem ml_X5_53 : Cond.methodLink RX5 53 yX5_reelAt ∈ lw_tbl := j_tb (List.mem_of_getElem? (i := 473) (by decide +kernel))
theorem ml_X7_266 : Cond.methodLink RX7 266 yX7_mixReel ∈ lw_tbl := j_tb (List.mem_of_getElem? (i := 474) (by decide +kernel))
theorem ml_X7_216 : Cond.methodLink RX7 216 yX7_reelProperty ∈ lw_tbl := j_tb (List.mem_of_getElem? (i := 478) (by decide +kernel))
theorem ml_X7_107 : Cond.methodLink RX7 107 yX1_size ∈ lw_tbl := j_tb (List.mem_of_getElem? (i := 482) (by decide +kernel))
theorem ml_X7_335 : Cond.methodLink RX7 335 yX6_silence ∈ lw_tbl := j_tb (List.mem_of_getElem? (i := 486) (by decide +kernel))
theorem ml_X6_121 : Cond.methodLink RX6 121 Lib.Math.min.name ∈ lw_tbl := j_tb (List.mem_of_getElem? (i := 490) (by decide +kernel))
theorem ml_X7_212 : Cond.methodLink RX7 212 yX7_sceneProperty ∈ lw_tbl := j_tb (List.mem_of_getElem? (i := 491) (by decide +kernel))
theorem ml_X7_152 : Cond.methodLink RX7 152 yX2_hasCue ∈ lw_tbl := j_tb (List.mem_of_getElem? (i := 495) (by decide +kernel))
theorem ml_X7_320 : Cond.methodLink RX7 320 yX5_isBad ∈ lw_tbl := j_tb (List.mem_of_getElem? (i := 496) (by decide +kernel))
theorem ml_X7_230 : Cond.methodLink RX7 230 yX6_roomForCue ∈ lw_tbl := j_tb (List.mem_of_getElem? (i := 497) (by decide +kernel))
theorem ml_X7_242 : Cond.methodLink RX7 242 yX7_pieceForRoom ∈ lw_tbl := j_tb (List.mem_of_getElem? (i := 501) (by decide +kernel))
theorem ml_X7_233 : Cond.methodLink RX7 233 yX0_search ∈ lw_tbl := j_tb (List.mem_of_getElem? (i := 506) (by decide +kernel))
theorem ml_X0_15 : Cond.methodLink RX0 15 yX3_at ∈ lw_tbl := j_tb (List.mem_of_getElem? (i := 510) (by decide +kernel))
theorem ml_X0_39 : Cond.methodLink RX0 39 yX0_tryPaces ∈ lw_tbl := j_tb (List.mem_of_getElem? (i := 512) (by decide +kernel))
theorem ml_X0_43 : Cond.methodLink RX0 43 yX5_timeAtPace ∈ lw_tbl := j_tb (List.mem_of_getElem? (i := 516) (by decide +kernel))
theorem ml_X0_47 : Cond.methodLink RX0 47 yX0_consider ∈ lw_tbl := j_tb (List.mem_of_getElem? (i := 517) (by decide +kernel))
theorem ml_X0_51 : Cond.methodLink RX0 51 Lib.Math.abs.name ∈ lw_tbl := j_tb (List.mem_of_getElem? (i := 521) (by decide +kernel))
theorem ml_X7_220 : Cond.methodLink RX7 220 yX1_valueHoldingAt ∈ lw_tbl := j_tb (List.mem_of_getElem? (i := 522) (by decide +kernel))
theorem ml_X7_248 : Cond.methodLink RX7 248 yX7_speedForReel ∈ lw_tbl := j_tb (List.mem_of_getElem? (i := 526) (by decide +kernel))
theorem ml_X7_252 : Cond.methodLink RX7 252 yX7_measuredOffShare ∈ lw_tbl := j_tb (List.mem_of_getElem? (i := 530) (by decide +kernel))
theorem ml_X7_351 : Cond.methodLink RX7 351 yX7_floatBits ∈ lw_tbl := j_tb (List.mem_of_getElem? (i := 534) (by decide +kernel))
theorem ml_X7_256 : Cond.methodLink RX7 256 yX7_measuredMeanSpeed ∈ lw_tbl := j_tb (List.mem_of_getElem? (i := 541) (by decide +kernel))
theorem ml_X7_355 : Cond.methodLink RX7 355 yX7_doubleBits ∈ lw_tbl := j_tb (List.mem_of_getElem? (i := 546) (by decide +kernel))
theorem ml_L_92 : Cond.methodLink RL 92 yL_addScene ∈ lw_tbl := j_tb (List.mem_of_getElem? (i := 554) (by decide +kernel))
theorem ml_L_7 : Cond.methodLink RL 7 yX7_addScene ∈ lw_tbl := j_tb (List.mem_of_getElem? (i := 560) (by decide +kernel))
theorem ml_X7_53 : Cond.methodLink RX7 53 yX7_requireReel ∈ lw_tbl := j_tb (List.mem_of_getElem? (i := 564) (by decide +kernel))
theorem ml_X7_56 : Cond.methodLink RX7 56 yX7_requireRange ∈ lw_tbl := j_tb (List.mem_of_getElem? (i := 636) (by decide +kernel))
theorem ml_X7_77 : Cond.methodLink RX7 77 yX7_save ∈ lw_tbl := j_tb (List.mem_of_getElem? (i := 671) (by decide +kernel))
theorem ml_X7_204 : Cond.methodLink RX7 204 yX7_savedAt ∈ lw_tbl := j_tb (List.mem_of_getElem? (i := 675) (by decide +kernel))
theorem ml_X7_208 : Cond.methodLink RX7 208 yX5_takeFrom ∈ lw_tbl := j_tb (List.mem_of_getElem? (i := 679) (by decide +kernel))
theorem ml_X5_72 : Cond.methodLink RX5 72 yX2_takeFrom ∈ lw_tbl := j_tb (List.mem_of_getElem? (i := 683) (by decide +kernel))
theorem ml_X2_82 : Cond.methodLink RX2 82 yX3_takeFrom ∈ lw_tbl := j_tb (List.mem_of_getElem? (i := 687) (by decide +kernel))
theorem ml_X3_29 : Cond.methodLink RX3 29 yX3_clear ∈ lw_tbl := j_tb (List.mem_of_getElem? (i := 691) (by decide +kernel))
theorem ml_X2_86 : Cond.methodLink RX2 86 yX1_takeFrom ∈ lw_tbl := j_tb (List.mem_of_getElem? (i := 692) (by decide +kernel))
theorem ml_X1_48 : Cond.methodLink RX1 48 yX3_takeFrom ∈ lw_tbl := j_tb (List.mem_of_getElem? (i := 696) (by decide +kernel))
theorem ml_X5_76 : Cond.methodLink RX5 76 yX3_takeFrom ∈ lw_tbl := j_tb (List.mem_of_getElem? (i := 697) (by decide +kernel))
theorem ml_X7_81 : Cond.methodLink RX7 81 yX2_extend ∈ lw_tbl := j_tb (List.mem_of_getElem? (i := 698) (by decide +kernel))
theorem ml_X2_52 : Cond.methodLink RX2 52 yX3_add ∈ lw_tbl := j_tb (List.mem_of_getElem? (i := 702) (by decide +kernel))
theorem ml_L_101 : Cond.methodLink RL 101 yL_removeScene ∈ lw_tbl := j_tb (List.mem_of_getElem? (i := 703) (by decide +kernel))
theorem ml_L_19 : Cond.methodLink RL 19 yX7_removeScene ∈ lw_tbl := j_tb (List.mem_of_getElem? (i := 706) (by decide +kernel))
theorem ml_X7_85 : Cond.methodLink RX7 85 yX7_requireScene ∈ lw_tbl := j_tb (List.mem_of_getElem? (i := 710) (by decide +kernel))
theorem ml_X7_89 : Cond.methodLink RX7 89 yX2_cutOut ∈ lw_tbl := j_tb (List.mem_of_getElem? (i := 715) (by decide +kernel))
theorem ml_X2_55 : Cond.methodLink RX2 55 yX3_remove ∈ lw_tbl := j_tb (List.mem_of_getElem? (i := 719) (by decide +kernel))
theorem ml_L_104 : Cond.methodLink RL 104 yL_crank ∈ lw_tbl := j_tb (List.mem_of_getElem? (i := 723) (by decide +kernel))
theorem ml_L_22 : Cond.methodLink RL 22 yX7_crank ∈ lw_tbl := j_tb (List.mem_of_getElem? (i := 726) (by decide +kernel))
theorem ml_X7_96 : Cond.methodLink RX7 96 yX1_hasRoomFor ∈ lw_tbl := j_tb (List.mem_of_getElem? (i := 730) (by decide +kernel))
theorem ml_X7_104 : Cond.methodLink RX7 104 yX1_mark ∈ lw_tbl := j_tb (List.mem_of_getElem? (i := 735) (by decide +kernel))
theorem ml_L_108 : Cond.methodLink RL 108 yL_splice ∈ lw_tbl := j_tb (List.mem_of_getElem? (i := 736) (by decide +kernel))
theorem ml_L_26 : Cond.methodLink RL 26 yX7_splice ∈ lw_tbl := j_tb (List.mem_of_getElem? (i := 739) (by decide +kernel))
theorem ml_X7_115 : Cond.methodLink RX7 115 yX1_unmark ∈ lw_tbl := j_tb (List.mem_of_getElem? (i := 744) (by decide +kernel))
theorem ml_X1_45 : Cond.methodLink RX1 45 yX3_remove ∈ lw_tbl := j_tb (List.mem_of_getElem? (i := 748) (by decide +kernel))
theorem ml_L_111 : Cond.methodLink RL 111 yL_addPiece ∈ lw_tbl := j_tb (List.mem_of_getElem? (i := 749) (by decide +kernel))
theorem ml_L_29 : Cond.methodLink RL 29 yX7_addPiece ∈ lw_tbl := j_tb (List.mem_of_getElem? (i := 752) (by decide +kernel))
theorem ml_X7_126 : Cond.methodLink RX7 126 yX3_add ∈ lw_tbl := j_tb (List.mem_of_getElem? (i := 757) (by decide +kernel))
theorem ml_L_114 : Cond.methodLink RL 114 yL_setCue ∈ lw_tbl := j_tb (List.mem_of_getElem? (i := 758) (by decide +kernel))
theorem ml_L_32 : Cond.methodLink RL 32 yX7_setCue ∈ lw_tbl := j_tb (List.mem_of_getElem? (i := 761) (by decide +kernel))
theorem ml_X7_135 : Cond.methodLink RX7 135 yX7_requirePiece ∈ lw_tbl := j_tb (List.mem_of_getElem? (i := 765) (by decide +kernel))
theorem ml_X7_277 : Cond.methodLink RX7 277 yX5_hasPiece ∈ lw_tbl := j_tb (List.mem_of_getElem? (i := 769) (by decide +kernel))
theorem ml_X5_50 : Cond.methodLink RX5 50 yX5_pieces ∈ lw_tbl := j_tb (List.mem_of_getElem? (i := 773) (by decide +kernel))
theorem ml_X7_138 : Cond.methodLink RX7 138 yX2_giveCue ∈ lw_tbl := j_tb (List.mem_of_getElem? (i := 775) (by decide +kernel))
theorem ml_X2_58 : Cond.methodLink RX2 58 yX3_put ∈ lw_tbl := j_tb (List.mem_of_getElem? (i := 779) (by decide +kernel))
theorem ml_L_118 : Cond.methodLink RL 118 yL_fit ∈ lw_tbl := j_tb (List.mem_of_getElem? (i := 780) (by decide +kernel))
theorem ml_L_36 : Cond.methodLink RL 36 yX7_fit ∈ lw_tbl := j_tb (List.mem_of_getElem? (i := 783) (by decide +kernel))
theorem ml_X7_155 : Cond.methodLink RX7 155 yX7_fitScene ∈ lw_tbl := j_tb (List.mem_of_getElem? (i := 787) (by decide +kernel))
theorem ml_L_122 : Cond.methodLink RL 122 yL_set ∈ lw_tbl := j_tb (List.mem_of_getElem? (i := 791) (by decide +kernel))
theorem ml_L_40 : Cond.methodLink RL 40 yX7_set ∈ lw_tbl := j_tb (List.mem_of_getElem? (i := 794) (by decide +kernel))
theorem ml_L_125 : Cond.methodLink RL 125 yL_append ∈ lw_tbl := j_tb (List.mem_of_getElem? (i := 798) (by decide +kernel))
theorem ml_L_43 : Cond.methodLink RL 43 yX7_append ∈ lw_tbl := j_tb (List.mem_of_getElem? (i := 801) (by decide +kernel))
theorem ml_L_136 : Cond.methodLink RL 136 yL_load ∈ lw_tbl := j_tb (List.mem_of_getElem? (i := 806) (by decide +kernel))
theorem ml_L_46 : Cond.methodLink RL 46 yX7_load ∈ lw_tbl := j_tb (List.mem_of_getElem? (i := 809) (by decide +kernel))
theorem ml_X7_175 : Cond.methodLink RX7 175 yX4_isComplete ∈ lw_tbl := j_tb (List.mem_of_getElem? (i := 813) (by decide +kernel))
theorem ml_X7_184 : Cond.methodLink RX7 184 yX4_scenes ∈ lw_tbl := j_tb (List.mem_of_getElem? (i := 815) (by decide +kernel))
theorem ml_X7_185 : Cond.methodLink RX7 185 yX7_hasPiecesThatWereRead ∈ lw_tbl := j_tb (List.mem_of_getElem? (i := 819) (by decide +kernel))
theorem ml_L_139 : Cond.methodLink RL 139 yL_undo ∈ lw_tbl := j_tb (List.mem_of_getElem? (i := 824) (by decide +kernel))
theorem ml_L_49 : Cond.methodLink RL 49 yX7_undo ∈ lw_tbl := j_tb (List.mem_of_getElem? (i := 827) (by decide +kernel))
theorem ml_L_143 : Cond.methodLink RL 143 yL_scene ∈ lw_tbl := j_tb (List.mem_of_getElem? (i := 832) (by decide +kernel))
theorem ml_L_53 : Cond.methodLink RL 53 yX7_scene ∈ lw_tbl := j_tb (List.mem_of_getElem? (i := 835) (by decide +kernel))
theorem ml_L_146 : Cond.methodLink RL 146 yL_reel ∈ lw_tbl := j_tb (List.mem_of_getElem? (i := 839) (by decide +kernel))
theorem ml_L_56 : Cond.methodLink RL 56 yX7_reel ∈ lw_tbl := j_tb (List.mem_of_getElem? (i := 842) (by decide +kernel))
theorem ml_L_149 : Cond.methodLink RL 149 yL_speedAt ∈ lw_tbl := j_tb (List.mem_of_getElem? (i := 846) (by decide +kernel))
theorem ml_L_59 : Cond.methodLink RL 59 yX7_speedAt ∈ lw_tbl := j_tb (List.mem_of_getElem? (i := 849) (by decide +kernel))
theorem ml_L_152 : Cond.methodLink RL 152 yL_piece ∈ lw_tbl := j_tb (List.mem_of_getElem? (i := 853) (by decide +kernel))
theorem ml_L_62 : Cond.methodLink RL 62 yX7_piece ∈ lw_tbl := j_tb (List.mem_of_getElem? (i := 856) (by decide +kernel))
theorem ml_L_155 : Cond.methodLink RL 155 yL_count ∈ lw_tbl := j_tb (List.mem_of_getElem? (i := 860) (by decide +kernel))
theorem ml_L_65 : Cond.methodLink RL 65 yX7_count ∈ lw_tbl := j_tb (List.mem_of_getElem? (i := 863) (by decide +kernel))
theorem ml_L_158 : Cond.methodLink RL 158 yL_bestCue ∈ lw_tbl := j_tb (List.mem_of_getElem? (i := 867) (by decide +kernel))
theorem ml_L_68 : Cond.methodLink RL 68 yX7_bestCue ∈ lw_tbl := j_tb (List.mem_of_getElem? (i := 870) (by decide +kernel))
theorem ml_L_161 : Cond.methodLink RL 161 yL_bestPiece ∈ lw_tbl := j_tb (List.mem_of_getElem? (i := 874) (by decide +kernel))
theorem ml_L_71 : Cond.methodLink RL 71 yX7_bestPiece ∈ lw_tbl := j_tb (List.mem_of_getElem? (i := 877) (by decide +kernel))
theorem ml_L_164 : Cond.methodLink RL 164 yL_ifCranked ∈ lw_tbl := j_tb (List.mem_of_getElem? (i := 881) (by decide +kernel))
theorem ml_L_74 : Cond.methodLink RL 74 yX7_ifCranked ∈ lw_tbl := j_tb (List.mem_of_getElem? (i := 884) (by decide +kernel))
theorem ml_L_167 : Cond.methodLink RL 167 yL_bestSpeed ∈ lw_tbl := j_tb (List.mem_of_getElem? (i := 888) (by decide +kernel))
theorem ml_L_77 : Cond.methodLink RL 77 yX7_bestSpeed ∈ lw_tbl := j_tb (List.mem_of_getElem? (i := 891) (by decide +kernel))
theorem ml_L_170 : Cond.methodLink RL 170 yL_offShare ∈ lw_tbl := j_tb (List.mem_of_getElem? (i := 895) (by decide +kernel))
theorem ml_L_80 : Cond.methodLink RL 80 yX7_offShare ∈ lw_tbl := j_tb (List.mem_of_getElem? (i := 898) (by decide +kernel))
theorem ml_L_174 : Cond.methodLink RL 174 yL_meanSpeed ∈ lw_tbl := j_tb (List.mem_of_getElem? (i := 902) (by decide +kernel))
theorem ml_L_84 : Cond.methodLink RL 84 yX7_meanSpeed ∈ lw_tbl := j_tb (List.mem_of_getElem? (i := 905) (by decide +kernel))
theorem ml_L_91 : Cond.methodLink RL 91 yX8_init ∈ lw_tbl := j_tb (List.mem_of_getElem? (i := 911) (by decide +kernel))
theorem ml_X8_1 : Cond.methodLink RX8 1 objectInit ∈ lw_tbl := j_tb (List.mem_of_getElem? (i := 914) (by decide +kernel))
theorem ml_L_98 : Cond.methodLink RL 98 yX8_thrown ∈ lw_tbl := j_tb (List.mem_of_getElem? (i := 964) (by decide +kernel))
theorem ml_L_142 : Cond.methodLink RL 142 yX8_undo ∈ lw_tbl := j_tb (List.mem_of_getElem? (i := 968) (by decide +kernel))
theorem ml_L_97 : Cond.methodLink RL 97 yX8_addScene ∈ lw_tbl := j_tb (List.mem_of_getElem? (i := 972) (by decide +kernel))
theorem ml_X8_42 : Cond.methodLink RX8 42 yX8_isReel ∈ lw_tbl := j_tb (List.mem_of_getElem? (i := 976) (by decide +kernel))
theorem ml_X8_38 : Cond.methodLink RX8 38 yX8_within ∈ lw_tbl := j_tb (List.mem_of_getElem? (i := 979) (by decide +kernel))
theorem ml_X8_46 : Cond.methodLink RX8 46 yX8_scenes ∈ lw_tbl := j_tb (List.mem_of_getElem? (i := 982) (by decide +kernel))
theorem ml_X8_91 : Cond.methodLink RX8 91 yX8_save ∈ lw_tbl := j_tb (List.mem_of_getElem? (i := 986) (by decide +kernel))
theorem ml_X8_94 : Cond.methodLink RX8 94 yX8_bring ∈ lw_tbl := j_tb (List.mem_of_getElem? (i := 991) (by decide +kernel))
theorem ml_L_103 : Cond.methodLink RL 103 yX8_removeScene ∈ lw_tbl := j_tb (List.mem_of_getElem? (i := 995) (by decide +kernel))
theorem ml_X8_98 : Cond.methodLink RX8 98 yX8_isScene ∈ lw_tbl := j_tb (List.mem_of_getElem? (i := 999) (by decide +kernel))
theorem ml_L_107 : Cond.methodLink RL 107 yX8_crank ∈ lw_tbl := j_tb (List.mem_of_getElem? (i := 1003) (by decide +kernel))
theorem ml_X8_101 : Cond.methodLink RX8 101 yX8_holdAt ∈ lw_tbl := j_tb (List.mem_of_getElem? (i := 1007) (by decide +kernel))
theorem ml_X8_104 : Cond.methodLink RX8 104 yX8_hold ∈ lw_tbl := j_tb (List.mem_of_getElem? (i := 1011) (by decide +kernel))
theorem ml_L_110 : Cond.methodLink RL 110 yX8_splice ∈ lw_tbl := j_tb (List.mem_of_getElem? (i := 1015) (by decide +kernel))
theorem ml_X8_107 : Cond.methodLink RX8 107 yX8_drop ∈ lw_tbl := j_tb (List.mem_of_getElem? (i := 1019) (by decide +kernel))
theorem ml_L_113 : Cond.methodLink RL 113 yX8_addPiece ∈ lw_tbl := j_tb (List.mem_of_getElem? (i := 1023) (by decide +kernel))
theorem ml_L_117 : Cond.methodLink RL 117 yX8_setCue ∈ lw_tbl := j_tb (List.mem_of_getElem? (i := 1027) (by decide +kernel))
theorem ml_X8_110 : Cond.methodLink RX8 110 yX8_isPiece ∈ lw_tbl := j_tb (List.mem_of_getElem? (i := 1031) (by decide +kernel))
theorem ml_X8_113 : Cond.methodLink RX8 113 yX8_lay ∈ lw_tbl := j_tb (List.mem_of_getElem? (i := 1035) (by decide +kernel))
theorem ml_X8_69 : Cond.methodLink RX8 69 yX8_layScenes ∈ lw_tbl := j_tb (List.mem_of_getElem? (i := 1039) (by decide +kernel))
theorem ml_X8_50 : Cond.methodLink RX8 50 yX8_of ∈ lw_tbl := j_tb (List.mem_of_getElem? (i := 1043) (by decide +kernel))
theorem ml_X8_54 : Cond.methodLink RX8 54 yX8_isLost ∈ lw_tbl := j_tb (List.mem_of_getElem? (i := 1047) (by decide +kernel))
theorem ml_X8_58 : Cond.methodLink RX8 58 yX8_speedOf ∈ lw_tbl := j_tb (List.mem_of_getElem? (i := 1051) (by decide +kernel))
theorem ml_X8_73 : Cond.methodLink RX8 73 yX8_layCue ∈ lw_tbl := j_tb (List.mem_of_getElem? (i := 1055) (by decide +kernel))
theorem ml_X8_63 : Cond.methodLink RX8 63 yX8_beginOf ∈ lw_tbl := j_tb (List.mem_of_getElem? (i := 1059) (by decide +kernel))
theorem ml_X8_66 : Cond.methodLink RX8 66 yX8_playTime ∈ lw_tbl := j_tb (List.mem_of_getElem? (i := 1063) (by decide +kernel))
theorem ml_X8_76 : Cond.methodLink RX8 76 yX8_drift ∈ lw_tbl := j_tb (List.mem_of_getElem? (i := 1067) (by decide +kernel))
theorem ml_L_121 : Cond.methodLink RL 121 yX8_fit ∈ lw_tbl := j_tb (List.mem_of_getElem? (i := 1071) (by decide +kernel))
theorem ml_X8_116 : Cond.methodLink RX8 116 yX8_bestOf ∈ lw_tbl := j_tb (List.mem_of_getElem? (i := 1075) (by decide +kernel))
theorem ml_X8_79 : Cond.methodLink RX8 79 yX8_size ∈ lw_tbl := j_tb (List.mem_of_getElem? (i := 1079) (by decide +kernel))
theorem ml_L_124 : Cond.methodLink RL 124 yX8_set ∈ lw_tbl := j_tb (List.mem_of_getElem? (i := 1082) (by decide +kernel))
theorem ml_L_127 : Cond.methodLink RL 127 yX8_append ∈ lw_tbl := j_tb (List.mem_of_getElem? (i := 1086) (by decide +kernel))
theorem ml_L_131 : Cond.methodLink RL 131 yX8_clearBuffer ∈ lw_tbl := j_tb (List.mem_of_getElem? (i := 1090) (by decide +kernel))
theorem ml_L_135 : Cond.methodLink RL 135 yX8_firstError ∈ lw_tbl := j_tb (List.mem_of_getElem? (i := 1094) (by decide +kernel))
theorem ml_X8_154 : Cond.methodLink RX8 154 yX8_readText ∈ lw_tbl := j_tb (List.mem_of_getElem? (i := 1098) (by decide +kernel))
theorem ml_X8_145 : Cond.methodLink RX8 145 yX8_beginEntry ∈ lw_tbl := j_tb (List.mem_of_getElem? (i := 1102) (by decide +kernel))
theorem ml_X8_151 : Cond.methodLink RX8 151 yX8_takes ∈ lw_tbl := j_tb (List.mem_of_getElem? (i := 1106) (by decide +kernel))
theorem ml_X8_141 : Cond.methodLink RX8 141 yX8_isOver ∈ lw_tbl := j_tb (List.mem_of_getElem? (i := 1110) (by decide +kernel))
theorem ml_X8_148 : Cond.methodLink RX8 148 yX8_takesPart ∈ lw_tbl := j_tb (List.mem_of_getElem? (i := 1114) (by decide +kernel))
theorem ml_X8_135 : Cond.methodLink RX8 135 yX8_takesLength ∈ lw_tbl := j_tb (List.mem_of_getElem? (i := 1118) (by decide +kernel))
theorem ml_X8_131 : Cond.methodLink RX8 131 yX8_goes ∈ lw_tbl := j_tb (List.mem_of_getElem? (i := 1122) (by decide +kernel))
theorem ml_X8_138 : Cond.methodLink RX8 138 yX8_takesPace ∈ lw_tbl := j_tb (List.mem_of_getElem? (i := 1126) (by decide +kernel))
theorem ml_L_138 : Cond.methodLink RL 138 yX8_load ∈ lw_tbl := j_tb (List.mem_of_getElem? (i := 1130) (by decide +kernel))
theorem ml_X8_158 : Cond.methodLink RX8 158 yX8_canBring ∈ lw_tbl := j_tb (List.mem_of_getElem? (i := 1134) (by decide +kernel))
theorem ml_L_145 : Cond.methodLink RL 145 yX8_scene ∈ lw_tbl := j_tb (List.mem_of_getElem? (i := 1138) (by decide +kernel))
theorem ml_X8_164 : Cond.methodLink RX8 164 yX8_sceneNow ∈ lw_tbl := j_tb (List.mem_of_getElem? (i := 1142) (by decide +kernel))
theorem ml_X8_161 : Cond.methodLink RX8 161 yX8_firstFoot ∈ lw_tbl := j_tb (List.mem_of_getElem? (i := 1146) (by decide +kernel))
theorem ml_X8_82 : Cond.methodLink RX8 82 yX8_isBad ∈ lw_tbl := j_tb (List.mem_of_getElem? (i := 1150) (by decide +kernel))
theorem ml_L_148 : Cond.methodLink RL 148 yX8_reel ∈ lw_tbl := j_tb (List.mem_of_getElem? (i := 1154) (by decide +kernel))
theorem ml_X8_185 : Cond.methodLink RX8 185 yX8_reelNow ∈ lw_tbl := j_tb (List.mem_of_getElem? (i := 1158) (by decide +kernel))
theorem ml_X8_167 : Cond.methodLink RX8 167 yX8_lostFeet ∈ lw_tbl := j_tb (List.mem_of_getElem? (i := 1162) (by decide +kernel))
theorem ml_X8_170 : Cond.methodLink RX8 170 yX8_cues ∈ lw_tbl := j_tb (List.mem_of_getElem? (i := 1166) (by decide +kernel))
theorem ml_X8_173 : Cond.methodLink RX8 173 yX8_bads ∈ lw_tbl := j_tb (List.mem_of_getElem? (i := 1170) (by decide +kernel))
theorem ml_X8_176 : Cond.methodLink RX8 176 yX8_drifts ∈ lw_tbl := j_tb (List.mem_of_getElem? (i := 1174) (by decide +kernel))
theorem ml_X8_179 : Cond.methodLink RX8 179 yX8_silence ∈ lw_tbl := j_tb (List.mem_of_getElem? (i := 1178) (by decide +kernel))
theorem ml_X8_182 : Cond.methodLink RX8 182 yX8_lastEnd ∈ lw_tbl := j_tb (List.mem_of_getElem? (i := 1182) (by decide +kernel))
theorem ml_L_151 : Cond.methodLink RL 151 yX8_speedAt ∈ lw_tbl := j_tb (List.mem_of_getElem? (i := 1186) (by decide +kernel))
theorem ml_L_154 : Cond.methodLink RL 154 yX8_piece ∈ lw_tbl := j_tb (List.mem_of_getElem? (i := 1190) (by decide +kernel))
theorem ml_X8_191 : Cond.methodLink RX8 191 yX8_pieceNow ∈ lw_tbl := j_tb (List.mem_of_getElem? (i := 1194) (by decide +kernel))
theorem ml_X8_188 : Cond.methodLink RX8 188 yX8_usesOf ∈ lw_tbl := j_tb (List.mem_of_getElem? (i := 1198) (by decide +kernel))
theorem ml_L_157 : Cond.methodLink RL 157 yX8_count ∈ lw_tbl := j_tb (List.mem_of_getElem? (i := 1202) (by decide +kernel))
theorem ml_X8_197 : Cond.methodLink RX8 197 yX8_counted ∈ lw_tbl := j_tb (List.mem_of_getElem? (i := 1206) (by decide +kernel))
theorem ml_X8_194 : Cond.methodLink RX8 194 yX8_overReels ∈ lw_tbl := j_tb (List.mem_of_getElem? (i := 1210) (by decide +kernel))
theorem ml_L_160 : Cond.methodLink RL 160 yX8_bestCue ∈ lw_tbl := j_tb (List.mem_of_getElem? (i := 1214) (by decide +kernel))
theorem ml_L_163 : Cond.methodLink RL 163 yX8_bestPiece ∈ lw_tbl := j_tb (List.mem_of_getElem? (i := 1218) (by decide +kernel))
theorem ml_X8_200 : Cond.methodLink RX8 200 yX8_bestPieceNow ∈ lw_tbl := j_tb (List.mem_of_getElem? (i := 1222) (by decide +kernel))
theorem ml_L_166 : Cond.methodLink RL 166 yX8_ifCranked ∈ lw_tbl := j_tb (List.mem_of_getElem? (i := 1226) (by decide +kernel))
theorem ml_L_169 : Cond.methodLink RL 169 yX8_bestSpeed ∈ lw_tbl := j_tb (List.mem_of_getElem? (i := 1230) (by decide +kernel))
theorem ml_X8_203 : Cond.methodLink RX8 203 yX8_bestSpeedNow ∈ lw_tbl := j_tb (List.mem_of_getElem? (i := 1234) (by decide +kernel))
theorem ml_L_173 : Cond.methodLink RL 173 yX8_offShare ∈ lw_tbl := j_tb (List.mem_of_getElem? (i := 1238) (by decide +kernel))
theorem ml_X8_206 : Cond.methodLink RX8 206 yX8_offNow ∈ lw_tbl := j_tb (List.mem_of_getElem? (i := 1242) (by decide +kernel))
theorem ml_L_176 : Cond.methodLink RL 176 yX8_meanSpeed ∈ lw_tbl := j_tb (List.mem_of_getElem? (i := 1246) (by decide +kernel))
theorem ml_X8_212 : Cond.methodLink RX8 212 yX8_meanNow ∈ lw_tbl := j_tb (List.mem_of_getElem? (i := 1250) (by decide +kernel))
theorem ml_L_181 : Cond.methodLink RL 181 yX8_digest ∈ lw_tbl := j_tb (List.mem_of_getElem? (i := 1255) (by decide +kernel))
theorem ml_X8_222 : Cond.methodLink RX8 222 yX8_mix ∈ lw_tbl := j_tb (List.mem_of_getElem? (i := 1260) (by decide +kernel))
theorem ml_X8_240 : Cond.methodLink RX8 240 yX8_mixReel ∈ lw_tbl := j_tb (List.mem_of_getElem? (i := 1265) (by decide +kernel))
theorem ml_X8_226 : Cond.methodLink RX8 226 yJxf58ca_floatToIntBits_5c35a ∈ lw_tbl := j_tb (List.mem_of_getElem? (i := 1269) (by decide +kernel))
theorem ml_Jxf58ca_59 : Cond.methodLink RJxf58ca 59 yJxf58ca_isNaN_12338 ∈ lw_tbl := j_tb (List.mem_of_getElem? (i := 1272) (by decide +kernel))
theorem ml_X8_232 : Cond.methodLink RX8 232 yJxe99ae_doubleToLongBits_ccdee ∈ lw_tbl := j_tb (List.mem_of_getElem? (i := 1279) (by decide +kernel))
theorem ml_Jxe99ae_122 : Cond.methodLink RJxe99ae 122 yJxe99ae_isNaN_b9ae7 ∈ lw_tbl := j_tb (List.mem_of_getElem? (i := 1282) (by decide +kernel))
theorem mn_X7_48 : Cond.methodLinkNest RX7 48 yX0_init "CueSheets" ∈ lw_tbl := j_tb (List.mem_of_getElem? (i := 268) (by decide +kernel))
theorem fl_X3_7 : jlf RX3 7 3 0 := ⟨(RX3, TX3, 2), rfl, by decide, cw_3, Or.inl (j_tb (List.mem_of_getElem? (i := 45) (by decide +kernel)))⟩
theorem fl_X3_13 : jlf RX3 13 3 1 := ⟨(RX3, TX3, 2), rfl, by decide, cw_3, Or.inl (j_tb (List.mem_of_getElem? (i := 46) (by decide +kernel)))⟩
theorem fl_X1_14 : jlf RX1 14 1 0 := ⟨(RX1, TX1, 2), rfl, by decide, cw_1, Or.inl (j_tb (List.mem_of_getElem? (i := 61) (by decide +kernel)))⟩
theorem fl_X1_20 : jlf RX1 20 1 1 := ⟨(RX1, TX1, 2), rfl, by decide, cw_1, Or.inl (j_tb (List.mem_of_getElem? (i := 63) (by decide +kernel)))⟩
theorem fl_X2_14 : jlf RX2 14 2 0 := ⟨(RX2, TX2, 6), rfl, by decide, cw_2, Or.inl (j_tb (List.mem_of_getElem? (i := 104) (by decide +kernel)))⟩
theorem fl_X2_20 : jlf RX2 20 2 1 := ⟨(RX2, TX2, 6), rfl, by decide, cw_2, Or.inl (j_tb (List.mem_of_getElem? (i := 107) (by decide +kernel)))⟩
theorem fl_X2_23 : jlf RX2 23 2 2 := ⟨(RX2, TX2, 6), rfl, by decide, cw_2, Or.inl (j_tb (List.mem_of_getElem? (i := 111) (by decide +kernel)))⟩
theorem fl_X2_26 : jlf RX2 26 2 3 := ⟨(RX2, TX2, 6), rfl, by decide, cw_2, Or.inl (j_tb (List.mem_of_getElem? (i := 114) (by decide +kernel)))⟩
theorem fl_X2_32 : jlf RX2 32 2 4 := ⟨(RX2, TX2, 6), rfl, by decide, cw_2, Or.inl (j_tb (List.mem_of_getElem? (i := 117) (by decide +kernel)))⟩
theorem fl_X2_36 : jlf RX2 36 2 5 := ⟨(RX2, TX2, 6), rfl, by decide, cw_2, Or.inl (j_tb (List.mem_of_getElem? (i := 119) (by decide +kernel)))⟩
theorem fl_X5_12 : jlf RX5 12 5 0 := ⟨(RX5, TX5, 8), rfl, by decide, cw_5, Or.inl (j_tb (List.mem_of_getElem? (i := 136) (by decide +kernel)))⟩
theorem fl_X5_18 : jlf RX5 18 5 1 := ⟨(RX5, TX5, 8), rfl, by decide, cw_5, Or.inl (j_tb (List.mem_of_getElem? (i := 137) (by decide +kernel)))⟩
theorem fl_X5_21 : jlf RX5 21 5 2 := ⟨(RX5, TX5, 8), rfl, by decide, cw_5, Or.inl (j_tb (List.mem_of_getElem? (i := 138) (by decide +kernel)))⟩
theorem fl_X5_29 : jlf RX5 29 5 3 := ⟨(RX5, TX5, 8), rfl, by decide, cw_5, Or.inl (j_tb (List.mem_of_getElem? (i := 139) (by decide +kernel)))⟩
theorem fl_X5_33 : jlf RX5 33 5 4 := ⟨(RX5, TX5, 8), rfl, by decide, cw_5, Or.inl (j_tb (List.mem_of_getElem? (i := 142) (by decide +kernel)))⟩
theorem fl_X5_36 : jlf RX5 36 5 5 := ⟨(RX5, TX5, 8), rfl, by decide, cw_5, Or.inl (j_tb (List.mem_of_getElem? (i := 145) (by decide +kernel)))⟩
theorem fl_X5_39 : jlf RX5 39 5 6 := ⟨(RX5, TX5, 8), rfl, by decide, cw_5, Or.inl (j_tb (List.mem_of_getElem? (i := 148) (by decide +kernel)))⟩
theorem fl_X5_43 : jlf RX5 43 5 7 := ⟨(RX5, TX5, 8), rfl, by decide, cw_5, Or.inl (j_tb (List.mem_of_getElem? (i := 150) (by decide +kernel)))⟩
theorem fl_X4_14 : jlf RX4 14 4 0 := ⟨(RX4, TX4, 5), rfl, by decide, cw_4, Or.inl (j_tb (List.mem_of_getElem? (i := 181) (by decide +kernel)))⟩
theorem fl_X4_20 : jlf RX4 20 4 1 := ⟨(RX4, TX4, 5), rfl, by decide, cw_4, Or.inl (j_tb (List.mem_of_getElem? (i := 183) (by decide +kernel)))⟩
theorem fl_X4_23 : jlf RX4 23 4 2 := ⟨(RX4, TX4, 5), rfl, by decide, cw_4, Or.inl (j_tb (List.mem_of_getElem? (i := 185) (by decide +kernel)))⟩
theorem fl_X4_26 : jlf RX4 26 4 3 := ⟨(RX4, TX4, 5), rfl, by decide, cw_4, Or.inl (j_tb (List.mem_of_getElem? (i := 187) (by decide +kernel)))⟩
theorem fl_X4_43 : jlf RX4 43 4 4 := ⟨(RX4, TX4, 5), rfl, by decide, cw_4, Or.inl (j_tb (List.mem_of_getElem? (i := 189) (by decide +kernel)))⟩
theorem fl_X6_14 : jlf RX6 14 6 0 := ⟨(RX6, TX6, 14), rfl, by decide, cw_6, Or.inl (j_tb (List.mem_of_getElem? (i := 209) (by decide +kernel)))⟩
theorem fl_X6_20 : jlf RX6 20 6 1 := ⟨(RX6, TX6, 14), rfl, by decide, cw_6, Or.inl (j_tb (List.mem_of_getElem? (i := 211) (by decide +kernel)))⟩
theorem fl_X6_23 : jlf RX6 23 6 2 := ⟨(RX6, TX6, 14), rfl, by decide, cw_6, Or.inl (j_tb (List.mem_of_getElem? (i := 213) (by decide +kernel)))⟩
theorem fl_X6_26 : jlf RX6 26 6 3 := ⟨(RX6, TX6, 14), rfl, by decide, cw_6, Or.inl (j_tb (List.mem_of_getElem? (i := 215) (by decide +kernel)))⟩
theorem fl_X6_29 : jlf RX6 29 6 4 := ⟨(RX6, TX6, 14), rfl, by decide, cw_6, Or.inl (j_tb (List.mem_of_getElem? (i := 217) (by decide +kernel)))⟩
theorem fl_X6_32 : jlf RX6 32 6 5 := ⟨(RX6, TX6, 14), rfl, by decide, cw_6, Or.inl (j_tb (List.mem_of_getElem? (i := 219) (by decide +kernel)))⟩
theorem fl_X6_35 : jlf RX6 35 6 6 := ⟨(RX6, TX6, 14), rfl, by decide, cw_6, Or.inl (j_tb (List.mem_of_getElem? (i := 221) (by decide +kernel)))⟩
theorem fl_X6_47 : jlf RX6 47 6 7 := ⟨(RX6, TX6, 14), rfl, by decide, cw_6, Or.inl (j_tb (List.mem_of_getElem? (i := 223) (by decide +kernel)))⟩
theorem fl_X6_72 : jlf RX6 72 6 8 := ⟨(RX6, TX6, 14), rfl, by decide, cw_6, Or.inl (j_tb (List.mem_of_getElem? (i := 225) (by decide +kernel)))⟩
theorem fl_X6_69 : jlf RX6 69 6 9 := ⟨(RX6, TX6, 14), rfl, by decide, cw_6, Or.inl (j_tb (List.mem_of_getElem? (i := 227) (by decide +kernel)))⟩
theorem fl_X6_80 : jlf RX6 80 6 10 := ⟨(RX6, TX6, 14), rfl, by decide, cw_6, Or.inl (j_tb (List.mem_of_getElem? (i := 229) (by decide +kernel)))⟩
theorem fl_X6_83 : jlf RX6 83 6 11 := ⟨(RX6, TX6, 14), rfl, by decide, cw_6, Or.inl (j_tb (List.mem_of_getElem? (i := 231) (by decide +kernel)))⟩
theorem fl_X6_86 : jlf RX6 86 6 12 := ⟨(RX6, TX6, 14), rfl, by decide, cw_6, Or.inl (j_tb (List.mem_of_getElem? (i := 233) (by decide +kernel)))⟩
theorem fl_X6_89 : jlf RX6 89 6 13 := ⟨(RX6, TX6, 14), rfl, by decide, cw_6, Or.inl (j_tb (List.mem_of_getElem? (i := 235) (by decide +kernel)))⟩
theorem fl_X0_56 : jlf RX0 56 0 0 := ⟨(RX0, TX0, 3), rfl, by decide, cw_0, Or.inl (j_tb (List.mem_of_getElem? (i := 272) (by decide +kernel)))⟩
theorem fl_X0_58 : jlf RX0 58 0 1 := ⟨(RX0, TX0, 3), rfl, by decide, cw_0, Or.inl (j_tb (List.mem_of_getElem? (i := 274) (by decide +kernel)))⟩
theorem fl_X0_30 : jlf RX0 30 0 2 := ⟨(RX0, TX0, 3), rfl, by decide, cw_0, Or.inl (j_tb (List.mem_of_getElem? (i := 276) (by decide +kernel)))⟩
theorem fl_X7_10 : jlf RX7 10 7 0 := ⟨(RX7, TX7, 9), rfl, by decide, cw_7, Or.inl (j_tb (List.mem_of_getElem? (i := 285) (by decide +kernel)))⟩
theorem fl_X7_16 : jlf RX7 16 7 1 := ⟨(RX7, TX7, 9), rfl, by decide, cw_7, Or.inl (j_tb (List.mem_of_getElem? (i := 286) (by decide +kernel)))⟩
theorem fl_X7_284 : jlf RX7 284 7 2 := ⟨(RX7, TX7, 9), rfl, by decide, cw_7, Or.inl (j_tb (List.mem_of_getElem? (i := 287) (by decide +kernel)))⟩
theorem fl_X7_199 : jlf RX7 199 7 3 := ⟨(RX7, TX7, 9), rfl, by decide, cw_7, Or.inl (j_tb (List.mem_of_getElem? (i := 288) (by decide +kernel)))⟩
theorem fl_X7_25 : jlf RX7 25 7 4 := ⟨(RX7, TX7, 9), rfl, by decide, cw_7, Or.inl (j_tb (List.mem_of_getElem? (i := 289) (by decide +kernel)))⟩
theorem fl_X7_32 : jlf RX7 32 7 5 := ⟨(RX7, TX7, 9), rfl, by decide, cw_7, Or.inl (j_tb (List.mem_of_getElem? (i := 290) (by decide +kernel)))⟩
theorem fl_X7_39 : jlf RX7 39 7 6 := ⟨(RX7, TX7, 9), rfl, by decide, cw_7, Or.inl (j_tb (List.mem_of_getElem? (i := 291) (by decide +kernel)))⟩
theorem fl_X7_43 : jlf RX7 43 7 7 := ⟨(RX7, TX7, 9), rfl, by decide, cw_7, Or.inl (j_tb (List.mem_of_getElem? (i := 292) (by decide +kernel)))⟩
theorem fl_X7_49 : jlf RX7 49 7 8 := ⟨(RX7, TX7, 9), rfl, by decide, cw_7, Or.inl (j_tb (List.mem_of_getElem? (i := 293) (by decide +kernel)))⟩
theorem fl_X8_34 : jlf RX8 34 8 0 := ⟨(RX8, TX8, 16), rfl, by decide, cw_8, Or.inl (j_tb (List.mem_of_getElem? (i := 915) (by decide +kernel)))⟩
theorem fl_X8_7 : jlf RX8 7 8 1 := ⟨(RX8, TX8, 16), rfl, by decide, cw_8, Or.inl (j_tb (List.mem_of_getElem? (i := 916) (by decide +kernel)))⟩
theorem fl_X8_88 : jlf RX8 88 8 2 := ⟨(RX8, TX8, 16), rfl, by decide, cw_8, Or.inl (j_tb (List.mem_of_getElem? (i := 917) (by decide +kernel)))⟩
theorem fl_X8_13 : jlf RX8 13 8 3 := ⟨(RX8, TX8, 16), rfl, by decide, cw_8, Or.inl (j_tb (List.mem_of_getElem? (i := 918) (by decide +kernel)))⟩
theorem fl_X8_119 : jlf RX8 119 8 4 := ⟨(RX8, TX8, 16), rfl, by decide, cw_8, Or.inl (j_tb (List.mem_of_getElem? (i := 919) (by decide +kernel)))⟩
theorem fl_X8_16 : jlf RX8 16 8 5 := ⟨(RX8, TX8, 16), rfl, by decide, cw_8, Or.inl (j_tb (List.mem_of_getElem? (i := 920) (by decide +kernel)))⟩
theorem fl_X8_19 : jlf RX8 19 8 6 := ⟨(RX8, TX8, 16), rfl, by decide, cw_8, Or.inl (j_tb (List.mem_of_getElem? (i := 921) (by decide +kernel)))⟩
theorem fl_X8_22 : jlf RX8 22 8 7 := ⟨(RX8, TX8, 16), rfl, by decide, cw_8, Or.inl (j_tb (List.mem_of_getElem? (i := 922) (by decide +kernel)))⟩
theorem fl_X8_25 : jlf RX8 25 8 8 := ⟨(RX8, TX8, 16), rfl, by decide, cw_8, Or.inl (j_tb (List.mem_of_getElem? (i := 923) (by decide +kernel)))⟩
theorem fl_X8_28 : jlf RX8 28 8 9 := ⟨(RX8, TX8, 16), rfl, by decide, cw_8, Or.inl (j_tb (List.mem_of_getElem? (i := 924) (by decide +kernel)))⟩
theorem fl_X8_85 : jlf RX8 85 8 10 := ⟨(RX8, TX8, 16), rfl, by decide, cw_8, Or.inl (j_tb (List.mem_of_getElem? (i := 925) (by decide +kernel)))⟩
theorem fl_X8_122 : jlf RX8 122 8 11 := ⟨(RX8, TX8, 16), rfl, by decide, cw_8, Or.inl (j_tb (List.mem_of_getElem? (i := 926) (by decide +kernel)))⟩
theorem fl_X8_125 : jlf RX8 125 8 12 := ⟨(RX8, TX8, 16), rfl, by decide, cw_8, Or.inl (j_tb (List.mem_of_getElem? (i := 927) (by decide +kernel)))⟩
theorem fl_X8_128 : jlf RX8 128 8 13 := ⟨(RX8, TX8, 16), rfl, by decide, cw_8, Or.inl (j_tb (List.mem_of_getElem? (i := 928) (by decide +kernel)))⟩
theorem fl_X8_31 : jlf RX8 31 8 14 := ⟨(RX8, TX8, 16), rfl, by decide, cw_8, Or.inl (j_tb (List.mem_of_getElem? (i := 929) (by decide +kernel)))⟩
theorem fl_X8_218 : jlf RX8 218 8 15 := ⟨(RX8, TX8, 16), rfl, by decide, cw_8, Or.inl (j_tb (List.mem_of_getElem? (i := 930) (by decide +kernel)))⟩
theorem fl_X2_61 : jlf RX2 61 1 0 := ⟨(RX1, TX1, 2), rfl, by decide, cw_1, Or.inr ⟨"CueSheets", j_tb (List.mem_of_getElem? (i := 62) (by decide +kernel))⟩⟩
theorem fl_X2_70 : jlf RX2 70 1 1 := ⟨(RX1, TX1, 2), rfl, by decide, cw_1, Or.inr ⟨"CueSheets", j_tb (List.mem_of_getElem? (i := 64) (by decide +kernel))⟩⟩
theorem fl_X6_51 : jlf RX6 51 2 0 := ⟨(RX2, TX2, 6), rfl, by decide, cw_2, Or.inr ⟨"CueSheets", j_tb (List.mem_of_getElem? (i := 105) (by decide +kernel))⟩⟩
theorem fl_X7_301 : jlf RX7 301 2 0 := ⟨(RX2, TX2, 6), rfl, by decide, cw_2, Or.inr ⟨"CueSheets", j_tb (List.mem_of_getElem? (i := 106) (by decide +kernel))⟩⟩
theorem fl_X6_101 : jlf RX6 101 2 1 := ⟨(RX2, TX2, 6), rfl, by decide, cw_2, Or.inr ⟨"CueSheets", j_tb (List.mem_of_getElem? (i := 108) (by decide +kernel))⟩⟩
theorem fl_X5_57 : jlf RX5 57 2 1 := ⟨(RX2, TX2, 6), rfl, by decide, cw_2, Or.inr ⟨"CueSheets", j_tb (List.mem_of_getElem? (i := 109) (by decide +kernel))⟩⟩
theorem fl_X7_293 : jlf RX7 293 2 1 := ⟨(RX2, TX2, 6), rfl, by decide, cw_2, Or.inr ⟨"CueSheets", j_tb (List.mem_of_getElem? (i := 110) (by decide +kernel))⟩⟩
theorem fl_X6_104 : jlf RX6 104 2 2 := ⟨(RX2, TX2, 6), rfl, by decide, cw_2, Or.inr ⟨"CueSheets", j_tb (List.mem_of_getElem? (i := 112) (by decide +kernel))⟩⟩
theorem fl_X7_294 : jlf RX7 294 2 2 := ⟨(RX2, TX2, 6), rfl, by decide, cw_2, Or.inr ⟨"CueSheets", j_tb (List.mem_of_getElem? (i := 113) (by decide +kernel))⟩⟩
theorem fl_X6_107 : jlf RX6 107 2 3 := ⟨(RX2, TX2, 6), rfl, by decide, cw_2, Or.inr ⟨"CueSheets", j_tb (List.mem_of_getElem? (i := 115) (by decide +kernel))⟩⟩
theorem fl_X7_295 : jlf RX7 295 2 3 := ⟨(RX2, TX2, 6), rfl, by decide, cw_2, Or.inr ⟨"CueSheets", j_tb (List.mem_of_getElem? (i := 116) (by decide +kernel))⟩⟩
theorem fl_X7_92 : jlf RX7 92 2 4 := ⟨(RX2, TX2, 6), rfl, by decide, cw_2, Or.inr ⟨"CueSheets", j_tb (List.mem_of_getElem? (i := 118) (by decide +kernel))⟩⟩
theorem fl_X7_110 : jlf RX7 110 2 5 := ⟨(RX2, TX2, 6), rfl, by decide, cw_2, Or.inr ⟨"CueSheets", j_tb (List.mem_of_getElem? (i := 120) (by decide +kernel))⟩⟩
theorem fl_X0_21 : jlf RX0 21 5 3 := ⟨(RX5, TX5, 8), rfl, by decide, cw_5, Or.inr ⟨"CueSheets", j_tb (List.mem_of_getElem? (i := 140) (by decide +kernel))⟩⟩
theorem fl_X7_123 : jlf RX7 123 5 3 := ⟨(RX5, TX5, 8), rfl, by decide, cw_5, Or.inr ⟨"CueSheets", j_tb (List.mem_of_getElem? (i := 141) (by decide +kernel))⟩⟩
theorem fl_X0_9 : jlf RX0 9 5 4 := ⟨(RX5, TX5, 8), rfl, by decide, cw_5, Or.inr ⟨"CueSheets", j_tb (List.mem_of_getElem? (i := 143) (by decide +kernel))⟩⟩
theorem fl_X7_129 : jlf RX7 129 5 4 := ⟨(RX5, TX5, 8), rfl, by decide, cw_5, Or.inr ⟨"CueSheets", j_tb (List.mem_of_getElem? (i := 144) (by decide +kernel))⟩⟩
theorem fl_X0_24 : jlf RX0 24 5 5 := ⟨(RX5, TX5, 8), rfl, by decide, cw_5, Or.inr ⟨"CueSheets", j_tb (List.mem_of_getElem? (i := 146) (by decide +kernel))⟩⟩
theorem fl_X7_132 : jlf RX7 132 5 5 := ⟨(RX5, TX5, 8), rfl, by decide, cw_5, Or.inr ⟨"CueSheets", j_tb (List.mem_of_getElem? (i := 147) (by decide +kernel))⟩⟩
theorem fl_X7_159 : jlf RX7 159 5 6 := ⟨(RX5, TX5, 8), rfl, by decide, cw_5, Or.inr ⟨"CueSheets", j_tb (List.mem_of_getElem? (i := 149) (by decide +kernel))⟩⟩
theorem fl_X0_36 : jlf RX0 36 5 7 := ⟨(RX5, TX5, 8), rfl, by decide, cw_5, Or.inr ⟨"CueSheets", j_tb (List.mem_of_getElem? (i := 151) (by decide +kernel))⟩⟩
theorem fl_X7_163 : jlf RX7 163 5 7 := ⟨(RX5, TX5, 8), rfl, by decide, cw_5, Or.inr ⟨"CueSheets", j_tb (List.mem_of_getElem? (i := 152) (by decide +kernel))⟩⟩
theorem fl_X7_190 : jlf RX7 190 4 0 := ⟨(RX4, TX4, 5), rfl, by decide, cw_4, Or.inr ⟨"CueSheets", j_tb (List.mem_of_getElem? (i := 182) (by decide +kernel))⟩⟩
theorem fl_X7_193 : jlf RX7 193 4 1 := ⟨(RX4, TX4, 5), rfl, by decide, cw_4, Or.inr ⟨"CueSheets", j_tb (List.mem_of_getElem? (i := 184) (by decide +kernel))⟩⟩
theorem fl_X7_195 : jlf RX7 195 4 2 := ⟨(RX4, TX4, 5), rfl, by decide, cw_4, Or.inr ⟨"CueSheets", j_tb (List.mem_of_getElem? (i := 186) (by decide +kernel))⟩⟩
theorem fl_X7_196 : jlf RX7 196 4 3 := ⟨(RX4, TX4, 5), rfl, by decide, cw_4, Or.inr ⟨"CueSheets", j_tb (List.mem_of_getElem? (i := 188) (by decide +kernel))⟩⟩
theorem fl_X7_302 : jlf RX7 302 6 0 := ⟨(RX6, TX6, 14), rfl, by decide, cw_6, Or.inr ⟨"CueSheets", j_tb (List.mem_of_getElem? (i := 210) (by decide +kernel))⟩⟩
theorem fl_X7_305 : jlf RX7 305 6 1 := ⟨(RX6, TX6, 14), rfl, by decide, cw_6, Or.inr ⟨"CueSheets", j_tb (List.mem_of_getElem? (i := 212) (by decide +kernel))⟩⟩
theorem fl_X7_308 : jlf RX7 308 6 2 := ⟨(RX6, TX6, 14), rfl, by decide, cw_6, Or.inr ⟨"CueSheets", j_tb (List.mem_of_getElem? (i := 214) (by decide +kernel))⟩⟩
theorem fl_X7_311 : jlf RX7 311 6 3 := ⟨(RX6, TX6, 14), rfl, by decide, cw_6, Or.inr ⟨"CueSheets", j_tb (List.mem_of_getElem? (i := 216) (by decide +kernel))⟩⟩
theorem fl_X7_314 : jlf RX7 314 6 4 := ⟨(RX6, TX6, 14), rfl, by decide, cw_6, Or.inr ⟨"CueSheets", j_tb (List.mem_of_getElem? (i := 218) (by decide +kernel))⟩⟩
theorem fl_X7_317 : jlf RX7 317 6 5 := ⟨(RX6, TX6, 14), rfl, by decide, cw_6, Or.inr ⟨"CueSheets", j_tb (List.mem_of_getElem? (i := 220) (by decide +kernel))⟩⟩
theorem fl_X7_145 : jlf RX7 145 6 6 := ⟨(RX6, TX6, 14), rfl, by decide, cw_6, Or.inr ⟨"CueSheets", j_tb (List.mem_of_getElem? (i := 222) (by decide +kernel))⟩⟩
theorem fl_X7_323 : jlf RX7 323 6 7 := ⟨(RX6, TX6, 14), rfl, by decide, cw_6, Or.inr ⟨"CueSheets", j_tb (List.mem_of_getElem? (i := 224) (by decide +kernel))⟩⟩
theorem fl_X7_326 : jlf RX7 326 6 8 := ⟨(RX6, TX6, 14), rfl, by decide, cw_6, Or.inr ⟨"CueSheets", j_tb (List.mem_of_getElem? (i := 226) (by decide +kernel))⟩⟩
theorem fl_X7_329 : jlf RX7 329 6 9 := ⟨(RX6, TX6, 14), rfl, by decide, cw_6, Or.inr ⟨"CueSheets", j_tb (List.mem_of_getElem? (i := 228) (by decide +kernel))⟩⟩
theorem fl_X7_332 : jlf RX7 332 6 10 := ⟨(RX6, TX6, 14), rfl, by decide, cw_6, Or.inr ⟨"CueSheets", j_tb (List.mem_of_getElem? (i := 230) (by decide +kernel))⟩⟩
theorem fl_X7_245 : jlf RX7 245 6 11 := ⟨(RX6, TX6, 14), rfl, by decide, cw_6, Or.inr ⟨"CueSheets", j_tb (List.mem_of_getElem? (i := 232) (by decide +kernel))⟩⟩
theorem fl_X7_298 : jlf RX7 298 6 12 := ⟨(RX6, TX6, 14), rfl, by decide, cw_6, Or.inr ⟨"CueSheets", j_tb (List.mem_of_getElem? (i := 234) (by decide +kernel))⟩⟩
theorem fl_X7_338 : jlf RX7 338 6 13 := ⟨(RX6, TX6, 14), rfl, by decide, cw_6, Or.inr ⟨"CueSheets", j_tb (List.mem_of_getElem? (i := 236) (by decide +kernel))⟩⟩
theorem fl_X7_237 : jlf RX7 237 0 0 := ⟨(RX0, TX0, 3), rfl, by decide, cw_0, Or.inr ⟨"CueSheets", j_tb (List.mem_of_getElem? (i := 273) (by decide +kernel))⟩⟩
theorem fl_X7_239 : jlf RX7 239 0 1 := ⟨(RX0, TX0, 3), rfl, by decide, cw_0, Or.inr ⟨"CueSheets", j_tb (List.mem_of_getElem? (i := 275) (by decide +kernel))⟩⟩
theorem fl_X7_296 : jlf RX7 296 0 2 := ⟨(RX0, TX0, 3), rfl, by decide, cw_0, Or.inr ⟨"CueSheets", j_tb (List.mem_of_getElem? (i := 277) (by decide +kernel))⟩⟩
theorem kc_X4_42 : Cond.constant RX4 42 (-2000001 : Int32) ∈ lw_tbl := j_tb (List.mem_of_getElem? (i := 340) (by decide +kernel))
theorem kc_X2_51 : Cond.constant RX2 51 (-2000001 : Int32) ∈ lw_tbl := j_tb (List.mem_of_getElem? (i := 443) (by decide +kernel))
theorem kc_X7_80 : Cond.constant RX7 80 (-2000001 : Int32) ∈ lw_tbl := j_tb (List.mem_of_getElem? (i := 505) (by decide +kernel))
theorem kc_X0_29 : Cond.constant RX0 29 (2147483647 : Int32) ∈ lw_tbl := j_tb (List.mem_of_getElem? (i := 511) (by decide +kernel))
theorem kc_X8_62 : Cond.constant RX8 62 (-2000001 : Int32) ∈ lw_tbl := j_tb (List.mem_of_getElem? (i := 990) (by decide +kernel))
theorem kc_Jxf58ca_77 : Cond.constant RJxf58ca 77 (2143289344 : Int32) ∈ lw_tbl := j_tb (List.mem_of_getElem? (i := 1278) (by decide +kernel))
theorem kc_X7_260 : Cond.constantLong RX7 260 (2237 : Int64) ∈ lw_tbl := j_tb (List.mem_of_getElem? (i := 381) (by decide +kernel))
theorem kc_X7_349 : Cond.constantLong RX7 349 (31 : Int64) ∈ lw_tbl := j_tb (List.mem_of_getElem? (i := 464) (by decide +kernel))
theorem kc_X7_359 : Cond.constantLong RX7 359 (150 : Int64) ∈ lw_tbl := j_tb (List.mem_of_getElem? (i := 537) (by decide +kernel))
theorem kc_X7_363 : Cond.constantLong RX7 363 (8388608 : Int64) ∈ lw_tbl := j_tb (List.mem_of_getElem? (i := 540) (by decide +kernel))
theorem kc_X7_365 : Cond.constantLong RX7 365 (1075 : Int64) ∈ lw_tbl := j_tb (List.mem_of_getElem? (i := 549) (by decide +kernel))
theorem kc_X7_373 : Cond.constantLong RX7 373 (4503599627370496 : Int64) ∈ lw_tbl := j_tb (List.mem_of_getElem? (i := 553) (by decide +kernel))
theorem kc_X8_238 : Cond.constantLong RX8 238 (2237 : Int64) ∈ lw_tbl := j_tb (List.mem_of_getElem? (i := 1259) (by decide +kernel))
theorem kc_X8_216 : Cond.constantLong RX8 216 (31 : Int64) ∈ lw_tbl := j_tb (List.mem_of_getElem? (i := 1264) (by decide +kernel))
theorem kc_Jxe99ae_137 : Cond.constantLong RJxe99ae 137 (9221120237041090560 : Int64) ∈ lw_tbl := j_tb (List.mem_of_getElem? (i := 1288) (by decide +kernel))
theorem kc_X7_361 : Cond.constantFloat RX7 361 (1258291200 : UInt32) ∈ lw_tbl := j_tb (List.mem_of_getElem? (i := 538) (by decide +kernel))
theorem kc_X7_362 : Cond.constantFloat RX7 362 (1266679808 : UInt32) ∈ lw_tbl := j_tb (List.mem_of_getElem? (i := 539) (by decide +kernel))
theorem kc_X7_347 : Cond.constantDouble RX7 347 (4621819117588971520 : UInt64) ∈ lw_tbl := j_tb (List.mem_of_getElem? (i := 545) (by decide +kernel))
theorem kc_X7_367 : Cond.constantDouble RX7 367 (4841369599423283200 : UInt64) ∈ lw_tbl := j_tb (List.mem_of_getElem? (i := 550) (by decide +kernel))
theorem kc_X7_369 : Cond.constantDouble RX7 369 (4611686018427387904 : UInt64) ∈ lw_tbl := j_tb (List.mem_of_getElem? (i := 551) (by decide +kernel))
theorem kc_X7_371 : Cond.constantDouble RX7 371 (4845873199050653696 : UInt64) ∈ lw_tbl := j_tb (List.mem_of_getElem? (i := 552) (by decide +kernel))
theorem kc_X8_210 : Cond.constantDouble RX8 210 (4621819117588971520 : UInt64) ∈ lw_tbl := j_tb (List.mem_of_getElem? (i := 1254) (by decide +kernel))
theorem nw_L_8 : jln RL 8 7 [.inr none, .inr none, .inl 0, .inl 0, .inr none, .inr none, .inr none, .inr none, .inr none] := ⟨(RX7, TX7, 9), rfl, cw_7, j_tb (List.mem_of_getElem? (i := 19) (by decide +kernel)), j_tb (List.mem_of_getElem? (i := 20) (by decide +kernel)), j_tb (List.mem_of_getElem? (i := 1) (by decide +kernel)), rfl, by decide +kernel⟩
theorem nw_X7_7 : jln RX7 7 5 [.inr none, .inr none, .inr none, .inr none, .inr none, .inr none, .inl 0, .inl 0] := ⟨(RX5, TX5, 8), rfl, cw_5, j_tb (List.mem_of_getElem? (i := 27) (by decide +kernel)), j_tb (List.mem_of_getElem? (i := 28) (by decide +kernel)), j_tb (List.mem_of_getElem? (i := 2) (by decide +kernel)), rfl, by decide +kernel⟩
theorem nw_X5_9 : jln RX5 9 2 [.inr none, .inr none, .inr none, .inr none, .inr none, .inr none] := ⟨(RX2, TX2, 6), rfl, cw_2, j_tb (List.mem_of_getElem? (i := 33) (by decide +kernel)), j_tb (List.mem_of_getElem? (i := 34) (by decide +kernel)), j_tb (List.mem_of_getElem? (i := 3) (by decide +kernel)), rfl, by decide +kernel⟩
theorem nw_X2_9 : jln RX2 9 3 [.inr none, .inl 0] := ⟨(RX3, TX3, 2), rfl, cw_3, j_tb (List.mem_of_getElem? (i := 39) (by decide +kernel)), j_tb (List.mem_of_getElem? (i := 40) (by decide +kernel)), j_tb (List.mem_of_getElem? (i := 4) (by decide +kernel)), rfl, by decide +kernel⟩
theorem nw_X2_29 : jln RX2 29 1 [.inr none, .inr none] := ⟨(RX1, TX1, 2), rfl, cw_1, j_tb (List.mem_of_getElem? (i := 53) (by decide +kernel)), j_tb (List.mem_of_getElem? (i := 54) (by decide +kernel)), j_tb (List.mem_of_getElem? (i := 5) (by decide +kernel)), rfl, by decide +kernel⟩
theorem nw_X1_9 : jln RX1 9 3 [.inr none, .inl 0] := ⟨(RX3, TX3, 2), rfl, cw_3, j_tb (List.mem_of_getElem? (i := 59) (by decide +kernel)), j_tb (List.mem_of_getElem? (i := 40) (by decide +kernel)), j_tb (List.mem_of_getElem? (i := 4) (by decide +kernel)), rfl, by decide +kernel⟩
theorem nw_X5_24 : jln RX5 24 3 [.inr none, .inl 0] := ⟨(RX3, TX3, 2), rfl, cw_3, j_tb (List.mem_of_getElem? (i := 134) (by decide +kernel)), j_tb (List.mem_of_getElem? (i := 40) (by decide +kernel)), j_tb (List.mem_of_getElem? (i := 4) (by decide +kernel)), rfl, by decide +kernel⟩
theorem nw_X7_20 : jln RX7 20 3 [.inr none, .inl 0] := ⟨(RX3, TX3, 2), rfl, cw_3, j_tb (List.mem_of_getElem? (i := 171) (by decide +kernel)), j_tb (List.mem_of_getElem? (i := 40) (by decide +kernel)), j_tb (List.mem_of_getElem? (i := 4) (by decide +kernel)), rfl, by decide +kernel⟩
theorem nw_X7_29 : jln RX7 29 4 [.inr none, .inr none, .inr none, .inr none, .inl 0] := ⟨(RX4, TX4, 5), rfl, cw_4, j_tb (List.mem_of_getElem? (i := 173) (by decide +kernel)), j_tb (List.mem_of_getElem? (i := 174) (by decide +kernel)), j_tb (List.mem_of_getElem? (i := 6) (by decide +kernel)), rfl, by decide +kernel⟩
theorem nw_X4_9 : jln RX4 9 3 [.inr none, .inl 0] := ⟨(RX3, TX3, 2), rfl, cw_3, j_tb (List.mem_of_getElem? (i := 179) (by decide +kernel)), j_tb (List.mem_of_getElem? (i := 40) (by decide +kernel)), j_tb (List.mem_of_getElem? (i := 4) (by decide +kernel)), rfl, by decide +kernel⟩
theorem nw_X7_36 : jln RX7 36 6 [.inr none, .inr none, .inr none, .inr none, .inr none, .inr none, .inr none, .inl 0, .inl 0, .inl 0, .inl 0, .inl 0, .inl 0, .inl 0] := ⟨(RX6, TX6, 14), rfl, cw_6, j_tb (List.mem_of_getElem? (i := 201) (by decide +kernel)), j_tb (List.mem_of_getElem? (i := 202) (by decide +kernel)), j_tb (List.mem_of_getElem? (i := 7) (by decide +kernel)), rfl, by decide +kernel⟩
theorem nw_X6_9 : jln RX6 9 3 [.inr none, .inl 0] := ⟨(RX3, TX3, 2), rfl, cw_3, j_tb (List.mem_of_getElem? (i := 207) (by decide +kernel)), j_tb (List.mem_of_getElem? (i := 40) (by decide +kernel)), j_tb (List.mem_of_getElem? (i := 4) (by decide +kernel)), rfl, by decide +kernel⟩
theorem nw_X7_46 : jln RX7 46 0 [.inl 0, .inl 0, .inl 0] := ⟨(RX0, TX0, 3), rfl, cw_0, j_tb (List.mem_of_getElem? (i := 266) (by decide +kernel)), j_tb (List.mem_of_getElem? (i := 267) (by decide +kernel)), j_tb (List.mem_of_getElem? (i := 8) (by decide +kernel)), rfl, by decide +kernel⟩
theorem nw_L_89 : jln RL 89 8 [.inl 0, .inr none, .inl 0, .inr none, .inl 0, .inr none, .inr none, .inr none, .inr none, .inr none, .inl 0, .inl 0, .inl 0, .inl 0, .inr none, .inl 1] := ⟨(RX8, TX8, 16), rfl, cw_8, j_tb (List.mem_of_getElem? (i := 909) (by decide +kernel)), j_tb (List.mem_of_getElem? (i := 910) (by decide +kernel)), j_tb (List.mem_of_getElem? (i := 9) (by decide +kernel)), rfl, by decide +kernel⟩
theorem oi_1 : Cond.instanceMethod objectInit ∈ lw_tbl := j_tb (List.mem_of_getElem? (i := 25) (by decide +kernel))
theorem oi_2 : Cond.code objectInit ⟨#[0xb1]⟩ 1 none ∈ lw_tbl := j_tb (List.mem_of_getElem? (i := 26) (by decide +kernel))
theorem ac_int : Cond.arrayClass .int ∈ lw_tbl := j_tb (List.mem_of_getElem? (i := 52) (by decide +kernel))
theorem ac_long : Cond.arrayClass .long ∈ lw_tbl := j_tb (List.mem_of_getElem? (i := 1289) (by decide +kernel))
theorem ac_double : Cond.arrayClass .double ∈ lw_tbl := j_tb (List.mem_of_getElem? (i := 1290) (by decide +kernel))
theorem ao_State : Cond.arrayOver (.object "CueSheets$State") ∈ lw_tbl := j_tb (List.mem_of_getElem? (i := 170) (by decide +kernel))
theorem fp_X0_search_30 : jlp kX0_search 30 0 2 .int := ⟨(RX0, TX0, 3), rfl, by decide, cw_0, Or.inl (j_tb (List.mem_of_getElem? (i := 276) (by decide +kernel))), nmX0, cp_0, Or.inl rfl, by decide +kernel⟩
theorem fp_X0_consider_56 : jlp kX0_consider 56 0 0 .int := ⟨(RX0, TX0, 3), rfl, by decide, cw_0, Or.inl (j_tb (List.mem_of_getElem? (i := 272) (by decide +kernel))), nmX0, cp_0, Or.inl rfl, by decide +kernel⟩
theorem fp_X0_consider_58 : jlp kX0_consider 58 0 1 .int := ⟨(RX0, TX0, 3), rfl, by decide, cw_0, Or.inl (j_tb (List.mem_of_getElem? (i := 274) (by decide +kernel))), nmX0, cp_0, Or.inl rfl, by decide +kernel⟩
theorem fp_X0_consider_30 : jlp kX0_consider 30 0 2 .int := ⟨(RX0, TX0, 3), rfl, by decide, cw_0, Or.inl (j_tb (List.mem_of_getElem? (i := 276) (by decide +kernel))), nmX0, cp_0, Or.inl rfl, by decide +kernel⟩
theorem fp_X1_init_14 : jlp kX1_init 14 1 0 (.object "CueSheets$Row") := ⟨(RX1, TX1, 2), rfl, by decide, cw_1, Or.inl (j_tb (List.mem_of_getElem? (i := 61) (by decide +kernel))), nmX1, cp_1, Or.inr ⟨rfl, rfl, rfl, j_tb (List.mem_of_getElem? (i := 61) (by decide +kernel))⟩, by decide +kernel⟩
theorem fp_X1_init_20 : jlp kX1_init 20 1 1 (.object "CueSheets$Row") := ⟨(RX1, TX1, 2), rfl, by decide, cw_1, Or.inl (j_tb (List.mem_of_getElem? (i := 63) (by decide +kernel))), nmX1, cp_1, Or.inr ⟨rfl, rfl, rfl, j_tb (List.mem_of_getElem? (i := 63) (by decide +kernel))⟩, by decide +kernel⟩
theorem fp_X2_init_14 : jlp kX2_init 14 2 0 (.object "CueSheets$Row") := ⟨(RX2, TX2, 6), rfl, by decide, cw_2, Or.inl (j_tb (List.mem_of_getElem? (i := 104) (by decide +kernel))), nmX2, cp_2, Or.inr ⟨rfl, rfl, rfl, j_tb (List.mem_of_getElem? (i := 104) (by decide +kernel))⟩, by decide +kernel⟩
theorem fp_X2_init_20 : jlp kX2_init 20 2 1 (.object "CueSheets$Row") := ⟨(RX2, TX2, 6), rfl, by decide, cw_2, Or.inl (j_tb (List.mem_of_getElem? (i := 107) (by decide +kernel))), nmX2, cp_2, Or.inr ⟨rfl, rfl, rfl, j_tb (List.mem_of_getElem? (i := 107) (by decide +kernel))⟩, by decide +kernel⟩
theorem fp_X2_init_23 : jlp kX2_init 23 2 2 (.object "CueSheets$Row") := ⟨(RX2, TX2, 6), rfl, by decide, cw_2, Or.inl (j_tb (List.mem_of_getElem? (i := 111) (by decide +kernel))), nmX2, cp_2, Or.inr ⟨rfl, rfl, rfl, j_tb (List.mem_of_getElem? (i := 111) (by decide +kernel))⟩, by decide +kernel⟩
theorem fp_X2_init_26 : jlp kX2_init 26 2 3 (.object "CueSheets$Row") := ⟨(RX2, TX2, 6), rfl, by decide, cw_2, Or.inl (j_tb (List.mem_of_getElem? (i := 114) (by decide +kernel))), nmX2, cp_2, Or.inr ⟨rfl, rfl, rfl, j_tb (List.mem_of_getElem? (i := 114) (by decide +kernel))⟩, by decide +kernel⟩
theorem fp_X2_init_32 : jlp kX2_init 32 2 4 (.object "CueSheets$Marks") := ⟨(RX2, TX2, 6), rfl, by decide, cw_2, Or.inl (j_tb (List.mem_of_getElem? (i := 117) (by decide +kernel))), nmX2, cp_2, Or.inr ⟨rfl, rfl, rfl, j_tb (List.mem_of_getElem? (i := 117) (by decide +kernel))⟩, by decide +kernel⟩
theorem fp_X2_init_36 : jlp kX2_init 36 2 5 (.object "CueSheets$Marks") := ⟨(RX2, TX2, 6), rfl, by decide, cw_2, Or.inl (j_tb (List.mem_of_getElem? (i := 119) (by decide +kernel))), nmX2, cp_2, Or.inr ⟨rfl, rfl, rfl, j_tb (List.mem_of_getElem? (i := 119) (by decide +kernel))⟩, by decide +kernel⟩
theorem fp_X3_init_7 : jlp kX3_init 7 3 0 (.array .int) := ⟨(RX3, TX3, 2), rfl, by decide, cw_3, Or.inl (j_tb (List.mem_of_getElem? (i := 45) (by decide +kernel))), nmX3, cp_3, Or.inr ⟨rfl, rfl, rfl, j_tb (List.mem_of_getElem? (i := 45) (by decide +kernel))⟩, by decide +kernel⟩
theorem fp_X3_add_13 : jlp kX3_add 13 3 1 .int := ⟨(RX3, TX3, 2), rfl, by decide, cw_3, Or.inl (j_tb (List.mem_of_getElem? (i := 46) (by decide +kernel))), nmX3, cp_3, Or.inl rfl, by decide +kernel⟩
theorem fp_X3_remove_13 : jlp kX3_remove 13 3 1 .int := ⟨(RX3, TX3, 2), rfl, by decide, cw_3, Or.inl (j_tb (List.mem_of_getElem? (i := 46) (by decide +kernel))), nmX3, cp_3, Or.inl rfl, by decide +kernel⟩
theorem fp_X3_clear_13 : jlp kX3_clear 13 3 1 .int := ⟨(RX3, TX3, 2), rfl, by decide, cw_3, Or.inl (j_tb (List.mem_of_getElem? (i := 46) (by decide +kernel))), nmX3, cp_3, Or.inl rfl, by decide +kernel⟩
theorem fp_X4_init_14 : jlp kX4_init 14 4 0 (.object "CueSheets$Row") := ⟨(RX4, TX4, 5), rfl, by decide, cw_4, Or.inl (j_tb (List.mem_of_getElem? (i := 181) (by decide +kernel))), nmX4, cp_4, Or.inr ⟨rfl, rfl, rfl, j_tb (List.mem_of_getElem? (i := 181) (by decide +kernel))⟩, by decide +kernel⟩
theorem fp_X4_init_20 : jlp kX4_init 20 4 1 (.object "CueSheets$Row") := ⟨(RX4, TX4, 5), rfl, by decide, cw_4, Or.inl (j_tb (List.mem_of_getElem? (i := 183) (by decide +kernel))), nmX4, cp_4, Or.inr ⟨rfl, rfl, rfl, j_tb (List.mem_of_getElem? (i := 183) (by decide +kernel))⟩, by decide +kernel⟩
theorem fp_X4_init_23 : jlp kX4_init 23 4 2 (.object "CueSheets$Row") := ⟨(RX4, TX4, 5), rfl, by decide, cw_4, Or.inl (j_tb (List.mem_of_getElem? (i := 185) (by decide +kernel))), nmX4, cp_4, Or.inr ⟨rfl, rfl, rfl, j_tb (List.mem_of_getElem? (i := 185) (by decide +kernel))⟩, by decide +kernel⟩
theorem fp_X4_init_26 : jlp kX4_init 26 4 3 (.object "CueSheets$Row") := ⟨(RX4, TX4, 5), rfl, by decide, cw_4, Or.inl (j_tb (List.mem_of_getElem? (i := 187) (by decide +kernel))), nmX4, cp_4, Or.inr ⟨rfl, rfl, rfl, j_tb (List.mem_of_getElem? (i := 187) (by decide +kernel))⟩, by decide +kernel⟩
theorem fp_X4_beginScene_43 : jlp kX4_beginScene 43 4 4 .int := ⟨(RX4, TX4, 5), rfl, by decide, cw_4, Or.inl (j_tb (List.mem_of_getElem? (i := 189) (by decide +kernel))), nmX4, cp_4, Or.inl rfl, by decide +kernel⟩
theorem fp_X4_step_43 : jlp kX4_step 43 4 4 .int := ⟨(RX4, TX4, 5), rfl, by decide, cw_4, Or.inl (j_tb (List.mem_of_getElem? (i := 189) (by decide +kernel))), nmX4, cp_4, Or.inl rfl, by decide +kernel⟩
theorem fp_X5_init_12 : jlp kX5_init 12 5 0 (.object "CueSheets$Reel") := ⟨(RX5, TX5, 8), rfl, by decide, cw_5, Or.inl (j_tb (List.mem_of_getElem? (i := 136) (by decide +kernel))), nmX5, cp_5, Or.inr ⟨rfl, rfl, rfl, j_tb (List.mem_of_getElem? (i := 136) (by decide +kernel))⟩, by decide +kernel⟩
theorem fp_X5_init_18 : jlp kX5_init 18 5 1 (.object "CueSheets$Reel") := ⟨(RX5, TX5, 8), rfl, by decide, cw_5, Or.inl (j_tb (List.mem_of_getElem? (i := 137) (by decide +kernel))), nmX5, cp_5, Or.inr ⟨rfl, rfl, rfl, j_tb (List.mem_of_getElem? (i := 137) (by decide +kernel))⟩, by decide +kernel⟩
theorem fp_X5_init_21 : jlp kX5_init 21 5 2 (.object "CueSheets$Reel") := ⟨(RX5, TX5, 8), rfl, by decide, cw_5, Or.inl (j_tb (List.mem_of_getElem? (i := 138) (by decide +kernel))), nmX5, cp_5, Or.inr ⟨rfl, rfl, rfl, j_tb (List.mem_of_getElem? (i := 138) (by decide +kernel))⟩, by decide +kernel⟩
theorem fp_X5_init_29 : jlp kX5_init 29 5 3 (.object "CueSheets$Row") := ⟨(RX5, TX5, 8), rfl, by decide, cw_5, Or.inl (j_tb (List.mem_of_getElem? (i := 139) (by decide +kernel))), nmX5, cp_5, Or.inr ⟨rfl, rfl, rfl, j_tb (List.mem_of_getElem? (i := 139) (by decide +kernel))⟩, by decide +kernel⟩
theorem fp_X5_init_33 : jlp kX5_init 33 5 4 (.object "CueSheets$Row") := ⟨(RX5, TX5, 8), rfl, by decide, cw_5, Or.inl (j_tb (List.mem_of_getElem? (i := 142) (by decide +kernel))), nmX5, cp_5, Or.inr ⟨rfl, rfl, rfl, j_tb (List.mem_of_getElem? (i := 142) (by decide +kernel))⟩, by decide +kernel⟩
theorem fp_X5_init_36 : jlp kX5_init 36 5 5 (.object "CueSheets$Row") := ⟨(RX5, TX5, 8), rfl, by decide, cw_5, Or.inl (j_tb (List.mem_of_getElem? (i := 145) (by decide +kernel))), nmX5, cp_5, Or.inr ⟨rfl, rfl, rfl, j_tb (List.mem_of_getElem? (i := 145) (by decide +kernel))⟩, by decide +kernel⟩
theorem fp_X5_init_39 : jlp kX5_init 39 5 6 .int := ⟨(RX5, TX5, 8), rfl, by decide, cw_5, Or.inl (j_tb (List.mem_of_getElem? (i := 148) (by decide +kernel))), nmX5, cp_5, Or.inl rfl, by decide +kernel⟩
theorem fp_X5_init_43 : jlp kX5_init 43 5 7 .int := ⟨(RX5, TX5, 8), rfl, by decide, cw_5, Or.inl (j_tb (List.mem_of_getElem? (i := 150) (by decide +kernel))), nmX5, cp_5, Or.inl rfl, by decide +kernel⟩
theorem fp_X5_takeFrom_39 : jlp kX5_takeFrom 39 5 6 .int := ⟨(RX5, TX5, 8), rfl, by decide, cw_5, Or.inl (j_tb (List.mem_of_getElem? (i := 148) (by decide +kernel))), nmX5, cp_5, Or.inl rfl, by decide +kernel⟩
theorem fp_X5_takeFrom_43 : jlp kX5_takeFrom 43 5 7 .int := ⟨(RX5, TX5, 8), rfl, by decide, cw_5, Or.inl (j_tb (List.mem_of_getElem? (i := 150) (by decide +kernel))), nmX5, cp_5, Or.inl rfl, by decide +kernel⟩
theorem fp_X6_init_14 : jlp kX6_init 14 6 0 (.object "CueSheets$Row") := ⟨(RX6, TX6, 14), rfl, by decide, cw_6, Or.inl (j_tb (List.mem_of_getElem? (i := 209) (by decide +kernel))), nmX6, cp_6, Or.inr ⟨rfl, rfl, rfl, j_tb (List.mem_of_getElem? (i := 209) (by decide +kernel))⟩, by decide +kernel⟩
theorem fp_X6_init_20 : jlp kX6_init 20 6 1 (.object "CueSheets$Row") := ⟨(RX6, TX6, 14), rfl, by decide, cw_6, Or.inl (j_tb (List.mem_of_getElem? (i := 211) (by decide +kernel))), nmX6, cp_6, Or.inr ⟨rfl, rfl, rfl, j_tb (List.mem_of_getElem? (i := 211) (by decide +kernel))⟩, by decide +kernel⟩
theorem fp_X6_init_23 : jlp kX6_init 23 6 2 (.object "CueSheets$Row") := ⟨(RX6, TX6, 14), rfl, by decide, cw_6, Or.inl (j_tb (List.mem_of_getElem? (i := 213) (by decide +kernel))), nmX6, cp_6, Or.inr ⟨rfl, rfl, rfl, j_tb (List.mem_of_getElem? (i := 213) (by decide +kernel))⟩, by decide +kernel⟩
theorem fp_X6_init_26 : jlp kX6_init 26 6 3 (.object "CueSheets$Row") := ⟨(RX6, TX6, 14), rfl, by decide, cw_6, Or.inl (j_tb (List.mem_of_getElem? (i := 215) (by decide +kernel))), nmX6, cp_6, Or.inr ⟨rfl, rfl, rfl, j_tb (List.mem_of_getElem? (i := 215) (by decide +kernel))⟩, by decide +kernel⟩
theorem fp_X6_init_29 : jlp kX6_init 29 6 4 (.object "CueSheets$Row") := ⟨(RX6, TX6, 14), rfl, by decide, cw_6, Or.inl (j_tb (List.mem_of_getElem? (i := 217) (by decide +kernel))), nmX6, cp_6, Or.inr ⟨rfl, rfl, rfl, j_tb (List.mem_of_getElem? (i := 217) (by decide +kernel))⟩, by decide +kernel⟩
theorem fp_X6_init_32 : jlp kX6_init 32 6 5 (.object "CueSheets$Row") := ⟨(RX6, TX6, 14), rfl, by decide, cw_6, Or.inl (j_tb (List.mem_of_getElem? (i := 219) (by decide +kernel))), nmX6, cp_6, Or.inr ⟨rfl, rfl, rfl, j_tb (List.mem_of_getElem? (i := 219) (by decide +kernel))⟩, by decide +kernel⟩
theorem fp_X6_init_35 : jlp kX6_init 35 6 6 (.object "CueSheets$Row") := ⟨(RX6, TX6, 14), rfl, by decide, cw_6, Or.inl (j_tb (List.mem_of_getElem? (i := 221) (by decide +kernel))), nmX6, cp_6, Or.inr ⟨rfl, rfl, rfl, j_tb (List.mem_of_getElem? (i := 221) (by decide +kernel))⟩, by decide +kernel⟩
theorem fp_X6_measure_47 : jlp kX6_measure 47 6 7 .int := ⟨(RX6, TX6, 14), rfl, by decide, cw_6, Or.inl (j_tb (List.mem_of_getElem? (i := 223) (by decide +kernel))), nmX6, cp_6, Or.inl rfl, by decide +kernel⟩
theorem fp_X6_measure_72 : jlp kX6_measure 72 6 8 .int := ⟨(RX6, TX6, 14), rfl, by decide, cw_6, Or.inl (j_tb (List.mem_of_getElem? (i := 225) (by decide +kernel))), nmX6, cp_6, Or.inl rfl, by decide +kernel⟩
theorem fp_X6_measure_69 : jlp kX6_measure 69 6 9 .int := ⟨(RX6, TX6, 14), rfl, by decide, cw_6, Or.inl (j_tb (List.mem_of_getElem? (i := 227) (by decide +kernel))), nmX6, cp_6, Or.inl rfl, by decide +kernel⟩
theorem fp_X6_clear_47 : jlp kX6_clear 47 6 7 .int := ⟨(RX6, TX6, 14), rfl, by decide, cw_6, Or.inl (j_tb (List.mem_of_getElem? (i := 223) (by decide +kernel))), nmX6, cp_6, Or.inl rfl, by decide +kernel⟩
theorem fp_X6_clear_72 : jlp kX6_clear 72 6 8 .int := ⟨(RX6, TX6, 14), rfl, by decide, cw_6, Or.inl (j_tb (List.mem_of_getElem? (i := 225) (by decide +kernel))), nmX6, cp_6, Or.inl rfl, by decide +kernel⟩
theorem fp_X6_clear_69 : jlp kX6_clear 69 6 9 .int := ⟨(RX6, TX6, 14), rfl, by decide, cw_6, Or.inl (j_tb (List.mem_of_getElem? (i := 227) (by decide +kernel))), nmX6, cp_6, Or.inl rfl, by decide +kernel⟩
theorem fp_X6_clear_80 : jlp kX6_clear 80 6 10 .int := ⟨(RX6, TX6, 14), rfl, by decide, cw_6, Or.inl (j_tb (List.mem_of_getElem? (i := 229) (by decide +kernel))), nmX6, cp_6, Or.inl rfl, by decide +kernel⟩
theorem fp_X6_clear_83 : jlp kX6_clear 83 6 11 .int := ⟨(RX6, TX6, 14), rfl, by decide, cw_6, Or.inl (j_tb (List.mem_of_getElem? (i := 231) (by decide +kernel))), nmX6, cp_6, Or.inl rfl, by decide +kernel⟩
theorem fp_X6_clear_86 : jlp kX6_clear 86 6 12 .int := ⟨(RX6, TX6, 14), rfl, by decide, cw_6, Or.inl (j_tb (List.mem_of_getElem? (i := 233) (by decide +kernel))), nmX6, cp_6, Or.inl rfl, by decide +kernel⟩
theorem fp_X6_clear_89 : jlp kX6_clear 89 6 13 .int := ⟨(RX6, TX6, 14), rfl, by decide, cw_6, Or.inl (j_tb (List.mem_of_getElem? (i := 235) (by decide +kernel))), nmX6, cp_6, Or.inl rfl, by decide +kernel⟩
theorem fp_X6_measureCue_89 : jlp kX6_measureCue 89 6 13 .int := ⟨(RX6, TX6, 14), rfl, by decide, cw_6, Or.inl (j_tb (List.mem_of_getElem? (i := 235) (by decide +kernel))), nmX6, cp_6, Or.inl rfl, by decide +kernel⟩
theorem fp_X6_measureCue_80 : jlp kX6_measureCue 80 6 10 .int := ⟨(RX6, TX6, 14), rfl, by decide, cw_6, Or.inl (j_tb (List.mem_of_getElem? (i := 229) (by decide +kernel))), nmX6, cp_6, Or.inl rfl, by decide +kernel⟩
theorem fp_X6_measureCue_86 : jlp kX6_measureCue 86 6 12 .int := ⟨(RX6, TX6, 14), rfl, by decide, cw_6, Or.inl (j_tb (List.mem_of_getElem? (i := 233) (by decide +kernel))), nmX6, cp_6, Or.inl rfl, by decide +kernel⟩
theorem fp_X6_measureCue_83 : jlp kX6_measureCue 83 6 11 .int := ⟨(RX6, TX6, 14), rfl, by decide, cw_6, Or.inl (j_tb (List.mem_of_getElem? (i := 231) (by decide +kernel))), nmX6, cp_6, Or.inl rfl, by decide +kernel⟩
theorem fp_X7_init_10 : jlp kX7_init 10 7 0 (.object "CueSheets$State") := ⟨(RX7, TX7, 9), rfl, by decide, cw_7, Or.inl (j_tb (List.mem_of_getElem? (i := 285) (by decide +kernel))), nmX7, cp_7, Or.inr ⟨rfl, rfl, rfl, j_tb (List.mem_of_getElem? (i := 285) (by decide +kernel))⟩, by decide +kernel⟩
theorem fp_X7_init_16 : jlp kX7_init 16 7 1 (.array (.object "CueSheets$State")) := ⟨(RX7, TX7, 9), rfl, by decide, cw_7, Or.inl (j_tb (List.mem_of_getElem? (i := 286) (by decide +kernel))), nmX7, cp_7, Or.inr ⟨rfl, rfl, rfl, j_tb (List.mem_of_getElem? (i := 286) (by decide +kernel))⟩, by decide +kernel⟩
theorem fp_X7_init_25 : jlp kX7_init 25 7 4 (.object "CueSheets$Row") := ⟨(RX7, TX7, 9), rfl, by decide, cw_7, Or.inl (j_tb (List.mem_of_getElem? (i := 289) (by decide +kernel))), nmX7, cp_7, Or.inr ⟨rfl, rfl, rfl, j_tb (List.mem_of_getElem? (i := 289) (by decide +kernel))⟩, by decide +kernel⟩
theorem fp_X7_init_32 : jlp kX7_init 32 7 5 (.object "CueSheets$SheetReader") := ⟨(RX7, TX7, 9), rfl, by decide, cw_7, Or.inl (j_tb (List.mem_of_getElem? (i := 290) (by decide +kernel))), nmX7, cp_7, Or.inr ⟨rfl, rfl, rfl, j_tb (List.mem_of_getElem? (i := 290) (by decide +kernel))⟩, by decide +kernel⟩
theorem fp_X7_init_39 : jlp kX7_init 39 7 6 (.object "CueSheets$Timing") := ⟨(RX7, TX7, 9), rfl, by decide, cw_7, Or.inl (j_tb (List.mem_of_getElem? (i := 291) (by decide +kernel))), nmX7, cp_7, Or.inr ⟨rfl, rfl, rfl, j_tb (List.mem_of_getElem? (i := 291) (by decide +kernel))⟩, by decide +kernel⟩
theorem fp_X7_init_43 : jlp kX7_init 43 7 7 (.object "CueSheets$Timing") := ⟨(RX7, TX7, 9), rfl, by decide, cw_7, Or.inl (j_tb (List.mem_of_getElem? (i := 292) (by decide +kernel))), nmX7, cp_7, Or.inr ⟨rfl, rfl, rfl, j_tb (List.mem_of_getElem? (i := 292) (by decide +kernel))⟩, by decide +kernel⟩
theorem fp_X7_init_49 : jlp kX7_init 49 7 8 (.object "CueSheets$Choice") := ⟨(RX7, TX7, 9), rfl, by decide, cw_7, Or.inl (j_tb (List.mem_of_getElem? (i := 293) (by decide +kernel))), nmX7, cp_7, Or.inr ⟨rfl, rfl, rfl, j_tb (List.mem_of_getElem? (i := 293) (by decide +kernel))⟩, by decide +kernel⟩
theorem fp_X7_set_159 : jlp kX7_set 159 5 6 .int := ⟨(RX5, TX5, 8), rfl, by decide, cw_5, Or.inr ⟨"CueSheets", j_tb (List.mem_of_getElem? (i := 149) (by decide +kernel))⟩, nmX5, cp_5, Or.inl rfl, by decide +kernel⟩
theorem fp_X7_set_163 : jlp kX7_set 163 5 7 .int := ⟨(RX5, TX5, 8), rfl, by decide, cw_5, Or.inr ⟨"CueSheets", j_tb (List.mem_of_getElem? (i := 152) (by decide +kernel))⟩, nmX5, cp_5, Or.inl rfl, by decide +kernel⟩
theorem fp_X7_undo_199 : jlp kX7_undo 199 7 3 .int := ⟨(RX7, TX7, 9), rfl, by decide, cw_7, Or.inl (j_tb (List.mem_of_getElem? (i := 288) (by decide +kernel))), nmX7, cp_7, Or.inl rfl, by decide +kernel⟩
theorem fp_X7_save_284 : jlp kX7_save 284 7 2 .int := ⟨(RX7, TX7, 9), rfl, by decide, cw_7, Or.inl (j_tb (List.mem_of_getElem? (i := 287) (by decide +kernel))), nmX7, cp_7, Or.inl rfl, by decide +kernel⟩
theorem fp_X7_save_199 : jlp kX7_save 199 7 3 .int := ⟨(RX7, TX7, 9), rfl, by decide, cw_7, Or.inl (j_tb (List.mem_of_getElem? (i := 288) (by decide +kernel))), nmX7, cp_7, Or.inl rfl, by decide +kernel⟩
theorem fp_X8_init_7 : jlp kX8_init 7 8 1 (.array .int) := ⟨(RX8, TX8, 16), rfl, by decide, cw_8, Or.inl (j_tb (List.mem_of_getElem? (i := 916) (by decide +kernel))), nmX8, cp_8, Or.inr ⟨rfl, rfl, rfl, j_tb (List.mem_of_getElem? (i := 916) (by decide +kernel))⟩, by decide +kernel⟩
theorem fp_X8_init_13 : jlp kX8_init 13 8 3 (.array .int) := ⟨(RX8, TX8, 16), rfl, by decide, cw_8, Or.inl (j_tb (List.mem_of_getElem? (i := 918) (by decide +kernel))), nmX8, cp_8, Or.inr ⟨rfl, rfl, rfl, j_tb (List.mem_of_getElem? (i := 918) (by decide +kernel))⟩, by decide +kernel⟩
theorem fp_X8_init_16 : jlp kX8_init 16 8 5 (.array .int) := ⟨(RX8, TX8, 16), rfl, by decide, cw_8, Or.inl (j_tb (List.mem_of_getElem? (i := 920) (by decide +kernel))), nmX8, cp_8, Or.inr ⟨rfl, rfl, rfl, j_tb (List.mem_of_getElem? (i := 920) (by decide +kernel))⟩, by decide +kernel⟩
theorem fp_X8_init_19 : jlp kX8_init 19 8 6 (.array .int) := ⟨(RX8, TX8, 16), rfl, by decide, cw_8, Or.inl (j_tb (List.mem_of_getElem? (i := 921) (by decide +kernel))), nmX8, cp_8, Or.inr ⟨rfl, rfl, rfl, j_tb (List.mem_of_getElem? (i := 921) (by decide +kernel))⟩, by decide +kernel⟩
theorem fp_X8_init_22 : jlp kX8_init 22 8 7 (.array .int) := ⟨(RX8, TX8, 16), rfl, by decide, cw_8, Or.inl (j_tb (List.mem_of_getElem? (i := 922) (by decide +kernel))), nmX8, cp_8, Or.inr ⟨rfl, rfl, rfl, j_tb (List.mem_of_getElem? (i := 922) (by decide +kernel))⟩, by decide +kernel⟩
theorem fp_X8_init_25 : jlp kX8_init 25 8 8 (.array .int) := ⟨(RX8, TX8, 16), rfl, by decide, cw_8, Or.inl (j_tb (List.mem_of_getElem? (i := 923) (by decide +kernel))), nmX8, cp_8, Or.inr ⟨rfl, rfl, rfl, j_tb (List.mem_of_getElem? (i := 923) (by decide +kernel))⟩, by decide +kernel⟩
theorem fp_X8_init_28 : jlp kX8_init 28 8 9 (.array .int) := ⟨(RX8, TX8, 16), rfl, by decide, cw_8, Or.inl (j_tb (List.mem_of_getElem? (i := 924) (by decide +kernel))), nmX8, cp_8, Or.inr ⟨rfl, rfl, rfl, j_tb (List.mem_of_getElem? (i := 924) (by decide +kernel))⟩, by decide +kernel⟩
theorem fp_X8_init_31 : jlp kX8_init 31 8 14 (.array .int) := ⟨(RX8, TX8, 16), rfl, by decide, cw_8, Or.inl (j_tb (List.mem_of_getElem? (i := 929) (by decide +kernel))), nmX8, cp_8, Or.inr ⟨rfl, rfl, rfl, j_tb (List.mem_of_getElem? (i := 929) (by decide +kernel))⟩, by decide +kernel⟩
theorem fp_X8_bestOf_85 : jlp kX8_bestOf 85 8 10 .int := ⟨(RX8, TX8, 16), rfl, by decide, cw_8, Or.inl (j_tb (List.mem_of_getElem? (i := 925) (by decide +kernel))), nmX8, cp_8, Or.inl rfl, by decide +kernel⟩
theorem fp_X8_save_88 : jlp kX8_save 88 8 2 .int := ⟨(RX8, TX8, 16), rfl, by decide, cw_8, Or.inl (j_tb (List.mem_of_getElem? (i := 917) (by decide +kernel))), nmX8, cp_8, Or.inl rfl, by decide +kernel⟩
theorem fp_X8_undo_34 : jlp kX8_undo 34 8 0 .int := ⟨(RX8, TX8, 16), rfl, by decide, cw_8, Or.inl (j_tb (List.mem_of_getElem? (i := 915) (by decide +kernel))), nmX8, cp_8, Or.inl rfl, by decide +kernel⟩
theorem fp_X8_undo_88 : jlp kX8_undo 88 8 2 .int := ⟨(RX8, TX8, 16), rfl, by decide, cw_8, Or.inl (j_tb (List.mem_of_getElem? (i := 917) (by decide +kernel))), nmX8, cp_8, Or.inl rfl, by decide +kernel⟩
theorem fp_X8_addScene_34 : jlp kX8_addScene 34 8 0 .int := ⟨(RX8, TX8, 16), rfl, by decide, cw_8, Or.inl (j_tb (List.mem_of_getElem? (i := 915) (by decide +kernel))), nmX8, cp_8, Or.inl rfl, by decide +kernel⟩
theorem fp_X8_removeScene_34 : jlp kX8_removeScene 34 8 0 .int := ⟨(RX8, TX8, 16), rfl, by decide, cw_8, Or.inl (j_tb (List.mem_of_getElem? (i := 915) (by decide +kernel))), nmX8, cp_8, Or.inl rfl, by decide +kernel⟩
theorem fp_X8_crank_34 : jlp kX8_crank 34 8 0 .int := ⟨(RX8, TX8, 16), rfl, by decide, cw_8, Or.inl (j_tb (List.mem_of_getElem? (i := 915) (by decide +kernel))), nmX8, cp_8, Or.inl rfl, by decide +kernel⟩
theorem fp_X8_splice_34 : jlp kX8_splice 34 8 0 .int := ⟨(RX8, TX8, 16), rfl, by decide, cw_8, Or.inl (j_tb (List.mem_of_getElem? (i := 915) (by decide +kernel))), nmX8, cp_8, Or.inl rfl, by decide +kernel⟩
theorem fp_X8_addPiece_34 : jlp kX8_addPiece 34 8 0 .int := ⟨(RX8, TX8, 16), rfl, by decide, cw_8, Or.inl (j_tb (List.mem_of_getElem? (i := 915) (by decide +kernel))), nmX8, cp_8, Or.inl rfl, by decide +kernel⟩
theorem fp_X8_setCue_34 : jlp kX8_setCue 34 8 0 .int := ⟨(RX8, TX8, 16), rfl, by decide, cw_8, Or.inl (j_tb (List.mem_of_getElem? (i := 915) (by decide +kernel))), nmX8, cp_8, Or.inl rfl, by decide +kernel⟩
theorem fp_X8_fit_34 : jlp kX8_fit 34 8 0 .int := ⟨(RX8, TX8, 16), rfl, by decide, cw_8, Or.inl (j_tb (List.mem_of_getElem? (i := 915) (by decide +kernel))), nmX8, cp_8, Or.inl rfl, by decide +kernel⟩
theorem fp_X8_set_34 : jlp kX8_set 34 8 0 .int := ⟨(RX8, TX8, 16), rfl, by decide, cw_8, Or.inl (j_tb (List.mem_of_getElem? (i := 915) (by decide +kernel))), nmX8, cp_8, Or.inl rfl, by decide +kernel⟩
theorem fp_X8_append_34 : jlp kX8_append 34 8 0 .int := ⟨(RX8, TX8, 16), rfl, by decide, cw_8, Or.inl (j_tb (List.mem_of_getElem? (i := 915) (by decide +kernel))), nmX8, cp_8, Or.inl rfl, by decide +kernel⟩
theorem fp_X8_append_119 : jlp kX8_append 119 8 4 .int := ⟨(RX8, TX8, 16), rfl, by decide, cw_8, Or.inl (j_tb (List.mem_of_getElem? (i := 919) (by decide +kernel))), nmX8, cp_8, Or.inl rfl, by decide +kernel⟩
theorem fp_X8_clearBuffer_34 : jlp kX8_clearBuffer 34 8 0 .int := ⟨(RX8, TX8, 16), rfl, by decide, cw_8, Or.inl (j_tb (List.mem_of_getElem? (i := 915) (by decide +kernel))), nmX8, cp_8, Or.inl rfl, by decide +kernel⟩
theorem fp_X8_clearBuffer_119 : jlp kX8_clearBuffer 119 8 4 .int := ⟨(RX8, TX8, 16), rfl, by decide, cw_8, Or.inl (j_tb (List.mem_of_getElem? (i := 919) (by decide +kernel))), nmX8, cp_8, Or.inl rfl, by decide +kernel⟩
theorem fp_X8_beginEntry_122 : jlp kX8_beginEntry 122 8 11 .int := ⟨(RX8, TX8, 16), rfl, by decide, cw_8, Or.inl (j_tb (List.mem_of_getElem? (i := 926) (by decide +kernel))), nmX8, cp_8, Or.inl rfl, by decide +kernel⟩
theorem fp_X8_beginEntry_125 : jlp kX8_beginEntry 125 8 12 .int := ⟨(RX8, TX8, 16), rfl, by decide, cw_8, Or.inl (j_tb (List.mem_of_getElem? (i := 927) (by decide +kernel))), nmX8, cp_8, Or.inl rfl, by decide +kernel⟩
theorem fp_X8_goes_122 : jlp kX8_goes 122 8 11 .int := ⟨(RX8, TX8, 16), rfl, by decide, cw_8, Or.inl (j_tb (List.mem_of_getElem? (i := 926) (by decide +kernel))), nmX8, cp_8, Or.inl rfl, by decide +kernel⟩
theorem fp_X8_goes_125 : jlp kX8_goes 125 8 12 .int := ⟨(RX8, TX8, 16), rfl, by decide, cw_8, Or.inl (j_tb (List.mem_of_getElem? (i := 927) (by decide +kernel))), nmX8, cp_8, Or.inl rfl, by decide +kernel⟩
theorem fp_X8_takesLength_125 : jlp kX8_takesLength 125 8 12 .int := ⟨(RX8, TX8, 16), rfl, by decide, cw_8, Or.inl (j_tb (List.mem_of_getElem? (i := 927) (by decide +kernel))), nmX8, cp_8, Or.inl rfl, by decide +kernel⟩
theorem fp_X8_takesPace_125 : jlp kX8_takesPace 125 8 12 .int := ⟨(RX8, TX8, 16), rfl, by decide, cw_8, Or.inl (j_tb (List.mem_of_getElem? (i := 927) (by decide +kernel))), nmX8, cp_8, Or.inl rfl, by decide +kernel⟩
theorem fp_X8_takes_128 : jlp kX8_takes 128 8 13 .int := ⟨(RX8, TX8, 16), rfl, by decide, cw_8, Or.inl (j_tb (List.mem_of_getElem? (i := 928) (by decide +kernel))), nmX8, cp_8, Or.inl rfl, by decide +kernel⟩
theorem fp_X8_readText_128 : jlp kX8_readText 128 8 13 .int := ⟨(RX8, TX8, 16), rfl, by decide, cw_8, Or.inl (j_tb (List.mem_of_getElem? (i := 928) (by decide +kernel))), nmX8, cp_8, Or.inl rfl, by decide +kernel⟩
theorem fp_X8_firstError_34 : jlp kX8_firstError 34 8 0 .int := ⟨(RX8, TX8, 16), rfl, by decide, cw_8, Or.inl (j_tb (List.mem_of_getElem? (i := 915) (by decide +kernel))), nmX8, cp_8, Or.inl rfl, by decide +kernel⟩
theorem fp_X8_load_34 : jlp kX8_load 34 8 0 .int := ⟨(RX8, TX8, 16), rfl, by decide, cw_8, Or.inl (j_tb (List.mem_of_getElem? (i := 915) (by decide +kernel))), nmX8, cp_8, Or.inl rfl, by decide +kernel⟩
theorem fp_X8_load_119 : jlp kX8_load 119 8 4 .int := ⟨(RX8, TX8, 16), rfl, by decide, cw_8, Or.inl (j_tb (List.mem_of_getElem? (i := 919) (by decide +kernel))), nmX8, cp_8, Or.inl rfl, by decide +kernel⟩
theorem fp_X8_scene_34 : jlp kX8_scene 34 8 0 .int := ⟨(RX8, TX8, 16), rfl, by decide, cw_8, Or.inl (j_tb (List.mem_of_getElem? (i := 915) (by decide +kernel))), nmX8, cp_8, Or.inl rfl, by decide +kernel⟩
theorem fp_X8_reel_34 : jlp kX8_reel 34 8 0 .int := ⟨(RX8, TX8, 16), rfl, by decide, cw_8, Or.inl (j_tb (List.mem_of_getElem? (i := 915) (by decide +kernel))), nmX8, cp_8, Or.inl rfl, by decide +kernel⟩
theorem fp_X8_speedAt_34 : jlp kX8_speedAt 34 8 0 .int := ⟨(RX8, TX8, 16), rfl, by decide, cw_8, Or.inl (j_tb (List.mem_of_getElem? (i := 915) (by decide +kernel))), nmX8, cp_8, Or.inl rfl, by decide +kernel⟩
theorem fp_X8_piece_34 : jlp kX8_piece 34 8 0 .int := ⟨(RX8, TX8, 16), rfl, by decide, cw_8, Or.inl (j_tb (List.mem_of_getElem? (i := 915) (by decide +kernel))), nmX8, cp_8, Or.inl rfl, by decide +kernel⟩
theorem fp_X8_count_34 : jlp kX8_count 34 8 0 .int := ⟨(RX8, TX8, 16), rfl, by decide, cw_8, Or.inl (j_tb (List.mem_of_getElem? (i := 915) (by decide +kernel))), nmX8, cp_8, Or.inl rfl, by decide +kernel⟩
theorem fp_X8_bestCue_34 : jlp kX8_bestCue 34 8 0 .int := ⟨(RX8, TX8, 16), rfl, by decide, cw_8, Or.inl (j_tb (List.mem_of_getElem? (i := 915) (by decide +kernel))), nmX8, cp_8, Or.inl rfl, by decide +kernel⟩
theorem fp_X8_bestPiece_34 : jlp kX8_bestPiece 34 8 0 .int := ⟨(RX8, TX8, 16), rfl, by decide, cw_8, Or.inl (j_tb (List.mem_of_getElem? (i := 915) (by decide +kernel))), nmX8, cp_8, Or.inl rfl, by decide +kernel⟩
theorem fp_X8_ifCranked_34 : jlp kX8_ifCranked 34 8 0 .int := ⟨(RX8, TX8, 16), rfl, by decide, cw_8, Or.inl (j_tb (List.mem_of_getElem? (i := 915) (by decide +kernel))), nmX8, cp_8, Or.inl rfl, by decide +kernel⟩
theorem fp_X8_bestSpeed_34 : jlp kX8_bestSpeed 34 8 0 .int := ⟨(RX8, TX8, 16), rfl, by decide, cw_8, Or.inl (j_tb (List.mem_of_getElem? (i := 915) (by decide +kernel))), nmX8, cp_8, Or.inl rfl, by decide +kernel⟩
theorem fp_X8_offShare_34 : jlp kX8_offShare 34 8 0 .int := ⟨(RX8, TX8, 16), rfl, by decide, cw_8, Or.inl (j_tb (List.mem_of_getElem? (i := 915) (by decide +kernel))), nmX8, cp_8, Or.inl rfl, by decide +kernel⟩
theorem fp_X8_meanSpeed_34 : jlp kX8_meanSpeed 34 8 0 .int := ⟨(RX8, TX8, 16), rfl, by decide, cw_8, Or.inl (j_tb (List.mem_of_getElem? (i := 915) (by decide +kernel))), nmX8, cp_8, Or.inl rfl, by decide +kernel⟩
theorem fp_X8_mix_218 : jlp kX8_mix 218 8 15 .long := ⟨(RX8, TX8, 16), rfl, by decide, cw_8, Or.inl (j_tb (List.mem_of_getElem? (i := 930) (by decide +kernel))), nmX8, cp_8, Or.inl rfl, by decide +kernel⟩
theorem fp_X8_digest_34 : jlp kX8_digest 34 8 0 .int := ⟨(RX8, TX8, 16), rfl, by decide, cw_8, Or.inl (j_tb (List.mem_of_getElem? (i := 915) (by decide +kernel))), nmX8, cp_8, Or.inl rfl, by decide +kernel⟩
theorem fp_X8_digest_218 : jlp kX8_digest 218 8 15 .long := ⟨(RX8, TX8, 16), rfl, by decide, cw_8, Or.inl (j_tb (List.mem_of_getElem? (i := 930) (by decide +kernel))), nmX8, cp_8, Or.inl rfl, by decide +kernel⟩
end
section
theorem th_X7_addScene_31 : jthr RX7 70 72 74 "java/lang/IllegalStateException" "the reel has all its scenes" := ⟨by decide +kernel, ⟨j_tb (List.mem_of_getElem? (i := 655) (by decide +kernel)), rfl⟩, ⟨j_tb (List.mem_of_getElem? (i := 15) (by decide +kernel)), rfl⟩, j_tb (List.mem_of_getElem? (i := 664) (by decide +kernel)), by decide +kernel, by decide +kernel, by decide +kernel, by decide +kernel⟩  -- .ldc 72
theorem th_X7_crank_43 : jthr RX7 70 102 74 "java/lang/IllegalStateException" "the reel has all its speeds" := ⟨by decide +kernel, ⟨j_tb (List.mem_of_getElem? (i := 655) (by decide +kernel)), rfl⟩, ⟨j_tb (List.mem_of_getElem? (i := 15) (by decide +kernel)), rfl⟩, j_tb (List.mem_of_getElem? (i := 734) (by decide +kernel)), by decide +kernel, by decide +kernel, by decide +kernel, by decide +kernel⟩  -- .ldc 102
theorem th_X7_splice_46 : jthr RX7 70 113 74 "java/lang/IllegalStateException" "the reel has all its splices" := ⟨by decide +kernel, ⟨j_tb (List.mem_of_getElem? (i := 655) (by decide +kernel)), rfl⟩, ⟨j_tb (List.mem_of_getElem? (i := 15) (by decide +kernel)), rfl⟩, j_tb (List.mem_of_getElem? (i := 743) (by decide +kernel)), by decide +kernel, by decide +kernel, by decide +kernel, by decide +kernel⟩  -- .ldc 113
theorem th_X7_addPiece_37 : jthr RX7 70 121 74 "java/lang/IllegalStateException" "all pieces are there" := ⟨by decide +kernel, ⟨j_tb (List.mem_of_getElem? (i := 655) (by decide +kernel)), rfl⟩, ⟨j_tb (List.mem_of_getElem? (i := 15) (by decide +kernel)), rfl⟩, j_tb (List.mem_of_getElem? (i := 756) (by decide +kernel)), by decide +kernel, by decide +kernel, by decide +kernel, by decide +kernel⟩  -- .ldc 121
theorem th_X7_append_20 : jthr RX7 70 167 74 "java/lang/IllegalStateException" "the buffer is full" := ⟨by decide +kernel, ⟨j_tb (List.mem_of_getElem? (i := 655) (by decide +kernel)), rfl⟩, ⟨j_tb (List.mem_of_getElem? (i := 15) (by decide +kernel)), rfl⟩, j_tb (List.mem_of_getElem? (i := 805) (by decide +kernel)), by decide +kernel, by decide +kernel, by decide +kernel, by decide +kernel⟩  -- .ldc 167
theorem th_X7_load_29 : jthr RX7 179 181 183 "java/lang/IllegalArgumentException" "the buffer is not a complete sheet" := ⟨by decide +kernel, ⟨j_tb (List.mem_of_getElem? (i := 639) (by decide +kernel)), rfl⟩, ⟨j_tb (List.mem_of_getElem? (i := 14) (by decide +kernel)), rfl⟩, j_tb (List.mem_of_getElem? (i := 814) (by decide +kernel)), by decide +kernel, by decide +kernel, by decide +kernel, by decide +kernel⟩  -- .ldc 181
theorem th_X7_load_72 : jthr RX7 70 188 74 "java/lang/IllegalStateException" "too many scenes, or no such piece" := ⟨by decide +kernel, ⟨j_tb (List.mem_of_getElem? (i := 655) (by decide +kernel)), rfl⟩, ⟨j_tb (List.mem_of_getElem? (i := 15) (by decide +kernel)), rfl⟩, j_tb (List.mem_of_getElem? (i := 823) (by decide +kernel)), by decide +kernel, by decide +kernel, by decide +kernel, by decide +kernel⟩  -- .ldc 188
theorem th_X7_undo_7 : jthr RX7 70 202 74 "java/lang/IllegalStateException" "no state is saved" := ⟨by decide +kernel, ⟨j_tb (List.mem_of_getElem? (i := 655) (by decide +kernel)), rfl⟩, ⟨j_tb (List.mem_of_getElem? (i := 15) (by decide +kernel)), rfl⟩, j_tb (List.mem_of_getElem? (i := 831) (by decide +kernel)), by decide +kernel, by decide +kernel, by decide +kernel, by decide +kernel⟩  -- .ldc 202
theorem th_X7_requireReel_9 : jthr RX7 270 272 274 "java/lang/IndexOutOfBoundsException" "no such reel" := ⟨by decide +kernel, ⟨j_tb (List.mem_of_getElem? (i := 568) (by decide +kernel)), rfl⟩, ⟨j_tb (List.mem_of_getElem? (i := 13) (by decide +kernel)), rfl⟩, j_tb (List.mem_of_getElem? (i := 609) (by decide +kernel)), by decide +kernel, by decide +kernel, by decide +kernel, by decide +kernel⟩  -- .ldc_w 272
theorem th_X7_requireScene_24 : jthr RX7 270 275 274 "java/lang/IndexOutOfBoundsException" "no such scene" := ⟨by decide +kernel, ⟨j_tb (List.mem_of_getElem? (i := 568) (by decide +kernel)), rfl⟩, ⟨j_tb (List.mem_of_getElem? (i := 13) (by decide +kernel)), rfl⟩, j_tb (List.mem_of_getElem? (i := 714) (by decide +kernel)), by decide +kernel, by decide +kernel, by decide +kernel, by decide +kernel⟩  -- .ldc_w 275
theorem th_X7_requirePiece_11 : jthr RX7 270 280 274 "java/lang/IndexOutOfBoundsException" "no such piece" := ⟨by decide +kernel, ⟨j_tb (List.mem_of_getElem? (i := 568) (by decide +kernel)), rfl⟩, ⟨j_tb (List.mem_of_getElem? (i := 13) (by decide +kernel)), rfl⟩, j_tb (List.mem_of_getElem? (i := 774) (by decide +kernel)), by decide +kernel, by decide +kernel, by decide +kernel, by decide +kernel⟩  -- .ldc_w 280
theorem th_X7_requireRange_10 : jthr RX7 179 282 183 "java/lang/IllegalArgumentException" "an argument is out of range" := ⟨by decide +kernel, ⟨j_tb (List.mem_of_getElem? (i := 639) (by decide +kernel)), rfl⟩, ⟨j_tb (List.mem_of_getElem? (i := 14) (by decide +kernel)), rfl⟩, j_tb (List.mem_of_getElem? (i := 648) (by decide +kernel)), by decide +kernel, by decide +kernel, by decide +kernel, by decide +kernel⟩  -- .ldc_w 282
end
section
/-! ANSWERS: what a method's contract says where the kinds, the longs and the heap's size stay; calls of such methods -/
def qI (T : jT) (X : jX) (sz : Nat) (P : Int32 → jV → Prop) : jQ := fun o T' V' X' sz' => ∃ r : Int32, o = .inl (some (.int r)) ∧ T' = T ∧ X' = X ∧ sz' = sz ∧ P r V'
def qL (T : jT) (X : jX) (sz : Nat) (P : Int64 → jV → Prop) : jQ := fun o T' V' X' sz' => ∃ r : Int64, o = .inl (some (.long r)) ∧ T' = T ∧ X' = X ∧ sz' = sz ∧ P r V'
def qF (T : jT) (X : jX) (sz : Nat) (P : UInt32 → jV → Prop) : jQ := fun o T' V' X' sz' => ∃ r : UInt32, o = .inl (some (.float r)) ∧ T' = T ∧ X' = X ∧ sz' = sz ∧ P r V'
def qD (T : jT) (X : jX) (sz : Nat) (P : UInt64 → jV → Prop) : jQ := fun o T' V' X' sz' => ∃ r : UInt64, o = .inl (some (.double r)) ∧ T' = T ∧ X' = X ∧ sz' = sz ∧ P r V'
def qA (T : jT) (X : jX) (sz : Nat) (P : Option Nat → jV → Prop) : jQ := fun o T' V' X' sz' => ∃ r : Option Nat, o = .inl (some (va_rf r)) ∧ T' = T ∧ X' = X ∧ sz' = sz ∧ P r V'
def qU (T : jT) (X : jX) (sz : Nat) (P : jV → Prop) : jQ := fun o T' V' X' sz' => o = .inl none ∧ T' = T ∧ X' = X ∧ sz' = sz ∧ P V'
section JN
variable {l : Launch} {s0 : State} {D : jD} {M : jM} {R : Room} {mc ms : Nat} {Q : jQ} {pc : Nat} {L : List (Nat × Value)} {st rest : List Value} {T : jT} {V : jV} {X : jX} {sz c n : Nat}
theorem j_cVi {M2 : jM} {R2 : Room} {idx ci b na : Nat} {as : List Value} {fs : List (Nat ⊕ Option Nat)} {r : vw_C} {P : Int32 → jV → Prop} (d : decode M.2.1 pc = .ok (.invokevirtual idx, 3)) (hB : jB l s0 D) (hm : jmV M2 na) (hlk : Cond.methodLink M.1.cls idx M2.1 ∈ lw_tbl) (sp : Sp l s0 D M2 R2 0 0 (.ref b :: as) T V X sz (qI T X sz P)) (ht : T b = some (.inl (ci, fs))) (hc : vwCl[ci]? = some r) (hr : r.1 = M2.1.cls) (hn : as.length = na) (hst : st = as.reverse ++ .ref b :: rest) (hrm : jrm R R2 0 0 M2.2.2.1) (hcat : (rest.map fun v => v.category).sum ≤ 8) (hf : c ≤ R.cells ∧ n ≤ R.slots) (K : ∀ (r : Int32) V', P r V' → J l s0 D M R mc ms Q (pc + 3) L (.int r :: rest) T V' X sz c n) : J l s0 D M R mc ms Q pc L st T V X sz c n := j_callV d hB hm hlk sp ht hc hr hn hst hrm hcat hf (by rintro v T' V' X' sz' ⟨r, h, rfl, rfl, rfl, hp⟩; cases h; exact K r V' hp) (by rintro E T' V' X' sz' ⟨r, h, -⟩; cases h)
theorem j_cSi {M2 : jM} {R2 : Room} {idx na : Nat} {as : List Value} {P : Int32 → jV → Prop} (d : decode M.2.1 pc = .ok (.invokestatic idx, 3)) (hB : jB l s0 D) (hm : jmS M2 na) (hlk : Cond.methodLink M.1.cls idx M2.1 ∈ lw_tbl) (sp : Sp l s0 D M2 R2 0 0 as T V X sz (qI T X sz P)) (hn : as.length = na) (hst : st = as.reverse ++ rest) (hrm : jrm R R2 0 0 M2.2.2.1) (hcat : (rest.map fun v => v.category).sum ≤ 8) (hf : c ≤ R.cells ∧ n ≤ R.slots) (K : ∀ (r : Int32) V', P r V' → J l s0 D M R mc ms Q (pc + 3) L (.int r :: rest) T V' X sz c n) : J l s0 D M R mc ms Q pc L st T V X sz c n := j_callS d hB hm hlk sp hn hst hrm hcat hf (by rintro v T' V' X' sz' ⟨r, h, rfl, rfl, rfl, hp⟩; cases h; exact K r V' hp) (by rintro E T' V' X' sz' ⟨r, h, -⟩; cases h)
theorem j_cVl {M2 : jM} {R2 : Room} {idx ci b na : Nat} {as : List Value} {fs : List (Nat ⊕ Option Nat)} {r : vw_C} {P : Int64 → jV → Prop} (d : decode M.2.1 pc = .ok (.invokevirtual idx, 3)) (hB : jB l s0 D) (hm : jmV M2 na) (hlk : Cond.methodLink M.1.cls idx M2.1 ∈ lw_tbl) (sp : Sp l s0 D M2 R2 0 0 (.ref b :: as) T V X sz (qL T X sz P)) (ht : T b = some (.inl (ci, fs))) (hc : vwCl[ci]? = some r) (hr : r.1 = M2.1.cls) (hn : as.length = na) (hst : st = as.reverse ++ .ref b :: rest) (hrm : jrm R R2 0 0 M2.2.2.1) (hcat : (rest.map fun v => v.category).sum ≤ 8) (hf : c ≤ R.cells ∧ n ≤ R.slots) (K : ∀ (r : Int64) V', P r V' → J l s0 D M R mc ms Q (pc + 3) L (.long r :: rest) T V' X sz c n) : J l s0 D M R mc ms Q pc L st T V X sz c n := j_callV d hB hm hlk sp ht hc hr hn hst hrm hcat hf (by rintro v T' V' X' sz' ⟨r, h, rfl, rfl, rfl, hp⟩; cases h; exact K r V' hp) (by rintro E T' V' X' sz' ⟨r, h, -⟩; cases h)
theorem j_cSl {M2 : jM} {R2 : Room} {idx na : Nat} {as : List Value} {P : Int64 → jV → Prop} (d : decode M.2.1 pc = .ok (.invokestatic idx, 3)) (hB : jB l s0 D) (hm : jmS M2 na) (hlk : Cond.methodLink M.1.cls idx M2.1 ∈ lw_tbl) (sp : Sp l s0 D M2 R2 0 0 as T V X sz (qL T X sz P)) (hn : as.length = na) (hst : st = as.reverse ++ rest) (hrm : jrm R R2 0 0 M2.2.2.1) (hcat : (rest.map fun v => v.category).sum ≤ 8) (hf : c ≤ R.cells ∧ n ≤ R.slots) (K : ∀ (r : Int64) V', P r V' → J l s0 D M R mc ms Q (pc + 3) L (.long r :: rest) T V' X sz c n) : J l s0 D M R mc ms Q pc L st T V X sz c n := j_callS d hB hm hlk sp hn hst hrm hcat hf (by rintro v T' V' X' sz' ⟨r, h, rfl, rfl, rfl, hp⟩; cases h; exact K r V' hp) (by rintro E T' V' X' sz' ⟨r, h, -⟩; cases h)
theorem j_cVf {M2 : jM} {R2 : Room} {idx ci b na : Nat} {as : List Value} {fs : List (Nat ⊕ Option Nat)} {r : vw_C} {P : UInt32 → jV → Prop} (d : decode M.2.1 pc = .ok (.invokevirtual idx, 3)) (hB : jB l s0 D) (hm : jmV M2 na) (hlk : Cond.methodLink M.1.cls idx M2.1 ∈ lw_tbl) (sp : Sp l s0 D M2 R2 0 0 (.ref b :: as) T V X sz (qF T X sz P)) (ht : T b = some (.inl (ci, fs))) (hc : vwCl[ci]? = some r) (hr : r.1 = M2.1.cls) (hn : as.length = na) (hst : st = as.reverse ++ .ref b :: rest) (hrm : jrm R R2 0 0 M2.2.2.1) (hcat : (rest.map fun v => v.category).sum ≤ 8) (hf : c ≤ R.cells ∧ n ≤ R.slots) (K : ∀ (r : UInt32) V', P r V' → J l s0 D M R mc ms Q (pc + 3) L (.float r :: rest) T V' X sz c n) : J l s0 D M R mc ms Q pc L st T V X sz c n := j_callV d hB hm hlk sp ht hc hr hn hst hrm hcat hf (by rintro v T' V' X' sz' ⟨r, h, rfl, rfl, rfl, hp⟩; cases h; exact K r V' hp) (by rintro E T' V' X' sz' ⟨r, h, -⟩; cases h)
theorem j_cSf {M2 : jM} {R2 : Room} {idx na : Nat} {as : List Value} {P : UInt32 → jV → Prop} (d : decode M.2.1 pc = .ok (.invokestatic idx, 3)) (hB : jB l s0 D) (hm : jmS M2 na) (hlk : Cond.methodLink M.1.cls idx M2.1 ∈ lw_tbl) (sp : Sp l s0 D M2 R2 0 0 as T V X sz (qF T X sz P)) (hn : as.length = na) (hst : st = as.reverse ++ rest) (hrm : jrm R R2 0 0 M2.2.2.1) (hcat : (rest.map fun v => v.category).sum ≤ 8) (hf : c ≤ R.cells ∧ n ≤ R.slots) (K : ∀ (r : UInt32) V', P r V' → J l s0 D M R mc ms Q (pc + 3) L (.float r :: rest) T V' X sz c n) : J l s0 D M R mc ms Q pc L st T V X sz c n := j_callS d hB hm hlk sp hn hst hrm hcat hf (by rintro v T' V' X' sz' ⟨r, h, rfl, rfl, rfl, hp⟩; cases h; exact K r V' hp) (by rintro E T' V' X' sz' ⟨r, h, -⟩; cases h)
theorem j_cVd {M2 : jM} {R2 : Room} {idx ci b na : Nat} {as : List Value} {fs : List (Nat ⊕ Option Nat)} {r : vw_C} {P : UInt64 → jV → Prop} (d : decode M.2.1 pc = .ok (.invokevirtual idx, 3)) (hB : jB l s0 D) (hm : jmV M2 na) (hlk : Cond.methodLink M.1.cls idx M2.1 ∈ lw_tbl) (sp : Sp l s0 D M2 R2 0 0 (.ref b :: as) T V X sz (qD T X sz P)) (ht : T b = some (.inl (ci, fs))) (hc : vwCl[ci]? = some r) (hr : r.1 = M2.1.cls) (hn : as.length = na) (hst : st = as.reverse ++ .ref b :: rest) (hrm : jrm R R2 0 0 M2.2.2.1) (hcat : (rest.map fun v => v.category).sum ≤ 8) (hf : c ≤ R.cells ∧ n ≤ R.slots) (K : ∀ (r : UInt64) V', P r V' → J l s0 D M R mc ms Q (pc + 3) L (.double r :: rest) T V' X sz c n) : J l s0 D M R mc ms Q pc L st T V X sz c n := j_callV d hB hm hlk sp ht hc hr hn hst hrm hcat hf (by rintro v T' V' X' sz' ⟨r, h, rfl, rfl, rfl, hp⟩; cases h; exact K r V' hp) (by rintro E T' V' X' sz' ⟨r, h, -⟩; cases h)
theorem j_cSd {M2 : jM} {R2 : Room} {idx na : Nat} {as : List Value} {P : UInt64 → jV → Prop} (d : decode M.2.1 pc = .ok (.invokestatic idx, 3)) (hB : jB l s0 D) (hm : jmS M2 na) (hlk : Cond.methodLink M.1.cls idx M2.1 ∈ lw_tbl) (sp : Sp l s0 D M2 R2 0 0 as T V X sz (qD T X sz P)) (hn : as.length = na) (hst : st = as.reverse ++ rest) (hrm : jrm R R2 0 0 M2.2.2.1) (hcat : (rest.map fun v => v.category).sum ≤ 8) (hf : c ≤ R.cells ∧ n ≤ R.slots) (K : ∀ (r : UInt64) V', P r V' → J l s0 D M R mc ms Q (pc + 3) L (.double r :: rest) T V' X sz c n) : J l s0 D M R mc ms Q pc L st T V X sz c n := j_callS d hB hm hlk sp hn hst hrm hcat hf (by rintro v T' V' X' sz' ⟨r, h, rfl, rfl, rfl, hp⟩; cases h; exact K r V' hp) (by rintro E T' V' X' sz' ⟨r, h, -⟩; cases h)
theorem j_cVa {M2 : jM} {R2 : Room} {idx ci b na : Nat} {as : List Value} {fs : List (Nat ⊕ Option Nat)} {r : vw_C} {P : Option Nat → jV → Prop} (d : decode M.2.1 pc = .ok (.invokevirtual idx, 3)) (hB : jB l s0 D) (hm : jmV M2 na) (hlk : Cond.methodLink M.1.cls idx M2.1 ∈ lw_tbl) (sp : Sp l s0 D M2 R2 0 0 (.ref b :: as) T V X sz (qA T X sz P)) (ht : T b = some (.inl (ci, fs))) (hc : vwCl[ci]? = some r) (hr : r.1 = M2.1.cls) (hn : as.length = na) (hst : st = as.reverse ++ .ref b :: rest) (hrm : jrm R R2 0 0 M2.2.2.1) (hcat : (rest.map fun v => v.category).sum ≤ 8) (hf : c ≤ R.cells ∧ n ≤ R.slots) (K : ∀ (r : Option Nat) V', P r V' → J l s0 D M R mc ms Q (pc + 3) L (va_rf r :: rest) T V' X sz c n) : J l s0 D M R mc ms Q pc L st T V X sz c n := j_callV d hB hm hlk sp ht hc hr hn hst hrm hcat hf (by rintro v T' V' X' sz' ⟨r, h, rfl, rfl, rfl, hp⟩; cases h; exact K r V' hp) (by rintro E T' V' X' sz' ⟨r, h, -⟩; cases h)
theorem j_cSa {M2 : jM} {R2 : Room} {idx na : Nat} {as : List Value} {P : Option Nat → jV → Prop} (d : decode M.2.1 pc = .ok (.invokestatic idx, 3)) (hB : jB l s0 D) (hm : jmS M2 na) (hlk : Cond.methodLink M.1.cls idx M2.1 ∈ lw_tbl) (sp : Sp l s0 D M2 R2 0 0 as T V X sz (qA T X sz P)) (hn : as.length = na) (hst : st = as.reverse ++ rest) (hrm : jrm R R2 0 0 M2.2.2.1) (hcat : (rest.map fun v => v.category).sum ≤ 8) (hf : c ≤ R.cells ∧ n ≤ R.slots) (K : ∀ (r : Option Nat) V', P r V' → J l s0 D M R mc ms Q (pc + 3) L (va_rf r :: rest) T V' X sz c n) : J l s0 D M R mc ms Q pc L st T V X sz c n := j_callS d hB hm hlk sp hn hst hrm hcat hf (by rintro v T' V' X' sz' ⟨r, h, rfl, rfl, rfl, hp⟩; cases h; exact K r V' hp) (by rintro E T' V' X' sz' ⟨r, h, -⟩; cases h)
theorem j_cVu {M2 : jM} {R2 : Room} {idx ci b na : Nat} {as : List Value} {fs : List (Nat ⊕ Option Nat)} {r : vw_C} {P : jV → Prop} (d : decode M.2.1 pc = .ok (.invokevirtual idx, 3)) (hB : jB l s0 D) (hm : jmV M2 na) (hlk : Cond.methodLink M.1.cls idx M2.1 ∈ lw_tbl) (sp : Sp l s0 D M2 R2 0 0 (.ref b :: as) T V X sz (qU T X sz P)) (ht : T b = some (.inl (ci, fs))) (hc : vwCl[ci]? = some r) (hr : r.1 = M2.1.cls) (hn : as.length = na) (hst : st = as.reverse ++ .ref b :: rest) (hrm : jrm R R2 0 0 M2.2.2.1) (hcat : (rest.map fun v => v.category).sum ≤ 8) (hf : c ≤ R.cells ∧ n ≤ R.slots) (K : ∀ V', P V' → J l s0 D M R mc ms Q (pc + 3) L rest T V' X sz c n) : J l s0 D M R mc ms Q pc L st T V X sz c n := j_callV d hB hm hlk sp ht hc hr hn hst hrm hcat hf (by rintro v T' V' X' sz' ⟨h, rfl, rfl, rfl, hp⟩; cases h; exact K V' hp) (by rintro E T' V' X' sz' ⟨h, -⟩; cases h)
theorem j_cSu {M2 : jM} {R2 : Room} {idx na : Nat} {as : List Value} {P : jV → Prop} (d : decode M.2.1 pc = .ok (.invokestatic idx, 3)) (hB : jB l s0 D) (hm : jmS M2 na) (hlk : Cond.methodLink M.1.cls idx M2.1 ∈ lw_tbl) (sp : Sp l s0 D M2 R2 0 0 as T V X sz (qU T X sz P)) (hn : as.length = na) (hst : st = as.reverse ++ rest) (hrm : jrm R R2 0 0 M2.2.2.1) (hcat : (rest.map fun v => v.category).sum ≤ 8) (hf : c ≤ R.cells ∧ n ≤ R.slots) (K : ∀ V', P V' → J l s0 D M R mc ms Q (pc + 3) L rest T V' X sz c n) : J l s0 D M R mc ms Q pc L st T V X sz c n := j_callS d hB hm hlk sp hn hst hrm hcat hf (by rintro v T' V' X' sz' ⟨h, rfl, rfl, rfl, hp⟩; cases h; exact K V' hp) (by rintro E T' V' X' sz' ⟨h, -⟩; cases h)
theorem j_topi {x : Int32} (k : ∀ y : Int32, y = x → J l s0 D M R mc ms Q pc L (.int y :: rest) T V X sz c n) : J l s0 D M R mc ms Q pc L (.int x :: rest) T V X sz c n := k x rfl
theorem ti_max {x y : Int32} : (if x < y then y else x).toInt = max x.toInt y.toInt := by
  split
  · rename_i h; have := ti_lt h; omega
  · rename_i h; have := ti_nlt h; omega
theorem ti_min {x y : Int32} : (if y < x then y else x).toInt = min x.toInt y.toInt := by
  split
  · rename_i h; have := ti_lt h; omega
  · rename_i h; have := ti_nlt h; omega
end JN
end
section
/-! SWITCHES with their targets, one premise a case -/
section JSw
variable {l : Launch} {s0 : State} {D : jD} {M : jM} {R : Room} {mc ms : Nat} {Q : jQ} {pc : Nat} {L : List (Nat × Value)} {st rest : List Value} {T : jT} {V : jV} {X : jX} {sz c n : Nat}
theorem j_tsw_3 {od lo hi o0 o1 o2 : Int} {td t0 t1 t2 : Nat} {len : Nat} {x : Int32} (d : decode M.2.1 pc = .ok (.tableswitch od lo hi #[o0, o1, o2], len)) (hh : hi = lo + 2) (he : (pc : Int) + od = (td : Int) ∧ (pc : Int) + o0 = (t0 : Int) ∧ (pc : Int) + o1 = (t1 : Int) ∧ (pc : Int) + o2 = (t2 : Int)) (k0 : x.toInt = lo + 0 → J l s0 D M R mc ms Q t0 L rest T V X sz c n) (k1 : x.toInt = lo + 1 → J l s0 D M R mc ms Q t1 L rest T V X sz c n) (k2 : x.toInt = lo + 2 → J l s0 D M R mc ms Q t2 L rest T V X sz c n) (kd : x.toInt < lo ∨ hi < x.toInt → J l s0 D M R mc ms Q td L rest T V X sz c n) : J l s0 D M R mc ms Q pc L (.int x :: rest) T V X sz c n := by
  obtain ⟨ed, e0, e1, e2⟩ := he
  by_cases hd : x.toInt < lo ∨ hi < x.toInt
  · exact j_tswO d hd ed (kd hd)
  by_cases h0 : x.toInt = lo + 0
  · exact j_tsw (i := 0) d h0 (by omega) rfl e0 (k0 h0)
  by_cases h1 : x.toInt = lo + 1
  · exact j_tsw (i := 1) d h1 (by omega) rfl e1 (k1 h1)
  by_cases h2 : x.toInt = lo + 2
  · exact j_tsw (i := 2) d h2 (by omega) rfl e2 (k2 h2)
  exact absurd hd (by omega)
theorem j_tsw_4 {od lo hi o0 o1 o2 o3 : Int} {td t0 t1 t2 t3 : Nat} {len : Nat} {x : Int32} (d : decode M.2.1 pc = .ok (.tableswitch od lo hi #[o0, o1, o2, o3], len)) (hh : hi = lo + 3) (he : (pc : Int) + od = (td : Int) ∧ (pc : Int) + o0 = (t0 : Int) ∧ (pc : Int) + o1 = (t1 : Int) ∧ (pc : Int) + o2 = (t2 : Int) ∧ (pc : Int) + o3 = (t3 : Int)) (k0 : x.toInt = lo + 0 → J l s0 D M R mc ms Q t0 L rest T V X sz c n) (k1 : x.toInt = lo + 1 → J l s0 D M R mc ms Q t1 L rest T V X sz c n) (k2 : x.toInt = lo + 2 → J l s0 D M R mc ms Q t2 L rest T V X sz c n) (k3 : x.toInt = lo + 3 → J l s0 D M R mc ms Q t3 L rest T V X sz c n) (kd : x.toInt < lo ∨ hi < x.toInt → J l s0 D M R mc ms Q td L rest T V X sz c n) : J l s0 D M R mc ms Q pc L (.int x :: rest) T V X sz c n := by
  obtain ⟨ed, e0, e1, e2, e3⟩ := he
  by_cases hd : x.toInt < lo ∨ hi < x.toInt
  · exact j_tswO d hd ed (kd hd)
  by_cases h0 : x.toInt = lo + 0
  · exact j_tsw (i := 0) d h0 (by omega) rfl e0 (k0 h0)
  by_cases h1 : x.toInt = lo + 1
  · exact j_tsw (i := 1) d h1 (by omega) rfl e1 (k1 h1)
  by_cases h2 : x.toInt = lo + 2
  · exact j_tsw (i := 2) d h2 (by omega) rfl e2 (k2 h2)
  by_cases h3 : x.toInt = lo + 3
  · exact j_tsw (i := 3) d h3 (by omega) rfl e3 (k3 h3)
  exact absurd hd (by omega)
theorem j_tsw_5 {od lo hi o0 o1 o2 o3 o4 : Int} {td t0 t1 t2 t3 t4 : Nat} {len : Nat} {x : Int32} (d : decode M.2.1 pc = .ok (.tableswitch od lo hi #[o0, o1, o2, o3, o4], len)) (hh : hi = lo + 4) (he : (pc : Int) + od = (td : Int) ∧ (pc : Int) + o0 = (t0 : Int) ∧ (pc : Int) + o1 = (t1 : Int) ∧ (pc : Int) + o2 = (t2 : Int) ∧ (pc : Int) + o3 = (t3 : Int) ∧ (pc : Int) + o4 = (t4 : Int)) (k0 : x.toInt = lo + 0 → J l s0 D M R mc ms Q t0 L rest T V X sz c n) (k1 : x.toInt = lo + 1 → J l s0 D M R mc ms Q t1 L rest T V X sz c n) (k2 : x.toInt = lo + 2 → J l s0 D M R mc ms Q t2 L rest T V X sz c n) (k3 : x.toInt = lo + 3 → J l s0 D M R mc ms Q t3 L rest T V X sz c n) (k4 : x.toInt = lo + 4 → J l s0 D M R mc ms Q t4 L rest T V X sz c n) (kd : x.toInt < lo ∨ hi < x.toInt → J l s0 D M R mc ms Q td L rest T V X sz c n) : J l s0 D M R mc ms Q pc L (.int x :: rest) T V X sz c n := by
  obtain ⟨ed, e0, e1, e2, e3, e4⟩ := he
  by_cases hd : x.toInt < lo ∨ hi < x.toInt
  · exact j_tswO d hd ed (kd hd)
  by_cases h0 : x.toInt = lo + 0
  · exact j_tsw (i := 0) d h0 (by omega) rfl e0 (k0 h0)
  by_cases h1 : x.toInt = lo + 1
  · exact j_tsw (i := 1) d h1 (by omega) rfl e1 (k1 h1)
  by_cases h2 : x.toInt = lo + 2
  · exact j_tsw (i := 2) d h2 (by omega) rfl e2 (k2 h2)
  by_cases h3 : x.toInt = lo + 3
  · exact j_tsw (i := 3) d h3 (by omega) rfl e3 (k3 h3)
  by_cases h4 : x.toInt = lo + 4
  · exact j_tsw (i := 4) d h4 (by omega) rfl e4 (k4 h4)
  exact absurd hd (by omega)
theorem j_tsw_6 {od lo hi o0 o1 o2 o3 o4 o5 : Int} {td t0 t1 t2 t3 t4 t5 : Nat} {len : Nat} {x : Int32} (d : decode M.2.1 pc = .ok (.tableswitch od lo hi #[o0, o1, o2, o3, o4, o5], len)) (hh : hi = lo + 5) (he : (pc : Int) + od = (td : Int) ∧ (pc : Int) + o0 = (t0 : Int) ∧ (pc : Int) + o1 = (t1 : Int) ∧ (pc : Int) + o2 = (t2 : Int) ∧ (pc : Int) + o3 = (t3 : Int) ∧ (pc : Int) + o4 = (t4 : Int) ∧ (pc : Int) + o5 = (t5 : Int)) (k0 : x.toInt = lo + 0 → J l s0 D M R mc ms Q t0 L rest T V X sz c n) (k1 : x.toInt = lo + 1 → J l s0 D M R mc ms Q t1 L rest T V X sz c n) (k2 : x.toInt = lo + 2 → J l s0 D M R mc ms Q t2 L rest T V X sz c n) (k3 : x.toInt = lo + 3 → J l s0 D M R mc ms Q t3 L rest T V X sz c n) (k4 : x.toInt = lo + 4 → J l s0 D M R mc ms Q t4 L rest T V X sz c n) (k5 : x.toInt = lo + 5 → J l s0 D M R mc ms Q t5 L rest T V X sz c n) (kd : x.toInt < lo ∨ hi < x.toInt → J l s0 D M R mc ms Q td L rest T V X sz c n) : J l s0 D M R mc ms Q pc L (.int x :: rest) T V X sz c n := by
  obtain ⟨ed, e0, e1, e2, e3, e4, e5⟩ := he
  by_cases hd : x.toInt < lo ∨ hi < x.toInt
  · exact j_tswO d hd ed (kd hd)
  by_cases h0 : x.toInt = lo + 0
  · exact j_tsw (i := 0) d h0 (by omega) rfl e0 (k0 h0)
  by_cases h1 : x.toInt = lo + 1
  · exact j_tsw (i := 1) d h1 (by omega) rfl e1 (k1 h1)
  by_cases h2 : x.toInt = lo + 2
  · exact j_tsw (i := 2) d h2 (by omega) rfl e2 (k2 h2)
  by_cases h3 : x.toInt = lo + 3
  · exact j_tsw (i := 3) d h3 (by omega) rfl e3 (k3 h3)
  by_cases h4 : x.toInt = lo + 4
  · exact j_tsw (i := 4) d h4 (by omega) rfl e4 (k4 h4)
  by_cases h5 : x.toInt = lo + 5
  · exact j_tsw (i := 5) d h5 (by omega) rfl e5 (k5 h5)
  exact absurd hd (by omega)
theorem j_tsw_7 {od lo hi o0 o1 o2 o3 o4 o5 o6 : Int} {td t0 t1 t2 t3 t4 t5 t6 : Nat} {len : Nat} {x : Int32} (d : decode M.2.1 pc = .ok (.tableswitch od lo hi #[o0, o1, o2, o3, o4, o5, o6], len)) (hh : hi = lo + 6) (he : (pc : Int) + od = (td : Int) ∧ (pc : Int) + o0 = (t0 : Int) ∧ (pc : Int) + o1 = (t1 : Int) ∧ (pc : Int) + o2 = (t2 : Int) ∧ (pc : Int) + o3 = (t3 : Int) ∧ (pc : Int) + o4 = (t4 : Int) ∧ (pc : Int) + o5 = (t5 : Int) ∧ (pc : Int) + o6 = (t6 : Int)) (k0 : x.toInt = lo + 0 → J l s0 D M R mc ms Q t0 L rest T V X sz c n) (k1 : x.toInt = lo + 1 → J l s0 D M R mc ms Q t1 L rest T V X sz c n) (k2 : x.toInt = lo + 2 → J l s0 D M R mc ms Q t2 L rest T V X sz c n) (k3 : x.toInt = lo + 3 → J l s0 D M R mc ms Q t3 L rest T V X sz c n) (k4 : x.toInt = lo + 4 → J l s0 D M R mc ms Q t4 L rest T V X sz c n) (k5 : x.toInt = lo + 5 → J l s0 D M R mc ms Q t5 L rest T V X sz c n) (k6 : x.toInt = lo + 6 → J l s0 D M R mc ms Q t6 L rest T V X sz c n) (kd : x.toInt < lo ∨ hi < x.toInt → J l s0 D M R mc ms Q td L rest T V X sz c n) : J l s0 D M R mc ms Q pc L (.int x :: rest) T V X sz c n := by
  obtain ⟨ed, e0, e1, e2, e3, e4, e5, e6⟩ := he
  by_cases hd : x.toInt < lo ∨ hi < x.toInt
  · exact j_tswO d hd ed (kd hd)
  by_cases h0 : x.toInt = lo + 0
  · exact j_tsw (i := 0) d h0 (by omega) rfl e0 (k0 h0)
  by_cases h1 : x.toInt = lo + 1
  · exact j_tsw (i := 1) d h1 (by omega) rfl e1 (k1 h1)
  by_cases h2 : x.toInt = lo + 2
  · exact j_tsw (i := 2) d h2 (by omega) rfl e2 (k2 h2)
  by_cases h3 : x.toInt = lo + 3
  · exact j_tsw (i := 3) d h3 (by omega) rfl e3 (k3 h3)
  by_cases h4 : x.toInt = lo + 4
  · exact j_tsw (i := 4) d h4 (by omega) rfl e4 (k4 h4)
  by_cases h5 : x.toInt = lo + 5
  · exact j_tsw (i := 5) d h5 (by omega) rfl e5 (k5 h5)
  by_cases h6 : x.toInt = lo + 6
  · exact j_tsw (i := 6) d h6 (by omega) rfl e6 (k6 h6)
  exact absurd hd (by omega)
theorem j_tsw_10 {od lo hi o0 o1 o2 o3 o4 o5 o6 o7 o8 o9 : Int} {td t0 t1 t2 t3 t4 t5 t6 t7 t8 t9 : Nat} {len : Nat} {x : Int32} (d : decode M.2.1 pc = .ok (.tableswitch od lo hi #[o0, o1, o2, o3, o4, o5, o6, o7, o8, o9], len)) (hh : hi = lo + 9) (he : (pc : Int) + od = (td : Int) ∧ (pc : Int) + o0 = (t0 : Int) ∧ (pc : Int) + o1 = (t1 : Int) ∧ (pc : Int) + o2 = (t2 : Int) ∧ (pc : Int) + o3 = (t3 : Int) ∧ (pc : Int) + o4 = (t4 : Int) ∧ (pc : Int) + o5 = (t5 : Int) ∧ (pc : Int) + o6 = (t6 : Int) ∧ (pc : Int) + o7 = (t7 : Int) ∧ (pc : Int) + o8 = (t8 : Int) ∧ (pc : Int) + o9 = (t9 : Int)) (k0 : x.toInt = lo + 0 → J l s0 D M R mc ms Q t0 L rest T V X sz c n) (k1 : x.toInt = lo + 1 → J l s0 D M R mc ms Q t1 L rest T V X sz c n) (k2 : x.toInt = lo + 2 → J l s0 D M R mc ms Q t2 L rest T V X sz c n) (k3 : x.toInt = lo + 3 → J l s0 D M R mc ms Q t3 L rest T V X sz c n) (k4 : x.toInt = lo + 4 → J l s0 D M R mc ms Q t4 L rest T V X sz c n) (k5 : x.toInt = lo + 5 → J l s0 D M R mc ms Q t5 L rest T V X sz c n) (k6 : x.toInt = lo + 6 → J l s0 D M R mc ms Q t6 L rest T V X sz c n) (k7 : x.toInt = lo + 7 → J l s0 D M R mc ms Q t7 L rest T V X sz c n) (k8 : x.toInt = lo + 8 → J l s0 D M R mc ms Q t8 L rest T V X sz c n) (k9 : x.toInt = lo + 9 → J l s0 D M R mc ms Q t9 L rest T V X sz c n) (kd : x.toInt < lo ∨ hi < x.toInt → J l s0 D M R mc ms Q td L rest T V X sz c n) : J l s0 D M R mc ms Q pc L (.int x :: rest) T V X sz c n := by
  obtain ⟨ed, e0, e1, e2, e3, e4, e5, e6, e7, e8, e9⟩ := he
  by_cases hd : x.toInt < lo ∨ hi < x.toInt
  · exact j_tswO d hd ed (kd hd)
  by_cases h0 : x.toInt = lo + 0
  · exact j_tsw (i := 0) d h0 (by omega) rfl e0 (k0 h0)
  by_cases h1 : x.toInt = lo + 1
  · exact j_tsw (i := 1) d h1 (by omega) rfl e1 (k1 h1)
  by_cases h2 : x.toInt = lo + 2
  · exact j_tsw (i := 2) d h2 (by omega) rfl e2 (k2 h2)
  by_cases h3 : x.toInt = lo + 3
  · exact j_tsw (i := 3) d h3 (by omega) rfl e3 (k3 h3)
  by_cases h4 : x.toInt = lo + 4
  · exact j_tsw (i := 4) d h4 (by omega) rfl e4 (k4 h4)
  by_cases h5 : x.toInt = lo + 5
  · exact j_tsw (i := 5) d h5 (by omega) rfl e5 (k5 h5)
  by_cases h6 : x.toInt = lo + 6
  · exact j_tsw (i := 6) d h6 (by omega) rfl e6 (k6 h6)
  by_cases h7 : x.toInt = lo + 7
  · exact j_tsw (i := 7) d h7 (by omega) rfl e7 (k7 h7)
  by_cases h8 : x.toInt = lo + 8
  · exact j_tsw (i := 8) d h8 (by omega) rfl e8 (k8 h8)
  by_cases h9 : x.toInt = lo + 9
  · exact j_tsw (i := 9) d h9 (by omega) rfl e9 (k9 h9)
  exact absurd hd (by omega)
theorem j_tsw_11 {od lo hi o0 o1 o2 o3 o4 o5 o6 o7 o8 o9 o10 : Int} {td t0 t1 t2 t3 t4 t5 t6 t7 t8 t9 t10 : Nat} {len : Nat} {x : Int32} (d : decode M.2.1 pc = .ok (.tableswitch od lo hi #[o0, o1, o2, o3, o4, o5, o6, o7, o8, o9, o10], len)) (hh : hi = lo + 10) (he : (pc : Int) + od = (td : Int) ∧ (pc : Int) + o0 = (t0 : Int) ∧ (pc : Int) + o1 = (t1 : Int) ∧ (pc : Int) + o2 = (t2 : Int) ∧ (pc : Int) + o3 = (t3 : Int) ∧ (pc : Int) + o4 = (t4 : Int) ∧ (pc : Int) + o5 = (t5 : Int) ∧ (pc : Int) + o6 = (t6 : Int) ∧ (pc : Int) + o7 = (t7 : Int) ∧ (pc : Int) + o8 = (t8 : Int) ∧ (pc : Int) + o9 = (t9 : Int) ∧ (pc : Int) + o10 = (t10 : Int)) (k0 : x.toInt = lo + 0 → J l s0 D M R mc ms Q t0 L rest T V X sz c n) (k1 : x.toInt = lo + 1 → J l s0 D M R mc ms Q t1 L rest T V X sz c n) (k2 : x.toInt = lo + 2 → J l s0 D M R mc ms Q t2 L rest T V X sz c n) (k3 : x.toInt = lo + 3 → J l s0 D M R mc ms Q t3 L rest T V X sz c n) (k4 : x.toInt = lo + 4 → J l s0 D M R mc ms Q t4 L rest T V X sz c n) (k5 : x.toInt = lo + 5 → J l s0 D M R mc ms Q t5 L rest T V X sz c n) (k6 : x.toInt = lo + 6 → J l s0 D M R mc ms Q t6 L rest T V X sz c n) (k7 : x.toInt = lo + 7 → J l s0 D M R mc ms Q t7 L rest T V X sz c n) (k8 : x.toInt = lo + 8 → J l s0 D M R mc ms Q t8 L rest T V X sz c n) (k9 : x.toInt = lo + 9 → J l s0 D M R mc ms Q t9 L rest T V X sz c n) (k10 : x.toInt = lo + 10 → J l s0 D M R mc ms Q t10 L rest T V X sz c n) (kd : x.toInt < lo ∨ hi < x.toInt → J l s0 D M R mc ms Q td L rest T V X sz c n) : J l s0 D M R mc ms Q pc L (.int x :: rest) T V X sz c n := by
  obtain ⟨ed, e0, e1, e2, e3, e4, e5, e6, e7, e8, e9, e10⟩ := he
  by_cases hd : x.toInt < lo ∨ hi < x.toInt
  · exact j_tswO d hd ed (kd hd)
  by_cases h0 : x.toInt = lo + 0
  · exact j_tsw (i := 0) d h0 (by omega) rfl e0 (k0 h0)
  by_cases h1 : x.toInt = lo + 1
  · exact j_tsw (i := 1) d h1 (by omega) rfl e1 (k1 h1)
  by_cases h2 : x.toInt = lo + 2
  · exact j_tsw (i := 2) d h2 (by omega) rfl e2 (k2 h2)
  by_cases h3 : x.toInt = lo + 3
  · exact j_tsw (i := 3) d h3 (by omega) rfl e3 (k3 h3)
  by_cases h4 : x.toInt = lo + 4
  · exact j_tsw (i := 4) d h4 (by omega) rfl e4 (k4 h4)
  by_cases h5 : x.toInt = lo + 5
  · exact j_tsw (i := 5) d h5 (by omega) rfl e5 (k5 h5)
  by_cases h6 : x.toInt = lo + 6
  · exact j_tsw (i := 6) d h6 (by omega) rfl e6 (k6 h6)
  by_cases h7 : x.toInt = lo + 7
  · exact j_tsw (i := 7) d h7 (by omega) rfl e7 (k7 h7)
  by_cases h8 : x.toInt = lo + 8
  · exact j_tsw (i := 8) d h8 (by omega) rfl e8 (k8 h8)
  by_cases h9 : x.toInt = lo + 9
  · exact j_tsw (i := 9) d h9 (by omega) rfl e9 (k9 h9)
  by_cases h10 : x.toInt = lo + 10
  · exact j_tsw (i := 10) d h10 (by omega) rfl e10 (k10 h10)
  exact absurd hd (by omega)
theorem j_tsw_25 {od lo hi o0 o1 o2 o3 o4 o5 o6 o7 o8 o9 o10 o11 o12 o13 o14 o15 o16 o17 o18 o19 o20 o21 o22 o23 o24 : Int} {td t0 t1 t2 t3 t4 t5 t6 t7 t8 t9 t10 t11 t12 t13 t14 t15 t16 t17 t18 t19 t20 t21 t22 t23 t24 : Nat} {len : Nat} {x : Int32} (d : decode M.2.1 pc = .ok (.tableswitch od lo hi #[o0, o1, o2, o3, o4, o5, o6, o7, o8, o9, o10, o11, o12, o13, o14, o15, o16, o17, o18, o19, o20, o21, o22, o23, o24], len)) (hh : hi = lo + 24) (he : (pc : Int) + od = (td : Int) ∧ (pc : Int) + o0 = (t0 : Int) ∧ (pc : Int) + o1 = (t1 : Int) ∧ (pc : Int) + o2 = (t2 : Int) ∧ (pc : Int) + o3 = (t3 : Int) ∧ (pc : Int) + o4 = (t4 : Int) ∧ (pc : Int) + o5 = (t5 : Int) ∧ (pc : Int) + o6 = (t6 : Int) ∧ (pc : Int) + o7 = (t7 : Int) ∧ (pc : Int) + o8 = (t8 : Int) ∧ (pc : Int) + o9 = (t9 : Int) ∧ (pc : Int) + o10 = (t10 : Int) ∧ (pc : Int) + o11 = (t11 : Int) ∧ (pc : Int) + o12 = (t12 : Int) ∧ (pc : Int) + o13 = (t13 : Int) ∧ (pc : Int) + o14 = (t14 : Int) ∧ (pc : Int) + o15 = (t15 : Int) ∧ (pc : Int) + o16 = (t16 : Int) ∧ (pc : Int) + o17 = (t17 : Int) ∧ (pc : Int) + o18 = (t18 : Int) ∧ (pc : Int) + o19 = (t19 : Int) ∧ (pc : Int) + o20 = (t20 : Int) ∧ (pc : Int) + o21 = (t21 : Int) ∧ (pc : Int) + o22 = (t22 : Int) ∧ (pc : Int) + o23 = (t23 : Int) ∧ (pc : Int) + o24 = (t24 : Int)) (k0 : x.toInt = lo + 0 → J l s0 D M R mc ms Q t0 L rest T V X sz c n) (k1 : x.toInt = lo + 1 → J l s0 D M R mc ms Q t1 L rest T V X sz c n) (k2 : x.toInt = lo + 2 → J l s0 D M R mc ms Q t2 L rest T V X sz c n) (k3 : x.toInt = lo + 3 → J l s0 D M R mc ms Q t3 L rest T V X sz c n) (k4 : x.toInt = lo + 4 → J l s0 D M R mc ms Q t4 L rest T V X sz c n) (k5 : x.toInt = lo + 5 → J l s0 D M R mc ms Q t5 L rest T V X sz c n) (k6 : x.toInt = lo + 6 → J l s0 D M R mc ms Q t6 L rest T V X sz c n) (k7 : x.toInt = lo + 7 → J l s0 D M R mc ms Q t7 L rest T V X sz c n) (k8 : x.toInt = lo + 8 → J l s0 D M R mc ms Q t8 L rest T V X sz c n) (k9 : x.toInt = lo + 9 → J l s0 D M R mc ms Q t9 L rest T V X sz c n) (k10 : x.toInt = lo + 10 → J l s0 D M R mc ms Q t10 L rest T V X sz c n) (k11 : x.toInt = lo + 11 → J l s0 D M R mc ms Q t11 L rest T V X sz c n) (k12 : x.toInt = lo + 12 → J l s0 D M R mc ms Q t12 L rest T V X sz c n) (k13 : x.toInt = lo + 13 → J l s0 D M R mc ms Q t13 L rest T V X sz c n) (k14 : x.toInt = lo + 14 → J l s0 D M R mc ms Q t14 L rest T V X sz c n) (k15 : x.toInt = lo + 15 → J l s0 D M R mc ms Q t15 L rest T V X sz c n) (k16 : x.toInt = lo + 16 → J l s0 D M R mc ms Q t16 L rest T V X sz c n) (k17 : x.toInt = lo + 17 → J l s0 D M R mc ms Q t17 L rest T V X sz c n) (k18 : x.toInt = lo + 18 → J l s0 D M R mc ms Q t18 L rest T V X sz c n) (k19 : x.toInt = lo + 19 → J l s0 D M R mc ms Q t19 L rest T V X sz c n) (k20 : x.toInt = lo + 20 → J l s0 D M R mc ms Q t20 L rest T V X sz c n) (k21 : x.toInt = lo + 21 → J l s0 D M R mc ms Q t21 L rest T V X sz c n) (k22 : x.toInt = lo + 22 → J l s0 D M R mc ms Q t22 L rest T V X sz c n) (k23 : x.toInt = lo + 23 → J l s0 D M R mc ms Q t23 L rest T V X sz c n) (k24 : x.toInt = lo + 24 → J l s0 D M R mc ms Q t24 L rest T V X sz c n) (kd : x.toInt < lo ∨ hi < x.toInt → J l s0 D M R mc ms Q td L rest T V X sz c n) : J l s0 D M R mc ms Q pc L (.int x :: rest) T V X sz c n := by
  obtain ⟨ed, e0, e1, e2, e3, e4, e5, e6, e7, e8, e9, e10, e11, e12, e13, e14, e15, e16, e17, e18, e19, e20, e21, e22, e23, e24⟩ := he
  by_cases hd : x.toInt < lo ∨ hi < x.toInt
  · exact j_tswO d hd ed (kd hd)
  by_cases h0 : x.toInt = lo + 0
  · exact j_tsw (i := 0) d h0 (by omega) rfl e0 (k0 h0)
  by_cases h1 : x.toInt = lo + 1
  · exact j_tsw (i := 1) d h1 (by omega) rfl e1 (k1 h1)
  by_cases h2 : x.toInt = lo + 2
  · exact j_tsw (i := 2) d h2 (by omega) rfl e2 (k2 h2)
  by_cases h3 : x.toInt = lo + 3
  · exact j_tsw (i := 3) d h3 (by omega) rfl e3 (k3 h3)
  by_cases h4 : x.toInt = lo + 4
  · exact j_tsw (i := 4) d h4 (by omega) rfl e4 (k4 h4)
  by_cases h5 : x.toInt = lo + 5
  · exact j_tsw (i := 5) d h5 (by omega) rfl e5 (k5 h5)
  by_cases h6 : x.toInt = lo + 6
  · exact j_tsw (i := 6) d h6 (by omega) rfl e6 (k6 h6)
  by_cases h7 : x.toInt = lo + 7
  · exact j_tsw (i := 7) d h7 (by omega) rfl e7 (k7 h7)
  by_cases h8 : x.toInt = lo + 8
  · exact j_tsw (i := 8) d h8 (by omega) rfl e8 (k8 h8)
  by_cases h9 : x.toInt = lo + 9
  · exact j_tsw (i := 9) d h9 (by omega) rfl e9 (k9 h9)
  by_cases h10 : x.toInt = lo + 10
  · exact j_tsw (i := 10) d h10 (by omega) rfl e10 (k10 h10)
  by_cases h11 : x.toInt = lo + 11
  · exact j_tsw (i := 11) d h11 (by omega) rfl e11 (k11 h11)
  by_cases h12 : x.toInt = lo + 12
  · exact j_tsw (i := 12) d h12 (by omega) rfl e12 (k12 h12)
  by_cases h13 : x.toInt = lo + 13
  · exact j_tsw (i := 13) d h13 (by omega) rfl e13 (k13 h13)
  by_cases h14 : x.toInt = lo + 14
  · exact j_tsw (i := 14) d h14 (by omega) rfl e14 (k14 h14)
  by_cases h15 : x.toInt = lo + 15
  · exact j_tsw (i := 15) d h15 (by omega) rfl e15 (k15 h15)
  by_cases h16 : x.toInt = lo + 16
  · exact j_tsw (i := 16) d h16 (by omega) rfl e16 (k16 h16)
  by_cases h17 : x.toInt = lo + 17
  · exact j_tsw (i := 17) d h17 (by omega) rfl e17 (k17 h17)
  by_cases h18 : x.toInt = lo + 18
  · exact j_tsw (i := 18) d h18 (by omega) rfl e18 (k18 h18)
  by_cases h19 : x.toInt = lo + 19
  · exact j_tsw (i := 19) d h19 (by omega) rfl e19 (k19 h19)
  by_cases h20 : x.toInt = lo + 20
  · exact j_tsw (i := 20) d h20 (by omega) rfl e20 (k20 h20)
  by_cases h21 : x.toInt = lo + 21
  · exact j_tsw (i := 21) d h21 (by omega) rfl e21 (k21 h21)
  by_cases h22 : x.toInt = lo + 22
  · exact j_tsw (i := 22) d h22 (by omega) rfl e22 (k22 h22)
  by_cases h23 : x.toInt = lo + 23
  · exact j_tsw (i := 23) d h23 (by omega) rfl e23 (k23 h23)
  by_cases h24 : x.toInt = lo + 24
  · exact j_tsw (i := 24) d h24 (by omega) rfl e24 (k24 h24)
  exact absurd hd (by omega)
theorem j_lsw_3 {od v0 v1 v2 o0 o1 o2 : Int} {td t0 t1 t2 : Nat} {len : Nat} {x : Int32} (d : decode M.2.1 pc = .ok (.lookupswitch od #[(v0, o0), (v1, o1), (v2, o2)], len)) (hs : v0 < v1 ∧ v1 < v2) (he : (pc : Int) + od = (td : Int) ∧ (pc : Int) + o0 = (t0 : Int) ∧ (pc : Int) + o1 = (t1 : Int) ∧ (pc : Int) + o2 = (t2 : Int)) (k0 : x.toInt = v0 → J l s0 D M R mc ms Q t0 L rest T V X sz c n) (k1 : x.toInt = v1 → J l s0 D M R mc ms Q t1 L rest T V X sz c n) (k2 : x.toInt = v2 → J l s0 D M R mc ms Q t2 L rest T V X sz c n) (kd : x.toInt ≠ v0 → x.toInt ≠ v1 → x.toInt ≠ v2 → J l s0 D M R mc ms Q td L rest T V X sz c n) : J l s0 D M R mc ms Q pc L (.int x :: rest) T V X sz c n := by
  obtain ⟨ed, e0, e1, e2⟩ := he
  have hp : ((#[(v0, o0), (v1, o1), (v2, o2)] : Array (Int × Int)).toList.zip ((#[(v0, o0), (v1, o1), (v2, o2)] : Array (Int × Int)).toList.drop 1)).all (fun (a, next) => a.1 < next.1) = true := by
    simp
    omega
  by_cases h0 : x.toInt = v0
  · exact j_lsw (off := o0) d hp (by rw [h0]; simp [Op.lookupswitch.offset]; try omega) e0 (k0 h0)
  by_cases h1 : x.toInt = v1
  · exact j_lsw (off := o1) d hp (by rw [h1]; simp [Op.lookupswitch.offset]; try omega) e1 (k1 h1)
  by_cases h2 : x.toInt = v2
  · exact j_lsw (off := o2) d hp (by rw [h2]; simp [Op.lookupswitch.offset]; try omega) e2 (k2 h2)
  exact j_lsw (off := od) d hp (by simp [Op.lookupswitch.offset]; try omega) ed (kd h0 h1 h2)
theorem j_lsw_4 {od v0 v1 v2 v3 o0 o1 o2 o3 : Int} {td t0 t1 t2 t3 : Nat} {len : Nat} {x : Int32} (d : decode M.2.1 pc = .ok (.lookupswitch od #[(v0, o0), (v1, o1), (v2, o2), (v3, o3)], len)) (hs : v0 < v1 ∧ v1 < v2 ∧ v2 < v3) (he : (pc : Int) + od = (td : Int) ∧ (pc : Int) + o0 = (t0 : Int) ∧ (pc : Int) + o1 = (t1 : Int) ∧ (pc : Int) + o2 = (t2 : Int) ∧ (pc : Int) + o3 = (t3 : Int)) (k0 : x.toInt = v0 → J l s0 D M R mc ms Q t0 L rest T V X sz c n) (k1 : x.toInt = v1 → J l s0 D M R mc ms Q t1 L rest T V X sz c n) (k2 : x.toInt = v2 → J l s0 D M R mc ms Q t2 L rest T V X sz c n) (k3 : x.toInt = v3 → J l s0 D M R mc ms Q t3 L rest T V X sz c n) (kd : x.toInt ≠ v0 → x.toInt ≠ v1 → x.toInt ≠ v2 → x.toInt ≠ v3 → J l s0 D M R mc ms Q td L rest T V X sz c n) : J l s0 D M R mc ms Q pc L (.int x :: rest) T V X sz c n := by
  obtain ⟨ed, e0, e1, e2, e3⟩ := he
  have hp : ((#[(v0, o0), (v1, o1), (v2, o2), (v3, o3)] : Array (Int × Int)).toList.zip ((#[(v0, o0), (v1, o1), (v2, o2), (v3, o3)] : Array (Int × Int)).toList.drop 1)).all (fun (a, next) => a.1 < next.1) = true := by
    simp
    omega
  by_cases h0 : x.toInt = v0
  · exact j_lsw (off := o0) d hp (by rw [h0]; simp [Op.lookupswitch.offset]; try omega) e0 (k0 h0)
  by_cases h1 : x.toInt = v1
  · exact j_lsw (off := o1) d hp (by rw [h1]; simp [Op.lookupswitch.offset]; try omega) e1 (k1 h1)
  by_cases h2 : x.toInt = v2
  · exact j_lsw (off := o2) d hp (by rw [h2]; simp [Op.lookupswitch.offset]; try omega) e2 (k2 h2)
  by_cases h3 : x.toInt = v3
  · exact j_lsw (off := o3) d hp (by rw [h3]; simp [Op.lookupswitch.offset]; try omega) e3 (k3 h3)
  exact j_lsw (off := od) d hp (by simp [Op.lookupswitch.offset]; try omega) ed (kd h0 h1 h2 h3)
end JSw
end
section
/-! CueSheets$Row: a list of numbers with a fixed room; the object at q, its row of numbers at q + 1 -/
/-- outside [lo, hi) nothing changed -/
def jAg (V V' : jV) (lo hi : Nat) : Prop := ∀ b, b < lo ∨ hi ≤ b → V' b = V b
theorem jAg.rf {V : jV} {lo hi : Nat} : jAg V V lo hi := fun _ _ => rfl
theorem jAg.tr {V V1 V2 : jV} {lo hi : Nat} (h1 : jAg V V1 lo hi) (h2 : jAg V1 V2 lo hi) : jAg V V2 lo hi := fun b hb => (h2 b hb).trans (h1 b hb)
theorem jAg.wide {V V' : jV} {lo hi lo' hi' : Nat} (h : jAg V V' lo hi) (h1 : lo' ≤ lo) (h2 : hi ≤ hi') : jAg V V' lo' hi' := fun b hb => h b (by omega)
theorem jAg.set {V V' : jV} {lo hi q k : Nat} {v : Int32} (h : jAg V V' lo hi) (h1 : lo ≤ q) (h2 : q < hi) : jAg V (jset V' q k v) lo hi := fun b hb => by rw [jset_row (by omega)]; exact h b hb
def atZ (l : List Int32) (z : Int) : Int32 := if 0 ≤ z then l.getD z.toNat 0 else 0
def setZ (l : List Int32) (z : Int) (v : Int32) : List Int32 := if 0 ≤ z then l.set z.toNat v else l
def rwN (V : jV) (q : Nat) : Nat := (V q 1).toInt.toNat
def Rw (V : jV) (q : Nat) : List Int32 := (List.range (rwN V q)).map (fun i => V (q + 1) i)
def RowOK (T : jT) (V : jV) (q cap : Nat) : Prop := T q = some (kRow (q + 1)) ∧ T (q + 1) = some (kI cap) ∧ 0 ≤ (V q 1).toInt ∧ (V q 1).toInt ≤ cap ∧ cap ≤ 1000
theorem Rw_len0 {V : jV} {q : Nat} : (Rw V q).length = rwN V q := by simp [Rw]
theorem Rw_len {V : jV} {q : Nat} : (Rw V q).length = (V q 1).toInt.toNat := Rw_len0
theorem Rw_get {V : jV} {q i : Nat} (h : i < (V q 1).toInt.toNat) : (Rw V q)[i]? = some (V (q + 1) i) := by
  have h : i < rwN V q := h
  simp [Rw, h]
theorem Rw_congr {V V' : jV} {q : Nat} (h : V' q = V q) (h1 : V' (q + 1) = V (q + 1)) : Rw V' q = Rw V q := by simp [Rw, rwN, h, h1]
theorem RowOK.len {T : jT} {V : jV} {q cap : Nat} (h : RowOK T V q cap) : ((Rw V q).length : Int) = (V q 1).toInt := by rw [Rw_len]; exact Int.toNat_of_nonneg h.2.2.1
theorem RowOK.le {T : jT} {V : jV} {q cap : Nat} (h : RowOK T V q cap) : (Rw V q).length ≤ cap := by have := h.len; have := h.2.2.2.1; omega
theorem RowOK.congr {T : jT} {V V' : jV} {q cap : Nat} (h : RowOK T V q cap) (e : V' q = V q) : RowOK T V' q cap := ⟨h.1, h.2.1, by rw [e]; exact h.2.2.1, by rw [e]; exact h.2.2.2.1, h.2.2.2.2⟩
theorem ti_ofNat {n : Nat} (h : n < 2 ^ 31) : (Int32.ofNat n).toInt = n := nI_toInt h
theorem atZ_in {l : List Int32} {z : Int} (h0 : 0 ≤ z) : atZ l z = l.getD z.toNat 0 := if_pos h0
theorem atZ_Rw {T : jT} {V : jV} {q cap : Nat} (h : RowOK T V q cap) {z : Int} (h0 : 0 ≤ z) (h1 : z < (V q 1).toInt) : atZ (Rw V q) z = V (q + 1) z.toNat := by
  rw [atZ_in h0, List.getD_eq_getElem?_getD, Rw_get (by omega)]; rfl
theorem atZ_out {T : jT} {V : jV} {q cap : Nat} (h : RowOK T V q cap) {z : Int} (h1 : (V q 1).toInt ≤ z) : atZ (Rw V q) z = 0 := by
  have := h.2.2.1
  rw [atZ_in (by omega), List.getD_eq_getElem?_getD, List.getElem?_eq_none (by rw [Rw_len]; omega)]; rfl
theorem atZ_neg {l : List Int32} {z : Int} (h : z < 0) : atZ l z = 0 := if_neg (by omega)
theorem cl_toNat (x : Int32) : x.toNatClampNeg = x.toInt.toNat := (Int32.toNat_toInt x).symm
theorem ti_add {a b : Int32} (h1 : -2147483648 ≤ a.toInt + b.toInt) (h2 : a.toInt + b.toInt < 2147483648) : (a + b).toInt = a.toInt + b.toInt := by
  rw [Int32.toInt_add]; exact Int.bmod_eq_of_le (by omega) (by omega)
theorem ti_sub {a b : Int32} (h1 : -2147483648 ≤ a.toInt - b.toInt) (h2 : a.toInt - b.toInt < 2147483648) : (a - b).toInt = a.toInt - b.toInt := by
  rw [Int32.toInt_sub]; exact Int.bmod_eq_of_le (by omega) (by omega)
theorem ti_mul {a b : Int32} (h1 : -2147483648 ≤ a.toInt * b.toInt) (h2 : a.toInt * b.toInt < 2147483648) : (a * b).toInt = a.toInt * b.toInt := by
  rw [Int32.toInt_mul]; exact Int.bmod_eq_of_le (by omega) (by omega)
theorem ti_1 : (1 : Int32).toInt = 1 := by decide
theorem ti_m1 : (-1 : Int32).toInt = -1 := by decide
/-- the row with one number set -/
theorem Rw_set {T : jT} {V : jV} {q cap i : Nat} {v : Int32} (h : RowOK T V q cap) : Rw (jset V (q + 1) i v) q = (Rw V q).set i v := by
  have e0 : rwN (jset V (q + 1) i v) q = rwN V q := by unfold rwN; rw [jset_row (show q ≠ q + 1 by omega)]
  unfold Rw
  rw [e0]
  apply List.ext_getElem?
  intro j
  rw [List.getElem?_set]
  by_cases hj : j < rwN V q
  · by_cases e : i = j
    · subst e; simp [hj, jset]
    · simp [hj, jset, e, Ne.symm e]
  · by_cases e : i = j
    · subst e; simp [hj]
    · simp [hj, e]
/-- the row with one number more -/
theorem Rw_add {T : jT} {V : jV} {q cap : Nat} {v n' : Int32} (h : RowOK T V q cap) (hn : n'.toInt = (V q 1).toInt + 1) : Rw (jset (jset V (q + 1) (V q 1).toInt.toNat v) q 1 n') q = Rw V q ++ [v] := by
  have h0 := h.2.2.1
  have e0 : rwN (jset (jset V (q + 1) (V q 1).toInt.toNat v) q 1 n') q = rwN V q + 1 := by unfold rwN; rw [jset_eq, hn]; omega
  unfold Rw
  rw [e0, List.range_succ, List.map_append]
  congr 1
  · apply List.map_congr_left
    intro j hj
    have : j < (V q 1).toInt.toNat := List.mem_range.mp hj
    rw [jset_ne (Or.inl (by omega)), jset_ne (Or.inr (by omega))]
  · show [jset (jset V (q + 1) (V q 1).toInt.toNat v) q 1 n' (q + 1) (rwN V q)] = [v]
    rw [jset_ne (Or.inl (by omega))]
    exact congrArg (fun x => [x]) jset_eq
/-- .. with the last ones taken off -/
theorem Rw_cut {V : jV} {q : Nat} {n' : Int32} (hn : n'.toInt ≤ (V q 1).toInt) : Rw (jset V q 1 n') q = (Rw V q).take n'.toInt.toNat := by
  have e0 : rwN (jset V q 1 n') q = min n'.toInt.toNat (rwN V q) := by unfold rwN; rw [jset_eq]; omega
  unfold Rw
  rw [e0, ← List.map_take, List.take_range, jset_row (show q + 1 ≠ q by omega)]
section JRow
variable {l : Launch} {s0 : State} {D : jD} {T : jT} {V : jV} {X : jX} {sz : Nat}
set_option maxRecDepth 100000 in
set_option maxHeartbeats 4000000 in
theorem sp_X3_size (hB : jB l s0 D) {q cap : Nat} (h : RowOK T V q cap) : Sp l s0 D kX3_size (jR 0 0 0) 0 0 [.ref q] T V X sz (qI T X sz (fun r V' => V = V' ∧ r.toInt = (Rw V q).length)) := by
  refine Sp.of pn_X3_size rfl (Nat.le_of_ble_eq_true rfl) ?_
  refine j_aload_n dX3_size_0 rfl ?_
  refine j_geti dX3_size_1 hB fl_X3_13 (by first | exact h.1 | exact h.2.1) (by rfl) ?_
  refine j_iret dX3_size_4 rfl (rfl) (by decide) (by decide) ?_
  exact ⟨_, rfl, rfl, rfl, rfl, rfl, h.len.symm⟩
set_option maxRecDepth 100000 in
set_option maxHeartbeats 4000000 in
theorem sp_X3_at (hB : jB l s0 D) {q cap : Nat} {i : Int32} (h : RowOK T V q cap) : Sp l s0 D kX3_at (jR 0 0 0) 0 0 [.ref q, .int i] T V X sz (qI T X sz (fun r V' => V = V' ∧ r = atZ (Rw V q) i.toInt)) := by
  refine Sp.of pn_X3_at rfl (Nat.le_of_ble_eq_true rfl) ?_
  have hcap : (Int32.ofNat cap).toInt = cap := ti_ofNat (by have := h.2.2.2.2; omega)
  have hs0 := h.2.2.1
  have hs1 := h.2.2.2.1
  refine j_iload_n dX3_at_0 rfl ?_
  refine j_if_lt (tgt := 30) dX3_at_1 (by decide) (fun c_1 => ?_) (fun c_1 => ?_)
  · refine j_iconst (v := 0) dX3_at_30 (by decide) ?_
    refine j_iret dX3_at_31 rfl (rfl) (by decide) (by decide) ?_
    refine ⟨_, rfl, rfl, rfl, rfl, rfl, ?_⟩
    first | exact (atZ_neg (by omega)).symm | exact (atZ_out h (by omega)).symm | (rw [cl_toNat]; exact (atZ_Rw h (by omega) (by omega)).symm) | omega
  · refine j_iload_n dX3_at_4 rfl ?_
    refine j_aload_n dX3_at_5 rfl ?_
    refine j_geti dX3_at_6 hB fl_X3_13 (by first | exact h.1 | exact h.2.1) (by rfl) ?_
    refine j_icmp_ge (tgt := 30) dX3_at_9 (by decide) (fun c_9 => ?_) (fun c_9 => ?_)
    · refine j_iconst (v := 0) dX3_at_30 (by decide) ?_
      refine j_iret dX3_at_31 rfl (rfl) (by decide) (by decide) ?_
      refine ⟨_, rfl, rfl, rfl, rfl, rfl, ?_⟩
      first | exact (atZ_neg (by omega)).symm | exact (atZ_out h (by omega)).symm | (rw [cl_toNat]; exact (atZ_Rw h (by omega) (by omega)).symm) | omega
    · refine j_iload_n dX3_at_12 rfl ?_
      refine j_aload_n dX3_at_13 rfl ?_
      refine j_getr dX3_at_14 hB fl_X3_7 (by first | exact h.1 | exact h.2.1) (by rfl) ?_
      refine j_alen dX3_at_17 hB (Or.inl (by first | exact h.1 | exact h.2.1)) ?_
      refine j_icmp_ge (tgt := 30) dX3_at_18 (by decide) (fun c_18 => ?_) (fun c_18 => ?_)
      · refine j_iconst (v := 0) dX3_at_30 (by decide) ?_
        refine j_iret dX3_at_31 rfl (rfl) (by decide) (by decide) ?_
        refine ⟨_, rfl, rfl, rfl, rfl, rfl, ?_⟩
        first | exact (atZ_neg (by omega)).symm | exact (atZ_out h (by omega)).symm | (rw [cl_toNat]; exact (atZ_Rw h (by omega) (by omega)).symm) | omega
      · refine j_aload_n dX3_at_21 rfl ?_
        refine j_getr dX3_at_22 hB fl_X3_7 (by first | exact h.1 | exact h.2.1) (by rfl) ?_
        refine j_iload_n dX3_at_25 rfl ?_
        refine j_iald dX3_at_26 hB (by first | exact h.1 | exact h.2.1) (by omega) (by omega) ?_
        refine j_goto (tgt := 31) dX3_at_27 (by decide) ?_
        refine j_iret dX3_at_31 rfl (rfl) (by decide) (by decide) ?_
        refine ⟨_, rfl, rfl, rfl, rfl, rfl, ?_⟩
        first | exact (atZ_neg (by omega)).symm | exact (atZ_out h (by omega)).symm | (rw [cl_toNat]; exact (atZ_Rw h (by omega) (by omega)).symm) | omega
set_option maxRecDepth 100000 in
set_option maxHeartbeats 4000000 in
theorem sp_X3_put (hB : jB l s0 D) {q cap : Nat} {i v : Int32} (h : RowOK T V q cap) : Sp l s0 D kX3_put (jR 0 0 0) 0 0 [.ref q, .int i, .int v] T V X sz (qU T X sz (fun V' => RowOK T V' q cap ∧ Rw V' q = setZ (Rw V q) i.toInt v ∧ jAg V V' q (q + 2))) := by
  refine Sp.of pn_X3_put rfl (Nat.le_of_ble_eq_true rfl) ?_
  have hcap : (Int32.ofNat cap).toInt = cap := ti_ofNat (by have := h.2.2.2.2; omega)
  have hs0 := h.2.2.1
  have hs1 := h.2.2.2.1
  refine j_iload_n dX3_put_0 rfl ?_
  refine j_if_lt (tgt := 28) dX3_put_1 (by decide) (fun c_1 => ?_) (fun c_1 => ?_)
  · refine j_vret dX3_put_28 rfl (by decide) (by decide) ?_
    refine ⟨rfl, rfl, rfl, rfl, ?_⟩
    first
      | exact ⟨h, by rw [setZ, if_neg (by omega)], jAg.rf⟩
      | exact ⟨h, by rw [setZ, if_pos (by omega), List.set_eq_of_length_le (by rw [Rw_len]; omega)], jAg.rf⟩
      | exact ⟨h.congr (jset_row (by omega)), by rw [Rw_set h, setZ, if_pos (by omega), cl_toNat], jAg.rf.set (by omega) (by omega)⟩
      | omega
  · refine j_iload_n dX3_put_4 rfl ?_
    refine j_aload_n dX3_put_5 rfl ?_
    refine j_geti dX3_put_6 hB fl_X3_13 (by first | exact h.1 | exact h.2.1) (by rfl) ?_
    refine j_icmp_ge (tgt := 28) dX3_put_9 (by decide) (fun c_9 => ?_) (fun c_9 => ?_)
    · refine j_vret dX3_put_28 rfl (by decide) (by decide) ?_
      refine ⟨rfl, rfl, rfl, rfl, ?_⟩
      first
        | exact ⟨h, by rw [setZ, if_neg (by omega)], jAg.rf⟩
        | exact ⟨h, by rw [setZ, if_pos (by omega), List.set_eq_of_length_le (by rw [Rw_len]; omega)], jAg.rf⟩
        | exact ⟨h.congr (jset_row (by omega)), by rw [Rw_set h, setZ, if_pos (by omega), cl_toNat], jAg.rf.set (by omega) (by omega)⟩
        | omega
    · refine j_iload_n dX3_put_12 rfl ?_
      refine j_aload_n dX3_put_13 rfl ?_
      refine j_getr dX3_put_14 hB fl_X3_7 (by first | exact h.1 | exact h.2.1) (by rfl) ?_
      refine j_alen dX3_put_17 hB (Or.inl (by first | exact h.1 | exact h.2.1)) ?_
      refine j_icmp_ge (tgt := 28) dX3_put_18 (by decide) (fun c_18 => ?_) (fun c_18 => ?_)
      · refine j_vret dX3_put_28 rfl (by decide) (by decide) ?_
        refine ⟨rfl, rfl, rfl, rfl, ?_⟩
        first
          | exact ⟨h, by rw [setZ, if_neg (by omega)], jAg.rf⟩
          | exact ⟨h, by rw [setZ, if_pos (by omega), List.set_eq_of_length_le (by rw [Rw_len]; omega)], jAg.rf⟩
          | exact ⟨h.congr (jset_row (by omega)), by rw [Rw_set h, setZ, if_pos (by omega), cl_toNat], jAg.rf.set (by omega) (by omega)⟩
          | omega
      · refine j_aload_n dX3_put_21 rfl ?_
        refine j_getr dX3_put_22 hB fl_X3_7 (by first | exact h.1 | exact h.2.1) (by rfl) ?_
        refine j_iload_n dX3_put_25 rfl ?_
        refine j_iload_n dX3_put_26 rfl ?_
        refine j_iast dX3_put_27 hB (by first | exact h.1 | exact h.2.1) (by omega) (by omega) ?_
        refine j_vret dX3_put_28 rfl (by decide) (by decide) ?_
        refine ⟨rfl, rfl, rfl, rfl, ?_⟩
        first
          | exact ⟨h, by rw [setZ, if_neg (by omega)], jAg.rf⟩
          | exact ⟨h, by rw [setZ, if_pos (by omega), List.set_eq_of_length_le (by rw [Rw_len]; omega)], jAg.rf⟩
          | exact ⟨h.congr (jset_row (by omega)), by rw [Rw_set h, setZ, if_pos (by omega), cl_toNat], jAg.rf.set (by omega) (by omega)⟩
          | omega
set_option maxRecDepth 100000 in
set_option maxHeartbeats 4000000 in
theorem sp_X3_add (hB : jB l s0 D) {q cap : Nat} {v : Int32} (h : RowOK T V q cap) : Sp l s0 D kX3_add (jR 0 0 0) 0 0 [.ref q, .int v] T V X sz (qU T X sz (fun V' => RowOK T V' q cap ∧ Rw V' q = (if (Rw V q).length < cap then Rw V q ++ [v] else Rw V q) ∧ jAg V V' q (q + 2))) := by
  refine Sp.of pn_X3_add rfl (Nat.le_of_ble_eq_true rfl) ?_
  have hcap : (Int32.ofNat cap).toInt = cap := ti_ofNat (by have := h.2.2.2.2; omega)
  have hs0 := h.2.2.1
  have hs1 := h.2.2.2.1
  have hln := h.len
  refine j_aload_n dX3_add_0 rfl ?_
  refine j_geti dX3_add_1 hB fl_X3_13 (by first | exact h.1 | exact h.2.1) (by rfl) ?_
  refine j_if_lt (tgt := 39) dX3_add_4 (by decide) (fun c_4 => ?_) (fun c_4 => ?_)
  · refine j_vret dX3_add_39 rfl (by decide) (by decide) ?_
    refine ⟨rfl, rfl, rfl, rfl, ?_⟩
    by_cases hf : (V q 1).toInt < cap
    · first
      | exact absurd hf (by omega)
      | rw [jset_ne (Or.inl (by omega)), cl_toNat]
        have hc := h.2.2.2.2
        have h1 : (V q 1 + 1).toInt = (V q 1).toInt + 1 := by rw [ti_add (by rw [ti_1]; omega) (by rw [ti_1]; omega), ti_1]
        refine ⟨⟨h.1, h.2.1, by rw [jset_eq]; omega, by rw [jset_eq]; omega, h.2.2.2.2⟩, ?_, (jAg.rf.set (by omega) (by omega)).set (by omega) (by omega)⟩
        rw [if_pos (by omega), Rw_add h h1]
    · first
      | exact absurd hf (by omega)
      | exact ⟨h, by rw [if_neg (by omega)], jAg.rf⟩
      | exact absurd hf (by omega)
  · refine j_aload_n dX3_add_7 rfl ?_
    refine j_geti dX3_add_8 hB fl_X3_13 (by first | exact h.1 | exact h.2.1) (by rfl) ?_
    refine j_aload_n dX3_add_11 rfl ?_
    refine j_getr dX3_add_12 hB fl_X3_7 (by first | exact h.1 | exact h.2.1) (by rfl) ?_
    refine j_alen dX3_add_15 hB (Or.inl (by first | exact h.1 | exact h.2.1)) ?_
    refine j_icmp_ge (tgt := 39) dX3_add_16 (by decide) (fun c_16 => ?_) (fun c_16 => ?_)
    · refine j_vret dX3_add_39 rfl (by decide) (by decide) ?_
      refine ⟨rfl, rfl, rfl, rfl, ?_⟩
      by_cases hf : (V q 1).toInt < cap
      · first
        | exact absurd hf (by omega)
        | rw [jset_ne (Or.inl (by omega)), cl_toNat]
          have hc := h.2.2.2.2
          have h1 : (V q 1 + 1).toInt = (V q 1).toInt + 1 := by rw [ti_add (by rw [ti_1]; omega) (by rw [ti_1]; omega), ti_1]
          refine ⟨⟨h.1, h.2.1, by rw [jset_eq]; omega, by rw [jset_eq]; omega, h.2.2.2.2⟩, ?_, (jAg.rf.set (by omega) (by omega)).set (by omega) (by omega)⟩
          rw [if_pos (by omega), Rw_add h h1]
      · first
        | exact absurd hf (by omega)
        | exact ⟨h, by rw [if_neg (by omega)], jAg.rf⟩
        | exact absurd hf (by omega)
    · refine j_aload_n dX3_add_19 rfl ?_
      refine j_getr dX3_add_20 hB fl_X3_7 (by first | exact h.1 | exact h.2.1) (by rfl) ?_
      refine j_aload_n dX3_add_23 rfl ?_
      refine j_geti dX3_add_24 hB fl_X3_13 (by first | exact h.1 | exact h.2.1) (by rfl) ?_
      refine j_iload_n dX3_add_27 rfl ?_
      refine j_iast dX3_add_28 hB (by first | exact h.1 | exact h.2.1) (by omega) (by omega) ?_
      refine j_aload_n dX3_add_29 rfl ?_
      refine j_dup dX3_add_30 rfl ?_
      refine j_geti dX3_add_31 hB fl_X3_13 (by first | exact h.1 | exact h.2.1) (by rfl) ?_
      refine j_iconst (v := 1) dX3_add_34 (by decide) ?_
      refine j_iadd dX3_add_35 ?_
      refine j_puti dX3_add_36 hB fp_X3_add_13 (by first | exact h.1 | exact h.2.1) (by rfl) ?_
      refine j_vret dX3_add_39 rfl (by decide) (by decide) ?_
      refine ⟨rfl, rfl, rfl, rfl, ?_⟩
      by_cases hf : (V q 1).toInt < cap
      · first
        | exact absurd hf (by omega)
        | rw [jset_ne (Or.inl (by omega)), cl_toNat]
          have hc := h.2.2.2.2
          have h1 : (V q 1 + 1).toInt = (V q 1).toInt + 1 := by rw [ti_add (by rw [ti_1]; omega) (by rw [ti_1]; omega), ti_1]
          refine ⟨⟨h.1, h.2.1, by rw [jset_eq]; omega, by rw [jset_eq]; omega, h.2.2.2.2⟩, ?_, (jAg.rf.set (by omega) (by omega)).set (by omega) (by omega)⟩
          rw [if_pos (by omega), Rw_add h h1]
      · first
        | exact absurd hf (by omega)
        | exact ⟨h, by rw [if_neg (by omega)], jAg.rf⟩
        | exact absurd hf (by omega)
set_option maxRecDepth 100000 in
set_option maxHeartbeats 4000000 in
theorem sp_X3_clear (hB : jB l s0 D) {q cap : Nat} (h : RowOK T V q cap) : Sp l s0 D kX3_clear (jR 0 0 0) 0 0 [.ref q] T V X sz (qU T X sz (fun V' => RowOK T V' q cap ∧ Rw V' q = [] ∧ jAg V V' q (q + 2))) := by
  refine Sp.of pn_X3_clear rfl (Nat.le_of_ble_eq_true rfl) ?_
  refine j_aload_n dX3_clear_0 rfl ?_
  refine j_iconst (v := 0) dX3_clear_1 (by decide) ?_
  refine j_puti dX3_clear_2 hB fp_X3_clear_13 (by first | exact h.1 | exact h.2.1) (by rfl) ?_
  refine j_vret dX3_clear_5 rfl (by decide) (by decide) ?_
  refine ⟨rfl, rfl, rfl, rfl, ⟨h.1, h.2.1, by rw [jset_eq]; decide, by rw [jset_eq, ti_0]; omega, h.2.2.2.2⟩, ?_, jAg.rf.set (by omega) (by omega)⟩
  rw [Rw_cut (by rw [ti_0]; exact h.2.2.1), ti_0]; rfl
end JRow
end
section
/-! CueSheets$Row: insert, remove, takeFrom -/
section JRow2
variable {l : Launch} {s0 : State} {D : jD} {T : jT} {V : jV} {X : jX} {sz : Nat}
theorem RowOK.ag {V' : jV} {q cap lo hi : Nat} (h : RowOK T V q cap) (ha : jAg V V' lo hi) (hd : q < lo ∨ hi ≤ q) : RowOK T V' q cap := h.congr (ha q hd)
theorem Rw_ag {V V' : jV} {q lo hi : Nat} (ha : jAg V V' lo hi) (hd : q + 2 ≤ lo ∨ hi ≤ q) : Rw V' q = Rw V q := Rw_congr (ha q (by omega)) (ha (q + 1) (by omega))
theorem getD_take (l : List Int32) (k : Nat) (h : k < l.length) : l.take k ++ [l.getD k 0] = l.take (k + 1) := by
  rw [List.take_succ, List.getD_eq_getElem?_getD]
  simp [h]
theorem take_erase (l : List Int32) (k : Nat) : (l.eraseIdx k).take k = l.take k := by
  rw [List.eraseIdx_eq_take_drop_succ]
  by_cases h : k ≤ l.length
  · rw [List.take_append_of_le_length (by rw [List.length_take]; omega), List.take_take, Nat.min_self]
  · rw [List.drop_eq_nil_of_le (by omega), List.append_nil, List.take_take, Nat.min_self]
set_option maxRecDepth 100000 in
set_option maxHeartbeats 4000000 in
/-- takes over all of another row -/
theorem sp_X3_takeFrom (hB : jB l s0 D) {q p cap cap' : Nat} (h : RowOK T V q cap) (hp : RowOK T V p cap') (hd : q + 2 ≤ p ∨ p + 2 ≤ q) (hlen : (Rw V p).length ≤ cap) : Sp l s0 D kX3_takeFrom (jR 1 0 0) 0 0 [.ref q, .ref p] T V X sz (qU T X sz (fun V' => RowOK T V' q cap ∧ Rw V' q = Rw V p ∧ jAg V V' q (q + 2))) := by
  refine Sp.of pn_X3_takeFrom rfl (Nat.le_of_ble_eq_true rfl) ?_
  have loop : ∀ (n k : Nat) (i : Int32) (V1 : jV), i.toInt = k → k + n = (Rw V p).length → RowOK T V1 q cap → Rw V1 q = (Rw V p).take k → jAg V V1 q (q + 2) → J l s0 D kX3_takeFrom (jR 1 0 0) 0 0 (qU T X sz (fun V' => RowOK T V' q cap ∧ Rw V' q = Rw V p ∧ jAg V V' q (q + 2))) 6 [(0, .ref q), (1, .ref p), (2, .int i)] [] T V1 X sz 0 0 := by
    intro n
    induction n with
    | zero =>
      intro k i V1 hi hk hq hl ha
      have hp1 := hp.ag ha (by omega)
      have hl1 := hp1.len
      rw [Rw_ag ha (by omega)] at hl1
      refine j_iload_n dX3_takeFrom_6 rfl ?_
      refine j_aload_n dX3_takeFrom_7 rfl ?_
      refine j_geti dX3_takeFrom_8 hB fl_X3_13 (by first | exact hp1.1 | exact hq.1) (by rfl) ?_
      refine j_icmp_ge (tgt := 29) dX3_takeFrom_11 (by decide) (fun c_11 => ?_) (fun c_11 => ?_)
      · refine j_vret dX3_takeFrom_29 rfl (by decide) (by decide) ?_
        exact ⟨rfl, rfl, rfl, rfl, hq, by rw [hl, show k = (Rw V p).length by omega, List.take_length], ha⟩
      · exact absurd c_11 (by omega)
    | succ n ih =>
      intro k i V1 hi hk hq hl ha
      have hp1 := hp.ag ha (by omega)
      have hl1 := hp1.len
      have hrp := Rw_ag ha (show p + 2 ≤ q ∨ q + 2 ≤ p by omega)
      rw [hrp] at hl1
      refine j_iload_n dX3_takeFrom_6 rfl ?_
      refine j_aload_n dX3_takeFrom_7 rfl ?_
      refine j_geti dX3_takeFrom_8 hB fl_X3_13 (by first | exact hp1.1 | exact hq.1) (by rfl) ?_
      refine j_icmp_ge (tgt := 29) dX3_takeFrom_11 (by decide) (fun c_11 => ?_) (fun c_11 => ?_)
      · exact absurd c_11 (by omega)
      · refine j_aload_n dX3_takeFrom_14 rfl ?_
        refine j_aload_n dX3_takeFrom_15 rfl ?_
        refine j_iload_n dX3_takeFrom_16 rfl ?_
        refine j_cVi dX3_takeFrom_17 hB mo_X3_at ml_X3_21 (sp_X3_at hB hp1) (by first | exact hp1.1 | exact hq.1) rfl rfl rfl rfl ⟨rfl, rfl, by decide, by decide⟩ (Nat.le_of_ble_eq_true rfl) ⟨by decide, by decide⟩ (fun r_17 V_17 h_17 => ?_)
        obtain ⟨rfl, rfl⟩ := h_17
        refine j_cVu dX3_takeFrom_20 hB mo_X3_add ml_X3_17 (sp_X3_add hB hq) (by first | exact hp1.1 | exact hq.1) rfl rfl rfl rfl ⟨rfl, rfl, by decide, by decide⟩ (Nat.le_of_ble_eq_true rfl) ⟨by decide, by decide⟩ (fun V_20 h_20 => ?_)
        obtain ⟨g1, g2, g3⟩ := h_20
        refine j_iinc (v := 1) (L' := [(0, _), (1, _), (2, _)]) dX3_takeFrom_23 rfl (by decide) (by decide) rfl ?_
        refine j_goto (tgt := 6) dX3_takeFrom_26 (by decide) ?_
        refine ih (k + 1) _ V_20 ?_ (by omega) g1 ?_ (ha.tr g3)
        · have hc := hp.2.2.2.2
          have := hp.le
          rw [ti_add (by rw [ti_1]; omega) (by rw [ti_1]; omega), ti_1]; omega
        · rw [g2, hl, if_pos (by rw [List.length_take]; omega), hrp, atZ_in (by omega), show i.toInt.toNat = k by omega]
          exact getD_take _ _ (by omega)
  refine j_aload_n dX3_takeFrom_0 rfl ?_
  refine j_cVu dX3_takeFrom_1 hB mo_X3_clear ml_X3_29 (sp_X3_clear hB h) (by first | exact h.1) rfl rfl rfl rfl ⟨rfl, rfl, by decide, by decide⟩ (Nat.le_of_ble_eq_true rfl) ⟨by decide, by decide⟩ (fun V_1 h_1 => ?_)
  obtain ⟨g1, g2, g3⟩ := h_1
  refine j_iconst (v := 0) dX3_takeFrom_4 (by decide) ?_
  refine j_istore_n (L' := [(0, _), (1, _), (2, _)]) dX3_takeFrom_5 (by decide) rfl ?_
  exact loop (Rw V p).length 0 0 V_1 rfl (by omega) g1 (by rw [g2]; rfl) g3
set_option maxRecDepth 100000 in
set_option maxHeartbeats 4000000 in
/-- puts a number ahead of place k -/
theorem sp_X3_insert (hB : jB l s0 D) {q cap : Nat} {i v : Int32} (h : RowOK T V q cap) (h0 : 0 ≤ i.toInt) (h1 : i.toInt ≤ (Rw V q).length) (hlen : (Rw V q).length < cap) : Sp l s0 D kX3_insert (jR 1 0 0) 0 0 [.ref q, .int i, .int v] T V X sz (qU T X sz (fun V' => RowOK T V' q cap ∧ Rw V' q = (Rw V q).take i.toInt.toNat ++ v :: (Rw V q).drop i.toInt.toNat ∧ jAg V V' q (q + 2))) := by
  refine Sp.of pn_X3_insert rfl (Nat.le_of_ble_eq_true rfl) ?_
  have hcap := h.2.2.2.2
  generalize hL : Rw V q = L at h1 hlen ⊢
  generalize hI : i.toInt.toNat = I at ⊢
  have loop : ∀ (n : Nat) (j : Int32) (V1 : jV) (x : Int32), j.toInt = I + n → I + n ≤ L.length → RowOK T V1 q cap → Rw V1 q = L.take (I + n) ++ x :: L.drop (I + n) → jAg V V1 q (q + 2) → J l s0 D kX3_insert (jR 1 0 0) 0 0 (qU T X sz (fun V' => RowOK T V' q cap ∧ Rw V' q = L.take I ++ v :: L.drop I ∧ jAg V V' q (q + 2))) 12 [(0, .ref q), (1, .int i), (2, .int v), (3, .int j)] [] T V1 X sz 0 0 := by
    intro n
    induction n with
    | zero =>
      intro j V1 x hj hI1 hq hl ha
      refine j_iload_n dX3_insert_12 rfl ?_
      refine j_iload_n dX3_insert_13 rfl ?_
      refine j_icmp_le (tgt := 39) dX3_insert_14 (by decide) (fun c_14 => ?_) (fun c_14 => ?_)
      · refine j_aload_n dX3_insert_39 rfl ?_
        refine j_iload_n dX3_insert_40 rfl ?_
        refine j_iload_n dX3_insert_41 rfl ?_
        refine j_cVu dX3_insert_42 hB mo_X3_put ml_X3_25 (sp_X3_put hB hq) (by first | exact hq.1) rfl rfl rfl rfl ⟨rfl, rfl, by decide, by decide⟩ (Nat.le_of_ble_eq_true rfl) ⟨by decide, by decide⟩ (fun V_42 h_42 => ?_)
        obtain ⟨g1, g2, g3⟩ := h_42
        refine j_vret dX3_insert_45 rfl (by decide) (by decide) ?_
        refine ⟨rfl, rfl, rfl, rfl, g1, ?_, ha.tr g3⟩
        have : (L.take I).length = I := by rw [List.length_take]; omega
        rw [g2, hl, setZ, if_pos h0, hI]
        simp [List.set_append, this]
      · exact absurd c_14 (by omega)
    | succ n ih =>
      intro j V1 x hj hI1 hq hl ha
      have hj1 : (j - 1).toInt = I + n := by rw [ti_sub (by rw [ti_1]; omega) (by rw [ti_1]; omega), ti_1]; omega
      refine j_iload_n dX3_insert_12 rfl ?_
      refine j_iload_n dX3_insert_13 rfl ?_
      refine j_icmp_le (tgt := 39) dX3_insert_14 (by decide) (fun c_14 => ?_) (fun c_14 => ?_)
      · exact absurd c_14 (by omega)
      · refine j_iload_n dX3_insert_17 rfl ?_
        refine j_if_le (tgt := 39) dX3_insert_18 (by decide) (fun c_18 => ?_) (fun c_18 => ?_)
        · exact absurd c_18 (by omega)
        · refine j_aload_n dX3_insert_21 rfl ?_
          refine j_iload_n dX3_insert_22 rfl ?_
          refine j_aload_n dX3_insert_23 rfl ?_
          refine j_iload_n dX3_insert_24 rfl ?_
          refine j_iconst (v := 1) dX3_insert_25 (by decide) ?_
          refine j_isub dX3_insert_26 ?_
          refine j_cVi dX3_insert_27 hB mo_X3_at ml_X3_21 (sp_X3_at hB hq) (by first | exact hq.1) rfl rfl rfl rfl ⟨rfl, rfl, by decide, by decide⟩ (Nat.le_of_ble_eq_true rfl) ⟨by decide, by decide⟩ (fun r_27 V_27 h_27 => ?_)
          obtain ⟨rfl, rfl⟩ := h_27
          refine j_cVu dX3_insert_30 hB mo_X3_put ml_X3_25 (sp_X3_put hB hq) (by first | exact hq.1) rfl rfl rfl rfl ⟨rfl, rfl, by decide, by decide⟩ (Nat.le_of_ble_eq_true rfl) ⟨by decide, by decide⟩ (fun V_30 h_30 => ?_)
          obtain ⟨g1, g2, g3⟩ := h_30
          refine j_iinc (v := -1) (L' := [(0, _), (1, _), (2, _), (3, _)]) dX3_insert_33 rfl (by decide) (by decide) rfl ?_
          refine j_goto (tgt := 12) dX3_insert_36 (by decide) ?_
          have hlt : I + n < L.length := by omega
          have hx : atZ (Rw V1 q) (j - 1).toInt = L[I + n] := by
            rw [atZ_in (by omega), hj1, hl, show ((I : Int) + n).toNat = I + n by omega, List.getD_eq_getElem?_getD, List.getElem?_append_left (by rw [List.length_take]; omega), List.getElem?_take]
            simp [hlt]
          rw [hx] at g2
          refine ih _ V_30 L[I + n] ?_ (by omega) g1 ?_ (ha.tr g3)
          · rw [show j + -1 = j - 1 by rw [Int32.sub_eq_add_neg]]; exact hj1
          · have e1 : (L.take (I + (n + 1))).length = I + (n + 1) := by rw [List.length_take]; omega
            rw [g2, hl, setZ, if_pos (by omega), show j.toInt.toNat = I + (n + 1) by omega]
            rw [List.set_append_right _ _ (by omega), e1, Nat.sub_self]
            show L.take (I + (n + 1)) ++ L[I + n] :: L.drop (I + (n + 1)) = _
            have e3 := List.take_append_getElem hlt
            have e4 := List.drop_eq_getElem_cons hlt
            rw [show I + (n + 1) = I + n + 1 by omega, ← e3, e4, List.append_assoc]
            rfl
  refine j_aload_n dX3_insert_0 rfl ?_
  refine j_iload_n dX3_insert_1 rfl ?_
  refine j_cVu dX3_insert_2 hB mo_X3_add ml_X3_17 (sp_X3_add hB h) (by first | exact g1.1 | exact h.1) rfl rfl rfl rfl ⟨rfl, rfl, by decide, by decide⟩ (Nat.le_of_ble_eq_true rfl) ⟨by decide, by decide⟩ (fun V_2 h_2 => ?_)
  obtain ⟨g1, g2, g3⟩ := h_2
  rw [hL, if_pos hlen] at g2
  have gl := g1.len
  rw [g2, List.length_append, List.length_singleton] at gl
  refine j_aload_n dX3_insert_5 rfl ?_
  refine j_geti dX3_insert_6 hB fl_X3_13 (by first | exact g1.1 | exact h.1) (by rfl) ?_
  refine j_iconst (v := 1) dX3_insert_9 (by decide) ?_
  refine j_isub dX3_insert_10 ?_
  refine j_istore_n (L' := [(0, _), (1, _), (2, _), (3, _)]) dX3_insert_11 (by decide) rfl ?_
  refine loop (L.length - I) _ V_2 v ?_ (by omega) g1 ?_ g3
  · rw [ti_sub (by rw [ti_1]; omega) (by rw [ti_1]; omega), ti_1]; omega
  · rw [g2, show I + (L.length - I) = L.length by omega, List.take_length, List.drop_length]
set_option maxRecDepth 100000 in
set_option maxHeartbeats 4000000 in
/-- takes out the number at a place -/
theorem sp_X3_remove (hB : jB l s0 D) {q cap : Nat} {i : Int32} (h : RowOK T V q cap) : Sp l s0 D kX3_remove (jR 1 0 0) 0 0 [.ref q, .int i] T V X sz (qU T X sz (fun V' => RowOK T V' q cap ∧ Rw V' q = (if 0 ≤ i.toInt then (Rw V q).eraseIdx i.toInt.toNat else Rw V q) ∧ jAg V V' q (q + 2))) := by
  refine Sp.of pn_X3_remove rfl (Nat.le_of_ble_eq_true rfl) ?_
  have hcap := h.2.2.2.2
  have hln := h.len
  have hle := h.le
  generalize hL : Rw V q = L at hln hle ⊢
  have loop : 0 ≤ i.toInt → i.toInt < L.length → ∀ (n k : Nat) (j : Int32) (V1 : jV), j.toInt = k → i.toInt ≤ k → k + n + 1 = L.length → RowOK T V1 q cap → (Rw V1 q).length = L.length → (Rw V1 q).take k = (L.eraseIdx i.toInt.toNat).take k → (Rw V1 q).drop (k + 1) = L.drop (k + 1) → jAg V V1 q (q + 2) → J l s0 D kX3_remove (jR 1 0 0) 0 0 (qU T X sz (fun V' => RowOK T V' q cap ∧ Rw V' q = (if 0 ≤ i.toInt then L.eraseIdx i.toInt.toNat else L) ∧ jAg V V' q (q + 2))) 15 [(0, .ref q), (1, .int i), (2, .int j)] [] T V1 X sz 0 0 := by
    intro hi0 hi1 n
    induction n with
    | zero =>
      intro k j V1 hj hik hk hq hl2 ht hdr ha
      have hl1 := hq.len
      have hm1 : (V1 q 1 - 1).toInt = (V1 q 1).toInt - 1 := by rw [ti_sub (by rw [ti_1]; omega) (by rw [ti_1]; omega), ti_1]
      refine j_iload_n dX3_remove_15 rfl ?_
      refine j_aload_n dX3_remove_16 rfl ?_
      refine j_geti dX3_remove_17 hB fl_X3_13 (by first | exact hq.1) (by rfl) ?_
      refine j_iconst (v := 1) dX3_remove_20 (by decide) ?_
      refine j_isub dX3_remove_21 ?_
      refine j_icmp_ge (tgt := 43) dX3_remove_22 (by decide) (fun c_22 => ?_) (fun c_22 => ?_)
      · refine j_aload_n dX3_remove_43 rfl ?_
        refine j_dup dX3_remove_44 rfl ?_
        refine j_geti dX3_remove_45 hB fl_X3_13 (by first | exact hq.1) (by rfl) ?_
        refine j_iconst (v := 1) dX3_remove_48 (by decide) ?_
        refine j_isub dX3_remove_49 ?_
        refine j_puti dX3_remove_50 hB fp_X3_remove_13 (by first | exact hq.1) (by rfl) ?_
        refine j_vret dX3_remove_53 rfl (by decide) (by decide) ?_
        have hc := Rw_cut (V := V1) (q := q) (n' := V1 q 1 - 1) (by omega)
        refine ⟨rfl, rfl, rfl, rfl, ⟨hq.1, hq.2.1, by rw [jset_eq]; omega, by rw [jset_eq]; have := hq.2.2.2.1; omega, hcap⟩, ?_, ha.set (by omega) (by omega)⟩
        rw [hc, if_pos hi0, show (V1 q 1 - 1).toInt.toNat = k by omega, ht, List.take_of_length_le (by rw [List.length_eraseIdx]; split <;> omega)]
      · exact absurd c_22 (by omega)
    | succ n ih =>
      intro k j V1 hj hik hk hq hl2 ht hdr ha
      have hl1 := hq.len
      have hm1 : (V1 q 1 - 1).toInt = (V1 q 1).toInt - 1 := by rw [ti_sub (by rw [ti_1]; omega) (by rw [ti_1]; omega), ti_1]
      have hj1 : (j + 1).toInt = k + 1 := by rw [ti_add (by rw [ti_1]; omega) (by rw [ti_1]; omega), ti_1]; omega
      refine j_iload_n dX3_remove_15 rfl ?_
      refine j_aload_n dX3_remove_16 rfl ?_
      refine j_geti dX3_remove_17 hB fl_X3_13 (by first | exact hq.1) (by rfl) ?_
      refine j_iconst (v := 1) dX3_remove_20 (by decide) ?_
      refine j_isub dX3_remove_21 ?_
      refine j_icmp_ge (tgt := 43) dX3_remove_22 (by decide) (fun c_22 => ?_) (fun c_22 => ?_)
      · exact absurd c_22 (by omega)
      · refine j_aload_n dX3_remove_25 rfl ?_
        refine j_iload_n dX3_remove_26 rfl ?_
        refine j_aload_n dX3_remove_27 rfl ?_
        refine j_iload_n dX3_remove_28 rfl ?_
        refine j_iconst (v := 1) dX3_remove_29 (by decide) ?_
        refine j_iadd dX3_remove_30 ?_
        refine j_cVi dX3_remove_31 hB mo_X3_at ml_X3_21 (sp_X3_at hB hq) (by first | exact hq.1) rfl rfl rfl rfl ⟨rfl, rfl, by decide, by decide⟩ (Nat.le_of_ble_eq_true rfl) ⟨by decide, by decide⟩ (fun r_31 V_31 h_31 => ?_)
        obtain ⟨rfl, rfl⟩ := h_31
        refine j_cVu dX3_remove_34 hB mo_X3_put ml_X3_25 (sp_X3_put hB hq) (by first | exact hq.1) rfl rfl rfl rfl ⟨rfl, rfl, by decide, by decide⟩ (Nat.le_of_ble_eq_true rfl) ⟨by decide, by decide⟩ (fun V_34 h_34 => ?_)
        obtain ⟨g1, g2, g3⟩ := h_34
        refine j_iinc (v := 1) (L' := [(0, _), (1, _), (2, _)]) dX3_remove_37 rfl (by decide) (by decide) rfl ?_
        refine j_goto (tgt := 15) dX3_remove_40 (by decide) ?_
        have hx : atZ (Rw V1 q) (j + 1).toInt = L[k + 1] := by
          rw [atZ_in (by omega), hj1, show ((k : Int) + 1).toNat = k + 1 by omega, List.getD_eq_getElem?_getD]
          have : (Rw V1 q)[k + 1]? = ((Rw V1 q).drop (k + 1))[0]? := by simp
          rw [this, hdr]
          simp [show k + 1 < L.length by omega]
        rw [hx, setZ, if_pos (by omega), show j.toInt.toNat = k by omega] at g2
        refine ih (k + 1) _ V_34 ?_ (by omega) (by omega) g1 (by rw [g2, List.length_set]; exact hl2) ?_ ?_ (ha.tr g3)
        · rw [hj1]; rfl
        · have hlt : k < (L.eraseIdx i.toInt.toNat).length := by rw [List.length_eraseIdx]; split <;> omega
          have hv : (L.eraseIdx i.toInt.toNat)[k]? = some L[k + 1] := by
            rw [List.getElem?_eraseIdx_of_ge (by omega)]
            simp [show k + 1 < L.length by omega]
          rw [g2, List.take_succ, List.take_set_of_le (by omega), ht, List.take_succ, hv, List.getElem?_set_self (by omega)]
        · rw [g2, List.drop_set_of_lt (by omega)]
          have : (Rw V1 q).drop (k + 1 + 1) = ((Rw V1 q).drop (k + 1)).drop 1 := by simp
          rw [this, hdr]
          simp
  refine j_iload_n dX3_remove_0 rfl ?_
  refine j_if_lt (tgt := 12) dX3_remove_1 (by decide) (fun c_1 => ?_) (fun c_1 => ?_)
  · refine j_vret dX3_remove_12 rfl (by decide) (by decide) ?_
    refine ⟨rfl, rfl, rfl, rfl, h, ?_, jAg.rf⟩
    rw [hL]
    by_cases hi : 0 ≤ i.toInt
    · rw [if_pos hi, List.eraseIdx_of_length_le (by omega)]
    · rw [if_neg hi]
  · refine j_iload_n dX3_remove_4 rfl ?_
    refine j_aload_n dX3_remove_5 rfl ?_
    refine j_geti dX3_remove_6 hB fl_X3_13 (by first | exact h.1) (by rfl) ?_
    refine j_icmp_lt (tgt := 13) dX3_remove_9 (by decide) (fun c_9 => ?_) (fun c_9 => ?_)
    · refine j_iload_n dX3_remove_13 rfl ?_
      refine j_istore_n (L' := [(0, _), (1, _), (2, _)]) dX3_remove_14 (by decide) rfl ?_
      exact loop (by omega) (by omega) (L.length - i.toInt.toNat - 1) i.toInt.toNat i V (by omega) (by omega) (by omega) h (by rw [hL]) (by rw [hL, take_erase]) (by rw [hL]) jAg.rf
    · refine j_vret dX3_remove_12 rfl (by decide) (by decide) ?_
      refine ⟨rfl, rfl, rfl, rfl, h, ?_, jAg.rf⟩
      rw [hL]
      by_cases hi : 0 ≤ i.toInt
      · rw [if_pos hi, List.eraseIdx_of_length_le (by omega)]
      · rw [if_neg hi]
end JRow2
end
section
/-! CueSheets$Marks: feet in rising order, each with a number; feet in the row at q + 1, numbers in the row at q + 3 -/
abbrev pL : Type := List (Int32 × Int32)
def pSrt (P : pL) : Prop := P.Pairwise (fun a b => a.1.toInt < b.1.toInt)
/-- how many feet lie ahead of f -/
def pPos : pL → Int32 → Nat
  | [], _ => 0
  | a :: r, f => if a.1.toInt < f.toInt then pPos r f + 1 else 0
/-- with f's number set -/
def pSet : pL → Int32 → Int32 → pL
  | [], f, v => [(f, v)]
  | a :: r, f, v => if a.1.toInt < f.toInt then a :: pSet r f v else if a.1 = f then (f, v) :: r else (f, v) :: a :: r
def pDel (P : pL) (f : Int32) : pL := P.filter (fun a => !(a.1 == f))
def pHas (P : pL) (f : Int32) : Prop := f ∈ P.map Prod.fst
/-- the number that holds at f: of the last foot that is at most f -/
def pHoldF (x : Int32) : pL → Int → Int32
  | [], _ => x
  | a :: r, f => if a.1.toInt ≤ f then pHoldF a.2 r f else pHoldF x r f
def pHold (P : pL) (f : Int) : Int32 := pHoldF 0 P f
def MkOK (T : jT) (V : jV) (q : Nat) (P : pL) : Prop := T q = some (kMarks (q + 1) (q + 3)) ∧ RowOK T V (q + 1) 6 ∧ RowOK T V (q + 3) 6 ∧ Rw V (q + 1) = P.map Prod.fst ∧ Rw V (q + 3) = P.map Prod.snd ∧ pSrt P
theorem pPos_le (P : pL) (f : Int32) : pPos P f ≤ P.length := by
  induction P with
  | nil => exact Nat.le_refl _
  | cons a r ih => unfold pPos; split <;> simp <;> omega
theorem MkOK.len {T : jT} {V : jV} {q : Nat} {P : pL} (h : MkOK T V q P) : P.length ≤ 6 := by
  have := h.2.1.le
  rw [h.2.2.2.1, List.length_map] at this
  exact this
theorem MkOK.ag {T : jT} {V V' : jV} {q lo hi : Nat} {P : pL} (h : MkOK T V q P) (ha : jAg V V' lo hi) (hd : q + 5 ≤ lo ∨ hi ≤ q) : MkOK T V' q P :=
  ⟨h.1, h.2.1.ag ha (by omega), h.2.2.1.ag ha (by omega), by rw [Rw_ag ha (by omega)]; exact h.2.2.2.1, by rw [Rw_ag ha (by omega)]; exact h.2.2.2.2.1, h.2.2.2.2.2⟩
theorem pPos_at {P : pL} {f : Int32} (hs : pSrt P) : (pPos P f < P.length ∧ (P.map Prod.fst).getD (pPos P f) 0 = f) ↔ pHas P f := by
  induction P with
  | nil => simp [pPos, pHas]
  | cons a r ih =>
    have hs' := List.pairwise_cons.mp hs
    unfold pPos
    by_cases h : a.1.toInt < f.toInt
    · rw [if_pos h]
      have hne : ¬ f = a.1 := fun e => by rw [e] at h; omega
      have := ih hs'.2
      simp [pHas, hne] at this ⊢
      exact this
    · rw [if_neg h]
      simp only [List.map_cons, List.length_cons, List.getD_cons_zero, pHas, List.mem_cons]
      constructor
      · rintro ⟨-, e⟩; exact Or.inl e.symm
      · rintro (e | e)
        · exact ⟨by omega, e.symm⟩
        · obtain ⟨b, hb, e⟩ := List.mem_map.mp e
          have := hs'.1 b hb
          rw [e] at this
          omega
theorem pSet_eq {P : pL} {f v : Int32} (hs : pSrt P) : (pHas P f → pSet P f v = P.set (pPos P f) (f, v)) ∧ (¬ pHas P f → pSet P f v = P.take (pPos P f) ++ (f, v) :: P.drop (pPos P f)) := by
  induction P with
  | nil => exact ⟨fun h => by simp [pHas] at h, fun _ => rfl⟩
  | cons a r ih =>
    have hs' := List.pairwise_cons.mp hs
    obtain ⟨i1, i2⟩ := ih hs'.2
    unfold pSet pPos
    by_cases h : a.1.toInt < f.toInt
    · have hne : ¬ f = a.1 := fun e => by rw [e] at h; omega
      rw [if_pos h, if_pos h]
      refine ⟨fun hh => ?_, fun hh => ?_⟩
      · have : pHas r f := by simpa [pHas, hne] using hh
        rw [i1 this]; rfl
      · have : ¬ pHas r f := by simpa [pHas, hne] using hh
        rw [i2 this]; rfl
    · rw [if_neg h, if_neg h]
      by_cases e : a.1 = f
      · rw [if_pos e]
        exact ⟨fun _ => rfl, fun hh => absurd (by simp [pHas, e]) hh⟩
      · rw [if_neg e]
        refine ⟨fun hh => ?_, fun _ => rfl⟩
        simp only [pHas, List.map_cons, List.mem_cons] at hh
        rcases hh with hh | hh
        · exact absurd hh.symm e
        · obtain ⟨b, hb, e'⟩ := List.mem_map.mp hh
          have := hs'.1 b hb
          rw [e'] at this
          omega
theorem pDel_eq {P : pL} {f : Int32} (hs : pSrt P) : (pHas P f → pDel P f = P.eraseIdx (pPos P f)) ∧ (¬ pHas P f → pDel P f = P) := by
  induction P with
  | nil => exact ⟨fun h => by simp [pHas] at h, fun _ => rfl⟩
  | cons a r ih =>
    have hs' := List.pairwise_cons.mp hs
    obtain ⟨i1, i2⟩ := ih hs'.2
    by_cases h : a.1.toInt < f.toInt
    · have hne : ¬ f = a.1 := fun e => by rw [e] at h; omega
      have e1 : pDel (a :: r) f = a :: pDel r f := by simp [pDel, Ne.symm hne]
      have e2 : pPos (a :: r) f = pPos r f + 1 := if_pos h
      rw [e1, e2]
      refine ⟨fun hh => ?_, fun hh => ?_⟩
      · have : pHas r f := by simpa [pHas, hne] using hh
        rw [i1 this]; rfl
      · have : ¬ pHas r f := by simpa [pHas, hne] using hh
        rw [i2 this]
    · have e2 : pPos (a :: r) f = 0 := if_neg h
      have hr : pDel r f = r := by
        rw [pDel, List.filter_eq_self]
        intro b hb
        have := hs'.1 b hb
        have : ¬ b.1 = f := fun e => by rw [e] at this; omega
        simp [this]
      rw [e2]
      by_cases e : a.1 = f
      · refine ⟨fun _ => ?_, fun hh => absurd (by simp [pHas, e]) hh⟩
        have : pDel (a :: r) f = pDel r f := by simp [pDel, e]
        rw [this, hr]; rfl
      · refine ⟨fun hh => ?_, fun _ => ?_⟩
        · simp only [pHas, List.map_cons, List.mem_cons] at hh
          rcases hh with hh | hh
          · exact absurd hh.symm e
          · obtain ⟨b, hb, e'⟩ := List.mem_map.mp hh
            have := hs'.1 b hb
            rw [e'] at this
            omega
        · have : pDel (a :: r) f = a :: pDel r f := by simp [pDel, e]
          rw [this, hr]
theorem pSet_srt {P : pL} {f v : Int32} (hs : pSrt P) : pSrt (pSet P f v) := by
  have key : ∀ P : pL, pSrt P → pSrt (pSet P f v) ∧ ∀ x : Int32, x.toInt < f.toInt → (∀ b ∈ P, x.toInt < b.1.toInt) → ∀ b ∈ pSet P f v, x.toInt < b.1.toInt := by
    intro P
    induction P with
    | nil =>
      intro _
      refine ⟨List.pairwise_singleton _ _, fun x hx _ b hb => ?_⟩
      rw [List.mem_singleton.mp hb]; exact hx
    | cons a r ih =>
      intro hs
      have hs' := List.pairwise_cons.mp hs
      obtain ⟨i1, i2⟩ := ih hs'.2
      unfold pSet
      by_cases h : a.1.toInt < f.toInt
      · rw [if_pos h]
        refine ⟨List.pairwise_cons.mpr ⟨i2 a.1 h hs'.1, i1⟩, fun x hx hb b hbm => ?_⟩
        rcases List.mem_cons.mp hbm with rfl | hbm
        · exact hb _ List.mem_cons_self
        · exact i2 x hx (fun b hb' => hb b (List.mem_cons_of_mem _ hb')) b hbm
      · rw [if_neg h]
        by_cases e : a.1 = f
        · rw [if_pos e]
          refine ⟨List.pairwise_cons.mpr ⟨fun b hb => by have := hs'.1 b hb; rw [e] at this; exact this, hs'.2⟩, fun x hx hb b hbm => ?_⟩
          rcases List.mem_cons.mp hbm with rfl | hbm
          · exact hx
          · exact hb b (List.mem_cons_of_mem _ hbm)
        · rw [if_neg e]
          have hlt : f.toInt < a.1.toInt := by
            have : f.toInt ≠ a.1.toInt := fun z => e (Int32.toInt_inj.mp z).symm
            omega
          refine ⟨List.pairwise_cons.mpr ⟨fun b hb => ?_, hs⟩, fun x hx hb b hbm => ?_⟩
          · rcases List.mem_cons.mp hb with rfl | hb
            · exact hlt
            · have := hs'.1 b hb; show f.toInt < b.1.toInt; omega
          · rcases List.mem_cons.mp hbm with rfl | hbm
            · exact hx
            · exact hb b hbm
  exact (key P hs).1
theorem pDel_srt {P : pL} {f : Int32} (hs : pSrt P) : pSrt (pDel P f) := List.Pairwise.filter _ hs
theorem pHoldF_hi {x : Int32} {P : pL} {f : Int} (h : ∀ b ∈ P, f < b.1.toInt) : pHoldF x P f = x := by
  induction P with
  | nil => rfl
  | cons a r ih =>
    unfold pHoldF
    rw [if_neg (by have := h a List.mem_cons_self; omega)]
    exact ih fun b hb => h b (List.mem_cons_of_mem _ hb)
theorem map_getD (P : pL) (i : Nat) (h : i < P.length) : (P.map Prod.fst).getD i 0 = P[i].1 ∧ (P.map Prod.snd).getD i 0 = P[i].2 := by
  simp [List.getD_eq_getElem?_getD, h]
theorem map_erase {α β : Type} (g : α → β) : ∀ (l : List α) (k : Nat), (l.map g).eraseIdx k = (l.eraseIdx k).map g
  | [], _ => rfl
  | _ :: _, 0 => rfl
  | a :: r, k + 1 => by simp [map_erase g r k]
theorem pPos_cons (a : Int32 × Int32) (r : pL) (f : Int32) : pPos (a :: r) f = if a.1.toInt < f.toInt then pPos r f + 1 else 0 := rfl
theorem set_self {l : List Int32} {k : Nat} {x : Int32} (h : k < l.length) (e : l.getD k 0 = x) : l.set k x = l := by
  apply List.ext_getElem?
  intro j
  rw [List.getElem?_set]
  by_cases hj : k = j
  · subst hj
    rw [List.getD_eq_getElem?_getD, List.getElem?_eq_getElem h] at e
    simp at e
    simp [h, e]
  · simp [hj]
section JMarks
variable {l : Launch} {s0 : State} {D : jD} {T : jT} {V : jV} {X : jX} {sz : Nat}
set_option maxRecDepth 100000 in
set_option maxHeartbeats 4000000 in
theorem sp_X1_size (hB : jB l s0 D) {q : Nat} {P : pL} (h : MkOK T V q P) : Sp l s0 D kX1_size (jR 1 0 0) 0 0 [.ref q] T V X sz (qI T X sz (fun r V' => V = V' ∧ r.toInt = P.length)) := by
  refine Sp.of pn_X1_size rfl (Nat.le_of_ble_eq_true rfl) ?_
  refine j_aload_n dX1_size_0 rfl ?_
  refine j_getr dX1_size_1 hB fl_X1_14 (by first | exact h.1 | exact h.2.1.1 | exact h.2.2.1.1) (by rfl) ?_
  refine j_cVi dX1_size_4 hB mo_X3_size ml_X1_23 (sp_X3_size hB h.2.1) (by first | exact h.1 | exact h.2.1.1 | exact h.2.2.1.1) rfl rfl rfl rfl ⟨rfl, rfl, by decide, by decide⟩ (Nat.le_of_ble_eq_true rfl) ⟨by decide, by decide⟩ (fun r_4 V_4 h_4 => ?_)
  obtain ⟨rfl, hr⟩ := h_4
  refine j_iret dX1_size_7 rfl (rfl) (by decide) (by decide) ?_
  exact ⟨_, rfl, rfl, rfl, rfl, rfl, by rw [hr, h.2.2.2.1, List.length_map]⟩
set_option maxRecDepth 100000 in
set_option maxHeartbeats 4000000 in
theorem sp_X1_placeOf (hB : jB l s0 D) {q : Nat} {P : pL} {f : Int32} (h : MkOK T V q P) : Sp l s0 D kX1_placeOf (jR 1 0 0) 0 0 [.ref q, .int f] T V X sz (qI T X sz (fun r V' => V = V' ∧ r.toInt = pPos P f)) := by
  refine Sp.of pn_X1_placeOf rfl (Nat.le_of_ble_eq_true rfl) ?_
  have hlen := h.len
  have loop : ∀ (n k : Nat) (i : Int32), i.toInt = k → k + n = P.length → pPos (P.drop k) f + k = pPos P f → J l s0 D kX1_placeOf (jR 1 0 0) 0 0 (qI T X sz (fun r V' => V = V' ∧ r.toInt = pPos P f)) 2 [(0, .ref q), (1, .int f), (2, .int i)] [] T V X sz 0 0 := by
    intro n
    induction n with
    | zero =>
      intro k i hi hk hp
      refine j_iload_n dX1_placeOf_2 rfl ?_
      refine j_aload_n dX1_placeOf_3 rfl ?_
      refine j_getr dX1_placeOf_4 hB fl_X1_14 (by first | exact h.1 | exact h.2.1.1 | exact h.2.2.1.1) (by rfl) ?_
      refine j_cVi dX1_placeOf_7 hB mo_X3_size ml_X1_23 (sp_X3_size hB h.2.1) (by first | exact h.1 | exact h.2.1.1 | exact h.2.2.1.1) rfl rfl rfl rfl ⟨rfl, rfl, by decide, by decide⟩ (Nat.le_of_ble_eq_true rfl) ⟨by decide, by decide⟩ (fun r_7 V_7 h_7 => ?_)
      obtain ⟨rfl, hr⟩ := h_7
      rw [h.2.2.2.1, List.length_map] at hr
      refine j_icmp_ge (tgt := 31) dX1_placeOf_10 (by decide) (fun c_10 => ?_) (fun c_10 => ?_)
      · refine j_iload_n dX1_placeOf_31 rfl ?_
        refine j_iret dX1_placeOf_32 rfl (rfl) (by decide) (by decide) ?_
        exact ⟨_, rfl, rfl, rfl, rfl, rfl, by rw [List.drop_eq_nil_of_le (by omega)] at hp; simp [pPos] at hp; omega⟩
      · exact absurd c_10 (by omega)
    | succ n ih =>
      intro k i hi hk hp
      have hlt : k < P.length := by omega
      have hd := List.drop_eq_getElem_cons hlt
      refine j_iload_n dX1_placeOf_2 rfl ?_
      refine j_aload_n dX1_placeOf_3 rfl ?_
      refine j_getr dX1_placeOf_4 hB fl_X1_14 (by first | exact h.1 | exact h.2.1.1 | exact h.2.2.1.1) (by rfl) ?_
      refine j_cVi dX1_placeOf_7 hB mo_X3_size ml_X1_23 (sp_X3_size hB h.2.1) (by first | exact h.1 | exact h.2.1.1 | exact h.2.2.1.1) rfl rfl rfl rfl ⟨rfl, rfl, by decide, by decide⟩ (Nat.le_of_ble_eq_true rfl) ⟨by decide, by decide⟩ (fun r_7 V_7 h_7 => ?_)
      obtain ⟨rfl, hr⟩ := h_7
      rw [h.2.2.2.1, List.length_map] at hr
      refine j_icmp_ge (tgt := 31) dX1_placeOf_10 (by decide) (fun c_10 => ?_) (fun c_10 => ?_)
      · exact absurd c_10 (by omega)
      · refine j_aload_n dX1_placeOf_13 rfl ?_
        refine j_getr dX1_placeOf_14 hB fl_X1_14 (by first | exact h.1 | exact h.2.1.1 | exact h.2.2.1.1) (by rfl) ?_
        refine j_iload_n dX1_placeOf_17 rfl ?_
        refine j_cVi dX1_placeOf_18 hB mo_X3_at ml_X1_27 (sp_X3_at hB h.2.1) (by first | exact h.1 | exact h.2.1.1 | exact h.2.2.1.1) rfl rfl rfl rfl ⟨rfl, rfl, by decide, by decide⟩ (Nat.le_of_ble_eq_true rfl) ⟨by decide, by decide⟩ (fun r_18 V_18 h_18 => ?_)
        obtain ⟨rfl, hx⟩ := h_18
        rw [h.2.2.2.1, atZ_in (by omega), show i.toInt.toNat = k by omega, (map_getD P k hlt).1] at hx
        subst hx
        refine j_iload_n dX1_placeOf_21 rfl ?_
        refine j_icmp_ge (tgt := 31) dX1_placeOf_22 (by decide) (fun c_22 => ?_) (fun c_22 => ?_)
        · refine j_iload_n dX1_placeOf_31 rfl ?_
          refine j_iret dX1_placeOf_32 rfl (rfl) (by decide) (by decide) ?_
          rw [hd] at hp
          exact ⟨_, rfl, rfl, rfl, rfl, rfl, by rw [pPos_cons, if_neg (by omega)] at hp; omega⟩
        · refine j_iinc (v := 1) (L' := [(0, _), (1, _), (2, _)]) dX1_placeOf_25 rfl (by decide) (by decide) rfl ?_
          refine j_goto (tgt := 2) dX1_placeOf_28 (by decide) ?_
          refine ih (k + 1) _ ?_ (by omega) ?_
          · rw [ti_add (by rw [ti_1]; omega) (by rw [ti_1]; omega), ti_1]; omega
          · rw [hd, pPos_cons, if_pos (by omega)] at hp
            omega
  refine j_iconst (v := 0) dX1_placeOf_0 (by decide) ?_
  refine j_istore_n (L' := [(0, _), (1, _), (2, _)]) dX1_placeOf_1 (by decide) rfl ?_
  exact loop P.length 0 0 rfl (by omega) (by simp)
set_option maxRecDepth 100000 in
set_option maxHeartbeats 4000000 in
theorem sp_X1_isAt (hB : jB l s0 D) {q : Nat} {P : pL} {i f : Int32} (h : MkOK T V q P) (hi : i.toInt = pPos P f) : Sp l s0 D kX1_isAt (jR 1 0 0) 0 0 [.ref q, .int i, .int f] T V X sz (qI T X sz (fun r V' => V = V' ∧ (r = 1 ∧ pHas P f ∨ r = 0 ∧ ¬ pHas P f))) := by
  refine Sp.of pn_X1_isAt rfl (Nat.le_of_ble_eq_true rfl) ?_
  have hlen := h.len
  have hp := pPos_at (f := f) h.2.2.2.2.2
  refine j_iload_n dX1_isAt_0 rfl ?_
  refine j_aload_n dX1_isAt_1 rfl ?_
  refine j_getr dX1_isAt_2 hB fl_X1_14 (by first | exact h.1 | exact h.2.1.1 | exact h.2.2.1.1) (by rfl) ?_
  refine j_cVi dX1_isAt_5 hB mo_X3_size ml_X1_23 (sp_X3_size hB h.2.1) (by first | exact h.1 | exact h.2.1.1 | exact h.2.2.1.1) rfl rfl rfl rfl ⟨rfl, rfl, by decide, by decide⟩ (Nat.le_of_ble_eq_true rfl) ⟨by decide, by decide⟩ (fun r_5 V_5 h_5 => ?_)
  obtain ⟨rfl, hr⟩ := h_5
  rw [h.2.2.2.1, List.length_map] at hr
  refine j_icmp_ge (tgt := 27) dX1_isAt_8 (by decide) (fun c_8 => ?_) (fun c_8 => ?_)
  · refine j_iconst (v := 0) dX1_isAt_27 (by decide) ?_
    refine j_iret dX1_isAt_28 rfl (rfl) (by decide) (by decide) ?_
    refine ⟨_, rfl, rfl, rfl, rfl, rfl, ?_⟩
    first
      | exact Or.inr ⟨rfl, fun z => absurd (hp.mpr z).1 (by omega)⟩
      | exact Or.inr ⟨rfl, fun z => absurd (hp.mpr z).2 c_20⟩
      | exact Or.inl ⟨rfl, hp.mp ⟨by omega, c_20⟩⟩
  · refine j_aload_n dX1_isAt_11 rfl ?_
    refine j_getr dX1_isAt_12 hB fl_X1_14 (by first | exact h.1 | exact h.2.1.1 | exact h.2.2.1.1) (by rfl) ?_
    refine j_iload_n dX1_isAt_15 rfl ?_
    refine j_cVi dX1_isAt_16 hB mo_X3_at ml_X1_27 (sp_X3_at hB h.2.1) (by first | exact h.1 | exact h.2.1.1 | exact h.2.2.1.1) rfl rfl rfl rfl ⟨rfl, rfl, by decide, by decide⟩ (Nat.le_of_ble_eq_true rfl) ⟨by decide, by decide⟩ (fun r_16 V_16 h_16 => ?_)
    obtain ⟨rfl, hx⟩ := h_16
    rw [h.2.2.2.1, atZ_in (by omega), show i.toInt.toNat = pPos P f by omega] at hx
    subst hx
    refine j_iload_n dX1_isAt_19 rfl ?_
    refine j_icmp_ne (tgt := 27) dX1_isAt_20 (by decide) (fun c_20 => ?_) (fun c_20 => ?_)
    · refine j_iconst (v := 0) dX1_isAt_27 (by decide) ?_
      refine j_iret dX1_isAt_28 rfl (rfl) (by decide) (by decide) ?_
      refine ⟨_, rfl, rfl, rfl, rfl, rfl, ?_⟩
      first
        | exact Or.inr ⟨rfl, fun z => absurd (hp.mpr z).1 (by omega)⟩
        | exact Or.inr ⟨rfl, fun z => absurd (hp.mpr z).2 c_20⟩
        | exact Or.inl ⟨rfl, hp.mp ⟨by omega, c_20⟩⟩
    · refine j_iconst (v := 1) dX1_isAt_23 (by decide) ?_
      refine j_goto (tgt := 28) dX1_isAt_24 (by decide) ?_
      refine j_iret dX1_isAt_28 rfl (rfl) (by decide) (by decide) ?_
      refine ⟨_, rfl, rfl, rfl, rfl, rfl, ?_⟩
      first
        | exact Or.inr ⟨rfl, fun z => absurd (hp.mpr z).1 (by omega)⟩
        | exact Or.inr ⟨rfl, fun z => absurd (hp.mpr z).2 c_20⟩
        | exact Or.inl ⟨rfl, hp.mp ⟨by omega, c_20⟩⟩
set_option maxRecDepth 100000 in
set_option maxHeartbeats 4000000 in
theorem sp_X1_hasRoomFor (hB : jB l s0 D) {q : Nat} {P : pL} {f : Int32} (h : MkOK T V q P) : Sp l s0 D kX1_hasRoomFor (jR 2 0 0) 0 0 [.ref q, .int f] T V X sz (qI T X sz (fun r V' => V = V' ∧ (r = 1 ∧ (P.length < 6 ∨ pHas P f) ∨ r = 0 ∧ ¬ (P.length < 6 ∨ pHas P f)))) := by
  refine Sp.of pn_X1_hasRoomFor rfl (Nat.le_of_ble_eq_true rfl) ?_
  have h6 : (6 : Int32).toInt = 6 := by decide
  refine j_aload_n dX1_hasRoomFor_0 rfl ?_
  refine j_getr dX1_hasRoomFor_1 hB fl_X1_14 (by first | exact h.1 | exact h.2.1.1 | exact h.2.2.1.1) (by rfl) ?_
  refine j_cVi dX1_hasRoomFor_4 hB mo_X3_size ml_X1_23 (sp_X3_size hB h.2.1) (by first | exact h.1 | exact h.2.1.1 | exact h.2.2.1.1) rfl rfl rfl rfl ⟨rfl, rfl, by decide, by decide⟩ (Nat.le_of_ble_eq_true rfl) ⟨by decide, by decide⟩ (fun r_4 V_4 h_4 => ?_)
  obtain ⟨rfl, hr⟩ := h_4
  rw [h.2.2.2.1, List.length_map] at hr
  refine j_bipush (v := 6) dX1_hasRoomFor_7 (by decide) ?_
  refine j_icmp_lt (tgt := 25) dX1_hasRoomFor_9 (by decide) (fun c_9 => ?_) (fun c_9 => ?_)
  · refine j_iconst (v := 1) dX1_hasRoomFor_25 (by decide) ?_
    refine j_goto (tgt := 30) dX1_hasRoomFor_26 (by decide) ?_
    refine j_iret dX1_hasRoomFor_30 rfl (rfl) (by decide) (by decide) ?_
    refine ⟨_, rfl, rfl, rfl, rfl, rfl, ?_⟩
    first
      | exact Or.inl ⟨rfl, Or.inl (by omega)⟩
      | (rcases hy with ⟨h1, h2⟩ | ⟨h1, h2⟩ <;> subst h1 <;> first | exact Or.inl ⟨rfl, Or.inr h2⟩ | exact absurd c_22 (by decide) | exact absurd rfl c_22 | exact Or.inr ⟨rfl, fun z => z.elim (fun z => absurd z (by omega)) h2⟩)
  · refine j_aload_n dX1_hasRoomFor_12 rfl ?_
    refine j_aload_n dX1_hasRoomFor_13 rfl ?_
    refine j_iload_n dX1_hasRoomFor_14 rfl ?_
    refine j_cVi dX1_hasRoomFor_15 hB mo_X1_placeOf ml_X1_31 (sp_X1_placeOf hB h) (by first | exact h.1 | exact h.2.1.1 | exact h.2.2.1.1) rfl rfl rfl rfl ⟨rfl, rfl, by decide, by decide⟩ (Nat.le_of_ble_eq_true rfl) ⟨by decide, by decide⟩ (fun r_15 V_15 h_15 => ?_)
    obtain ⟨rfl, hx⟩ := h_15
    refine j_iload_n dX1_hasRoomFor_18 rfl ?_
    refine j_cVi dX1_hasRoomFor_19 hB mo_X1_isAt ml_X1_34 (sp_X1_isAt hB h hx) (by first | exact h.1 | exact h.2.1.1 | exact h.2.2.1.1) rfl rfl rfl rfl ⟨rfl, rfl, by decide, by decide⟩ (Nat.le_of_ble_eq_true rfl) ⟨by decide, by decide⟩ (fun r_19 V_19 h_19 => ?_)
    obtain ⟨rfl, hy⟩ := h_19
    refine j_if_eq (tgt := 29) dX1_hasRoomFor_22 (by decide) (fun c_22 => ?_) (fun c_22 => ?_)
    · refine j_iconst (v := 0) dX1_hasRoomFor_29 (by decide) ?_
      refine j_iret dX1_hasRoomFor_30 rfl (rfl) (by decide) (by decide) ?_
      refine ⟨_, rfl, rfl, rfl, rfl, rfl, ?_⟩
      first
        | exact Or.inl ⟨rfl, Or.inl (by omega)⟩
        | (rcases hy with ⟨h1, h2⟩ | ⟨h1, h2⟩ <;> subst h1 <;> first | exact Or.inl ⟨rfl, Or.inr h2⟩ | exact absurd c_22 (by decide) | exact absurd rfl c_22 | exact Or.inr ⟨rfl, fun z => z.elim (fun z => absurd z (by omega)) h2⟩)
    · refine j_iconst (v := 1) dX1_hasRoomFor_25 (by decide) ?_
      refine j_goto (tgt := 30) dX1_hasRoomFor_26 (by decide) ?_
      refine j_iret dX1_hasRoomFor_30 rfl (rfl) (by decide) (by decide) ?_
      refine ⟨_, rfl, rfl, rfl, rfl, rfl, ?_⟩
      first
        | exact Or.inl ⟨rfl, Or.inl (by omega)⟩
        | (rcases hy with ⟨h1, h2⟩ | ⟨h1, h2⟩ <;> subst h1 <;> first | exact Or.inl ⟨rfl, Or.inr h2⟩ | exact absurd c_22 (by decide) | exact absurd rfl c_22 | exact Or.inr ⟨rfl, fun z => z.elim (fun z => absurd z (by omega)) h2⟩)
set_option maxRecDepth 100000 in
set_option maxHeartbeats 4000000 in
theorem sp_X1_mark (hB : jB l s0 D) {q : Nat} {P : pL} {f v : Int32} (h : MkOK T V q P) (hroom : P.length < 6 ∨ pHas P f) : Sp l s0 D kX1_mark (jR 2 0 0) 0 0 [.ref q, .int f, .int v] T V X sz (qU T X sz (fun V' => MkOK T V' q (pSet P f v) ∧ jAg V V' q (q + 5))) := by
  refine Sp.of pn_X1_mark rfl (Nat.le_of_ble_eq_true rfl) ?_
  have hle := pPos_le P f
  have hat := pPos_at (f := f) h.2.2.2.2.2
  have hset := pSet_eq (f := f) (v := v) h.2.2.2.2.2
  have hlen := h.len
  have hl1 : (Rw V (q + 1)).length = P.length := by rw [h.2.2.2.1, List.length_map]
  have hl3 : (Rw V (q + 3)).length = P.length := by rw [h.2.2.2.2.1, List.length_map]
  refine j_aload_n dX1_mark_0 rfl ?_
  refine j_iload_n dX1_mark_1 rfl ?_
  refine j_cVi dX1_mark_2 hB mo_X1_placeOf ml_X1_31 (sp_X1_placeOf hB h) (by first | exact h.1 | exact h.2.1.1 | exact h.2.2.1.1) rfl rfl rfl rfl ⟨rfl, rfl, by decide, by decide⟩ (Nat.le_of_ble_eq_true rfl) ⟨by decide, by decide⟩ (fun r_2 V_2 h_2 => ?_)
  obtain ⟨rfl, hx⟩ := h_2
  refine j_istore_n (L' := [(0, _), (1, _), (2, _), (3, _)]) dX1_mark_5 (by decide) rfl ?_
  refine j_aload_n dX1_mark_6 rfl ?_
  refine j_iload_n dX1_mark_7 rfl ?_
  refine j_iload_n dX1_mark_8 rfl ?_
  refine j_cVi dX1_mark_9 hB mo_X1_isAt ml_X1_34 (sp_X1_isAt hB h hx) (by first | exact h.1 | exact h.2.1.1 | exact h.2.2.1.1) rfl rfl rfl rfl ⟨rfl, rfl, by decide, by decide⟩ (Nat.le_of_ble_eq_true rfl) ⟨by decide, by decide⟩ (fun r_9 V_9 h_9 => ?_)
  obtain ⟨rfl, hy⟩ := h_9
  refine j_if_eq (tgt := 27) dX1_mark_12 (by decide) (fun c_12 => ?_) (fun c_12 => ?_)
  · have h2 : ¬ pHas P f := by rcases hy with ⟨h1, h2⟩ | ⟨h1, h2⟩; (exact absurd c_12 (by rw [h1]; decide)); exact h2
    refine j_aload_n dX1_mark_27 rfl ?_
    refine j_getr dX1_mark_28 hB fl_X1_14 (by first | exact h.1 | exact h.2.1.1 | exact h.2.2.1.1) (by rfl) ?_
    refine j_iload_n dX1_mark_31 rfl ?_
    refine j_iload_n dX1_mark_32 rfl ?_
    refine j_cVu dX1_mark_33 hB mo_X3_insert ml_X1_42 (sp_X3_insert hB h.2.1 (by omega) (by omega) (by rcases hy with ⟨h1, h2⟩ | ⟨h1, h2⟩ <;> first | exact absurd c_12 (by rw [h1]; decide) | (rcases hroom with z | z <;> first | omega | exact absurd z h2))) (by first | exact h.1 | exact h.2.1.1 | exact h.2.2.1.1) rfl rfl rfl rfl ⟨rfl, rfl, by decide, by decide⟩ (Nat.le_of_ble_eq_true rfl) ⟨by decide, by decide⟩ (fun V_33 h_33 => ?_)
    obtain ⟨g1, g2, g3⟩ := h_33
    have hr3 := Rw_ag g3 (show q + 3 + 2 ≤ q + 1 ∨ q + 1 + 2 ≤ q + 3 by omega)
    refine j_aload_n dX1_mark_36 rfl ?_
    refine j_getr dX1_mark_37 hB fl_X1_20 (by first | exact h.1 | exact h.2.1.1 | exact h.2.2.1.1) (by rfl) ?_
    refine j_iload_n dX1_mark_40 rfl ?_
    refine j_iload_n dX1_mark_41 rfl ?_
    refine j_cVu dX1_mark_42 hB mo_X3_insert ml_X1_42 (sp_X3_insert hB (h.2.2.1.ag g3 (by omega)) (by omega) (by rw [hr3]; omega) (by rw [hr3]; rcases hy with ⟨h1, h2⟩ | ⟨h1, h2⟩ <;> first | exact absurd c_12 (by rw [h1]; decide) | (rcases hroom with z | z <;> first | omega | exact absurd z h2))) (by first | exact h.1 | exact h.2.1.1 | exact h.2.2.1.1) rfl rfl rfl rfl ⟨rfl, rfl, by decide, by decide⟩ (Nat.le_of_ble_eq_true rfl) ⟨by decide, by decide⟩ (fun V_42 h_42 => ?_)
    obtain ⟨k1, k2, k3⟩ := h_42
    refine j_vret dX1_mark_45 rfl (by decide) (by decide) ?_
    first
      | exact ⟨rfl, rfl, rfl, rfl, ⟨h.1, g1.ag k3 (by omega), k1, by rw [hset.2 h2, Rw_ag k3 (by omega), g2, h.2.2.2.1, hx]; simp, by rw [hset.2 h2, k2, hr3, h.2.2.2.2.1, hx]; simp, pSet_srt h.2.2.2.2.2⟩, (g3.wide (by omega) (by omega)).tr (k3.wide (by omega) (by omega))⟩
      | exact ⟨rfl, rfl, rfl, rfl, ⟨h.1, h.2.1.ag g3 (by omega), g1, by rw [hset.1 h2, Rw_ag g3 (by omega), h.2.2.2.1, List.map_set]; exact (set_self (by rw [List.length_map]; exact a1) a2).symm, by rw [hset.1 h2, g2, h.2.2.2.2.1, setZ, if_pos (by omega), hx]; simp, pSet_srt h.2.2.2.2.2⟩, g3.wide (by omega) (by omega)⟩
  · have h2 : pHas P f := by rcases hy with ⟨h1, h2⟩ | ⟨h1, h2⟩; (exact h2); exact absurd h1 c_12
    obtain ⟨a1, a2⟩ := hat.mpr h2
    refine j_aload_n dX1_mark_15 rfl ?_
    refine j_getr dX1_mark_16 hB fl_X1_20 (by first | exact h.1 | exact h.2.1.1 | exact h.2.2.1.1) (by rfl) ?_
    refine j_iload_n dX1_mark_19 rfl ?_
    refine j_iload_n dX1_mark_20 rfl ?_
    refine j_cVu dX1_mark_21 hB mo_X3_put ml_X1_38 (sp_X3_put hB h.2.2.1) (by first | exact h.1 | exact h.2.1.1 | exact h.2.2.1.1) rfl rfl rfl rfl ⟨rfl, rfl, by decide, by decide⟩ (Nat.le_of_ble_eq_true rfl) ⟨by decide, by decide⟩ (fun V_21 h_21 => ?_)
    obtain ⟨g1, g2, g3⟩ := h_21
    refine j_goto (tgt := 45) dX1_mark_24 (by decide) ?_
    refine j_vret dX1_mark_45 rfl (by decide) (by decide) ?_
    first
      | exact ⟨rfl, rfl, rfl, rfl, ⟨h.1, g1.ag k3 (by omega), k1, by rw [hset.2 h2, Rw_ag k3 (by omega), g2, h.2.2.2.1, hx]; simp, by rw [hset.2 h2, k2, hr3, h.2.2.2.2.1, hx]; simp, pSet_srt h.2.2.2.2.2⟩, (g3.wide (by omega) (by omega)).tr (k3.wide (by omega) (by omega))⟩
      | exact ⟨rfl, rfl, rfl, rfl, ⟨h.1, h.2.1.ag g3 (by omega), g1, by rw [hset.1 h2, Rw_ag g3 (by omega), h.2.2.2.1, List.map_set]; exact (set_self (by rw [List.length_map]; exact a1) a2).symm, by rw [hset.1 h2, g2, h.2.2.2.2.1, setZ, if_pos (by omega), hx]; simp, pSet_srt h.2.2.2.2.2⟩, g3.wide (by omega) (by omega)⟩
set_option maxRecDepth 100000 in
set_option maxHeartbeats 4000000 in
theorem sp_X1_unmark (hB : jB l s0 D) {q : Nat} {P : pL} {f : Int32} (h : MkOK T V q P) : Sp l s0 D kX1_unmark (jR 2 0 0) 0 0 [.ref q, .int f] T V X sz (qU T X sz (fun V' => MkOK T V' q (pDel P f) ∧ jAg V V' q (q + 5))) := by
  refine Sp.of pn_X1_unmark rfl (Nat.le_of_ble_eq_true rfl) ?_
  have hle := pPos_le P f
  have hdel := pDel_eq (f := f) h.2.2.2.2.2
  refine j_aload_n dX1_unmark_0 rfl ?_
  refine j_iload_n dX1_unmark_1 rfl ?_
  refine j_cVi dX1_unmark_2 hB mo_X1_placeOf ml_X1_31 (sp_X1_placeOf hB h) (by first | exact h.1 | exact h.2.1.1 | exact h.2.2.1.1) rfl rfl rfl rfl ⟨rfl, rfl, by decide, by decide⟩ (Nat.le_of_ble_eq_true rfl) ⟨by decide, by decide⟩ (fun r_2 V_2 h_2 => ?_)
  obtain ⟨rfl, hx⟩ := h_2
  refine j_istore_n (L' := [(0, _), (1, _), (2, _)]) dX1_unmark_5 (by decide) rfl ?_
  refine j_aload_n dX1_unmark_6 rfl ?_
  refine j_iload_n dX1_unmark_7 rfl ?_
  refine j_iload_n dX1_unmark_8 rfl ?_
  refine j_cVi dX1_unmark_9 hB mo_X1_isAt ml_X1_34 (sp_X1_isAt hB h hx) (by first | exact h.1 | exact h.2.1.1 | exact h.2.2.1.1) rfl rfl rfl rfl ⟨rfl, rfl, by decide, by decide⟩ (Nat.le_of_ble_eq_true rfl) ⟨by decide, by decide⟩ (fun r_9 V_9 h_9 => ?_)
  obtain ⟨rfl, hy⟩ := h_9
  refine j_if_eq (tgt := 31) dX1_unmark_12 (by decide) (fun c_12 => ?_) (fun c_12 => ?_)
  · have h2 : ¬ pHas P f := by rcases hy with ⟨h1, h2⟩ | ⟨h1, h2⟩; (exact absurd c_12 (by rw [h1]; decide)); exact h2
    refine j_vret dX1_unmark_31 rfl (by decide) (by decide) ?_
    first
      | exact ⟨rfl, rfl, rfl, rfl, by rw [hdel.2 h2]; exact h, jAg.rf⟩
      | exact ⟨rfl, rfl, rfl, rfl, ⟨h.1, g1.ag k3 (by omega), k1, by rw [hdel.1 h2, Rw_ag k3 (by omega), g2, if_pos (by omega), h.2.2.2.1, hx]; simp only [Int.toNat_natCast]; exact map_erase _ _ _, by rw [hdel.1 h2, k2, hr3, if_pos (by omega), h.2.2.2.2.1, hx]; simp only [Int.toNat_natCast]; exact map_erase _ _ _, pDel_srt h.2.2.2.2.2⟩, (g3.wide (by omega) (by omega)).tr (k3.wide (by omega) (by omega))⟩
  · have h2 : pHas P f := by rcases hy with ⟨h1, h2⟩ | ⟨h1, h2⟩; (exact h2); exact absurd h1 c_12
    refine j_aload_n dX1_unmark_15 rfl ?_
    refine j_getr dX1_unmark_16 hB fl_X1_14 (by first | exact h.1 | exact h.2.1.1 | exact h.2.2.1.1) (by rfl) ?_
    refine j_iload_n dX1_unmark_19 rfl ?_
    refine j_cVu dX1_unmark_20 hB mo_X3_remove ml_X1_45 (sp_X3_remove hB h.2.1) (by first | exact h.1 | exact h.2.1.1 | exact h.2.2.1.1) rfl rfl rfl rfl ⟨rfl, rfl, by decide, by decide⟩ (Nat.le_of_ble_eq_true rfl) ⟨by decide, by decide⟩ (fun V_20 h_20 => ?_)
    obtain ⟨g1, g2, g3⟩ := h_20
    have hr3 := Rw_ag g3 (show q + 3 + 2 ≤ q + 1 ∨ q + 1 + 2 ≤ q + 3 by omega)
    refine j_aload_n dX1_unmark_23 rfl ?_
    refine j_getr dX1_unmark_24 hB fl_X1_20 (by first | exact h.1 | exact h.2.1.1 | exact h.2.2.1.1) (by rfl) ?_
    refine j_iload_n dX1_unmark_27 rfl ?_
    refine j_cVu dX1_unmark_28 hB mo_X3_remove ml_X1_45 (sp_X3_remove hB (h.2.2.1.ag g3 (by omega))) (by first | exact h.1 | exact h.2.1.1 | exact h.2.2.1.1) rfl rfl rfl rfl ⟨rfl, rfl, by decide, by decide⟩ (Nat.le_of_ble_eq_true rfl) ⟨by decide, by decide⟩ (fun V_28 h_28 => ?_)
    obtain ⟨k1, k2, k3⟩ := h_28
    refine j_vret dX1_unmark_31 rfl (by decide) (by decide) ?_
    first
      | exact ⟨rfl, rfl, rfl, rfl, by rw [hdel.2 h2]; exact h, jAg.rf⟩
      | exact ⟨rfl, rfl, rfl, rfl, ⟨h.1, g1.ag k3 (by omega), k1, by rw [hdel.1 h2, Rw_ag k3 (by omega), g2, if_pos (by omega), h.2.2.2.1, hx]; simp only [Int.toNat_natCast]; exact map_erase _ _ _, by rw [hdel.1 h2, k2, hr3, if_pos (by omega), h.2.2.2.2.1, hx]; simp only [Int.toNat_natCast]; exact map_erase _ _ _, pDel_srt h.2.2.2.2.2⟩, (g3.wide (by omega) (by omega)).tr (k3.wide (by omega) (by omega))⟩
set_option maxRecDepth 100000 in
set_option maxHeartbeats 4000000 in
theorem sp_X1_valueHoldingAt (hB : jB l s0 D) {q : Nat} {P : pL} {f : Int32} (h : MkOK T V q P) : Sp l s0 D kX1_valueHoldingAt (jR 1 0 0) 0 0 [.ref q, .int f] T V X sz (qI T X sz (fun r V' => V = V' ∧ r = pHold P f.toInt)) := by
  refine Sp.of pn_X1_valueHoldingAt rfl (Nat.le_of_ble_eq_true rfl) ?_
  have hlen := h.len
  have loop : ∀ (n k : Nat) (i x : Int32), i.toInt = k → k + n = P.length → pHoldF x (P.drop k) f.toInt = pHold P f.toInt → J l s0 D kX1_valueHoldingAt (jR 1 0 0) 0 0 (qI T X sz (fun r V' => V = V' ∧ r = pHold P f.toInt)) 4 [(0, .ref q), (1, .int f), (2, .int x), (3, .int i)] [] T V X sz 0 0 := by
    intro n
    induction n with
    | zero =>
      intro k i x hi hk hp
      refine j_iload_n dX1_valueHoldingAt_4 rfl ?_
      refine j_aload_n dX1_valueHoldingAt_5 rfl ?_
      refine j_getr dX1_valueHoldingAt_6 hB fl_X1_14 (by first | exact h.1 | exact h.2.1.1 | exact h.2.2.1.1) (by rfl) ?_
      refine j_cVi dX1_valueHoldingAt_9 hB mo_X3_size ml_X1_23 (sp_X3_size hB h.2.1) (by first | exact h.1 | exact h.2.1.1 | exact h.2.2.1.1) rfl rfl rfl rfl ⟨rfl, rfl, by decide, by decide⟩ (Nat.le_of_ble_eq_true rfl) ⟨by decide, by decide⟩ (fun r_9 V_9 h_9 => ?_)
      obtain ⟨rfl, hr⟩ := h_9
      rw [h.2.2.2.1, List.length_map] at hr
      refine j_icmp_ge (tgt := 42) dX1_valueHoldingAt_12 (by decide) (fun c_12 => ?_) (fun c_12 => ?_)
      · refine j_iload_n dX1_valueHoldingAt_42 rfl ?_
        refine j_iret dX1_valueHoldingAt_43 rfl (rfl) (by decide) (by decide) ?_
        exact ⟨_, rfl, rfl, rfl, rfl, rfl, by rw [List.drop_eq_nil_of_le (by omega)] at hp; exact hp⟩
      · exact absurd c_12 (by omega)
    | succ n ih =>
      intro k i x hi hk hp
      have hlt : k < P.length := by omega
      have hd := List.drop_eq_getElem_cons hlt
      have hsd : pSrt (P.drop k) := List.Pairwise.sublist (List.drop_sublist k P) h.2.2.2.2.2
      rw [hd] at hsd
      have hsd' := (List.pairwise_cons.mp hsd).1
      refine j_iload_n dX1_valueHoldingAt_4 rfl ?_
      refine j_aload_n dX1_valueHoldingAt_5 rfl ?_
      refine j_getr dX1_valueHoldingAt_6 hB fl_X1_14 (by first | exact h.1 | exact h.2.1.1 | exact h.2.2.1.1) (by rfl) ?_
      refine j_cVi dX1_valueHoldingAt_9 hB mo_X3_size ml_X1_23 (sp_X3_size hB h.2.1) (by first | exact h.1 | exact h.2.1.1 | exact h.2.2.1.1) rfl rfl rfl rfl ⟨rfl, rfl, by decide, by decide⟩ (Nat.le_of_ble_eq_true rfl) ⟨by decide, by decide⟩ (fun r_9 V_9 h_9 => ?_)
      obtain ⟨rfl, hr⟩ := h_9
      rw [h.2.2.2.1, List.length_map] at hr
      refine j_icmp_ge (tgt := 42) dX1_valueHoldingAt_12 (by decide) (fun c_12 => ?_) (fun c_12 => ?_)
      · exact absurd c_12 (by omega)
      · refine j_aload_n dX1_valueHoldingAt_15 rfl ?_
        refine j_getr dX1_valueHoldingAt_16 hB fl_X1_14 (by first | exact h.1 | exact h.2.1.1 | exact h.2.2.1.1) (by rfl) ?_
        refine j_iload_n dX1_valueHoldingAt_19 rfl ?_
        refine j_cVi dX1_valueHoldingAt_20 hB mo_X3_at ml_X1_27 (sp_X3_at hB h.2.1) (by first | exact h.1 | exact h.2.1.1 | exact h.2.2.1.1) rfl rfl rfl rfl ⟨rfl, rfl, by decide, by decide⟩ (Nat.le_of_ble_eq_true rfl) ⟨by decide, by decide⟩ (fun r_20 V_20 h_20 => ?_)
        obtain ⟨rfl, hx⟩ := h_20
        rw [h.2.2.2.1, atZ_in (by omega), show i.toInt.toNat = k by omega, (map_getD P k hlt).1] at hx
        subst hx
        refine j_iload_n dX1_valueHoldingAt_23 rfl ?_
        refine j_icmp_gt (tgt := 42) dX1_valueHoldingAt_24 (by decide) (fun c_24 => ?_) (fun c_24 => ?_)
        · refine j_iload_n dX1_valueHoldingAt_42 rfl ?_
          refine j_iret dX1_valueHoldingAt_43 rfl (rfl) (by decide) (by decide) ?_
          refine ⟨_, rfl, rfl, rfl, rfl, rfl, ?_⟩
          rw [← hp, hd]
          exact (pHoldF_hi (fun b hb => by rcases List.mem_cons.mp hb with rfl | hb <;> first | omega | (have := hsd' b hb; omega))).symm
        · refine j_aload_n dX1_valueHoldingAt_27 rfl ?_
          refine j_getr dX1_valueHoldingAt_28 hB fl_X1_20 (by first | exact h.1 | exact h.2.1.1 | exact h.2.2.1.1) (by rfl) ?_
          refine j_iload_n dX1_valueHoldingAt_31 rfl ?_
          refine j_cVi dX1_valueHoldingAt_32 hB mo_X3_at ml_X1_27 (sp_X3_at hB h.2.2.1) (by first | exact h.1 | exact h.2.1.1 | exact h.2.2.1.1) rfl rfl rfl rfl ⟨rfl, rfl, by decide, by decide⟩ (Nat.le_of_ble_eq_true rfl) ⟨by decide, by decide⟩ (fun r_32 V_32 h_32 => ?_)
          obtain ⟨rfl, hy⟩ := h_32
          rw [h.2.2.2.2.1, atZ_in (by omega), show i.toInt.toNat = k by omega, (map_getD P k hlt).2] at hy
          subst hy
          refine j_istore_n (L' := [(0, _), (1, _), (2, _), (3, _)]) dX1_valueHoldingAt_35 (by decide) rfl ?_
          refine j_iinc (v := 1) (L' := [(0, _), (1, _), (2, _), (3, _)]) dX1_valueHoldingAt_36 rfl (by decide) (by decide) rfl ?_
          refine j_goto (tgt := 4) dX1_valueHoldingAt_39 (by decide) ?_
          refine ih (k + 1) _ _ ?_ (by omega) ?_
          · rw [ti_add (by rw [ti_1]; omega) (by rw [ti_1]; omega), ti_1]; omega
          · rw [← hp, hd]
            exact (if_pos (by omega)).symm
  refine j_iconst (v := 0) dX1_valueHoldingAt_0 (by decide) ?_
  refine j_istore_n (L' := [(0, _), (1, _), (2, _)]) dX1_valueHoldingAt_1 (by decide) rfl ?_
  refine j_iconst (v := 0) dX1_valueHoldingAt_2 (by decide) ?_
  refine j_istore_n (L' := [(0, _), (1, _), (2, _), (3, _)]) dX1_valueHoldingAt_3 (by decide) rfl ?_
  exact loop P.length 0 0 0 rfl (by omega) (by simp [pHold])
set_option maxRecDepth 100000 in
set_option maxHeartbeats 4000000 in
theorem sp_X1_takeFrom (hB : jB l s0 D) {q q' : Nat} {P P' : pL} (h : MkOK T V q P) (h' : MkOK T V q' P') (hd : q + 5 ≤ q' ∨ q' + 5 ≤ q) : Sp l s0 D kX1_takeFrom (jR 2 0 0) 0 0 [.ref q, .ref q'] T V X sz (qU T X sz (fun V' => MkOK T V' q P' ∧ jAg V V' q (q + 5))) := by
  refine Sp.of pn_X1_takeFrom rfl (Nat.le_of_ble_eq_true rfl) ?_
  refine j_aload_n dX1_takeFrom_0 rfl ?_
  refine j_getr dX1_takeFrom_1 hB fl_X1_14 (by first | exact h.1 | exact h'.1 | exact h.2.1.1 | exact h.2.2.1.1) (by rfl) ?_
  refine j_aload_n dX1_takeFrom_4 rfl ?_
  refine j_getr dX1_takeFrom_5 hB fl_X1_14 (by first | exact h.1 | exact h'.1 | exact h.2.1.1 | exact h.2.2.1.1) (by rfl) ?_
  refine j_cVu dX1_takeFrom_8 hB mo_X3_takeFrom ml_X1_48 (sp_X3_takeFrom hB h.2.1 h'.2.1 (by omega) h'.2.1.le) (by first | exact h.1 | exact h'.1 | exact h.2.1.1 | exact h.2.2.1.1) rfl rfl rfl rfl ⟨rfl, rfl, by decide, by decide⟩ (Nat.le_of_ble_eq_true rfl) ⟨by decide, by decide⟩ (fun V_8 h_8 => ?_)
  obtain ⟨g1, g2, g3⟩ := h_8
  have hr3 := Rw_ag g3 (show q' + 3 + 2 ≤ q + 1 ∨ q + 1 + 2 ≤ q' + 3 by omega)
  refine j_aload_n dX1_takeFrom_11 rfl ?_
  refine j_getr dX1_takeFrom_12 hB fl_X1_20 (by first | exact h.1 | exact h'.1 | exact h.2.1.1 | exact h.2.2.1.1) (by rfl) ?_
  refine j_aload_n dX1_takeFrom_15 rfl ?_
  refine j_getr dX1_takeFrom_16 hB fl_X1_20 (by first | exact h.1 | exact h'.1 | exact h.2.1.1 | exact h.2.2.1.1) (by rfl) ?_
  refine j_cVu dX1_takeFrom_19 hB mo_X3_takeFrom ml_X1_48 (sp_X3_takeFrom hB (h.2.2.1.ag g3 (by omega)) (h'.2.2.1.ag g3 (by omega)) (by omega) (by rw [hr3]; exact h'.2.2.1.le)) (by first | exact h.1 | exact h'.1 | exact h.2.1.1 | exact h.2.2.1.1) rfl rfl rfl rfl ⟨rfl, rfl, by decide, by decide⟩ (Nat.le_of_ble_eq_true rfl) ⟨by decide, by decide⟩ (fun V_19 h_19 => ?_)
  obtain ⟨k1, k2, k3⟩ := h_19
  refine j_vret dX1_takeFrom_22 rfl (by decide) (by decide) ?_
  exact ⟨rfl, rfl, rfl, rfl, ⟨h.1, g1.ag k3 (by omega), k1, by rw [Rw_ag k3 (by omega), g2, h'.2.2.2.1], by rw [k2, hr3, h'.2.2.2.2.1], h'.2.2.2.2.2⟩, (g3.wide (by omega) (by omega)).tr (k3.wide (by omega) (by omega))⟩
end JMarks
end
section
/-! CueSheets$Reel: rows at q + 1 (lengths), q + 3 (pieces), q + 5 (strains), q + 7 (paces), marks at q + 9 (speeds), q + 14 (splices) -/
abbrev aR : Type := List Int32 × List Int32 × List Int32 × List Int32 × pL × pL
def ReelOK (T : jT) (V : jV) (q : Nat) (r : aR) : Prop := T q = some (kReel (q + 1) (q + 3) (q + 5) (q + 7) (q + 9) (q + 14)) ∧ RowOK T V (q + 1) 10 ∧ RowOK T V (q + 3) 10 ∧ RowOK T V (q + 5) 10 ∧ RowOK T V (q + 7) 10 ∧ MkOK T V (q + 9) r.2.2.2.2.1 ∧ MkOK T V (q + 14) r.2.2.2.2.2 ∧ Rw V (q + 1) = r.1 ∧ Rw V (q + 3) = r.2.1 ∧ Rw V (q + 5) = r.2.2.1 ∧ Rw V (q + 7) = r.2.2.2.1
theorem ReelOK.ag {T : jT} {V V' : jV} {q lo hi : Nat} {r : aR} (h : ReelOK T V q r) (ha : jAg V V' lo hi) (hd : q + 19 ≤ lo ∨ hi ≤ q) : ReelOK T V' q r := by
  obtain ⟨h0, h1, h2, h3, h4, h5, h6, e1, e2, e3, e4⟩ := h
  exact ⟨h0, h1.ag ha (by omega), h2.ag ha (by omega), h3.ag ha (by omega), h4.ag ha (by omega), h5.ag ha (by omega), h6.ag ha (by omega), by rw [Rw_ag ha (by omega)]; exact e1, by rw [Rw_ag ha (by omega)]; exact e2, by rw [Rw_ag ha (by omega)]; exact e3, by rw [Rw_ag ha (by omega)]; exact e4⟩
/-- a foot is lost -/
def lostB (P : pL) (f : Int) : Bool := P.any (fun b => decide (b.1.toInt ≤ f) && decide (f < b.1.toInt + b.2.toInt))
/-- how many of n feet from a on -/
def cnt (g : Int → Bool) (a : Int) : Nat → Int
  | 0 => 0
  | n + 1 => cnt g a n + (if g (a + n) = true then 1 else 0)
theorem cnt_le (g : Int → Bool) (a : Int) (n : Nat) : 0 ≤ cnt g a n ∧ cnt g a n ≤ n := by
  induction n with
  | zero => exact ⟨Int.le_refl _, Int.le_refl _⟩
  | succ n ih => unfold cnt; split <;> omega
theorem cnt_congr {g g' : Int → Bool} {a : Int} {n : Nat} (h : ∀ f, a ≤ f → f < a + n → g f = g' f) : cnt g a n = cnt g' a n := by
  induction n with
  | zero => rfl
  | succ n ih =>
    unfold cnt
    rw [ih (fun f h1 h2 => h f h1 (by omega)), h (a + n) (by omega) (by omega)]
theorem cnt_or {g g' : Int → Bool} {a : Int} {n : Nat} (h : ∀ f, a ≤ f → f < a + n → ¬ (g f = true ∧ g' f = true)) : cnt (fun f => g f || g' f) a n = cnt g a n + cnt g' a n := by
  induction n with
  | zero => rfl
  | succ n ih =>
    unfold cnt
    rw [ih (fun f h1 h2 => h f h1 (by omega))]
    have := h (a + n) (by omega) (by omega)
    cases h1 : g (a + n) <;> cases h2 : g' (a + n) <;> simp [h1, h2] at this ⊢ <;> omega
theorem cnt_iv {b e a : Int} {n : Nat} (h : a ≤ b) : cnt (fun f => decide (b ≤ f) && decide (f < e)) a n = max 0 (min e (a + n) - b) := by
  induction n with
  | zero => show (0 : Int) = _; simp; omega
  | succ n ih =>
    unfold cnt
    rw [ih]
    by_cases h1 : b ≤ a + n <;> by_cases h2 : a + n < e <;> simp [h1, h2] <;> omega
theorem cnt_0 {a : Int} {n : Nat} : cnt (fun _ => false) a n = 0 := by
  induction n with
  | zero => rfl
  | succ n ih => unfold cnt; rw [ih]; rfl
section JReel
variable {l : Launch} {s0 : State} {D : jD} {T : jT} {V : jV} {X : jX} {sz : Nat}
set_option maxRecDepth 100000 in
set_option maxHeartbeats 4000000 in
theorem sp_X2_scenes (hB : jB l s0 D) {q : Nat} {r : aR} (h : ReelOK T V q r) : Sp l s0 D kX2_scenes (jR 1 0 0) 0 0 [.ref q] T V X sz (qI T X sz (fun x V' => V = V' ∧ x.toInt = r.1.length)) := by
  refine Sp.of pn_X2_scenes rfl (Nat.le_of_ble_eq_true rfl) ?_
  refine j_aload_n dX2_scenes_0 rfl ?_
  refine j_getr dX2_scenes_1 hB fl_X2_14 (by first | exact h.1 | exact h.2.1.1 | exact h.2.2.1.1 | exact h.2.2.2.1.1 | exact h.2.2.2.2.1.1 | exact h.2.2.2.2.2.1.1 | exact h.2.2.2.2.2.2.1.1 | exact h.2.2.2.2.2.1.2.1.1 | exact h.2.2.2.2.2.1.2.2.1.1 | exact h.2.2.2.2.2.2.1.2.1.1 | exact h.2.2.2.2.2.2.1.2.2.1.1) (by rfl) ?_
  refine j_cVi dX2_scenes_4 hB mo_X3_size ml_X2_43 (sp_X3_size hB h.2.1) (by first | exact h.1 | exact h.2.1.1 | exact h.2.2.1.1 | exact h.2.2.2.1.1 | exact h.2.2.2.2.1.1 | exact h.2.2.2.2.2.1.1 | exact h.2.2.2.2.2.2.1.1 | exact h.2.2.2.2.2.1.2.1.1 | exact h.2.2.2.2.2.1.2.2.1.1 | exact h.2.2.2.2.2.2.1.2.1.1 | exact h.2.2.2.2.2.2.1.2.2.1.1) rfl rfl rfl rfl ⟨rfl, rfl, by decide, by decide⟩ (Nat.le_of_ble_eq_true rfl) ⟨by decide, by decide⟩ (fun r_4 V_4 h_4 => ?_)
  obtain ⟨rfl, hr⟩ := h_4
  refine j_iret dX2_scenes_7 rfl (rfl) (by decide) (by decide) ?_
  exact ⟨_, rfl, rfl, rfl, rfl, rfl, by rw [hr, h.2.2.2.2.2.2.2.1]⟩
set_option maxRecDepth 100000 in
set_option maxHeartbeats 4000000 in
theorem sp_X2_hasCue (hB : jB l s0 D) {q : Nat} {r : aR} {i : Int32} (h : ReelOK T V q r) : Sp l s0 D kX2_hasCue (jR 1 0 0) 0 0 [.ref q, .int i] T V X sz (qI T X sz (fun x V' => V = V' ∧ (x = 1 ∧ ¬ atZ r.2.1 i.toInt = -2000001 ∨ x = 0 ∧ atZ r.2.1 i.toInt = -2000001))) := by
  refine Sp.of pn_X2_hasCue rfl (Nat.le_of_ble_eq_true rfl) ?_
  refine j_aload_n dX2_hasCue_0 rfl ?_
  refine j_getr dX2_hasCue_1 hB fl_X2_20 (by first | exact h.1 | exact h.2.1.1 | exact h.2.2.1.1 | exact h.2.2.2.1.1 | exact h.2.2.2.2.1.1 | exact h.2.2.2.2.2.1.1 | exact h.2.2.2.2.2.2.1.1 | exact h.2.2.2.2.2.1.2.1.1 | exact h.2.2.2.2.2.1.2.2.1.1 | exact h.2.2.2.2.2.2.1.2.1.1 | exact h.2.2.2.2.2.2.1.2.2.1.1) (by rfl) ?_
  refine j_iload_n dX2_hasCue_4 rfl ?_
  refine j_cVi dX2_hasCue_5 hB mo_X3_at ml_X2_47 (sp_X3_at hB h.2.2.1) (by first | exact h.1 | exact h.2.1.1 | exact h.2.2.1.1 | exact h.2.2.2.1.1 | exact h.2.2.2.2.1.1 | exact h.2.2.2.2.2.1.1 | exact h.2.2.2.2.2.2.1.1 | exact h.2.2.2.2.2.1.2.1.1 | exact h.2.2.2.2.2.1.2.2.1.1 | exact h.2.2.2.2.2.2.1.2.1.1 | exact h.2.2.2.2.2.2.1.2.2.1.1) rfl rfl rfl rfl ⟨rfl, rfl, by decide, by decide⟩ (Nat.le_of_ble_eq_true rfl) ⟨by decide, by decide⟩ (fun r_5 V_5 h_5 => ?_)
  obtain ⟨rfl, hr⟩ := h_5
  rw [h.2.2.2.2.2.2.2.2.1] at hr
  subst hr
  refine j_ldc dX2_hasCue_8 hB kc_X2_51 ?_
  refine j_icmp_eq (tgt := 17) dX2_hasCue_10 (by decide) (fun c_10 => ?_) (fun c_10 => ?_)
  · refine j_iconst (v := 0) dX2_hasCue_17 (by decide) ?_
    refine j_iret dX2_hasCue_18 rfl (rfl) (by decide) (by decide) ?_
    refine ⟨_, rfl, rfl, rfl, rfl, rfl, ?_⟩
    first | exact Or.inl ⟨rfl, c_10⟩ | exact Or.inr ⟨rfl, c_10⟩
  · refine j_iconst (v := 1) dX2_hasCue_13 (by decide) ?_
    refine j_goto (tgt := 18) dX2_hasCue_14 (by decide) ?_
    refine j_iret dX2_hasCue_18 rfl (rfl) (by decide) (by decide) ?_
    refine ⟨_, rfl, rfl, rfl, rfl, rfl, ?_⟩
    first | exact Or.inl ⟨rfl, c_10⟩ | exact Or.inr ⟨rfl, c_10⟩
set_option maxRecDepth 100000 in
set_option maxHeartbeats 4000000 in
theorem sp_X2_extend (hB : jB l s0 D) {q : Nat} {r : aR} {a b c d : Int32} (h : ReelOK T V q r) (n1 : r.1.length < 10) (n2 : r.2.1.length < 10) (n3 : r.2.2.1.length < 10) (n4 : r.2.2.2.1.length < 10) : Sp l s0 D kX2_extend (jR 1 0 0) 0 0 [.ref q, .int a, .int b, .int c, .int d] T V X sz (qU T X sz (fun V' => ReelOK T V' q (r.1 ++ [a], r.2.1 ++ [b], r.2.2.1 ++ [c], r.2.2.2.1 ++ [d], r.2.2.2.2) ∧ jAg V V' q (q + 19))) := by
  refine Sp.of pn_X2_extend rfl (Nat.le_of_ble_eq_true rfl) ?_
  obtain ⟨h0, h1, h2, h3, h4, h5, h6, e1, e2, e3, e4⟩ := id h
  refine j_aload_n dX2_extend_0 rfl ?_
  refine j_getr dX2_extend_1 hB fl_X2_14 (by first | exact h.1 | exact h.2.1.1 | exact h.2.2.1.1 | exact h.2.2.2.1.1 | exact h.2.2.2.2.1.1 | exact h.2.2.2.2.2.1.1 | exact h.2.2.2.2.2.2.1.1 | exact h.2.2.2.2.2.1.2.1.1 | exact h.2.2.2.2.2.1.2.2.1.1 | exact h.2.2.2.2.2.2.1.2.1.1 | exact h.2.2.2.2.2.2.1.2.2.1.1) (by rfl) ?_
  refine j_iload_n dX2_extend_4 rfl ?_
  refine j_cVu dX2_extend_5 hB mo_X3_add ml_X2_52 (sp_X3_add hB (h1)) (by first | exact h.1 | exact h.2.1.1 | exact h.2.2.1.1 | exact h.2.2.2.1.1 | exact h.2.2.2.2.1.1 | exact h.2.2.2.2.2.1.1 | exact h.2.2.2.2.2.2.1.1 | exact h.2.2.2.2.2.1.2.1.1 | exact h.2.2.2.2.2.1.2.2.1.1 | exact h.2.2.2.2.2.2.1.2.1.1 | exact h.2.2.2.2.2.2.1.2.2.1.1) rfl rfl rfl rfl ⟨rfl, rfl, by decide, by decide⟩ (Nat.le_of_ble_eq_true rfl) ⟨by decide, by decide⟩ (fun V_5 h_5 => ?_)
  obtain ⟨g1, f1, a1⟩ := h_5
  refine j_aload_n dX2_extend_8 rfl ?_
  refine j_getr dX2_extend_9 hB fl_X2_20 (by first | exact h.1 | exact h.2.1.1 | exact h.2.2.1.1 | exact h.2.2.2.1.1 | exact h.2.2.2.2.1.1 | exact h.2.2.2.2.2.1.1 | exact h.2.2.2.2.2.2.1.1 | exact h.2.2.2.2.2.1.2.1.1 | exact h.2.2.2.2.2.1.2.2.1.1 | exact h.2.2.2.2.2.2.1.2.1.1 | exact h.2.2.2.2.2.2.1.2.2.1.1) (by rfl) ?_
  refine j_iload_n dX2_extend_12 rfl ?_
  refine j_cVu dX2_extend_13 hB mo_X3_add ml_X2_52 (sp_X3_add hB (h2.ag a1 (by omega))) (by first | exact h.1 | exact h.2.1.1 | exact h.2.2.1.1 | exact h.2.2.2.1.1 | exact h.2.2.2.2.1.1 | exact h.2.2.2.2.2.1.1 | exact h.2.2.2.2.2.2.1.1 | exact h.2.2.2.2.2.1.2.1.1 | exact h.2.2.2.2.2.1.2.2.1.1 | exact h.2.2.2.2.2.2.1.2.1.1 | exact h.2.2.2.2.2.2.1.2.2.1.1) rfl rfl rfl rfl ⟨rfl, rfl, by decide, by decide⟩ (Nat.le_of_ble_eq_true rfl) ⟨by decide, by decide⟩ (fun V_13 h_13 => ?_)
  obtain ⟨g2, f2, a2⟩ := h_13
  refine j_aload_n dX2_extend_16 rfl ?_
  refine j_getr dX2_extend_17 hB fl_X2_23 (by first | exact h.1 | exact h.2.1.1 | exact h.2.2.1.1 | exact h.2.2.2.1.1 | exact h.2.2.2.2.1.1 | exact h.2.2.2.2.2.1.1 | exact h.2.2.2.2.2.2.1.1 | exact h.2.2.2.2.2.1.2.1.1 | exact h.2.2.2.2.2.1.2.2.1.1 | exact h.2.2.2.2.2.2.1.2.1.1 | exact h.2.2.2.2.2.2.1.2.2.1.1) (by rfl) ?_
  refine j_iload_n dX2_extend_20 rfl ?_
  refine j_cVu dX2_extend_21 hB mo_X3_add ml_X2_52 (sp_X3_add hB ((h3.ag a1 (by omega)).ag a2 (by omega))) (by first | exact h.1 | exact h.2.1.1 | exact h.2.2.1.1 | exact h.2.2.2.1.1 | exact h.2.2.2.2.1.1 | exact h.2.2.2.2.2.1.1 | exact h.2.2.2.2.2.2.1.1 | exact h.2.2.2.2.2.1.2.1.1 | exact h.2.2.2.2.2.1.2.2.1.1 | exact h.2.2.2.2.2.2.1.2.1.1 | exact h.2.2.2.2.2.2.1.2.2.1.1) rfl rfl rfl rfl ⟨rfl, rfl, by decide, by decide⟩ (Nat.le_of_ble_eq_true rfl) ⟨by decide, by decide⟩ (fun V_21 h_21 => ?_)
  obtain ⟨g3, f3, a3⟩ := h_21
  refine j_aload_n dX2_extend_24 rfl ?_
  refine j_getr dX2_extend_25 hB fl_X2_26 (by first | exact h.1 | exact h.2.1.1 | exact h.2.2.1.1 | exact h.2.2.2.1.1 | exact h.2.2.2.2.1.1 | exact h.2.2.2.2.2.1.1 | exact h.2.2.2.2.2.2.1.1 | exact h.2.2.2.2.2.1.2.1.1 | exact h.2.2.2.2.2.1.2.2.1.1 | exact h.2.2.2.2.2.2.1.2.1.1 | exact h.2.2.2.2.2.2.1.2.2.1.1) (by rfl) ?_
  refine j_iload dX2_extend_28 rfl ?_
  refine j_cVu dX2_extend_30 hB mo_X3_add ml_X2_52 (sp_X3_add hB (((h4.ag a1 (by omega)).ag a2 (by omega)).ag a3 (by omega))) (by first | exact h.1 | exact h.2.1.1 | exact h.2.2.1.1 | exact h.2.2.2.1.1 | exact h.2.2.2.2.1.1 | exact h.2.2.2.2.2.1.1 | exact h.2.2.2.2.2.2.1.1 | exact h.2.2.2.2.2.1.2.1.1 | exact h.2.2.2.2.2.1.2.2.1.1 | exact h.2.2.2.2.2.2.1.2.1.1 | exact h.2.2.2.2.2.2.1.2.2.1.1) rfl rfl rfl rfl ⟨rfl, rfl, by decide, by decide⟩ (Nat.le_of_ble_eq_true rfl) ⟨by decide, by decide⟩ (fun V_30 h_30 => ?_)
  obtain ⟨g4, f4, a4⟩ := h_30
  refine j_vret dX2_extend_33 rfl (by decide) (by decide) ?_
  have w1 := a1.wide (show q ≤ q + 1 by omega) (show q + 1 + 2 ≤ q + 19 by omega)
  have w2 := a2.wide (show q ≤ q + 3 by omega) (show q + 3 + 2 ≤ q + 19 by omega)
  have w3 := a3.wide (show q ≤ q + 5 by omega) (show q + 5 + 2 ≤ q + 19 by omega)
  have w4 := a4.wide (show q ≤ q + 7 by omega) (show q + 7 + 2 ≤ q + 19 by omega)
  rw [e1, if_pos n1] at f1
  rw [Rw_ag a1 (by omega), e2, if_pos n2] at f2
  rw [Rw_ag a2 (by omega), Rw_ag a1 (by omega), e3, if_pos n3] at f3
  rw [Rw_ag a3 (by omega), Rw_ag a2 (by omega), Rw_ag a1 (by omega), e4, if_pos n4] at f4
  exact ⟨rfl, rfl, rfl, rfl, ⟨h0, ((g1.ag a2 (by omega)).ag a3 (by omega)).ag a4 (by omega), (g2.ag a3 (by omega)).ag a4 (by omega), g3.ag a4 (by omega), g4, (((h5.ag a1 (by omega)).ag a2 (by omega)).ag a3 (by omega)).ag a4 (by omega), (((h6.ag a1 (by omega)).ag a2 (by omega)).ag a3 (by omega)).ag a4 (by omega), by rw [Rw_ag a4 (by omega), Rw_ag a3 (by omega), Rw_ag a2 (by omega)]; exact f1, by rw [Rw_ag a4 (by omega), Rw_ag a3 (by omega)]; exact f2, by rw [Rw_ag a4 (by omega)]; exact f3, f4⟩, ((w1.tr w2).tr w3).tr w4⟩
set_option maxRecDepth 100000 in
set_option maxHeartbeats 4000000 in
theorem sp_X2_cutOut (hB : jB l s0 D) {q : Nat} {r : aR} {i : Int32} (h : ReelOK T V q r) (hi : 0 ≤ i.toInt) : Sp l s0 D kX2_cutOut (jR 2 0 0) 0 0 [.ref q, .int i] T V X sz (qU T X sz (fun V' => ReelOK T V' q (r.1.eraseIdx i.toInt.toNat, r.2.1.eraseIdx i.toInt.toNat, r.2.2.1.eraseIdx i.toInt.toNat, r.2.2.2.1.eraseIdx i.toInt.toNat, r.2.2.2.2) ∧ jAg V V' q (q + 19))) := by
  refine Sp.of pn_X2_cutOut rfl (Nat.le_of_ble_eq_true rfl) ?_
  obtain ⟨h0, h1, h2, h3, h4, h5, h6, e1, e2, e3, e4⟩ := id h
  refine j_aload_n dX2_cutOut_0 rfl ?_
  refine j_getr dX2_cutOut_1 hB fl_X2_14 (by first | exact h.1 | exact h.2.1.1 | exact h.2.2.1.1 | exact h.2.2.2.1.1 | exact h.2.2.2.2.1.1 | exact h.2.2.2.2.2.1.1 | exact h.2.2.2.2.2.2.1.1 | exact h.2.2.2.2.2.1.2.1.1 | exact h.2.2.2.2.2.1.2.2.1.1 | exact h.2.2.2.2.2.2.1.2.1.1 | exact h.2.2.2.2.2.2.1.2.2.1.1) (by rfl) ?_
  refine j_iload_n dX2_cutOut_4 rfl ?_
  refine j_cVu dX2_cutOut_5 hB mo_X3_remove ml_X2_55 (sp_X3_remove hB (h1)) (by first | exact h.1 | exact h.2.1.1 | exact h.2.2.1.1 | exact h.2.2.2.1.1 | exact h.2.2.2.2.1.1 | exact h.2.2.2.2.2.1.1 | exact h.2.2.2.2.2.2.1.1 | exact h.2.2.2.2.2.1.2.1.1 | exact h.2.2.2.2.2.1.2.2.1.1 | exact h.2.2.2.2.2.2.1.2.1.1 | exact h.2.2.2.2.2.2.1.2.2.1.1) rfl rfl rfl rfl ⟨rfl, rfl, by decide, by decide⟩ (Nat.le_of_ble_eq_true rfl) ⟨by decide, by decide⟩ (fun V_5 h_5 => ?_)
  obtain ⟨g1, f1, a1⟩ := h_5
  refine j_aload_n dX2_cutOut_8 rfl ?_
  refine j_getr dX2_cutOut_9 hB fl_X2_20 (by first | exact h.1 | exact h.2.1.1 | exact h.2.2.1.1 | exact h.2.2.2.1.1 | exact h.2.2.2.2.1.1 | exact h.2.2.2.2.2.1.1 | exact h.2.2.2.2.2.2.1.1 | exact h.2.2.2.2.2.1.2.1.1 | exact h.2.2.2.2.2.1.2.2.1.1 | exact h.2.2.2.2.2.2.1.2.1.1 | exact h.2.2.2.2.2.2.1.2.2.1.1) (by rfl) ?_
  refine j_iload_n dX2_cutOut_12 rfl ?_
  refine j_cVu dX2_cutOut_13 hB mo_X3_remove ml_X2_55 (sp_X3_remove hB (h2.ag a1 (by omega))) (by first | exact h.1 | exact h.2.1.1 | exact h.2.2.1.1 | exact h.2.2.2.1.1 | exact h.2.2.2.2.1.1 | exact h.2.2.2.2.2.1.1 | exact h.2.2.2.2.2.2.1.1 | exact h.2.2.2.2.2.1.2.1.1 | exact h.2.2.2.2.2.1.2.2.1.1 | exact h.2.2.2.2.2.2.1.2.1.1 | exact h.2.2.2.2.2.2.1.2.2.1.1) rfl rfl rfl rfl ⟨rfl, rfl, by decide, by decide⟩ (Nat.le_of_ble_eq_true rfl) ⟨by decide, by decide⟩ (fun V_13 h_13 => ?_)
  obtain ⟨g2, f2, a2⟩ := h_13
  refine j_aload_n dX2_cutOut_16 rfl ?_
  refine j_getr dX2_cutOut_17 hB fl_X2_23 (by first | exact h.1 | exact h.2.1.1 | exact h.2.2.1.1 | exact h.2.2.2.1.1 | exact h.2.2.2.2.1.1 | exact h.2.2.2.2.2.1.1 | exact h.2.2.2.2.2.2.1.1 | exact h.2.2.2.2.2.1.2.1.1 | exact h.2.2.2.2.2.1.2.2.1.1 | exact h.2.2.2.2.2.2.1.2.1.1 | exact h.2.2.2.2.2.2.1.2.2.1.1) (by rfl) ?_
  refine j_iload_n dX2_cutOut_20 rfl ?_
  refine j_cVu dX2_cutOut_21 hB mo_X3_remove ml_X2_55 (sp_X3_remove hB ((h3.ag a1 (by omega)).ag a2 (by omega))) (by first | exact h.1 | exact h.2.1.1 | exact h.2.2.1.1 | exact h.2.2.2.1.1 | exact h.2.2.2.2.1.1 | exact h.2.2.2.2.2.1.1 | exact h.2.2.2.2.2.2.1.1 | exact h.2.2.2.2.2.1.2.1.1 | exact h.2.2.2.2.2.1.2.2.1.1 | exact h.2.2.2.2.2.2.1.2.1.1 | exact h.2.2.2.2.2.2.1.2.2.1.1) rfl rfl rfl rfl ⟨rfl, rfl, by decide, by decide⟩ (Nat.le_of_ble_eq_true rfl) ⟨by decide, by decide⟩ (fun V_21 h_21 => ?_)
  obtain ⟨g3, f3, a3⟩ := h_21
  refine j_aload_n dX2_cutOut_24 rfl ?_
  refine j_getr dX2_cutOut_25 hB fl_X2_26 (by first | exact h.1 | exact h.2.1.1 | exact h.2.2.1.1 | exact h.2.2.2.1.1 | exact h.2.2.2.2.1.1 | exact h.2.2.2.2.2.1.1 | exact h.2.2.2.2.2.2.1.1 | exact h.2.2.2.2.2.1.2.1.1 | exact h.2.2.2.2.2.1.2.2.1.1 | exact h.2.2.2.2.2.2.1.2.1.1 | exact h.2.2.2.2.2.2.1.2.2.1.1) (by rfl) ?_
  refine j_iload_n dX2_cutOut_28 rfl ?_
  refine j_cVu dX2_cutOut_29 hB mo_X3_remove ml_X2_55 (sp_X3_remove hB (((h4.ag a1 (by omega)).ag a2 (by omega)).ag a3 (by omega))) (by first | exact h.1 | exact h.2.1.1 | exact h.2.2.1.1 | exact h.2.2.2.1.1 | exact h.2.2.2.2.1.1 | exact h.2.2.2.2.2.1.1 | exact h.2.2.2.2.2.2.1.1 | exact h.2.2.2.2.2.1.2.1.1 | exact h.2.2.2.2.2.1.2.2.1.1 | exact h.2.2.2.2.2.2.1.2.1.1 | exact h.2.2.2.2.2.2.1.2.2.1.1) rfl rfl rfl rfl ⟨rfl, rfl, by decide, by decide⟩ (Nat.le_of_ble_eq_true rfl) ⟨by decide, by decide⟩ (fun V_29 h_29 => ?_)
  obtain ⟨g4, f4, a4⟩ := h_29
  refine j_vret dX2_cutOut_32 rfl (by decide) (by decide) ?_
  have w1 := a1.wide (show q ≤ q + 1 by omega) (show q + 1 + 2 ≤ q + 19 by omega)
  have w2 := a2.wide (show q ≤ q + 3 by omega) (show q + 3 + 2 ≤ q + 19 by omega)
  have w3 := a3.wide (show q ≤ q + 5 by omega) (show q + 5 + 2 ≤ q + 19 by omega)
  have w4 := a4.wide (show q ≤ q + 7 by omega) (show q + 7 + 2 ≤ q + 19 by omega)
  rw [e1, if_pos hi] at f1
  rw [Rw_ag a1 (by omega), e2, if_pos hi] at f2
  rw [Rw_ag a2 (by omega), Rw_ag a1 (by omega), e3, if_pos hi] at f3
  rw [Rw_ag a3 (by omega), Rw_ag a2 (by omega), Rw_ag a1 (by omega), e4, if_pos hi] at f4
  exact ⟨rfl, rfl, rfl, rfl, ⟨h0, ((g1.ag a2 (by omega)).ag a3 (by omega)).ag a4 (by omega), (g2.ag a3 (by omega)).ag a4 (by omega), g3.ag a4 (by omega), g4, (((h5.ag a1 (by omega)).ag a2 (by omega)).ag a3 (by omega)).ag a4 (by omega), (((h6.ag a1 (by omega)).ag a2 (by omega)).ag a3 (by omega)).ag a4 (by omega), by rw [Rw_ag a4 (by omega), Rw_ag a3 (by omega), Rw_ag a2 (by omega)]; exact f1, by rw [Rw_ag a4 (by omega), Rw_ag a3 (by omega)]; exact f2, by rw [Rw_ag a4 (by omega)]; exact f3, f4⟩, ((w1.tr w2).tr w3).tr w4⟩
set_option maxRecDepth 100000 in
set_option maxHeartbeats 4000000 in
theorem sp_X2_giveCue (hB : jB l s0 D) {q : Nat} {r : aR} {i b c d : Int32} (h : ReelOK T V q r) : Sp l s0 D kX2_giveCue (jR 1 0 0) 0 0 [.ref q, .int i, .int b, .int c, .int d] T V X sz (qU T X sz (fun V' => ReelOK T V' q (r.1, setZ r.2.1 i.toInt b, setZ r.2.2.1 i.toInt c, setZ r.2.2.2.1 i.toInt d, r.2.2.2.2) ∧ jAg V V' q (q + 19))) := by
  refine Sp.of pn_X2_giveCue rfl (Nat.le_of_ble_eq_true rfl) ?_
  obtain ⟨h0, h1, h2, h3, h4, h5, h6, e1, e2, e3, e4⟩ := id h
  refine j_aload_n dX2_giveCue_0 rfl ?_
  refine j_getr dX2_giveCue_1 hB fl_X2_20 (by first | exact h.1 | exact h.2.1.1 | exact h.2.2.1.1 | exact h.2.2.2.1.1 | exact h.2.2.2.2.1.1 | exact h.2.2.2.2.2.1.1 | exact h.2.2.2.2.2.2.1.1 | exact h.2.2.2.2.2.1.2.1.1 | exact h.2.2.2.2.2.1.2.2.1.1 | exact h.2.2.2.2.2.2.1.2.1.1 | exact h.2.2.2.2.2.2.1.2.2.1.1) (by rfl) ?_
  refine j_iload_n dX2_giveCue_4 rfl ?_
  refine j_iload_n dX2_giveCue_5 rfl ?_
  refine j_cVu dX2_giveCue_6 hB mo_X3_put ml_X2_58 (sp_X3_put hB (h2)) (by first | exact h.1 | exact h.2.1.1 | exact h.2.2.1.1 | exact h.2.2.2.1.1 | exact h.2.2.2.2.1.1 | exact h.2.2.2.2.2.1.1 | exact h.2.2.2.2.2.2.1.1 | exact h.2.2.2.2.2.1.2.1.1 | exact h.2.2.2.2.2.1.2.2.1.1 | exact h.2.2.2.2.2.2.1.2.1.1 | exact h.2.2.2.2.2.2.1.2.2.1.1) rfl rfl rfl rfl ⟨rfl, rfl, by decide, by decide⟩ (Nat.le_of_ble_eq_true rfl) ⟨by decide, by decide⟩ (fun V_6 h_6 => ?_)
  obtain ⟨g2, f2, a2⟩ := h_6
  refine j_aload_n dX2_giveCue_9 rfl ?_
  refine j_getr dX2_giveCue_10 hB fl_X2_23 (by first | exact h.1 | exact h.2.1.1 | exact h.2.2.1.1 | exact h.2.2.2.1.1 | exact h.2.2.2.2.1.1 | exact h.2.2.2.2.2.1.1 | exact h.2.2.2.2.2.2.1.1 | exact h.2.2.2.2.2.1.2.1.1 | exact h.2.2.2.2.2.1.2.2.1.1 | exact h.2.2.2.2.2.2.1.2.1.1 | exact h.2.2.2.2.2.2.1.2.2.1.1) (by rfl) ?_
  refine j_iload_n dX2_giveCue_13 rfl ?_
  refine j_iload_n dX2_giveCue_14 rfl ?_
  refine j_cVu dX2_giveCue_15 hB mo_X3_put ml_X2_58 (sp_X3_put hB (h3.ag a2 (by omega))) (by first | exact h.1 | exact h.2.1.1 | exact h.2.2.1.1 | exact h.2.2.2.1.1 | exact h.2.2.2.2.1.1 | exact h.2.2.2.2.2.1.1 | exact h.2.2.2.2.2.2.1.1 | exact h.2.2.2.2.2.1.2.1.1 | exact h.2.2.2.2.2.1.2.2.1.1 | exact h.2.2.2.2.2.2.1.2.1.1 | exact h.2.2.2.2.2.2.1.2.2.1.1) rfl rfl rfl rfl ⟨rfl, rfl, by decide, by decide⟩ (Nat.le_of_ble_eq_true rfl) ⟨by decide, by decide⟩ (fun V_15 h_15 => ?_)
  obtain ⟨g3, f3, a3⟩ := h_15
  refine j_aload_n dX2_giveCue_18 rfl ?_
  refine j_getr dX2_giveCue_19 hB fl_X2_26 (by first | exact h.1 | exact h.2.1.1 | exact h.2.2.1.1 | exact h.2.2.2.1.1 | exact h.2.2.2.2.1.1 | exact h.2.2.2.2.2.1.1 | exact h.2.2.2.2.2.2.1.1 | exact h.2.2.2.2.2.1.2.1.1 | exact h.2.2.2.2.2.1.2.2.1.1 | exact h.2.2.2.2.2.2.1.2.1.1 | exact h.2.2.2.2.2.2.1.2.2.1.1) (by rfl) ?_
  refine j_iload_n dX2_giveCue_22 rfl ?_
  refine j_iload dX2_giveCue_23 rfl ?_
  refine j_cVu dX2_giveCue_25 hB mo_X3_put ml_X2_58 (sp_X3_put hB ((h4.ag a2 (by omega)).ag a3 (by omega))) (by first | exact h.1 | exact h.2.1.1 | exact h.2.2.1.1 | exact h.2.2.2.1.1 | exact h.2.2.2.2.1.1 | exact h.2.2.2.2.2.1.1 | exact h.2.2.2.2.2.2.1.1 | exact h.2.2.2.2.2.1.2.1.1 | exact h.2.2.2.2.2.1.2.2.1.1 | exact h.2.2.2.2.2.2.1.2.1.1 | exact h.2.2.2.2.2.2.1.2.2.1.1) rfl rfl rfl rfl ⟨rfl, rfl, by decide, by decide⟩ (Nat.le_of_ble_eq_true rfl) ⟨by decide, by decide⟩ (fun V_25 h_25 => ?_)
  obtain ⟨g4, f4, a4⟩ := h_25
  refine j_vret dX2_giveCue_28 rfl (by decide) (by decide) ?_
  have w2 := a2.wide (show q ≤ q + 3 by omega) (show q + 3 + 2 ≤ q + 19 by omega)
  have w3 := a3.wide (show q ≤ q + 5 by omega) (show q + 5 + 2 ≤ q + 19 by omega)
  have w4 := a4.wide (show q ≤ q + 7 by omega) (show q + 7 + 2 ≤ q + 19 by omega)
  rw [e2] at f2
  rw [Rw_ag a2 (by omega), e3] at f3
  rw [Rw_ag a3 (by omega), Rw_ag a2 (by omega), e4] at f4
  exact ⟨rfl, rfl, rfl, rfl, ⟨h0, ((h1.ag a2 (by omega)).ag a3 (by omega)).ag a4 (by omega), (g2.ag a3 (by omega)).ag a4 (by omega), g3.ag a4 (by omega), g4, ((h5.ag a2 (by omega)).ag a3 (by omega)).ag a4 (by omega), ((h6.ag a2 (by omega)).ag a3 (by omega)).ag a4 (by omega), by rw [Rw_ag a4 (by omega), Rw_ag a3 (by omega), Rw_ag a2 (by omega)]; exact e1, by rw [Rw_ag a4 (by omega), Rw_ag a3 (by omega)]; exact f2, by rw [Rw_ag a4 (by omega)]; exact f3, f4⟩, (w2.tr w3).tr w4⟩
set_option maxRecDepth 100000 in
set_option maxHeartbeats 4000000 in
theorem sp_X2_takeFrom (hB : jB l s0 D) {q q' : Nat} {r r' : aR} (h : ReelOK T V q r) (h' : ReelOK T V q' r') (hd : q + 19 ≤ q' ∨ q' + 19 ≤ q) : Sp l s0 D kX2_takeFrom (jR 3 0 0) 0 0 [.ref q, .ref q'] T V X sz (qU T X sz (fun V' => ReelOK T V' q r' ∧ jAg V V' q (q + 19))) := by
  refine Sp.of pn_X2_takeFrom rfl (Nat.le_of_ble_eq_true rfl) ?_
  obtain ⟨h0, h1, h2, h3, h4, h5, h6, e1, e2, e3, e4⟩ := id h
  obtain ⟨p0, p1, p2, p3, p4, p5, p6, d1, d2, d3, d4⟩ := id h'
  refine j_aload_n dX2_takeFrom_0 rfl ?_
  refine j_getr dX2_takeFrom_1 hB fl_X2_14 (by first | exact h.1 | exact h.2.1.1 | exact h.2.2.1.1 | exact h.2.2.2.1.1 | exact h.2.2.2.2.1.1 | exact h.2.2.2.2.2.1.1 | exact h.2.2.2.2.2.2.1.1 | exact h.2.2.2.2.2.1.2.1.1 | exact h.2.2.2.2.2.1.2.2.1.1 | exact h.2.2.2.2.2.2.1.2.1.1 | exact h.2.2.2.2.2.2.1.2.2.1.1 | exact p0 | exact p1.1 | exact p2.1 | exact p3.1 | exact p4.1 | exact p5.1 | exact p6.1) (by rfl) ?_
  refine j_aload_n dX2_takeFrom_4 rfl ?_
  refine j_getr dX2_takeFrom_5 hB fl_X2_14 (by first | exact h.1 | exact h.2.1.1 | exact h.2.2.1.1 | exact h.2.2.2.1.1 | exact h.2.2.2.2.1.1 | exact h.2.2.2.2.2.1.1 | exact h.2.2.2.2.2.2.1.1 | exact h.2.2.2.2.2.1.2.1.1 | exact h.2.2.2.2.2.1.2.2.1.1 | exact h.2.2.2.2.2.2.1.2.1.1 | exact h.2.2.2.2.2.2.1.2.2.1.1 | exact p0 | exact p1.1 | exact p2.1 | exact p3.1 | exact p4.1 | exact p5.1 | exact p6.1) (by rfl) ?_
  refine j_cVu dX2_takeFrom_8 hB mo_X3_takeFrom ml_X2_82 (sp_X3_takeFrom hB (h1) (p1) (by omega) (p1.le)) (by first | exact h.1 | exact h.2.1.1 | exact h.2.2.1.1 | exact h.2.2.2.1.1 | exact h.2.2.2.2.1.1 | exact h.2.2.2.2.2.1.1 | exact h.2.2.2.2.2.2.1.1 | exact h.2.2.2.2.2.1.2.1.1 | exact h.2.2.2.2.2.1.2.2.1.1 | exact h.2.2.2.2.2.2.1.2.1.1 | exact h.2.2.2.2.2.2.1.2.2.1.1 | exact p0 | exact p1.1 | exact p2.1 | exact p3.1 | exact p4.1 | exact p5.1 | exact p6.1) rfl rfl rfl rfl ⟨rfl, rfl, by decide, by decide⟩ (Nat.le_of_ble_eq_true rfl) ⟨by decide, by decide⟩ (fun V_8 h_8 => ?_)
  obtain ⟨g1, f1, a1⟩ := h_8
  refine j_aload_n dX2_takeFrom_11 rfl ?_
  refine j_getr dX2_takeFrom_12 hB fl_X2_20 (by first | exact h.1 | exact h.2.1.1 | exact h.2.2.1.1 | exact h.2.2.2.1.1 | exact h.2.2.2.2.1.1 | exact h.2.2.2.2.2.1.1 | exact h.2.2.2.2.2.2.1.1 | exact h.2.2.2.2.2.1.2.1.1 | exact h.2.2.2.2.2.1.2.2.1.1 | exact h.2.2.2.2.2.2.1.2.1.1 | exact h.2.2.2.2.2.2.1.2.2.1.1 | exact p0 | exact p1.1 | exact p2.1 | exact p3.1 | exact p4.1 | exact p5.1 | exact p6.1) (by rfl) ?_
  refine j_aload_n dX2_takeFrom_15 rfl ?_
  refine j_getr dX2_takeFrom_16 hB fl_X2_20 (by first | exact h.1 | exact h.2.1.1 | exact h.2.2.1.1 | exact h.2.2.2.1.1 | exact h.2.2.2.2.1.1 | exact h.2.2.2.2.2.1.1 | exact h.2.2.2.2.2.2.1.1 | exact h.2.2.2.2.2.1.2.1.1 | exact h.2.2.2.2.2.1.2.2.1.1 | exact h.2.2.2.2.2.2.1.2.1.1 | exact h.2.2.2.2.2.2.1.2.2.1.1 | exact p0 | exact p1.1 | exact p2.1 | exact p3.1 | exact p4.1 | exact p5.1 | exact p6.1) (by rfl) ?_
  refine j_cVu dX2_takeFrom_19 hB mo_X3_takeFrom ml_X2_82 (sp_X3_takeFrom hB ((h2).ag a1 (by omega)) ((p2).ag a1 (by omega)) (by omega) (by rw [Rw_ag a1 (by omega)]; exact p2.le)) (by first | exact h.1 | exact h.2.1.1 | exact h.2.2.1.1 | exact h.2.2.2.1.1 | exact h.2.2.2.2.1.1 | exact h.2.2.2.2.2.1.1 | exact h.2.2.2.2.2.2.1.1 | exact h.2.2.2.2.2.1.2.1.1 | exact h.2.2.2.2.2.1.2.2.1.1 | exact h.2.2.2.2.2.2.1.2.1.1 | exact h.2.2.2.2.2.2.1.2.2.1.1 | exact p0 | exact p1.1 | exact p2.1 | exact p3.1 | exact p4.1 | exact p5.1 | exact p6.1) rfl rfl rfl rfl ⟨rfl, rfl, by decide, by decide⟩ (Nat.le_of_ble_eq_true rfl) ⟨by decide, by decide⟩ (fun V_19 h_19 => ?_)
  obtain ⟨g2, f2, a2⟩ := h_19
  refine j_aload_n dX2_takeFrom_22 rfl ?_
  refine j_getr dX2_takeFrom_23 hB fl_X2_23 (by first | exact h.1 | exact h.2.1.1 | exact h.2.2.1.1 | exact h.2.2.2.1.1 | exact h.2.2.2.2.1.1 | exact h.2.2.2.2.2.1.1 | exact h.2.2.2.2.2.2.1.1 | exact h.2.2.2.2.2.1.2.1.1 | exact h.2.2.2.2.2.1.2.2.1.1 | exact h.2.2.2.2.2.2.1.2.1.1 | exact h.2.2.2.2.2.2.1.2.2.1.1 | exact p0 | exact p1.1 | exact p2.1 | exact p3.1 | exact p4.1 | exact p5.1 | exact p6.1) (by rfl) ?_
  refine j_aload_n dX2_takeFrom_26 rfl ?_
  refine j_getr dX2_takeFrom_27 hB fl_X2_23 (by first | exact h.1 | exact h.2.1.1 | exact h.2.2.1.1 | exact h.2.2.2.1.1 | exact h.2.2.2.2.1.1 | exact h.2.2.2.2.2.1.1 | exact h.2.2.2.2.2.2.1.1 | exact h.2.2.2.2.2.1.2.1.1 | exact h.2.2.2.2.2.1.2.2.1.1 | exact h.2.2.2.2.2.2.1.2.1.1 | exact h.2.2.2.2.2.2.1.2.2.1.1 | exact p0 | exact p1.1 | exact p2.1 | exact p3.1 | exact p4.1 | exact p5.1 | exact p6.1) (by rfl) ?_
  refine j_cVu dX2_takeFrom_30 hB mo_X3_takeFrom ml_X2_82 (sp_X3_takeFrom hB (((h3).ag a1 (by omega)).ag a2 (by omega)) (((p3).ag a1 (by omega)).ag a2 (by omega)) (by omega) (by rw [Rw_ag a2 (by omega), Rw_ag a1 (by omega)]; exact p3.le)) (by first | exact h.1 | exact h.2.1.1 | exact h.2.2.1.1 | exact h.2.2.2.1.1 | exact h.2.2.2.2.1.1 | exact h.2.2.2.2.2.1.1 | exact h.2.2.2.2.2.2.1.1 | exact h.2.2.2.2.2.1.2.1.1 | exact h.2.2.2.2.2.1.2.2.1.1 | exact h.2.2.2.2.2.2.1.2.1.1 | exact h.2.2.2.2.2.2.1.2.2.1.1 | exact p0 | exact p1.1 | exact p2.1 | exact p3.1 | exact p4.1 | exact p5.1 | exact p6.1) rfl rfl rfl rfl ⟨rfl, rfl, by decide, by decide⟩ (Nat.le_of_ble_eq_true rfl) ⟨by decide, by decide⟩ (fun V_30 h_30 => ?_)
  obtain ⟨g3, f3, a3⟩ := h_30
  refine j_aload_n dX2_takeFrom_33 rfl ?_
  refine j_getr dX2_takeFrom_34 hB fl_X2_26 (by first | exact h.1 | exact h.2.1.1 | exact h.2.2.1.1 | exact h.2.2.2.1.1 | exact h.2.2.2.2.1.1 | exact h.2.2.2.2.2.1.1 | exact h.2.2.2.2.2.2.1.1 | exact h.2.2.2.2.2.1.2.1.1 | exact h.2.2.2.2.2.1.2.2.1.1 | exact h.2.2.2.2.2.2.1.2.1.1 | exact h.2.2.2.2.2.2.1.2.2.1.1 | exact p0 | exact p1.1 | exact p2.1 | exact p3.1 | exact p4.1 | exact p5.1 | exact p6.1) (by rfl) ?_
  refine j_aload_n dX2_takeFrom_37 rfl ?_
  refine j_getr dX2_takeFrom_38 hB fl_X2_26 (by first | exact h.1 | exact h.2.1.1 | exact h.2.2.1.1 | exact h.2.2.2.1.1 | exact h.2.2.2.2.1.1 | exact h.2.2.2.2.2.1.1 | exact h.2.2.2.2.2.2.1.1 | exact h.2.2.2.2.2.1.2.1.1 | exact h.2.2.2.2.2.1.2.2.1.1 | exact h.2.2.2.2.2.2.1.2.1.1 | exact h.2.2.2.2.2.2.1.2.2.1.1 | exact p0 | exact p1.1 | exact p2.1 | exact p3.1 | exact p4.1 | exact p5.1 | exact p6.1) (by rfl) ?_
  refine j_cVu dX2_takeFrom_41 hB mo_X3_takeFrom ml_X2_82 (sp_X3_takeFrom hB ((((h4).ag a1 (by omega)).ag a2 (by omega)).ag a3 (by omega)) ((((p4).ag a1 (by omega)).ag a2 (by omega)).ag a3 (by omega)) (by omega) (by rw [Rw_ag a3 (by omega), Rw_ag a2 (by omega), Rw_ag a1 (by omega)]; exact p4.le)) (by first | exact h.1 | exact h.2.1.1 | exact h.2.2.1.1 | exact h.2.2.2.1.1 | exact h.2.2.2.2.1.1 | exact h.2.2.2.2.2.1.1 | exact h.2.2.2.2.2.2.1.1 | exact h.2.2.2.2.2.1.2.1.1 | exact h.2.2.2.2.2.1.2.2.1.1 | exact h.2.2.2.2.2.2.1.2.1.1 | exact h.2.2.2.2.2.2.1.2.2.1.1 | exact p0 | exact p1.1 | exact p2.1 | exact p3.1 | exact p4.1 | exact p5.1 | exact p6.1) rfl rfl rfl rfl ⟨rfl, rfl, by decide, by decide⟩ (Nat.le_of_ble_eq_true rfl) ⟨by decide, by decide⟩ (fun V_41 h_41 => ?_)
  obtain ⟨g4, f4, a4⟩ := h_41
  refine j_aload_n dX2_takeFrom_44 rfl ?_
  refine j_getr dX2_takeFrom_45 hB fl_X2_32 (by first | exact h.1 | exact h.2.1.1 | exact h.2.2.1.1 | exact h.2.2.2.1.1 | exact h.2.2.2.2.1.1 | exact h.2.2.2.2.2.1.1 | exact h.2.2.2.2.2.2.1.1 | exact h.2.2.2.2.2.1.2.1.1 | exact h.2.2.2.2.2.1.2.2.1.1 | exact h.2.2.2.2.2.2.1.2.1.1 | exact h.2.2.2.2.2.2.1.2.2.1.1 | exact p0 | exact p1.1 | exact p2.1 | exact p3.1 | exact p4.1 | exact p5.1 | exact p6.1) (by rfl) ?_
  refine j_aload_n dX2_takeFrom_48 rfl ?_
  refine j_getr dX2_takeFrom_49 hB fl_X2_32 (by first | exact h.1 | exact h.2.1.1 | exact h.2.2.1.1 | exact h.2.2.2.1.1 | exact h.2.2.2.2.1.1 | exact h.2.2.2.2.2.1.1 | exact h.2.2.2.2.2.2.1.1 | exact h.2.2.2.2.2.1.2.1.1 | exact h.2.2.2.2.2.1.2.2.1.1 | exact h.2.2.2.2.2.2.1.2.1.1 | exact h.2.2.2.2.2.2.1.2.2.1.1 | exact p0 | exact p1.1 | exact p2.1 | exact p3.1 | exact p4.1 | exact p5.1 | exact p6.1) (by rfl) ?_
  refine j_cVu dX2_takeFrom_52 hB mo_X1_takeFrom ml_X2_86 (sp_X1_takeFrom hB (((((h5).ag a1 (by omega)).ag a2 (by omega)).ag a3 (by omega)).ag a4 (by omega)) (((((p5).ag a1 (by omega)).ag a2 (by omega)).ag a3 (by omega)).ag a4 (by omega)) (by omega)) (by first | exact h.1 | exact h.2.1.1 | exact h.2.2.1.1 | exact h.2.2.2.1.1 | exact h.2.2.2.2.1.1 | exact h.2.2.2.2.2.1.1 | exact h.2.2.2.2.2.2.1.1 | exact h.2.2.2.2.2.1.2.1.1 | exact h.2.2.2.2.2.1.2.2.1.1 | exact h.2.2.2.2.2.2.1.2.1.1 | exact h.2.2.2.2.2.2.1.2.2.1.1 | exact p0 | exact p1.1 | exact p2.1 | exact p3.1 | exact p4.1 | exact p5.1 | exact p6.1) rfl rfl rfl rfl ⟨rfl, rfl, by decide, by decide⟩ (Nat.le_of_ble_eq_true rfl) ⟨by decide, by decide⟩ (fun V_52 h_52 => ?_)
  obtain ⟨g5, a5⟩ := h_52
  refine j_aload_n dX2_takeFrom_55 rfl ?_
  refine j_getr dX2_takeFrom_56 hB fl_X2_36 (by first | exact h.1 | exact h.2.1.1 | exact h.2.2.1.1 | exact h.2.2.2.1.1 | exact h.2.2.2.2.1.1 | exact h.2.2.2.2.2.1.1 | exact h.2.2.2.2.2.2.1.1 | exact h.2.2.2.2.2.1.2.1.1 | exact h.2.2.2.2.2.1.2.2.1.1 | exact h.2.2.2.2.2.2.1.2.1.1 | exact h.2.2.2.2.2.2.1.2.2.1.1 | exact p0 | exact p1.1 | exact p2.1 | exact p3.1 | exact p4.1 | exact p5.1 | exact p6.1) (by rfl) ?_
  refine j_aload_n dX2_takeFrom_59 rfl ?_
  refine j_getr dX2_takeFrom_60 hB fl_X2_36 (by first | exact h.1 | exact h.2.1.1 | exact h.2.2.1.1 | exact h.2.2.2.1.1 | exact h.2.2.2.2.1.1 | exact h.2.2.2.2.2.1.1 | exact h.2.2.2.2.2.2.1.1 | exact h.2.2.2.2.2.1.2.1.1 | exact h.2.2.2.2.2.1.2.2.1.1 | exact h.2.2.2.2.2.2.1.2.1.1 | exact h.2.2.2.2.2.2.1.2.2.1.1 | exact p0 | exact p1.1 | exact p2.1 | exact p3.1 | exact p4.1 | exact p5.1 | exact p6.1) (by rfl) ?_
  refine j_cVu dX2_takeFrom_63 hB mo_X1_takeFrom ml_X2_86 (sp_X1_takeFrom hB ((((((h6).ag a1 (by omega)).ag a2 (by omega)).ag a3 (by omega)).ag a4 (by omega)).ag a5 (by omega)) ((((((p6).ag a1 (by omega)).ag a2 (by omega)).ag a3 (by omega)).ag a4 (by omega)).ag a5 (by omega)) (by omega)) (by first | exact h.1 | exact h.2.1.1 | exact h.2.2.1.1 | exact h.2.2.2.1.1 | exact h.2.2.2.2.1.1 | exact h.2.2.2.2.2.1.1 | exact h.2.2.2.2.2.2.1.1 | exact h.2.2.2.2.2.1.2.1.1 | exact h.2.2.2.2.2.1.2.2.1.1 | exact h.2.2.2.2.2.2.1.2.1.1 | exact h.2.2.2.2.2.2.1.2.2.1.1 | exact p0 | exact p1.1 | exact p2.1 | exact p3.1 | exact p4.1 | exact p5.1 | exact p6.1) rfl rfl rfl rfl ⟨rfl, rfl, by decide, by decide⟩ (Nat.le_of_ble_eq_true rfl) ⟨by decide, by decide⟩ (fun V_63 h_63 => ?_)
  obtain ⟨g6, a6⟩ := h_63
  refine j_vret dX2_takeFrom_66 rfl (by decide) (by decide) ?_
  have w1 := a1.wide (show q ≤ q + 1 by omega) (show q + 1 + 2 ≤ q + 19 by omega)
  have w2 := a2.wide (show q ≤ q + 3 by omega) (show q + 3 + 2 ≤ q + 19 by omega)
  have w3 := a3.wide (show q ≤ q + 5 by omega) (show q + 5 + 2 ≤ q + 19 by omega)
  have w4 := a4.wide (show q ≤ q + 7 by omega) (show q + 7 + 2 ≤ q + 19 by omega)
  have w5 := a5.wide (show q ≤ q + 9 by omega) (show q + 9 + 5 ≤ q + 19 by omega)
  have w6 := a6.wide (show q ≤ q + 14 by omega) (show q + 14 + 5 ≤ q + 19 by omega)
  rw [d1] at f1
  rw [Rw_ag a1 (by omega), d2] at f2
  rw [Rw_ag a2 (by omega), Rw_ag a1 (by omega), d3] at f3
  rw [Rw_ag a3 (by omega), Rw_ag a2 (by omega), Rw_ag a1 (by omega), d4] at f4
  exact ⟨rfl, rfl, rfl, rfl, ⟨h0, ((((g1.ag a2 (by omega)).ag a3 (by omega)).ag a4 (by omega)).ag a5 (by omega)).ag a6 (by omega), (((g2.ag a3 (by omega)).ag a4 (by omega)).ag a5 (by omega)).ag a6 (by omega), ((g3.ag a4 (by omega)).ag a5 (by omega)).ag a6 (by omega), (g4.ag a5 (by omega)).ag a6 (by omega), g5.ag a6 (by omega), g6, by rw [Rw_ag a6 (by omega), Rw_ag a5 (by omega), Rw_ag a4 (by omega), Rw_ag a3 (by omega), Rw_ag a2 (by omega)]; exact f1, by rw [Rw_ag a6 (by omega), Rw_ag a5 (by omega), Rw_ag a4 (by omega), Rw_ag a3 (by omega)]; exact f2, by rw [Rw_ag a6 (by omega), Rw_ag a5 (by omega), Rw_ag a4 (by omega)]; exact f3, by rw [Rw_ag a6 (by omega), Rw_ag a5 (by omega)]; exact f4⟩, ((((w1.tr w2).tr w3).tr w4).tr w5).tr w6⟩
set_option maxRecDepth 100000 in
set_option maxHeartbeats 4000000 in
theorem sp_X2_footTime (hB : jB l s0 D) {v : Int32} : Sp l s0 D kX2_footTime (jR 0 0 0) 0 0 [.int v] T V X sz (qI T X sz (fun x V' => V = V' ∧ (0 < v.toInt → x.toInt = 160 / v.toInt) ∧ (v.toInt ≤ 0 → x = 0))) := by
  refine Sp.of pn_X2_footTime rfl (Nat.le_of_ble_eq_true rfl) ?_
  refine j_iload_n dX2_footTime_0 rfl ?_
  refine j_if_gt (tgt := 8) dX2_footTime_1 (by decide) (fun c_1 => ?_) (fun c_1 => ?_)
  · refine j_sipush (v := 160) dX2_footTime_8 (by decide) ?_
    refine j_iload_n dX2_footTime_11 rfl ?_
    refine j_idiv dX2_footTime_12 (fun z => by rw [z, ti_0] at c_1; omega) ?_
    refine j_iret dX2_footTime_13 rfl (rfl) (by decide) (by decide) ?_
    first
      | exact ⟨_, rfl, rfl, rfl, rfl, rfl, fun z => absurd z (by omega), fun _ => rfl⟩
      | refine ⟨_, rfl, rfl, rfl, rfl, rfl, fun z => ?_, fun z => absurd z (by omega)⟩
        rw [Int32.toInt_div_of_ne_left _ _ (by decide), show (160 : Int32).toInt = 160 by decide, Int.tdiv_eq_ediv_of_nonneg (by decide)]
  · refine j_iconst (v := 0) dX2_footTime_4 (by decide) ?_
    refine j_goto (tgt := 13) dX2_footTime_5 (by decide) ?_
    refine j_iret dX2_footTime_13 rfl (rfl) (by decide) (by decide) ?_
    first
      | exact ⟨_, rfl, rfl, rfl, rfl, rfl, fun z => absurd z (by omega), fun _ => rfl⟩
      | refine ⟨_, rfl, rfl, rfl, rfl, rfl, fun z => ?_, fun z => absurd z (by omega)⟩
        rw [Int32.toInt_div_of_ne_left _ _ (by decide), show (160 : Int32).toInt = 160 by decide, Int.tdiv_eq_ediv_of_nonneg (by decide)]
end JReel
end
section
/-! CueSheets$Reel: lostBetween -/
theorem lostB_app {A : pL} {x : Int32 × Int32} (f : Int) : lostB (A ++ [x]) f = (lostB A f || (decide (x.1.toInt ≤ f) && decide (f < x.1.toInt + x.2.toInt))) := by
  simp [lostB, List.any_append]
theorem lost_step {A : pL} {x : Int32 × Int32} (hA : ∀ b ∈ A, b.1.toInt < x.1.toInt) {a z r : Int} {N : Nat} (h0 : a + N = z) (hr : a ≤ r) (hr2 : r ≤ z)
    (I1 : ∀ f, a ≤ f → f < z → lostB A f = true → f < r) (I2 : ∀ f, a ≤ f → f < r → (∀ b ∈ A, b.1.toInt ≤ f) → lostB A f = true) {b e r' : Int} (hb : b = max x.1.toInt r) (he : e = min (x.1.toInt + x.2.toInt) z) (hr' : r' = if b < e then e else r) :
    cnt (lostB (A ++ [x])) a N = cnt (lostB A) a N + (if b < e then e - b else 0) ∧ (∀ f, a ≤ f → f < z → lostB (A ++ [x]) f = true → f < r') ∧ (∀ f, a ≤ f → f < r' → (∀ b ∈ A ++ [x], b.1.toInt ≤ f) → lostB (A ++ [x]) f = true) ∧ a ≤ r' ∧ r' ≤ z := by
  have hS := lostB_app (A := A) (x := x)
  obtain ⟨x1, x2⟩ := x
  dsimp only at hA hb he hS
  have hrr : r ≤ r' := by rw [hr']; split <;> omega
  refine ⟨?_, fun f h1 h2 h3 => ?_, fun f h1 h2 h3 => ?_, by omega, ?_⟩
  · have e1 : cnt (lostB (A ++ [(x1, x2)])) a N = cnt (fun f => lostB A f || (decide (b ≤ f) && decide (f < e))) a N := by
      apply cnt_congr
      intro f h1 h2
      rw [hS f]
      by_cases hl : lostB A f = true
      · rw [hl]; rfl
      · have hl' : lostB A f = false := by simpa using hl
        rw [hl']
        simp only [Bool.false_or]
        by_cases hs : x1.toInt ≤ f
        · have : ¬ f < r := fun z => hl (I2 f h1 z (fun b hb => by have := hA b hb; omega))
          rw [decide_eq_true hs, decide_eq_true (show b ≤ f by omega)]
          congr 1
          exact decide_eq_decide.mpr (by omega)
        · rw [decide_eq_false hs, decide_eq_false (show ¬ b ≤ f by omega)]; rfl
    rw [e1, cnt_or (g := lostB A) (g' := fun f => decide (b ≤ f) && decide (f < e)) ?_, cnt_iv (by omega)]
    · congr 1
      split <;> omega
    · rintro f h1 h2 ⟨h3, h4⟩
      have := I1 f h1 (by omega) h3
      simp at h4
      omega
  · rw [hS f] at h3
    by_cases hl : lostB A f = true
    · have := I1 f h1 h2 hl; omega
    · simp [hl] at h3
      rw [hr']
      split <;> omega
  · rw [hS f]
    by_cases hfr : f < r
    · rw [I2 f h1 hfr (fun b hb => h3 b (List.mem_append_left _ hb))]; rfl
    · have hs : x1.toInt ≤ f := by
        have := h3 (x1, x2) (List.mem_append_right _ (List.mem_singleton.mpr rfl))
        omega
      have : f < e := by rw [hr'] at h2; split at h2 <;> omega
      rw [decide_eq_true hs, decide_eq_true (show f < x1.toInt + x2.toInt by omega)]
      simp
  · rw [hr']; split <;> omega
/-- splices in their ranges -/
def slW (P : pL) : Prop := ∀ b ∈ P, 0 ≤ b.1.toInt ∧ b.1.toInt ≤ 9000 ∧ 1 ≤ b.2.toInt ∧ b.2.toInt ≤ 50
section JReel2
variable {l : Launch} {s0 : State} {D : jD} {T : jT} {V : jV} {X : jX} {sz : Nat}
set_option maxRecDepth 100000 in
set_option maxHeartbeats 4000000 in
theorem sp_X2_lostBetween (hB : jB l s0 D) {q : Nat} {r : aR} {a z : Int32} (h : ReelOK T V q r) (hw : slW r.2.2.2.2.2) (h0 : 0 ≤ a.toInt) (h1 : a.toInt ≤ z.toInt) (h2 : z.toInt ≤ 9000) : Sp l s0 D kX2_lostBetween (jR 1 0 0) 0 0 [.ref q, .int a, .int z] T V X sz (qI T X sz (fun x V' => V = V' ∧ x.toInt = cnt (lostB r.2.2.2.2.2) a.toInt (z.toInt - a.toInt).toNat)) := by
  refine Sp.of pn_X2_lostBetween rfl (Nat.le_of_ble_eq_true rfl) ?_
  generalize hP : r.2.2.2.2.2 = P at hw ⊢
  have hm := h.2.2.2.2.2.2.1
  rw [hP] at hm
  have hlen := hm.len
  generalize hN : (z.toInt - a.toInt).toNat = N
  have hcl := cnt_le (lostB P) a.toInt N
  have loop : ∀ (n k : Nat) (i x re : Int32), i.toInt = k → k + n = P.length → x.toInt = cnt (lostB (P.take k)) a.toInt N → a.toInt ≤ re.toInt → re.toInt ≤ z.toInt → (∀ f, a.toInt ≤ f → f < z.toInt → lostB (P.take k) f = true → f < re.toInt) → (∀ f, a.toInt ≤ f → f < re.toInt → (∀ b ∈ P.take k, b.1.toInt ≤ f) → lostB (P.take k) f = true) → J l s0 D kX2_lostBetween (jR 1 0 0) 0 0 (qI T X sz (fun x V' => V = V' ∧ x.toInt = cnt (lostB P) a.toInt N)) 8 [(0, .ref q), (1, .int a), (2, .int z), (3, .int x), (4, .int re), (5, .int i)] [] T V X sz 0 0 := by
    intro n
    induction n with
    | zero =>
      intro k i x re hi hk hx hr1 hr2 I1 I2
      refine j_iload dX2_lostBetween_8 rfl ?_
      refine j_aload_n dX2_lostBetween_10 rfl ?_
      refine j_getr dX2_lostBetween_11 hB fl_X2_36 (by first | exact h.1 | exact h.2.2.2.2.2.2.1.1 | exact h.2.2.2.2.2.2.1.2.1.1 | exact h.2.2.2.2.2.2.1.2.2.1.1) (by rfl) ?_
      refine j_getr dX2_lostBetween_14 hB fl_X2_61 (by first | exact h.1 | exact h.2.2.2.2.2.2.1.1 | exact h.2.2.2.2.2.2.1.2.1.1 | exact h.2.2.2.2.2.2.1.2.2.1.1) (by rfl) ?_
      refine j_cVi dX2_lostBetween_17 hB mo_X3_size ml_X2_43 (sp_X3_size hB hm.2.1) (by first | exact h.1 | exact h.2.2.2.2.2.2.1.1 | exact h.2.2.2.2.2.2.1.2.1.1 | exact h.2.2.2.2.2.2.1.2.2.1.1) rfl rfl rfl rfl ⟨rfl, rfl, by decide, by decide⟩ (Nat.le_of_ble_eq_true rfl) ⟨by decide, by decide⟩ (fun r_17 V_17 h_17 => ?_)
      obtain ⟨rfl, hr⟩ := h_17
      rw [hm.2.2.2.1, List.length_map] at hr
      refine j_icmp_ge (tgt := 92) dX2_lostBetween_20 (by decide) (fun c_20 => ?_) (fun c_20 => ?_)
      · refine j_iload_n dX2_lostBetween_92 rfl ?_
        refine j_iret dX2_lostBetween_93 rfl (rfl) (by decide) (by decide) ?_
        exact ⟨_, rfl, rfl, rfl, rfl, rfl, by rw [hx, List.take_of_length_le (by omega)]⟩
      · exact absurd c_20 (by omega)
    | succ n ih =>
      intro k i x re hi hk hx hr1 hr2 I1 I2
      have hlt : k < P.length := by omega
      have hta := (List.take_append_getElem hlt).symm
      have hsA : ∀ b ∈ P.take k, b.1.toInt < P[k].1.toInt := by
        intro b hb
        have h2 : pSrt (P.take (k + 1)) := List.Pairwise.sublist (List.take_sublist _ _) hm.2.2.2.2.2
        rw [hta] at h2
        exact (List.pairwise_append.mp h2).2.2 b hb P[k] (List.mem_singleton.mpr rfl)
      have hwk := hw P[k] (List.getElem_mem hlt)
      have hck := cnt_le (lostB (P.take k)) a.toInt N
      refine j_iload dX2_lostBetween_8 rfl ?_
      refine j_aload_n dX2_lostBetween_10 rfl ?_
      refine j_getr dX2_lostBetween_11 hB fl_X2_36 (by first | exact h.1 | exact h.2.2.2.2.2.2.1.1 | exact h.2.2.2.2.2.2.1.2.1.1 | exact h.2.2.2.2.2.2.1.2.2.1.1) (by rfl) ?_
      refine j_getr dX2_lostBetween_14 hB fl_X2_61 (by first | exact h.1 | exact h.2.2.2.2.2.2.1.1 | exact h.2.2.2.2.2.2.1.2.1.1 | exact h.2.2.2.2.2.2.1.2.2.1.1) (by rfl) ?_
      refine j_cVi dX2_lostBetween_17 hB mo_X3_size ml_X2_43 (sp_X3_size hB hm.2.1) (by first | exact h.1 | exact h.2.2.2.2.2.2.1.1 | exact h.2.2.2.2.2.2.1.2.1.1 | exact h.2.2.2.2.2.2.1.2.2.1.1) rfl rfl rfl rfl ⟨rfl, rfl, by decide, by decide⟩ (Nat.le_of_ble_eq_true rfl) ⟨by decide, by decide⟩ (fun r_17 V_17 h_17 => ?_)
      obtain ⟨rfl, hr⟩ := h_17
      rw [hm.2.2.2.1, List.length_map] at hr
      refine j_icmp_ge (tgt := 92) dX2_lostBetween_20 (by decide) (fun c_20 => ?_) (fun c_20 => ?_)
      · exact absurd c_20 (by omega)
      · refine j_aload_n dX2_lostBetween_23 rfl ?_
        refine j_getr dX2_lostBetween_24 hB fl_X2_36 (by first | exact h.1 | exact h.2.2.2.2.2.2.1.1 | exact h.2.2.2.2.2.2.1.2.1.1 | exact h.2.2.2.2.2.2.1.2.2.1.1) (by rfl) ?_
        refine j_getr dX2_lostBetween_27 hB fl_X2_61 (by first | exact h.1 | exact h.2.2.2.2.2.2.1.1 | exact h.2.2.2.2.2.2.1.2.1.1 | exact h.2.2.2.2.2.2.1.2.2.1.1) (by rfl) ?_
        refine j_iload dX2_lostBetween_30 rfl ?_
        refine j_cVi dX2_lostBetween_32 hB mo_X3_at ml_X2_47 (sp_X3_at hB hm.2.1) (by first | exact h.1 | exact h.2.2.2.2.2.2.1.1 | exact h.2.2.2.2.2.2.1.2.1.1 | exact h.2.2.2.2.2.2.1.2.2.1.1) rfl rfl rfl rfl ⟨rfl, rfl, by decide, by decide⟩ (Nat.le_of_ble_eq_true rfl) ⟨by decide, by decide⟩ (fun r_32 V_32 h_32 => ?_)
        obtain ⟨rfl, hf⟩ := h_32
        rw [hm.2.2.2.1, atZ_in (by omega), show i.toInt.toNat = k by omega, (map_getD P k hlt).1] at hf
        subst hf
        refine j_istore (L' := [(0, _), (1, _), (2, _), (3, _), (4, _), (5, _), (6, _)]) dX2_lostBetween_35 (by decide) rfl ?_
        refine j_iload dX2_lostBetween_37 rfl ?_
        refine j_iload dX2_lostBetween_39 rfl ?_
        refine j_mmax dX2_lostBetween_41 hB ml_X2_64 (by decide) (Nat.le_of_ble_eq_true rfl) (by decide) (by decide) ?_
        refine j_topi (fun b7 e7 => ?_)
        have t7 := congrArg Int32.toInt e7
        rw [ti_max] at t7
        refine j_istore (L' := [(0, _), (1, _), (2, _), (3, _), (4, _), (5, _), (6, _), (7, _)]) dX2_lostBetween_44 (by decide) rfl ?_
        refine j_iload dX2_lostBetween_46 rfl ?_
        refine j_aload_n dX2_lostBetween_48 rfl ?_
        refine j_getr dX2_lostBetween_49 hB fl_X2_36 (by first | exact h.1 | exact h.2.2.2.2.2.2.1.1 | exact h.2.2.2.2.2.2.1.2.1.1 | exact h.2.2.2.2.2.2.1.2.2.1.1) (by rfl) ?_
        refine j_getr dX2_lostBetween_52 hB fl_X2_70 (by first | exact h.1 | exact h.2.2.2.2.2.2.1.1 | exact h.2.2.2.2.2.2.1.2.1.1 | exact h.2.2.2.2.2.2.1.2.2.1.1) (by rfl) ?_
        refine j_iload dX2_lostBetween_55 rfl ?_
        refine j_cVi dX2_lostBetween_57 hB mo_X3_at ml_X2_47 (sp_X3_at hB hm.2.2.1) (by first | exact h.1 | exact h.2.2.2.2.2.2.1.1 | exact h.2.2.2.2.2.2.1.2.1.1 | exact h.2.2.2.2.2.2.1.2.2.1.1) rfl rfl rfl rfl ⟨rfl, rfl, by decide, by decide⟩ (Nat.le_of_ble_eq_true rfl) ⟨by decide, by decide⟩ (fun r_57 V_57 h_57 => ?_)
        obtain ⟨rfl, hg⟩ := h_57
        rw [hm.2.2.2.2.1, atZ_in (by omega), show i.toInt.toNat = k by omega, (map_getD P k hlt).2] at hg
        subst hg
        refine j_iadd dX2_lostBetween_60 ?_
        refine j_iload_n dX2_lostBetween_61 rfl ?_
        refine j_mmin dX2_lostBetween_62 hB ml_X2_73 (by decide) (Nat.le_of_ble_eq_true rfl) (by decide) (by decide) ?_
        refine j_topi (fun b8 e8 => ?_)
        have t8 := congrArg Int32.toInt e8
        rw [ti_min, ti_add (by omega) (by omega)] at t8
        have st := lost_step hsA (N := N) (z := z.toInt) (by omega) hr1 hr2 I1 I2 t7 t8 rfl
        rw [← hta] at st
        obtain ⟨s1, s2, s3, s4, s5⟩ := st
        refine j_istore (L' := [(0, _), (1, _), (2, _), (3, _), (4, _), (5, _), (6, _), (7, _), (8, _)]) dX2_lostBetween_65 (by decide) rfl ?_
        refine j_iload dX2_lostBetween_67 rfl ?_
        refine j_iload dX2_lostBetween_69 rfl ?_
        refine j_icmp_le (tgt := 86) dX2_lostBetween_71 (by decide) (fun c_71 => ?_) (fun c_71 => ?_)
        · rw [if_neg (by omega)] at s1 s2 s3 s4 s5
          refine j_iinc (v := 1) (L' := [(0, _), (1, _), (2, _), (3, _), (4, _), (5, _), (6, _), (7, _), (8, _)]) dX2_lostBetween_86 rfl (by decide) (by decide) rfl ?_
          refine j_goto (tgt := 8) dX2_lostBetween_89 (by decide) ?_
          refine j_sub2 (L' := [(0, .ref q), (1, .int a), (2, .int z), (3, .int _), (4, .int _), (5, .int _)]) (List.forall_mem_cons.mpr ⟨rfl, List.forall_mem_cons.mpr ⟨rfl, List.forall_mem_cons.mpr ⟨rfl, List.forall_mem_cons.mpr ⟨rfl, List.forall_mem_cons.mpr ⟨rfl, List.forall_mem_cons.mpr ⟨rfl, fun _ h9 => nomatch h9⟩⟩⟩⟩⟩⟩) ?_
          refine ih (k + 1) _ _ _ ?_ (by omega) ?_ s4 s5 s2 s3
          · rw [ti_add (by rw [ti_1]; omega) (by rw [ti_1]; omega), ti_1]; omega
          · first
            | rw [s1]; omega
            | rw [ti_add (by rw [ti_sub (by omega) (by omega)]; omega) (by rw [ti_sub (by omega) (by omega)]; omega), ti_sub (by omega) (by omega)]; omega
        · rw [if_pos (by omega)] at s1 s2 s3 s4 s5
          have hck1 := cnt_le (lostB (P.take (k + 1))) a.toInt N
          refine j_iload_n dX2_lostBetween_74 rfl ?_
          refine j_iload dX2_lostBetween_75 rfl ?_
          refine j_iload dX2_lostBetween_77 rfl ?_
          refine j_isub dX2_lostBetween_79 ?_
          refine j_iadd dX2_lostBetween_80 ?_
          refine j_istore_n (L' := [(0, _), (1, _), (2, _), (3, _), (4, _), (5, _), (6, _), (7, _), (8, _)]) dX2_lostBetween_81 (by decide) rfl ?_
          refine j_iload dX2_lostBetween_82 rfl ?_
          refine j_istore (L' := [(0, _), (1, _), (2, _), (3, _), (4, _), (5, _), (6, _), (7, _), (8, _)]) dX2_lostBetween_84 (by decide) rfl ?_
          refine j_iinc (v := 1) (L' := [(0, _), (1, _), (2, _), (3, _), (4, _), (5, _), (6, _), (7, _), (8, _)]) dX2_lostBetween_86 rfl (by decide) (by decide) rfl ?_
          refine j_goto (tgt := 8) dX2_lostBetween_89 (by decide) ?_
          refine j_sub2 (L' := [(0, .ref q), (1, .int a), (2, .int z), (3, .int _), (4, .int _), (5, .int _)]) (List.forall_mem_cons.mpr ⟨rfl, List.forall_mem_cons.mpr ⟨rfl, List.forall_mem_cons.mpr ⟨rfl, List.forall_mem_cons.mpr ⟨rfl, List.forall_mem_cons.mpr ⟨rfl, List.forall_mem_cons.mpr ⟨rfl, fun _ h9 => nomatch h9⟩⟩⟩⟩⟩⟩) ?_
          refine ih (k + 1) _ _ _ ?_ (by omega) ?_ s4 s5 s2 s3
          · rw [ti_add (by rw [ti_1]; omega) (by rw [ti_1]; omega), ti_1]; omega
          · first
            | rw [s1]; omega
            | rw [ti_add (by rw [ti_sub (by omega) (by omega)]; omega) (by rw [ti_sub (by omega) (by omega)]; omega), ti_sub (by omega) (by omega)]; omega
  refine j_iconst (v := 0) dX2_lostBetween_0 (by decide) ?_
  refine j_istore_n (L' := [(0, _), (1, _), (2, _), (3, _)]) dX2_lostBetween_1 (by decide) rfl ?_
  refine j_iload_n dX2_lostBetween_2 rfl ?_
  refine j_istore (L' := [(0, _), (1, _), (2, _), (3, _), (4, _)]) dX2_lostBetween_3 (by decide) rfl ?_
  refine j_iconst (v := 0) dX2_lostBetween_5 (by decide) ?_
  refine j_istore (L' := [(0, _), (1, _), (2, _), (3, _), (4, _), (5, _)]) dX2_lostBetween_6 (by decide) rfl ?_
  exact loop P.length 0 0 0 a rfl (by omega) (by rw [List.take_zero]; exact cnt_0.symm) (Int.le_refl _) h1 (fun f _ _ h => by simp [lostB] at h) (fun f h1 h2 _ => by omega)
end JReel2
end
section
/-! CueSheets$Reel: timeBetween -/
/-- the sum of n numbers from a on -/
def tmN (g : Int → Int) (a : Int) : Nat → Int
  | 0 => 0
  | n + 1 => tmN g a n + g (a + n)
/-- the time of a foot; w: the speed for all feet, 0: each by the speed that holds there -/
def ftm (sp sl : pL) (w : Int) (f : Int) : Int := if lostB sl f = true then 0 else 160 / (if w = 0 then (pHold sp f).toInt else w)
def spW (P : pL) : Prop := pSrt P ∧ (∃ v R, P = (0, v) :: R) ∧ ∀ b ∈ P, 0 ≤ b.1.toInt ∧ b.1.toInt ≤ 9000 ∧ 10 ≤ b.2.toInt ∧ b.2.toInt ≤ 30
theorem tmN_add (g : Int → Int) (a : Int) (m n : Nat) : tmN g a (m + n) = tmN g a m + tmN g (a + m) n := by
  induction n with
  | zero => simp [tmN]
  | succ n ih =>
    show tmN g a (m + n) + g (a + (m + n : Nat)) = tmN g a m + (tmN g (a + m) n + g (a + m + n))
    rw [ih, show a + ((m + n : Nat) : Int) = a + m + n by omega]
    omega
theorem tmN_congr {g g' : Int → Int} {a : Int} {n : Nat} (h : ∀ f, a ≤ f → f < a + n → g f = g' f) : tmN g a n = tmN g' a n := by
  induction n with
  | zero => rfl
  | succ n ih =>
    unfold tmN
    rw [ih (fun f h1 h2 => h f h1 (by omega)), h (a + n) (by omega) (by omega)]
theorem tmN_seg (q : Int → Bool) (K a : Int) (n : Nat) : tmN (fun f => if q f = true then 0 else K) a n = (n - cnt q a n) * K := by
  induction n with
  | zero => simp [tmN, cnt]
  | succ n ih =>
    unfold tmN cnt
    rw [ih]
    by_cases h : q (a + n) = true
    · rw [if_pos h, if_pos h, show ((n + 1 : Nat) : Int) - (cnt q a n + 1) = n - cnt q a n by omega]; omega
    · rw [if_neg h, if_neg h, show ((n + 1 : Nat) : Int) - (cnt q a n + 0) = (n - cnt q a n) + 1 by omega, Int.add_mul]; omega
theorem tmN_le {g : Int → Int} {a K : Int} {n : Nat} (hK : 0 ≤ K) (h : ∀ f, 0 ≤ g f ∧ g f ≤ K) : 0 ≤ tmN g a n ∧ tmN g a n ≤ n * K := by
  induction n with
  | zero => simp [tmN]
  | succ n ih =>
    have := h (a + n)
    show 0 ≤ tmN g a n + g (a + n) ∧ tmN g a n + g (a + n) ≤ _
    rw [show ((n + 1 : Nat) : Int) * K = n * K + K by rw [Int.natCast_add, Int.add_mul]; simp]
    omega
theorem div160 {v : Int} (h : 10 ≤ v) : 0 ≤ 160 / v ∧ 160 / v ≤ 16 := by
  constructor
  · exact Int.ediv_nonneg (by omega) (by omega)
  · have : 160 / v < 17 := Int.ediv_lt_of_lt_mul (by omega) (by omega)
    omega
theorem pHoldF_app {x : Int32} {A B : pL} {f : Int} : pHoldF x (A ++ B) f = pHoldF (pHoldF x A f) B f := by
  induction A generalizing x with
  | nil => rfl
  | cons a r ih =>
    show (if a.1.toInt ≤ f then pHoldF a.2 (r ++ B) f else pHoldF x (r ++ B) f) = pHoldF (if a.1.toInt ≤ f then pHoldF a.2 r f else pHoldF x r f) B f
    split <;> exact ih
theorem pHold_at {P : pL} (hs : pSrt P) {k : Nat} (hk : k < P.length) {f : Int} (h1 : P[k].1.toInt ≤ f) (h2 : ∀ h : k + 1 < P.length, f < P[k + 1].1.toInt) : pHold P f = P[k].2 := by
  have e : P = P.take k ++ P[k] :: P.drop (k + 1) := by rw [← List.drop_eq_getElem_cons hk, List.take_append_drop]
  have hR : ∀ b ∈ P.drop (k + 1), f < b.1.toInt := by
    intro b hb
    by_cases hl : k + 1 < P.length
    · have hd := List.drop_eq_getElem_cons hl
      rw [hd] at hb
      have h3 := h2 hl
      rcases List.mem_cons.mp hb with rfl | hb
      · exact h3
      · have hs2 : pSrt (P.drop (k + 1)) := List.Pairwise.sublist (List.drop_sublist _ _) hs
        rw [hd] at hs2
        have := (List.pairwise_cons.mp hs2).1 b hb
        omega
    · rw [List.drop_eq_nil_of_le (by omega)] at hb
      cases hb
  unfold pHold
  conv => lhs; rw [e]
  rw [pHoldF_app]
  show (if P[k].1.toInt ≤ f then pHoldF P[k].2 (P.drop (k + 1)) f else _) = _
  rw [if_pos h1, pHoldF_hi hR]
theorem pHold_rng {P : pL} (h : spW P) (f : Int) : 0 ≤ (pHold P f).toInt ∧ (pHold P f).toInt ≤ 30 ∧ (0 ≤ f → 10 ≤ (pHold P f).toInt) := by
  have key : ∀ (P : pL) (x : Int32), (∀ b ∈ P, 10 ≤ b.2.toInt ∧ b.2.toInt ≤ 30) → pHoldF x P f = x ∨ (10 ≤ (pHoldF x P f).toInt ∧ (pHoldF x P f).toInt ≤ 30) := by
    intro P
    induction P with
    | nil => intro x _; exact Or.inl rfl
    | cons a r ih =>
      intro x hb
      unfold pHoldF
      split
      · rcases ih a.2 (fun b h => hb b (List.mem_cons_of_mem _ h)) with e | e
        · rw [e]; exact Or.inr (hb a List.mem_cons_self)
        · exact Or.inr e
      · exact ih x (fun b h => hb b (List.mem_cons_of_mem _ h))
  obtain ⟨hs, ⟨v, R, hP⟩, hb⟩ := h
  have hb' : ∀ b ∈ P, 10 ≤ b.2.toInt ∧ b.2.toInt ≤ 30 := fun b h => ⟨(hb b h).2.2.1, (hb b h).2.2.2⟩
  refine ⟨?_, ?_, fun hf => ?_⟩
  · rcases key P 0 hb' with e | e
    · show 0 ≤ (pHoldF 0 P f).toInt; rw [e]; decide
    · show 0 ≤ (pHoldF 0 P f).toInt; omega
  · rcases key P 0 hb' with e | e
    · show (pHoldF 0 P f).toInt ≤ 30; rw [e]; decide
    · exact e.2
  · subst hP
    have hv := hb' (0, v) List.mem_cons_self
    have e1 : pHold ((0, v) :: R) f = pHoldF v R f := if_pos (by show (0 : Int32).toInt ≤ f; rw [ti_0]; exact hf)
    rw [e1]
    rcases key R v (fun b h => hb' b (List.mem_cons_of_mem _ h)) with e | e
    · rw [e]; exact hv.1
    · exact e.1
theorem ftm_rng {sp sl : pL} (h : spW sp) {w : Int} (hw : w = 0 ∨ 10 ≤ w) (f : Int) (hf : 0 ≤ f) : 0 ≤ ftm sp sl w f ∧ ftm sp sl w f ≤ 16 := by
  unfold ftm
  split
  · omega
  · split
    · exact div160 ((pHold_rng h f).2.2 hf)
    · exact div160 (by omega)
theorem tm_le {sp sl : pL} (h : spW sp) {w : Int} (hw : w = 0 ∨ 10 ≤ w) {a : Int} (ha : 0 ≤ a) (n : Nat) : 0 ≤ tmN (ftm sp sl w) a n ∧ tmN (ftm sp sl w) a n ≤ n * 16 := by
  induction n with
  | zero => simp [tmN]
  | succ n ih =>
    have := ftm_rng (sl := sl) h hw (a + n) (by omega)
    show 0 ≤ tmN (ftm sp sl w) a n + ftm sp sl w (a + n) ∧ tmN (ftm sp sl w) a n + ftm sp sl w (a + n) ≤ _
    omega
theorem mulK {x K : Int} (h0 : 0 ≤ x) (h1 : x ≤ 9000) (k0 : 0 ≤ K) (k1 : K ≤ 16) : 0 ≤ x * K ∧ x * K ≤ 144000 := by
  constructor
  · exact Int.mul_nonneg h0 k0
  · have := Int.mul_le_mul h1 k1 k0 (by omega : (0 : Int) ≤ 9000)
    omega
section JReel3
variable {l : Launch} {s0 : State} {D : jD} {T : jT} {V : jV} {X : jX} {sz : Nat}
set_option maxRecDepth 100000 in
set_option maxHeartbeats 4000000 in
theorem sp_X2_timeBetween (hB : jB l s0 D) {q : Nat} {r : aR} {a z w : Int32} (h : ReelOK T V q r) (hsl : slW r.2.2.2.2.2) (hsp : spW r.2.2.2.2.1) (h0 : 0 ≤ a.toInt) (h1 : a.toInt ≤ z.toInt) (h2 : z.toInt ≤ 9000) (hw : w = 0 ∨ 10 ≤ w.toInt) : Sp l s0 D kX2_timeBetween (jR 2 0 0) 0 0 [.ref q, .int a, .int z, .int w] T V X sz (qI T X sz (fun x V' => V = V' ∧ x.toInt = tmN (ftm r.2.2.2.2.1 r.2.2.2.2.2 w.toInt) a.toInt (z.toInt - a.toInt).toNat)) := by
  refine Sp.of pn_X2_timeBetween rfl (Nat.le_of_ble_eq_true rfl) ?_
  have hm := h.2.2.2.2.2.1
  have hsl' := hsl
  generalize hP : r.2.2.2.2.1 = P at hsp hm ⊢
  generalize hS : r.2.2.2.2.2 = S at hsl' ⊢
  have hlen := hm.len
  obtain ⟨hsrt, ⟨v0, R0, hP0⟩, hrng⟩ := id hsp
  have hpos : 0 < P.length := by rw [hP0]; simp
  have hF0 : P[0].1 = 0 := by simp [hP0]
  have hwi : w.toInt = 0 ∨ 10 ≤ w.toInt := hw.imp (fun e => by rw [e]; rfl) id
  have loop : w = 0 → ∀ (n k : Nat) (i x la : Int32), i.toInt = k → k + n = P.length → la.toInt = P.length - 1 → x.toInt = tmN (ftm P S 0) a.toInt ((if hk : k < P.length then min z.toInt (max a.toInt P[k].1.toInt) else z.toInt) - a.toInt).toNat → J l s0 D kX2_timeBetween (jR 2 0 0) 0 0 (qI T X sz (fun x V' => V = V' ∧ x.toInt = tmN (ftm P S 0) a.toInt (z.toInt - a.toInt).toNat)) 40 [(0, .ref q), (1, .int a), (2, .int z), (3, .int w), (4, .int x), (5, .int la), (6, .int i)] [] T V X sz 0 0 := by
    intro hw0 n
    induction n with
    | zero =>
      intro k i x la hi hk hla hx
      refine j_iload dX2_timeBetween_40 rfl ?_
      refine j_iload dX2_timeBetween_42 rfl ?_
      refine j_icmp_gt (tgt := 144) dX2_timeBetween_44 (by decide) (fun c_44 => ?_) (fun c_44 => ?_)
      · refine j_iload dX2_timeBetween_144 rfl ?_
        refine j_iret dX2_timeBetween_146 rfl (rfl) (by decide) (by decide) ?_
        exact ⟨_, rfl, rfl, rfl, rfl, rfl, by rw [dif_neg (by omega)] at hx; exact hx⟩
      · exact absurd c_44 (by omega)
    | succ n ih =>
      intro k i x la hi hk hla hx
      have hlt : k < P.length := by omega
      rw [dif_pos hlt] at hx
      have hrk := hrng P[k] (List.getElem_mem hlt)
      have hnext : ∀ h' : k + 1 < P.length, P[k].1.toInt < P[k + 1].1.toInt := fun h' => List.pairwise_iff_getElem.mp hsrt k (k + 1) hlt h' (by omega)
      have hxr := tm_le (sl := S) hsp (w := 0) (Or.inl rfl) h0 ((min z.toInt (max a.toInt P[k].1.toInt) - a.toInt).toNat)
      rw [← hx] at hxr
      refine j_iload dX2_timeBetween_40 rfl ?_
      refine j_iload dX2_timeBetween_42 rfl ?_
      refine j_icmp_gt (tgt := 144) dX2_timeBetween_44 (by decide) (fun c_44 => ?_) (fun c_44 => ?_)
      · exact absurd c_44 (by omega)
      · refine j_iload_n dX2_timeBetween_47 rfl ?_
        refine j_aload_n dX2_timeBetween_48 rfl ?_
        refine j_getr dX2_timeBetween_49 hB fl_X2_32 (by first | exact h.1 | exact h.2.2.2.2.2.1.1 | exact hm.1 | exact hm.2.1.1 | exact hm.2.2.1.1) (by rfl) ?_
        refine j_getr dX2_timeBetween_52 hB fl_X2_61 (by first | exact h.1 | exact h.2.2.2.2.2.1.1 | exact hm.1 | exact hm.2.1.1 | exact hm.2.2.1.1) (by rfl) ?_
        refine j_iload dX2_timeBetween_55 rfl ?_
        refine j_cVi dX2_timeBetween_57 hB mo_X3_at ml_X2_47 (sp_X3_at hB hm.2.1) (by first | exact h.1 | exact h.2.2.2.2.2.1.1 | exact hm.1 | exact hm.2.1.1 | exact hm.2.2.1.1) rfl rfl rfl rfl ⟨rfl, rfl, by decide, by decide⟩ (Nat.le_of_ble_eq_true rfl) ⟨by decide, by decide⟩ (fun r_57 V_57 h_57 => ?_)
        obtain ⟨rfl, hf⟩ := h_57
        rw [hm.2.2.2.1, atZ_in (by omega), show i.toInt.toNat = k by omega, (map_getD P k hlt).1] at hf
        subst hf
        refine j_mmax dX2_timeBetween_60 hB ml_X2_64 (by decide) (Nat.le_of_ble_eq_true rfl) (by decide) (by decide) ?_
        refine j_topi (fun b7 e7 => ?_)
        have t7 := congrArg Int32.toInt e7
        rw [ti_max] at t7
        refine j_istore (L' := [(0, _), (1, _), (2, _), (3, _), (4, _), (5, _), (6, _), (7, _)]) dX2_timeBetween_63 (by decide) rfl ?_
        refine j_iload dX2_timeBetween_65 rfl ?_
        refine j_iload dX2_timeBetween_67 rfl ?_
        refine j_icmp_ge (tgt := 93) dX2_timeBetween_69 (by decide) (fun c_69 => ?_) (fun c_69 => ?_)
        · refine j_iload_n dX2_timeBetween_93 rfl ?_
          refine j_topi (fun b8 e8 => ?_)
          have t8 := congrArg Int32.toInt e8
          try rw [ti_min] at t8
          refine j_istore (L' := [(0, _), (1, _), (2, _), (3, _), (4, _), (5, _), (6, _), (7, _), (8, _)]) dX2_timeBetween_94 (by decide) rfl ?_
          refine j_iload dX2_timeBetween_96 rfl ?_
          refine j_iload dX2_timeBetween_98 rfl ?_
          refine j_icmp_ge (tgt := 138) dX2_timeBetween_100 (by decide) (fun c_100 => ?_) (fun c_100 => ?_)
          · refine j_iinc (v := 1) (L' := [(0, _), (1, _), (2, _), (3, _), (4, _), (5, _), (6, _), (7, _), (8, _)]) dX2_timeBetween_138 rfl (by decide) (by decide) rfl ?_
            refine j_goto (tgt := 40) dX2_timeBetween_141 (by decide) ?_
            have hi1 : (i + 1).toInt = k + 1 := by rw [ti_add (by rw [ti_1]; omega) (by rw [ti_1]; omega), ti_1]; omega
            refine j_sub2 (L' := [(0, .ref q), (1, .int a), (2, .int z), (3, .int w), (4, .int _), (5, .int _), (6, .int _)]) (List.forall_mem_cons.mpr ⟨rfl, List.forall_mem_cons.mpr ⟨rfl, List.forall_mem_cons.mpr ⟨rfl, List.forall_mem_cons.mpr ⟨rfl, List.forall_mem_cons.mpr ⟨rfl, List.forall_mem_cons.mpr ⟨rfl, List.forall_mem_cons.mpr ⟨rfl, fun _ h9 => nomatch h9⟩⟩⟩⟩⟩⟩⟩) ?_
            refine ih (k + 1) _ _ _ (by rw [hi1]; rfl) (by omega) hla ?_
            rw [hx]
            congr 2
            split <;> (try have := hnext (by assumption)) <;> omega
          · refine j_iload dX2_timeBetween_103 rfl ?_
            refine j_iload dX2_timeBetween_105 rfl ?_
            refine j_iload dX2_timeBetween_107 rfl ?_
            refine j_isub dX2_timeBetween_109 ?_
            refine j_aload_n dX2_timeBetween_110 rfl ?_
            refine j_iload dX2_timeBetween_111 rfl ?_
            refine j_iload dX2_timeBetween_113 rfl ?_
            refine j_cVi dX2_timeBetween_115 hB mo_X2_lostBetween ml_X2_76 (sp_X2_lostBetween hB h hsl (by omega) (by omega) (by omega)) (by first | exact h.1 | exact h.2.2.2.2.2.1.1 | exact hm.1 | exact hm.2.1.1 | exact hm.2.2.1.1) rfl rfl rfl rfl ⟨rfl, rfl, by decide, by decide⟩ (Nat.le_of_ble_eq_true rfl) ⟨by decide, by decide⟩ (fun r_115 V_115 h_115 => ?_)
            obtain ⟨rfl, hl⟩ := h_115
            rw [hS] at hl
            refine j_isub dX2_timeBetween_118 ?_
            refine j_aload_n dX2_timeBetween_119 rfl ?_
            refine j_getr dX2_timeBetween_120 hB fl_X2_32 (by first | exact h.1 | exact h.2.2.2.2.2.1.1 | exact hm.1 | exact hm.2.1.1 | exact hm.2.2.1.1) (by rfl) ?_
            refine j_getr dX2_timeBetween_123 hB fl_X2_70 (by first | exact h.1 | exact h.2.2.2.2.2.1.1 | exact hm.1 | exact hm.2.1.1 | exact hm.2.2.1.1) (by rfl) ?_
            refine j_iload dX2_timeBetween_126 rfl ?_
            refine j_cVi dX2_timeBetween_128 hB mo_X3_at ml_X2_47 (sp_X3_at hB hm.2.2.1) (by first | exact h.1 | exact h.2.2.2.2.2.1.1 | exact hm.1 | exact hm.2.1.1 | exact hm.2.2.1.1) rfl rfl rfl rfl ⟨rfl, rfl, by decide, by decide⟩ (Nat.le_of_ble_eq_true rfl) ⟨by decide, by decide⟩ (fun r_128 V_128 h_128 => ?_)
            obtain ⟨rfl, hv⟩ := h_128
            rw [hm.2.2.2.2.1, atZ_in (by omega), show i.toInt.toNat = k by omega, (map_getD P k hlt).2] at hv
            subst hv
            refine j_cSi dX2_timeBetween_131 hB mo_X2_footTime ml_X2_79 (sp_X2_footTime hB) rfl rfl ⟨rfl, rfl, by decide, by decide⟩ (Nat.le_of_ble_eq_true rfl) ⟨by decide, by decide⟩ (fun r_131 V_131 h_131 => ?_)
            obtain ⟨rfl, hft, -⟩ := h_131
            have hft := hft (by omega)
            have hd := div160 (show 10 ≤ P[k].2.toInt by omega)
            refine j_imul dX2_timeBetween_134 ?_
            refine j_iadd dX2_timeBetween_135 ?_
            refine j_istore (L' := [(0, _), (1, _), (2, _), (3, _), (4, _), (5, _), (6, _), (7, _), (8, _)]) dX2_timeBetween_136 (by decide) rfl ?_
            refine j_iinc (v := 1) (L' := [(0, _), (1, _), (2, _), (3, _), (4, _), (5, _), (6, _), (7, _), (8, _)]) dX2_timeBetween_138 rfl (by decide) (by decide) rfl ?_
            refine j_goto (tgt := 40) dX2_timeBetween_141 (by decide) ?_
            have hi1 : (i + 1).toInt = k + 1 := by rw [ti_add (by rw [ti_1]; omega) (by rw [ti_1]; omega), ti_1]; omega
            have hcl := cnt_le (lostB S) b7.toInt (b8.toInt - b7.toInt).toNat
            have hseg : tmN (ftm P S 0) b7.toInt (b8.toInt - b7.toInt).toNat = (b8.toInt - b7.toInt - r_115.toInt) * r_131.toInt := by
              have e5 : b8.toInt - b7.toInt = ((b8.toInt - b7.toInt).toNat : Int) := by omega
              rw [hl, hft]
              generalize (b8.toInt - b7.toInt).toNat = N2 at e5 ⊢
              rw [e5, ← tmN_seg]
              apply tmN_congr
              intro f f1 f2
              unfold ftm
              rw [if_pos rfl, pHold_at hsrt hlt (by omega) (fun h' => by have := hnext h'; omega)]
            have hmul := mulK (x := b8.toInt - b7.toInt - r_115.toInt) (K := r_131.toInt) (by omega) (by omega) (by omega) (by omega)
            have m1 : (b8 - b7).toInt = b8.toInt - b7.toInt := ti_sub (by omega) (by omega)
            have m2 : (b8 - b7 - r_115).toInt = b8.toInt - b7.toInt - r_115.toInt := by rw [ti_sub (by omega) (by omega), m1]
            have m3 : ((b8 - b7 - r_115) * r_131).toInt = (b8.toInt - b7.toInt - r_115.toInt) * r_131.toInt := by rw [ti_mul (by rw [m2]; omega) (by rw [m2]; omega), m2]
            have m4 : (x + (b8 - b7 - r_115) * r_131).toInt = x.toInt + (b8.toInt - b7.toInt - r_115.toInt) * r_131.toInt := by rw [ti_add (by rw [m3]; omega) (by rw [m3]; omega), m3]
            refine j_sub2 (L' := [(0, .ref q), (1, .int a), (2, .int z), (3, .int w), (4, .int _), (5, .int _), (6, .int _)]) (List.forall_mem_cons.mpr ⟨rfl, List.forall_mem_cons.mpr ⟨rfl, List.forall_mem_cons.mpr ⟨rfl, List.forall_mem_cons.mpr ⟨rfl, List.forall_mem_cons.mpr ⟨rfl, List.forall_mem_cons.mpr ⟨rfl, List.forall_mem_cons.mpr ⟨rfl, fun _ h9 => nomatch h9⟩⟩⟩⟩⟩⟩⟩) ?_
            refine ih (k + 1) _ _ _ (by rw [hi1]; rfl) (by omega) hla ?_
            rw [m4, hx, ← hseg]
            have e1 : (min z.toInt (max a.toInt P[k].1.toInt) - a.toInt).toNat + (b8.toInt - b7.toInt).toNat = ((if hk : k + 1 < P.length then min z.toInt (max a.toInt P[k + 1].1.toInt) else z.toInt) - a.toInt).toNat := by split <;> (try have := hnext (by assumption)) <;> omega
            rw [← e1, tmN_add, show a.toInt + ((min z.toInt (max a.toInt P[k].1.toInt) - a.toInt).toNat : Int) = b7.toInt by omega]
        · refine j_iload_n dX2_timeBetween_72 rfl ?_
          refine j_aload_n dX2_timeBetween_73 rfl ?_
          refine j_getr dX2_timeBetween_74 hB fl_X2_32 (by first | exact h.1 | exact h.2.2.2.2.2.1.1 | exact hm.1 | exact hm.2.1.1 | exact hm.2.2.1.1) (by rfl) ?_
          refine j_getr dX2_timeBetween_77 hB fl_X2_61 (by first | exact h.1 | exact h.2.2.2.2.2.1.1 | exact hm.1 | exact hm.2.1.1 | exact hm.2.2.1.1) (by rfl) ?_
          refine j_iload dX2_timeBetween_80 rfl ?_
          refine j_iconst (v := 1) dX2_timeBetween_82 (by decide) ?_
          refine j_iadd dX2_timeBetween_83 ?_
          refine j_cVi dX2_timeBetween_84 hB mo_X3_at ml_X2_47 (sp_X3_at hB hm.2.1) (by first | exact h.1 | exact h.2.2.2.2.2.1.1 | exact hm.1 | exact hm.2.1.1 | exact hm.2.2.1.1) rfl rfl rfl rfl ⟨rfl, rfl, by decide, by decide⟩ (Nat.le_of_ble_eq_true rfl) ⟨by decide, by decide⟩ (fun r_84 V_84 h_84 => ?_)
          obtain ⟨rfl, hf⟩ := h_84
          have hi1 : (i + 1).toInt = k + 1 := by rw [ti_add (by rw [ti_1]; omega) (by rw [ti_1]; omega), ti_1]; omega
          have hlt1 : k + 1 < P.length := by omega
          have hnx := hnext hlt1
          have hr1 := hrng P[k + 1] (List.getElem_mem hlt1)
          rw [hm.2.2.2.1, atZ_in (by omega), show (i + 1).toInt.toNat = k + 1 by omega, (map_getD P (k + 1) hlt1).1] at hf
          subst hf
          refine j_mmin dX2_timeBetween_87 hB ml_X2_73 (by decide) (Nat.le_of_ble_eq_true rfl) (by decide) (by decide) ?_
          refine j_goto (tgt := 94) dX2_timeBetween_90 (by decide) ?_
          refine j_topi (fun b8 e8 => ?_)
          have t8 := congrArg Int32.toInt e8
          try rw [ti_min] at t8
          refine j_istore (L' := [(0, _), (1, _), (2, _), (3, _), (4, _), (5, _), (6, _), (7, _), (8, _)]) dX2_timeBetween_94 (by decide) rfl ?_
          refine j_iload dX2_timeBetween_96 rfl ?_
          refine j_iload dX2_timeBetween_98 rfl ?_
          refine j_icmp_ge (tgt := 138) dX2_timeBetween_100 (by decide) (fun c_100 => ?_) (fun c_100 => ?_)
          · refine j_iinc (v := 1) (L' := [(0, _), (1, _), (2, _), (3, _), (4, _), (5, _), (6, _), (7, _), (8, _)]) dX2_timeBetween_138 rfl (by decide) (by decide) rfl ?_
            refine j_goto (tgt := 40) dX2_timeBetween_141 (by decide) ?_
            have hi1 : (i + 1).toInt = k + 1 := by rw [ti_add (by rw [ti_1]; omega) (by rw [ti_1]; omega), ti_1]; omega
            refine j_sub2 (L' := [(0, .ref q), (1, .int a), (2, .int z), (3, .int w), (4, .int _), (5, .int _), (6, .int _)]) (List.forall_mem_cons.mpr ⟨rfl, List.forall_mem_cons.mpr ⟨rfl, List.forall_mem_cons.mpr ⟨rfl, List.forall_mem_cons.mpr ⟨rfl, List.forall_mem_cons.mpr ⟨rfl, List.forall_mem_cons.mpr ⟨rfl, List.forall_mem_cons.mpr ⟨rfl, fun _ h9 => nomatch h9⟩⟩⟩⟩⟩⟩⟩) ?_
            refine ih (k + 1) _ _ _ (by rw [hi1]; rfl) (by omega) hla ?_
            rw [hx]
            congr 2
            split <;> (try have := hnext (by assumption)) <;> omega
          · refine j_iload dX2_timeBetween_103 rfl ?_
            refine j_iload dX2_timeBetween_105 rfl ?_
            refine j_iload dX2_timeBetween_107 rfl ?_
            refine j_isub dX2_timeBetween_109 ?_
            refine j_aload_n dX2_timeBetween_110 rfl ?_
            refine j_iload dX2_timeBetween_111 rfl ?_
            refine j_iload dX2_timeBetween_113 rfl ?_
            refine j_cVi dX2_timeBetween_115 hB mo_X2_lostBetween ml_X2_76 (sp_X2_lostBetween hB h hsl (by omega) (by omega) (by omega)) (by first | exact h.1 | exact h.2.2.2.2.2.1.1 | exact hm.1 | exact hm.2.1.1 | exact hm.2.2.1.1) rfl rfl rfl rfl ⟨rfl, rfl, by decide, by decide⟩ (Nat.le_of_ble_eq_true rfl) ⟨by decide, by decide⟩ (fun r_115 V_115 h_115 => ?_)
            obtain ⟨rfl, hl⟩ := h_115
            rw [hS] at hl
            refine j_isub dX2_timeBetween_118 ?_
            refine j_aload_n dX2_timeBetween_119 rfl ?_
            refine j_getr dX2_timeBetween_120 hB fl_X2_32 (by first | exact h.1 | exact h.2.2.2.2.2.1.1 | exact hm.1 | exact hm.2.1.1 | exact hm.2.2.1.1) (by rfl) ?_
            refine j_getr dX2_timeBetween_123 hB fl_X2_70 (by first | exact h.1 | exact h.2.2.2.2.2.1.1 | exact hm.1 | exact hm.2.1.1 | exact hm.2.2.1.1) (by rfl) ?_
            refine j_iload dX2_timeBetween_126 rfl ?_
            refine j_cVi dX2_timeBetween_128 hB mo_X3_at ml_X2_47 (sp_X3_at hB hm.2.2.1) (by first | exact h.1 | exact h.2.2.2.2.2.1.1 | exact hm.1 | exact hm.2.1.1 | exact hm.2.2.1.1) rfl rfl rfl rfl ⟨rfl, rfl, by decide, by decide⟩ (Nat.le_of_ble_eq_true rfl) ⟨by decide, by decide⟩ (fun r_128 V_128 h_128 => ?_)
            obtain ⟨rfl, hv⟩ := h_128
            rw [hm.2.2.2.2.1, atZ_in (by omega), show i.toInt.toNat = k by omega, (map_getD P k hlt).2] at hv
            subst hv
            refine j_cSi dX2_timeBetween_131 hB mo_X2_footTime ml_X2_79 (sp_X2_footTime hB) rfl rfl ⟨rfl, rfl, by decide, by decide⟩ (Nat.le_of_ble_eq_true rfl) ⟨by decide, by decide⟩ (fun r_131 V_131 h_131 => ?_)
            obtain ⟨rfl, hft, -⟩ := h_131
            have hft := hft (by omega)
            have hd := div160 (show 10 ≤ P[k].2.toInt by omega)
            refine j_imul dX2_timeBetween_134 ?_
            refine j_iadd dX2_timeBetween_135 ?_
            refine j_istore (L' := [(0, _), (1, _), (2, _), (3, _), (4, _), (5, _), (6, _), (7, _), (8, _)]) dX2_timeBetween_136 (by decide) rfl ?_
            refine j_iinc (v := 1) (L' := [(0, _), (1, _), (2, _), (3, _), (4, _), (5, _), (6, _), (7, _), (8, _)]) dX2_timeBetween_138 rfl (by decide) (by decide) rfl ?_
            refine j_goto (tgt := 40) dX2_timeBetween_141 (by decide) ?_
            have hi1 : (i + 1).toInt = k + 1 := by rw [ti_add (by rw [ti_1]; omega) (by rw [ti_1]; omega), ti_1]; omega
            have hcl := cnt_le (lostB S) b7.toInt (b8.toInt - b7.toInt).toNat
            have hseg : tmN (ftm P S 0) b7.toInt (b8.toInt - b7.toInt).toNat = (b8.toInt - b7.toInt - r_115.toInt) * r_131.toInt := by
              have e5 : b8.toInt - b7.toInt = ((b8.toInt - b7.toInt).toNat : Int) := by omega
              rw [hl, hft]
              generalize (b8.toInt - b7.toInt).toNat = N2 at e5 ⊢
              rw [e5, ← tmN_seg]
              apply tmN_congr
              intro f f1 f2
              unfold ftm
              rw [if_pos rfl, pHold_at hsrt hlt (by omega) (fun h' => by have := hnext h'; omega)]
            have hmul := mulK (x := b8.toInt - b7.toInt - r_115.toInt) (K := r_131.toInt) (by omega) (by omega) (by omega) (by omega)
            have m1 : (b8 - b7).toInt = b8.toInt - b7.toInt := ti_sub (by omega) (by omega)
            have m2 : (b8 - b7 - r_115).toInt = b8.toInt - b7.toInt - r_115.toInt := by rw [ti_sub (by omega) (by omega), m1]
            have m3 : ((b8 - b7 - r_115) * r_131).toInt = (b8.toInt - b7.toInt - r_115.toInt) * r_131.toInt := by rw [ti_mul (by rw [m2]; omega) (by rw [m2]; omega), m2]
            have m4 : (x + (b8 - b7 - r_115) * r_131).toInt = x.toInt + (b8.toInt - b7.toInt - r_115.toInt) * r_131.toInt := by rw [ti_add (by rw [m3]; omega) (by rw [m3]; omega), m3]
            refine j_sub2 (L' := [(0, .ref q), (1, .int a), (2, .int z), (3, .int w), (4, .int _), (5, .int _), (6, .int _)]) (List.forall_mem_cons.mpr ⟨rfl, List.forall_mem_cons.mpr ⟨rfl, List.forall_mem_cons.mpr ⟨rfl, List.forall_mem_cons.mpr ⟨rfl, List.forall_mem_cons.mpr ⟨rfl, List.forall_mem_cons.mpr ⟨rfl, List.forall_mem_cons.mpr ⟨rfl, fun _ h9 => nomatch h9⟩⟩⟩⟩⟩⟩⟩) ?_
            refine ih (k + 1) _ _ _ (by rw [hi1]; rfl) (by omega) hla ?_
            rw [m4, hx, ← hseg]
            have e1 : (min z.toInt (max a.toInt P[k].1.toInt) - a.toInt).toNat + (b8.toInt - b7.toInt).toNat = ((if hk : k + 1 < P.length then min z.toInt (max a.toInt P[k + 1].1.toInt) else z.toInt) - a.toInt).toNat := by split <;> (try have := hnext (by assumption)) <;> omega
            rw [← e1, tmN_add, show a.toInt + ((min z.toInt (max a.toInt P[k].1.toInt) - a.toInt).toNat : Int) = b7.toInt by omega]
  refine j_iload_n dX2_timeBetween_0 rfl ?_
  refine j_if_eq (tgt := 20) dX2_timeBetween_1 (by decide) (fun c_1 => ?_) (fun c_1 => ?_)
  · refine j_iconst (v := 0) dX2_timeBetween_20 (by decide) ?_
    refine j_istore (L' := [(0, _), (1, _), (2, _), (3, _), (4, _)]) dX2_timeBetween_21 (by decide) rfl ?_
    refine j_aload_n dX2_timeBetween_23 rfl ?_
    refine j_getr dX2_timeBetween_24 hB fl_X2_32 (by first | exact h.1 | exact h.2.2.2.2.2.1.1 | exact hm.1 | exact hm.2.1.1 | exact hm.2.2.1.1) (by rfl) ?_
    refine j_getr dX2_timeBetween_27 hB fl_X2_61 (by first | exact h.1 | exact h.2.2.2.2.2.1.1 | exact hm.1 | exact hm.2.1.1 | exact hm.2.2.1.1) (by rfl) ?_
    refine j_cVi dX2_timeBetween_30 hB mo_X3_size ml_X2_43 (sp_X3_size hB hm.2.1) (by first | exact h.1 | exact h.2.2.2.2.2.1.1 | exact hm.1 | exact hm.2.1.1 | exact hm.2.2.1.1) rfl rfl rfl rfl ⟨rfl, rfl, by decide, by decide⟩ (Nat.le_of_ble_eq_true rfl) ⟨by decide, by decide⟩ (fun r_30 V_30 h_30 => ?_)
    obtain ⟨rfl, hr⟩ := h_30
    rw [hm.2.2.2.1, List.length_map] at hr
    refine j_iconst (v := 1) dX2_timeBetween_33 (by decide) ?_
    refine j_isub dX2_timeBetween_34 ?_
    refine j_istore (L' := [(0, _), (1, _), (2, _), (3, _), (4, _), (5, _)]) dX2_timeBetween_35 (by decide) rfl ?_
    refine j_iconst (v := 0) dX2_timeBetween_37 (by decide) ?_
    refine j_istore (L' := [(0, _), (1, _), (2, _), (3, _), (4, _), (5, _), (6, _)]) dX2_timeBetween_38 (by decide) rfl ?_
    subst c_1
    rw [ti_0]
    refine loop rfl P.length 0 0 0 _ rfl (by omega) (by rw [ti_sub (by rw [ti_1]; omega) (by rw [ti_1]; omega), ti_1]; omega) ?_
    rw [dif_pos hpos, hF0, ti_0]
    rw [show (min z.toInt (max a.toInt 0) - a.toInt).toNat = 0 by omega]
    rfl
  · refine j_iload_n dX2_timeBetween_4 rfl ?_
    refine j_iload_n dX2_timeBetween_5 rfl ?_
    refine j_isub dX2_timeBetween_6 ?_
    refine j_aload_n dX2_timeBetween_7 rfl ?_
    refine j_iload_n dX2_timeBetween_8 rfl ?_
    refine j_iload_n dX2_timeBetween_9 rfl ?_
    refine j_cVi dX2_timeBetween_10 hB mo_X2_lostBetween ml_X2_76 (sp_X2_lostBetween hB h hsl h0 h1 h2) (by first | exact h.1 | exact h.2.2.2.2.2.1.1 | exact hm.1 | exact hm.2.1.1 | exact hm.2.2.1.1) rfl rfl rfl rfl ⟨rfl, rfl, by decide, by decide⟩ (Nat.le_of_ble_eq_true rfl) ⟨by decide, by decide⟩ (fun r_10 V_10 h_10 => ?_)
    obtain ⟨rfl, hl⟩ := h_10
    rw [hS] at hl
    refine j_isub dX2_timeBetween_13 ?_
    refine j_iload_n dX2_timeBetween_14 rfl ?_
    refine j_cSi dX2_timeBetween_15 hB mo_X2_footTime ml_X2_79 (sp_X2_footTime hB) rfl rfl ⟨rfl, rfl, by decide, by decide⟩ (Nat.le_of_ble_eq_true rfl) ⟨by decide, by decide⟩ (fun r_15 V_15 h_15 => ?_)
    obtain ⟨rfl, hft, -⟩ := h_15
    refine j_imul dX2_timeBetween_18 ?_
    refine j_iret dX2_timeBetween_19 rfl (rfl) (by decide) (by decide) ?_
    have hw1 : 10 ≤ w.toInt := by rcases hw with e | e; (exact absurd e c_1); exact e
    have hft := hft (by omega)
    have hd := div160 hw1
    have hcl := cnt_le (lostB S) a.toInt (z.toInt - a.toInt).toNat
    have hmul := mulK (x := z.toInt - a.toInt - r_10.toInt) (K := r_15.toInt) (by omega) (by omega) (by omega) (by omega)
    have m1 : (z - a).toInt = z.toInt - a.toInt := ti_sub (by omega) (by omega)
    have m2 : (z - a - r_10).toInt = z.toInt - a.toInt - r_10.toInt := by rw [ti_sub (by omega) (by omega), m1]
    refine ⟨_, rfl, rfl, rfl, rfl, rfl, ?_⟩
    rw [ti_mul (by rw [m2]; omega) (by rw [m2]; omega), m2, hl, hft]
    conv => lhs; lhs; lhs; rw [show z.toInt - a.toInt = ((z.toInt - a.toInt).toNat : Int) by omega]
    rw [← tmN_seg]
    apply tmN_congr
    intro f f1 f2
    unfold ftm
    rw [if_neg (show ¬ w.toInt = 0 by omega)]
end JReel3
end
section
/-! CueSheets$State: reels at q + 1, q + 20, q + 39, rows at q + 58 (openings), q + 60 (strains), q + 62 (closes), tolerance, leeway -/
abbrev aS : Type := (aR × aR × aR) × (List Int32 × List Int32 × List Int32) × (Int32 × Int32)
/-- a reel by its number -/
def sR (s : aS) (z : Int) : aR := if z = 0 then s.1.1 else if z = 1 then s.1.2.1 else s.1.2.2
def reelA (q : Nat) (z : Int) : Nat := if z = 0 then q + 1 else if z = 1 then q + 20 else q + 39
def StOK (T : jT) (V : jV) (q : Nat) (s : aS) : Prop := T q = some (kState (q + 1) (q + 20) (q + 39) (q + 58) (q + 60) (q + 62)) ∧ ReelOK T V (q + 1) s.1.1 ∧ ReelOK T V (q + 20) s.1.2.1 ∧ ReelOK T V (q + 39) s.1.2.2 ∧ RowOK T V (q + 58) 8 ∧ RowOK T V (q + 60) 8 ∧ RowOK T V (q + 62) 8 ∧ Rw V (q + 58) = s.2.1.1 ∧ Rw V (q + 60) = s.2.1.2.1 ∧ Rw V (q + 62) = s.2.1.2.2 ∧ V q 6 = s.2.2.1 ∧ V q 7 = s.2.2.2
theorem StOK.ag {T : jT} {V V' : jV} {q lo hi : Nat} {s : aS} (h : StOK T V q s) (ha : jAg V V' lo hi) (hd : q + 64 ≤ lo ∨ hi ≤ q) : StOK T V' q s := by
  obtain ⟨h0, h1, h2, h3, h4, h5, h6, e1, e2, e3, e4, e5⟩ := h
  exact ⟨h0, h1.ag ha (by omega), h2.ag ha (by omega), h3.ag ha (by omega), h4.ag ha (by omega), h5.ag ha (by omega), h6.ag ha (by omega), by rw [Rw_ag ha (by omega)]; exact e1, by rw [Rw_ag ha (by omega)]; exact e2, by rw [Rw_ag ha (by omega)]; exact e3, by rw [ha q (by omega)]; exact e4, by rw [ha q (by omega)]; exact e5⟩
theorem StOK.reel {T : jT} {V : jV} {q : Nat} {s : aS} (h : StOK T V q s) (z : Int) : ReelOK T V (reelA q z) (sR s z) := by
  unfold reelA sR
  split
  · exact h.2.1
  · split
    · exact h.2.2.1
    · exact h.2.2.2.1
/-- a state with one reel set -/
def sSet (s : aS) (z : Int) (r : aR) : aS := if z = 0 then ((r, s.1.2.1, s.1.2.2), s.2) else if z = 1 then ((s.1.1, r, s.1.2.2), s.2) else ((s.1.1, s.1.2.1, r), s.2)
theorem reelA_in (q : Nat) (z : Int) : q + 1 ≤ reelA q z ∧ reelA q z + 19 ≤ q + 58 := by
  unfold reelA; split <;> (try split) <;> omega
theorem StOK.setReel {T : jT} {V V' : jV} {q : Nat} {s : aS} (h : StOK T V q s) {z : Int} {r : aR} (ha : jAg V V' (reelA q z) (reelA q z + 19)) (hr : ReelOK T V' (reelA q z) r) : StOK T V' q (sSet s z r) := by
  have hin := reelA_in q z
  obtain ⟨h0, h1, h2, h3, h4, h5, h6, e1, e2, e3, e4, e5⟩ := h
  have k4 := h4.ag ha (by omega)
  have k5 := h5.ag ha (by omega)
  have k6 := h6.ag ha (by omega)
  rw [← Rw_ag ha (by omega)] at e1 e2 e3
  rw [← ha q (by omega)] at e4 e5
  unfold sSet
  unfold reelA at ha hr
  by_cases z0 : z = 0
  · rw [if_pos z0] at ha hr ⊢
    exact ⟨h0, hr, h2.ag ha (by omega), h3.ag ha (by omega), k4, k5, k6, e1, e2, e3, e4, e5⟩
  · rw [if_neg z0] at ha hr ⊢
    by_cases z1 : z = 1
    · rw [if_pos z1] at ha hr ⊢
      exact ⟨h0, h1.ag ha (by omega), hr, h3.ag ha (by omega), k4, k5, k6, e1, e2, e3, e4, e5⟩
    · rw [if_neg z1] at ha hr ⊢
      exact ⟨h0, h1.ag ha (by omega), h2.ag ha (by omega), hr, k4, k5, k6, e1, e2, e3, e4, e5⟩
theorem ti_abs {x : Int32} (h : -2147483648 < x.toInt) : (if 0 ≤ x then x else 0 - x).toInt = x.toInt.natAbs := by
  split
  · rename_i h1; have := ti_le h1; rw [ti_0] at this; omega
  · rename_i h1
    have h2 := ti_nle h1
    rw [ti_0] at h2
    rw [ti_sub (by rw [ti_0]; omega) (by rw [ti_0]; omega), ti_0]; omega
theorem div_ti {w pa : Int32} (h0 : 0 ≤ w.toInt) : (w / pa).toInt = w.toInt / pa.toInt := by
  have ne : w ≠ Int32.minValue := fun z => by rw [z] at h0; exact absurd h0 (by decide)
  rw [Int32.toInt_div_of_ne_left _ _ ne, Int.tdiv_eq_ediv_of_nonneg h0]
section JState
variable {l : Launch} {s0 : State} {D : jD} {T : jT} {V : jV} {X : jX} {sz : Nat}
set_option maxRecDepth 100000 in
set_option maxHeartbeats 4000000 in
theorem sp_X5_reelAt (hB : jB l s0 D) {q : Nat} {s : aS} {i : Int32} (h : StOK T V q s) : Sp l s0 D kX5_reelAt (jR 0 0 0) 0 0 [.ref q, .int i] T V X sz (qA T X sz (fun r V' => V = V' ∧ r = some (reelA q i.toInt))) := by
  refine Sp.of pn_X5_reelAt rfl (Nat.le_of_ble_eq_true rfl) ?_
  refine j_iload_n dX5_reelAt_0 rfl ?_
  refine j_if_ne (tgt := 11) dX5_reelAt_1 (by decide) (fun c_1 => ?_) (fun c_1 => ?_)
  · refine j_iload_n dX5_reelAt_11 rfl ?_
    refine j_iconst (v := 1) dX5_reelAt_12 (by decide) ?_
    refine j_icmp_ne (tgt := 23) dX5_reelAt_13 (by decide) (fun c_13 => ?_) (fun c_13 => ?_)
    · refine j_aload_n dX5_reelAt_23 rfl ?_
      refine j_getr dX5_reelAt_24 hB fl_X5_21 (by first | exact h.1 | exact h.2.2.2.2.1.1 | exact h.2.2.2.2.2.1.1 | exact h.2.2.2.2.2.2.1.1) (by rfl) ?_
      refine j_aret (r := some _) dX5_reelAt_27 rfl (Or.inl ⟨_, rfl⟩) (by decide) (by decide) ?_
      refine ⟨some _, rfl, rfl, rfl, rfl, rfl, ?_⟩
      unfold reelA
      first
        | (rw [if_pos (by rw [c_1, ti_0])]; done)
        | (rw [if_neg (fun z => c_1 (Int32.toInt_inj.mp (z.trans ti_0.symm))), if_pos (by rw [c_13, ti_1])]; done)
        | rw [if_neg (fun z => c_1 (Int32.toInt_inj.mp (z.trans ti_0.symm))), if_neg (fun z => c_13 (Int32.toInt_inj.mp (z.trans ti_1.symm)))]
    · refine j_aload_n dX5_reelAt_16 rfl ?_
      refine j_getr dX5_reelAt_17 hB fl_X5_18 (by first | exact h.1 | exact h.2.2.2.2.1.1 | exact h.2.2.2.2.2.1.1 | exact h.2.2.2.2.2.2.1.1) (by rfl) ?_
      refine j_goto (tgt := 27) dX5_reelAt_20 (by decide) ?_
      refine j_aret (r := some _) dX5_reelAt_27 rfl (Or.inl ⟨_, rfl⟩) (by decide) (by decide) ?_
      refine ⟨some _, rfl, rfl, rfl, rfl, rfl, ?_⟩
      unfold reelA
      first
        | (rw [if_pos (by rw [c_1, ti_0])]; done)
        | (rw [if_neg (fun z => c_1 (Int32.toInt_inj.mp (z.trans ti_0.symm))), if_pos (by rw [c_13, ti_1])]; done)
        | rw [if_neg (fun z => c_1 (Int32.toInt_inj.mp (z.trans ti_0.symm))), if_neg (fun z => c_13 (Int32.toInt_inj.mp (z.trans ti_1.symm)))]
  · refine j_aload_n dX5_reelAt_4 rfl ?_
    refine j_getr dX5_reelAt_5 hB fl_X5_12 (by first | exact h.1 | exact h.2.2.2.2.1.1 | exact h.2.2.2.2.2.1.1 | exact h.2.2.2.2.2.2.1.1) (by rfl) ?_
    refine j_goto (tgt := 27) dX5_reelAt_8 (by decide) ?_
    refine j_aret (r := some _) dX5_reelAt_27 rfl (Or.inl ⟨_, rfl⟩) (by decide) (by decide) ?_
    refine ⟨some _, rfl, rfl, rfl, rfl, rfl, ?_⟩
    unfold reelA
    first
      | (rw [if_pos (by rw [c_1, ti_0])]; done)
      | (rw [if_neg (fun z => c_1 (Int32.toInt_inj.mp (z.trans ti_0.symm))), if_pos (by rw [c_13, ti_1])]; done)
      | rw [if_neg (fun z => c_1 (Int32.toInt_inj.mp (z.trans ti_0.symm))), if_neg (fun z => c_13 (Int32.toInt_inj.mp (z.trans ti_1.symm)))]
set_option maxRecDepth 100000 in
set_option maxHeartbeats 4000000 in
theorem sp_X5_pieces (hB : jB l s0 D) {q : Nat} {s : aS} (h : StOK T V q s) : Sp l s0 D kX5_pieces (jR 1 0 0) 0 0 [.ref q] T V X sz (qI T X sz (fun r V' => V = V' ∧ r.toInt = s.2.1.1.length)) := by
  refine Sp.of pn_X5_pieces rfl (Nat.le_of_ble_eq_true rfl) ?_
  refine j_aload_n dX5_pieces_0 rfl ?_
  refine j_getr dX5_pieces_1 hB fl_X5_29 (by first | exact h.1 | exact h.2.2.2.2.1.1 | exact h.2.2.2.2.2.1.1 | exact h.2.2.2.2.2.2.1.1) (by rfl) ?_
  refine j_cVi dX5_pieces_4 hB mo_X3_size ml_X5_46 (sp_X3_size hB h.2.2.2.2.1) (by first | exact h.1 | exact h.2.2.2.2.1.1 | exact h.2.2.2.2.2.1.1 | exact h.2.2.2.2.2.2.1.1) rfl rfl rfl rfl ⟨rfl, rfl, by decide, by decide⟩ (Nat.le_of_ble_eq_true rfl) ⟨by decide, by decide⟩ (fun r_4 V_4 h_4 => ?_)
  obtain ⟨rfl, hr⟩ := h_4
  refine j_iret dX5_pieces_7 rfl (rfl) (by decide) (by decide) ?_
  exact ⟨_, rfl, rfl, rfl, rfl, rfl, by rw [hr, h.2.2.2.2.2.2.2.1]⟩
set_option maxRecDepth 100000 in
set_option maxHeartbeats 4000000 in
theorem sp_X5_hasPiece (hB : jB l s0 D) {q : Nat} {s : aS} {i : Int32} (h : StOK T V q s) : Sp l s0 D kX5_hasPiece (jR 2 0 0) 0 0 [.ref q, .int i] T V X sz (qI T X sz (fun r V' => V = V' ∧ (r = 1 ∧ (0 ≤ i.toInt ∧ i.toInt < s.2.1.1.length) ∨ r = 0 ∧ ¬ (0 ≤ i.toInt ∧ i.toInt < s.2.1.1.length)))) := by
  refine Sp.of pn_X5_hasPiece rfl (Nat.le_of_ble_eq_true rfl) ?_
  refine j_iload_n dX5_hasPiece_0 rfl ?_
  refine j_if_lt (tgt := 16) dX5_hasPiece_1 (by decide) (fun c_1 => ?_) (fun c_1 => ?_)
  · refine j_iconst (v := 0) dX5_hasPiece_16 (by decide) ?_
    refine j_iret dX5_hasPiece_17 rfl (rfl) (by decide) (by decide) ?_
    refine ⟨_, rfl, rfl, rfl, rfl, rfl, ?_⟩
    first | exact Or.inl ⟨rfl, by omega⟩ | exact Or.inr ⟨rfl, by omega⟩
  · refine j_iload_n dX5_hasPiece_4 rfl ?_
    refine j_aload_n dX5_hasPiece_5 rfl ?_
    refine j_cVi dX5_hasPiece_6 hB mo_X5_pieces ml_X5_50 (sp_X5_pieces hB h) (by first | exact h.1 | exact h.2.2.2.2.1.1 | exact h.2.2.2.2.2.1.1 | exact h.2.2.2.2.2.2.1.1) rfl rfl rfl rfl ⟨rfl, rfl, by decide, by decide⟩ (Nat.le_of_ble_eq_true rfl) ⟨by decide, by decide⟩ (fun r_6 V_6 h_6 => ?_)
    obtain ⟨rfl, hr⟩ := h_6
    refine j_icmp_ge (tgt := 16) dX5_hasPiece_9 (by decide) (fun c_9 => ?_) (fun c_9 => ?_)
    · refine j_iconst (v := 0) dX5_hasPiece_16 (by decide) ?_
      refine j_iret dX5_hasPiece_17 rfl (rfl) (by decide) (by decide) ?_
      refine ⟨_, rfl, rfl, rfl, rfl, rfl, ?_⟩
      first | exact Or.inl ⟨rfl, by omega⟩ | exact Or.inr ⟨rfl, by omega⟩
    · refine j_iconst (v := 1) dX5_hasPiece_12 (by decide) ?_
      refine j_goto (tgt := 17) dX5_hasPiece_13 (by decide) ?_
      refine j_iret dX5_hasPiece_17 rfl (rfl) (by decide) (by decide) ?_
      refine ⟨_, rfl, rfl, rfl, rfl, rfl, ?_⟩
      first | exact Or.inl ⟨rfl, by omega⟩ | exact Or.inr ⟨rfl, by omega⟩
set_option maxRecDepth 100000 in
set_option maxHeartbeats 4000000 in
theorem sp_X5_timeAtPace (hB : jB l s0 D) {w pa : Int32} (h0 : 0 ≤ w.toInt) (h1 : w.toInt ≤ 20000) (hp : 1 ≤ pa.toInt) : Sp l s0 D kX5_timeAtPace (jR 0 0 0) 0 0 [.int w, .int pa] T V X sz (qI T X sz (fun r V' => V = V' ∧ r.toInt = w.toInt * 100 / pa.toInt)) := by
  refine Sp.of pn_X5_timeAtPace rfl (Nat.le_of_ble_eq_true rfl) ?_
  have h100 : (100 : Int32).toInt = 100 := by decide
  have hm : (w * 100).toInt = w.toInt * 100 := by rw [ti_mul (by rw [h100]; omega) (by rw [h100]; omega), h100]
  refine j_iload_n dX5_timeAtPace_0 rfl ?_
  refine j_if_gt (tgt := 8) dX5_timeAtPace_1 (by decide) (fun c_1 => ?_) (fun c_1 => ?_)
  · refine j_iload_n dX5_timeAtPace_8 rfl ?_
    refine j_bipush (v := 100) dX5_timeAtPace_9 (by decide) ?_
    refine j_imul dX5_timeAtPace_11 ?_
    refine j_iload_n dX5_timeAtPace_12 rfl ?_
    refine j_idiv dX5_timeAtPace_13 (fun z => by rw [z, ti_0] at hp; omega) ?_
    refine j_iret dX5_timeAtPace_14 rfl (rfl) (by decide) (by decide) ?_
    refine ⟨_, rfl, rfl, rfl, rfl, rfl, ?_⟩
    rw [div_ti (by omega), hm]
  · exact absurd c_1 (by omega)
/-- the pieces in their ranges -/
def pcW (s : aS) : Prop := s.2.1.2.1.length = s.2.1.1.length ∧ s.2.1.2.2.length = s.2.1.1.length ∧ (∀ x ∈ s.2.1.1, 0 ≤ x.toInt ∧ x.toInt ≤ 600) ∧ (∀ x ∈ s.2.1.2.1, 10 ≤ x.toInt ∧ x.toInt ≤ 1200) ∧ (∀ x ∈ s.2.1.2.2, 0 ≤ x.toInt ∧ x.toInt ≤ 600)
/-- how long a piece plays, written: with k strains at pace 100 -/
def wrT (s : aS) (i k : Int) : Int := (atZ s.2.1.1 i).toInt + k * (atZ s.2.1.2.1 i).toInt + (atZ s.2.1.2.2 i).toInt
def plT (s : aS) (i k pa : Int) : Int := wrT s i k * 100 / pa
theorem atZ_mem {L : List Int32} {i : Int} (h0 : 0 ≤ i) (h1 : i < L.length) : atZ L i ∈ L := by
  rw [atZ_in h0, List.getD_eq_getElem?_getD, List.getElem?_eq_getElem (by omega)]
  exact List.getElem_mem _
theorem pcW_at {s : aS} (h : pcW s) {i : Int} (h0 : 0 ≤ i) (h1 : i < s.2.1.1.length) : 0 ≤ (atZ s.2.1.1 i).toInt ∧ (atZ s.2.1.1 i).toInt ≤ 600 ∧ 10 ≤ (atZ s.2.1.2.1 i).toInt ∧ (atZ s.2.1.2.1 i).toInt ≤ 1200 ∧ 0 ≤ (atZ s.2.1.2.2 i).toInt ∧ (atZ s.2.1.2.2 i).toInt ≤ 600 := by
  obtain ⟨a, b, c, d, e⟩ := h
  have x1 := c _ (atZ_mem h0 h1)
  have x2 := d _ (atZ_mem h0 (show i < s.2.1.2.1.length by omega))
  have x3 := e _ (atZ_mem h0 (show i < s.2.1.2.2.length by omega))
  exact ⟨x1.1, x1.2, x2.1, x2.2, x3.1, x3.2⟩
theorem mul_rng {k x : Int} (k0 : 0 ≤ k) (k1 : k ≤ 9) (x0 : 0 ≤ x) (x1 : x ≤ 1200) : 0 ≤ k * x ∧ k * x ≤ 10800 := by
  constructor
  · exact Int.mul_nonneg k0 x0
  · have := Int.mul_le_mul k1 x1 x0 (by omega : (0 : Int) ≤ 9)
    omega
theorem wrT_rng {s : aS} (h : pcW s) {i k : Int} (h0 : 0 ≤ i) (h1 : i < s.2.1.1.length) (k0 : 0 ≤ k) (k1 : k ≤ 9) : 0 ≤ wrT s i k ∧ wrT s i k ≤ 12000 := by
  obtain ⟨a, b, c, d, e, f⟩ := pcW_at h h0 h1
  have := mul_rng k0 k1 (show 0 ≤ (atZ s.2.1.2.1 i).toInt by omega) d
  unfold wrT
  omega
theorem plT_rng {s : aS} (h : pcW s) {i k pa : Int} (h0 : 0 ≤ i) (h1 : i < s.2.1.1.length) (k0 : 0 ≤ k) (k1 : k ≤ 9) (p0 : 80 ≤ pa) : 0 ≤ plT s i k pa ∧ plT s i k pa ≤ 15000 := by
  have := wrT_rng h h0 h1 k0 k1
  unfold plT
  constructor
  · exact Int.ediv_nonneg (by omega) (by omega)
  · have h9 : wrT s i k * 100 / pa < 15001 := Int.ediv_lt_of_lt_mul (by omega) (by omega)
    omega
set_option maxRecDepth 100000 in
set_option maxHeartbeats 4000000 in
theorem sp_X5_playTime (hB : jB l s0 D) {q : Nat} {s : aS} {i k pa : Int32} (h : StOK T V q s) (hw : pcW s) (h0 : 0 ≤ i.toInt) (h1 : i.toInt < s.2.1.1.length) (k0 : 0 ≤ k.toInt) (k1 : k.toInt ≤ 9) (p0 : 80 ≤ pa.toInt) : Sp l s0 D kX5_playTime (jR 1 0 0) 0 0 [.ref q, .int i, .int k, .int pa] T V X sz (qI T X sz (fun r V' => V = V' ∧ r.toInt = plT s i.toInt k.toInt pa.toInt)) := by
  refine Sp.of pn_X5_playTime rfl (Nat.le_of_ble_eq_true rfl) ?_
  obtain ⟨a, b, c, d, e, f⟩ := pcW_at hw h0 h1
  have hm := mul_rng k0 k1 (show 0 ≤ (atZ s.2.1.2.1 i.toInt).toInt by omega) d
  have hwr := wrT_rng hw h0 h1 k0 k1
  have t1 : (k * atZ s.2.1.2.1 i.toInt).toInt = k.toInt * (atZ s.2.1.2.1 i.toInt).toInt := ti_mul (by omega) (by omega)
  have t2 : (atZ s.2.1.1 i.toInt + k * atZ s.2.1.2.1 i.toInt).toInt = (atZ s.2.1.1 i.toInt).toInt + k.toInt * (atZ s.2.1.2.1 i.toInt).toInt := by rw [ti_add (by omega) (by omega), t1]
  have t3 : (atZ s.2.1.1 i.toInt + k * atZ s.2.1.2.1 i.toInt + atZ s.2.1.2.2 i.toInt).toInt = wrT s i.toInt k.toInt := by rw [ti_add (by omega) (by omega), t2]; rfl
  refine j_aload_n dX5_playTime_0 rfl ?_
  refine j_getr dX5_playTime_1 hB fl_X5_29 (by first | exact h.1 | exact h.2.2.2.2.1.1 | exact h.2.2.2.2.2.1.1 | exact h.2.2.2.2.2.2.1.1) (by rfl) ?_
  refine j_iload_n dX5_playTime_4 rfl ?_
  refine j_cVi dX5_playTime_5 hB mo_X3_at ml_X5_59 (sp_X3_at hB (h.2.2.2.2.1)) (by first | exact h.1 | exact h.2.2.2.2.1.1 | exact h.2.2.2.2.2.1.1 | exact h.2.2.2.2.2.2.1.1) rfl rfl rfl rfl ⟨rfl, rfl, by decide, by decide⟩ (Nat.le_of_ble_eq_true rfl) ⟨by decide, by decide⟩ (fun r_5 V_5 h_5 => ?_)
  obtain ⟨rfl, x1⟩ := h_5
  rw [h.2.2.2.2.2.2.2.1] at x1
  subst x1
  refine j_iload_n dX5_playTime_8 rfl ?_
  refine j_aload_n dX5_playTime_9 rfl ?_
  refine j_getr dX5_playTime_10 hB fl_X5_33 (by first | exact h.1 | exact h.2.2.2.2.1.1 | exact h.2.2.2.2.2.1.1 | exact h.2.2.2.2.2.2.1.1) (by rfl) ?_
  refine j_iload_n dX5_playTime_13 rfl ?_
  refine j_cVi dX5_playTime_14 hB mo_X3_at ml_X5_59 (sp_X3_at hB (h.2.2.2.2.2.1)) (by first | exact h.1 | exact h.2.2.2.2.1.1 | exact h.2.2.2.2.2.1.1 | exact h.2.2.2.2.2.2.1.1) rfl rfl rfl rfl ⟨rfl, rfl, by decide, by decide⟩ (Nat.le_of_ble_eq_true rfl) ⟨by decide, by decide⟩ (fun r_14 V_14 h_14 => ?_)
  obtain ⟨rfl, x2⟩ := h_14
  rw [h.2.2.2.2.2.2.2.2.1] at x2
  subst x2
  refine j_imul dX5_playTime_17 ?_
  refine j_iadd dX5_playTime_18 ?_
  refine j_aload_n dX5_playTime_19 rfl ?_
  refine j_getr dX5_playTime_20 hB fl_X5_36 (by first | exact h.1 | exact h.2.2.2.2.1.1 | exact h.2.2.2.2.2.1.1 | exact h.2.2.2.2.2.2.1.1) (by rfl) ?_
  refine j_iload_n dX5_playTime_23 rfl ?_
  refine j_cVi dX5_playTime_24 hB mo_X3_at ml_X5_59 (sp_X3_at hB (h.2.2.2.2.2.2.1)) (by first | exact h.1 | exact h.2.2.2.2.1.1 | exact h.2.2.2.2.2.1.1 | exact h.2.2.2.2.2.2.1.1) rfl rfl rfl rfl ⟨rfl, rfl, by decide, by decide⟩ (Nat.le_of_ble_eq_true rfl) ⟨by decide, by decide⟩ (fun r_24 V_24 h_24 => ?_)
  obtain ⟨rfl, x3⟩ := h_24
  rw [h.2.2.2.2.2.2.2.2.2.1] at x3
  subst x3
  refine j_iadd dX5_playTime_27 ?_
  refine j_iload_n dX5_playTime_28 rfl ?_
  refine j_cSi dX5_playTime_29 hB mo_X5_timeAtPace ml_X5_63 (sp_X5_timeAtPace hB (by omega) (by omega) (by omega)) rfl rfl ⟨rfl, rfl, by decide, by decide⟩ (Nat.le_of_ble_eq_true rfl) ⟨by decide, by decide⟩ (fun r_29 V_29 h_29 => ?_)
  obtain ⟨rfl, hr⟩ := h_29
  refine j_iret dX5_playTime_32 rfl (rfl) (by decide) (by decide) ?_
  exact ⟨_, rfl, rfl, rfl, rfl, rfl, by rw [hr, t3]; rfl⟩
set_option maxRecDepth 100000 in
set_option maxHeartbeats 4000000 in
theorem sp_X5_isBad (hB : jB l s0 D) {q : Nat} {s : aS} {x : Int32} (h : StOK T V q s) (hx : -2147483648 < x.toInt) : Sp l s0 D kX5_isBad (jR 1 0 0) 0 0 [.ref q, .int x] T V X sz (qI T X sz (fun r V' => V = V' ∧ (r = 1 ∧ s.2.2.1.toInt < x.toInt.natAbs ∨ r = 0 ∧ ¬ s.2.2.1.toInt < x.toInt.natAbs))) := by
  refine Sp.of pn_X5_isBad rfl (Nat.le_of_ble_eq_true rfl) ?_
  refine j_iload_n dX5_isBad_0 rfl ?_
  refine j_mabs dX5_isBad_1 hB ml_X5_67 (by decide) (Nat.le_of_ble_eq_true rfl) (by decide) (by decide) ?_
  refine j_aload_n dX5_isBad_4 rfl ?_
  refine j_geti dX5_isBad_5 hB fl_X5_39 (by first | exact h.1 | exact h.2.2.2.2.1.1 | exact h.2.2.2.2.2.1.1 | exact h.2.2.2.2.2.2.1.1) (by rfl) ?_
  refine j_icmp_le (tgt := 15) dX5_isBad_8 (by decide) (fun c_8 => ?_) (fun c_8 => ?_)
  · refine j_iconst (v := 0) dX5_isBad_15 (by decide) ?_
    refine j_iret dX5_isBad_16 rfl (rfl) (by decide) (by decide) ?_
    refine ⟨_, rfl, rfl, rfl, rfl, rfl, ?_⟩
    rw [ti_abs hx, h.2.2.2.2.2.2.2.2.2.2.1] at c_8
    first | exact Or.inl ⟨rfl, by omega⟩ | exact Or.inr ⟨rfl, by omega⟩
  · refine j_iconst (v := 1) dX5_isBad_11 (by decide) ?_
    refine j_goto (tgt := 16) dX5_isBad_12 (by decide) ?_
    refine j_iret dX5_isBad_16 rfl (rfl) (by decide) (by decide) ?_
    refine ⟨_, rfl, rfl, rfl, rfl, rfl, ?_⟩
    rw [ti_abs hx, h.2.2.2.2.2.2.2.2.2.2.1] at c_8
    first | exact Or.inl ⟨rfl, by omega⟩ | exact Or.inr ⟨rfl, by omega⟩
def cuN (r : aR) (x : Int32) : Int := (r.2.1.count x : Nat)
theorem cuN_rng {T : jT} {V : jV} {q : Nat} {r : aR} (h : ReelOK T V q r) (x : Int32) : 0 ≤ cuN r x ∧ cuN r x ≤ 10 := by
  have h1 := h.2.2.1.le
  rw [h.2.2.2.2.2.2.2.2.1] at h1
  have h2 : r.2.1.count x ≤ r.2.1.length := List.count_le_length
  unfold cuN
  omega
def cuT (s : aS) (x : Int32) : Nat → Int
  | 0 => 0
  | n + 1 => cuT s x n + cuN (sR s n) x
set_option maxRecDepth 100000 in
set_option maxHeartbeats 4000000 in
theorem sp_X5_cuesWith (hB : jB l s0 D) {q : Nat} {s : aS} {x : Int32} (h : StOK T V q s) : Sp l s0 D kX5_cuesWith (jR 1 0 0) 0 0 [.ref q, .int x] T V X sz (qI T X sz (fun r V' => V = V' ∧ r.toInt = cuT s x 3)) := by
  refine Sp.of pn_X5_cuesWith rfl (Nat.le_of_ble_eq_true rfl) ?_
  have h3 : (3 : Int32).toInt = 3 := by decide
  have outer : ∀ (n k : Nat) (i y : Int32) (L : List (Nat × Value)), L.lookup 0 = some (.ref q) → L.lookup 1 = some (.int x) → L.lookup 2 = some (.int y) → L.lookup 3 = some (.int i) → i.toInt = k → k + n = 3 → y.toInt = cuT s x k → 0 ≤ y.toInt → y.toInt ≤ 10 * k → J l s0 D kX5_cuesWith (jR 1 0 0) 0 0 (qI T X sz (fun r V' => V = V' ∧ r.toInt = cuT s x 3)) 4 L [] T V X sz 0 0 := by
    intro n
    induction n with
    | zero =>
      intro k i y L l0 l1 l2 l3 hi hk hy y0 y1
      refine j_sub2 (L' := [(0, .ref q), (1, .int x), (2, .int y), (3, .int i)]) (List.forall_mem_cons.mpr ⟨l0, List.forall_mem_cons.mpr ⟨l1, List.forall_mem_cons.mpr ⟨l2, List.forall_mem_cons.mpr ⟨l3, fun _ h9 => nomatch h9⟩⟩⟩⟩) ?_
      refine j_iload_n dX5_cuesWith_4 rfl ?_
      refine j_iconst (v := 3) dX5_cuesWith_5 (by decide) ?_
      refine j_icmp_ge (tgt := 63) dX5_cuesWith_6 (by decide) (fun c_6 => ?_) (fun c_6 => ?_)
      · refine j_iload_n dX5_cuesWith_63 rfl ?_
        refine j_iret dX5_cuesWith_64 rfl (rfl) (by decide) (by decide) ?_
        exact ⟨_, rfl, rfl, rfl, rfl, rfl, by rw [hy, show k = 3 by omega]⟩
      · exact absurd c_6 (by omega)
    | succ n ih =>
      intro k i y L l0 l1 l2 l3 hi hk hy y0 y1
      refine j_sub2 (L' := [(0, .ref q), (1, .int x), (2, .int y), (3, .int i)]) (List.forall_mem_cons.mpr ⟨l0, List.forall_mem_cons.mpr ⟨l1, List.forall_mem_cons.mpr ⟨l2, List.forall_mem_cons.mpr ⟨l3, fun _ h9 => nomatch h9⟩⟩⟩⟩) ?_
      have hrl := h.reel i.toInt
      have hcr := cuN_rng hrl x
      generalize hra : reelA q i.toInt = ra at hrl
      generalize hrr : sR s i.toInt = rr at hrl hcr
      have hlen := hrl.2.2.1.le
      have hrw := hrl.2.2.2.2.2.2.2.2.1
      rw [hrw] at hlen
      have hin : ∀ (n2 k2 : Nat) (j y2 : Int32), j.toInt = k2 → k2 + n2 = rr.2.1.length → y2.toInt = y.toInt + ((rr.2.1.take k2).count x : Nat) → J l s0 D kX5_cuesWith (jR 1 0 0) 0 0 (qI T X sz (fun r V' => V = V' ∧ r.toInt = cuT s x 3)) 22 [(0, .ref q), (1, .int x), (2, .int y2), (3, .int i), (4, .ref (ra + 3)), (5, .int j)] [] T V X sz 0 0 := by
        intro n2
        induction n2 with
        | zero =>
          intro k2 j y2 hj hk2 hy2
          refine j_iload dX5_cuesWith_22 rfl ?_
          refine j_aload dX5_cuesWith_24 rfl ?_
          refine j_cVi dX5_cuesWith_26 hB mo_X3_size ml_X5_46 (sp_X3_size hB hrl.2.2.1) (by exact hrl.2.2.1.1) rfl rfl rfl rfl ⟨rfl, rfl, by decide, by decide⟩ (Nat.le_of_ble_eq_true rfl) ⟨by decide, by decide⟩ (fun r_26 V_26 h_26 => ?_)
          obtain ⟨rfl, hr⟩ := h_26
          rw [hrw] at hr
          refine j_icmp_ge (tgt := 57) dX5_cuesWith_29 (by decide) (fun c_29 => ?_) (fun c_29 => ?_)
          · refine j_iinc (v := 1) (L' := [(0, _), (1, _), (2, _), (3, _), (4, _), (5, _)]) dX5_cuesWith_57 rfl (by decide) (by decide) rfl ?_
            refine j_goto (tgt := 4) dX5_cuesWith_60 (by decide) ?_
            refine ih (k + 1) _ y2 _ rfl rfl rfl rfl ?_ (by omega) ?_ ?_ ?_
            · rw [ti_add (by rw [ti_1]; omega) (by rw [ti_1]; omega), ti_1]; omega
            all_goals
              rw [List.take_of_length_le (by omega)] at hy2
              unfold cuN at hcr
            · show _ = cuT s x k + cuN (sR s k) x
              rw [← hi, hrr, ← hy]
              exact hy2
            · omega
            · omega
          · exact absurd c_29 (by omega)
        | succ n2 ih2 =>
          intro k2 j y2 hj hk2 hy2
          have hlt : k2 < rr.2.1.length := by omega
          have hcl : (rr.2.1.take k2).count x ≤ k2 := Nat.le_trans List.count_le_length (by rw [List.length_take]; omega)
          have hct : (rr.2.1.take (k2 + 1)).count x = (rr.2.1.take k2).count x + (if rr.2.1[k2] = x then 1 else 0) := by
            rw [← List.take_append_getElem hlt, List.count_append]
            congr 1
            simp [List.count_singleton, beq_iff_eq]
          refine j_iload dX5_cuesWith_22 rfl ?_
          refine j_aload dX5_cuesWith_24 rfl ?_
          refine j_cVi dX5_cuesWith_26 hB mo_X3_size ml_X5_46 (sp_X3_size hB hrl.2.2.1) (by exact hrl.2.2.1.1) rfl rfl rfl rfl ⟨rfl, rfl, by decide, by decide⟩ (Nat.le_of_ble_eq_true rfl) ⟨by decide, by decide⟩ (fun r_26 V_26 h_26 => ?_)
          obtain ⟨rfl, hr⟩ := h_26
          rw [hrw] at hr
          refine j_icmp_ge (tgt := 57) dX5_cuesWith_29 (by decide) (fun c_29 => ?_) (fun c_29 => ?_)
          · exact absurd c_29 (by omega)
          · refine j_iload_n dX5_cuesWith_32 rfl ?_
            refine j_aload dX5_cuesWith_33 rfl ?_
            refine j_iload dX5_cuesWith_35 rfl ?_
            refine j_cVi dX5_cuesWith_37 hB mo_X3_at ml_X5_59 (sp_X3_at hB hrl.2.2.1) (by exact hrl.2.2.1.1) rfl rfl rfl rfl ⟨rfl, rfl, by decide, by decide⟩ (Nat.le_of_ble_eq_true rfl) ⟨by decide, by decide⟩ (fun r_37 V_37 h_37 => ?_)
            obtain ⟨rfl, hv⟩ := h_37
            rw [hrw, atZ_in (by omega), show j.toInt.toNat = k2 by omega, List.getD_eq_getElem?_getD, List.getElem?_eq_getElem hlt] at hv
            have hv : r_37 = rr.2.1[k2] := hv
            subst hv
            refine j_iload_n dX5_cuesWith_40 rfl ?_
            refine j_icmp_ne (tgt := 48) dX5_cuesWith_41 (by decide) (fun c_41 => ?_) (fun c_41 => ?_)
            · refine j_iconst (v := 0) dX5_cuesWith_48 (by decide) ?_
              refine j_iadd dX5_cuesWith_49 ?_
              refine j_istore_n (L' := [(0, _), (1, _), (2, _), (3, _), (4, _), (5, _)]) dX5_cuesWith_50 (by decide) rfl ?_
              refine j_iinc (v := 1) (L' := [(0, _), (1, _), (2, _), (3, _), (4, _), (5, _)]) dX5_cuesWith_51 rfl (by decide) (by decide) rfl ?_
              refine j_goto (tgt := 22) dX5_cuesWith_54 (by decide) ?_
              refine ih2 (k2 + 1) _ _ ?_ (by omega) ?_
              · rw [ti_add (by rw [ti_1]; omega) (by rw [ti_1]; omega), ti_1]; omega
              · rw [hct]
                first
                | rw [if_pos c_41, ti_add (by rw [ti_1]; omega) (by rw [ti_1]; omega), ti_1]; omega
                | rw [if_neg c_41, ti_add (by rw [ti_0]; omega) (by rw [ti_0]; omega), ti_0]; omega
            · refine j_iconst (v := 1) dX5_cuesWith_44 (by decide) ?_
              refine j_goto (tgt := 49) dX5_cuesWith_45 (by decide) ?_
              refine j_iadd dX5_cuesWith_49 ?_
              refine j_istore_n (L' := [(0, _), (1, _), (2, _), (3, _), (4, _), (5, _)]) dX5_cuesWith_50 (by decide) rfl ?_
              refine j_iinc (v := 1) (L' := [(0, _), (1, _), (2, _), (3, _), (4, _), (5, _)]) dX5_cuesWith_51 rfl (by decide) (by decide) rfl ?_
              refine j_goto (tgt := 22) dX5_cuesWith_54 (by decide) ?_
              refine ih2 (k2 + 1) _ _ ?_ (by omega) ?_
              · rw [ti_add (by rw [ti_1]; omega) (by rw [ti_1]; omega), ti_1]; omega
              · rw [hct]
                first
                | rw [if_pos c_41, ti_add (by rw [ti_1]; omega) (by rw [ti_1]; omega), ti_1]; omega
                | rw [if_neg c_41, ti_add (by rw [ti_0]; omega) (by rw [ti_0]; omega), ti_0]; omega
      refine j_iload_n dX5_cuesWith_4 rfl ?_
      refine j_iconst (v := 3) dX5_cuesWith_5 (by decide) ?_
      refine j_icmp_ge (tgt := 63) dX5_cuesWith_6 (by decide) (fun c_6 => ?_) (fun c_6 => ?_)
      · exact absurd c_6 (by omega)
      · refine j_aload_n dX5_cuesWith_9 rfl ?_
        refine j_iload_n dX5_cuesWith_10 rfl ?_
        refine j_cVa dX5_cuesWith_11 hB mo_X5_reelAt ml_X5_53 (sp_X5_reelAt hB h) (by first | exact h.1 | exact hrl.1) rfl rfl rfl rfl ⟨rfl, rfl, by decide, by decide⟩ (Nat.le_of_ble_eq_true rfl) ⟨by decide, by decide⟩ (fun r_11 V_11 h_11 => ?_)
        obtain ⟨rfl, hr⟩ := h_11
        subst hr
        rw [hra]
        refine j_getr dX5_cuesWith_14 hB fl_X5_57 (by first | exact h.1 | exact hrl.1) (by rfl) ?_
        refine j_astore (L' := [(0, _), (1, _), (2, _), (3, _), (4, _)]) dX5_cuesWith_17 (by decide) rfl ?_
        refine j_iconst (v := 0) dX5_cuesWith_19 (by decide) ?_
        refine j_istore (L' := [(0, _), (1, _), (2, _), (3, _), (4, _), (5, _)]) dX5_cuesWith_20 (by decide) rfl ?_
        exact hin rr.2.1.length 0 0 y rfl (by omega) (by simp)
  refine j_iconst (v := 0) dX5_cuesWith_0 (by decide) ?_
  refine j_istore_n (L' := [(0, _), (1, _), (2, _)]) dX5_cuesWith_1 (by decide) rfl ?_
  refine j_iconst (v := 0) dX5_cuesWith_2 (by decide) ?_
  refine j_istore_n (L' := [(0, _), (1, _), (2, _), (3, _)]) dX5_cuesWith_3 (by decide) rfl ?_
  exact outer 3 0 0 0 _ rfl rfl rfl rfl rfl rfl rfl (by decide) (by decide)
set_option maxRecDepth 100000 in
set_option maxHeartbeats 4000000 in
theorem sp_X5_takeFrom (hB : jB l s0 D) {q q' : Nat} {s s' : aS} (h : StOK T V q s) (h' : StOK T V q' s') (hd : q + 64 ≤ q' ∨ q' + 64 ≤ q) : Sp l s0 D kX5_takeFrom (jR 4 0 0) 0 0 [.ref q, .ref q'] T V X sz (qU T X sz (fun V' => StOK T V' q s' ∧ jAg V V' q (q + 64))) := by
  refine Sp.of pn_X5_takeFrom rfl (Nat.le_of_ble_eq_true rfl) ?_
  obtain ⟨h0, h1, h2, h3, h4, h5, h6, e1, e2, e3, e4, e5⟩ := id h
  obtain ⟨p0, p1, p2, p3, p4, p5, p6, d1, d2, d3, d4, d5⟩ := id h'
  refine j_aload_n dX5_takeFrom_0 rfl ?_
  refine j_getr dX5_takeFrom_1 hB fl_X5_12 (by first | exact h0 | exact p0 | exact h1.1 | exact h2.1 | exact h3.1 | exact h4.1 | exact h5.1 | exact h6.1 | exact p1.1 | exact p2.1 | exact p3.1 | exact p4.1 | exact p5.1 | exact p6.1) (by rfl) ?_
  refine j_aload_n dX5_takeFrom_4 rfl ?_
  refine j_getr dX5_takeFrom_5 hB fl_X5_12 (by first | exact h0 | exact p0 | exact h1.1 | exact h2.1 | exact h3.1 | exact h4.1 | exact h5.1 | exact h6.1 | exact p1.1 | exact p2.1 | exact p3.1 | exact p4.1 | exact p5.1 | exact p6.1) (by rfl) ?_
  refine j_cVu dX5_takeFrom_8 hB mo_X2_takeFrom ml_X5_72 (sp_X2_takeFrom hB (h1) (p1) (by omega)) (by first | exact h0 | exact p0 | exact h1.1 | exact h2.1 | exact h3.1 | exact h4.1 | exact h5.1 | exact h6.1 | exact p1.1 | exact p2.1 | exact p3.1 | exact p4.1 | exact p5.1 | exact p6.1) rfl rfl rfl rfl ⟨rfl, rfl, by decide, by decide⟩ (Nat.le_of_ble_eq_true rfl) ⟨by decide, by decide⟩ (fun V_8 h_8 => ?_)
  obtain ⟨g1, a1⟩ := h_8
  refine j_aload_n dX5_takeFrom_11 rfl ?_
  refine j_getr dX5_takeFrom_12 hB fl_X5_18 (by first | exact h0 | exact p0 | exact h1.1 | exact h2.1 | exact h3.1 | exact h4.1 | exact h5.1 | exact h6.1 | exact p1.1 | exact p2.1 | exact p3.1 | exact p4.1 | exact p5.1 | exact p6.1) (by rfl) ?_
  refine j_aload_n dX5_takeFrom_15 rfl ?_
  refine j_getr dX5_takeFrom_16 hB fl_X5_18 (by first | exact h0 | exact p0 | exact h1.1 | exact h2.1 | exact h3.1 | exact h4.1 | exact h5.1 | exact h6.1 | exact p1.1 | exact p2.1 | exact p3.1 | exact p4.1 | exact p5.1 | exact p6.1) (by rfl) ?_
  refine j_cVu dX5_takeFrom_19 hB mo_X2_takeFrom ml_X5_72 (sp_X2_takeFrom hB ((h2).ag a1 (by omega)) ((p2).ag a1 (by omega)) (by omega)) (by first | exact h0 | exact p0 | exact h1.1 | exact h2.1 | exact h3.1 | exact h4.1 | exact h5.1 | exact h6.1 | exact p1.1 | exact p2.1 | exact p3.1 | exact p4.1 | exact p5.1 | exact p6.1) rfl rfl rfl rfl ⟨rfl, rfl, by decide, by decide⟩ (Nat.le_of_ble_eq_true rfl) ⟨by decide, by decide⟩ (fun V_19 h_19 => ?_)
  obtain ⟨g2, a2⟩ := h_19
  refine j_aload_n dX5_takeFrom_22 rfl ?_
  refine j_getr dX5_takeFrom_23 hB fl_X5_21 (by first | exact h0 | exact p0 | exact h1.1 | exact h2.1 | exact h3.1 | exact h4.1 | exact h5.1 | exact h6.1 | exact p1.1 | exact p2.1 | exact p3.1 | exact p4.1 | exact p5.1 | exact p6.1) (by rfl) ?_
  refine j_aload_n dX5_takeFrom_26 rfl ?_
  refine j_getr dX5_takeFrom_27 hB fl_X5_21 (by first | exact h0 | exact p0 | exact h1.1 | exact h2.1 | exact h3.1 | exact h4.1 | exact h5.1 | exact h6.1 | exact p1.1 | exact p2.1 | exact p3.1 | exact p4.1 | exact p5.1 | exact p6.1) (by rfl) ?_
  refine j_cVu dX5_takeFrom_30 hB mo_X2_takeFrom ml_X5_72 (sp_X2_takeFrom hB (((h3).ag a1 (by omega)).ag a2 (by omega)) (((p3).ag a1 (by omega)).ag a2 (by omega)) (by omega)) (by first | exact h0 | exact p0 | exact h1.1 | exact h2.1 | exact h3.1 | exact h4.1 | exact h5.1 | exact h6.1 | exact p1.1 | exact p2.1 | exact p3.1 | exact p4.1 | exact p5.1 | exact p6.1) rfl rfl rfl rfl ⟨rfl, rfl, by decide, by decide⟩ (Nat.le_of_ble_eq_true rfl) ⟨by decide, by decide⟩ (fun V_30 h_30 => ?_)
  obtain ⟨g3, a3⟩ := h_30
  refine j_aload_n dX5_takeFrom_33 rfl ?_
  refine j_getr dX5_takeFrom_34 hB fl_X5_29 (by first | exact h0 | exact p0 | exact h1.1 | exact h2.1 | exact h3.1 | exact h4.1 | exact h5.1 | exact h6.1 | exact p1.1 | exact p2.1 | exact p3.1 | exact p4.1 | exact p5.1 | exact p6.1) (by rfl) ?_
  refine j_aload_n dX5_takeFrom_37 rfl ?_
  refine j_getr dX5_takeFrom_38 hB fl_X5_29 (by first | exact h0 | exact p0 | exact h1.1 | exact h2.1 | exact h3.1 | exact h4.1 | exact h5.1 | exact h6.1 | exact p1.1 | exact p2.1 | exact p3.1 | exact p4.1 | exact p5.1 | exact p6.1) (by rfl) ?_
  refine j_cVu dX5_takeFrom_41 hB mo_X3_takeFrom ml_X5_76 (sp_X3_takeFrom hB ((((h4).ag a1 (by omega)).ag a2 (by omega)).ag a3 (by omega)) ((((p4).ag a1 (by omega)).ag a2 (by omega)).ag a3 (by omega)) (by omega) (by rw [Rw_ag a3 (by omega), Rw_ag a2 (by omega), Rw_ag a1 (by omega)]; exact p4.le)) (by first | exact h0 | exact p0 | exact h1.1 | exact h2.1 | exact h3.1 | exact h4.1 | exact h5.1 | exact h6.1 | exact p1.1 | exact p2.1 | exact p3.1 | exact p4.1 | exact p5.1 | exact p6.1) rfl rfl rfl rfl ⟨rfl, rfl, by decide, by decide⟩ (Nat.le_of_ble_eq_true rfl) ⟨by decide, by decide⟩ (fun V_41 h_41 => ?_)
  obtain ⟨g4, f4, a4⟩ := h_41
  refine j_aload_n dX5_takeFrom_44 rfl ?_
  refine j_getr dX5_takeFrom_45 hB fl_X5_33 (by first | exact h0 | exact p0 | exact h1.1 | exact h2.1 | exact h3.1 | exact h4.1 | exact h5.1 | exact h6.1 | exact p1.1 | exact p2.1 | exact p3.1 | exact p4.1 | exact p5.1 | exact p6.1) (by rfl) ?_
  refine j_aload_n dX5_takeFrom_48 rfl ?_
  refine j_getr dX5_takeFrom_49 hB fl_X5_33 (by first | exact h0 | exact p0 | exact h1.1 | exact h2.1 | exact h3.1 | exact h4.1 | exact h5.1 | exact h6.1 | exact p1.1 | exact p2.1 | exact p3.1 | exact p4.1 | exact p5.1 | exact p6.1) (by rfl) ?_
  refine j_cVu dX5_takeFrom_52 hB mo_X3_takeFrom ml_X5_76 (sp_X3_takeFrom hB (((((h5).ag a1 (by omega)).ag a2 (by omega)).ag a3 (by omega)).ag a4 (by omega)) (((((p5).ag a1 (by omega)).ag a2 (by omega)).ag a3 (by omega)).ag a4 (by omega)) (by omega) (by rw [Rw_ag a4 (by omega), Rw_ag a3 (by omega), Rw_ag a2 (by omega), Rw_ag a1 (by omega)]; exact p5.le)) (by first | exact h0 | exact p0 | exact h1.1 | exact h2.1 | exact h3.1 | exact h4.1 | exact h5.1 | exact h6.1 | exact p1.1 | exact p2.1 | exact p3.1 | exact p4.1 | exact p5.1 | exact p6.1) rfl rfl rfl rfl ⟨rfl, rfl, by decide, by decide⟩ (Nat.le_of_ble_eq_true rfl) ⟨by decide, by decide⟩ (fun V_52 h_52 => ?_)
  obtain ⟨g5, f5, a5⟩ := h_52
  refine j_aload_n dX5_takeFrom_55 rfl ?_
  refine j_getr dX5_takeFrom_56 hB fl_X5_36 (by first | exact h0 | exact p0 | exact h1.1 | exact h2.1 | exact h3.1 | exact h4.1 | exact h5.1 | exact h6.1 | exact p1.1 | exact p2.1 | exact p3.1 | exact p4.1 | exact p5.1 | exact p6.1) (by rfl) ?_
  refine j_aload_n dX5_takeFrom_59 rfl ?_
  refine j_getr dX5_takeFrom_60 hB fl_X5_36 (by first | exact h0 | exact p0 | exact h1.1 | exact h2.1 | exact h3.1 | exact h4.1 | exact h5.1 | exact h6.1 | exact p1.1 | exact p2.1 | exact p3.1 | exact p4.1 | exact p5.1 | exact p6.1) (by rfl) ?_
  refine j_cVu dX5_takeFrom_63 hB mo_X3_takeFrom ml_X5_76 (sp_X3_takeFrom hB ((((((h6).ag a1 (by omega)).ag a2 (by omega)).ag a3 (by omega)).ag a4 (by omega)).ag a5 (by omega)) ((((((p6).ag a1 (by omega)).ag a2 (by omega)).ag a3 (by omega)).ag a4 (by omega)).ag a5 (by omega)) (by omega) (by rw [Rw_ag a5 (by omega), Rw_ag a4 (by omega), Rw_ag a3 (by omega), Rw_ag a2 (by omega), Rw_ag a1 (by omega)]; exact p6.le)) (by first | exact h0 | exact p0 | exact h1.1 | exact h2.1 | exact h3.1 | exact h4.1 | exact h5.1 | exact h6.1 | exact p1.1 | exact p2.1 | exact p3.1 | exact p4.1 | exact p5.1 | exact p6.1) rfl rfl rfl rfl ⟨rfl, rfl, by decide, by decide⟩ (Nat.le_of_ble_eq_true rfl) ⟨by decide, by decide⟩ (fun V_63 h_63 => ?_)
  obtain ⟨g6, f6, a6⟩ := h_63
  refine j_aload_n dX5_takeFrom_66 rfl ?_
  refine j_aload_n dX5_takeFrom_67 rfl ?_
  refine j_geti dX5_takeFrom_68 hB fl_X5_39 (by first | exact h0 | exact p0 | exact h1.1 | exact h2.1 | exact h3.1 | exact h4.1 | exact h5.1 | exact h6.1 | exact p1.1 | exact p2.1 | exact p3.1 | exact p4.1 | exact p5.1 | exact p6.1) (by rfl) ?_
  refine j_puti dX5_takeFrom_71 hB fp_X5_takeFrom_39 (by first | exact h0 | exact p0 | exact h1.1 | exact h2.1 | exact h3.1 | exact h4.1 | exact h5.1 | exact h6.1 | exact p1.1 | exact p2.1 | exact p3.1 | exact p4.1 | exact p5.1 | exact p6.1) (by rfl) ?_
  refine j_aload_n dX5_takeFrom_74 rfl ?_
  refine j_aload_n dX5_takeFrom_75 rfl ?_
  refine j_geti dX5_takeFrom_76 hB fl_X5_43 (by first | exact h0 | exact p0 | exact h1.1 | exact h2.1 | exact h3.1 | exact h4.1 | exact h5.1 | exact h6.1 | exact p1.1 | exact p2.1 | exact p3.1 | exact p4.1 | exact p5.1 | exact p6.1) (by rfl) ?_
  refine j_puti dX5_takeFrom_79 hB fp_X5_takeFrom_43 (by first | exact h0 | exact p0 | exact h1.1 | exact h2.1 | exact h3.1 | exact h4.1 | exact h5.1 | exact h6.1 | exact p1.1 | exact p2.1 | exact p3.1 | exact p4.1 | exact p5.1 | exact p6.1) (by rfl) ?_
  refine j_vret dX5_takeFrom_82 rfl (by decide) (by decide) ?_
  have w1 := a1.wide (show q ≤ q + 1 by omega) (show q + 1 + 19 ≤ q + 64 by omega)
  have w2 := a2.wide (show q ≤ q + 20 by omega) (show q + 20 + 19 ≤ q + 64 by omega)
  have w3 := a3.wide (show q ≤ q + 39 by omega) (show q + 39 + 19 ≤ q + 64 by omega)
  have w4 := a4.wide (show q ≤ q + 58 by omega) (show q + 58 + 2 ≤ q + 64 by omega)
  have w5 := a5.wide (show q ≤ q + 60 by omega) (show q + 60 + 2 ≤ q + 64 by omega)
  have w6 := a6.wide (show q ≤ q + 62 by omega) (show q + 62 + 2 ≤ q + 64 by omega)
  have wA := ((((w1.tr w2).tr w3).tr w4).tr w5).tr w6
  rw [Rw_ag a3 (by omega), Rw_ag a2 (by omega), Rw_ag a1 (by omega), d1] at f4
  rw [Rw_ag a4 (by omega), Rw_ag a3 (by omega), Rw_ag a2 (by omega), Rw_ag a1 (by omega), d2] at f5
  rw [Rw_ag a5 (by omega), Rw_ag a4 (by omega), Rw_ag a3 (by omega), Rw_ag a2 (by omega), Rw_ag a1 (by omega), d3] at f6
  rw [wA q' (by omega)]
  have wB := jAg.rf (V := V_63) (lo := q) (hi := q + 1) |>.set (k := 6) (v := V q' 6) (Nat.le_refl q) (by omega)
  have wC := wB.set (k := 7) (v := (jset V_63 q 6 (V q' 6)) q' 7) (Nat.le_refl q) (by omega)
  have hv : (jset V_63 q 6 (V q' 6)) q' 7 = V q' 7 := by rw [jset_ne (Or.inl (by omega)), wA q' (by omega)]
  rw [hv] at wC ⊢
  refine ⟨rfl, rfl, rfl, rfl, ⟨h0, (((((g1.ag a2 (by omega)).ag a3 (by omega)).ag a4 (by omega)).ag a5 (by omega)).ag a6 (by omega)).ag wC (by omega), ((((g2.ag a3 (by omega)).ag a4 (by omega)).ag a5 (by omega)).ag a6 (by omega)).ag wC (by omega), (((g3.ag a4 (by omega)).ag a5 (by omega)).ag a6 (by omega)).ag wC (by omega), ((g4.ag a5 (by omega)).ag a6 (by omega)).ag wC (by omega), (g5.ag a6 (by omega)).ag wC (by omega), g6.ag wC (by omega), by rw [Rw_ag wC (by omega), Rw_ag a6 (by omega), Rw_ag a5 (by omega)]; exact f4, by rw [Rw_ag wC (by omega), Rw_ag a6 (by omega)]; exact f5, by rw [Rw_ag wC (by omega)]; exact f6, ?_, ?_⟩, wA.tr (wC.wide (by omega) (by omega))⟩
  · rw [jset_ne (Or.inr (by decide)), jset_eq]; exact d4
  · rw [jset_eq]; exact d5
end JState
end
section
/-! CueSheets$Choice: strains, pace, size of the best that is found; the search as a fold over all cues in the order of ties -/
abbrev cT : Type := Int × Int × Int
def cIs (V : jV) (q : Nat) (c : cT) : Prop := (V q 0).toInt = c.1 ∧ (V q 1).toInt = c.2.1 ∧ (V q 2).toInt = c.2.2
def cCons (c : cT) (n p d : Int) : cT := if (d.natAbs : Int) < c.2.2 then (n, p, d.natAbs) else c
/-- the drift of n strains at the pace p: u unrepeated, s a strain, m the room -/
def cD (u s m n p : Int) : Int := (u + n * s) * 100 / p - m
def cStep (u s m : Int) (c : cT) (o n : Int) : cT := cCons (cCons c n (100 - o) (cD u s m n (100 - o))) n (100 + o) (cD u s m n (100 + o))
def cTry (u s m : Int) (c : cT) (o : Int) : Nat → cT
  | 0 => c
  | k + 1 => cStep u s m (cTry u s m c o k) o (k + 1)
def cSrch (u s m : Int) (c : cT) : Nat → cT
  | 0 => c
  | k + 1 => cTry u s m (cSrch u s m c k) k 9
theorem cCons_no {c : cT} {n p d : Int} (h : c.2.2 ≤ d.natAbs) : cCons c n p d = c := if_neg (by omega)
theorem cCons_le (c : cT) (n p d : Int) : (cCons c n p d).2.2 ≤ c.2.2 ∧ (cCons c n p d).2.2 ≤ d.natAbs := by
  unfold cCons
  split
  · exact ⟨by dsimp only; omega, by dsimp only; omega⟩
  · omega
theorem ediv_mono {a b p r : Int} (h0 : 0 ≤ a) (h : a ≤ b) (hr : 0 < r) (hrp : r ≤ p) : a / p ≤ b / r := by
  rw [Int.le_ediv_iff_mul_le hr]
  have h1 : a / p * r ≤ a / p * p := Int.mul_le_mul_of_nonneg_left hrp (Int.ediv_nonneg h0 (by omega))
  have h2 : a / p * p ≤ a := Int.ediv_mul_le a (by omega)
  omega
theorem cD_mono {u s m n n' p p' : Int} (hu : 0 ≤ u) (hs : 0 ≤ s) (hn : 0 ≤ n) (hnn : n ≤ n') (hp : 0 < p') (hpp : p' ≤ p) : cD u s m n p ≤ cD u s m n' p' := by
  have h1 : n * s ≤ n' * s := Int.mul_le_mul_of_nonneg_right hnn hs
  have h0 : 0 ≤ n * s := Int.mul_nonneg hn hs
  have := ediv_mono (a := (u + n * s) * 100) (b := (u + n' * s) * 100) (by omega) (by omega) hp hpp
  unfold cD
  omega
/-- where the shorter one ends too late already, no more strains are better -/
theorem cTry_stop {u s m o : Int} {c : cT} (hu : 0 ≤ u) (hs : 0 ≤ s) (o0 : 0 ≤ o) (o1 : o ≤ 20) {k : Nat} (hk : 0 ≤ cD u s m k (100 + o)) (hc : (cTry u s m c o k).2.2 ≤ cD u s m k (100 + o)) : ∀ j : Nat, cTry u s m c o (k + j) = cTry u s m c o k
  | 0 => rfl
  | j + 1 => by
    have ih := cTry_stop hu hs o0 o1 hk hc j
    show cStep u s m (cTry u s m c o (k + j)) o ((k + j : Nat) + 1) = _
    rw [ih]
    have d1 : cD u s m k (100 + o) ≤ cD u s m ((k + j : Nat) + 1) (100 - o) := cD_mono hu hs (by omega) (by omega) (by omega) (by omega)
    have d2 : cD u s m k (100 + o) ≤ cD u s m ((k + j : Nat) + 1) (100 + o) := cD_mono hu hs (by omega) (by omega) (by omega) (by omega)
    unfold cStep
    have e1 : cCons (cTry u s m c o k) ((k + j : Nat) + 1) (100 - o) (cD u s m ((k + j : Nat) + 1) (100 - o)) = cTry u s m c o k := cCons_no (by omega)
    rw [e1]
    exact cCons_no (by omega)
theorem cTry_0 {u s m o : Int} {c : cT} (hc : c.2.2 ≤ 0) : ∀ k : Nat, cTry u s m c o k = c
  | 0 => rfl
  | k + 1 => by
    show cStep u s m (cTry u s m c o k) o (k + 1) = c
    rw [cTry_0 hc k]
    unfold cStep
    have e1 : cCons c (k + 1) (100 - o) (cD u s m (k + 1) (100 - o)) = c := cCons_no (by omega)
    rw [e1]
    exact cCons_no (by omega)
theorem cSrch_0 {u s m : Int} {c : cT} {k : Nat} (hc : (cSrch u s m c k).2.2 ≤ 0) : ∀ j : Nat, cSrch u s m c (k + j) = cSrch u s m c k
  | 0 => rfl
  | j + 1 => by
    show cTry u s m (cSrch u s m c (k + j)) _ 9 = _
    rw [cSrch_0 hc j, cTry_0 hc 9]
/-- the first cue is always taken: what stood there before is of no account -/
theorem cTry_first {u s m : Int} {c c' : cT} (hc : c.2.2 = 2147483647) (hc' : c'.2.2 = 2147483647) (hd : ((cD u s m 1 100).natAbs : Int) < 2147483647) : ∀ k : Nat, cTry u s m c 0 (k + 1) = cTry u s m c' 0 (k + 1)
  | 0 => by
    show cStep u s m c 0 1 = cStep u s m c' 0 1
    unfold cStep
    have e : ∀ x : cT, x.2.2 = 2147483647 → cCons x 1 (100 - 0) (cD u s m 1 (100 - 0)) = (1, 100, ((cD u s m 1 100).natAbs : Int)) := fun x hx => if_pos (by rw [hx]; exact hd)
    rw [e c hc, e c' hc']
  | k + 1 => by
    show cStep u s m (cTry u s m c 0 (k + 1)) 0 _ = cStep u s m (cTry u s m c' 0 (k + 1)) 0 _
    rw [cTry_first hc hc' hd k]
theorem cSrch_first {u s m : Int} {c c' : cT} (hc : c.2.2 = 2147483647) (hc' : c'.2.2 = 2147483647) (hd : ((cD u s m 1 100).natAbs : Int) < 2147483647) : ∀ k : Nat, cSrch u s m c (k + 1) = cSrch u s m c' (k + 1)
  | 0 => cTry_first hc hc' hd 8
  | k + 1 => by
    show cTry u s m (cSrch u s m c (k + 1)) _ 9 = cTry u s m (cSrch u s m c' (k + 1)) _ 9
    rw [cSrch_first hc hc' hd k]
theorem cD_rng {u s m n p : Int} (u0 : 0 ≤ u) (u1 : u ≤ 1200) (s0 : 0 ≤ s) (s1 : s ≤ 1200) (m0 : -1000000 ≤ m) (m1 : m ≤ 1000000) (n0 : 0 ≤ n) (n1 : n ≤ 9) (p0 : 80 ≤ p) : 0 ≤ (u + n * s) * 100 / p ∧ (u + n * s) * 100 / p ≤ 15000 ∧ -1000000 ≤ cD u s m n p ∧ cD u s m n p ≤ 1015000 := by
  have := mul_rng n0 n1 s0 s1
  have h1 : 0 ≤ (u + n * s) * 100 / p := Int.ediv_nonneg (by omega) (by omega)
  have h2 : (u + n * s) * 100 / p < 15001 := Int.ediv_lt_of_lt_mul (by omega) (by omega)
  unfold cD
  omega
section JChoice
variable {l : Launch} {s0 : State} {D : jD} {T : jT} {V : jV} {X : jX} {sz : Nat}
set_option maxRecDepth 100000 in
set_option maxHeartbeats 4000000 in
theorem sp_X0_consider (hB : jB l s0 D) {q : Nat} {c : cT} {n p d : Int32} (h : T q = some kChoice) (hc : cIs V q c) (hd : -2147483648 < d.toInt) : Sp l s0 D kX0_consider (jR 1 0 0) 0 0 [.ref q, .int n, .int p, .int d] T V X sz (qU T X sz (fun V' => cIs V' q (cCons c n.toInt p.toInt d.toInt) ∧ jAg V V' q (q + 1))) := by
  refine Sp.of pn_X0_consider rfl (Nat.le_of_ble_eq_true rfl) ?_
  have ha := ti_abs hd
  refine j_iload_n dX0_consider_0 rfl ?_
  refine j_mabs dX0_consider_1 hB ml_X0_51 (by decide) (Nat.le_of_ble_eq_true rfl) (by decide) (by decide) ?_
  refine j_aload_n dX0_consider_4 rfl ?_
  refine j_geti dX0_consider_5 hB fl_X0_30 (by exact h) (by rfl) ?_
  refine j_icmp_ge (tgt := 29) dX0_consider_8 (by decide) (fun c_8 => ?_) (fun c_8 => ?_)
  · refine j_vret dX0_consider_29 rfl (by decide) (by decide) ?_
    refine ⟨rfl, rfl, rfl, rfl, ?_⟩
    rw [ha, hc.2.2] at c_8
    unfold cCons
    rw [if_neg (by omega)]
    exact ⟨hc, jAg.rf⟩
  · refine j_aload_n dX0_consider_11 rfl ?_
    refine j_iload_n dX0_consider_12 rfl ?_
    refine j_puti dX0_consider_13 hB fp_X0_consider_56 (by exact h) (by rfl) ?_
    refine j_aload_n dX0_consider_16 rfl ?_
    refine j_iload_n dX0_consider_17 rfl ?_
    refine j_puti dX0_consider_18 hB fp_X0_consider_58 (by exact h) (by rfl) ?_
    refine j_aload_n dX0_consider_21 rfl ?_
    refine j_iload_n dX0_consider_22 rfl ?_
    refine j_mabs dX0_consider_23 hB ml_X0_51 (by decide) (Nat.le_of_ble_eq_true rfl) (by decide) (by decide) ?_
    refine j_puti dX0_consider_26 hB fp_X0_consider_30 (by exact h) (by rfl) ?_
    refine j_vret dX0_consider_29 rfl (by decide) (by decide) ?_
    refine ⟨rfl, rfl, rfl, rfl, ?_⟩
    rw [ha, hc.2.2] at c_8
    unfold cCons
    rw [if_pos (by omega)]
    exact ⟨⟨by rw [jset_ne (Or.inr (by decide)), jset_ne (Or.inr (by decide)), jset_eq], by rw [jset_ne (Or.inr (by decide)), jset_eq], by rw [jset_eq, ha]⟩, ((jAg.rf.set (by omega) (by omega)).set (by omega) (by omega)).set (by omega) (by omega)⟩
set_option maxRecDepth 100000 in
set_option maxHeartbeats 4000000 in
theorem sp_X0_tryPaces (hB : jB l s0 D) {q : Nat} {c : cT} {u st m o : Int32} (h : T q = some kChoice) (hc : cIs V q c) (u0 : 0 ≤ u.toInt) (u1 : u.toInt ≤ 1200) (s0' : 0 ≤ st.toInt) (s1 : st.toInt ≤ 1200) (m0 : -1000000 ≤ m.toInt) (m1 : m.toInt ≤ 1000000) (o0 : 0 ≤ o.toInt) (o1 : o.toInt ≤ 20) : Sp l s0 D kX0_tryPaces (jR 2 0 0) 0 0 [.ref q, .int u, .int st, .int m, .int o] T V X sz (qU T X sz (fun V' => cIs V' q (cTry u.toInt st.toInt m.toInt c o.toInt 9) ∧ jAg V V' q (q + 1))) := by
  refine Sp.of pn_X0_tryPaces rfl (Nat.le_of_ble_eq_true rfl) ?_
  have h9 : (9 : Int32).toInt = 9 := by decide
  have h100 : (100 : Int32).toInt = 100 := by decide
  have loop : ∀ (r k : Nat) (i : Int32) (V1 : jV) (L : List (Nat × Value)), L.lookup 0 = some (.ref q) → L.lookup 1 = some (.int u) → L.lookup 2 = some (.int st) → L.lookup 3 = some (.int m) → L.lookup 4 = some (.int o) → L.lookup 5 = some (.int i) → i.toInt = k + 1 → k + r = 9 → cIs V1 q (cTry u.toInt st.toInt m.toInt c o.toInt k) → jAg V V1 q (q + 1) → J l s0 D kX0_tryPaces (jR 2 0 0) 0 0 (qU T X sz (fun V' => cIs V' q (cTry u.toInt st.toInt m.toInt c o.toInt 9) ∧ jAg V V' q (q + 1))) 3 L [] T V1 X sz 0 0 := by
    intro r
    induction r with
    | zero =>
      intro k i V1 L l0 l1 l2 l3 l4 l5 hi hk hc1 ha
      refine j_sub2 (L' := [(0, .ref q), (1, .int u), (2, .int st), (3, .int m), (4, .int o), (5, .int i)]) (List.forall_mem_cons.mpr ⟨l0, List.forall_mem_cons.mpr ⟨l1, List.forall_mem_cons.mpr ⟨l2, List.forall_mem_cons.mpr ⟨l3, List.forall_mem_cons.mpr ⟨l4, List.forall_mem_cons.mpr ⟨l5, fun _ h9 => nomatch h9⟩⟩⟩⟩⟩⟩) ?_
      refine j_iload dX0_tryPaces_3 rfl ?_
      refine j_bipush (v := 9) dX0_tryPaces_5 (by decide) ?_
      refine j_icmp_gt (tgt := 80) dX0_tryPaces_7 (by decide) (fun c_7 => ?_) (fun c_7 => ?_)
      · refine j_vret dX0_tryPaces_80 rfl (by decide) (by decide) ?_
        exact ⟨rfl, rfl, rfl, rfl, by rw [show k = 9 by omega] at hc1; exact hc1, ha⟩
      · exact absurd c_7 (by rw [h9]; omega)
    | succ r ih =>
      intro k i V1 L l0 l1 l2 l3 l4 l5 hi hk hc1 ha
      have hms := mul_rng (k := i.toInt) (x := st.toInt) (by omega) (by omega) s0' s1
      have t1 : (i * st).toInt = i.toInt * st.toInt := ti_mul (by omega) (by omega)
      have t2 : (u + i * st).toInt = u.toInt + i.toInt * st.toInt := by rw [ti_add (by omega) (by omega), t1]
      have p1 : (100 - o).toInt = 100 - o.toInt := by rw [ti_sub (by rw [h100]; omega) (by rw [h100]; omega), h100]
      have p2 : (100 + o).toInt = 100 + o.toInt := by rw [ti_add (by rw [h100]; omega) (by rw [h100]; omega), h100]
      have r1 := cD_rng (n := i.toInt) (p := 100 - o.toInt) u0 u1 s0' s1 m0 m1 (by omega) (by omega) (by omega)
      have r2 := cD_rng (n := i.toInt) (p := 100 + o.toInt) u0 u1 s0' s1 m0 m1 (by omega) (by omega) (by omega)
      refine j_sub2 (L' := [(0, .ref q), (1, .int u), (2, .int st), (3, .int m), (4, .int o), (5, .int i)]) (List.forall_mem_cons.mpr ⟨l0, List.forall_mem_cons.mpr ⟨l1, List.forall_mem_cons.mpr ⟨l2, List.forall_mem_cons.mpr ⟨l3, List.forall_mem_cons.mpr ⟨l4, List.forall_mem_cons.mpr ⟨l5, fun _ h9 => nomatch h9⟩⟩⟩⟩⟩⟩) ?_
      refine j_iload dX0_tryPaces_3 rfl ?_
      refine j_bipush (v := 9) dX0_tryPaces_5 (by decide) ?_
      refine j_icmp_gt (tgt := 80) dX0_tryPaces_7 (by decide) (fun c_7 => ?_) (fun c_7 => ?_)
      · exact absurd c_7 (by rw [h9]; omega)
      · refine j_iload_n dX0_tryPaces_10 rfl ?_
        refine j_iload dX0_tryPaces_11 rfl ?_
        refine j_iload_n dX0_tryPaces_13 rfl ?_
        refine j_imul dX0_tryPaces_14 ?_
        refine j_iadd dX0_tryPaces_15 ?_
        refine j_istore (L' := [(0, _), (1, _), (2, _), (3, _), (4, _), (5, _), (6, _)]) dX0_tryPaces_16 (by decide) rfl ?_
        refine j_aload_n dX0_tryPaces_18 rfl ?_
        refine j_iload dX0_tryPaces_19 rfl ?_
        refine j_bipush (v := 100) dX0_tryPaces_21 (by decide) ?_
        refine j_iload dX0_tryPaces_23 rfl ?_
        refine j_isub dX0_tryPaces_25 ?_
        refine j_iload dX0_tryPaces_26 rfl ?_
        refine j_bipush (v := 100) dX0_tryPaces_28 (by decide) ?_
        refine j_iload dX0_tryPaces_30 rfl ?_
        refine j_isub dX0_tryPaces_32 ?_
        refine j_cSi dX0_tryPaces_33 hB mo_X5_timeAtPace ml_X0_43 (sp_X5_timeAtPace hB (by omega) (by omega) (by omega)) rfl rfl ⟨rfl, rfl, by decide, by decide⟩ (Nat.le_of_ble_eq_true rfl) ⟨by decide, by decide⟩ (fun r_33 V_33 h_33 => ?_)
        obtain ⟨rfl, hr⟩ := h_33
        rw [t2, p1] at hr
        have hd1 : (r_33 - m).toInt = cD u.toInt st.toInt m.toInt i.toInt (100 - o.toInt) := by rw [ti_sub (by omega) (by omega), hr]; rfl
        refine j_iload_n dX0_tryPaces_36 rfl ?_
        refine j_isub dX0_tryPaces_37 ?_
        refine j_cVu dX0_tryPaces_38 hB mo_X0_consider ml_X0_47 (sp_X0_consider hB h hc1 (by omega)) (by exact h) rfl rfl rfl rfl ⟨rfl, rfl, by decide, by decide⟩ (Nat.le_of_ble_eq_true rfl) ⟨by decide, by decide⟩ (fun V_38 h_38 => ?_)
        obtain ⟨g1, a1⟩ := h_38
        rw [hd1, p1] at g1
        refine j_iload dX0_tryPaces_41 rfl ?_
        refine j_bipush (v := 100) dX0_tryPaces_43 (by decide) ?_
        refine j_iload dX0_tryPaces_45 rfl ?_
        refine j_iadd dX0_tryPaces_47 ?_
        refine j_cSi dX0_tryPaces_48 hB mo_X5_timeAtPace ml_X0_43 (sp_X5_timeAtPace hB (by omega) (by omega) (by omega)) rfl rfl ⟨rfl, rfl, by decide, by decide⟩ (Nat.le_of_ble_eq_true rfl) ⟨by decide, by decide⟩ (fun r_48 V_48 h_48 => ?_)
        obtain ⟨rfl, hr2⟩ := h_48
        rw [t2, p2] at hr2
        refine j_iload_n dX0_tryPaces_51 rfl ?_
        refine j_isub dX0_tryPaces_52 ?_
        refine j_topi (fun b7 e7 => ?_)
        have hd2 : b7.toInt = cD u.toInt st.toInt m.toInt i.toInt (100 + o.toInt) := by rw [e7, ti_sub (by omega) (by omega), hr2]; rfl
        refine j_istore (L' := [(0, _), (1, _), (2, _), (3, _), (4, _), (5, _), (6, _), (7, _)]) dX0_tryPaces_53 (by decide) rfl ?_
        refine j_aload_n dX0_tryPaces_55 rfl ?_
        refine j_iload dX0_tryPaces_56 rfl ?_
        refine j_bipush (v := 100) dX0_tryPaces_58 (by decide) ?_
        refine j_iload dX0_tryPaces_60 rfl ?_
        refine j_iadd dX0_tryPaces_62 ?_
        refine j_iload dX0_tryPaces_63 rfl ?_
        refine j_cVu dX0_tryPaces_65 hB mo_X0_consider ml_X0_47 (sp_X0_consider hB h g1 (by omega)) (by exact h) rfl rfl rfl rfl ⟨rfl, rfl, by decide, by decide⟩ (Nat.le_of_ble_eq_true rfl) ⟨by decide, by decide⟩ (fun V_65 h_65 => ?_)
        obtain ⟨g2, a2⟩ := h_65
        rw [hd2, p2] at g2
        have g3 : cIs V_65 q (cTry u.toInt st.toInt m.toInt c o.toInt (k + 1)) := by rw [hi] at g2; exact g2
        have hle := (cCons_le (cCons (cTry u.toInt st.toInt m.toInt c o.toInt k) i.toInt (100 - o.toInt) (cD u.toInt st.toInt m.toInt i.toInt (100 - o.toInt))) i.toInt (100 + o.toInt) (cD u.toInt st.toInt m.toInt i.toInt (100 + o.toInt))).2
        have hle : (cTry u.toInt st.toInt m.toInt c o.toInt (k + 1)).2.2 ≤ (cD u.toInt st.toInt m.toInt i.toInt (100 + o.toInt)).natAbs := by rw [hi] at hle ⊢; exact hle
        refine j_iload dX0_tryPaces_68 rfl ?_
        refine j_if_lt (tgt := 74) dX0_tryPaces_70 (by decide) (fun c_70 => ?_) (fun c_70 => ?_)
        · refine j_iinc (v := 1) (L' := [(0, _), (1, _), (2, _), (3, _), (4, _), (5, _), (6, _), (7, _)]) dX0_tryPaces_74 rfl (by decide) (by decide) rfl ?_
          refine j_goto (tgt := 3) dX0_tryPaces_77 (by decide) ?_
          refine ih (k + 1) _ V_65 _ rfl rfl rfl rfl rfl rfl ?_ (by omega) g3 ((ha.tr a1).tr a2)
          rw [ti_add (by rw [ti_1]; omega) (by rw [ti_1]; omega), ti_1]; omega
        · refine j_vret dX0_tryPaces_73 rfl (by decide) (by decide) ?_
          refine ⟨rfl, rfl, rfl, rfl, ?_, (ha.tr a1).tr a2⟩
          have e := cTry_stop (c := c) (m := m.toInt) u0 s0' o0 o1 (k := k + 1) (by rw [show ((k + 1 : Nat) : Int) = i.toInt by omega]; omega) (by rw [show ((k + 1 : Nat) : Int) = i.toInt by omega]; omega) (9 - (k + 1))
          rw [show k + 1 + (9 - (k + 1)) = 9 by omega] at e
          rw [e]; exact g3
  refine j_iconst (v := 1) dX0_tryPaces_0 (by decide) ?_
  refine j_istore (L' := [(0, _), (1, _), (2, _), (3, _), (4, _), (5, _)]) dX0_tryPaces_1 (by decide) rfl ?_
  exact loop 9 0 1 V _ rfl rfl rfl rfl rfl rfl rfl rfl hc jAg.rf
/-- what the search finds: the best of the piece i, for the room m -/
def bestT (s : aS) (i m : Int) : cT := cSrch ((atZ s.2.1.1 i).toInt + (atZ s.2.1.2.2 i).toInt) (atZ s.2.1.2.1 i).toInt m (0, 0, 2147483647) (s.2.2.2.toInt.toNat + 1)
def lwW (s : aS) : Prop := 0 ≤ s.2.2.1.toInt ∧ s.2.2.1.toInt ≤ 600 ∧ 0 ≤ s.2.2.2.toInt ∧ s.2.2.2.toInt ≤ 20
set_option maxRecDepth 100000 in
set_option maxHeartbeats 4000000 in
theorem sp_X0_search (hB : jB l s0 D) {q qs : Nat} {s : aS} {i m : Int32} (hq : T q = some kChoice) (hd : q + 1 ≤ qs ∨ qs + 64 ≤ q) (h : StOK T V qs s) (hw : pcW s) (hl : lwW s) (i0 : 0 ≤ i.toInt) (i1 : i.toInt < s.2.1.1.length) (m0 : -1000000 ≤ m.toInt) (m1 : m.toInt ≤ 1000000) : Sp l s0 D kX0_search (jR 3 0 0) 0 0 [.ref q, .ref qs, .int i, .int m] T V X sz (qU T X sz (fun V' => cIs V' q (bestT s i.toInt m.toInt) ∧ jAg V V' q (q + 1))) := by
  refine Sp.of pn_X0_search rfl (Nat.le_of_ble_eq_true rfl) ?_
  obtain ⟨x0, x1, x2, x3, x4, x5⟩ := pcW_at hw i0 i1
  obtain ⟨_, _, l0, l1⟩ := hl
  have tu : (atZ s.2.1.1 i.toInt + atZ s.2.1.2.2 i.toInt).toInt = (atZ s.2.1.1 i.toInt).toInt + (atZ s.2.1.2.2 i.toInt).toInt := ti_add (by omega) (by omega)
  generalize hU : atZ s.2.1.1 i.toInt + atZ s.2.1.2.2 i.toInt = u at tu
  have hb : ∀ c : cT, c.2.2 = 2147483647 → cSrch u.toInt (atZ s.2.1.2.1 i.toInt).toInt m.toInt c (s.2.2.2.toInt.toNat + 1) = bestT s i.toInt m.toInt := by
    intro c hc
    unfold bestT
    rw [tu]
    have := cD_rng (u := (atZ s.2.1.1 i.toInt).toInt + (atZ s.2.1.2.2 i.toInt).toInt) (s := (atZ s.2.1.2.1 i.toInt).toInt) (m := m.toInt) (n := 1) (p := 100) (by omega) (by omega) (by omega) (by omega) m0 m1 (by omega) (by omega) (by omega)
    exact cSrch_first hc rfl (by omega) _
  have loop : ∀ (c : cT) (r k : Nat) (j : Int32) (V1 : jV), c.2.2 = 2147483647 → j.toInt = k → k + r = s.2.2.2.toInt.toNat + 1 → cIs V1 q (cSrch u.toInt (atZ s.2.1.2.1 i.toInt).toInt m.toInt c k) → jAg V V1 q (q + 1) → J l s0 D kX0_search (jR 3 0 0) 0 0 (qU T X sz (fun V' => cIs V' q (bestT s i.toInt m.toInt) ∧ jAg V V' q (q + 1))) 38 [(0, .ref q), (1, .ref qs), (2, .int i), (3, .int m), (4, .int (atZ s.2.1.2.1 i.toInt)), (5, .int u), (6, .int j)] [] T V1 X sz 0 0 := by
    intro c r
    induction r with
    | zero =>
      intro k j V1 hc hj hk hcs ha
      have hlee : V1 qs 7 = s.2.2.2 := by rw [ha qs (by omega)]; exact h.2.2.2.2.2.2.2.2.2.2.2
      refine j_iload dX0_search_38 rfl ?_
      refine j_aload_n dX0_search_40 rfl ?_
      refine j_geti dX0_search_41 hB fl_X0_36 (by first | exact hq | exact h.1 | exact h.2.2.2.2.1.1 | exact h.2.2.2.2.2.1.1 | exact h.2.2.2.2.2.2.1.1) (by rfl) ?_
      refine j_icmp_gt (tgt := 71) dX0_search_44 (by decide) (fun c_44 => ?_) (fun c_44 => ?_)
      · refine j_vret dX0_search_71 rfl (by decide) (by decide) ?_
        exact ⟨rfl, rfl, rfl, rfl, by rw [show k = s.2.2.2.toInt.toNat + 1 by omega, hb c hc] at hcs; exact hcs, ha⟩
      · exact absurd c_44 (by rw [hlee]; omega)
    | succ r ih =>
      intro k j V1 hc hj hk hcs ha
      have hlee : V1 qs 7 = s.2.2.2 := by rw [ha qs (by omega)]; exact h.2.2.2.2.2.2.2.2.2.2.2
      refine j_iload dX0_search_38 rfl ?_
      refine j_aload_n dX0_search_40 rfl ?_
      refine j_geti dX0_search_41 hB fl_X0_36 (by first | exact hq | exact h.1 | exact h.2.2.2.2.1.1 | exact h.2.2.2.2.2.1.1 | exact h.2.2.2.2.2.2.1.1) (by rfl) ?_
      refine j_icmp_gt (tgt := 71) dX0_search_44 (by decide) (fun c_44 => ?_) (fun c_44 => ?_)
      · exact absurd c_44 (by rw [hlee]; omega)
      · refine j_aload_n dX0_search_47 rfl ?_
        refine j_geti dX0_search_48 hB fl_X0_30 (by first | exact hq | exact h.1 | exact h.2.2.2.2.1.1 | exact h.2.2.2.2.2.1.1 | exact h.2.2.2.2.2.2.1.1) (by rfl) ?_
        refine j_if_le (tgt := 71) dX0_search_51 (by decide) (fun c_51 => ?_) (fun c_51 => ?_)
        · refine j_vret dX0_search_71 rfl (by decide) (by decide) ?_
          refine ⟨rfl, rfl, rfl, rfl, ?_, ha⟩
          have e := cSrch_0 (u := u.toInt) (s := (atZ s.2.1.2.1 i.toInt).toInt) (m := m.toInt) (c := c) (k := k) (by rw [← hcs.2.2]; omega) (r + 1)
          rw [hk, hb c hc] at e
          rw [e]; exact hcs
        · refine j_aload_n dX0_search_54 rfl ?_
          refine j_iload dX0_search_55 rfl ?_
          refine j_iload dX0_search_57 rfl ?_
          refine j_iload_n dX0_search_59 rfl ?_
          refine j_iload dX0_search_60 rfl ?_
          refine j_cVu dX0_search_62 hB mo_X0_tryPaces ml_X0_39 (sp_X0_tryPaces hB hq hcs (by omega) (by omega) (by omega) (by omega) m0 m1 (by omega) (by omega)) (by first | exact hq | exact h.1 | exact h.2.2.2.2.1.1 | exact h.2.2.2.2.2.1.1 | exact h.2.2.2.2.2.2.1.1) rfl rfl rfl rfl ⟨rfl, rfl, by decide, by decide⟩ (Nat.le_of_ble_eq_true rfl) ⟨by decide, by decide⟩ (fun V_62 h_62 => ?_)
          obtain ⟨g1, a1⟩ := h_62
          refine j_iinc (v := 1) (L' := [(0, _), (1, _), (2, _), (3, _), (4, _), (5, _), (6, _)]) dX0_search_65 rfl (by decide) (by decide) rfl ?_
          refine j_goto (tgt := 38) dX0_search_68 (by decide) ?_
          refine ih (k + 1) _ V_62 hc ?_ (by omega) (by rw [hj] at g1; exact g1) (ha.tr a1)
          rw [ti_add (by rw [ti_1]; omega) (by rw [ti_1]; omega), ti_1]; omega
  refine j_aload_n dX0_search_0 rfl ?_
  refine j_getr dX0_search_1 hB fl_X0_9 (by first | exact hq | exact h.1 | exact h.2.2.2.2.1.1 | exact h.2.2.2.2.2.1.1 | exact h.2.2.2.2.2.2.1.1) (by rfl) ?_
  refine j_iload_n dX0_search_4 rfl ?_
  refine j_cVi dX0_search_5 hB mo_X3_at ml_X0_15 (sp_X3_at hB (h.2.2.2.2.2.1)) (by first | exact hq | exact h.1 | exact h.2.2.2.2.1.1 | exact h.2.2.2.2.2.1.1 | exact h.2.2.2.2.2.2.1.1) rfl rfl rfl rfl ⟨rfl, rfl, by decide, by decide⟩ (Nat.le_of_ble_eq_true rfl) ⟨by decide, by decide⟩ (fun r_5 V_5 h_5 => ?_)
  obtain ⟨rfl, y1⟩ := h_5
  rw [h.2.2.2.2.2.2.2.2.1] at y1
  subst y1
  refine j_istore (L' := [(0, _), (1, _), (2, _), (3, _), (4, _)]) dX0_search_8 (by decide) rfl ?_
  refine j_aload_n dX0_search_10 rfl ?_
  refine j_getr dX0_search_11 hB fl_X0_21 (by first | exact hq | exact h.1 | exact h.2.2.2.2.1.1 | exact h.2.2.2.2.2.1.1 | exact h.2.2.2.2.2.2.1.1) (by rfl) ?_
  refine j_iload_n dX0_search_14 rfl ?_
  refine j_cVi dX0_search_15 hB mo_X3_at ml_X0_15 (sp_X3_at hB (h.2.2.2.2.1)) (by first | exact hq | exact h.1 | exact h.2.2.2.2.1.1 | exact h.2.2.2.2.2.1.1 | exact h.2.2.2.2.2.2.1.1) rfl rfl rfl rfl ⟨rfl, rfl, by decide, by decide⟩ (Nat.le_of_ble_eq_true rfl) ⟨by decide, by decide⟩ (fun r_15 V_15 h_15 => ?_)
  obtain ⟨rfl, y2⟩ := h_15
  rw [h.2.2.2.2.2.2.2.1] at y2
  subst y2
  refine j_aload_n dX0_search_18 rfl ?_
  refine j_getr dX0_search_19 hB fl_X0_24 (by first | exact hq | exact h.1 | exact h.2.2.2.2.1.1 | exact h.2.2.2.2.2.1.1 | exact h.2.2.2.2.2.2.1.1) (by rfl) ?_
  refine j_iload_n dX0_search_22 rfl ?_
  refine j_cVi dX0_search_23 hB mo_X3_at ml_X0_15 (sp_X3_at hB (h.2.2.2.2.2.2.1)) (by first | exact hq | exact h.1 | exact h.2.2.2.2.1.1 | exact h.2.2.2.2.2.1.1 | exact h.2.2.2.2.2.2.1.1) rfl rfl rfl rfl ⟨rfl, rfl, by decide, by decide⟩ (Nat.le_of_ble_eq_true rfl) ⟨by decide, by decide⟩ (fun r_23 V_23 h_23 => ?_)
  obtain ⟨rfl, y3⟩ := h_23
  rw [h.2.2.2.2.2.2.2.2.2.1] at y3
  subst y3
  refine j_iadd dX0_search_26 ?_
  rw [hU]
  refine j_istore (L' := [(0, _), (1, _), (2, _), (3, _), (4, _), (5, _)]) dX0_search_27 (by decide) rfl ?_
  refine j_aload_n dX0_search_29 rfl ?_
  refine j_ldc dX0_search_30 hB kc_X0_29 ?_
  refine j_puti dX0_search_32 hB fp_X0_search_30 (by first | exact hq | exact h.1 | exact h.2.2.2.2.1.1 | exact h.2.2.2.2.2.1.1 | exact h.2.2.2.2.2.2.1.1) (by rfl) ?_
  refine j_iconst (v := 0) dX0_search_35 (by decide) ?_
  refine j_istore (L' := [(0, _), (1, _), (2, _), (3, _), (4, _), (5, _), (6, _)]) dX0_search_36 (by decide) rfl ?_
  exact loop ((V q 0).toInt, (V q 1).toInt, 2147483647) _ 0 0 _ rfl rfl (Nat.zero_add _) ⟨by rw [jset_ne (Or.inr (by decide))]; rfl, by rw [jset_ne (Or.inr (by decide))]; rfl, by rw [jset_eq]; exact (by decide : (2147483647 : Int32).toInt = 2147483647)⟩ (jAg.rf.set (by omega) (by omega))

end JChoice
end
section
/-! CueSheets$Timing: the mathematical values of a reel -/
def isCue (r : aR) (k : Nat) : Prop := ¬ atZ r.2.1 k = -2000001
noncomputable def cueI (r : aR) (k : Nat) (x y : Int) : Int := @ite _ (isCue r k) (Classical.propDecidable _) x y
theorem cueI_t {r : aR} {k : Nat} {x y : Int} (h : isCue r k) : cueI r k x y = x := if_pos h
theorem cueI_f {r : aR} {k : Nat} {x y : Int} (h : ¬ isCue r k) : cueI r k x y = y := if_neg h
/-- the first foot of scene k -/
def aFirst (r : aR) : Nat → Int
  | 0 => 0
  | k + 1 => aFirst r k + (atZ r.1 k).toInt
def aLost (r : aR) (k : Nat) : Int := cnt (lostB r.2.2.2.2.2) (aFirst r k) (atZ r.1 k).toInt.toNat
def aTime (r : aR) (w : Int) (k : Nat) : Int := tmN (ftm r.2.2.2.2.1 r.2.2.2.2.2 w) (aFirst r k) (atZ r.1 k).toInt.toNat
/-- when scene k begins -/
def aBeg (r : aR) (w : Int) : Nat → Int
  | 0 => 0
  | k + 1 => aBeg r w k + aTime r w k
def aPlay (s : aS) (r : aR) (k : Nat) : Int := plT s (atZ r.2.1 k).toInt (atZ r.2.2.1 k).toInt (atZ r.2.2.2.1 k).toInt
/-- when the last cue ahead of scene k has ended -/
noncomputable def aMus (s : aS) (r : aR) (w : Int) : Nat → Int
  | 0 => 0
  | k + 1 => cueI r k (max (aBeg r w k) (aMus s r w k) + aPlay s r k) (aMus s r w k)
noncomputable def aCb (s : aS) (r : aR) (w : Int) (k : Nat) : Int := max (aBeg r w k) (aMus s r w k)
noncomputable def aEnd (s : aS) (r : aR) (w : Int) (k : Nat) : Int := cueI r k (aMus s r w (k + 1)) 0
noncomputable def aDrift (s : aS) (r : aR) (w : Int) (k : Nat) : Int := cueI r k (aMus s r w (k + 1) - aBeg r w (k + 1)) 0
/-- sums over the first k scenes -/
def aSum (f : Nat → Int) : Nat → Int
  | 0 => 0
  | k + 1 => aSum f k + f k
noncomputable def aCue1 (r : aR) (k : Nat) : Int := cueI r k 1 0
noncomputable def aBad1 (s : aS) (r : aR) (w : Int) (k : Nat) : Int := if s.2.2.1.toInt < ((aDrift s r w k).natAbs : Int) then 1 else 0
noncomputable def aDs1 (s : aS) (r : aR) (w : Int) (k : Nat) : Int := ((aDrift s r w k).natAbs : Int)
def cueW (s : aS) (p k a : Int32) : Prop := (p = -2000001 ∧ k = 0 ∧ a = 0) ∨ (0 ≤ p.toInt ∧ p.toInt < s.2.1.1.length ∧ 1 ≤ k.toInt ∧ k.toInt ≤ 9 ∧ 80 ≤ a.toInt ∧ a.toInt ≤ 120)
/-- a reel in its ranges -/
def rlW (s : aS) (r : aR) : Prop := r.2.1.length = r.1.length ∧ r.2.2.1.length = r.1.length ∧ r.2.2.2.1.length = r.1.length ∧ r.1.length ≤ 10 ∧ (∀ x ∈ r.1, 1 ≤ x.toInt ∧ x.toInt ≤ 900) ∧ (∀ k : Nat, k < r.1.length → cueW s (atZ r.2.1 k) (atZ r.2.2.1 k) (atZ r.2.2.2.1 k)) ∧ spW r.2.2.2.2.1 ∧ slW r.2.2.2.2.2
def LIs (L : List Int32) (n : Nat) (f : Nat → Int) : Prop := L.length = n ∧ ∀ k : Nat, k < n → (atZ L k).toInt = f k
theorem LIs_nil {f : Nat → Int} : LIs [] 0 f := ⟨rfl, fun k h => absurd h (by omega)⟩
theorem LIs_app {L : List Int32} {n : Nat} {f : Nat → Int} {x : Int32} (h : LIs L n f) (hx : x.toInt = f n) : LIs (L ++ [x]) (n + 1) f := by
  refine ⟨by rw [List.length_append, h.1]; rfl, fun k hk => ?_⟩
  rw [atZ_in (by omega), Int.toNat_natCast, List.getD_eq_getElem?_getD]
  by_cases e : k < n
  · rw [List.getElem?_append_left (by rw [h.1]; exact e)]
    have := h.2 k e
    rw [atZ_in (by omega), Int.toNat_natCast, List.getD_eq_getElem?_getD] at this
    exact this
  · have e : k = n := by omega
    subst e
    rw [List.getElem?_append_right (by rw [h.1]; omega), h.1, Nat.sub_self]
    exact hx
theorem len_rng {s : aS} {r : aR} (h : rlW s r) {k : Nat} (hk : k < r.1.length) : 1 ≤ (atZ r.1 k).toInt ∧ (atZ r.1 k).toInt ≤ 900 := h.2.2.2.2.1 _ (atZ_mem (by omega) (by omega))
theorem aFirst_rng {s : aS} {r : aR} (h : rlW s r) : ∀ k : Nat, k ≤ r.1.length → 0 ≤ aFirst r k ∧ aFirst r k ≤ 900 * k
  | 0, _ => by simp [aFirst]
  | k + 1, hk => by
    have := aFirst_rng h k (by omega)
    have := len_rng h (show k < r.1.length by omega)
    show 0 ≤ aFirst r k + _ ∧ aFirst r k + _ ≤ _
    omega
theorem aTime_rng {s : aS} {r : aR} (h : rlW s r) {w : Int} (hw : w = 0 ∨ 10 ≤ w) {k : Nat} (hk : k < r.1.length) : 0 ≤ aTime r w k ∧ aTime r w k ≤ 14400 := by
  have h1 := len_rng h hk
  have h2 := aFirst_rng h k (by omega)
  have := tm_le (sl := r.2.2.2.2.2) h.2.2.2.2.2.2.1 hw h2.1 (atZ r.1 k).toInt.toNat
  unfold aTime
  omega
theorem aBeg_rng {s : aS} {r : aR} (h : rlW s r) {w : Int} (hw : w = 0 ∨ 10 ≤ w) : ∀ k : Nat, k ≤ r.1.length → 0 ≤ aBeg r w k ∧ aBeg r w k ≤ 14400 * k
  | 0, _ => by simp [aBeg]
  | k + 1, hk => by
    have := aBeg_rng h hw k (by omega)
    have := aTime_rng h hw (show k < r.1.length by omega)
    show 0 ≤ aBeg r w k + _ ∧ aBeg r w k + _ ≤ _
    omega
theorem cue_rng {s : aS} {r : aR} (h : rlW s r) {k : Nat} (hk : k < r.1.length) (hc : isCue r k) : 0 ≤ (atZ r.2.1 k).toInt ∧ (atZ r.2.1 k).toInt < s.2.1.1.length ∧ 1 ≤ (atZ r.2.2.1 k).toInt ∧ (atZ r.2.2.1 k).toInt ≤ 9 ∧ 80 ≤ (atZ r.2.2.2.1 k).toInt ∧ (atZ r.2.2.2.1 k).toInt ≤ 120 := by
  rcases h.2.2.2.2.2.1 k hk with e | e
  · exact absurd e.1 hc
  · exact e
theorem aPlay_rng {s : aS} {r : aR} (hp : pcW s) (h : rlW s r) {k : Nat} (hk : k < r.1.length) (hc : isCue r k) : 0 ≤ aPlay s r k ∧ aPlay s r k ≤ 15000 := by
  obtain ⟨c1, c2, c3, c4, c5, c6⟩ := cue_rng h hk hc
  exact plT_rng hp c1 c2 (by omega) c4 c5
theorem aMus_rng {s : aS} {r : aR} (hp : pcW s) (h : rlW s r) {w : Int} (hw : w = 0 ∨ 10 ≤ w) : ∀ k : Nat, k ≤ r.1.length → 0 ≤ aMus s r w k ∧ aMus s r w k ≤ 30000 * k
  | 0, _ => by simp [aMus]
  | k + 1, hk => by
    have i1 := aMus_rng hp h hw k (by omega)
    have i2 := aBeg_rng h hw k (by omega)
    unfold aMus
    by_cases hc : isCue r k
    · have := aPlay_rng hp h (show k < r.1.length by omega) hc
      rw [cueI_t hc]; omega
    · rw [cueI_f hc]; omega
theorem aDrift_rng {s : aS} {r : aR} (hp : pcW s) (h : rlW s r) {w : Int} (hw : w = 0 ∨ 10 ≤ w) {k : Nat} (hk : k < r.1.length) : -144000 ≤ aDrift s r w k ∧ aDrift s r w k ≤ 300000 := by
  have h4 := h.2.2.2.1
  have i1 := aMus_rng hp h hw (k + 1) (by omega)
  have i2 := aBeg_rng h hw (k + 1) (by omega)
  unfold aDrift
  by_cases hc : isCue r k
  · rw [cueI_t hc]; omega
  · rw [cueI_f hc]; omega
theorem aSum_rng {f : Nat → Int} {B : Int} {n : Nat} (h : ∀ k, k < n → 0 ≤ f k ∧ f k ≤ B) : ∀ k, k ≤ n → 0 ≤ aSum f k ∧ aSum f k ≤ B * k
  | 0, _ => by simp [aSum]
  | k + 1, hk => by
    have i := aSum_rng h k (by omega)
    have := h k (by omega)
    show 0 ≤ aSum f k + f k ∧ aSum f k + f k ≤ _
    rw [show B * ((k + 1 : Nat) : Int) = B * k + B by rw [Int.natCast_add, Int.mul_add]; simp]
    omega
/-- the rows and numbers of the scenes, n of them; of the cues -/
def TmA (T : jT) (V : jV) (q : Nat) (r : aR) (w : Int) (n : Nat) : Prop := RowOK T V (q + 1) 10 ∧ RowOK T V (q + 3) 10 ∧ RowOK T V (q + 5) 10 ∧ RowOK T V (q + 7) 10 ∧ LIs (Rw V (q + 1)) n (aFirst r) ∧ LIs (Rw V (q + 3)) n (aLost r) ∧ LIs (Rw V (q + 5)) n (aTime r w) ∧ LIs (Rw V (q + 7)) n (aBeg r w) ∧ (V q 7).toInt = aFirst r n ∧ (V q 8).toInt = aSum (aLost r) n ∧ (V q 9).toInt = aBeg r w n
def TmB (T : jT) (V : jV) (q : Nat) (s : aS) (r : aR) (w : Int) (n : Nat) : Prop := RowOK T V (q + 9) 10 ∧ RowOK T V (q + 11) 10 ∧ RowOK T V (q + 13) 10 ∧ LIs (Rw V (q + 9)) n (aCb s r w) ∧ LIs (Rw V (q + 11)) n (aEnd s r w) ∧ LIs (Rw V (q + 13)) n (aDrift s r w) ∧ (V q 10).toInt = aSum (aCue1 r) n ∧ (V q 11).toInt = aSum (aBad1 s r w) n ∧ (V q 12).toInt = aSum (aDs1 s r w) n ∧ (V q 13).toInt = aMus s r w n
def TmK (T : jT) (V : jV) (q : Nat) : Prop := T q = some (kTiming (q + 1) (q + 3) (q + 5) (q + 7) (q + 9) (q + 11) (q + 13)) ∧ RowOK T V (q + 1) 10 ∧ RowOK T V (q + 3) 10 ∧ RowOK T V (q + 5) 10 ∧ RowOK T V (q + 7) 10 ∧ RowOK T V (q + 9) 10 ∧ RowOK T V (q + 11) 10 ∧ RowOK T V (q + 13) 10
def TmIs (T : jT) (V : jV) (q : Nat) (s : aS) (r : aR) (w : Int) : Prop := T q = some (kTiming (q + 1) (q + 3) (q + 5) (q + 7) (q + 9) (q + 11) (q + 13)) ∧ TmA T V q r w r.1.length ∧ TmB T V q s r w r.1.length
theorem TmK.ag {T : jT} {V V' : jV} {q lo hi : Nat} (h : TmK T V q) (ha : jAg V V' lo hi) (hd : q + 15 ≤ lo ∨ hi ≤ q) : TmK T V' q := by
  obtain ⟨h0, h1, h2, h3, h4, h5, h6, h7⟩ := h
  exact ⟨h0, h1.ag ha (by omega), h2.ag ha (by omega), h3.ag ha (by omega), h4.ag ha (by omega), h5.ag ha (by omega), h6.ag ha (by omega), h7.ag ha (by omega)⟩
theorem TmA.ag {T : jT} {V V' : jV} {q lo hi n : Nat} {r : aR} {w : Int} (h : TmA T V q r w n) (ha : jAg V V' lo hi) (hd : q + 9 ≤ lo ∨ hi ≤ q) : TmA T V' q r w n := by
  obtain ⟨h1, h2, h3, h4, l1, l2, l3, l4, f1, f2, f3⟩ := h
  refine ⟨h1.ag ha (by omega), h2.ag ha (by omega), h3.ag ha (by omega), h4.ag ha (by omega), ?_, ?_, ?_, ?_, ?_, ?_, ?_⟩
  · rw [Rw_ag ha (by omega)]; exact l1
  · rw [Rw_ag ha (by omega)]; exact l2
  · rw [Rw_ag ha (by omega)]; exact l3
  · rw [Rw_ag ha (by omega)]; exact l4
  · rw [ha q (by omega)]; exact f1
  · rw [ha q (by omega)]; exact f2
  · rw [ha q (by omega)]; exact f3
theorem TmA.set {T : jT} {V : jV} {q n k : Nat} {r : aR} {w : Int} {v : Int32} (h : TmA T V q r w n) (hk : 10 ≤ k) : TmA T (jset V q k v) q r w n := by
  have ha : jAg V (jset V q k v) q (q + 1) := jAg.rf.set (by omega) (by omega)
  obtain ⟨h1, h2, h3, h4, l1, l2, l3, l4, f1, f2, f3⟩ := h
  refine ⟨h1.ag ha (by omega), h2.ag ha (by omega), h3.ag ha (by omega), h4.ag ha (by omega), ?_, ?_, ?_, ?_, ?_, ?_, ?_⟩
  · rw [Rw_ag ha (by omega)]; exact l1
  · rw [Rw_ag ha (by omega)]; exact l2
  · rw [Rw_ag ha (by omega)]; exact l3
  · rw [Rw_ag ha (by omega)]; exact l4
  · rw [jset_ne (Or.inr (by omega))]; exact f1
  · rw [jset_ne (Or.inr (by omega))]; exact f2
  · rw [jset_ne (Or.inr (by omega))]; exact f3
section JTiming
variable {l : Launch} {s0 : State} {D : jD} {T : jT} {V : jV} {X : jX} {sz : Nat}
set_option maxRecDepth 100000 in
set_option maxHeartbeats 4000000 in
theorem sp_X6_clear (hB : jB l s0 D) {q : Nat} {s : aS} {r : aR} {w : Int} (h : TmK T V q) : Sp l s0 D kX6_clear (jR 1 0 0) 0 0 [.ref q] T V X sz (qU T X sz (fun V' => TmA T V' q r w 0 ∧ TmB T V' q s r w 0 ∧ jAg V V' q (q + 15))) := by
  refine Sp.of pn_X6_clear rfl (Nat.le_of_ble_eq_true rfl) ?_
  obtain ⟨h0, h1, h2, h3, h4, h5, h6, h7⟩ := h
  refine j_aload_n dX6_clear_0 rfl ?_
  refine j_getr dX6_clear_1 hB fl_X6_14 (by first | exact h0 | exact h1.1 | exact h2.1 | exact h3.1 | exact h4.1 | exact h5.1 | exact h6.1 | exact h7.1) (by rfl) ?_
  refine j_cVu dX6_clear_4 hB mo_X3_clear ml_X6_79 (sp_X3_clear hB (h1)) (by first | exact h0 | exact h1.1 | exact h2.1 | exact h3.1 | exact h4.1 | exact h5.1 | exact h6.1 | exact h7.1) rfl rfl rfl rfl ⟨rfl, rfl, by decide, by decide⟩ (Nat.le_of_ble_eq_true rfl) ⟨by decide, by decide⟩ (fun V_4 h_4 => ?_)
  obtain ⟨g1, f1, a1⟩ := h_4
  refine j_aload_n dX6_clear_7 rfl ?_
  refine j_getr dX6_clear_8 hB fl_X6_20 (by first | exact h0 | exact h1.1 | exact h2.1 | exact h3.1 | exact h4.1 | exact h5.1 | exact h6.1 | exact h7.1) (by rfl) ?_
  refine j_cVu dX6_clear_11 hB mo_X3_clear ml_X6_79 (sp_X3_clear hB ((h2).ag a1 (by omega))) (by first | exact h0 | exact h1.1 | exact h2.1 | exact h3.1 | exact h4.1 | exact h5.1 | exact h6.1 | exact h7.1) rfl rfl rfl rfl ⟨rfl, rfl, by decide, by decide⟩ (Nat.le_of_ble_eq_true rfl) ⟨by decide, by decide⟩ (fun V_11 h_11 => ?_)
  obtain ⟨g3, f3, a3⟩ := h_11
  refine j_aload_n dX6_clear_14 rfl ?_
  refine j_getr dX6_clear_15 hB fl_X6_23 (by first | exact h0 | exact h1.1 | exact h2.1 | exact h3.1 | exact h4.1 | exact h5.1 | exact h6.1 | exact h7.1) (by rfl) ?_
  refine j_cVu dX6_clear_18 hB mo_X3_clear ml_X6_79 (sp_X3_clear hB (((h3).ag a1 (by omega)).ag a3 (by omega))) (by first | exact h0 | exact h1.1 | exact h2.1 | exact h3.1 | exact h4.1 | exact h5.1 | exact h6.1 | exact h7.1) rfl rfl rfl rfl ⟨rfl, rfl, by decide, by decide⟩ (Nat.le_of_ble_eq_true rfl) ⟨by decide, by decide⟩ (fun V_18 h_18 => ?_)
  obtain ⟨g5, f5, a5⟩ := h_18
  refine j_aload_n dX6_clear_21 rfl ?_
  refine j_getr dX6_clear_22 hB fl_X6_26 (by first | exact h0 | exact h1.1 | exact h2.1 | exact h3.1 | exact h4.1 | exact h5.1 | exact h6.1 | exact h7.1) (by rfl) ?_
  refine j_cVu dX6_clear_25 hB mo_X3_clear ml_X6_79 (sp_X3_clear hB ((((h4).ag a1 (by omega)).ag a3 (by omega)).ag a5 (by omega))) (by first | exact h0 | exact h1.1 | exact h2.1 | exact h3.1 | exact h4.1 | exact h5.1 | exact h6.1 | exact h7.1) rfl rfl rfl rfl ⟨rfl, rfl, by decide, by decide⟩ (Nat.le_of_ble_eq_true rfl) ⟨by decide, by decide⟩ (fun V_25 h_25 => ?_)
  obtain ⟨g7, f7, a7⟩ := h_25
  refine j_aload_n dX6_clear_28 rfl ?_
  refine j_getr dX6_clear_29 hB fl_X6_29 (by first | exact h0 | exact h1.1 | exact h2.1 | exact h3.1 | exact h4.1 | exact h5.1 | exact h6.1 | exact h7.1) (by rfl) ?_
  refine j_cVu dX6_clear_32 hB mo_X3_clear ml_X6_79 (sp_X3_clear hB (((((h5).ag a1 (by omega)).ag a3 (by omega)).ag a5 (by omega)).ag a7 (by omega))) (by first | exact h0 | exact h1.1 | exact h2.1 | exact h3.1 | exact h4.1 | exact h5.1 | exact h6.1 | exact h7.1) rfl rfl rfl rfl ⟨rfl, rfl, by decide, by decide⟩ (Nat.le_of_ble_eq_true rfl) ⟨by decide, by decide⟩ (fun V_32 h_32 => ?_)
  obtain ⟨g9, f9, a9⟩ := h_32
  refine j_aload_n dX6_clear_35 rfl ?_
  refine j_getr dX6_clear_36 hB fl_X6_32 (by first | exact h0 | exact h1.1 | exact h2.1 | exact h3.1 | exact h4.1 | exact h5.1 | exact h6.1 | exact h7.1) (by rfl) ?_
  refine j_cVu dX6_clear_39 hB mo_X3_clear ml_X6_79 (sp_X3_clear hB ((((((h6).ag a1 (by omega)).ag a3 (by omega)).ag a5 (by omega)).ag a7 (by omega)).ag a9 (by omega))) (by first | exact h0 | exact h1.1 | exact h2.1 | exact h3.1 | exact h4.1 | exact h5.1 | exact h6.1 | exact h7.1) rfl rfl rfl rfl ⟨rfl, rfl, by decide, by decide⟩ (Nat.le_of_ble_eq_true rfl) ⟨by decide, by decide⟩ (fun V_39 h_39 => ?_)
  obtain ⟨g11, f11, a11⟩ := h_39
  refine j_aload_n dX6_clear_42 rfl ?_
  refine j_getr dX6_clear_43 hB fl_X6_35 (by first | exact h0 | exact h1.1 | exact h2.1 | exact h3.1 | exact h4.1 | exact h5.1 | exact h6.1 | exact h7.1) (by rfl) ?_
  refine j_cVu dX6_clear_46 hB mo_X3_clear ml_X6_79 (sp_X3_clear hB (((((((h7).ag a1 (by omega)).ag a3 (by omega)).ag a5 (by omega)).ag a7 (by omega)).ag a9 (by omega)).ag a11 (by omega))) (by first | exact h0 | exact h1.1 | exact h2.1 | exact h3.1 | exact h4.1 | exact h5.1 | exact h6.1 | exact h7.1) rfl rfl rfl rfl ⟨rfl, rfl, by decide, by decide⟩ (Nat.le_of_ble_eq_true rfl) ⟨by decide, by decide⟩ (fun V_46 h_46 => ?_)
  obtain ⟨g13, f13, a13⟩ := h_46
  refine j_aload_n dX6_clear_49 rfl ?_
  refine j_iconst (v := 0) dX6_clear_50 (by decide) ?_
  refine j_puti dX6_clear_51 hB fp_X6_clear_47 (by first | exact h0 | exact h1.1 | exact h2.1 | exact h3.1 | exact h4.1 | exact h5.1 | exact h6.1 | exact h7.1) (by rfl) ?_
  refine j_aload_n dX6_clear_54 rfl ?_
  refine j_iconst (v := 0) dX6_clear_55 (by decide) ?_
  refine j_puti dX6_clear_56 hB fp_X6_clear_72 (by first | exact h0 | exact h1.1 | exact h2.1 | exact h3.1 | exact h4.1 | exact h5.1 | exact h6.1 | exact h7.1) (by rfl) ?_
  refine j_aload_n dX6_clear_59 rfl ?_
  refine j_iconst (v := 0) dX6_clear_60 (by decide) ?_
  refine j_puti dX6_clear_61 hB fp_X6_clear_69 (by first | exact h0 | exact h1.1 | exact h2.1 | exact h3.1 | exact h4.1 | exact h5.1 | exact h6.1 | exact h7.1) (by rfl) ?_
  refine j_aload_n dX6_clear_64 rfl ?_
  refine j_iconst (v := 0) dX6_clear_65 (by decide) ?_
  refine j_puti dX6_clear_66 hB fp_X6_clear_80 (by first | exact h0 | exact h1.1 | exact h2.1 | exact h3.1 | exact h4.1 | exact h5.1 | exact h6.1 | exact h7.1) (by rfl) ?_
  refine j_aload_n dX6_clear_69 rfl ?_
  refine j_iconst (v := 0) dX6_clear_70 (by decide) ?_
  refine j_puti dX6_clear_71 hB fp_X6_clear_83 (by first | exact h0 | exact h1.1 | exact h2.1 | exact h3.1 | exact h4.1 | exact h5.1 | exact h6.1 | exact h7.1) (by rfl) ?_
  refine j_aload_n dX6_clear_74 rfl ?_
  refine j_iconst (v := 0) dX6_clear_75 (by decide) ?_
  refine j_puti dX6_clear_76 hB fp_X6_clear_86 (by first | exact h0 | exact h1.1 | exact h2.1 | exact h3.1 | exact h4.1 | exact h5.1 | exact h6.1 | exact h7.1) (by rfl) ?_
  refine j_aload_n dX6_clear_79 rfl ?_
  refine j_iconst (v := 0) dX6_clear_80 (by decide) ?_
  refine j_puti dX6_clear_81 hB fp_X6_clear_89 (by first | exact h0 | exact h1.1 | exact h2.1 | exact h3.1 | exact h4.1 | exact h5.1 | exact h6.1 | exact h7.1) (by rfl) ?_
  refine j_vret dX6_clear_84 rfl (by decide) (by decide) ?_
  refine ⟨rfl, rfl, rfl, rfl, ?_⟩
  generalize hVF : jset (jset (jset (jset (jset (jset (jset V_46 q 7 0) q 8 0) q 9 0) q 10 0) q 11 0) q 12 0) q 13 0 = VF
  have aF : jAg V_46 VF q (q + 1) := by
    rw [← hVF]
    exact (((((((jAg.rf.set (Nat.le_refl q) (Nat.lt_succ_self q)).set (Nat.le_refl q) (Nat.lt_succ_self q)).set (Nat.le_refl q) (Nat.lt_succ_self q)).set (Nat.le_refl q) (Nat.lt_succ_self q)).set (Nat.le_refl q) (Nat.lt_succ_self q)).set (Nat.le_refl q) (Nat.lt_succ_self q)).set (Nat.le_refl q) (Nat.lt_succ_self q))
  have hz : VF q 7 = 0 ∧ VF q 8 = 0 ∧ VF q 9 = 0 ∧ VF q 10 = 0 ∧ VF q 11 = 0 ∧ VF q 12 = 0 ∧ VF q 13 = 0 := by rw [← hVF]; simp [jset]
  obtain ⟨z7, z8, z9, z10, z11, z12, z13⟩ := hz
  refine ⟨⟨(((((((g1).ag a3 (by omega)).ag a5 (by omega)).ag a7 (by omega)).ag a9 (by omega)).ag a11 (by omega)).ag a13 (by omega)).ag aF (by omega), ((((((g3).ag a5 (by omega)).ag a7 (by omega)).ag a9 (by omega)).ag a11 (by omega)).ag a13 (by omega)).ag aF (by omega), (((((g5).ag a7 (by omega)).ag a9 (by omega)).ag a11 (by omega)).ag a13 (by omega)).ag aF (by omega), ((((g7).ag a9 (by omega)).ag a11 (by omega)).ag a13 (by omega)).ag aF (by omega), by rw [Rw_ag aF (by omega), Rw_ag a13 (by omega), Rw_ag a11 (by omega), Rw_ag a9 (by omega), Rw_ag a7 (by omega), Rw_ag a5 (by omega), Rw_ag a3 (by omega), f1]; exact LIs_nil, by rw [Rw_ag aF (by omega), Rw_ag a13 (by omega), Rw_ag a11 (by omega), Rw_ag a9 (by omega), Rw_ag a7 (by omega), Rw_ag a5 (by omega), f3]; exact LIs_nil, by rw [Rw_ag aF (by omega), Rw_ag a13 (by omega), Rw_ag a11 (by omega), Rw_ag a9 (by omega), Rw_ag a7 (by omega), f5]; exact LIs_nil, by rw [Rw_ag aF (by omega), Rw_ag a13 (by omega), Rw_ag a11 (by omega), Rw_ag a9 (by omega), f7]; exact LIs_nil, by rw [z7]; rfl, by rw [z8]; rfl, by rw [z9]; rfl⟩, ⟨(((g9).ag a11 (by omega)).ag a13 (by omega)).ag aF (by omega), ((g11).ag a13 (by omega)).ag aF (by omega), (g13).ag aF (by omega), by rw [Rw_ag aF (by omega), Rw_ag a13 (by omega), Rw_ag a11 (by omega), f9]; exact LIs_nil, by rw [Rw_ag aF (by omega), Rw_ag a13 (by omega), f11]; exact LIs_nil, by rw [Rw_ag aF (by omega), f13]; exact LIs_nil, by rw [z10]; rfl, by rw [z11]; rfl, by rw [z12]; rfl, by rw [z13]; rfl⟩, ?_⟩
  exact (((((((a1.wide (lo' := q) (hi' := q + 15) (by omega) (by omega)).tr (a3.wide (by omega) (by omega))).tr (a5.wide (by omega) (by omega))).tr (a7.wide (by omega) (by omega))).tr (a9.wide (by omega) (by omega))).tr (a11.wide (by omega) (by omega))).tr (a13.wide (by omega) (by omega))).tr (aF.wide (by omega) (by omega))
end JTiming
end
section
/-! CueSheets$Timing: measureCue, measure -/
theorem jAg.f1 {V : jV} {q k : Nat} {v : Int32} : jAg V (jset V q k v) q (q + 1) := jAg.rf.set (Nat.le_refl q) (Nat.lt_succ_self q)
section JTiming2
variable {l : Launch} {s0 : State} {D : jD} {T : jT} {V : jV} {X : jX} {sz : Nat}
set_option maxRecDepth 100000 in
set_option maxHeartbeats 4000000 in
theorem sp_X6_measureCue (hB : jB l s0 D) {q qs qr n : Nat} {s : aS} {r : aR} {w : Int} {i : Int32} (h0 : T q = some (kTiming (q + 1) (q + 3) (q + 5) (q + 7) (q + 9) (q + 11) (q + 13))) (hA : TmA T V q r w (n + 1)) (hBt : TmB T V q s r w n) (hs : StOK T V qs s) (hr : ReelOK T V qr r) (hd1 : q + 15 ≤ qs ∨ qs + 64 ≤ q) (hd2 : q + 15 ≤ qr ∨ qr + 19 ≤ q) (hp : pcW s) (hrl : rlW s r) (hw : w = 0 ∨ 10 ≤ w) (hlw : 0 ≤ s.2.2.1.toInt) (hn : n < r.1.length) (hi : i.toInt = n) : Sp l s0 D kX6_measureCue (jR 3 0 0) 0 0 [.ref q, .ref qs, .ref qr, .int i] T V X sz (qU T X sz (fun V' => TmA T V' q r w (n + 1) ∧ TmB T V' q s r w (n + 1) ∧ jAg V V' q (q + 15))) := by
  refine Sp.of pn_X6_measureCue rfl (Nat.le_of_ble_eq_true rfl) ?_
  have hn10 := hrl.2.2.2.1
  obtain ⟨b1, b2, b3, m1, m2, m3, k1, k2, k3, k4⟩ := id hBt
  have hbeg : (atZ (Rw V (q + 7)) i.toInt).toInt = aBeg r w n := by rw [hi]; exact hA.2.2.2.2.2.2.2.1.2 n (by omega)
  have r1 := aBeg_rng hrl hw n (by omega)
  have r1' := aBeg_rng hrl hw (n + 1) (by omega)
  have r2 := aMus_rng hp hrl hw n (by omega)
  have r2' := aMus_rng hp hrl hw (n + 1) (by omega)
  have r3 := aDrift_rng hp hrl hw hn
  have rs1 := aSum_rng (f := aCue1 r) (B := 1) (n := n) (fun k _ => by unfold aCue1; by_cases hc : isCue r k; (rw [cueI_t hc]; omega); (rw [cueI_f hc]; omega)) n (Nat.le_refl n)
  have rs2 := aSum_rng (f := aBad1 s r w) (B := 1) (n := n) (fun k _ => by unfold aBad1; split <;> omega) n (Nat.le_refl n)
  have rs3 := aSum_rng (f := aDs1 s r w) (B := 300000) (n := n) (fun k hk => by have := aDrift_rng hp hrl hw (show k < r.1.length by omega); unfold aDs1; omega) n (Nat.le_refl n)
  refine j_aload_n dX6_measureCue_0 rfl ?_
  refine j_getr dX6_measureCue_1 hB fl_X6_26 (by first | exact h0 | exact hA.1.1 | exact hA.2.1.1 | exact hA.2.2.1.1 | exact hA.2.2.2.1.1 | exact hBt.1.1 | exact hBt.2.1.1 | exact hBt.2.2.1.1 | exact hr.1 | exact hs.1 | exact hr.2.1.1 | exact hr.2.2.1.1 | exact hr.2.2.2.1.1 | exact hr.2.2.2.2.1.1) (by rfl) ?_
  refine j_iload_n dX6_measureCue_4 rfl ?_
  refine j_cVi dX6_measureCue_5 hB mo_X3_at ml_X6_54 (sp_X3_at hB hA.2.2.2.1) (by first | exact h0 | exact hA.1.1 | exact hA.2.1.1 | exact hA.2.2.1.1 | exact hA.2.2.2.1.1 | exact hBt.1.1 | exact hBt.2.1.1 | exact hBt.2.2.1.1 | exact hr.1 | exact hs.1 | exact hr.2.1.1 | exact hr.2.2.1.1 | exact hr.2.2.2.1.1 | exact hr.2.2.2.2.1.1) rfl rfl rfl rfl ⟨rfl, rfl, by decide, by decide⟩ (Nat.le_of_ble_eq_true rfl) ⟨by decide, by decide⟩ (fun r_5 V_5 h_5 => ?_)
  obtain ⟨rfl, y1⟩ := h_5
  subst y1
  refine j_aload_n dX6_measureCue_8 rfl ?_
  refine j_geti dX6_measureCue_9 hB fl_X6_89 (by first | exact h0 | exact hA.1.1 | exact hA.2.1.1 | exact hA.2.2.1.1 | exact hA.2.2.2.1.1 | exact hBt.1.1 | exact hBt.2.1.1 | exact hBt.2.2.1.1 | exact hr.1 | exact hs.1 | exact hr.2.1.1 | exact hr.2.2.1.1 | exact hr.2.2.2.1.1 | exact hr.2.2.2.2.1.1) (by rfl) ?_
  refine j_mmax dX6_measureCue_12 hB ml_X6_92 (by decide) (Nat.le_of_ble_eq_true rfl) (by decide) (by decide) ?_
  refine j_topi (fun b4 e4 => ?_)
  have t4 := congrArg Int32.toInt e4
  rw [ti_max, hbeg, k4] at t4
  refine j_istore (L' := [(0, _), (1, _), (2, _), (3, _), (4, _)]) dX6_measureCue_15 (by decide) rfl ?_
  refine j_aload_n dX6_measureCue_17 rfl ?_
  refine j_getr dX6_measureCue_18 hB fl_X6_29 (by first | exact h0 | exact hA.1.1 | exact hA.2.1.1 | exact hA.2.2.1.1 | exact hA.2.2.2.1.1 | exact hBt.1.1 | exact hBt.2.1.1 | exact hBt.2.2.1.1 | exact hr.1 | exact hs.1 | exact hr.2.1.1 | exact hr.2.2.1.1 | exact hr.2.2.2.1.1 | exact hr.2.2.2.2.1.1) (by rfl) ?_
  refine j_iload dX6_measureCue_21 rfl ?_
  refine j_cVu dX6_measureCue_23 hB mo_X3_add ml_X6_66 (sp_X3_add hB b1) (by first | exact h0 | exact hA.1.1 | exact hA.2.1.1 | exact hA.2.2.1.1 | exact hA.2.2.2.1.1 | exact hBt.1.1 | exact hBt.2.1.1 | exact hBt.2.2.1.1 | exact hr.1 | exact hs.1 | exact hr.2.1.1 | exact hr.2.2.1.1 | exact hr.2.2.2.1.1 | exact hr.2.2.2.2.1.1) rfl rfl rfl rfl ⟨rfl, rfl, by decide, by decide⟩ (Nat.le_of_ble_eq_true rfl) ⟨by decide, by decide⟩ (fun V_23 h_23 => ?_)
  obtain ⟨g9, f9, a9⟩ := h_23
  rw [if_pos (by rw [m1.1]; omega)] at f9
  have hr1 := hr.ag a9 (by omega)
  have hs1 := hs.ag a9 (by omega)
  have hcb : LIs (Rw V_23 (q + 9)) (n + 1) (aCb s r w) := by rw [f9]; exact LIs_app m1 t4
  refine j_aload_n dX6_measureCue_26 rfl ?_
  refine j_iload_n dX6_measureCue_27 rfl ?_
  refine j_cVi dX6_measureCue_28 hB mo_X2_hasCue ml_X6_97 (sp_X2_hasCue hB hr1) (by first | exact h0 | exact hA.1.1 | exact hA.2.1.1 | exact hA.2.2.1.1 | exact hA.2.2.2.1.1 | exact hBt.1.1 | exact hBt.2.1.1 | exact hBt.2.2.1.1 | exact hr.1 | exact hs.1 | exact hr.2.1.1 | exact hr.2.2.1.1 | exact hr.2.2.2.1.1 | exact hr.2.2.2.2.1.1) rfl rfl rfl rfl ⟨rfl, rfl, by decide, by decide⟩ (Nat.le_of_ble_eq_true rfl) ⟨by decide, by decide⟩ (fun r_28 V_28 h_28 => ?_)
  obtain ⟨rfl, hc⟩ := h_28
  rw [hi] at hc
  refine j_if_ne (tgt := 51) dX6_measureCue_31 (by decide) (fun c_31 => ?_) (fun c_31 => ?_)
  · have hcue : isCue r n := by rcases hc with ⟨z, z2⟩ | ⟨z, z2⟩; (exact z2); exact absurd z c_31
    have cr := cue_rng hrl hn hcue
    have r4 := aPlay_rng hp hrl hn hcue
    refine j_aload_n dX6_measureCue_51 rfl ?_
    refine j_iload dX6_measureCue_52 rfl ?_
    refine j_aload_n dX6_measureCue_54 rfl ?_
    refine j_aload_n dX6_measureCue_55 rfl ?_
    refine j_getr dX6_measureCue_56 hB fl_X6_101 (by first | exact h0 | exact hA.1.1 | exact hA.2.1.1 | exact hA.2.2.1.1 | exact hA.2.2.2.1.1 | exact hBt.1.1 | exact hBt.2.1.1 | exact hBt.2.2.1.1 | exact hr.1 | exact hs.1 | exact hr.2.1.1 | exact hr.2.2.1.1 | exact hr.2.2.2.1.1 | exact hr.2.2.2.2.1.1) (by rfl) ?_
    refine j_iload_n dX6_measureCue_59 rfl ?_
    refine j_cVi dX6_measureCue_60 hB mo_X3_at ml_X6_54 (sp_X3_at hB (hr1.2.2.1)) (by first | exact h0 | exact hA.1.1 | exact hA.2.1.1 | exact hA.2.2.1.1 | exact hA.2.2.2.1.1 | exact hBt.1.1 | exact hBt.2.1.1 | exact hBt.2.2.1.1 | exact hr.1 | exact hs.1 | exact hr.2.1.1 | exact hr.2.2.1.1 | exact hr.2.2.2.1.1 | exact hr.2.2.2.2.1.1) rfl rfl rfl rfl ⟨rfl, rfl, by decide, by decide⟩ (Nat.le_of_ble_eq_true rfl) ⟨by decide, by decide⟩ (fun r_60 V_60 h_60 => ?_)
    obtain ⟨rfl, y2⟩ := h_60
    rw [hr1.2.2.2.2.2.2.2.2.1, hi] at y2
    subst y2
    refine j_aload_n dX6_measureCue_63 rfl ?_
    refine j_getr dX6_measureCue_64 hB fl_X6_104 (by first | exact h0 | exact hA.1.1 | exact hA.2.1.1 | exact hA.2.2.1.1 | exact hA.2.2.2.1.1 | exact hBt.1.1 | exact hBt.2.1.1 | exact hBt.2.2.1.1 | exact hr.1 | exact hs.1 | exact hr.2.1.1 | exact hr.2.2.1.1 | exact hr.2.2.2.1.1 | exact hr.2.2.2.2.1.1) (by rfl) ?_
    refine j_iload_n dX6_measureCue_67 rfl ?_
    refine j_cVi dX6_measureCue_68 hB mo_X3_at ml_X6_54 (sp_X3_at hB (hr1.2.2.2.1)) (by first | exact h0 | exact hA.1.1 | exact hA.2.1.1 | exact hA.2.2.1.1 | exact hA.2.2.2.1.1 | exact hBt.1.1 | exact hBt.2.1.1 | exact hBt.2.2.1.1 | exact hr.1 | exact hs.1 | exact hr.2.1.1 | exact hr.2.2.1.1 | exact hr.2.2.2.1.1 | exact hr.2.2.2.2.1.1) rfl rfl rfl rfl ⟨rfl, rfl, by decide, by decide⟩ (Nat.le_of_ble_eq_true rfl) ⟨by decide, by decide⟩ (fun r_68 V_68 h_68 => ?_)
    obtain ⟨rfl, y3⟩ := h_68
    rw [hr1.2.2.2.2.2.2.2.2.2.1, hi] at y3
    subst y3
    refine j_aload_n dX6_measureCue_71 rfl ?_
    refine j_getr dX6_measureCue_72 hB fl_X6_107 (by first | exact h0 | exact hA.1.1 | exact hA.2.1.1 | exact hA.2.2.1.1 | exact hA.2.2.2.1.1 | exact hBt.1.1 | exact hBt.2.1.1 | exact hBt.2.2.1.1 | exact hr.1 | exact hs.1 | exact hr.2.1.1 | exact hr.2.2.1.1 | exact hr.2.2.2.1.1 | exact hr.2.2.2.2.1.1) (by rfl) ?_
    refine j_iload_n dX6_measureCue_75 rfl ?_
    refine j_cVi dX6_measureCue_76 hB mo_X3_at ml_X6_54 (sp_X3_at hB (hr1.2.2.2.2.1)) (by first | exact h0 | exact hA.1.1 | exact hA.2.1.1 | exact hA.2.2.1.1 | exact hA.2.2.2.1.1 | exact hBt.1.1 | exact hBt.2.1.1 | exact hBt.2.2.1.1 | exact hr.1 | exact hs.1 | exact hr.2.1.1 | exact hr.2.2.1.1 | exact hr.2.2.2.1.1 | exact hr.2.2.2.2.1.1) rfl rfl rfl rfl ⟨rfl, rfl, by decide, by decide⟩ (Nat.le_of_ble_eq_true rfl) ⟨by decide, by decide⟩ (fun r_76 V_76 h_76 => ?_)
    obtain ⟨rfl, y4⟩ := h_76
    rw [hr1.2.2.2.2.2.2.2.2.2.2, hi] at y4
    subst y4
    refine j_cVi dX6_measureCue_79 hB mo_X5_playTime ml_X6_110 (sp_X5_playTime hB hs1 hp cr.1 cr.2.1 (by omega) cr.2.2.2.1 cr.2.2.2.2.1) (by first | exact h0 | exact hA.1.1 | exact hA.2.1.1 | exact hA.2.2.1.1 | exact hA.2.2.2.1.1 | exact hBt.1.1 | exact hBt.2.1.1 | exact hBt.2.2.1.1 | exact hr.1 | exact hs.1 | exact hr.2.1.1 | exact hr.2.2.1.1 | exact hr.2.2.2.1.1 | exact hr.2.2.2.2.1.1) rfl rfl rfl rfl ⟨rfl, rfl, by decide, by decide⟩ (Nat.le_of_ble_eq_true rfl) ⟨by decide, by decide⟩ (fun r_79 V_79 h_79 => ?_)
    obtain ⟨rfl, hpl⟩ := h_79
    have hpl : r_79.toInt = aPlay s r n := hpl
    refine j_iadd dX6_measureCue_82 ?_
    refine j_topi (fun x13 e13 => ?_)
    have t13 : x13.toInt = aMus s r w (n + 1) := by rw [e13, ti_add (by omega) (by omega), t4, hpl]; exact (cueI_t hcue).symm
    refine j_puti dX6_measureCue_83 hB fp_X6_measureCue_89 (by first | exact h0 | exact hA.1.1 | exact hA.2.1.1 | exact hA.2.2.1.1 | exact hA.2.2.2.1.1 | exact hBt.1.1 | exact hBt.2.1.1 | exact hBt.2.2.1.1 | exact hr.1 | exact hs.1 | exact hr.2.1.1 | exact hr.2.2.1.1 | exact hr.2.2.2.1.1 | exact hr.2.2.2.2.1.1) (by rfl) ?_
    refine j_aload_n dX6_measureCue_86 rfl ?_
    refine j_geti dX6_measureCue_87 hB fl_X6_89 (by first | exact h0 | exact hA.1.1 | exact hA.2.1.1 | exact hA.2.2.1.1 | exact hA.2.2.2.1.1 | exact hBt.1.1 | exact hBt.2.1.1 | exact hBt.2.2.1.1 | exact hr.1 | exact hs.1 | exact hr.2.1.1 | exact hr.2.2.1.1 | exact hr.2.2.2.1.1 | exact hr.2.2.2.2.1.1) (by rfl) ?_
    refine j_aload_n dX6_measureCue_90 rfl ?_
    refine j_geti dX6_measureCue_91 hB fl_X6_69 (by first | exact h0 | exact hA.1.1 | exact hA.2.1.1 | exact hA.2.2.1.1 | exact hA.2.2.2.1.1 | exact hBt.1.1 | exact hBt.2.1.1 | exact hBt.2.2.1.1 | exact hr.1 | exact hs.1 | exact hr.2.1.1 | exact hr.2.2.1.1 | exact hr.2.2.2.1.1 | exact hr.2.2.2.2.1.1) (by rfl) ?_
    refine j_isub dX6_measureCue_94 ?_
    refine j_topi (fun b5 e5 => ?_)
    rw [jset_eq, jset_ne (Or.inr (by decide)), a9 q (by omega)] at e5
    have ht9 := hA.2.2.2.2.2.2.2.2.2.2
    have t5 : b5.toInt = aDrift s r w n := by rw [e5, ti_sub (by rw [t13, ht9]; omega) (by rw [t13, ht9]; omega), t13, ht9]; exact (cueI_t hcue).symm
    have u1 : jAg V_23 (jset V_23 q 13 x13) q (q + 1) := jAg.f1
    refine j_istore (L' := [(0, _), (1, _), (2, _), (3, _), (4, _), (5, _)]) dX6_measureCue_95 (by decide) rfl ?_
    refine j_aload_n dX6_measureCue_97 rfl ?_
    refine j_getr dX6_measureCue_98 hB fl_X6_32 (by first | exact h0 | exact hA.1.1 | exact hA.2.1.1 | exact hA.2.2.1.1 | exact hA.2.2.2.1.1 | exact hBt.1.1 | exact hBt.2.1.1 | exact hBt.2.2.1.1 | exact hr.1 | exact hs.1 | exact hr.2.1.1 | exact hr.2.2.1.1 | exact hr.2.2.2.1.1 | exact hr.2.2.2.2.1.1) (by rfl) ?_
    refine j_aload_n dX6_measureCue_101 rfl ?_
    refine j_geti dX6_measureCue_102 hB fl_X6_89 (by first | exact h0 | exact hA.1.1 | exact hA.2.1.1 | exact hA.2.2.1.1 | exact hA.2.2.2.1.1 | exact hBt.1.1 | exact hBt.2.1.1 | exact hBt.2.2.1.1 | exact hr.1 | exact hs.1 | exact hr.2.1.1 | exact hr.2.2.1.1 | exact hr.2.2.2.1.1 | exact hr.2.2.2.2.1.1) (by rfl) ?_
    refine j_cVu dX6_measureCue_105 hB mo_X3_add ml_X6_66 (sp_X3_add hB ((b2.ag a9 (by omega)).ag u1 (by omega))) (by first | exact h0 | exact hA.1.1 | exact hA.2.1.1 | exact hA.2.2.1.1 | exact hA.2.2.2.1.1 | exact hBt.1.1 | exact hBt.2.1.1 | exact hBt.2.2.1.1 | exact hr.1 | exact hs.1 | exact hr.2.1.1 | exact hr.2.2.1.1 | exact hr.2.2.2.1.1 | exact hr.2.2.2.2.1.1) rfl rfl rfl rfl ⟨rfl, rfl, by decide, by decide⟩ (Nat.le_of_ble_eq_true rfl) ⟨by decide, by decide⟩ (fun V_105 h_105 => ?_)
    obtain ⟨g11, f11, a11⟩ := h_105
    rw [Rw_ag u1 (by omega), Rw_ag a9 (by omega), if_pos (by rw [m2.1]; omega), jset_eq] at f11
    refine j_aload_n dX6_measureCue_108 rfl ?_
    refine j_getr dX6_measureCue_109 hB fl_X6_35 (by first | exact h0 | exact hA.1.1 | exact hA.2.1.1 | exact hA.2.2.1.1 | exact hA.2.2.2.1.1 | exact hBt.1.1 | exact hBt.2.1.1 | exact hBt.2.2.1.1 | exact hr.1 | exact hs.1 | exact hr.2.1.1 | exact hr.2.2.1.1 | exact hr.2.2.2.1.1 | exact hr.2.2.2.2.1.1) (by rfl) ?_
    refine j_iload dX6_measureCue_112 rfl ?_
    refine j_cVu dX6_measureCue_114 hB mo_X3_add ml_X6_66 (sp_X3_add hB (((b3.ag a9 (by omega)).ag u1 (by omega)).ag a11 (by omega))) (by first | exact h0 | exact hA.1.1 | exact hA.2.1.1 | exact hA.2.2.1.1 | exact hA.2.2.2.1.1 | exact hBt.1.1 | exact hBt.2.1.1 | exact hBt.2.2.1.1 | exact hr.1 | exact hs.1 | exact hr.2.1.1 | exact hr.2.2.1.1 | exact hr.2.2.2.1.1 | exact hr.2.2.2.2.1.1) rfl rfl rfl rfl ⟨rfl, rfl, by decide, by decide⟩ (Nat.le_of_ble_eq_true rfl) ⟨by decide, by decide⟩ (fun V_114 h_114 => ?_)
    obtain ⟨g13, f13, a13⟩ := h_114
    rw [Rw_ag a11 (by omega), Rw_ag u1 (by omega), Rw_ag a9 (by omega), if_pos (by rw [m3.1]; omega)] at f13
    have hq : V_114 q = jset V_23 q 13 x13 q := by rw [a13 q (by omega), a11 q (by omega)]
    have hq2 : ∀ k, k ≠ 13 → V_114 q k = V q k := fun k hk => by rw [hq, jset_ne (Or.inr hk), a9 q (by omega)]
    refine j_aload_n dX6_measureCue_117 rfl ?_
    refine j_dup dX6_measureCue_118 rfl ?_
    refine j_geti dX6_measureCue_119 hB fl_X6_80 (by first | exact h0 | exact hA.1.1 | exact hA.2.1.1 | exact hA.2.2.1.1 | exact hA.2.2.2.1.1 | exact hBt.1.1 | exact hBt.2.1.1 | exact hBt.2.2.1.1 | exact hr.1 | exact hs.1 | exact hr.2.1.1 | exact hr.2.2.1.1 | exact hr.2.2.2.1.1 | exact hr.2.2.2.2.1.1) (by rfl) ?_
    refine j_iconst (v := 1) dX6_measureCue_122 (by decide) ?_
    refine j_iadd dX6_measureCue_123 ?_
    refine j_topi (fun x10 e10 => ?_)
    rw [hq2 10 (by decide)] at e10
    have t10 : x10.toInt = aSum (aCue1 r) (n + 1) := by rw [e10, ti_add (by rw [ti_1]; omega) (by rw [ti_1]; omega), ti_1, k1]; show _ = aSum (aCue1 r) n + aCue1 r n; unfold aCue1; rw [cueI_t hcue]
    refine j_puti dX6_measureCue_124 hB fp_X6_measureCue_80 (by first | exact h0 | exact hA.1.1 | exact hA.2.1.1 | exact hA.2.2.1.1 | exact hA.2.2.2.1.1 | exact hBt.1.1 | exact hBt.2.1.1 | exact hBt.2.2.1.1 | exact hr.1 | exact hs.1 | exact hr.2.1.1 | exact hr.2.2.1.1 | exact hr.2.2.2.1.1 | exact hr.2.2.2.2.1.1) (by rfl) ?_
    refine j_aload_n dX6_measureCue_127 rfl ?_
    refine j_dup dX6_measureCue_128 rfl ?_
    refine j_geti dX6_measureCue_129 hB fl_X6_86 (by first | exact h0 | exact hA.1.1 | exact hA.2.1.1 | exact hA.2.2.1.1 | exact hA.2.2.2.1.1 | exact hBt.1.1 | exact hBt.2.1.1 | exact hBt.2.2.1.1 | exact hr.1 | exact hs.1 | exact hr.2.1.1 | exact hr.2.2.1.1 | exact hr.2.2.2.1.1 | exact hr.2.2.2.2.1.1) (by rfl) ?_
    refine j_iload dX6_measureCue_132 rfl ?_
    refine j_mabs dX6_measureCue_134 hB ml_X6_115 (by decide) (Nat.le_of_ble_eq_true rfl) (by decide) (by decide) ?_
    refine j_iadd dX6_measureCue_137 ?_
    refine j_topi (fun x12 e12 => ?_)
    rw [jset_ne (Or.inr (by decide)), hq2 12 (by decide)] at e12
    have tab := ti_abs (x := b5) (by omega)
    have t12 : x12.toInt = aSum (aDs1 s r w) (n + 1) := by rw [e12, ti_add (by rw [tab]; omega) (by rw [tab]; omega), tab, k3, t5]; rfl
    have u2 : jAg V_114 (jset V_114 q 10 x10) q (q + 1) := jAg.f1
    have u3 : jAg (jset V_114 q 10 x10) (jset (jset V_114 q 10 x10) q 12 x12) q (q + 1) := jAg.f1
    refine j_puti dX6_measureCue_138 hB fp_X6_measureCue_86 (by first | exact h0 | exact hA.1.1 | exact hA.2.1.1 | exact hA.2.2.1.1 | exact hA.2.2.2.1.1 | exact hBt.1.1 | exact hBt.2.1.1 | exact hBt.2.2.1.1 | exact hr.1 | exact hs.1 | exact hr.2.1.1 | exact hr.2.2.1.1 | exact hr.2.2.2.1.1 | exact hr.2.2.2.2.1.1) (by rfl) ?_
    refine j_aload_n dX6_measureCue_141 rfl ?_
    refine j_dup dX6_measureCue_142 rfl ?_
    refine j_geti dX6_measureCue_143 hB fl_X6_83 (by first | exact h0 | exact hA.1.1 | exact hA.2.1.1 | exact hA.2.2.1.1 | exact hA.2.2.2.1.1 | exact hBt.1.1 | exact hBt.2.1.1 | exact hBt.2.2.1.1 | exact hr.1 | exact hs.1 | exact hr.2.1.1 | exact hr.2.2.1.1 | exact hr.2.2.2.1.1 | exact hr.2.2.2.2.1.1) (by rfl) ?_
    refine j_aload_n dX6_measureCue_146 rfl ?_
    refine j_iload dX6_measureCue_147 rfl ?_
    refine j_cVi dX6_measureCue_149 hB mo_X5_isBad ml_X6_118 (sp_X5_isBad hB (((((hs1.ag u1 (by omega)).ag a11 (by omega)).ag a13 (by omega)).ag u2 (by omega)).ag u3 (by omega)) (by omega)) (by first | exact h0 | exact hA.1.1 | exact hA.2.1.1 | exact hA.2.2.1.1 | exact hA.2.2.2.1.1 | exact hBt.1.1 | exact hBt.2.1.1 | exact hBt.2.2.1.1 | exact hr.1 | exact hs.1 | exact hr.2.1.1 | exact hr.2.2.1.1 | exact hr.2.2.2.1.1 | exact hr.2.2.2.2.1.1) rfl rfl rfl rfl ⟨rfl, rfl, by decide, by decide⟩ (Nat.le_of_ble_eq_true rfl) ⟨by decide, by decide⟩ (fun r_149 V_149 h_149 => ?_)
    obtain ⟨rfl, hbad⟩ := h_149
    rw [t5] at hbad
    refine j_if_eq (tgt := 159) dX6_measureCue_152 (by decide) (fun c_152 => ?_) (fun c_152 => ?_)
    · refine j_iconst (v := 0) dX6_measureCue_159 (by decide) ?_
      refine j_iadd dX6_measureCue_160 ?_
      refine j_topi (fun x11 e11 => ?_)
      rw [jset_ne (Or.inr (by decide)), jset_ne (Or.inr (by decide)), hq2 11 (by decide)] at e11
      refine j_puti dX6_measureCue_161 hB fp_X6_measureCue_83 (by first | exact h0 | exact hA.1.1 | exact hA.2.1.1 | exact hA.2.2.1.1 | exact hA.2.2.2.1.1 | exact hBt.1.1 | exact hBt.2.1.1 | exact hBt.2.2.1.1 | exact hr.1 | exact hs.1 | exact hr.2.1.1 | exact hr.2.2.1.1 | exact hr.2.2.2.1.1 | exact hr.2.2.2.2.1.1) (by rfl) ?_
      refine j_vret dX6_measureCue_164 rfl (by decide) (by decide) ?_
      have t11 : x11.toInt = aSum (aBad1 s r w) (n + 1) := by
        show _ = aSum (aBad1 s r w) n + aBad1 s r w n
        rcases hbad with ⟨z, z2⟩ | ⟨z, z2⟩
        · first
          | (rw [z] at c_152; exact absurd c_152 (by decide))
          | rw [show aBad1 s r w n = 1 from if_pos z2, e11, ti_add (by rw [ti_1]; omega) (by rw [ti_1]; omega), ti_1, k2]
        · first
          | exact absurd z c_152
          | rw [show aBad1 s r w n = 0 from if_neg z2, e11, ti_add (by rw [ti_0]; omega) (by rw [ti_0]; omega), ti_0, k2]
      have u4 : jAg (jset (jset V_114 q 10 x10) q 12 x12) (jset (jset (jset V_114 q 10 x10) q 12 x12) q 11 x11) q (q + 1) := jAg.f1
      refine ⟨rfl, rfl, rfl, rfl, ?_, ⟨((((((g9.ag u1 (by omega)).ag a11 (by omega)).ag a13 (by omega)).ag u2 (by omega)).ag u3 (by omega)).ag u4 (by omega)), ((((g11.ag a13 (by omega)).ag u2 (by omega)).ag u3 (by omega)).ag u4 (by omega)), (((g13.ag u2 (by omega)).ag u3 (by omega)).ag u4 (by omega)), ?_, ?_, ?_, ?_, ?_, ?_, ?_⟩, ?_⟩
      · exact ((((((hA.ag a9 (by omega)).set (by omega)).ag a11 (by omega)).ag a13 (by omega)).set (by omega)).set (by omega)).set (by omega)
      · rw [Rw_ag u4 (by omega), Rw_ag u3 (by omega), Rw_ag u2 (by omega), Rw_ag a13 (by omega), Rw_ag a11 (by omega), Rw_ag u1 (by omega)]; exact hcb
      · rw [Rw_ag u4 (by omega), Rw_ag u3 (by omega), Rw_ag u2 (by omega), Rw_ag a13 (by omega), f11]
        exact LIs_app m2 (by rw [t13]; exact (cueI_t hcue).symm)
      · rw [Rw_ag u4 (by omega), Rw_ag u3 (by omega), Rw_ag u2 (by omega), f13]
        exact LIs_app m3 t5
      · rw [jset_ne (Or.inr (by decide)), jset_ne (Or.inr (by decide)), jset_eq]; exact t10
      · rw [jset_eq]; exact t11
      · rw [jset_ne (Or.inr (by decide)), jset_eq]; exact t12
      · rw [jset_ne (Or.inr (by decide)), jset_ne (Or.inr (by decide)), jset_ne (Or.inr (by decide)), hq, jset_eq]; exact t13
      · exact ((((((a9.wide (lo' := q) (hi' := q + 15) (by omega) (by omega)).tr (u1.wide (by omega) (by omega))).tr (a11.wide (by omega) (by omega))).tr (a13.wide (by omega) (by omega))).tr (u2.wide (by omega) (by omega))).tr (u3.wide (by omega) (by omega))).tr (u4.wide (by omega) (by omega))
    · refine j_iconst (v := 1) dX6_measureCue_155 (by decide) ?_
      refine j_goto (tgt := 160) dX6_measureCue_156 (by decide) ?_
      refine j_iadd dX6_measureCue_160 ?_
      refine j_topi (fun x11 e11 => ?_)
      rw [jset_ne (Or.inr (by decide)), jset_ne (Or.inr (by decide)), hq2 11 (by decide)] at e11
      refine j_puti dX6_measureCue_161 hB fp_X6_measureCue_83 (by first | exact h0 | exact hA.1.1 | exact hA.2.1.1 | exact hA.2.2.1.1 | exact hA.2.2.2.1.1 | exact hBt.1.1 | exact hBt.2.1.1 | exact hBt.2.2.1.1 | exact hr.1 | exact hs.1 | exact hr.2.1.1 | exact hr.2.2.1.1 | exact hr.2.2.2.1.1 | exact hr.2.2.2.2.1.1) (by rfl) ?_
      refine j_vret dX6_measureCue_164 rfl (by decide) (by decide) ?_
      have t11 : x11.toInt = aSum (aBad1 s r w) (n + 1) := by
        show _ = aSum (aBad1 s r w) n + aBad1 s r w n
        rcases hbad with ⟨z, z2⟩ | ⟨z, z2⟩
        · first
          | (rw [z] at c_152; exact absurd c_152 (by decide))
          | rw [show aBad1 s r w n = 1 from if_pos z2, e11, ti_add (by rw [ti_1]; omega) (by rw [ti_1]; omega), ti_1, k2]
        · first
          | exact absurd z c_152
          | rw [show aBad1 s r w n = 0 from if_neg z2, e11, ti_add (by rw [ti_0]; omega) (by rw [ti_0]; omega), ti_0, k2]
      have u4 : jAg (jset (jset V_114 q 10 x10) q 12 x12) (jset (jset (jset V_114 q 10 x10) q 12 x12) q 11 x11) q (q + 1) := jAg.f1
      refine ⟨rfl, rfl, rfl, rfl, ?_, ⟨((((((g9.ag u1 (by omega)).ag a11 (by omega)).ag a13 (by omega)).ag u2 (by omega)).ag u3 (by omega)).ag u4 (by omega)), ((((g11.ag a13 (by omega)).ag u2 (by omega)).ag u3 (by omega)).ag u4 (by omega)), (((g13.ag u2 (by omega)).ag u3 (by omega)).ag u4 (by omega)), ?_, ?_, ?_, ?_, ?_, ?_, ?_⟩, ?_⟩
      · exact ((((((hA.ag a9 (by omega)).set (by omega)).ag a11 (by omega)).ag a13 (by omega)).set (by omega)).set (by omega)).set (by omega)
      · rw [Rw_ag u4 (by omega), Rw_ag u3 (by omega), Rw_ag u2 (by omega), Rw_ag a13 (by omega), Rw_ag a11 (by omega), Rw_ag u1 (by omega)]; exact hcb
      · rw [Rw_ag u4 (by omega), Rw_ag u3 (by omega), Rw_ag u2 (by omega), Rw_ag a13 (by omega), f11]
        exact LIs_app m2 (by rw [t13]; exact (cueI_t hcue).symm)
      · rw [Rw_ag u4 (by omega), Rw_ag u3 (by omega), Rw_ag u2 (by omega), f13]
        exact LIs_app m3 t5
      · rw [jset_ne (Or.inr (by decide)), jset_ne (Or.inr (by decide)), jset_eq]; exact t10
      · rw [jset_eq]; exact t11
      · rw [jset_ne (Or.inr (by decide)), jset_eq]; exact t12
      · rw [jset_ne (Or.inr (by decide)), jset_ne (Or.inr (by decide)), jset_ne (Or.inr (by decide)), hq, jset_eq]; exact t13
      · exact ((((((a9.wide (lo' := q) (hi' := q + 15) (by omega) (by omega)).tr (u1.wide (by omega) (by omega))).tr (a11.wide (by omega) (by omega))).tr (a13.wide (by omega) (by omega))).tr (u2.wide (by omega) (by omega))).tr (u3.wide (by omega) (by omega))).tr (u4.wide (by omega) (by omega))
  · have hcue : ¬ isCue r n := by rcases hc with ⟨z, z2⟩ | ⟨z, z2⟩; (rw [z] at c_31; exact absurd c_31 (by decide)); exact fun y => y z2
    refine j_aload_n dX6_measureCue_34 rfl ?_
    refine j_getr dX6_measureCue_35 hB fl_X6_32 (by first | exact h0 | exact hA.1.1 | exact hA.2.1.1 | exact hA.2.2.1.1 | exact hA.2.2.2.1.1 | exact hBt.1.1 | exact hBt.2.1.1 | exact hBt.2.2.1.1 | exact hr.1 | exact hs.1 | exact hr.2.1.1 | exact hr.2.2.1.1 | exact hr.2.2.2.1.1 | exact hr.2.2.2.2.1.1) (by rfl) ?_
    refine j_iconst (v := 0) dX6_measureCue_38 (by decide) ?_
    refine j_cVu dX6_measureCue_39 hB mo_X3_add ml_X6_66 (sp_X3_add hB (b2.ag a9 (by omega))) (by first | exact h0 | exact hA.1.1 | exact hA.2.1.1 | exact hA.2.2.1.1 | exact hA.2.2.2.1.1 | exact hBt.1.1 | exact hBt.2.1.1 | exact hBt.2.2.1.1 | exact hr.1 | exact hs.1 | exact hr.2.1.1 | exact hr.2.2.1.1 | exact hr.2.2.2.1.1 | exact hr.2.2.2.2.1.1) rfl rfl rfl rfl ⟨rfl, rfl, by decide, by decide⟩ (Nat.le_of_ble_eq_true rfl) ⟨by decide, by decide⟩ (fun V_39 h_39 => ?_)
    obtain ⟨g11, f11, a11⟩ := h_39
    rw [Rw_ag a9 (by omega), if_pos (by rw [m2.1]; omega)] at f11
    refine j_aload_n dX6_measureCue_42 rfl ?_
    refine j_getr dX6_measureCue_43 hB fl_X6_35 (by first | exact h0 | exact hA.1.1 | exact hA.2.1.1 | exact hA.2.2.1.1 | exact hA.2.2.2.1.1 | exact hBt.1.1 | exact hBt.2.1.1 | exact hBt.2.2.1.1 | exact hr.1 | exact hs.1 | exact hr.2.1.1 | exact hr.2.2.1.1 | exact hr.2.2.2.1.1 | exact hr.2.2.2.2.1.1) (by rfl) ?_
    refine j_iconst (v := 0) dX6_measureCue_46 (by decide) ?_
    refine j_cVu dX6_measureCue_47 hB mo_X3_add ml_X6_66 (sp_X3_add hB ((b3.ag a9 (by omega)).ag a11 (by omega))) (by first | exact h0 | exact hA.1.1 | exact hA.2.1.1 | exact hA.2.2.1.1 | exact hA.2.2.2.1.1 | exact hBt.1.1 | exact hBt.2.1.1 | exact hBt.2.2.1.1 | exact hr.1 | exact hs.1 | exact hr.2.1.1 | exact hr.2.2.1.1 | exact hr.2.2.2.1.1 | exact hr.2.2.2.2.1.1) rfl rfl rfl rfl ⟨rfl, rfl, by decide, by decide⟩ (Nat.le_of_ble_eq_true rfl) ⟨by decide, by decide⟩ (fun V_47 h_47 => ?_)
    obtain ⟨g13, f13, a13⟩ := h_47
    rw [Rw_ag a11 (by omega), Rw_ag a9 (by omega), if_pos (by rw [m3.1]; omega)] at f13
    refine j_vret dX6_measureCue_50 rfl (by decide) (by decide) ?_
    refine ⟨rfl, rfl, rfl, rfl, ((hA.ag a9 (by omega)).ag a11 (by omega)).ag a13 (by omega), ⟨(g9.ag a11 (by omega)).ag a13 (by omega), g11.ag a13 (by omega), g13, ?_, ?_, ?_, ?_, ?_, ?_, ?_⟩, ((a9.wide (lo' := q) (hi' := q + 15) (by omega) (by omega)).tr (a11.wide (by omega) (by omega))).tr (a13.wide (by omega) (by omega))⟩
    · rw [Rw_ag a13 (by omega), Rw_ag a11 (by omega)]; exact hcb
    · rw [Rw_ag a13 (by omega), f11]
      exact LIs_app m2 (by rw [ti_0]; exact (cueI_f hcue).symm)
    · rw [f13]
      exact LIs_app m3 (by rw [ti_0]; exact (cueI_f hcue).symm)
    · rw [a13 q (by omega), a11 q (by omega), a9 q (by omega), k1]; show _ = aSum (aCue1 r) n + aCue1 r n; unfold aCue1; rw [cueI_f hcue]; omega
    · rw [a13 q (by omega), a11 q (by omega), a9 q (by omega), k2]; show _ = aSum (aBad1 s r w) n + aBad1 s r w n; unfold aBad1; have e : aDrift s r w n = 0 := cueI_f hcue
      rw [e, if_neg (by have := hlw; simp; omega)]; omega
    · rw [a13 q (by omega), a11 q (by omega), a9 q (by omega), k3]; show _ = aSum (aDs1 s r w) n + aDs1 s r w n; have e : aDrift s r w n = 0 := cueI_f hcue
      unfold aDs1; rw [e]; simp
    · rw [a13 q (by omega), a11 q (by omega), a9 q (by omega), k4]; exact (cueI_f hcue).symm
end JTiming2
end
section
/-! CueSheets$Timing: measure, roomForCue, silence -/
theorem TmB.ag {T : jT} {V V' : jV} {q lo hi n : Nat} {s : aS} {r : aR} {w : Int} (h : TmB T V q s r w n) (ha : jAg V V' lo hi) (hd : (q < lo ∧ hi ≤ q + 9) ∨ q + 15 ≤ lo ∨ hi ≤ q) : TmB T V' q s r w n := by
  obtain ⟨h1, h2, h3, l1, l2, l3, f1, f2, f3, f4⟩ := h
  refine ⟨h1.ag ha (by omega), h2.ag ha (by omega), h3.ag ha (by omega), ?_, ?_, ?_, ?_, ?_, ?_, ?_⟩
  · rw [Rw_ag ha (by omega)]; exact l1
  · rw [Rw_ag ha (by omega)]; exact l2
  · rw [Rw_ag ha (by omega)]; exact l3
  · rw [ha q (by omega)]; exact f1
  · rw [ha q (by omega)]; exact f2
  · rw [ha q (by omega)]; exact f3
  · rw [ha q (by omega)]; exact f4
theorem TmB.set {T : jT} {V : jV} {q n k : Nat} {s : aS} {r : aR} {w : Int} {v : Int32} (h : TmB T V q s r w n) (hk : k < 10) : TmB T (jset V q k v) q s r w n := by
  have ha : jAg V (jset V q k v) q (q + 1) := jAg.f1
  obtain ⟨h1, h2, h3, l1, l2, l3, f1, f2, f3, f4⟩ := h
  refine ⟨h1.ag ha (by omega), h2.ag ha (by omega), h3.ag ha (by omega), ?_, ?_, ?_, ?_, ?_, ?_, ?_⟩
  · rw [Rw_ag ha (by omega)]; exact l1
  · rw [Rw_ag ha (by omega)]; exact l2
  · rw [Rw_ag ha (by omega)]; exact l3
  · rw [jset_ne (Or.inr (by omega))]; exact f1
  · rw [jset_ne (Or.inr (by omega))]; exact f2
  · rw [jset_ne (Or.inr (by omega))]; exact f3
  · rw [jset_ne (Or.inr (by omega))]; exact f4
theorem TmIs.ag {T : jT} {V V' : jV} {q lo hi : Nat} {s : aS} {r : aR} {w : Int} (h : TmIs T V q s r w) (ha : jAg V V' lo hi) (hd : q + 15 ≤ lo ∨ hi ≤ q) : TmIs T V' q s r w := ⟨h.1, h.2.1.ag ha (by omega), h.2.2.ag ha (by omega)⟩
theorem TmIs.k {T : jT} {V : jV} {q : Nat} {s : aS} {r : aR} {w : Int} (h : TmIs T V q s r w) : TmK T V q := ⟨h.1, h.2.1.1, h.2.1.2.1, h.2.1.2.2.1, h.2.1.2.2.2.1, h.2.2.1, h.2.2.2.1, h.2.2.2.2.1⟩
theorem LIs.at {L : List Int32} {n k : Nat} {f : Nat → Int} (h : LIs L n f) (hk : k < n) : (atZ L k).toInt = f k := h.2 k hk
/-- what the music of scene k takes of the reel's time -/
noncomputable def aMu (s : aS) (r : aR) (w : Int) (k : Nat) : Int := cueI r k (max 0 (min (aEnd s r w k) (aBeg r w r.1.length) - aCb s r w k)) 0
noncomputable def aSil (s : aS) (r : aR) (w : Int) : Int := aBeg r w r.1.length - aSum (aMu s r w) r.1.length
noncomputable def aRoom (s : aS) (r : aR) (w : Int) (k : Nat) : Int := aBeg r w k + aTime r w k - aCb s r w k
theorem aMu_rng {s : aS} {r : aR} (hp : pcW s) (h : rlW s r) {w : Int} (hw : w = 0 ∨ 10 ≤ w) {k : Nat} (hk : k < r.1.length) : 0 ≤ aMu s r w k ∧ aMu s r w k ≤ 300000 := by
  have h4 := h.2.2.2.1
  have i1 := aMus_rng hp h hw k (by omega)
  have i2 := aBeg_rng h hw k (by omega)
  have i3 := aBeg_rng h hw r.1.length (by omega)
  unfold aMu aCb
  by_cases hc : isCue r k
  · rw [cueI_t hc]; omega
  · rw [cueI_f hc]; omega
theorem aRoom_rng {s : aS} {r : aR} (hp : pcW s) (h : rlW s r) {w : Int} (hw : w = 0 ∨ 10 ≤ w) {k : Nat} (hk : k < r.1.length) : -1000000 ≤ aRoom s r w k ∧ aRoom s r w k ≤ 1000000 := by
  have h4 := h.2.2.2.1
  have i1 := aMus_rng hp h hw k (by omega)
  have i2 := aBeg_rng h hw k (by omega)
  have i3 := aTime_rng h hw hk
  unfold aRoom aCb
  omega
section JTiming3
variable {l : Launch} {s0 : State} {D : jD} {T : jT} {V : jV} {X : jX} {sz : Nat}
set_option maxRecDepth 100000 in
set_option maxHeartbeats 4000000 in
theorem sp_X6_measure (hB : jB l s0 D) {q qs qr : Nat} {s : aS} {r : aR} {w : Int32} (hK : TmK T V q) (hs : StOK T V qs s) (hr : ReelOK T V qr r) (hd1 : q + 15 ≤ qs ∨ qs + 64 ≤ q) (hd2 : q + 15 ≤ qr ∨ qr + 19 ≤ q) (hp : pcW s) (hrl : rlW s r) (hw : w = 0 ∨ 10 ≤ w.toInt) (hlw : 0 ≤ s.2.2.1.toInt) : Sp l s0 D kX6_measure (jR 4 0 0) 0 0 [.ref q, .ref qs, .ref qr, .int w] T V X sz (qU T X sz (fun V' => TmIs T V' q s r w.toInt ∧ jAg V V' q (q + 15))) := by
  refine Sp.of pn_X6_measure rfl (Nat.le_of_ble_eq_true rfl) ?_
  have hn10 := hrl.2.2.2.1
  have hw' : w.toInt = 0 ∨ 10 ≤ w.toInt := by rcases hw with e | e; (left; rw [e]; rfl); exact Or.inr e
  have loop : ∀ (n k : Nat) (i : Int32) (V1 : jV) (L : List (Nat × Value)), L.lookup 0 = some (.ref q) → L.lookup 1 = some (.ref qs) → L.lookup 2 = some (.ref qr) → L.lookup 3 = some (.int w) → L.lookup 4 = some (.int i) → i.toInt = k → k + n = r.1.length → TmA T V1 q r w.toInt k → TmB T V1 q s r w.toInt k → jAg V V1 q (q + 15) → J l s0 D kX6_measure (jR 4 0 0) 0 0 (qU T X sz (fun V' => TmIs T V' q s r w.toInt ∧ jAg V V' q (q + 15))) 7 L [] T V1 X sz 0 0 := by
    intro n
    induction n with
    | zero =>
      intro k i V1 L l0 l1 l2 l3 l4 hi hk hA hBt ha
      have hr1 := hr.ag ha (by omega)
      refine j_sub2 (L' := [(0, .ref q), (1, .ref qs), (2, .ref qr), (3, .int w), (4, .int i)]) (List.forall_mem_cons.mpr ⟨l0, List.forall_mem_cons.mpr ⟨l1, List.forall_mem_cons.mpr ⟨l2, List.forall_mem_cons.mpr ⟨l3, List.forall_mem_cons.mpr ⟨l4, fun _ h9 => nomatch h9⟩⟩⟩⟩⟩) ?_
      refine j_iload dX6_measure_7 rfl ?_
      refine j_aload_n dX6_measure_9 rfl ?_
      refine j_cVi dX6_measure_10 hB mo_X2_scenes ml_X6_41 (sp_X2_scenes hB hr1) (by first | exact hK.1 | exact hA.1.1 | exact hA.2.1.1 | exact hA.2.2.1.1 | exact hA.2.2.2.1.1 | exact hr.1 | exact hs.1 | exact hr.2.1.1) rfl rfl rfl rfl ⟨rfl, rfl, by decide, by decide⟩ (Nat.le_of_ble_eq_true rfl) ⟨by decide, by decide⟩ (fun r_10 V_10 h_10 => ?_)
      obtain ⟨rfl, hn⟩ := h_10
      refine j_icmp_ge (tgt := 139) dX6_measure_13 (by decide) (fun c_13 => ?_) (fun c_13 => ?_)
      · refine j_vret dX6_measure_139 rfl (by decide) (by decide) ?_
        exact ⟨rfl, rfl, rfl, rfl, ⟨hK.1, by rw [show r.1.length = k by omega]; exact hA, by rw [show r.1.length = k by omega]; exact hBt⟩, ha⟩
      · exact absurd c_13 (by omega)
    | succ n ih =>
      intro k i V1 L l0 l1 l2 l3 l4 hi hk hA hBt ha
      have hr1 := hr.ag ha (by omega)
      have hs1 := hs.ag ha (by omega)
      obtain ⟨h1, h2, h3, h4, m1, m2, m3, m4, f1, f2, f3⟩ := id hA
      have r1 := aFirst_rng hrl k (by omega)
      have r1' := len_rng hrl (show k < r.1.length by omega)
      have r2 := aBeg_rng hrl hw' k (by omega)
      have r3 := aTime_rng hrl hw' (show k < r.1.length by omega)
      have r4 : ∀ j : Nat, j < r.1.length → 0 ≤ aLost r j ∧ aLost r j ≤ 900 := fun j hj => by
        have := cnt_le (lostB r.2.2.2.2.2) (aFirst r j) (atZ r.1 j).toInt.toNat
        have := len_rng hrl hj
        unfold aLost
        omega
      have r5 := aSum_rng (f := aLost r) (B := 900) (n := r.1.length) r4 k (by omega)
      have r6 := r4 k (by omega)
      refine j_sub2 (L' := [(0, .ref q), (1, .ref qs), (2, .ref qr), (3, .int w), (4, .int i)]) (List.forall_mem_cons.mpr ⟨l0, List.forall_mem_cons.mpr ⟨l1, List.forall_mem_cons.mpr ⟨l2, List.forall_mem_cons.mpr ⟨l3, List.forall_mem_cons.mpr ⟨l4, fun _ h9 => nomatch h9⟩⟩⟩⟩⟩) ?_
      refine j_iload dX6_measure_7 rfl ?_
      refine j_aload_n dX6_measure_9 rfl ?_
      refine j_cVi dX6_measure_10 hB mo_X2_scenes ml_X6_41 (sp_X2_scenes hB hr1) (by first | exact hK.1 | exact hA.1.1 | exact hA.2.1.1 | exact hA.2.2.1.1 | exact hA.2.2.2.1.1 | exact hr.1 | exact hs.1 | exact hr.2.1.1) rfl rfl rfl rfl ⟨rfl, rfl, by decide, by decide⟩ (Nat.le_of_ble_eq_true rfl) ⟨by decide, by decide⟩ (fun r_10 V_10 h_10 => ?_)
      obtain ⟨rfl, hn⟩ := h_10
      refine j_icmp_ge (tgt := 139) dX6_measure_13 (by decide) (fun c_13 => ?_) (fun c_13 => ?_)
      · exact absurd c_13 (by omega)
      · refine j_aload_n dX6_measure_16 rfl ?_
        refine j_geti dX6_measure_17 hB fl_X6_47 (by first | exact hK.1 | exact hA.1.1 | exact hA.2.1.1 | exact hA.2.2.1.1 | exact hA.2.2.2.1.1 | exact hr.1 | exact hs.1 | exact hr.2.1.1) (by rfl) ?_
        refine j_aload_n dX6_measure_20 rfl ?_
        refine j_getr dX6_measure_21 hB fl_X6_51 (by first | exact hK.1 | exact hA.1.1 | exact hA.2.1.1 | exact hA.2.2.1.1 | exact hA.2.2.2.1.1 | exact hr.1 | exact hs.1 | exact hr.2.1.1) (by rfl) ?_
        refine j_iload dX6_measure_24 rfl ?_
        refine j_cVi dX6_measure_26 hB mo_X3_at ml_X6_54 (sp_X3_at hB hr1.2.1) (by first | exact hK.1 | exact hA.1.1 | exact hA.2.1.1 | exact hA.2.2.1.1 | exact hA.2.2.2.1.1 | exact hr.1 | exact hs.1 | exact hr.2.1.1) rfl rfl rfl rfl ⟨rfl, rfl, by decide, by decide⟩ (Nat.le_of_ble_eq_true rfl) ⟨by decide, by decide⟩ (fun r_26 V_26 h_26 => ?_)
        obtain ⟨rfl, y1⟩ := h_26
        rw [hr1.2.2.2.2.2.2.2.1, hi] at y1
        subst y1
        refine j_iadd dX6_measure_29 ?_
        refine j_topi (fun b5 e5 => ?_)
        have t5 : b5.toInt = aFirst r (k + 1) := by rw [e5, ti_add (by omega) (by omega), f1]; rfl
        have t5' : aFirst r (k + 1) = aFirst r k + (atZ r.1 k).toInt := rfl
        refine j_istore (L' := [(0, _), (1, _), (2, _), (3, _), (4, _), (5, _)]) dX6_measure_30 (by decide) rfl ?_
        refine j_aload_n dX6_measure_32 rfl ?_
        refine j_aload_n dX6_measure_33 rfl ?_
        refine j_geti dX6_measure_34 hB fl_X6_47 (by first | exact hK.1 | exact hA.1.1 | exact hA.2.1.1 | exact hA.2.2.1.1 | exact hA.2.2.2.1.1 | exact hr.1 | exact hs.1 | exact hr.2.1.1) (by rfl) ?_
        refine j_iload dX6_measure_37 rfl ?_
        refine j_cVi dX6_measure_39 hB mo_X2_lostBetween ml_X6_58 (sp_X2_lostBetween hB hr1 hrl.2.2.2.2.2.2.2 (by omega) (by omega) (by omega)) (by first | exact hK.1 | exact hA.1.1 | exact hA.2.1.1 | exact hA.2.2.1.1 | exact hA.2.2.2.1.1 | exact hr.1 | exact hs.1 | exact hr.2.1.1) rfl rfl rfl rfl ⟨rfl, rfl, by decide, by decide⟩ (Nat.le_of_ble_eq_true rfl) ⟨by decide, by decide⟩ (fun r_39 V_39 h_39 => ?_)
        obtain ⟨rfl, t6⟩ := h_39
        rw [t5, f1, t5', show aFirst r k + (atZ r.1 k).toInt - aFirst r k = (atZ r.1 k).toInt by omega] at t6
        have t6 : r_39.toInt = aLost r k := t6
        refine j_istore (L' := [(0, _), (1, _), (2, _), (3, _), (4, _), (5, _), (6, _)]) dX6_measure_42 (by decide) rfl ?_
        refine j_aload_n dX6_measure_44 rfl ?_
        refine j_aload_n dX6_measure_45 rfl ?_
        refine j_geti dX6_measure_46 hB fl_X6_47 (by first | exact hK.1 | exact hA.1.1 | exact hA.2.1.1 | exact hA.2.2.1.1 | exact hA.2.2.2.1.1 | exact hr.1 | exact hs.1 | exact hr.2.1.1) (by rfl) ?_
        refine j_iload dX6_measure_49 rfl ?_
        refine j_iload_n dX6_measure_51 rfl ?_
        refine j_cVi dX6_measure_52 hB mo_X2_timeBetween ml_X6_62 (sp_X2_timeBetween hB hr1 hrl.2.2.2.2.2.2.2 hrl.2.2.2.2.2.2.1 (by omega) (by omega) (by omega) hw) (by first | exact hK.1 | exact hA.1.1 | exact hA.2.1.1 | exact hA.2.2.1.1 | exact hA.2.2.2.1.1 | exact hr.1 | exact hs.1 | exact hr.2.1.1) rfl rfl rfl rfl ⟨rfl, rfl, by decide, by decide⟩ (Nat.le_of_ble_eq_true rfl) ⟨by decide, by decide⟩ (fun r_52 V_52 h_52 => ?_)
        obtain ⟨rfl, t7⟩ := h_52
        rw [t5, f1, t5', show aFirst r k + (atZ r.1 k).toInt - aFirst r k = (atZ r.1 k).toInt by omega] at t7
        have t7 : r_52.toInt = aTime r w.toInt k := t7
        refine j_istore (L' := [(0, _), (1, _), (2, _), (3, _), (4, _), (5, _), (6, _), (7, _)]) dX6_measure_55 (by decide) rfl ?_
        refine j_aload_n dX6_measure_57 rfl ?_
        refine j_getr dX6_measure_58 hB fl_X6_14 (by first | exact hK.1 | exact hA.1.1 | exact hA.2.1.1 | exact hA.2.2.1.1 | exact hA.2.2.2.1.1 | exact hr.1 | exact hs.1 | exact hr.2.1.1) (by rfl) ?_
        refine j_aload_n dX6_measure_61 rfl ?_
        refine j_geti dX6_measure_62 hB fl_X6_47 (by first | exact hK.1 | exact hA.1.1 | exact hA.2.1.1 | exact hA.2.2.1.1 | exact hA.2.2.2.1.1 | exact hr.1 | exact hs.1 | exact hr.2.1.1) (by rfl) ?_
        refine j_cVu dX6_measure_65 hB mo_X3_add ml_X6_66 (sp_X3_add hB h1) (by first | exact hK.1 | exact hA.1.1 | exact hA.2.1.1 | exact hA.2.2.1.1 | exact hA.2.2.2.1.1 | exact hr.1 | exact hs.1 | exact hr.2.1.1) rfl rfl rfl rfl ⟨rfl, rfl, by decide, by decide⟩ (Nat.le_of_ble_eq_true rfl) ⟨by decide, by decide⟩ (fun V_65 h_65 => ?_)
        obtain ⟨g1, p1, a1⟩ := h_65
        rw [if_pos (by rw [m1.1]; omega)] at p1
        refine j_aload_n dX6_measure_68 rfl ?_
        refine j_getr dX6_measure_69 hB fl_X6_20 (by first | exact hK.1 | exact hA.1.1 | exact hA.2.1.1 | exact hA.2.2.1.1 | exact hA.2.2.2.1.1 | exact hr.1 | exact hs.1 | exact hr.2.1.1) (by rfl) ?_
        refine j_iload dX6_measure_72 rfl ?_
        refine j_cVu dX6_measure_74 hB mo_X3_add ml_X6_66 (sp_X3_add hB (h2.ag a1 (by omega))) (by first | exact hK.1 | exact hA.1.1 | exact hA.2.1.1 | exact hA.2.2.1.1 | exact hA.2.2.2.1.1 | exact hr.1 | exact hs.1 | exact hr.2.1.1) rfl rfl rfl rfl ⟨rfl, rfl, by decide, by decide⟩ (Nat.le_of_ble_eq_true rfl) ⟨by decide, by decide⟩ (fun V_74 h_74 => ?_)
        obtain ⟨g2, p2, a2⟩ := h_74
        rw [Rw_ag a1 (by omega), if_pos (by rw [m2.1]; omega)] at p2
        refine j_aload_n dX6_measure_77 rfl ?_
        refine j_getr dX6_measure_78 hB fl_X6_23 (by first | exact hK.1 | exact hA.1.1 | exact hA.2.1.1 | exact hA.2.2.1.1 | exact hA.2.2.2.1.1 | exact hr.1 | exact hs.1 | exact hr.2.1.1) (by rfl) ?_
        refine j_iload dX6_measure_81 rfl ?_
        refine j_cVu dX6_measure_83 hB mo_X3_add ml_X6_66 (sp_X3_add hB ((h3.ag a1 (by omega)).ag a2 (by omega))) (by first | exact hK.1 | exact hA.1.1 | exact hA.2.1.1 | exact hA.2.2.1.1 | exact hA.2.2.2.1.1 | exact hr.1 | exact hs.1 | exact hr.2.1.1) rfl rfl rfl rfl ⟨rfl, rfl, by decide, by decide⟩ (Nat.le_of_ble_eq_true rfl) ⟨by decide, by decide⟩ (fun V_83 h_83 => ?_)
        obtain ⟨g3, p3, a3⟩ := h_83
        rw [Rw_ag a2 (by omega), Rw_ag a1 (by omega), if_pos (by rw [m3.1]; omega)] at p3
        refine j_aload_n dX6_measure_86 rfl ?_
        refine j_getr dX6_measure_87 hB fl_X6_26 (by first | exact hK.1 | exact hA.1.1 | exact hA.2.1.1 | exact hA.2.2.1.1 | exact hA.2.2.2.1.1 | exact hr.1 | exact hs.1 | exact hr.2.1.1) (by rfl) ?_
        refine j_aload_n dX6_measure_90 rfl ?_
        refine j_geti dX6_measure_91 hB fl_X6_69 (by first | exact hK.1 | exact hA.1.1 | exact hA.2.1.1 | exact hA.2.2.1.1 | exact hA.2.2.2.1.1 | exact hr.1 | exact hs.1 | exact hr.2.1.1) (by rfl) ?_
        refine j_cVu dX6_measure_94 hB mo_X3_add ml_X6_66 (sp_X3_add hB (((h4.ag a1 (by omega)).ag a2 (by omega)).ag a3 (by omega))) (by first | exact hK.1 | exact hA.1.1 | exact hA.2.1.1 | exact hA.2.2.1.1 | exact hA.2.2.2.1.1 | exact hr.1 | exact hs.1 | exact hr.2.1.1) rfl rfl rfl rfl ⟨rfl, rfl, by decide, by decide⟩ (Nat.le_of_ble_eq_true rfl) ⟨by decide, by decide⟩ (fun V_94 h_94 => ?_)
        obtain ⟨g4, p4, a4⟩ := h_94
        rw [Rw_ag a3 (by omega), Rw_ag a2 (by omega), Rw_ag a1 (by omega), if_pos (by rw [m4.1]; omega), a3 q (by omega), a2 q (by omega), a1 q (by omega)] at p4
        have hq : V_94 q = V1 q := by rw [a4 q (by omega), a3 q (by omega), a2 q (by omega), a1 q (by omega)]
        refine j_aload_n dX6_measure_97 rfl ?_
        refine j_iload dX6_measure_98 rfl ?_
        refine j_puti dX6_measure_100 hB fp_X6_measure_47 (by first | exact hK.1 | exact hA.1.1 | exact hA.2.1.1 | exact hA.2.2.1.1 | exact hA.2.2.2.1.1 | exact hr.1 | exact hs.1 | exact hr.2.1.1) (by rfl) ?_
        refine j_aload_n dX6_measure_103 rfl ?_
        refine j_dup dX6_measure_104 rfl ?_
        refine j_geti dX6_measure_105 hB fl_X6_72 (by first | exact hK.1 | exact hA.1.1 | exact hA.2.1.1 | exact hA.2.2.1.1 | exact hA.2.2.2.1.1 | exact hr.1 | exact hs.1 | exact hr.2.1.1) (by rfl) ?_
        refine j_iload dX6_measure_108 rfl ?_
        refine j_iadd dX6_measure_110 ?_
        refine j_topi (fun x8 e8 => ?_)
        rw [jset_ne (Or.inr (by decide)), hq] at e8
        have t8 : x8.toInt = aSum (aLost r) (k + 1) := by rw [e8, ti_add (by omega) (by omega), f2, t6]; rfl
        refine j_puti dX6_measure_111 hB fp_X6_measure_72 (by first | exact hK.1 | exact hA.1.1 | exact hA.2.1.1 | exact hA.2.2.1.1 | exact hA.2.2.2.1.1 | exact hr.1 | exact hs.1 | exact hr.2.1.1) (by rfl) ?_
        refine j_aload_n dX6_measure_114 rfl ?_
        refine j_dup dX6_measure_115 rfl ?_
        refine j_geti dX6_measure_116 hB fl_X6_69 (by first | exact hK.1 | exact hA.1.1 | exact hA.2.1.1 | exact hA.2.2.1.1 | exact hA.2.2.2.1.1 | exact hr.1 | exact hs.1 | exact hr.2.1.1) (by rfl) ?_
        refine j_iload dX6_measure_119 rfl ?_
        refine j_iadd dX6_measure_121 ?_
        refine j_topi (fun x9 e9 => ?_)
        rw [jset_ne (Or.inr (by decide)), jset_ne (Or.inr (by decide)), hq] at e9
        have t9 : x9.toInt = aBeg r w.toInt (k + 1) := by rw [e9, ti_add (by omega) (by omega), f3, t7]; rfl
        refine j_puti dX6_measure_122 hB fp_X6_measure_69 (by first | exact hK.1 | exact hA.1.1 | exact hA.2.1.1 | exact hA.2.2.1.1 | exact hA.2.2.2.1.1 | exact hr.1 | exact hs.1 | exact hr.2.1.1) (by rfl) ?_
        refine j_aload_n dX6_measure_125 rfl ?_
        refine j_aload_n dX6_measure_126 rfl ?_
        refine j_aload_n dX6_measure_127 rfl ?_
        have u1 : jAg V_94 (jset V_94 q 7 b5) q (q + 1) := jAg.f1
        have u2 : jAg (jset V_94 q 7 b5) (jset (jset V_94 q 7 b5) q 8 x8) q (q + 1) := jAg.f1
        have u3 : jAg (jset (jset V_94 q 7 b5) q 8 x8) (jset (jset (jset V_94 q 7 b5) q 8 x8) q 9 x9) q (q + 1) := jAg.f1
        have hB2 : TmB T (jset (jset (jset V_94 q 7 b5) q 8 x8) q 9 x9) q s r w.toInt k := ((((((hBt.ag a1 (by omega)).ag a2 (by omega)).ag a3 (by omega)).ag a4 (by omega)).set (by decide)).set (by decide)).set (by decide)
        have hA2 : TmA T (jset (jset (jset V_94 q 7 b5) q 8 x8) q 9 x9) q r w.toInt (k + 1) := by
          refine ⟨(((((g1.ag a2 (by omega)).ag a3 (by omega)).ag a4 (by omega)).ag u1 (by omega)).ag u2 (by omega)).ag u3 (by omega), ((((g2.ag a3 (by omega)).ag a4 (by omega)).ag u1 (by omega)).ag u2 (by omega)).ag u3 (by omega), (((g3.ag a4 (by omega)).ag u1 (by omega)).ag u2 (by omega)).ag u3 (by omega), ((g4.ag u1 (by omega)).ag u2 (by omega)).ag u3 (by omega), ?_, ?_, ?_, ?_, ?_, ?_, ?_⟩
          · rw [Rw_ag u3 (by omega), Rw_ag u2 (by omega), Rw_ag u1 (by omega), Rw_ag a4 (by omega), Rw_ag a3 (by omega), Rw_ag a2 (by omega), p1]; exact LIs_app m1 f1
          · rw [Rw_ag u3 (by omega), Rw_ag u2 (by omega), Rw_ag u1 (by omega), Rw_ag a4 (by omega), Rw_ag a3 (by omega), p2]; exact LIs_app m2 t6
          · rw [Rw_ag u3 (by omega), Rw_ag u2 (by omega), Rw_ag u1 (by omega), Rw_ag a4 (by omega), p3]; exact LIs_app m3 t7
          · rw [Rw_ag u3 (by omega), Rw_ag u2 (by omega), Rw_ag u1 (by omega), p4]; exact LIs_app m4 f3
          · rw [jset_ne (Or.inr (by decide)), jset_ne (Or.inr (by decide)), jset_eq]; exact t5
          · rw [jset_ne (Or.inr (by decide)), jset_eq]; exact t8
          · rw [jset_eq]; exact t9
        have aAll : jAg V (jset (jset (jset V_94 q 7 b5) q 8 x8) q 9 x9) q (q + 15) := (((((((ha.tr (a1.wide (by omega) (by omega))).tr (a2.wide (by omega) (by omega))).tr (a3.wide (by omega) (by omega))).tr (a4.wide (by omega) (by omega))).tr (u1.wide (by omega) (by omega))).tr (u2.wide (by omega) (by omega))).tr (u3.wide (by omega) (by omega)))
        refine j_iload dX6_measure_128 rfl ?_
        refine j_cVu dX6_measure_130 hB mo_X6_measureCue ml_X6_75 (sp_X6_measureCue hB hK.1 hA2 hB2 (hs.ag aAll (by omega)) (hr.ag aAll (by omega)) hd1 hd2 hp hrl hw' hlw (by omega) hi) (by first | exact hK.1 | exact hA.1.1 | exact hA.2.1.1 | exact hA.2.2.1.1 | exact hA.2.2.2.1.1 | exact hr.1 | exact hs.1 | exact hr.2.1.1) rfl rfl rfl rfl ⟨rfl, rfl, by decide, by decide⟩ (Nat.le_of_ble_eq_true rfl) ⟨by decide, by decide⟩ (fun V_130 h_130 => ?_)
        obtain ⟨gA, gB, aC⟩ := h_130
        refine j_iinc (v := 1) (L' := [(0, _), (1, _), (2, _), (3, _), (4, _), (5, _), (6, _), (7, _)]) dX6_measure_133 rfl (by decide) (by decide) rfl ?_
        refine j_goto (tgt := 7) dX6_measure_136 (by decide) ?_
        refine ih (k + 1) _ V_130 _ rfl rfl rfl rfl rfl ?_ (by omega) gA gB (aAll.tr aC)
        rw [ti_add (by rw [ti_1]; omega) (by rw [ti_1]; omega), ti_1]; omega
  refine j_aload_n dX6_measure_0 rfl ?_
  refine j_cVu dX6_measure_1 hB mo_X6_clear ml_X6_38 (sp_X6_clear (s := s) (r := r) (w := w.toInt) hB hK) (by first | exact hK.1 | exact hA.1.1 | exact hA.2.1.1 | exact hA.2.2.1.1 | exact hA.2.2.2.1.1 | exact hr.1 | exact hs.1 | exact hr.2.1.1) rfl rfl rfl rfl ⟨rfl, rfl, by decide, by decide⟩ (Nat.le_of_ble_eq_true rfl) ⟨by decide, by decide⟩ (fun V_1 h_1 => ?_)
  obtain ⟨gA, gB, aC⟩ := h_1
  refine j_iconst (v := 0) dX6_measure_4 (by decide) ?_
  refine j_istore (L' := [(0, _), (1, _), (2, _), (3, _), (4, _)]) dX6_measure_5 (by decide) rfl ?_
  exact loop r.1.length 0 0 V_1 _ rfl rfl rfl rfl rfl rfl (by omega) gA gB aC
set_option maxRecDepth 100000 in
set_option maxHeartbeats 4000000 in
theorem sp_X6_roomForCue (hB : jB l s0 D) {q n : Nat} {s : aS} {r : aR} {w : Int} {i : Int32} (h : TmIs T V q s r w) (hp : pcW s) (hrl : rlW s r) (hw : w = 0 ∨ 10 ≤ w) (hn : n < r.1.length) (hi : i.toInt = n) : Sp l s0 D kX6_roomForCue (jR 1 0 0) 0 0 [.ref q, .int i] T V X sz (qI T X sz (fun x V' => V = V' ∧ x.toInt = aRoom s r w n)) := by
  refine Sp.of pn_X6_roomForCue rfl (Nat.le_of_ble_eq_true rfl) ?_
  obtain ⟨h0, hA, hBt⟩ := id h
  have h4 := hrl.2.2.2.1
  have i1 := aMus_rng hp hrl hw n (by omega)
  have i2 := aBeg_rng hrl hw n (by omega)
  have i3 := aTime_rng hrl hw hn
  have hcb : aCb s r w n = max (aBeg r w n) (aMus s r w n) := rfl
  refine j_aload_n dX6_roomForCue_0 rfl ?_
  refine j_getr dX6_roomForCue_1 hB fl_X6_26 (by first | exact h.1 | exact hA.1.1 | exact hA.2.1.1 | exact hA.2.2.1.1 | exact hA.2.2.2.1.1 | exact h.2.2.1.1 | exact h.2.2.2.1.1 | exact h.2.2.2.2.1.1 | exact hr.1) (by rfl) ?_
  refine j_iload_n dX6_roomForCue_4 rfl ?_
  refine j_cVi dX6_roomForCue_5 hB mo_X3_at ml_X6_54 (sp_X3_at hB hA.2.2.2.1) (by first | exact h.1 | exact hA.1.1 | exact hA.2.1.1 | exact hA.2.2.1.1 | exact hA.2.2.2.1.1 | exact h.2.2.1.1 | exact h.2.2.2.1.1 | exact h.2.2.2.2.1.1 | exact hr.1) rfl rfl rfl rfl ⟨rfl, rfl, by decide, by decide⟩ (Nat.le_of_ble_eq_true rfl) ⟨by decide, by decide⟩ (fun r_5 V_5 h_5 => ?_)
  obtain ⟨rfl, y1⟩ := h_5
  rw [hi] at y1
  have t1 := congrArg Int32.toInt y1
  rw [hA.2.2.2.2.2.2.2.1.at hn] at t1
  refine j_aload_n dX6_roomForCue_8 rfl ?_
  refine j_getr dX6_roomForCue_9 hB fl_X6_23 (by first | exact h.1 | exact hA.1.1 | exact hA.2.1.1 | exact hA.2.2.1.1 | exact hA.2.2.2.1.1 | exact h.2.2.1.1 | exact h.2.2.2.1.1 | exact h.2.2.2.2.1.1 | exact hr.1) (by rfl) ?_
  refine j_iload_n dX6_roomForCue_12 rfl ?_
  refine j_cVi dX6_roomForCue_13 hB mo_X3_at ml_X6_54 (sp_X3_at hB hA.2.2.1) (by first | exact h.1 | exact hA.1.1 | exact hA.2.1.1 | exact hA.2.2.1.1 | exact hA.2.2.2.1.1 | exact h.2.2.1.1 | exact h.2.2.2.1.1 | exact h.2.2.2.2.1.1 | exact hr.1) rfl rfl rfl rfl ⟨rfl, rfl, by decide, by decide⟩ (Nat.le_of_ble_eq_true rfl) ⟨by decide, by decide⟩ (fun r_13 V_13 h_13 => ?_)
  obtain ⟨rfl, y2⟩ := h_13
  rw [hi] at y2
  have t2 := congrArg Int32.toInt y2
  rw [hA.2.2.2.2.2.2.1.at hn] at t2
  refine j_iadd dX6_roomForCue_16 ?_
  refine j_aload_n dX6_roomForCue_17 rfl ?_
  refine j_getr dX6_roomForCue_18 hB fl_X6_29 (by first | exact h.1 | exact hA.1.1 | exact hA.2.1.1 | exact hA.2.2.1.1 | exact hA.2.2.2.1.1 | exact h.2.2.1.1 | exact h.2.2.2.1.1 | exact h.2.2.2.2.1.1 | exact hr.1) (by rfl) ?_
  refine j_iload_n dX6_roomForCue_21 rfl ?_
  refine j_cVi dX6_roomForCue_22 hB mo_X3_at ml_X6_54 (sp_X3_at hB hBt.1) (by first | exact h.1 | exact hA.1.1 | exact hA.2.1.1 | exact hA.2.2.1.1 | exact hA.2.2.2.1.1 | exact h.2.2.1.1 | exact h.2.2.2.1.1 | exact h.2.2.2.2.1.1 | exact hr.1) rfl rfl rfl rfl ⟨rfl, rfl, by decide, by decide⟩ (Nat.le_of_ble_eq_true rfl) ⟨by decide, by decide⟩ (fun r_22 V_22 h_22 => ?_)
  obtain ⟨rfl, y3⟩ := h_22
  rw [hi] at y3
  have t3 := congrArg Int32.toInt y3
  rw [hBt.2.2.2.1.at hn] at t3
  have t4 : (r_5 + r_13).toInt = aBeg r w n + aTime r w n := by rw [ti_add (by omega) (by omega), t1, t2]
  refine j_isub dX6_roomForCue_25 ?_
  refine j_iret dX6_roomForCue_26 rfl (rfl) (by decide) (by decide) ?_
  exact ⟨_, rfl, rfl, rfl, rfl, rfl, by rw [ti_sub (by omega) (by omega), t4, t3]; rfl⟩
set_option maxRecDepth 100000 in
set_option maxHeartbeats 4000000 in
theorem sp_X6_silence (hB : jB l s0 D) {q qr : Nat} {s : aS} {r : aR} {w : Int} (h : TmIs T V q s r w) (hr : ReelOK T V qr r) (hp : pcW s) (hrl : rlW s r) (hw : w = 0 ∨ 10 ≤ w) : Sp l s0 D kX6_silence (jR 2 0 0) 0 0 [.ref q, .ref qr] T V X sz (qI T X sz (fun x V' => V = V' ∧ x.toInt = aSil s r w)) := by
  refine Sp.of pn_X6_silence rfl (Nat.le_of_ble_eq_true rfl) ?_
  obtain ⟨h0, hA, hBt⟩ := id h
  have hn10 := hrl.2.2.2.1
  have t9 := hA.2.2.2.2.2.2.2.2.2.2
  have rE := aBeg_rng hrl hw r.1.length (by omega)
  have rS := fun k hk => aSum_rng (f := aMu s r w) (B := 300000) (n := r.1.length) (fun k hk => aMu_rng hp hrl hw hk) k hk
  have rE' := rS r.1.length (by omega)
  have loop : ∀ (n k : Nat) (i y : Int32) (L : List (Nat × Value)), L.lookup 0 = some (.ref q) → L.lookup 1 = some (.ref qr) → L.lookup 2 = some (.int y) → L.lookup 3 = some (.int i) → i.toInt = k → k + n = r.1.length → y.toInt = aSum (aMu s r w) k → J l s0 D kX6_silence (jR 2 0 0) 0 0 (qI T X sz (fun x V' => V = V' ∧ x.toInt = aSil s r w)) 4 L [] T V X sz 0 0 := by
    intro n
    induction n with
    | zero =>
      intro k i y L l0 l1 l2 l3 hi hk hy
      refine j_sub2 (L' := [(0, .ref q), (1, .ref qr), (2, .int y), (3, .int i)]) (List.forall_mem_cons.mpr ⟨l0, List.forall_mem_cons.mpr ⟨l1, List.forall_mem_cons.mpr ⟨l2, List.forall_mem_cons.mpr ⟨l3, fun _ h9 => nomatch h9⟩⟩⟩⟩) ?_
      refine j_iload_n dX6_silence_4 rfl ?_
      refine j_aload_n dX6_silence_5 rfl ?_
      refine j_cVi dX6_silence_6 hB mo_X2_scenes ml_X6_41 (sp_X2_scenes hB hr) (by first | exact h.1 | exact hA.1.1 | exact hA.2.1.1 | exact hA.2.2.1.1 | exact hA.2.2.2.1.1 | exact h.2.2.1.1 | exact h.2.2.2.1.1 | exact h.2.2.2.2.1.1 | exact hr.1) rfl rfl rfl rfl ⟨rfl, rfl, by decide, by decide⟩ (Nat.le_of_ble_eq_true rfl) ⟨by decide, by decide⟩ (fun r_6 V_6 h_6 => ?_)
      obtain ⟨rfl, hn⟩ := h_6
      refine j_icmp_ge (tgt := 57) dX6_silence_9 (by decide) (fun c_9 => ?_) (fun c_9 => ?_)
      · refine j_aload_n dX6_silence_57 rfl ?_
        refine j_geti dX6_silence_58 hB fl_X6_69 (by first | exact h.1 | exact hA.1.1 | exact hA.2.1.1 | exact hA.2.2.1.1 | exact hA.2.2.2.1.1 | exact h.2.2.1.1 | exact h.2.2.2.1.1 | exact h.2.2.2.2.1.1 | exact hr.1) (by rfl) ?_
        refine j_iload_n dX6_silence_61 rfl ?_
        refine j_isub dX6_silence_62 ?_
        refine j_iret dX6_silence_63 rfl (rfl) (by decide) (by decide) ?_
        exact ⟨_, rfl, rfl, rfl, rfl, rfl, by rw [show k = r.1.length by omega] at hy; rw [ti_sub (by omega) (by omega), t9, hy]; rfl⟩
      · exact absurd c_9 (by omega)
    | succ n ih =>
      intro k i y L l0 l1 l2 l3 hi hk hy
      have hlt : k < r.1.length := by omega
      have i0 := rS k (by omega)
      have i0' := aMu_rng hp hrl hw hlt
      have i1 := aMus_rng hp hrl hw k (by omega)
      have i1' := aMus_rng hp hrl hw (k + 1) (by omega)
      have i2 := aBeg_rng hrl hw k (by omega)
      have hcb : aCb s r w k = max (aBeg r w k) (aMus s r w k) := rfl
      have hsm : aSum (aMu s r w) (k + 1) = aSum (aMu s r w) k + aMu s r w k := rfl
      refine j_sub2 (L' := [(0, .ref q), (1, .ref qr), (2, .int y), (3, .int i)]) (List.forall_mem_cons.mpr ⟨l0, List.forall_mem_cons.mpr ⟨l1, List.forall_mem_cons.mpr ⟨l2, List.forall_mem_cons.mpr ⟨l3, fun _ h9 => nomatch h9⟩⟩⟩⟩) ?_
      refine j_iload_n dX6_silence_4 rfl ?_
      refine j_aload_n dX6_silence_5 rfl ?_
      refine j_cVi dX6_silence_6 hB mo_X2_scenes ml_X6_41 (sp_X2_scenes hB hr) (by first | exact h.1 | exact hA.1.1 | exact hA.2.1.1 | exact hA.2.2.1.1 | exact hA.2.2.2.1.1 | exact h.2.2.1.1 | exact h.2.2.2.1.1 | exact h.2.2.2.2.1.1 | exact hr.1) rfl rfl rfl rfl ⟨rfl, rfl, by decide, by decide⟩ (Nat.le_of_ble_eq_true rfl) ⟨by decide, by decide⟩ (fun r_6 V_6 h_6 => ?_)
      obtain ⟨rfl, hn⟩ := h_6
      refine j_icmp_ge (tgt := 57) dX6_silence_9 (by decide) (fun c_9 => ?_) (fun c_9 => ?_)
      · exact absurd c_9 (by omega)
      · refine j_aload_n dX6_silence_12 rfl ?_
        refine j_iload_n dX6_silence_13 rfl ?_
        refine j_cVi dX6_silence_14 hB mo_X2_hasCue ml_X6_97 (sp_X2_hasCue hB hr) (by first | exact h.1 | exact hA.1.1 | exact hA.2.1.1 | exact hA.2.2.1.1 | exact hA.2.2.2.1.1 | exact h.2.2.1.1 | exact h.2.2.2.1.1 | exact h.2.2.2.2.1.1 | exact hr.1) rfl rfl rfl rfl ⟨rfl, rfl, by decide, by decide⟩ (Nat.le_of_ble_eq_true rfl) ⟨by decide, by decide⟩ (fun r_14 V_14 h_14 => ?_)
        obtain ⟨rfl, hc⟩ := h_14
        rw [hi] at hc
        refine j_if_eq (tgt := 51) dX6_silence_17 (by decide) (fun c_17 => ?_) (fun c_17 => ?_)
        · have hcue : ¬ isCue r k := by rcases hc with ⟨z, z2⟩ | ⟨z, z2⟩; (rw [z] at c_17; exact absurd c_17 (by decide)); exact fun y => y z2
          have hmu : aMu s r w k = 0 := cueI_f hcue
          refine j_iinc (v := 1) (L' := [(0, _), (1, _), (2, _), (3, _)]) dX6_silence_51 rfl (by decide) (by decide) rfl ?_
          refine j_goto (tgt := 4) dX6_silence_54 (by decide) ?_
          refine ih (k + 1) _ _ _ rfl rfl rfl rfl ?_ (by omega) ?_
          · rw [ti_add (by rw [ti_1]; omega) (by rw [ti_1]; omega), ti_1]; omega
          · rw [hsm, hmu, hy]; omega
        · have hcue : isCue r k := by rcases hc with ⟨z, z2⟩ | ⟨z, z2⟩; (exact z2); exact absurd z c_17
          have hmu : aMu s r w k = max 0 (min (aMus s r w (k + 1)) (aBeg r w r.1.length) - aCb s r w k) := by unfold aMu; rw [cueI_t hcue, show aEnd s r w k = aMus s r w (k + 1) from cueI_t hcue]
          refine j_iload_n dX6_silence_20 rfl ?_
          refine j_iconst (v := 0) dX6_silence_21 (by decide) ?_
          refine j_aload_n dX6_silence_22 rfl ?_
          refine j_getr dX6_silence_23 hB fl_X6_32 (by first | exact h.1 | exact hA.1.1 | exact hA.2.1.1 | exact hA.2.2.1.1 | exact hA.2.2.2.1.1 | exact h.2.2.1.1 | exact h.2.2.2.1.1 | exact h.2.2.2.2.1.1 | exact hr.1) (by rfl) ?_
          refine j_iload_n dX6_silence_26 rfl ?_
          refine j_cVi dX6_silence_27 hB mo_X3_at ml_X6_54 (sp_X3_at hB hBt.2.1) (by first | exact h.1 | exact hA.1.1 | exact hA.2.1.1 | exact hA.2.2.1.1 | exact hA.2.2.2.1.1 | exact h.2.2.1.1 | exact h.2.2.2.1.1 | exact h.2.2.2.2.1.1 | exact hr.1) rfl rfl rfl rfl ⟨rfl, rfl, by decide, by decide⟩ (Nat.le_of_ble_eq_true rfl) ⟨by decide, by decide⟩ (fun r_27 V_27 h_27 => ?_)
          obtain ⟨rfl, y2⟩ := h_27
          rw [hi] at y2
          have t2 := congrArg Int32.toInt y2
          rw [hBt.2.2.2.2.1.at hlt, show aEnd s r w k = aMus s r w (k + 1) from cueI_t hcue] at t2
          refine j_aload_n dX6_silence_30 rfl ?_
          refine j_geti dX6_silence_31 hB fl_X6_69 (by first | exact h.1 | exact hA.1.1 | exact hA.2.1.1 | exact hA.2.2.1.1 | exact hA.2.2.2.1.1 | exact h.2.2.1.1 | exact h.2.2.2.1.1 | exact h.2.2.2.2.1.1 | exact hr.1) (by rfl) ?_
          refine j_mmin dX6_silence_34 hB ml_X6_121 (by decide) (Nat.le_of_ble_eq_true rfl) (by decide) (by decide) ?_
          refine j_topi (fun xm em => ?_)
          have tm := congrArg Int32.toInt em
          rw [ti_min, t2, t9] at tm
          refine j_aload_n dX6_silence_37 rfl ?_
          refine j_getr dX6_silence_38 hB fl_X6_29 (by first | exact h.1 | exact hA.1.1 | exact hA.2.1.1 | exact hA.2.2.1.1 | exact hA.2.2.2.1.1 | exact h.2.2.1.1 | exact h.2.2.2.1.1 | exact h.2.2.2.2.1.1 | exact hr.1) (by rfl) ?_
          refine j_iload_n dX6_silence_41 rfl ?_
          refine j_cVi dX6_silence_42 hB mo_X3_at ml_X6_54 (sp_X3_at hB hBt.1) (by first | exact h.1 | exact hA.1.1 | exact hA.2.1.1 | exact hA.2.2.1.1 | exact hA.2.2.2.1.1 | exact h.2.2.1.1 | exact h.2.2.2.1.1 | exact h.2.2.2.2.1.1 | exact hr.1) rfl rfl rfl rfl ⟨rfl, rfl, by decide, by decide⟩ (Nat.le_of_ble_eq_true rfl) ⟨by decide, by decide⟩ (fun r_42 V_42 h_42 => ?_)
          obtain ⟨rfl, y3⟩ := h_42
          rw [hi] at y3
          have t3 := congrArg Int32.toInt y3
          rw [hBt.2.2.2.1.at hlt] at t3
          refine j_isub dX6_silence_45 ?_
          refine j_mmax dX6_silence_46 hB ml_X6_92 (by decide) (Nat.le_of_ble_eq_true rfl) (by decide) (by decide) ?_
          refine j_iadd dX6_silence_49 ?_
          refine j_topi (fun b2 e2 => ?_)
          have ts : (xm - r_42).toInt = min (aMus s r w (k + 1)) (aBeg r w r.1.length) - aCb s r w k := by rw [ti_sub (by omega) (by omega), tm, t3]
          have hz : (0 : Int32).toInt = 0 := rfl
          have tq := congrArg Int32.toInt e2
          rw [ti_add (by rw [ti_max, hz, ts]; omega) (by rw [ti_max, hz, ts]; omega), ti_max, hz, ts, ← hmu, hy, ← hsm] at tq
          refine j_istore_n (L' := [(0, _), (1, _), (2, _), (3, _)]) dX6_silence_50 (by decide) rfl ?_
          refine j_iinc (v := 1) (L' := [(0, _), (1, _), (2, _), (3, _)]) dX6_silence_51 rfl (by decide) (by decide) rfl ?_
          refine j_goto (tgt := 4) dX6_silence_54 (by decide) ?_
          refine ih (k + 1) _ _ _ rfl rfl rfl rfl ?_ (by omega) ?_
          · rw [ti_add (by rw [ti_1]; omega) (by rw [ti_1]; omega), ti_1]; omega
          · exact tq
  refine j_iconst (v := 0) dX6_silence_0 (by decide) ?_
  refine j_istore_n (L' := [(0, _), (1, _), (2, _)]) dX6_silence_1 (by decide) rfl ?_
  refine j_iconst (v := 0) dX6_silence_2 (by decide) ?_
  refine j_istore_n (L' := [(0, _), (1, _), (2, _), (3, _)]) dX6_silence_3 (by decide) rfl ?_
  exact loop r.1.length 0 0 0 _ rfl rfl rfl rfl rfl (by omega) rfl
end JTiming3
end
section
/-! CueSheets$SheetReader: what has been read of a sheet (lengths, pieces, strains, paces, place), a character on -/
abbrev tR : Type := List Int32 × List Int32 × List Int32 × List Int32 × Int32
def rN (t : tR) : Int := (t.1.length : Int) - 1
def rComp (t : tR) : Prop := (t.2.2.2.2 = 0 ∧ 0 < (atZ t.1 (rN t)).toInt) ∨ t.2.2.2.2 = 4 ∨ (t.2.2.2.2 = 5 ∧ 80 ≤ (atZ t.2.2.2.1 (rN t)).toInt)
def rNew (t : tR) : tR := (t.1 ++ [0], t.2.1 ++ [-2000001], t.2.2.1 ++ [0], t.2.2.2.1 ++ [0], 0)
def rGo (t : tR) (p : Int32) : tR := (t.1, t.2.1, t.2.2.1, t.2.2.2.1, p)
def rDig (t : tR) (d : Int32) (t' : tR) : Prop :=
  (t.2.2.2.2 = 0 ∧ 10 * (atZ t.1 (rN t)).toInt + d.toInt ≠ 0 ∧ 10 * (atZ t.1 (rN t)).toInt + d.toInt ≤ 900 ∧ t' = (setZ t.1 (rN t) (10 * atZ t.1 (rN t) + d), t.2.1, t.2.2.1, t.2.2.2.1, 0)) ∨
  (t.2.2.2.2 = 1 ∧ d.toInt < 8 ∧ t' = (t.1, setZ t.2.1 (rN t) d, t.2.2.1, t.2.2.2.1, 2)) ∨
  (t.2.2.2.2 = 3 ∧ 1 ≤ d.toInt ∧ t' = (t.1, t.2.1, setZ t.2.2.1 (rN t) d, setZ t.2.2.2.1 (rN t) 100, 4)) ∨
  (t.2.2.2.2 = 5 ∧ (let n := 10 * (atZ t.2.2.2.1 (rN t)).toInt + d.toInt; n = 1 ∨ (8 ≤ n ∧ n ≤ 12) ∨ (80 ≤ n ∧ n ≤ 120)) ∧ t' = (t.1, t.2.1, t.2.2.1, setZ t.2.2.2.1 (rN t) (10 * atZ t.2.2.2.1 (rN t) + d), 5))
/-- c is read behind t, which gives t' -/
def rRd (t : tR) (c : Int32) (t' : tR) : Prop :=
  (c.toInt = 44 ∧ rComp t ∧ t' = rNew t) ∨
  (c.toInt = 58 ∧ t.2.2.2.2 = 0 ∧ rComp t ∧ t' = rGo t 1) ∨
  (c.toInt = 120 ∧ t.2.2.2.2 = 2 ∧ t' = rGo t 3) ∨
  (c.toInt = 64 ∧ t.2.2.2.2 = 4 ∧ t' = (t.1, t.2.1, t.2.2.1, setZ t.2.2.2.1 (rN t) 0, 5)) ∨
  (48 ≤ c.toInt ∧ c.toInt ≤ 57 ∧ rDig t (c - 48) t')
def rdK (T : jT) (V : jV) (q : Nat) : Prop := T q = some (kReader (q + 1) (q + 3) (q + 5) (q + 7)) ∧ RowOK T V (q + 1) 60 ∧ RowOK T V (q + 3) 60 ∧ RowOK T V (q + 5) 60 ∧ RowOK T V (q + 7) 60
def rdOK (T : jT) (V : jV) (q : Nat) (t : tR) : Prop := T q = some (kReader (q + 1) (q + 3) (q + 5) (q + 7)) ∧ RowOK T V (q + 1) 60 ∧ RowOK T V (q + 3) 60 ∧ RowOK T V (q + 5) 60 ∧ RowOK T V (q + 7) 60 ∧ Rw V (q + 1) = t.1 ∧ Rw V (q + 3) = t.2.1 ∧ Rw V (q + 5) = t.2.2.1 ∧ Rw V (q + 7) = t.2.2.2.1 ∧ V q 4 = t.2.2.2.2
theorem rdOK.k {T : jT} {V : jV} {q : Nat} {t : tR} (h : rdOK T V q t) : rdK T V q := ⟨h.1, h.2.1, h.2.2.1, h.2.2.2.1, h.2.2.2.2.1⟩
theorem rdK.ag {T : jT} {V V' : jV} {q lo hi : Nat} (h : rdK T V q) (ha : jAg V V' lo hi) (hd : q + 9 ≤ lo ∨ hi ≤ q) : rdK T V' q := ⟨h.1, h.2.1.ag ha (by omega), h.2.2.1.ag ha (by omega), h.2.2.2.1.ag ha (by omega), h.2.2.2.2.ag ha (by omega)⟩
theorem rdOK.ag {T : jT} {V V' : jV} {q lo hi : Nat} {t : tR} (h : rdOK T V q t) (ha : jAg V V' lo hi) (hd : q + 9 ≤ lo ∨ hi ≤ q) : rdOK T V' q t := by
  obtain ⟨h0, h1, h2, h3, h4, e1, e2, e3, e4, e5⟩ := h
  exact ⟨h0, h1.ag ha (by omega), h2.ag ha (by omega), h3.ag ha (by omega), h4.ag ha (by omega), by rw [Rw_ag ha (by omega)]; exact e1, by rw [Rw_ag ha (by omega)]; exact e2, by rw [Rw_ag ha (by omega)]; exact e3, by rw [Rw_ag ha (by omega)]; exact e4, by rw [ha q (by omega)]; exact e5⟩
/-- the place alone is set -/
theorem rdOK.go {T : jT} {V : jV} {q : Nat} {t : tR} {p : Int32} (h : rdOK T V q t) : rdOK T (jset V q 4 p) q (rGo t p) := by
  have ha : jAg V (jset V q 4 p) q (q + 1) := jAg.f1
  obtain ⟨h0, h1, h2, h3, h4, e1, e2, e3, e4, e5⟩ := h
  exact ⟨h0, h1.ag ha (by omega), h2.ag ha (by omega), h3.ag ha (by omega), h4.ag ha (by omega), by rw [Rw_ag ha (by omega)]; exact e1, by rw [Rw_ag ha (by omega)]; exact e2, by rw [Rw_ag ha (by omega)]; exact e3, by rw [Rw_ag ha (by omega)]; exact e4, jset_eq⟩
section JReader
variable {l : Launch} {s0 : State} {D : jD} {T : jT} {V : jV} {X : jX} {sz : Nat}
set_option maxRecDepth 100000 in
set_option maxHeartbeats 4000000 in
theorem sp_X4_scenes (hB : jB l s0 D) {q : Nat} {t : tR} (h : rdOK T V q t) : Sp l s0 D kX4_scenes (jR 1 0 0) 0 0 [.ref q] T V X sz (qI T X sz (fun r V' => V = V' ∧ r.toInt = t.1.length)) := by
  refine Sp.of pn_X4_scenes rfl (Nat.le_of_ble_eq_true rfl) ?_
  refine j_aload_n dX4_scenes_0 rfl ?_
  refine j_getr dX4_scenes_1 hB fl_X4_14 (by first | exact h.1 | exact h.2.1.1 | exact h.2.2.1.1 | exact h.2.2.2.1.1 | exact h.2.2.2.2.1.1) (by rfl) ?_
  refine j_cVi dX4_scenes_4 hB mo_X3_size ml_X4_29 (sp_X3_size hB h.2.1) (by first | exact h.1 | exact h.2.1.1 | exact h.2.2.1.1 | exact h.2.2.2.1.1 | exact h.2.2.2.2.1.1) rfl rfl rfl rfl ⟨rfl, rfl, by decide, by decide⟩ (Nat.le_of_ble_eq_true rfl) ⟨by decide, by decide⟩ (fun r_4 V_4 h_4 => ?_)
  obtain ⟨rfl, hn⟩ := h_4
  rw [h.2.2.2.2.2.1] at hn
  refine j_iret dX4_scenes_7 rfl (rfl) (by decide) (by decide) ?_
  exact ⟨_, rfl, rfl, rfl, rfl, rfl, hn⟩
set_option maxRecDepth 100000 in
set_option maxHeartbeats 4000000 in
theorem sp_X4_latest (hB : jB l s0 D) {q : Nat} {t : tR} (h : rdOK T V q t) : Sp l s0 D kX4_latest (jR 1 0 0) 0 0 [.ref q] T V X sz (qI T X sz (fun r V' => V = V' ∧ r.toInt = rN t)) := by
  refine Sp.of pn_X4_latest rfl (Nat.le_of_ble_eq_true rfl) ?_
  have h60 := h.2.1.le
  refine j_aload_n dX4_latest_0 rfl ?_
  refine j_getr dX4_latest_1 hB fl_X4_14 (by first | exact h.1 | exact h.2.1.1 | exact h.2.2.1.1 | exact h.2.2.2.1.1 | exact h.2.2.2.2.1.1) (by rfl) ?_
  refine j_cVi dX4_latest_4 hB mo_X3_size ml_X4_29 (sp_X3_size hB h.2.1) (by first | exact h.1 | exact h.2.1.1 | exact h.2.2.1.1 | exact h.2.2.2.1.1 | exact h.2.2.2.2.1.1) rfl rfl rfl rfl ⟨rfl, rfl, by decide, by decide⟩ (Nat.le_of_ble_eq_true rfl) ⟨by decide, by decide⟩ (fun r_4 V_4 h_4 => ?_)
  obtain ⟨rfl, hn⟩ := h_4
  have hn2 := hn
  rw [h.2.2.2.2.2.1] at hn
  refine j_iconst (v := 1) dX4_latest_7 (by decide) ?_
  refine j_isub dX4_latest_8 ?_
  refine j_iret dX4_latest_9 rfl (rfl) (by decide) (by decide) ?_
  exact ⟨_, rfl, rfl, rfl, rfl, rfl, by rw [ti_sub (by rw [ti_1]; omega) (by rw [ti_1]; omega), ti_1, hn]; rfl⟩
set_option maxRecDepth 100000 in
set_option maxHeartbeats 4000000 in
theorem sp_X4_isComplete (hB : jB l s0 D) {q : Nat} {t : tR} (h : rdOK T V q t) : Sp l s0 D kX4_isComplete (jR 2 0 0) 0 0 [.ref q] T V X sz (qI T X sz (fun r V' => V = V' ∧ (r = 1 ∧ rComp t ∨ r = 0 ∧ ¬ rComp t))) := by
  refine Sp.of pn_X4_isComplete rfl (Nat.le_of_ble_eq_true rfl) ?_
  have hp := h.2.2.2.2.2.2.2.2.2
  have h80 : (80 : Int32).toInt = 80 := by decide
  have tz : ∀ {x : Int32} {k : Int32}, x.toInt = k.toInt → x = k := fun e => Int32.toInt_inj.mp e
  refine j_aload_n dX4_isComplete_0 rfl ?_
  refine j_geti dX4_isComplete_1 hB fl_X4_43 (by first | exact h.1 | exact h.2.1.1 | exact h.2.2.1.1 | exact h.2.2.2.1.1 | exact h.2.2.2.2.1.1) (by rfl) ?_
  refine j_lsw_3 (td := 84) (t0 := 40) (t1 := 60) (t2 := 62) dX4_isComplete_4 (by decide) (by decide) (fun s_4 => ?_) (fun s_4 => ?_) (fun s_4 => ?_) (fun s_4_0 s_4_1 s_4_2 => ?_)
  · have e0 : t.2.2.2.2 = 0 := by rw [← hp]; exact tz s_4
    refine j_aload_n dX4_isComplete_40 rfl ?_
    refine j_getr dX4_isComplete_41 hB fl_X4_14 (by first | exact h.1 | exact h.2.1.1 | exact h.2.2.1.1 | exact h.2.2.2.1.1 | exact h.2.2.2.2.1.1) (by rfl) ?_
    refine j_aload_n dX4_isComplete_44 rfl ?_
    refine j_cVi dX4_isComplete_45 hB mo_X4_latest ml_X4_47 (sp_X4_latest hB h) (by first | exact h.1 | exact h.2.1.1 | exact h.2.2.1.1 | exact h.2.2.2.1.1 | exact h.2.2.2.2.1.1) rfl rfl rfl rfl ⟨rfl, rfl, by decide, by decide⟩ (Nat.le_of_ble_eq_true rfl) ⟨by decide, by decide⟩ (fun r_45 V_45 h_45 => ?_)
    obtain ⟨rfl, hi_45⟩ := h_45
    refine j_cVi dX4_isComplete_48 hB mo_X3_at ml_X4_50 (sp_X3_at hB h.2.1) (by first | exact h.1 | exact h.2.1.1 | exact h.2.2.1.1 | exact h.2.2.2.1.1 | exact h.2.2.2.2.1.1) rfl rfl rfl rfl ⟨rfl, rfl, by decide, by decide⟩ (Nat.le_of_ble_eq_true rfl) ⟨by decide, by decide⟩ (fun r_48 V_48 h_48 => ?_)
    obtain ⟨rfl, y1⟩ := h_48
    rw [hi_45, h.2.2.2.2.2.1] at y1
    refine j_if_le (tgt := 58) dX4_isComplete_51 (by decide) (fun c_51 => ?_) (fun c_51 => ?_)
    · refine j_iconst (v := 0) dX4_isComplete_58 (by decide) ?_
      refine j_iret dX4_isComplete_59 rfl (rfl) (by decide) (by decide) ?_
      refine ⟨_, rfl, rfl, rfl, rfl, rfl, Or.inr ⟨rfl, fun hc => ?_⟩⟩
      rcases hc with ⟨_, z⟩ | z | ⟨z, _⟩
      · rw [← y1] at z; omega
      · rw [e0] at z; exact absurd z (by decide)
      · rw [e0] at z; exact absurd z (by decide)
    · refine j_iconst (v := 1) dX4_isComplete_54 (by decide) ?_
      refine j_goto (tgt := 59) dX4_isComplete_55 (by decide) ?_
      refine j_iret dX4_isComplete_59 rfl (rfl) (by decide) (by decide) ?_
      exact ⟨_, rfl, rfl, rfl, rfl, rfl, Or.inl ⟨rfl, Or.inl ⟨e0, by rw [← y1]; exact c_51⟩⟩⟩
  · have e0 : t.2.2.2.2 = 4 := by rw [← hp]; exact tz s_4
    refine j_iconst (v := 1) dX4_isComplete_60 (by decide) ?_
    refine j_iret dX4_isComplete_61 rfl (rfl) (by decide) (by decide) ?_
    exact ⟨_, rfl, rfl, rfl, rfl, rfl, Or.inl ⟨rfl, Or.inr (Or.inl e0)⟩⟩
  · have e0 : t.2.2.2.2 = 5 := by rw [← hp]; exact tz s_4
    refine j_aload_n dX4_isComplete_62 rfl ?_
    refine j_getr dX4_isComplete_63 hB fl_X4_26 (by first | exact h.1 | exact h.2.1.1 | exact h.2.2.1.1 | exact h.2.2.2.1.1 | exact h.2.2.2.2.1.1) (by rfl) ?_
    refine j_aload_n dX4_isComplete_66 rfl ?_
    refine j_cVi dX4_isComplete_67 hB mo_X4_latest ml_X4_47 (sp_X4_latest hB h) (by first | exact h.1 | exact h.2.1.1 | exact h.2.2.1.1 | exact h.2.2.2.1.1 | exact h.2.2.2.2.1.1) rfl rfl rfl rfl ⟨rfl, rfl, by decide, by decide⟩ (Nat.le_of_ble_eq_true rfl) ⟨by decide, by decide⟩ (fun r_67 V_67 h_67 => ?_)
    obtain ⟨rfl, hi_67⟩ := h_67
    refine j_cVi dX4_isComplete_70 hB mo_X3_at ml_X4_50 (sp_X3_at hB h.2.2.2.2.1) (by first | exact h.1 | exact h.2.1.1 | exact h.2.2.1.1 | exact h.2.2.2.1.1 | exact h.2.2.2.2.1.1) rfl rfl rfl rfl ⟨rfl, rfl, by decide, by decide⟩ (Nat.le_of_ble_eq_true rfl) ⟨by decide, by decide⟩ (fun r_70 V_70 h_70 => ?_)
    obtain ⟨rfl, y1⟩ := h_70
    rw [hi_67, h.2.2.2.2.2.2.2.2.1] at y1
    refine j_bipush (v := 80) dX4_isComplete_73 (by decide) ?_
    refine j_icmp_lt (tgt := 82) dX4_isComplete_75 (by decide) (fun c_75 => ?_) (fun c_75 => ?_)
    · refine j_iconst (v := 0) dX4_isComplete_82 (by decide) ?_
      refine j_iret dX4_isComplete_83 rfl (rfl) (by decide) (by decide) ?_
      refine ⟨_, rfl, rfl, rfl, rfl, rfl, Or.inr ⟨rfl, fun hc => ?_⟩⟩
      rcases hc with ⟨z, _⟩ | z | ⟨_, z⟩
      · rw [e0] at z; exact absurd z (by decide)
      · rw [e0] at z; exact absurd z (by decide)
      · rw [← y1] at z; omega
    · refine j_iconst (v := 1) dX4_isComplete_78 (by decide) ?_
      refine j_goto (tgt := 83) dX4_isComplete_79 (by decide) ?_
      refine j_iret dX4_isComplete_83 rfl (rfl) (by decide) (by decide) ?_
      exact ⟨_, rfl, rfl, rfl, rfl, rfl, Or.inl ⟨rfl, Or.inr (Or.inr ⟨e0, by rw [← y1]; omega⟩)⟩⟩
  · have e0 : t.2.2.2.2 ≠ 0 := fun e => s_4_0 (by rw [hp, e]; rfl)
    have e4 : t.2.2.2.2 ≠ 4 := fun e => s_4_1 (by rw [hp, e]; rfl)
    have e5 : t.2.2.2.2 ≠ 5 := fun e => s_4_2 (by rw [hp, e]; rfl)
    refine j_iconst (v := 0) dX4_isComplete_84 (by decide) ?_
    refine j_iret dX4_isComplete_85 rfl (rfl) (by decide) (by decide) ?_
    refine ⟨_, rfl, rfl, rfl, rfl, rfl, Or.inr ⟨rfl, fun hc => ?_⟩⟩
    rcases hc with ⟨z, _⟩ | z | ⟨z, _⟩
    · exact e0 z
    · exact e4 z
    · exact e5 z
set_option maxRecDepth 100000 in
set_option maxHeartbeats 4000000 in
theorem sp_X4_beginScene (hB : jB l s0 D) {q : Nat} {t : tR} (h : rdOK T V q t) (n1 : t.1.length < 60) (n2 : t.2.1.length < 60) (n3 : t.2.2.1.length < 60) (n4 : t.2.2.2.1.length < 60) : Sp l s0 D kX4_beginScene (jR 1 0 0) 0 0 [.ref q] T V X sz (qU T X sz (fun V' => rdOK T V' q (rNew t) ∧ jAg V V' q (q + 9))) := by
  refine Sp.of pn_X4_beginScene rfl (Nat.le_of_ble_eq_true rfl) ?_
  obtain ⟨h0, h1, h2, h3, h4, e1, e2, e3, e4, e5⟩ := id h
  refine j_aload_n dX4_beginScene_0 rfl ?_
  refine j_getr dX4_beginScene_1 hB fl_X4_14 (by first | exact h.1 | exact h.2.1.1 | exact h.2.2.1.1 | exact h.2.2.2.1.1 | exact h.2.2.2.2.1.1) (by rfl) ?_
  refine j_iconst (v := 0) dX4_beginScene_4 (by decide) ?_
  refine j_cVu dX4_beginScene_5 hB mo_X3_add ml_X4_39 (sp_X3_add hB (h1)) (by first | exact h.1 | exact h.2.1.1 | exact h.2.2.1.1 | exact h.2.2.2.1.1 | exact h.2.2.2.2.1.1) rfl rfl rfl rfl ⟨rfl, rfl, by decide, by decide⟩ (Nat.le_of_ble_eq_true rfl) ⟨by decide, by decide⟩ (fun V_5 h_5 => ?_)
  obtain ⟨g1, f1, a1⟩ := h_5
  refine j_aload_n dX4_beginScene_8 rfl ?_
  refine j_getr dX4_beginScene_9 hB fl_X4_20 (by first | exact h.1 | exact h.2.1.1 | exact h.2.2.1.1 | exact h.2.2.2.1.1 | exact h.2.2.2.2.1.1) (by rfl) ?_
  refine j_ldc dX4_beginScene_12 hB kc_X4_42 ?_
  refine j_cVu dX4_beginScene_14 hB mo_X3_add ml_X4_39 (sp_X3_add hB (h2.ag a1 (by omega))) (by first | exact h.1 | exact h.2.1.1 | exact h.2.2.1.1 | exact h.2.2.2.1.1 | exact h.2.2.2.2.1.1) rfl rfl rfl rfl ⟨rfl, rfl, by decide, by decide⟩ (Nat.le_of_ble_eq_true rfl) ⟨by decide, by decide⟩ (fun V_14 h_14 => ?_)
  obtain ⟨g2, f2, a2⟩ := h_14
  refine j_aload_n dX4_beginScene_17 rfl ?_
  refine j_getr dX4_beginScene_18 hB fl_X4_23 (by first | exact h.1 | exact h.2.1.1 | exact h.2.2.1.1 | exact h.2.2.2.1.1 | exact h.2.2.2.2.1.1) (by rfl) ?_
  refine j_iconst (v := 0) dX4_beginScene_21 (by decide) ?_
  refine j_cVu dX4_beginScene_22 hB mo_X3_add ml_X4_39 (sp_X3_add hB ((h3.ag a1 (by omega)).ag a2 (by omega))) (by first | exact h.1 | exact h.2.1.1 | exact h.2.2.1.1 | exact h.2.2.2.1.1 | exact h.2.2.2.2.1.1) rfl rfl rfl rfl ⟨rfl, rfl, by decide, by decide⟩ (Nat.le_of_ble_eq_true rfl) ⟨by decide, by decide⟩ (fun V_22 h_22 => ?_)
  obtain ⟨g3, f3, a3⟩ := h_22
  refine j_aload_n dX4_beginScene_25 rfl ?_
  refine j_getr dX4_beginScene_26 hB fl_X4_26 (by first | exact h.1 | exact h.2.1.1 | exact h.2.2.1.1 | exact h.2.2.2.1.1 | exact h.2.2.2.2.1.1) (by rfl) ?_
  refine j_iconst (v := 0) dX4_beginScene_29 (by decide) ?_
  refine j_cVu dX4_beginScene_30 hB mo_X3_add ml_X4_39 (sp_X3_add hB (((h4.ag a1 (by omega)).ag a2 (by omega)).ag a3 (by omega))) (by first | exact h.1 | exact h.2.1.1 | exact h.2.2.1.1 | exact h.2.2.2.1.1 | exact h.2.2.2.2.1.1) rfl rfl rfl rfl ⟨rfl, rfl, by decide, by decide⟩ (Nat.le_of_ble_eq_true rfl) ⟨by decide, by decide⟩ (fun V_30 h_30 => ?_)
  obtain ⟨g4, f4, a4⟩ := h_30
  refine j_aload_n dX4_beginScene_33 rfl ?_
  refine j_iconst (v := 0) dX4_beginScene_34 (by decide) ?_
  refine j_puti dX4_beginScene_35 hB fp_X4_beginScene_43 (by first | exact h.1 | exact h.2.1.1 | exact h.2.2.1.1 | exact h.2.2.2.1.1 | exact h.2.2.2.2.1.1) (by rfl) ?_
  refine j_vret dX4_beginScene_38 rfl (by decide) (by decide) ?_
  rw [e1, if_pos n1] at f1
  rw [Rw_ag a1 (by omega), e2, if_pos n2] at f2
  rw [Rw_ag a2 (by omega), Rw_ag a1 (by omega), e3, if_pos n3] at f3
  rw [Rw_ag a3 (by omega), Rw_ag a2 (by omega), Rw_ag a1 (by omega), e4, if_pos n4] at f4
  have u : jAg V_30 (jset V_30 q 4 0) q (q + 1) := jAg.f1
  refine ⟨rfl, rfl, rfl, rfl, ⟨h0, (((g1.ag a2 (by omega)).ag a3 (by omega)).ag a4 (by omega)).ag u (by omega), ((g2.ag a3 (by omega)).ag a4 (by omega)).ag u (by omega), (g3.ag a4 (by omega)).ag u (by omega), g4.ag u (by omega), ?_, ?_, ?_, ?_, jset_eq⟩, ((((a1.wide (by omega) (by omega)).tr (a2.wide (by omega) (by omega))).tr (a3.wide (by omega) (by omega))).tr (a4.wide (by omega) (by omega))).tr (u.wide (by omega) (by omega))⟩
  · rw [Rw_ag u (by omega), Rw_ag a4 (by omega), Rw_ag a3 (by omega), Rw_ag a2 (by omega), f1]; rfl
  · rw [Rw_ag u (by omega), Rw_ag a4 (by omega), Rw_ag a3 (by omega), f2]; rfl
  · rw [Rw_ag u (by omega), Rw_ag a4 (by omega), f3]; rfl
  · rw [Rw_ag u (by omega), f4]; rfl
def r0 : tR := rNew ([], [], [], [], 0)
set_option maxRecDepth 100000 in
set_option maxHeartbeats 4000000 in
theorem sp_X4_begin (hB : jB l s0 D) {q : Nat} (h : rdK T V q) : Sp l s0 D kX4_begin (jR 2 0 0) 0 0 [.ref q] T V X sz (qU T X sz (fun V' => rdOK T V' q r0 ∧ jAg V V' q (q + 9))) := by
  refine Sp.of pn_X4_begin rfl (Nat.le_of_ble_eq_true rfl) ?_
  obtain ⟨h0, h1, h2, h3, h4⟩ := id h
  refine j_aload_n dX4_begin_0 rfl ?_
  refine j_getr dX4_begin_1 hB fl_X4_14 (by first | exact h0 | exact h1.1 | exact h2.1 | exact h3.1 | exact h4.1) (by rfl) ?_
  refine j_cVu dX4_begin_4 hB mo_X3_clear ml_X4_33 (sp_X3_clear hB (h1)) (by first | exact h0 | exact h1.1 | exact h2.1 | exact h3.1 | exact h4.1) rfl rfl rfl rfl ⟨rfl, rfl, by decide, by decide⟩ (Nat.le_of_ble_eq_true rfl) ⟨by decide, by decide⟩ (fun V_4 h_4 => ?_)
  obtain ⟨g1, f1, a1⟩ := h_4
  refine j_aload_n dX4_begin_7 rfl ?_
  refine j_getr dX4_begin_8 hB fl_X4_20 (by first | exact h0 | exact h1.1 | exact h2.1 | exact h3.1 | exact h4.1) (by rfl) ?_
  refine j_cVu dX4_begin_11 hB mo_X3_clear ml_X4_33 (sp_X3_clear hB (h2.ag a1 (by omega))) (by first | exact h0 | exact h1.1 | exact h2.1 | exact h3.1 | exact h4.1) rfl rfl rfl rfl ⟨rfl, rfl, by decide, by decide⟩ (Nat.le_of_ble_eq_true rfl) ⟨by decide, by decide⟩ (fun V_11 h_11 => ?_)
  obtain ⟨g2, f2, a2⟩ := h_11
  refine j_aload_n dX4_begin_14 rfl ?_
  refine j_getr dX4_begin_15 hB fl_X4_23 (by first | exact h0 | exact h1.1 | exact h2.1 | exact h3.1 | exact h4.1) (by rfl) ?_
  refine j_cVu dX4_begin_18 hB mo_X3_clear ml_X4_33 (sp_X3_clear hB ((h3.ag a1 (by omega)).ag a2 (by omega))) (by first | exact h0 | exact h1.1 | exact h2.1 | exact h3.1 | exact h4.1) rfl rfl rfl rfl ⟨rfl, rfl, by decide, by decide⟩ (Nat.le_of_ble_eq_true rfl) ⟨by decide, by decide⟩ (fun V_18 h_18 => ?_)
  obtain ⟨g3, f3, a3⟩ := h_18
  refine j_aload_n dX4_begin_21 rfl ?_
  refine j_getr dX4_begin_22 hB fl_X4_26 (by first | exact h0 | exact h1.1 | exact h2.1 | exact h3.1 | exact h4.1) (by rfl) ?_
  refine j_cVu dX4_begin_25 hB mo_X3_clear ml_X4_33 (sp_X3_clear hB (((h4.ag a1 (by omega)).ag a2 (by omega)).ag a3 (by omega))) (by first | exact h0 | exact h1.1 | exact h2.1 | exact h3.1 | exact h4.1) rfl rfl rfl rfl ⟨rfl, rfl, by decide, by decide⟩ (Nat.le_of_ble_eq_true rfl) ⟨by decide, by decide⟩ (fun V_25 h_25 => ?_)
  obtain ⟨g4, f4, a4⟩ := h_25
  have hk : rdOK T V_25 q ([], [], [], [], V_25 q 4) := ⟨h0, ((g1.ag a2 (by omega)).ag a3 (by omega)).ag a4 (by omega), (g2.ag a3 (by omega)).ag a4 (by omega), g3.ag a4 (by omega), g4, by rw [Rw_ag a4 (by omega), Rw_ag a3 (by omega), Rw_ag a2 (by omega), f1], by rw [Rw_ag a4 (by omega), Rw_ag a3 (by omega), f2], by rw [Rw_ag a4 (by omega), f3], f4, rfl⟩
  refine j_aload_n dX4_begin_28 rfl ?_
  refine j_cVu dX4_begin_29 hB mo_X4_beginScene ml_X4_36 (sp_X4_beginScene hB hk (Nat.succ_pos 59) (Nat.succ_pos 59) (Nat.succ_pos 59) (Nat.succ_pos 59)) (by first | exact h0 | exact h1.1 | exact h2.1 | exact h3.1 | exact h4.1) rfl rfl rfl rfl ⟨rfl, rfl, by decide, by decide⟩ (Nat.le_of_ble_eq_true rfl) ⟨by decide, by decide⟩ (fun V_29 h_29 => ?_)
  obtain ⟨g5, a5⟩ := h_29
  refine j_vret dX4_begin_32 rfl (by decide) (by decide) ?_
  exact ⟨rfl, rfl, rfl, rfl, g5, ((((a1.wide (by omega) (by omega)).tr (a2.wide (by omega) (by omega))).tr (a3.wide (by omega) (by omega))).tr (a4.wide (by omega) (by omega))).tr a5⟩
set_option maxRecDepth 100000 in
set_option maxHeartbeats 4000000 in
theorem sp_X4_step (hB : jB l s0 D) {q : Nat} {t : tR} {a p : Int32} (h : rdOK T V q t) (ha : a = 1 ∨ a = 0) : Sp l s0 D kX4_step (jR 0 0 0) 0 0 [.ref q, .int a, .int p] T V X sz (qI T X sz (fun r V' => r = a ∧ (a = 1 → rdOK T V' q (rGo t p)) ∧ (a = 0 → V = V') ∧ jAg V V' q (q + 9))) := by
  refine Sp.of pn_X4_step rfl (Nat.le_of_ble_eq_true rfl) ?_
  refine j_iload_n dX4_step_0 rfl ?_
  refine j_if_eq (tgt := 9) dX4_step_1 (by decide) (fun c_1 => ?_) (fun c_1 => ?_)
  · refine j_iload_n dX4_step_9 rfl ?_
    refine j_iret dX4_step_10 rfl (by rcases ha with e | e <;> rw [e] <;> decide) (by decide) (by decide) ?_
    exact ⟨_, rfl, rfl, rfl, rfl, rfl, fun e => absurd (e.symm.trans c_1) (by decide), fun _ => rfl, jAg.rf⟩
  · refine j_aload_n dX4_step_4 rfl ?_
    refine j_iload_n dX4_step_5 rfl ?_
    refine j_puti dX4_step_6 hB fp_X4_step_43 (by first | exact h.1 | exact h.2.1.1 | exact h.2.2.1.1 | exact h.2.2.2.1.1 | exact h.2.2.2.2.1.1) (by rfl) ?_
    refine j_iload_n dX4_step_9 rfl ?_
    refine j_iret dX4_step_10 rfl (by rcases ha with e | e <;> rw [e] <;> decide) (by decide) (by decide) ?_
    exact ⟨_, rfl, rfl, rfl, rfl, rfl, fun _ => h.go, fun e => absurd e c_1, jAg.f1.wide (by omega) (by omega)⟩
end JReader
end
section
/-! CueSheets$SheetReader: grow, a digit, a character -/
/-- n begins a number from least to most -/
def gOk (n least most : Int) : Prop := n ≠ 0 ∧ ((n ≤ most ∧ least ≤ n) ∨ (n * 10 ≤ most ∧ least ≤ n * 10 + 9) ∨ (n * 100 ≤ most ∧ least ≤ n * 100 + 99))
section JReader2
variable {l : Launch} {s0 : State} {D : jD} {T : jT} {V : jV} {X : jX} {sz : Nat}
set_option maxRecDepth 100000 in
set_option maxHeartbeats 4000000 in
theorem sp_X4_grow (hB : jB l s0 D) {q qr : Nat} {t : tR} {L : List Int32} {d least most : Int32} (h : rdOK T V q t) (hr : RowOK T V qr 60) (hL : Rw V qr = L) (x0 : 0 ≤ (atZ L (rN t)).toInt) (x1 : (atZ L (rN t)).toInt ≤ 900) (d0 : 0 ≤ d.toInt) (d1 : d.toInt ≤ 9) : Sp l s0 D kX4_grow (jR 2 0 0) 0 0 [.ref q, .ref qr, .int d, .int least, .int most] T V X sz (qI T X sz (fun r V' => (r = 1 ∧ gOk (10 * (atZ L (rN t)).toInt + d.toInt) least.toInt most.toInt ∧ RowOK T V' qr 60 ∧ Rw V' qr = setZ L (rN t) (10 * atZ L (rN t) + d) ∧ jAg V V' qr (qr + 2)) ∨ (r = 0 ∧ ¬ gOk (10 * (atZ L (rN t)).toInt + d.toInt) least.toInt most.toInt ∧ V = V'))) := by
  refine Sp.of pn_X4_grow rfl (Nat.le_of_ble_eq_true rfl) ?_
  have h10 : (10 : Int32).toInt = 10 := by decide
  have h100 : (100 : Int32).toInt = 100 := by decide
  have t1 : (10 * atZ L (rN t)).toInt = 10 * (atZ L (rN t)).toInt := by rw [ti_mul (by rw [h10]; omega) (by rw [h10]; omega), h10]
  have t2 : (10 * atZ L (rN t) + d).toInt = 10 * (atZ L (rN t)).toInt + d.toInt := by rw [ti_add (by omega) (by omega), t1]
  generalize hN : 10 * atZ L (rN t) + d = N at t2
  generalize hn : 10 * (atZ L (rN t)).toInt + d.toInt = n at t2
  have n0 : 0 ≤ n := by omega
  have n1 : n ≤ 9009 := by omega
  have it : ∀ (sc : Int32) (s : Int), sc.toInt = s → (s = 1 ∨ s = 10 ∨ s = 100) → n ≠ 0 → ((¬ (n * s ≤ most.toInt ∧ least.toInt ≤ n * s + s - 1)) → J l s0 D kX4_grow (jR 2 0 0) 0 0 (qI T X sz (fun r V' => (r = 1 ∧ gOk n least.toInt most.toInt ∧ RowOK T V' qr 60 ∧ Rw V' qr = setZ L (rN t) N ∧ jAg V V' qr (qr + 2)) ∨ (r = 0 ∧ ¬ gOk n least.toInt most.toInt ∧ V = V'))) 25 [(0, .ref q), (1, .ref qr), (2, .int d), (3, .int least), (4, .int most), (5, .int N), (6, .int (sc * 10))] [] T V X sz 0 0) → J l s0 D kX4_grow (jR 2 0 0) 0 0 (qI T X sz (fun r V' => (r = 1 ∧ gOk n least.toInt most.toInt ∧ RowOK T V' qr 60 ∧ Rw V' qr = setZ L (rN t) N ∧ jAg V V' qr (qr + 2)) ∨ (r = 0 ∧ ¬ gOk n least.toInt most.toInt ∧ V = V'))) 25 [(0, .ref q), (1, .ref qr), (2, .int d), (3, .int least), (4, .int most), (5, .int N), (6, .int sc)] [] T V X sz 0 0 := by
    intro sc s hs hsc hn0 k
    have ms : 0 ≤ n * s ∧ n * s ≤ 900900 := by rcases hsc with e | e | e <;> rw [e] <;> omega
    have m1 : (N * sc).toInt = n * s := by rw [ti_mul (by rw [t2, hs]; omega) (by rw [t2, hs]; omega), t2, hs]
    have m2 : (N * sc + sc).toInt = n * s + s := by rw [ti_add (by omega) (by omega), m1, hs]
    have m3 : (N * sc + sc - 1).toInt = n * s + s - 1 := by rw [ti_sub (by rw [ti_1]; omega) (by rw [ti_1]; omega), m2, ti_1]
    refine j_iload dX4_grow_25 rfl ?_
    refine j_bipush (v := 100) dX4_grow_27 (by decide) ?_
    refine j_icmp_gt (tgt := 78) dX4_grow_29 (by decide) (fun c_29 => ?_) (fun c_29 => ?_)
    · exact absurd c_29 (by rw [h100]; omega)
    · refine j_iload dX4_grow_32 rfl ?_
      refine j_iload dX4_grow_34 rfl ?_
      refine j_imul dX4_grow_36 ?_
      refine j_iload dX4_grow_37 rfl ?_
      refine j_icmp_gt (tgt := 68) dX4_grow_39 (by decide) (fun c_39 => ?_) (fun c_39 => ?_)
      · refine j_iload dX4_grow_68 rfl ?_
        refine j_bipush (v := 10) dX4_grow_70 (by decide) ?_
        refine j_imul dX4_grow_72 ?_
        refine j_istore (L' := [(0, _), (1, _), (2, _), (3, _), (4, _), (5, _), (6, _)]) dX4_grow_73 (by decide) rfl ?_
        refine j_goto (tgt := 25) dX4_grow_75 (by decide) ?_
        exact k (fun z => by rw [m1] at c_39; omega)
      · refine j_iload dX4_grow_42 rfl ?_
        refine j_iload dX4_grow_44 rfl ?_
        refine j_imul dX4_grow_46 ?_
        refine j_iload dX4_grow_47 rfl ?_
        refine j_iadd dX4_grow_49 ?_
        refine j_iconst (v := 1) dX4_grow_50 (by decide) ?_
        refine j_isub dX4_grow_51 ?_
        refine j_iload_n dX4_grow_52 rfl ?_
        refine j_icmp_lt (tgt := 68) dX4_grow_53 (by decide) (fun c_53 => ?_) (fun c_53 => ?_)
        · refine j_iload dX4_grow_68 rfl ?_
          refine j_bipush (v := 10) dX4_grow_70 (by decide) ?_
          refine j_imul dX4_grow_72 ?_
          refine j_istore (L' := [(0, _), (1, _), (2, _), (3, _), (4, _), (5, _), (6, _)]) dX4_grow_73 (by decide) rfl ?_
          refine j_goto (tgt := 25) dX4_grow_75 (by decide) ?_
          exact k (fun z => by rw [m3] at c_53; omega)
        · refine j_aload_n dX4_grow_56 rfl ?_
          refine j_aload_n dX4_grow_57 rfl ?_
          refine j_cVi dX4_grow_58 hB mo_X4_latest ml_X4_47 (sp_X4_latest hB h) (by first | exact h.1 | exact hr.1) rfl rfl rfl rfl ⟨rfl, rfl, by decide, by decide⟩ (Nat.le_of_ble_eq_true rfl) ⟨by decide, by decide⟩ (fun r_58 V_58 h_58 => ?_)
          obtain ⟨rfl, hi_58⟩ := h_58
          refine j_iload dX4_grow_61 rfl ?_
          refine j_cVu dX4_grow_63 hB mo_X3_put ml_X4_72 (sp_X3_put hB hr) (by first | exact h.1 | exact hr.1) rfl rfl rfl rfl ⟨rfl, rfl, by decide, by decide⟩ (Nat.le_of_ble_eq_true rfl) ⟨by decide, by decide⟩ (fun V_63 h_63 => ?_)
          obtain ⟨g1, f1, a1⟩ := h_63
          rw [hi_58, hL] at f1
          refine j_iconst (v := 1) dX4_grow_66 (by decide) ?_
          refine j_iret dX4_grow_67 rfl (rfl) (by decide) (by decide) ?_
          refine ⟨_, rfl, rfl, rfl, rfl, Or.inl ⟨rfl, ⟨hn0, ?_⟩, g1, f1, a1⟩⟩
          rw [m1] at c_39
          rw [m3] at c_53
          rcases hsc with e | e | e <;> rw [e] at c_39 c_53 <;> omega
  have fin : ∀ sc : Int32, 100 < sc.toInt → ¬ gOk n least.toInt most.toInt → J l s0 D kX4_grow (jR 2 0 0) 0 0 (qI T X sz (fun r V' => (r = 1 ∧ gOk n least.toInt most.toInt ∧ RowOK T V' qr 60 ∧ Rw V' qr = setZ L (rN t) N ∧ jAg V V' qr (qr + 2)) ∨ (r = 0 ∧ ¬ gOk n least.toInt most.toInt ∧ V = V'))) 25 [(0, .ref q), (1, .ref qr), (2, .int d), (3, .int least), (4, .int most), (5, .int N), (6, .int sc)] [] T V X sz 0 0 := by
    intro sc hs hng
    refine j_iload dX4_grow_25 rfl ?_
    refine j_bipush (v := 100) dX4_grow_27 (by decide) ?_
    refine j_icmp_gt (tgt := 78) dX4_grow_29 (by decide) (fun c_29 => ?_) (fun c_29 => ?_)
    · refine j_iconst (v := 0) dX4_grow_78 (by decide) ?_
      refine j_iret dX4_grow_79 rfl (rfl) (by decide) (by decide) ?_
      exact ⟨_, rfl, rfl, rfl, rfl, Or.inr ⟨rfl, hng, rfl⟩⟩
    · exact absurd c_29 (by rw [h100]; omega)
  refine j_bipush (v := 10) dX4_grow_0 (by decide) ?_
  refine j_aload_n dX4_grow_2 rfl ?_
  refine j_aload_n dX4_grow_3 rfl ?_
  refine j_cVi dX4_grow_4 hB mo_X4_latest ml_X4_47 (sp_X4_latest hB h) (by first | exact h.1 | exact hr.1) rfl rfl rfl rfl ⟨rfl, rfl, by decide, by decide⟩ (Nat.le_of_ble_eq_true rfl) ⟨by decide, by decide⟩ (fun r_4 V_4 h_4 => ?_)
  obtain ⟨rfl, hi_4⟩ := h_4
  refine j_cVi dX4_grow_7 hB mo_X3_at ml_X4_50 (sp_X3_at hB hr) (by first | exact h.1 | exact hr.1) rfl rfl rfl rfl ⟨rfl, rfl, by decide, by decide⟩ (Nat.le_of_ble_eq_true rfl) ⟨by decide, by decide⟩ (fun r_7 V_7 h_7 => ?_)
  obtain ⟨rfl, y1⟩ := h_7
  rw [hi_4, hL] at y1
  subst y1
  refine j_imul dX4_grow_10 ?_
  refine j_iload_n dX4_grow_11 rfl ?_
  refine j_iadd dX4_grow_12 ?_
  rw [hN]
  refine j_istore (L' := [(0, _), (1, _), (2, _), (3, _), (4, _), (5, _)]) dX4_grow_13 (by decide) rfl ?_
  refine j_iload dX4_grow_15 rfl ?_
  refine j_if_ne (tgt := 22) dX4_grow_17 (by decide) (fun c_17 => ?_) (fun c_17 => ?_)
  · have hz : n ≠ 0 := fun e => c_17 (Int32.toInt_inj.mp (by rw [t2, e]; rfl))
    refine j_iconst (v := 1) dX4_grow_22 (by decide) ?_
    refine j_istore (L' := [(0, _), (1, _), (2, _), (3, _), (4, _), (5, _), (6, _)]) dX4_grow_23 (by decide) rfl ?_
    refine it 1 1 rfl (Or.inl rfl) hz (fun z1 => ?_)
    refine it 10 10 rfl (Or.inr (Or.inl rfl)) hz (fun z2 => ?_)
    refine it 100 100 rfl (Or.inr (Or.inr rfl)) hz (fun z3 => ?_)
    refine fin 1000 (by decide) (fun z => ?_)
    rcases z.2 with z | z | z <;> omega
  · have hz : n = 0 := by rw [← t2, c_17]; rfl
    refine j_iconst (v := 0) dX4_grow_20 (by decide) ?_
    refine j_iret dX4_grow_21 rfl (rfl) (by decide) (by decide) ?_
    exact ⟨_, rfl, rfl, rfl, rfl, Or.inr ⟨rfl, fun z => z.1 hz, rfl⟩⟩
end JReader2
end
