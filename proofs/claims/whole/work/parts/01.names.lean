-- ===== PART A: goes FIRST, ahead of the names: the tables' words, and 'selects' of the private methods out of them =====
/-- a private method of a class that the tables say can be made, by its rows of tables_1 -/
def lw_okq (q : MethodName × Nat) : Prop := (q.1.cls ≠ "java/lang/invoke/MethodHandle" ∧ q.1.cls ≠ "java/lang/invoke/VarHandle") ∧ Cond.instantiable q.1.cls q.2 ∈ tables_1 ∧ Cond.privateMethod q.1 ∈ tables_1 ∧ Cond.instanceMethod q.1 ∈ tables_1
theorem lw_p0 : lw_okq (⟨"WeatherChess$Tape", "readToken", "()Z"⟩, 13) := ⟨⟨by decide +kernel, by decide +kernel⟩, List.mem_of_getElem? (i := 142) (by decide +kernel), List.mem_of_getElem? (i := 427) (by decide +kernel), List.mem_of_getElem? (i := 428) (by decide +kernel)⟩
theorem lw_p1 : lw_okq (⟨"WeatherChess$Tape", "endOfRun", "(ICC)I"⟩, 13) := ⟨⟨by decide +kernel, by decide +kernel⟩, List.mem_of_getElem? (i := 142) (by decide +kernel), List.mem_of_getElem? (i := 431) (by decide +kernel), List.mem_of_getElem? (i := 432) (by decide +kernel)⟩
theorem lw_p2 : lw_okq (⟨"WeatherChess$Tape", "byteAt", "(I)I"⟩, 13) := ⟨⟨by decide +kernel, by decide +kernel⟩, List.mem_of_getElem? (i := 142) (by decide +kernel), List.mem_of_getElem? (i := 435) (by decide +kernel), List.mem_of_getElem? (i := 436) (by decide +kernel)⟩
theorem lw_p3 : lw_okq (⟨"WeatherChess$Tape", "fail", "(II)Z"⟩, 13) := ⟨⟨by decide +kernel, by decide +kernel⟩, List.mem_of_getElem? (i := 142) (by decide +kernel), List.mem_of_getElem? (i := 439) (by decide +kernel), List.mem_of_getElem? (i := 440) (by decide +kernel)⟩
theorem lw_p4 : lw_okq (⟨"WeatherChess$Tape", "isWhole", "()Z"⟩, 13) := ⟨⟨by decide +kernel, by decide +kernel⟩, List.mem_of_getElem? (i := 142) (by decide +kernel), List.mem_of_getElem? (i := 443) (by decide +kernel), List.mem_of_getElem? (i := 444) (by decide +kernel)⟩
theorem lw_p5 : lw_okq (⟨"WeatherChess$Tape", "hasItsSquares", "()Z"⟩, 13) := ⟨⟨by decide +kernel, by decide +kernel⟩, List.mem_of_getElem? (i := 142) (by decide +kernel), List.mem_of_getElem? (i := 447) (by decide +kernel), List.mem_of_getElem? (i := 448) (by decide +kernel)⟩
theorem lw_p6 : lw_okq (⟨"WeatherChess$Tape", "kings", "(I)I"⟩, 13) := ⟨⟨by decide +kernel, by decide +kernel⟩, List.mem_of_getElem? (i := 142) (by decide +kernel), List.mem_of_getElem? (i := 456) (by decide +kernel), List.mem_of_getElem? (i := 457) (by decide +kernel)⟩
theorem lw_p7 : lw_okq (⟨"WeatherChess$Tape", "readLine", "()Z"⟩, 13) := ⟨⟨by decide +kernel, by decide +kernel⟩, List.mem_of_getElem? (i := 142) (by decide +kernel), List.mem_of_getElem? (i := 471) (by decide +kernel), List.mem_of_getElem? (i := 472) (by decide +kernel)⟩
theorem lw_p8 : lw_okq (⟨"WeatherChess$Tape", "isName", "(Ljava/lang/String;)Z"⟩, 13) := ⟨⟨by decide +kernel, by decide +kernel⟩, List.mem_of_getElem? (i := 142) (by decide +kernel), List.mem_of_getElem? (i := 476) (by decide +kernel), List.mem_of_getElem? (i := 477) (by decide +kernel)⟩
theorem lw_p9 : lw_okq (⟨"WeatherChess$Tape", "readBoard", "()Z"⟩, 13) := ⟨⟨by decide +kernel, by decide +kernel⟩, List.mem_of_getElem? (i := 142) (by decide +kernel), List.mem_of_getElem? (i := 528) (by decide +kernel), List.mem_of_getElem? (i := 529) (by decide +kernel)⟩
theorem lw_p10 : lw_okq (⟨"WeatherChess$Tape", "readNumber", "(II)Z"⟩, 13) := ⟨⟨by decide +kernel, by decide +kernel⟩, List.mem_of_getElem? (i := 142) (by decide +kernel), List.mem_of_getElem? (i := 532) (by decide +kernel), List.mem_of_getElem? (i := 533) (by decide +kernel)⟩
theorem lw_p11 : lw_okq (⟨"WeatherChess$Tape", "readSign", "()Z"⟩, 13) := ⟨⟨by decide +kernel, by decide +kernel⟩, List.mem_of_getElem? (i := 142) (by decide +kernel), List.mem_of_getElem? (i := 536) (by decide +kernel), List.mem_of_getElem? (i := 537) (by decide +kernel)⟩
theorem lw_p12 : lw_okq (⟨"WeatherChess$Tape", "readSteeple", "()Z"⟩, 13) := ⟨⟨by decide +kernel, by decide +kernel⟩, List.mem_of_getElem? (i := 142) (by decide +kernel), List.mem_of_getElem? (i := 541) (by decide +kernel), List.mem_of_getElem? (i := 542) (by decide +kernel)⟩
theorem lw_p13 : lw_okq (⟨"WeatherChess$Tape", "readFreeSquare", "()Z"⟩, 13) := ⟨⟨by decide +kernel, by decide +kernel⟩, List.mem_of_getElem? (i := 142) (by decide +kernel), List.mem_of_getElem? (i := 545) (by decide +kernel), List.mem_of_getElem? (i := 546) (by decide +kernel)⟩
theorem lw_p14 : lw_okq (⟨"WeatherChess$Tape", "readPiece", "()Z"⟩, 13) := ⟨⟨by decide +kernel, by decide +kernel⟩, List.mem_of_getElem? (i := 142) (by decide +kernel), List.mem_of_getElem? (i := 562) (by decide +kernel), List.mem_of_getElem? (i := 563) (by decide +kernel)⟩
theorem lw_p15 : lw_okq (⟨"WeatherChess$Tape", "kindNamed", "()I"⟩, 13) := ⟨⟨by decide +kernel, by decide +kernel⟩, List.mem_of_getElem? (i := 142) (by decide +kernel), List.mem_of_getElem? (i := 566) (by decide +kernel), List.mem_of_getElem? (i := 567) (by decide +kernel)⟩
def lw_privs_1 : List (MethodName × Nat) := [(⟨"WeatherChess$Tape", "readToken", "()Z"⟩, 13), (⟨"WeatherChess$Tape", "endOfRun", "(ICC)I"⟩, 13), (⟨"WeatherChess$Tape", "byteAt", "(I)I"⟩, 13), (⟨"WeatherChess$Tape", "fail", "(II)Z"⟩, 13), (⟨"WeatherChess$Tape", "isWhole", "()Z"⟩, 13), (⟨"WeatherChess$Tape", "hasItsSquares", "()Z"⟩, 13), (⟨"WeatherChess$Tape", "kings", "(I)I"⟩, 13), (⟨"WeatherChess$Tape", "readLine", "()Z"⟩, 13), (⟨"WeatherChess$Tape", "isName", "(Ljava/lang/String;)Z"⟩, 13), (⟨"WeatherChess$Tape", "readBoard", "()Z"⟩, 13), (⟨"WeatherChess$Tape", "readNumber", "(II)Z"⟩, 13), (⟨"WeatherChess$Tape", "readSign", "()Z"⟩, 13), (⟨"WeatherChess$Tape", "readSteeple", "()Z"⟩, 13), (⟨"WeatherChess$Tape", "readFreeSquare", "()Z"⟩, 13), (⟨"WeatherChess$Tape", "readPiece", "()Z"⟩, 13), (⟨"WeatherChess$Tape", "kindNamed", "()I"⟩, 13)]
theorem lw_r1 : ∀ q ∈ lw_privs_1, lw_okq q := List.forall_mem_cons.mpr ⟨lw_p0, List.forall_mem_cons.mpr ⟨lw_p1, List.forall_mem_cons.mpr ⟨lw_p2, List.forall_mem_cons.mpr ⟨lw_p3, List.forall_mem_cons.mpr ⟨lw_p4, List.forall_mem_cons.mpr ⟨lw_p5, List.forall_mem_cons.mpr ⟨lw_p6, List.forall_mem_cons.mpr ⟨lw_p7, List.forall_mem_cons.mpr ⟨lw_p8, List.forall_mem_cons.mpr ⟨lw_p9, List.forall_mem_cons.mpr ⟨lw_p10, List.forall_mem_cons.mpr ⟨lw_p11, List.forall_mem_cons.mpr ⟨lw_p12, List.forall_mem_cons.mpr ⟨lw_p13, List.forall_mem_cons.mpr ⟨lw_p14, List.forall_mem_cons.mpr ⟨lw_p15, fun _ h => absurd h List.not_mem_nil⟩⟩⟩⟩⟩⟩⟩⟩⟩⟩⟩⟩⟩⟩⟩⟩
theorem lw_p16 : lw_okq (⟨"WeatherChess$Tape", "readOdds", "()Z"⟩, 13) := ⟨⟨by decide +kernel, by decide +kernel⟩, List.mem_of_getElem? (i := 142) (by decide +kernel), List.mem_of_getElem? (i := 576) (by decide +kernel), List.mem_of_getElem? (i := 577) (by decide +kernel)⟩
theorem lw_p17 : lw_okq (⟨"WeatherChess$Tape", "readTurn", "()Z"⟩, 13) := ⟨⟨by decide +kernel, by decide +kernel⟩, List.mem_of_getElem? (i := 142) (by decide +kernel), List.mem_of_getElem? (i := 589) (by decide +kernel), List.mem_of_getElem? (i := 590) (by decide +kernel)⟩
theorem lw_p18 : lw_okq (⟨"WeatherChess", "listNow", "(I)I"⟩, 11) := ⟨⟨by decide +kernel, by decide +kernel⟩, List.mem_of_getElem? (i := 22) (by decide +kernel), List.mem_of_getElem? (i := 689) (by decide +kernel), List.mem_of_getElem? (i := 690) (by decide +kernel)⟩
theorem lw_p19 : lw_okq (⟨"WeatherChess$Stand", "targets", "(LWeatherChess$Roofs;II)I"⟩, 4) := ⟨⟨by decide +kernel, by decide +kernel⟩, List.mem_of_getElem? (i := 79) (by decide +kernel), List.mem_of_getElem? (i := 698) (by decide +kernel), List.mem_of_getElem? (i := 699) (by decide +kernel)⟩
theorem lw_p20 : lw_okq (⟨"WeatherChess$Stand", "run", "(LWeatherChess$Roofs;II)I"⟩, 4) := ⟨⟨by decide +kernel, by decide +kernel⟩, List.mem_of_getElem? (i := 79) (by decide +kernel), List.mem_of_getElem? (i := 704) (by decide +kernel), List.mem_of_getElem? (i := 705) (by decide +kernel)⟩
theorem lw_p21 : lw_okq (⟨"WeatherChess$Stand", "hop", "(LWeatherChess$Roofs;II)I"⟩, 4) := ⟨⟨by decide +kernel, by decide +kernel⟩, List.mem_of_getElem? (i := 79) (by decide +kernel), List.mem_of_getElem? (i := 712) (by decide +kernel), List.mem_of_getElem? (i := 713) (by decide +kernel)⟩
theorem lw_p22 : lw_okq (⟨"WeatherChess", "playNow", "(II)I"⟩, 11) := ⟨⟨by decide +kernel, by decide +kernel⟩, List.mem_of_getElem? (i := 22) (by decide +kernel), List.mem_of_getElem? (i := 728) (by decide +kernel), List.mem_of_getElem? (i := 729) (by decide +kernel)⟩
theorem lw_p23 : lw_okq (⟨"WeatherChess", "isOver", "()Z"⟩, 11) := ⟨⟨by decide +kernel, by decide +kernel⟩, List.mem_of_getElem? (i := 22) (by decide +kernel), List.mem_of_getElem? (i := 732) (by decide +kernel), List.mem_of_getElem? (i := 733) (by decide +kernel)⟩
theorem lw_p24 : lw_okq (⟨"WeatherChess$Stand", "burn", "(LWeatherChess$Roofs;I)V"⟩, 4) := ⟨⟨by decide +kernel, by decide +kernel⟩, List.mem_of_getElem? (i := 79) (by decide +kernel), List.mem_of_getElem? (i := 742) (by decide +kernel), List.mem_of_getElem? (i := 743) (by decide +kernel)⟩
theorem lw_p25 : lw_okq (⟨"WeatherChess", "likelyNow", "(II)J"⟩, 11) := ⟨⟨by decide +kernel, by decide +kernel⟩, List.mem_of_getElem? (i := 22) (by decide +kernel), List.mem_of_getElem? (i := 794) (by decide +kernel), List.mem_of_getElem? (i := 795) (by decide +kernel)⟩
theorem lw_p26 : lw_okq (⟨"WeatherChess", "imageAt", "(I)LWeatherChess$Game;"⟩, 11) := ⟨⟨by decide +kernel, by decide +kernel⟩, List.mem_of_getElem? (i := 22) (by decide +kernel), List.mem_of_getElem? (i := 816) (by decide +kernel), List.mem_of_getElem? (i := 817) (by decide +kernel)⟩
theorem lw_p27 : lw_okq (⟨"WeatherChess", "findFits", "(II)I"⟩, 11) := ⟨⟨by decide +kernel, by decide +kernel⟩, List.mem_of_getElem? (i := 22) (by decide +kernel), List.mem_of_getElem? (i := 878) (by decide +kernel), List.mem_of_getElem? (i := 879) (by decide +kernel)⟩
theorem lw_p28 : lw_okq (⟨"WeatherChess$Blowing", "spell", "(LWeatherChess$Game;I)I"⟩, 3) := ⟨⟨by decide +kernel, by decide +kernel⟩, List.mem_of_getElem? (i := 293) (by decide +kernel), List.mem_of_getElem? (i := 913) (by decide +kernel), List.mem_of_getElem? (i := 914) (by decide +kernel)⟩
theorem lw_p29 : lw_okq (⟨"WeatherChess", "playSheet", "(III)I"⟩, 11) := ⟨⟨by decide +kernel, by decide +kernel⟩, List.mem_of_getElem? (i := 22) (by decide +kernel), List.mem_of_getElem? (i := 997) (by decide +kernel), List.mem_of_getElem? (i := 998) (by decide +kernel)⟩
theorem lw_p30 : lw_okq (⟨"WeatherChessModel", "firstDraft", "()V"⟩, 43) := ⟨⟨by decide +kernel, by decide +kernel⟩, List.mem_of_getElem? (i := 1022) (by decide +kernel), List.mem_of_getElem? (i := 1028) (by decide +kernel), List.mem_of_getElem? (i := 1029) (by decide +kernel)⟩
theorem lw_p31 : lw_okq (⟨"WeatherChessModel", "twoKings", "()V"⟩, 43) := ⟨⟨by decide +kernel, by decide +kernel⟩, List.mem_of_getElem? (i := 1022) (by decide +kernel), List.mem_of_getElem? (i := 1032) (by decide +kernel), List.mem_of_getElem? (i := 1033) (by decide +kernel)⟩
def lw_privs_2 : List (MethodName × Nat) := [(⟨"WeatherChess$Tape", "readOdds", "()Z"⟩, 13), (⟨"WeatherChess$Tape", "readTurn", "()Z"⟩, 13), (⟨"WeatherChess", "listNow", "(I)I"⟩, 11), (⟨"WeatherChess$Stand", "targets", "(LWeatherChess$Roofs;II)I"⟩, 4), (⟨"WeatherChess$Stand", "run", "(LWeatherChess$Roofs;II)I"⟩, 4), (⟨"WeatherChess$Stand", "hop", "(LWeatherChess$Roofs;II)I"⟩, 4), (⟨"WeatherChess", "playNow", "(II)I"⟩, 11), (⟨"WeatherChess", "isOver", "()Z"⟩, 11), (⟨"WeatherChess$Stand", "burn", "(LWeatherChess$Roofs;I)V"⟩, 4), (⟨"WeatherChess", "likelyNow", "(II)J"⟩, 11), (⟨"WeatherChess", "imageAt", "(I)LWeatherChess$Game;"⟩, 11), (⟨"WeatherChess", "findFits", "(II)I"⟩, 11), (⟨"WeatherChess$Blowing", "spell", "(LWeatherChess$Game;I)I"⟩, 3), (⟨"WeatherChess", "playSheet", "(III)I"⟩, 11), (⟨"WeatherChessModel", "firstDraft", "()V"⟩, 43), (⟨"WeatherChessModel", "twoKings", "()V"⟩, 43)]
theorem lw_r2 : ∀ q ∈ lw_privs_2, lw_okq q := List.forall_mem_cons.mpr ⟨lw_p16, List.forall_mem_cons.mpr ⟨lw_p17, List.forall_mem_cons.mpr ⟨lw_p18, List.forall_mem_cons.mpr ⟨lw_p19, List.forall_mem_cons.mpr ⟨lw_p20, List.forall_mem_cons.mpr ⟨lw_p21, List.forall_mem_cons.mpr ⟨lw_p22, List.forall_mem_cons.mpr ⟨lw_p23, List.forall_mem_cons.mpr ⟨lw_p24, List.forall_mem_cons.mpr ⟨lw_p25, List.forall_mem_cons.mpr ⟨lw_p26, List.forall_mem_cons.mpr ⟨lw_p27, List.forall_mem_cons.mpr ⟨lw_p28, List.forall_mem_cons.mpr ⟨lw_p29, List.forall_mem_cons.mpr ⟨lw_p30, List.forall_mem_cons.mpr ⟨lw_p31, fun _ h => absurd h List.not_mem_nil⟩⟩⟩⟩⟩⟩⟩⟩⟩⟩⟩⟩⟩⟩⟩⟩
theorem lw_p32 : lw_okq (⟨"WeatherChessModel", "keepDraft", "()V"⟩, 43) := ⟨⟨by decide +kernel, by decide +kernel⟩, List.mem_of_getElem? (i := 1022) (by decide +kernel), List.mem_of_getElem? (i := 1036) (by decide +kernel), List.mem_of_getElem? (i := 1037) (by decide +kernel)⟩
theorem lw_p33 : lw_okq (⟨"WeatherChessModel", "next", "()V"⟩, 43) := ⟨⟨by decide +kernel, by decide +kernel⟩, List.mem_of_getElem? (i := 1022) (by decide +kernel), List.mem_of_getElem? (i := 1186) (by decide +kernel), List.mem_of_getElem? (i := 1187) (by decide +kernel)⟩
theorem lw_p34 : lw_okq (⟨"WeatherChessModel", "look", "(I)I"⟩, 43) := ⟨⟨by decide +kernel, by decide +kernel⟩, List.mem_of_getElem? (i := 1022) (by decide +kernel), List.mem_of_getElem? (i := 1190) (by decide +kernel), List.mem_of_getElem? (i := 1191) (by decide +kernel)⟩
theorem lw_p35 : lw_okq (⟨"WeatherChessModel", "needs", "(ZI)V"⟩, 43) := ⟨⟨by decide +kernel, by decide +kernel⟩, List.mem_of_getElem? (i := 1022) (by decide +kernel), List.mem_of_getElem? (i := 1198) (by decide +kernel), List.mem_of_getElem? (i := 1199) (by decide +kernel)⟩
theorem lw_p36 : lw_okq (⟨"WeatherChessModel", "readLine", "()V"⟩, 43) := ⟨⟨by decide +kernel, by decide +kernel⟩, List.mem_of_getElem? (i := 1022) (by decide +kernel), List.mem_of_getElem? (i := 1202) (by decide +kernel), List.mem_of_getElem? (i := 1203) (by decide +kernel)⟩
theorem lw_p37 : lw_okq (⟨"WeatherChessModel", "lineNow", "()I"⟩, 43) := ⟨⟨by decide +kernel, by decide +kernel⟩, List.mem_of_getElem? (i := 1022) (by decide +kernel), List.mem_of_getElem? (i := 1206) (by decide +kernel), List.mem_of_getElem? (i := 1207) (by decide +kernel)⟩
theorem lw_p38 : lw_okq (⟨"WeatherChessModel", "is", "(IIII)Z"⟩, 43) := ⟨⟨by decide +kernel, by decide +kernel⟩, List.mem_of_getElem? (i := 1022) (by decide +kernel), List.mem_of_getElem? (i := 1210) (by decide +kernel), List.mem_of_getElem? (i := 1211) (by decide +kernel)⟩
theorem lw_p39 : lw_okq (⟨"WeatherChessModel", "ends", "(III)Z"⟩, 43) := ⟨⟨by decide +kernel, by decide +kernel⟩, List.mem_of_getElem? (i := 1022) (by decide +kernel), List.mem_of_getElem? (i := 1214) (by decide +kernel), List.mem_of_getElem? (i := 1215) (by decide +kernel)⟩
theorem lw_p40 : lw_okq (⟨"WeatherChessModel", "readLineOf", "(I)V"⟩, 43) := ⟨⟨by decide +kernel, by decide +kernel⟩, List.mem_of_getElem? (i := 1022) (by decide +kernel), List.mem_of_getElem? (i := 1218) (by decide +kernel), List.mem_of_getElem? (i := 1219) (by decide +kernel)⟩
theorem lw_p41 : lw_okq (⟨"WeatherChessModel", "readNumber", "(II)I"⟩, 43) := ⟨⟨by decide +kernel, by decide +kernel⟩, List.mem_of_getElem? (i := 1022) (by decide +kernel), List.mem_of_getElem? (i := 1222) (by decide +kernel), List.mem_of_getElem? (i := 1223) (by decide +kernel)⟩
theorem lw_p42 : lw_okq (⟨"WeatherChessModel", "looked", "(II)I"⟩, 43) := ⟨⟨by decide +kernel, by decide +kernel⟩, List.mem_of_getElem? (i := 1022) (by decide +kernel), List.mem_of_getElem? (i := 1226) (by decide +kernel), List.mem_of_getElem? (i := 1227) (by decide +kernel)⟩
theorem lw_p43 : lw_okq (⟨"WeatherChessModel", "readOdds", "()V"⟩, 43) := ⟨⟨by decide +kernel, by decide +kernel⟩, List.mem_of_getElem? (i := 1022) (by decide +kernel), List.mem_of_getElem? (i := 1230) (by decide +kernel), List.mem_of_getElem? (i := 1231) (by decide +kernel)⟩
theorem lw_p44 : lw_okq (⟨"WeatherChessModel", "readFree", "()I"⟩, 43) := ⟨⟨by decide +kernel, by decide +kernel⟩, List.mem_of_getElem? (i := 1022) (by decide +kernel), List.mem_of_getElem? (i := 1234) (by decide +kernel), List.mem_of_getElem? (i := 1235) (by decide +kernel)⟩
theorem lw_p45 : lw_okq (⟨"WeatherChessModel", "readPiece", "()V"⟩, 43) := ⟨⟨by decide +kernel, by decide +kernel⟩, List.mem_of_getElem? (i := 1022) (by decide +kernel), List.mem_of_getElem? (i := 1238) (by decide +kernel), List.mem_of_getElem? (i := 1239) (by decide +kernel)⟩
theorem lw_p46 : lw_okq (⟨"WeatherChessModel", "kindNow", "()I"⟩, 43) := ⟨⟨by decide +kernel, by decide +kernel⟩, List.mem_of_getElem? (i := 1022) (by decide +kernel), List.mem_of_getElem? (i := 1242) (by decide +kernel), List.mem_of_getElem? (i := 1243) (by decide +kernel)⟩
theorem lw_p47 : lw_okq (⟨"WeatherChessModel", "looksAtAll", "()V"⟩, 43) := ⟨⟨by decide +kernel, by decide +kernel⟩, List.mem_of_getElem? (i := 1022) (by decide +kernel), List.mem_of_getElem? (i := 1246) (by decide +kernel), List.mem_of_getElem? (i := 1247) (by decide +kernel)⟩
def lw_privs_3 : List (MethodName × Nat) := [(⟨"WeatherChessModel", "keepDraft", "()V"⟩, 43), (⟨"WeatherChessModel", "next", "()V"⟩, 43), (⟨"WeatherChessModel", "look", "(I)I"⟩, 43), (⟨"WeatherChessModel", "needs", "(ZI)V"⟩, 43), (⟨"WeatherChessModel", "readLine", "()V"⟩, 43), (⟨"WeatherChessModel", "lineNow", "()I"⟩, 43), (⟨"WeatherChessModel", "is", "(IIII)Z"⟩, 43), (⟨"WeatherChessModel", "ends", "(III)Z"⟩, 43), (⟨"WeatherChessModel", "readLineOf", "(I)V"⟩, 43), (⟨"WeatherChessModel", "readNumber", "(II)I"⟩, 43), (⟨"WeatherChessModel", "looked", "(II)I"⟩, 43), (⟨"WeatherChessModel", "readOdds", "()V"⟩, 43), (⟨"WeatherChessModel", "readFree", "()I"⟩, 43), (⟨"WeatherChessModel", "readPiece", "()V"⟩, 43), (⟨"WeatherChessModel", "kindNow", "()I"⟩, 43), (⟨"WeatherChessModel", "looksAtAll", "()V"⟩, 43)]
theorem lw_r3 : ∀ q ∈ lw_privs_3, lw_okq q := List.forall_mem_cons.mpr ⟨lw_p32, List.forall_mem_cons.mpr ⟨lw_p33, List.forall_mem_cons.mpr ⟨lw_p34, List.forall_mem_cons.mpr ⟨lw_p35, List.forall_mem_cons.mpr ⟨lw_p36, List.forall_mem_cons.mpr ⟨lw_p37, List.forall_mem_cons.mpr ⟨lw_p38, List.forall_mem_cons.mpr ⟨lw_p39, List.forall_mem_cons.mpr ⟨lw_p40, List.forall_mem_cons.mpr ⟨lw_p41, List.forall_mem_cons.mpr ⟨lw_p42, List.forall_mem_cons.mpr ⟨lw_p43, List.forall_mem_cons.mpr ⟨lw_p44, List.forall_mem_cons.mpr ⟨lw_p45, List.forall_mem_cons.mpr ⟨lw_p46, List.forall_mem_cons.mpr ⟨lw_p47, fun _ h => absurd h List.not_mem_nil⟩⟩⟩⟩⟩⟩⟩⟩⟩⟩⟩⟩⟩⟩⟩⟩
theorem lw_p48 : lw_okq (⟨"WeatherChessModel", "kingsOf", "(I)I"⟩, 43) := ⟨⟨by decide +kernel, by decide +kernel⟩, List.mem_of_getElem? (i := 1022) (by decide +kernel), List.mem_of_getElem? (i := 1250) (by decide +kernel), List.mem_of_getElem? (i := 1251) (by decide +kernel)⟩
theorem lw_p49 : lw_okq (⟨"WeatherChessModel", "starts", "()V"⟩, 43) := ⟨⟨by decide +kernel, by decide +kernel⟩, List.mem_of_getElem? (i := 1022) (by decide +kernel), List.mem_of_getElem? (i := 1265) (by decide +kernel), List.mem_of_getElem? (i := 1266) (by decide +kernel)⟩
theorem lw_p50 : lw_okq (⟨"WeatherChessModel", "lost", "()I"⟩, 43) := ⟨⟨by decide +kernel, by decide +kernel⟩, List.mem_of_getElem? (i := 1022) (by decide +kernel), List.mem_of_getElem? (i := 1269) (by decide +kernel), List.mem_of_getElem? (i := 1270) (by decide +kernel)⟩
theorem lw_p51 : lw_okq (⟨"WeatherChessModel", "isSquare", "(I)Z"⟩, 43) := ⟨⟨by decide +kernel, by decide +kernel⟩, List.mem_of_getElem? (i := 1022) (by decide +kernel), List.mem_of_getElem? (i := 1277) (by decide +kernel), List.mem_of_getElem? (i := 1278) (by decide +kernel)⟩
theorem lw_p52 : lw_okq (⟨"WeatherChessModel", "pieceAt", "(I)I"⟩, 43) := ⟨⟨by decide +kernel, by decide +kernel⟩, List.mem_of_getElem? (i := 1022) (by decide +kernel), List.mem_of_getElem? (i := 1281) (by decide +kernel), List.mem_of_getElem? (i := 1282) (by decide +kernel)⟩
theorem lw_p53 : lw_okq (⟨"WeatherChessModel", "isPiece", "(I)Z"⟩, 43) := ⟨⟨by decide +kernel, by decide +kernel⟩, List.mem_of_getElem? (i := 1022) (by decide +kernel), List.mem_of_getElem? (i := 1289) (by decide +kernel), List.mem_of_getElem? (i := 1290) (by decide +kernel)⟩
theorem lw_p54 : lw_okq (⟨"WeatherChessModel", "becomes", "(II)I"⟩, 43) := ⟨⟨by decide +kernel, by decide +kernel⟩, List.mem_of_getElem? (i := 1022) (by decide +kernel), List.mem_of_getElem? (i := 1306) (by decide +kernel), List.mem_of_getElem? (i := 1307) (by decide +kernel)⟩
theorem lw_p55 : lw_okq (⟨"WeatherChessModel", "isOpen", "(I)Z"⟩, 43) := ⟨⟨by decide +kernel, by decide +kernel⟩, List.mem_of_getElem? (i := 1022) (by decide +kernel), List.mem_of_getElem? (i := 1314) (by decide +kernel), List.mem_of_getElem? (i := 1315) (by decide +kernel)⟩
theorem lw_p56 : lw_okq (⟨"WeatherChessModel", "allOdds", "()I"⟩, 43) := ⟨⟨by decide +kernel, by decide +kernel⟩, List.mem_of_getElem? (i := 1022) (by decide +kernel), List.mem_of_getElem? (i := 1326) (by decide +kernel), List.mem_of_getElem? (i := 1327) (by decide +kernel)⟩
theorem lw_p57 : lw_okq (⟨"WeatherChessModel", "findMoves", "(II)V"⟩, 43) := ⟨⟨by decide +kernel, by decide +kernel⟩, List.mem_of_getElem? (i := 1022) (by decide +kernel), List.mem_of_getElem? (i := 1338) (by decide +kernel), List.mem_of_getElem? (i := 1339) (by decide +kernel)⟩
theorem lw_p58 : lw_okq (⟨"WeatherChessModel", "targets", "(II)I"⟩, 43) := ⟨⟨by decide +kernel, by decide +kernel⟩, List.mem_of_getElem? (i := 1022) (by decide +kernel), List.mem_of_getElem? (i := 1342) (by decide +kernel), List.mem_of_getElem? (i := 1343) (by decide +kernel)⟩
theorem lw_p59 : lw_okq (⟨"WeatherChessModel", "onTo", "(IIII)I"⟩, 43) := ⟨⟨by decide +kernel, by decide +kernel⟩, List.mem_of_getElem? (i := 1022) (by decide +kernel), List.mem_of_getElem? (i := 1346) (by decide +kernel), List.mem_of_getElem? (i := 1347) (by decide +kernel)⟩
theorem lw_p60 : lw_okq (⟨"WeatherChessModel", "ownGone", "(I)I"⟩, 43) := ⟨⟨by decide +kernel, by decide +kernel⟩, List.mem_of_getElem? (i := 1022) (by decide +kernel), List.mem_of_getElem? (i := 1350) (by decide +kernel), List.mem_of_getElem? (i := 1351) (by decide +kernel)⟩
theorem lw_p61 : lw_okq (⟨"WeatherChessModel", "goes", "(II)I"⟩, 43) := ⟨⟨by decide +kernel, by decide +kernel⟩, List.mem_of_getElem? (i := 1022) (by decide +kernel), List.mem_of_getElem? (i := 1362) (by decide +kernel), List.mem_of_getElem? (i := 1363) (by decide +kernel)⟩
theorem lw_p62 : lw_okq (⟨"WeatherChessModel", "valueOf", "(II)J"⟩, 43) := ⟨⟨by decide +kernel, by decide +kernel⟩, List.mem_of_getElem? (i := 1022) (by decide +kernel), List.mem_of_getElem? (i := 1372) (by decide +kernel), List.mem_of_getElem? (i := 1373) (by decide +kernel)⟩
theorem lw_p63 : lw_okq (⟨"WeatherChessModel", "wonNow", "(I)J"⟩, 43) := ⟨⟨by decide +kernel, by decide +kernel⟩, List.mem_of_getElem? (i := 1022) (by decide +kernel), List.mem_of_getElem? (i := 1376) (by decide +kernel), List.mem_of_getElem? (i := 1377) (by decide +kernel)⟩
def lw_privs_4 : List (MethodName × Nat) := [(⟨"WeatherChessModel", "kingsOf", "(I)I"⟩, 43), (⟨"WeatherChessModel", "starts", "()V"⟩, 43), (⟨"WeatherChessModel", "lost", "()I"⟩, 43), (⟨"WeatherChessModel", "isSquare", "(I)Z"⟩, 43), (⟨"WeatherChessModel", "pieceAt", "(I)I"⟩, 43), (⟨"WeatherChessModel", "isPiece", "(I)Z"⟩, 43), (⟨"WeatherChessModel", "becomes", "(II)I"⟩, 43), (⟨"WeatherChessModel", "isOpen", "(I)Z"⟩, 43), (⟨"WeatherChessModel", "allOdds", "()I"⟩, 43), (⟨"WeatherChessModel", "findMoves", "(II)V"⟩, 43), (⟨"WeatherChessModel", "targets", "(II)I"⟩, 43), (⟨"WeatherChessModel", "onTo", "(IIII)I"⟩, 43), (⟨"WeatherChessModel", "ownGone", "(I)I"⟩, 43), (⟨"WeatherChessModel", "goes", "(II)I"⟩, 43), (⟨"WeatherChessModel", "valueOf", "(II)J"⟩, 43), (⟨"WeatherChessModel", "wonNow", "(I)J"⟩, 43)]
theorem lw_r4 : ∀ q ∈ lw_privs_4, lw_okq q := List.forall_mem_cons.mpr ⟨lw_p48, List.forall_mem_cons.mpr ⟨lw_p49, List.forall_mem_cons.mpr ⟨lw_p50, List.forall_mem_cons.mpr ⟨lw_p51, List.forall_mem_cons.mpr ⟨lw_p52, List.forall_mem_cons.mpr ⟨lw_p53, List.forall_mem_cons.mpr ⟨lw_p54, List.forall_mem_cons.mpr ⟨lw_p55, List.forall_mem_cons.mpr ⟨lw_p56, List.forall_mem_cons.mpr ⟨lw_p57, List.forall_mem_cons.mpr ⟨lw_p58, List.forall_mem_cons.mpr ⟨lw_p59, List.forall_mem_cons.mpr ⟨lw_p60, List.forall_mem_cons.mpr ⟨lw_p61, List.forall_mem_cons.mpr ⟨lw_p62, List.forall_mem_cons.mpr ⟨lw_p63, fun _ h => absurd h List.not_mem_nil⟩⟩⟩⟩⟩⟩⟩⟩⟩⟩⟩⟩⟩⟩⟩⟩
theorem lw_p64 : lw_okq (⟨"WeatherChessModel", "one", "(I)J"⟩, 43) := ⟨⟨by decide +kernel, by decide +kernel⟩, List.mem_of_getElem? (i := 1022) (by decide +kernel), List.mem_of_getElem? (i := 1380) (by decide +kernel), List.mem_of_getElem? (i := 1381) (by decide +kernel)⟩
theorem lw_p65 : lw_okq (⟨"WeatherChessModel", "windOfOne", "(II)J"⟩, 43) := ⟨⟨by decide +kernel, by decide +kernel⟩, List.mem_of_getElem? (i := 1022) (by decide +kernel), List.mem_of_getElem? (i := 1384) (by decide +kernel), List.mem_of_getElem? (i := 1385) (by decide +kernel)⟩
theorem lw_p66 : lw_okq (⟨"WeatherChessModel", "saves", "(I)V"⟩, 43) := ⟨⟨by decide +kernel, by decide +kernel⟩, List.mem_of_getElem? (i := 1022) (by decide +kernel), List.mem_of_getElem? (i := 1388) (by decide +kernel), List.mem_of_getElem? (i := 1389) (by decide +kernel)⟩
theorem lw_p67 : lw_okq (⟨"WeatherChessModel", "returns", "(I)V"⟩, 43) := ⟨⟨by decide +kernel, by decide +kernel⟩, List.mem_of_getElem? (i := 1022) (by decide +kernel), List.mem_of_getElem? (i := 1392) (by decide +kernel), List.mem_of_getElem? (i := 1393) (by decide +kernel)⟩
theorem lw_p68 : lw_okq (⟨"WeatherChessModel", "two", "(I)J"⟩, 43) := ⟨⟨by decide +kernel, by decide +kernel⟩, List.mem_of_getElem? (i := 1022) (by decide +kernel), List.mem_of_getElem? (i := 1399) (by decide +kernel), List.mem_of_getElem? (i := 1400) (by decide +kernel)⟩
theorem lw_p69 : lw_okq (⟨"WeatherChessModel", "windOfTwo", "(II)J"⟩, 43) := ⟨⟨by decide +kernel, by decide +kernel⟩, List.mem_of_getElem? (i := 1022) (by decide +kernel), List.mem_of_getElem? (i := 1403) (by decide +kernel), List.mem_of_getElem? (i := 1404) (by decide +kernel)⟩
theorem lw_p70 : lw_okq (⟨"WeatherChessModel", "windOfThree", "(II)J"⟩, 43) := ⟨⟨by decide +kernel, by decide +kernel⟩, List.mem_of_getElem? (i := 1022) (by decide +kernel), List.mem_of_getElem? (i := 1407) (by decide +kernel), List.mem_of_getElem? (i := 1408) (by decide +kernel)⟩
theorem lw_p71 : lw_okq (⟨"WeatherChessModel", "told", "(JII)J"⟩, 43) := ⟨⟨by decide +kernel, by decide +kernel⟩, List.mem_of_getElem? (i := 1022) (by decide +kernel), List.mem_of_getElem? (i := 1411) (by decide +kernel), List.mem_of_getElem? (i := 1412) (by decide +kernel)⟩
theorem lw_p72 : lw_okq (⟨"WeatherChessModel", "windOf", "(III)J"⟩, 43) := ⟨⟨by decide +kernel, by decide +kernel⟩, List.mem_of_getElem? (i := 1022) (by decide +kernel), List.mem_of_getElem? (i := 1423) (by decide +kernel), List.mem_of_getElem? (i := 1424) (by decide +kernel)⟩
theorem lw_p73 : lw_okq (⟨"WeatherChessModel", "findRows", "(II)V"⟩, 43) := ⟨⟨by decide +kernel, by decide +kernel⟩, List.mem_of_getElem? (i := 1022) (by decide +kernel), List.mem_of_getElem? (i := 1441) (by decide +kernel), List.mem_of_getElem? (i := 1442) (by decide +kernel)⟩
theorem lw_p74 : lw_okq (⟨"WeatherChessModel", "leaf", "(II)V"⟩, 43) := ⟨⟨by decide +kernel, by decide +kernel⟩, List.mem_of_getElem? (i := 1022) (by decide +kernel), List.mem_of_getElem? (i := 1445) (by decide +kernel), List.mem_of_getElem? (i := 1446) (by decide +kernel)⟩
theorem lw_p75 : lw_okq (⟨"WeatherChessModel", "isAsNow", "()Z"⟩, 43) := ⟨⟨by decide +kernel, by decide +kernel⟩, List.mem_of_getElem? (i := 1022) (by decide +kernel), List.mem_of_getElem? (i := 1449) (by decide +kernel), List.mem_of_getElem? (i := 1450) (by decide +kernel)⟩
theorem lw_p76 : lw_okq (⟨"WeatherChessModel", "isAsSeen", "()Z"⟩, 43) := ⟨⟨by decide +kernel, by decide +kernel⟩, List.mem_of_getElem? (i := 1022) (by decide +kernel), List.mem_of_getElem? (i := 1453) (by decide +kernel), List.mem_of_getElem? (i := 1454) (by decide +kernel)⟩
theorem lw_p77 : lw_okq (⟨"WeatherChessModel", "enters", "(II)V"⟩, 43) := ⟨⟨by decide +kernel, by decide +kernel⟩, List.mem_of_getElem? (i := 1022) (by decide +kernel), List.mem_of_getElem? (i := 1458) (by decide +kernel), List.mem_of_getElem? (i := 1459) (by decide +kernel)⟩
theorem lw_p78 : lw_okq (⟨"WeatherChessModel", "blownOf", "(II)I"⟩, 43) := ⟨⟨by decide +kernel, by decide +kernel⟩, List.mem_of_getElem? (i := 1022) (by decide +kernel), List.mem_of_getElem? (i := 1491) (by decide +kernel), List.mem_of_getElem? (i := 1492) (by decide +kernel)⟩
theorem lw_p79 : lw_okq (⟨"WeatherChessModel", "copies", "(II)V"⟩, 43) := ⟨⟨by decide +kernel, by decide +kernel⟩, List.mem_of_getElem? (i := 1022) (by decide +kernel), List.mem_of_getElem? (i := 1505) (by decide +kernel), List.mem_of_getElem? (i := 1506) (by decide +kernel)⟩
def lw_privs_5 : List (MethodName × Nat) := [(⟨"WeatherChessModel", "one", "(I)J"⟩, 43), (⟨"WeatherChessModel", "windOfOne", "(II)J"⟩, 43), (⟨"WeatherChessModel", "saves", "(I)V"⟩, 43), (⟨"WeatherChessModel", "returns", "(I)V"⟩, 43), (⟨"WeatherChessModel", "two", "(I)J"⟩, 43), (⟨"WeatherChessModel", "windOfTwo", "(II)J"⟩, 43), (⟨"WeatherChessModel", "windOfThree", "(II)J"⟩, 43), (⟨"WeatherChessModel", "told", "(JII)J"⟩, 43), (⟨"WeatherChessModel", "windOf", "(III)J"⟩, 43), (⟨"WeatherChessModel", "findRows", "(II)V"⟩, 43), (⟨"WeatherChessModel", "leaf", "(II)V"⟩, 43), (⟨"WeatherChessModel", "isAsNow", "()Z"⟩, 43), (⟨"WeatherChessModel", "isAsSeen", "()Z"⟩, 43), (⟨"WeatherChessModel", "enters", "(II)V"⟩, 43), (⟨"WeatherChessModel", "blownOf", "(II)I"⟩, 43), (⟨"WeatherChessModel", "copies", "(II)V"⟩, 43)]
theorem lw_r5 : ∀ q ∈ lw_privs_5, lw_okq q := List.forall_mem_cons.mpr ⟨lw_p64, List.forall_mem_cons.mpr ⟨lw_p65, List.forall_mem_cons.mpr ⟨lw_p66, List.forall_mem_cons.mpr ⟨lw_p67, List.forall_mem_cons.mpr ⟨lw_p68, List.forall_mem_cons.mpr ⟨lw_p69, List.forall_mem_cons.mpr ⟨lw_p70, List.forall_mem_cons.mpr ⟨lw_p71, List.forall_mem_cons.mpr ⟨lw_p72, List.forall_mem_cons.mpr ⟨lw_p73, List.forall_mem_cons.mpr ⟨lw_p74, List.forall_mem_cons.mpr ⟨lw_p75, List.forall_mem_cons.mpr ⟨lw_p76, List.forall_mem_cons.mpr ⟨lw_p77, List.forall_mem_cons.mpr ⟨lw_p78, List.forall_mem_cons.mpr ⟨lw_p79, fun _ h => absurd h List.not_mem_nil⟩⟩⟩⟩⟩⟩⟩⟩⟩⟩⟩⟩⟩⟩⟩⟩
def lw_privs : List (MethodName × Nat) := lw_privs_1 ++ (lw_privs_2 ++ (lw_privs_3 ++ (lw_privs_4 ++ (lw_privs_5))))
def lw_tbl : List Cond := k2_sels lw_privs ++ tables_1
theorem lw_privs_ok : ∀ q ∈ lw_privs, lw_okq q := by
  show ∀ q ∈ lw_privs_1 ++ (lw_privs_2 ++ (lw_privs_3 ++ (lw_privs_4 ++ (lw_privs_5)))), lw_okq q
  exact List.forall_mem_append.mpr ⟨lw_r1, List.forall_mem_append.mpr ⟨lw_r2, List.forall_mem_append.mpr ⟨lw_r3, List.forall_mem_append.mpr ⟨lw_r4, lw_r5⟩⟩⟩⟩

def RX0 : String := "WeatherChess$AsSeen"
def TX0 : u_T := fun k => match k with
  | 0 => ("WeatherChess$AsSeen", "wanted", "[I", true)
  | _ => ("WeatherChess$AsSeen", "empty", "I", false)
def tyX0 : Nat → FieldType := fun k => match k with
  | 0 => .array .int
  | _ => .int
theorem nmX0 : ∀ a, a < 2 → ∀ b, b < 2 → a ≠ b → (TX0 a).2.1 ≠ (TX0 b).2.1 := by decide +kernel
theorem tyX0_ok : ∀ k, k < 2 → parseFieldDescriptor (TX0 k).2.2.1 = some (tyX0 k) := by decide +kernel
abbrev cX0_init : ByteArray := prog_2_method_1_code
def yX0_init : MethodName := ⟨RX0, "<init>", "()V"⟩
abbrev cX0_aim : ByteArray := prog_2_method_2_code
def yX0_aim : MethodName := ⟨RX0, "aim", "(LWeatherChess$Game;)V"⟩
abbrev cX0_mayCome : ByteArray := prog_2_method_3_code
def yX0_mayCome : MethodName := ⟨RX0, "mayCome", "(LWeatherChess$Stand;I)Z"⟩
def RX1 : String := "WeatherChess$Blowing"
def TX1 : u_T := fun k => match k with
  | 0 => ("WeatherChess$Blowing", "tried", "[I", true)
  | 1 => ("WeatherChess$Blowing", "found", "[I", true)
  | _ => ("WeatherChess$Blowing", "fewest", "I", false)
def tyX1 : Nat → FieldType := fun k => match k with
  | 0 => .array .int
  | 1 => .array .int
  | _ => .int
theorem nmX1 : ∀ a, a < 3 → ∀ b, b < 3 → a ≠ b → (TX1 a).2.1 ≠ (TX1 b).2.1 := by decide +kernel
theorem tyX1_ok : ∀ k, k < 3 → parseFieldDescriptor (TX1 k).2.2.1 = some (tyX1 k) := by decide +kernel
abbrev cX1_init : ByteArray := prog_3_method_1_code
def yX1_init : MethodName := ⟨RX1, "<init>", "()V"⟩
abbrev cX1_find : ByteArray := prog_3_method_2_code
def yX1_find : MethodName := ⟨RX1, "find", "(LWeatherChess$Game;LWeatherChess$Step;)V"⟩
abbrev cX1_spell : ByteArray := prog_3_method_3_code
def yX1_spell : MethodName := ⟨RX1, "spell", "(LWeatherChess$Game;I)I"⟩
abbrev cX1_windAt : ByteArray := prog_3_method_4_code
def yX1_windAt : MethodName := ⟨RX1, "windAt", "(I)I"⟩
def RX2 : String := "WeatherChess$Ending"
def TX2 : u_T := fun k => match k with
  | _ => ("", "", "", false)
def tyX2 : Nat → FieldType := fun k => match k with
  | _ => .int
theorem nmX2 : ∀ a, a < 0 → ∀ b, b < 0 → a ≠ b → (TX2 a).2.1 ≠ (TX2 b).2.1 := by decide +kernel
theorem tyX2_ok : ∀ k, k < 0 → parseFieldDescriptor (TX2 k).2.2.1 = some (tyX2 k) := by decide +kernel
abbrev cX2_init : ByteArray := prog_4_method_1_code
def yX2_init : MethodName := ⟨RX2, "<init>", "()V"⟩
def RX3 : String := "WeatherChess$Game"
def TX3 : u_T := fun k => match k with
  | 0 => ("WeatherChess$Game", "roofs", "LWeatherChess$Roofs;", true)
  | 1 => ("WeatherChess$Game", "stand", "LWeatherChess$Stand;", true)
  | 2 => ("WeatherChess$Game", "seenSquares", "[I", true)
  | 3 => ("WeatherChess$Game", "seenSides", "[I", true)
  | 4 => ("WeatherChess$Game", "toldWinds", "[I", true)
  | 5 => ("WeatherChess$Game", "turns", "I", false)
  | 6 => ("WeatherChess$Game", "seen", "I", false)
  | _ => ("WeatherChess$Game", "told", "I", false)
def tyX3 : Nat → FieldType := fun k => match k with
  | 0 => .object "WeatherChess$Roofs"
  | 1 => .object "WeatherChess$Stand"
  | 2 => .array .int
  | 3 => .array .int
  | 4 => .array .int
  | 5 => .int
  | 6 => .int
  | _ => .int
theorem nmX3 : ∀ a, a < 8 → ∀ b, b < 8 → a ≠ b → (TX3 a).2.1 ≠ (TX3 b).2.1 := by decide +kernel
theorem tyX3_ok : ∀ k, k < 8 → parseFieldDescriptor (TX3 k).2.2.1 = some (tyX3 k) := by decide +kernel
abbrev cX3_init : ByteArray := prog_5_method_1_code
def yX3_init : MethodName := ⟨RX3, "<init>", "()V"⟩
abbrev cX3_clear : ByteArray := prog_5_method_2_code
def yX3_clear : MethodName := ⟨RX3, "clear", "()V"⟩
abbrev cX3_copyFrom : ByteArray := prog_5_method_3_code
def yX3_copyFrom : MethodName := ⟨RX3, "copyFrom", "(LWeatherChess$Game;)V"⟩
abbrev cX3_addPiece : ByteArray := prog_5_method_4_code
def yX3_addPiece : MethodName := ⟨RX3, "addPiece", "(IIII)V"⟩
abbrev cX3_addTwoKings : ByteArray := prog_5_method_5_code
def yX3_addTwoKings : MethodName := ⟨RX3, "addTwoKings", "()V"⟩
abbrev cX3_addSeen : ByteArray := prog_5_method_6_code
def yX3_addSeen : MethodName := ⟨RX3, "addSeen", "(II)Z"⟩
abbrev cX3_addTold : ByteArray := prog_5_method_7_code
def yX3_addTold : MethodName := ⟨RX3, "addTold", "(I)Z"⟩
abbrev cX3_toldAt : ByteArray := prog_5_method_8_code
def yX3_toldAt : MethodName := ⟨RX3, "toldAt", "(I)I"⟩
def RX4 : String := "WeatherChess$Reached"
def TX4 : u_T := fun k => match k with
  | 0 => ("WeatherChess$Reached", "roofs", "LWeatherChess$Roofs;", false)
  | _ => ("WeatherChess$Reached", "goal", "LWeatherChess$Stand;", false)
def tyX4 : Nat → FieldType := fun k => match k with
  | 0 => .object "WeatherChess$Roofs"
  | _ => .object "WeatherChess$Stand"
theorem nmX4 : ∀ a, a < 2 → ∀ b, b < 2 → a ≠ b → (TX4 a).2.1 ≠ (TX4 b).2.1 := by decide +kernel
theorem tyX4_ok : ∀ k, k < 2 → parseFieldDescriptor (TX4 k).2.2.1 = some (tyX4 k) := by decide +kernel
abbrev cX4_init : ByteArray := prog_6_method_1_code
def yX4_init : MethodName := ⟨RX4, "<init>", "()V"⟩
abbrev cX4_aim : ByteArray := prog_6_method_2_code
def yX4_aim : MethodName := ⟨RX4, "aim", "(LWeatherChess$Roofs;LWeatherChess$Stand;)V"⟩
abbrev cX4_mayCome : ByteArray := prog_6_method_3_code
def yX4_mayCome : MethodName := ⟨RX4, "mayCome", "(LWeatherChess$Stand;I)Z"⟩
def RX5 : String := "WeatherChess$Roofs"
def TX5 : u_T := fun k => match k with
  | 0 => ("WeatherChess$Roofs", "sides", "[I", true)
  | 1 => ("WeatherChess$Roofs", "kinds", "[I", true)
  | 2 => ("WeatherChess$Roofs", "odds", "[I", true)
  | 3 => ("WeatherChess$Roofs", "wide", "I", false)
  | 4 => ("WeatherChess$Roofs", "high", "I", false)
  | 5 => ("WeatherChess$Roofs", "steeples", "I", false)
  | _ => ("WeatherChess$Roofs", "pieces", "I", false)
def tyX5 : Nat → FieldType := fun k => match k with
  | 0 => .array .int
  | 1 => .array .int
  | 2 => .array .int
  | 3 => .int
  | 4 => .int
  | 5 => .int
  | _ => .int
theorem nmX5 : ∀ a, a < 7 → ∀ b, b < 7 → a ≠ b → (TX5 a).2.1 ≠ (TX5 b).2.1 := by decide +kernel
theorem tyX5_ok : ∀ k, k < 7 → parseFieldDescriptor (TX5 k).2.2.1 = some (tyX5 k) := by decide +kernel
abbrev cX5_init : ByteArray := prog_7_method_1_code
def yX5_init : MethodName := ⟨RX5, "<init>", "()V"⟩
abbrev cX5_clear : ByteArray := prog_7_method_2_code
def yX5_clear : MethodName := ⟨RX5, "clear", "()V"⟩
abbrev cX5_copyFrom : ByteArray := prog_7_method_3_code
def yX5_copyFrom : MethodName := ⟨RX5, "copyFrom", "(LWeatherChess$Roofs;)V"⟩
abbrev cX5_squares : ByteArray := prog_7_method_4_code
def yX5_squares : MethodName := ⟨RX5, "squares", "()I"⟩
abbrev cX5_isSquare : ByteArray := prog_7_method_5_code
def yX5_isSquare : MethodName := ⟨RX5, "isSquare", "(I)Z"⟩
abbrev cX5_isPiece : ByteArray := prog_7_method_6_code
def yX5_isPiece : MethodName := ⟨RX5, "isPiece", "(I)Z"⟩
abbrev cX5_sideOf : ByteArray := prog_7_method_7_code
def yX5_sideOf : MethodName := ⟨RX5, "sideOf", "(I)I"⟩
abbrev cX5_kindOf : ByteArray := prog_7_method_8_code
def yX5_kindOf : MethodName := ⟨RX5, "kindOf", "(I)I"⟩
abbrev cX5_oddsOf : ByteArray := prog_7_method_9_code
def yX5_oddsOf : MethodName := ⟨RX5, "oddsOf", "(I)I"⟩
abbrev cX5_setOdds : ByteArray := prog_7_method_10_code
def yX5_setOdds : MethodName := ⟨RX5, "setOdds", "(II)V"⟩
abbrev cX5_allOdds : ByteArray := prog_7_method_11_code
def yX5_allOdds : MethodName := ⟨RX5, "allOdds", "()I"⟩
abbrev cX5_windBy : ByteArray := prog_7_method_12_code
def yX5_windBy : MethodName := ⟨RX5, "windBy", "(I)I"⟩
abbrev cX5_isClosed : ByteArray := prog_7_method_13_code
def yX5_isClosed : MethodName := ⟨RX5, "isClosed", "(I)Z"⟩
abbrev cX5_close : ByteArray := prog_7_method_14_code
def yX5_close : MethodName := ⟨RX5, "close", "(IZ)V"⟩
abbrev cX5_nextSquare : ByteArray := prog_7_method_15_code
def yX5_nextSquare : MethodName := ⟨RX5, "nextSquare", "(II)I"⟩
abbrev cX5_bitOf : ByteArray := prog_7_method_16_code
def yX5_bitOf : MethodName := ⟨RX5, "bitOf", "(I)I"⟩
def RX6 : String := "WeatherChess$Rows"
def TX6 : u_T := fun k => match k with
  | 0 => ("WeatherChess$Rows", "reached", "LWeatherChess$Reached;", true)
  | 1 => ("WeatherChess$Rows", "asSeen", "LWeatherChess$AsSeen;", true)
  | 2 => ("WeatherChess$Rows", "firstLabels", "[I", true)
  | 3 => ("WeatherChess$Rows", "start", "LWeatherChess$Step;", false)
  | 4 => ("WeatherChess$Rows", "noted", "Z", false)
  | 5 => ("WeatherChess$Rows", "watched", "I", false)
  | _ => ("WeatherChess$Rows", "places", "I", false)
def tyX6 : Nat → FieldType := fun k => match k with
  | 0 => .object "WeatherChess$Reached"
  | 1 => .object "WeatherChess$AsSeen"
  | 2 => .array .int
  | 3 => .object "WeatherChess$Step"
  | 4 => .boolean
  | 5 => .int
  | _ => .int
theorem nmX6 : ∀ a, a < 7 → ∀ b, b < 7 → a ≠ b → (TX6 a).2.1 ≠ (TX6 b).2.1 := by decide +kernel
theorem tyX6_ok : ∀ k, k < 7 → parseFieldDescriptor (TX6 k).2.2.1 = some (tyX6 k) := by decide +kernel
abbrev cX6_init : ByteArray := prog_8_method_1_code
def yX6_init : MethodName := ⟨RX6, "<init>", "()V"⟩
abbrev cX6_find : ByteArray := prog_8_method_2_code
def yX6_find : MethodName := ⟨RX6, "find", "(LWeatherChess$Roofs;LWeatherChess$Stand;LWeatherChess$Ending;LWeatherChess$Step;I)I"⟩
abbrev cX6_note : ByteArray := prog_8_method_3_code
def yX6_note : MethodName := ⟨RX6, "note", "(LWeatherChess$Stand;)V"⟩
abbrev cX6_firstTurn : ByteArray := prog_8_method_4_code
def yX6_firstTurn : MethodName := ⟨RX6, "firstTurn", "(I)I"⟩
def RX7 : String := "WeatherChess$Sheets"
def TX7 : u_T := fun k => match k with
  | 0 => ("WeatherChess$Sheets", "lanes", "[I", true)
  | 1 => ("WeatherChess$Sheets", "sizes", "[I", true)
  | _ => ("WeatherChess$Sheets", "cells", "[[I", true)
def tyX7 : Nat → FieldType := fun k => match k with
  | 0 => .array .int
  | 1 => .array .int
  | _ => .array (.array .int)
theorem nmX7 : ∀ a, a < 3 → ∀ b, b < 3 → a ≠ b → (TX7 a).2.1 ≠ (TX7 b).2.1 := by decide +kernel
theorem tyX7_ok : ∀ k, k < 3 → parseFieldDescriptor (TX7 k).2.2.1 = some (tyX7 k) := by decide +kernel
abbrev cX7_init : ByteArray := prog_9_method_1_code
def yX7_init : MethodName := ⟨RX7, "<init>", "()V"⟩
abbrev cX7_renew : ByteArray := prog_9_method_2_code
def yX7_renew : MethodName := ⟨RX7, "renew", "(III)V"⟩
abbrev cX7_sizeOf : ByteArray := prog_9_method_3_code
def yX7_sizeOf : MethodName := ⟨RX7, "sizeOf", "(I)I"⟩
abbrev cX7_faultAt : ByteArray := prog_9_method_4_code
def yX7_faultAt : MethodName := ⟨RX7, "faultAt", "(II)I"⟩
abbrev cX7_faultAs : ByteArray := prog_9_method_5_code
def yX7_faultAs : MethodName := ⟨RX7, "faultAs", "(II)I"⟩
abbrev cX7_wholeTurns : ByteArray := prog_9_method_6_code
def yX7_wholeTurns : MethodName := ⟨RX7, "wholeTurns", "(III)I"⟩
abbrev cX7_cellAt : ByteArray := prog_9_method_7_code
def yX7_cellAt : MethodName := ⟨RX7, "cellAt", "(II)I"⟩
abbrev cX7_set : ByteArray := prog_9_method_8_code
def yX7_set : MethodName := ⟨RX7, "set", "(III)V"⟩
def RX8 : String := "WeatherChess$Stand"
def TX8 : u_T := fun k => match k with
  | 0 => ("WeatherChess$Stand", "places", "[I", true)
  | 1 => ("WeatherChess$Stand", "oils", "[I", true)
  | 2 => ("WeatherChess$Stand", "held", "[I", true)
  | _ => ("WeatherChess$Stand", "mover", "I", false)
def tyX8 : Nat → FieldType := fun k => match k with
  | 0 => .array .int
  | 1 => .array .int
  | 2 => .array .int
  | _ => .int
theorem nmX8 : ∀ a, a < 4 → ∀ b, b < 4 → a ≠ b → (TX8 a).2.1 ≠ (TX8 b).2.1 := by decide +kernel
theorem tyX8_ok : ∀ k, k < 4 → parseFieldDescriptor (TX8 k).2.2.1 = some (tyX8 k) := by decide +kernel
abbrev cX8_init : ByteArray := prog_10_method_1_code
def yX8_init : MethodName := ⟨RX8, "<init>", "()V"⟩
abbrev cX8_clear : ByteArray := prog_10_method_2_code
def yX8_clear : MethodName := ⟨RX8, "clear", "()V"⟩
abbrev cX8_copyFrom : ByteArray := prog_10_method_3_code
def yX8_copyFrom : MethodName := ⟨RX8, "copyFrom", "(LWeatherChess$Stand;)V"⟩
abbrev cX8_placeOf : ByteArray := prog_10_method_4_code
def yX8_placeOf : MethodName := ⟨RX8, "placeOf", "(I)I"⟩
abbrev cX8_oilOf : ByteArray := prog_10_method_5_code
def yX8_oilOf : MethodName := ⟨RX8, "oilOf", "(I)I"⟩
abbrev cX8_fill : ByteArray := prog_10_method_6_code
def yX8_fill : MethodName := ⟨RX8, "fill", "(II)V"⟩
abbrev cX8_heldBy : ByteArray := prog_10_method_7_code
def yX8_heldBy : MethodName := ⟨RX8, "heldBy", "(I)I"⟩
abbrev cX8_settle : ByteArray := prog_10_method_8_code
def yX8_settle : MethodName := ⟨RX8, "settle", "(LWeatherChess$Roofs;II)V"⟩
abbrev cX8_pieceOn : ByteArray := prog_10_method_9_code
def yX8_pieceOn : MethodName := ⟨RX8, "pieceOn", "(LWeatherChess$Roofs;I)I"⟩
abbrev cX8_kingOf : ByteArray := prog_10_method_10_code
def yX8_kingOf : MethodName := ⟨RX8, "kingOf", "(LWeatherChess$Roofs;I)I"⟩
abbrev cX8_lostSide : ByteArray := prog_10_method_11_code
def yX8_lostSide : MethodName := ⟨RX8, "lostSide", "(LWeatherChess$Roofs;)I"⟩
abbrev cX8_standing : ByteArray := prog_10_method_12_code
def yX8_standing : MethodName := ⟨RX8, "standing", "(LWeatherChess$Roofs;)I"⟩
abbrev cX8_allOil : ByteArray := prog_10_method_13_code
def yX8_allOil : MethodName := ⟨RX8, "allOil", "(LWeatherChess$Roofs;)I"⟩
abbrev cX8_listMoves : ByteArray := prog_10_method_14_code
def yX8_listMoves : MethodName := ⟨RX8, "listMoves", "(LWeatherChess$Roofs;I[I)I"⟩
abbrev cX8_targets : ByteArray := prog_10_method_15_code
def yX8_targets : MethodName := ⟨RX8, "targets", "(LWeatherChess$Roofs;II)I"⟩
abbrev cX8_run : ByteArray := prog_10_method_16_code
def yX8_run : MethodName := ⟨RX8, "run", "(LWeatherChess$Roofs;II)I"⟩
abbrev cX8_hop : ByteArray := prog_10_method_17_code
def yX8_hop : MethodName := ⟨RX8, "hop", "(LWeatherChess$Roofs;II)I"⟩
abbrev cX8_play : ByteArray := prog_10_method_18_code
def yX8_play : MethodName := ⟨RX8, "play", "(LWeatherChess$Roofs;II)I"⟩
abbrev cX8_burn : ByteArray := prog_10_method_19_code
def yX8_burn : MethodName := ⟨RX8, "burn", "(LWeatherChess$Roofs;I)V"⟩
def RX9 : String := "WeatherChess$Step"
def TX9 : u_T := fun k => match k with
  | 0 => ("WeatherChess$Step", "stand", "LWeatherChess$Stand;", true)
  | 1 => ("WeatherChess$Step", "moves", "[I", true)
  | 2 => ("WeatherChess$Step", "next", "LWeatherChess$Step;", true)
  | 3 => ("WeatherChess$Step", "label", "I", false)
  | _ => ("WeatherChess$Step", "choice", "I", false)
def tyX9 : Nat → FieldType := fun k => match k with
  | 0 => .object "WeatherChess$Stand"
  | 1 => .array .int
  | 2 => .object "WeatherChess$Step"
  | 3 => .int
  | _ => .int
theorem nmX9 : ∀ a, a < 5 → ∀ b, b < 5 → a ≠ b → (TX9 a).2.1 ≠ (TX9 b).2.1 := by decide +kernel
theorem tyX9_ok : ∀ k, k < 5 → parseFieldDescriptor (TX9 k).2.2.1 = some (tyX9 k) := by decide +kernel
abbrev cX9_init : ByteArray := prog_11_method_1_code
def yX9_init : MethodName := ⟨RX9, "<init>", "(LWeatherChess$Step;)V"⟩
abbrev cX9_moveAt : ByteArray := prog_11_method_2_code
def yX9_moveAt : MethodName := ⟨RX9, "moveAt", "(I)I"⟩
abbrev cX9_chooseKing : ByteArray := prog_11_method_3_code
def yX9_chooseKing : MethodName := ⟨RX9, "chooseKing", "(LWeatherChess$Roofs;I)Z"⟩
abbrev cX9_tread : ByteArray := prog_11_method_4_code
def yX9_tread : MethodName := ⟨RX9, "tread", "(LWeatherChess$Roofs;II)V"⟩
def RX10 : String := "WeatherChess$Tape"
def TX10 : u_T := fun k => match k with
  | 0 => ("WeatherChess$Tape", "bytes", "[B", true)
  | 1 => ("WeatherChess$Tape", "draft", "LWeatherChess$Game;", true)
  | 2 => ("WeatherChess$Tape", "length", "I", false)
  | 3 => ("WeatherChess$Tape", "lines", "I", false)
  | 4 => ("WeatherChess$Tape", "fault", "I", false)
  | 5 => ("WeatherChess$Tape", "faultPlace", "I", false)
  | 6 => ("WeatherChess$Tape", "boardTold", "Z", false)
  | 7 => ("WeatherChess$Tape", "oddsTold", "Z", false)
  | 8 => ("WeatherChess$Tape", "turnTold", "Z", false)
  | 9 => ("WeatherChess$Tape", "at", "I", false)
  | 10 => ("WeatherChess$Tape", "token", "I", false)
  | 11 => ("WeatherChess$Tape", "tokenPlace", "I", false)
  | _ => ("WeatherChess$Tape", "value", "I", false)
def tyX10 : Nat → FieldType := fun k => match k with
  | 0 => .array .byte
  | 1 => .object "WeatherChess$Game"
  | 2 => .int
  | 3 => .int
  | 4 => .int
  | 5 => .int
  | 6 => .boolean
  | 7 => .boolean
  | 8 => .boolean
  | 9 => .int
  | 10 => .int
  | 11 => .int
  | _ => .int
theorem nmX10 : ∀ a, a < 13 → ∀ b, b < 13 → a ≠ b → (TX10 a).2.1 ≠ (TX10 b).2.1 := by decide +kernel
theorem tyX10_ok : ∀ k, k < 13 → parseFieldDescriptor (TX10 k).2.2.1 = some (tyX10 k) := by decide +kernel
abbrev cX10_init : ByteArray := prog_12_method_1_code
def yX10_init : MethodName := ⟨RX10, "<init>", "()V"⟩
abbrev cX10_append : ByteArray := prog_12_method_2_code
def yX10_append : MethodName := ⟨RX10, "append", "(J)Z"⟩
abbrev cX10_tellAll : ByteArray := prog_12_method_3_code
def yX10_tellAll : MethodName := ⟨RX10, "tellAll", "()Z"⟩
abbrev cX10_fail : ByteArray := prog_12_method_4_code
def yX10_fail : MethodName := ⟨RX10, "fail", "(II)Z"⟩
abbrev cX10_readLine : ByteArray := prog_12_method_5_code
def yX10_readLine : MethodName := ⟨RX10, "readLine", "()Z"⟩
abbrev cX10_readBoard : ByteArray := prog_12_method_6_code
def yX10_readBoard : MethodName := ⟨RX10, "readBoard", "()Z"⟩
abbrev cX10_readSteeple : ByteArray := prog_12_method_7_code
def yX10_readSteeple : MethodName := ⟨RX10, "readSteeple", "()Z"⟩
abbrev cX10_readPiece : ByteArray := prog_12_method_8_code
def yX10_readPiece : MethodName := ⟨RX10, "readPiece", "()Z"⟩
abbrev cX10_readOdds : ByteArray := prog_12_method_9_code
def yX10_readOdds : MethodName := ⟨RX10, "readOdds", "()Z"⟩
abbrev cX10_readTurn : ByteArray := prog_12_method_10_code
def yX10_readTurn : MethodName := ⟨RX10, "readTurn", "()Z"⟩
abbrev cX10_readFreeSquare : ByteArray := prog_12_method_11_code
def yX10_readFreeSquare : MethodName := ⟨RX10, "readFreeSquare", "()Z"⟩
abbrev cX10_readNumber : ByteArray := prog_12_method_12_code
def yX10_readNumber : MethodName := ⟨RX10, "readNumber", "(II)Z"⟩
abbrev cX10_readSign : ByteArray := prog_12_method_13_code
def yX10_readSign : MethodName := ⟨RX10, "readSign", "()Z"⟩
abbrev cX10_kindNamed : ByteArray := prog_12_method_14_code
def yX10_kindNamed : MethodName := ⟨RX10, "kindNamed", "()I"⟩
abbrev cX10_isWhole : ByteArray := prog_12_method_15_code
def yX10_isWhole : MethodName := ⟨RX10, "isWhole", "()Z"⟩
abbrev cX10_hasItsSquares : ByteArray := prog_12_method_16_code
def yX10_hasItsSquares : MethodName := ⟨RX10, "hasItsSquares", "()Z"⟩
abbrev cX10_kings : ByteArray := prog_12_method_17_code
def yX10_kings : MethodName := ⟨RX10, "kings", "(I)I"⟩
abbrev cX10_readToken : ByteArray := prog_12_method_18_code
def yX10_readToken : MethodName := ⟨RX10, "readToken", "()Z"⟩
abbrev cX10_byteAt : ByteArray := prog_12_method_19_code
def yX10_byteAt : MethodName := ⟨RX10, "byteAt", "(I)I"⟩
abbrev cX10_endOfRun : ByteArray := prog_12_method_20_code
def yX10_endOfRun : MethodName := ⟨RX10, "endOfRun", "(ICC)I"⟩
abbrev cX10_isName : ByteArray := prog_12_method_21_code
def yX10_isName : MethodName := ⟨RX10, "isName", "(Ljava/lang/String;)Z"⟩
def RX11 : String := "WeatherChess"
def TX11 : u_T := fun k => match k with
  | 0 => ("WeatherChess", "now", "LWeatherChess$Game;", true)
  | 1 => ("WeatherChess", "images", "[LWeatherChess$Game;", true)
  | 2 => ("WeatherChess", "kept", "[Z", true)
  | 3 => ("WeatherChess", "tape", "LWeatherChess$Tape;", true)
  | 4 => ("WeatherChess", "start", "LWeatherChess$Step;", true)
  | 5 => ("WeatherChess", "rows", "LWeatherChess$Rows;", true)
  | 6 => ("WeatherChess", "blowing", "LWeatherChess$Blowing;", true)
  | 7 => ("WeatherChess", "sheets", "LWeatherChess$Sheets;", true)
  | 8 => ("WeatherChess", "before", "LWeatherChess$Stand;", true)
  | 9 => ("WeatherChess", "latestFault", "I", false)
  | _ => ("WeatherChess", "latestTorn", "I", false)
def tyX11 : Nat → FieldType := fun k => match k with
  | 0 => .object "WeatherChess$Game"
  | 1 => .array (.object "WeatherChess$Game")
  | 2 => .array .boolean
  | 3 => .object "WeatherChess$Tape"
  | 4 => .object "WeatherChess$Step"
  | 5 => .object "WeatherChess$Rows"
  | 6 => .object "WeatherChess$Blowing"
  | 7 => .object "WeatherChess$Sheets"
  | 8 => .object "WeatherChess$Stand"
  | 9 => .int
  | _ => .int
theorem nmX11 : ∀ a, a < 11 → ∀ b, b < 11 → a ≠ b → (TX11 a).2.1 ≠ (TX11 b).2.1 := by decide +kernel
theorem tyX11_ok : ∀ k, k < 11 → parseFieldDescriptor (TX11 k).2.2.1 = some (tyX11 k) := by decide +kernel
abbrev cX11_init : ByteArray := prog_1_method_1_code
def yX11_init : MethodName := ⟨RX11, "<init>", "()V"⟩
abbrev cX11_feed : ByteArray := prog_1_method_2_code
def yX11_feed : MethodName := ⟨RX11, "feed", "(J)I"⟩
abbrev cX11_end : ByteArray := prog_1_method_3_code
def yX11_end : MethodName := ⟨RX11, "end", "(I)I"⟩
abbrev cX11_text : ByteArray := prog_1_method_4_code
def yX11_text : MethodName := ⟨RX11, "text", "()I"⟩
abbrev cX11_fault : ByteArray := prog_1_method_5_code
def yX11_fault : MethodName := ⟨RX11, "fault", "()I"⟩
abbrev cX11_rule : ByteArray := prog_1_method_6_code
def yX11_rule : MethodName := ⟨RX11, "rule", "(I)I"⟩
abbrev cX11_square : ByteArray := prog_1_method_7_code
def yX11_square : MethodName := ⟨RX11, "square", "(I)I"⟩
abbrev cX11_piece : ByteArray := prog_1_method_8_code
def yX11_piece : MethodName := ⟨RX11, "piece", "(II)I"⟩
abbrev cX11_odd : ByteArray := prog_1_method_9_code
def yX11_odd : MethodName := ⟨RX11, "odd", "(I)I"⟩
abbrev cX11_oil : ByteArray := prog_1_method_10_code
def yX11_oil : MethodName := ⟨RX11, "oil", "(II)I"⟩
abbrev cX11_put : ByteArray := prog_1_method_11_code
def yX11_put : MethodName := ⟨RX11, "put", "(II)I"⟩
abbrev cX11_steeple : ByteArray := prog_1_method_12_code
def yX11_steeple : MethodName := ⟨RX11, "steeple", "(IZ)I"⟩
abbrev cX11_weigh : ByteArray := prog_1_method_13_code
def yX11_weigh : MethodName := ⟨RX11, "weigh", "(II)I"⟩
abbrev cX11_turn : ByteArray := prog_1_method_14_code
def yX11_turn : MethodName := ⟨RX11, "turn", "(I)I"⟩
abbrev cX11_moves : ByteArray := prog_1_method_15_code
def yX11_moves : MethodName := ⟨RX11, "moves", "(I)I"⟩
abbrev cX11_move : ByteArray := prog_1_method_16_code
def yX11_move : MethodName := ⟨RX11, "move", "(II)I"⟩
abbrev cX11_go : ByteArray := prog_1_method_17_code
def yX11_go : MethodName := ⟨RX11, "go", "(II)I"⟩
abbrev cX11_chance : ByteArray := prog_1_method_18_code
def yX11_chance : MethodName := ⟨RX11, "chance", "(III)J"⟩
abbrev cX11_byWind : ByteArray := prog_1_method_19_code
def yX11_byWind : MethodName := ⟨RX11, "byWind", "(III)J"⟩
abbrev cX11_best : ByteArray := prog_1_method_20_code
def yX11_best : MethodName := ⟨RX11, "best", "(II)I"⟩
abbrev cX11_hope : ByteArray := prog_1_method_21_code
def yX11_hope : MethodName := ⟨RX11, "hope", "(I)I"⟩
abbrev cX11_since : ByteArray := prog_1_method_22_code
def yX11_since : MethodName := ⟨RX11, "since", "(III)I"⟩
abbrev cX11_see : ByteArray := prog_1_method_23_code
def yX11_see : MethodName := ⟨RX11, "see", "(II)I"⟩
abbrev cX11_forget : ByteArray := prog_1_method_24_code
def yX11_forget : MethodName := ⟨RX11, "forget", "(I)I"⟩
abbrev cX11_fits : ByteArray := prog_1_method_25_code
def yX11_fits : MethodName := ⟨RX11, "fits", "(I)I"⟩
abbrev cX11_where : ByteArray := prog_1_method_26_code
def yX11_where : MethodName := ⟨RX11, "where", "(II)I"⟩
abbrev cX11_tell : ByteArray := prog_1_method_27_code
def yX11_tell : MethodName := ⟨RX11, "tell", "(I)I"⟩
abbrev cX11_drop : ByteArray := prog_1_method_28_code
def yX11_drop : MethodName := ⟨RX11, "drop", "(I)I"⟩
abbrev cX11_blow : ByteArray := prog_1_method_29_code
def yX11_blow : MethodName := ⟨RX11, "blow", "(I)I"⟩
abbrev cX11_gale : ByteArray := prog_1_method_30_code
def yX11_gale : MethodName := ⟨RX11, "gale", "(III)I"⟩
abbrev cX11_keep : ByteArray := prog_1_method_31_code
def yX11_keep : MethodName := ⟨RX11, "keep", "(I)I"⟩
abbrev cX11_back : ByteArray := prog_1_method_32_code
def yX11_back : MethodName := ⟨RX11, "back", "(I)I"⟩
abbrev cX11_sheet : ByteArray := prog_1_method_33_code
def yX11_sheet : MethodName := ⟨RX11, "sheet", "(III)I"⟩
abbrev cX11_lay : ByteArray := prog_1_method_34_code
def yX11_lay : MethodName := ⟨RX11, "lay", "(III)I"⟩
abbrev cX11_read : ByteArray := prog_1_method_35_code
def yX11_read : MethodName := ⟨RX11, "read", "(IIII)I"⟩
abbrev cX11_torn : ByteArray := prog_1_method_36_code
def yX11_torn : MethodName := ⟨RX11, "torn", "()I"⟩
abbrev cX11_count : ByteArray := prog_1_method_37_code
def yX11_count : MethodName := ⟨RX11, "count", "(I)I"⟩
abbrev cX11_isSide : ByteArray := prog_1_method_38_code
def yX11_isSide : MethodName := ⟨RX11, "isSide", "(I)Z"⟩
abbrev cX11_isWind : ByteArray := prog_1_method_39_code
def yX11_isWind : MethodName := ⟨RX11, "isWind", "(I)Z"⟩
abbrev cX11_isAhead : ByteArray := prog_1_method_40_code
def yX11_isAhead : MethodName := ⟨RX11, "isAhead", "(I)Z"⟩
abbrev cX11_isPart : ByteArray := prog_1_method_41_code
def yX11_isPart : MethodName := ⟨RX11, "isPart", "(I)Z"⟩
abbrev cX11_isAsked : ByteArray := prog_1_method_42_code
def yX11_isAsked : MethodName := ⟨RX11, "isAsked", "(I)Z"⟩
abbrev cX11_isImage : ByteArray := prog_1_method_43_code
def yX11_isImage : MethodName := ⟨RX11, "isImage", "(I)Z"⟩
abbrev cX11_isSheet : ByteArray := prog_1_method_44_code
def yX11_isSheet : MethodName := ⟨RX11, "isSheet", "(I)Z"⟩
abbrev cX11_isLane : ByteArray := prog_1_method_45_code
def yX11_isLane : MethodName := ⟨RX11, "isLane", "(I)Z"⟩
abbrev cX11_isOver : ByteArray := prog_1_method_46_code
def yX11_isOver : MethodName := ⟨RX11, "isOver", "()Z"⟩
abbrev cX11_imageAt : ByteArray := prog_1_method_47_code
def yX11_imageAt : MethodName := ⟨RX11, "imageAt", "(I)LWeatherChess$Game;"⟩
abbrev cX11_listNow : ByteArray := prog_1_method_48_code
def yX11_listNow : MethodName := ⟨RX11, "listNow", "(I)I"⟩
abbrev cX11_playNow : ByteArray := prog_1_method_49_code
def yX11_playNow : MethodName := ⟨RX11, "playNow", "(II)I"⟩
abbrev cX11_playSheet : ByteArray := prog_1_method_50_code
def yX11_playSheet : MethodName := ⟨RX11, "playSheet", "(III)I"⟩
abbrev cX11_findFits : ByteArray := prog_1_method_51_code
def yX11_findFits : MethodName := ⟨RX11, "findFits", "(II)I"⟩
abbrev cX11_likelyNow : ByteArray := prog_1_method_52_code
def yX11_likelyNow : MethodName := ⟨RX11, "likelyNow", "(II)J"⟩
abbrev cX11_chain : ByteArray := prog_1_method_53_code
def yX11_chain : MethodName := ⟨RX11, "chain", "(I)LWeatherChess$Step;"⟩
abbrev cX11_power : ByteArray := prog_1_method_54_code
def yX11_power : MethodName := ⟨RX11, "power", "(II)J"⟩
abbrev cX11_part : ByteArray := prog_1_method_55_code
def yX11_part : MethodName := ⟨RX11, "part", "(JJI)J"⟩
abbrev cX11_greatestShared : ByteArray := prog_1_method_56_code
def yX11_greatestShared : MethodName := ⟨RX11, "greatestShared", "(JJ)J"⟩
abbrev cX11_likely : ByteArray := prog_1_method_57_code
def yX11_likely : MethodName := ⟨RX11, "likely", "(LWeatherChess$Roofs;ILWeatherChess$Step;I)J"⟩
abbrev cX11_likelyBy : ByteArray := prog_1_method_58_code
def yX11_likelyBy : MethodName := ⟨RX11, "likelyBy", "(LWeatherChess$Roofs;ILWeatherChess$Step;II)J"⟩
abbrev cX11_countRows : ByteArray := prog_1_method_59_code
def yX11_countRows : MethodName := ⟨RX11, "countRows", "(LWeatherChess$Rows;LWeatherChess$Ending;LWeatherChess$Roofs;LWeatherChess$Step;I)I"⟩
abbrev cX11_canTake : ByteArray := prog_1_method_60_code
def yX11_canTake : MethodName := ⟨RX11, "canTake", "(LWeatherChess$Roofs;ILWeatherChess$Step;[III)Z"⟩
def RX12 : String := "WeatherChessModel"
def TX12 : u_T := fun k => match k with
  | 0 => ("WeatherChessModel", "st", "[I", true)
  | 1 => ("WeatherChessModel", "isKept", "[Z", true)
  | 2 => ("WeatherChessModel", "wide", "I", false)
  | 3 => ("WeatherChessModel", "high", "I", false)
  | 4 => ("WeatherChessModel", "pieces", "I", false)
  | 5 => ("WeatherChessModel", "sideOf", "[I", true)
  | 6 => ("WeatherChessModel", "kindOf", "[I", true)
  | 7 => ("WeatherChessModel", "draft", "[I", true)
  | 8 => ("WeatherChessModel", "dWide", "I", false)
  | 9 => ("WeatherChessModel", "dHigh", "I", false)
  | 10 => ("WeatherChessModel", "dPieces", "I", false)
  | 11 => ("WeatherChessModel", "dSide", "[I", true)
  | 12 => ("WeatherChessModel", "dKind", "[I", true)
  | 13 => ("WeatherChessModel", "toldLines", "I", false)
  | 14 => ("WeatherChessModel", "highest", "I", false)
  | 15 => ("WeatherChessModel", "tape", "[I", true)
  | 16 => ("WeatherChessModel", "taped", "I", false)
  | 17 => ("WeatherChessModel", "pos", "I", false)
  | 18 => ("WeatherChessModel", "from", "I", false)
  | 19 => ("WeatherChessModel", "sort", "I", false)
  | 20 => ("WeatherChessModel", "value", "I", false)
  | 21 => ("WeatherChessModel", "fault", "I", false)
  | 22 => ("WeatherChessModel", "wrongAt", "I", false)
  | 23 => ("WeatherChessModel", "sq", "[I", true)
  | 24 => ("WeatherChessModel", "oils", "[I", true)
  | 25 => ("WeatherChessModel", "mover", "I", false)
  | 26 => ("WeatherChessModel", "moveRow", "[I", true)
  | 27 => ("WeatherChessModel", "moveMany", "[I", true)
  | 28 => ("WeatherChessModel", "boards", "[I", true)
  | 29 => ("WeatherChessModel", "bestMove", "I", false)
  | 30 => ("WeatherChessModel", "windAt", "[I", true)
  | 31 => ("WeatherChessModel", "moveAt", "[I", true)
  | 32 => ("WeatherChessModel", "winds", "[I", true)
  | 33 => ("WeatherChessModel", "firstRow", "[I", true)
  | 34 => ("WeatherChessModel", "rowMany", "I", false)
  | 35 => ("WeatherChessModel", "whereBits", "I", false)
  | 36 => ("WeatherChessModel", "wherePiece", "I", false)
  | 37 => ("WeatherChessModel", "isTaken", "Z", false)
  | 38 => ("WeatherChessModel", "lanes", "[I", true)
  | 39 => ("WeatherChessModel", "sizes", "[I", true)
  | 40 => ("WeatherChessModel", "cells", "[I", true)
  | 41 => ("WeatherChessModel", "torn", "I", false)
  | _ => ("WeatherChessModel", "had", "[I", true)
def tyX12 : Nat → FieldType := fun k => match k with
  | 0 => .array .int
  | 1 => .array .boolean
  | 2 => .int
  | 3 => .int
  | 4 => .int
  | 5 => .array .int
  | 6 => .array .int
  | 7 => .array .int
  | 8 => .int
  | 9 => .int
  | 10 => .int
  | 11 => .array .int
  | 12 => .array .int
  | 13 => .int
  | 14 => .int
  | 15 => .array .int
  | 16 => .int
  | 17 => .int
  | 18 => .int
  | 19 => .int
  | 20 => .int
  | 21 => .int
  | 22 => .int
  | 23 => .array .int
  | 24 => .array .int
  | 25 => .int
  | 26 => .array .int
  | 27 => .array .int
  | 28 => .array .int
  | 29 => .int
  | 30 => .array .int
  | 31 => .array .int
  | 32 => .array .int
  | 33 => .array .int
  | 34 => .int
  | 35 => .int
  | 36 => .int
  | 37 => .boolean
  | 38 => .array .int
  | 39 => .array .int
  | 40 => .array .int
  | 41 => .int
  | _ => .array .int
theorem nmX12 : ∀ a, a < 43 → ∀ b, b < 43 → a ≠ b → (TX12 a).2.1 ≠ (TX12 b).2.1 := by decide +kernel
theorem tyX12_ok : ∀ k, k < 43 → parseFieldDescriptor (TX12 k).2.2.1 = some (tyX12 k) := by decide +kernel
abbrev cX12_init : ByteArray := prog_14_method_1_code
def yX12_init : MethodName := ⟨RX12, "<init>", "()V"⟩
abbrev cX12_in : ByteArray := prog_14_method_3_code
def yX12_in : MethodName := ⟨RX12, "in", "(JJJ)Z"⟩
abbrev cX12_flag : ByteArray := prog_14_method_4_code
def yX12_flag : MethodName := ⟨RX12, "flag", "(Z)I"⟩
abbrev cX12_firstDraft : ByteArray := prog_14_method_5_code
def yX12_firstDraft : MethodName := ⟨RX12, "firstDraft", "()V"⟩
abbrev cX12_twoKings : ByteArray := prog_14_method_6_code
def yX12_twoKings : MethodName := ⟨RX12, "twoKings", "()V"⟩
abbrev cX12_keepDraft : ByteArray := prog_14_method_7_code
def yX12_keepDraft : MethodName := ⟨RX12, "keepDraft", "()V"⟩
abbrev cX12_feed : ByteArray := prog_14_method_8_code
def yX12_feed : MethodName := ⟨RX12, "feed", "(J)I"⟩
abbrev cX12_end : ByteArray := prog_14_method_9_code
def yX12_end : MethodName := ⟨RX12, "end", "(I)I"⟩
abbrev cX12_needs : ByteArray := prog_14_method_10_code
def yX12_needs : MethodName := ⟨RX12, "needs", "(ZI)V"⟩
abbrev cX12_look : ByteArray := prog_14_method_11_code
def yX12_look : MethodName := ⟨RX12, "look", "(I)I"⟩
abbrev cX12_is : ByteArray := prog_14_method_12_code
def yX12_is : MethodName := ⟨RX12, "is", "(IIII)Z"⟩
abbrev cX12_ends : ByteArray := prog_14_method_13_code
def yX12_ends : MethodName := ⟨RX12, "ends", "(III)Z"⟩
abbrev cX12_lineNow : ByteArray := prog_14_method_14_code
def yX12_lineNow : MethodName := ⟨RX12, "lineNow", "()I"⟩
abbrev cX12_kindNow : ByteArray := prog_14_method_15_code
def yX12_kindNow : MethodName := ⟨RX12, "kindNow", "()I"⟩
abbrev cX12_next : ByteArray := prog_14_method_16_code
def yX12_next : MethodName := ⟨RX12, "next", "()V"⟩
abbrev cX12_looked : ByteArray := prog_14_method_17_code
def yX12_looked : MethodName := ⟨RX12, "looked", "(II)I"⟩
abbrev cX12_readNumber : ByteArray := prog_14_method_18_code
def yX12_readNumber : MethodName := ⟨RX12, "readNumber", "(II)I"⟩
abbrev cX12_readFree : ByteArray := prog_14_method_19_code
def yX12_readFree : MethodName := ⟨RX12, "readFree", "()I"⟩
abbrev cX12_readOdds : ByteArray := prog_14_method_20_code
def yX12_readOdds : MethodName := ⟨RX12, "readOdds", "()V"⟩
abbrev cX12_readPiece : ByteArray := prog_14_method_21_code
def yX12_readPiece : MethodName := ⟨RX12, "readPiece", "()V"⟩
abbrev cX12_readLineOf : ByteArray := prog_14_method_22_code
def yX12_readLineOf : MethodName := ⟨RX12, "readLineOf", "(I)V"⟩
abbrev cX12_readLine : ByteArray := prog_14_method_23_code
def yX12_readLine : MethodName := ⟨RX12, "readLine", "()V"⟩
abbrev cX12_kingsOf : ByteArray := prog_14_method_24_code
def yX12_kingsOf : MethodName := ⟨RX12, "kingsOf", "(I)I"⟩
abbrev cX12_looksAtAll : ByteArray := prog_14_method_25_code
def yX12_looksAtAll : MethodName := ⟨RX12, "looksAtAll", "()V"⟩
abbrev cX12_text : ByteArray := prog_14_method_26_code
def yX12_text : MethodName := ⟨RX12, "text", "()I"⟩
abbrev cX12_fault : ByteArray := prog_14_method_27_code
def yX12_fault : MethodName := ⟨RX12, "fault", "()I"⟩
abbrev cX12_isSquare : ByteArray := prog_14_method_28_code
def yX12_isSquare : MethodName := ⟨RX12, "isSquare", "(I)Z"⟩
abbrev cX12_isPiece : ByteArray := prog_14_method_29_code
def yX12_isPiece : MethodName := ⟨RX12, "isPiece", "(I)Z"⟩
abbrev cX12_isWind : ByteArray := prog_14_method_30_code
def yX12_isWind : MethodName := ⟨RX12, "isWind", "(I)Z"⟩
abbrev cX12_starts : ByteArray := prog_14_method_31_code
def yX12_starts : MethodName := ⟨RX12, "starts", "()V"⟩
abbrev cX12_pieceAt : ByteArray := prog_14_method_32_code
def yX12_pieceAt : MethodName := ⟨RX12, "pieceAt", "(I)I"⟩
abbrev cX12_lost : ByteArray := prog_14_method_33_code
def yX12_lost : MethodName := ⟨RX12, "lost", "()I"⟩
abbrev cX12_onTo : ByteArray := prog_14_method_34_code
def yX12_onTo : MethodName := ⟨RX12, "onTo", "(IIII)I"⟩
abbrev cX12_isOpen : ByteArray := prog_14_method_35_code
def yX12_isOpen : MethodName := ⟨RX12, "isOpen", "(I)Z"⟩
abbrev cX12_targets : ByteArray := prog_14_method_36_code
def yX12_targets : MethodName := ⟨RX12, "targets", "(II)I"⟩
abbrev cX12_ownGone : ByteArray := prog_14_method_37_code
def yX12_ownGone : MethodName := ⟨RX12, "ownGone", "(I)I"⟩
abbrev cX12_findMoves : ByteArray := prog_14_method_38_code
def yX12_findMoves : MethodName := ⟨RX12, "findMoves", "(II)V"⟩
abbrev cX12_saves : ByteArray := prog_14_method_39_code
def yX12_saves : MethodName := ⟨RX12, "saves", "(I)V"⟩
abbrev cX12_returns : ByteArray := prog_14_method_40_code
def yX12_returns : MethodName := ⟨RX12, "returns", "(I)V"⟩
abbrev cX12_goes : ByteArray := prog_14_method_41_code
def yX12_goes : MethodName := ⟨RX12, "goes", "(II)I"⟩
abbrev cX12_rule : ByteArray := prog_14_method_42_code
def yX12_rule : MethodName := ⟨RX12, "rule", "(I)I"⟩
abbrev cX12_square : ByteArray := prog_14_method_43_code
def yX12_square : MethodName := ⟨RX12, "square", "(I)I"⟩
abbrev cX12_piece : ByteArray := prog_14_method_44_code
def yX12_piece : MethodName := ⟨RX12, "piece", "(II)I"⟩
abbrev cX12_odd : ByteArray := prog_14_method_45_code
def yX12_odd : MethodName := ⟨RX12, "odd", "(I)I"⟩
abbrev cX12_becomes : ByteArray := prog_14_method_46_code
def yX12_becomes : MethodName := ⟨RX12, "becomes", "(II)I"⟩
abbrev cX12_oil : ByteArray := prog_14_method_47_code
def yX12_oil : MethodName := ⟨RX12, "oil", "(II)I"⟩
abbrev cX12_put : ByteArray := prog_14_method_48_code
def yX12_put : MethodName := ⟨RX12, "put", "(II)I"⟩
abbrev cX12_steeple : ByteArray := prog_14_method_49_code
def yX12_steeple : MethodName := ⟨RX12, "steeple", "(IZ)I"⟩
abbrev cX12_allOdds : ByteArray := prog_14_method_50_code
def yX12_allOdds : MethodName := ⟨RX12, "allOdds", "()I"⟩
abbrev cX12_weigh : ByteArray := prog_14_method_51_code
def yX12_weigh : MethodName := ⟨RX12, "weigh", "(II)I"⟩
abbrev cX12_turn : ByteArray := prog_14_method_52_code
def yX12_turn : MethodName := ⟨RX12, "turn", "(I)I"⟩
abbrev cX12_moves : ByteArray := prog_14_method_53_code
def yX12_moves : MethodName := ⟨RX12, "moves", "(I)I"⟩
abbrev cX12_move : ByteArray := prog_14_method_54_code
def yX12_move : MethodName := ⟨RX12, "move", "(II)I"⟩
abbrev cX12_go : ByteArray := prog_14_method_55_code
def yX12_go : MethodName := ⟨RX12, "go", "(II)I"⟩
abbrev cX12_isBetter : ByteArray := prog_14_method_56_code
def yX12_isBetter : MethodName := ⟨RX12, "isBetter", "(ZZJJ)Z"⟩
abbrev cX12_wonNow : ByteArray := prog_14_method_57_code
def yX12_wonNow : MethodName := ⟨RX12, "wonNow", "(I)J"⟩
abbrev cX12_windOfOne : ByteArray := prog_14_method_58_code
def yX12_windOfOne : MethodName := ⟨RX12, "windOfOne", "(II)J"⟩
abbrev cX12_one : ByteArray := prog_14_method_59_code
def yX12_one : MethodName := ⟨RX12, "one", "(I)J"⟩
abbrev cX12_windOfTwo : ByteArray := prog_14_method_60_code
def yX12_windOfTwo : MethodName := ⟨RX12, "windOfTwo", "(II)J"⟩
abbrev cX12_two : ByteArray := prog_14_method_61_code
def yX12_two : MethodName := ⟨RX12, "two", "(I)J"⟩
abbrev cX12_windOfThree : ByteArray := prog_14_method_62_code
def yX12_windOfThree : MethodName := ⟨RX12, "windOfThree", "(II)J"⟩
abbrev cX12_windOf : ByteArray := prog_14_method_63_code
def yX12_windOf : MethodName := ⟨RX12, "windOf", "(III)J"⟩
abbrev cX12_valueOf : ByteArray := prog_14_method_64_code
def yX12_valueOf : MethodName := ⟨RX12, "valueOf", "(II)J"⟩
abbrev cX12_common : ByteArray := prog_14_method_65_code
def yX12_common : MethodName := ⟨RX12, "common", "(JJ)J"⟩
abbrev cX12_told : ByteArray := prog_14_method_66_code
def yX12_told : MethodName := ⟨RX12, "told", "(JII)J"⟩
abbrev cX12_chance : ByteArray := prog_14_method_67_code
def yX12_chance : MethodName := ⟨RX12, "chance", "(III)J"⟩
abbrev cX12_byWind : ByteArray := prog_14_method_68_code
def yX12_byWind : MethodName := ⟨RX12, "byWind", "(III)J"⟩
abbrev cX12_best : ByteArray := prog_14_method_69_code
def yX12_best : MethodName := ⟨RX12, "best", "(II)I"⟩
abbrev cX12_hope : ByteArray := prog_14_method_70_code
def yX12_hope : MethodName := ⟨RX12, "hope", "(I)I"⟩
abbrev cX12_isAsNow : ByteArray := prog_14_method_71_code
def yX12_isAsNow : MethodName := ⟨RX12, "isAsNow", "()Z"⟩
abbrev cX12_isAsSeen : ByteArray := prog_14_method_72_code
def yX12_isAsSeen : MethodName := ⟨RX12, "isAsSeen", "()Z"⟩
abbrev cX12_leaf : ByteArray := prog_14_method_73_code
def yX12_leaf : MethodName := ⟨RX12, "leaf", "(II)V"⟩
abbrev cX12_enters : ByteArray := prog_14_method_74_code
def yX12_enters : MethodName := ⟨RX12, "enters", "(II)V"⟩
abbrev cX12_findRows : ByteArray := prog_14_method_75_code
def yX12_findRows : MethodName := ⟨RX12, "findRows", "(II)V"⟩
abbrev cX12_since : ByteArray := prog_14_method_76_code
def yX12_since : MethodName := ⟨RX12, "since", "(III)I"⟩
abbrev cX12_see : ByteArray := prog_14_method_77_code
def yX12_see : MethodName := ⟨RX12, "see", "(II)I"⟩
abbrev cX12_forget : ByteArray := prog_14_method_78_code
def yX12_forget : MethodName := ⟨RX12, "forget", "(I)I"⟩
abbrev cX12_fits : ByteArray := prog_14_method_79_code
def yX12_fits : MethodName := ⟨RX12, "fits", "(I)I"⟩
abbrev cX12_where : ByteArray := prog_14_method_80_code
def yX12_where : MethodName := ⟨RX12, "where", "(II)I"⟩
abbrev cX12_tell : ByteArray := prog_14_method_81_code
def yX12_tell : MethodName := ⟨RX12, "tell", "(I)I"⟩
abbrev cX12_drop : ByteArray := prog_14_method_82_code
def yX12_drop : MethodName := ⟨RX12, "drop", "(I)I"⟩
abbrev cX12_blownOf : ByteArray := prog_14_method_83_code
def yX12_blownOf : MethodName := ⟨RX12, "blownOf", "(II)I"⟩
abbrev cX12_blow : ByteArray := prog_14_method_84_code
def yX12_blow : MethodName := ⟨RX12, "blow", "(I)I"⟩
abbrev cX12_gale : ByteArray := prog_14_method_85_code
def yX12_gale : MethodName := ⟨RX12, "gale", "(III)I"⟩
abbrev cX12_copies : ByteArray := prog_14_method_86_code
def yX12_copies : MethodName := ⟨RX12, "copies", "(II)V"⟩
abbrev cX12_keep : ByteArray := prog_14_method_87_code
def yX12_keep : MethodName := ⟨RX12, "keep", "(I)I"⟩
abbrev cX12_back : ByteArray := prog_14_method_88_code
def yX12_back : MethodName := ⟨RX12, "back", "(I)I"⟩
abbrev cX12_isSheet : ByteArray := prog_14_method_89_code
def yX12_isSheet : MethodName := ⟨RX12, "isSheet", "(II)Z"⟩
abbrev cX12_sheet : ByteArray := prog_14_method_90_code
def yX12_sheet : MethodName := ⟨RX12, "sheet", "(III)I"⟩
abbrev cX12_lay : ByteArray := prog_14_method_91_code
def yX12_lay : MethodName := ⟨RX12, "lay", "(III)I"⟩
abbrev cX12_read : ByteArray := prog_14_method_92_code
def yX12_read : MethodName := ⟨RX12, "read", "(IIII)I"⟩
abbrev cX12_torn : ByteArray := prog_14_method_93_code
def yX12_torn : MethodName := ⟨RX12, "torn", "()I"⟩
abbrev cX12_count : ByteArray := prog_14_method_94_code
def yX12_count : MethodName := ⟨RX12, "count", "(I)I"⟩
def RJ6 : String := "java/lang/Integer"
abbrev cJ6_bitCount_0f7a4 : ByteArray := prog_15_method_49_code
def yJ6_bitCount_0f7a4 : MethodName := ⟨RJ6, "bitCount", "(I)I"⟩
def RJ9 : String := "java/lang/Math"
abbrev cJ9_min_7cf53 : ByteArray := prog_16_method_69_code
def yJ9_min_7cf53 : MethodName := ⟨RJ9, "min", "(II)I"⟩
def RJ0 : String := "java/lang/String"
abbrev cJ0_length_8abf5 : ByteArray := prog_17_method_54_code
def yJ0_length_8abf5 : MethodName := ⟨RJ0, "length", "()I"⟩
abbrev cJ0_charAt_5068e : ByteArray := prog_17_method_56_code
def yJ0_charAt_5068e : MethodName := ⟨RJ0, "charAt", "(I)C"⟩
abbrev cJ0_coder_7d493 : ByteArray := prog_17_method_152_code
def yJ0_coder_7d493 : MethodName := ⟨RJ0, "coder", "()B"⟩
abbrev cJ0_isLatin1_aae02 : ByteArray := prog_17_method_154_code
def yJ0_isLatin1_aae02 : MethodName := ⟨RJ0, "isLatin1", "()Z"⟩
abbrev cJ0_checkIndex_df160 : ByteArray := prog_17_method_155_code
def yJ0_checkIndex_df160 : MethodName := ⟨RJ0, "checkIndex", "(II)V"⟩
def RJ1 : String := "java/lang/StringLatin1"
abbrev cJ1_charAt_3b067 : ByteArray := prog_18_method_2_code
def yJ1_charAt_3b067 : MethodName := ⟨RJ1, "charAt", "([BI)C"⟩
def RJ2 : String := "java/lang/StringUTF16"
abbrev cJ2_getChar_3b067 : ByteArray := prog_19_method_5_code
def yJ2_getChar_3b067 : MethodName := ⟨RJ2, "getChar", "([BI)C"⟩
abbrev cJ2_length_9d52b : ByteArray := prog_19_method_6_code
def yJ2_length_9d52b : MethodName := ⟨RJ2, "length", "([B)I"⟩
abbrev cJ2_charAt_3b067 : ByteArray := prog_19_method_83_code
def yJ2_charAt_3b067 : MethodName := ⟨RJ2, "charAt", "([BI)C"⟩
abbrev cJ2_checkIndex_2214a : ByteArray := prog_19_method_91_code
def yJ2_checkIndex_2214a : MethodName := ⟨RJ2, "checkIndex", "(I[B)V"⟩
def RJ10 : String := "java/lang/System"
def RJ3 : String := "jdk/internal/util/Preconditions"
abbrev cJ3_checkIndex_8e157 : ByteArray := prog_21_method_11_code
def yJ3_checkIndex_8e157 : MethodName := ⟨RJ3, "checkIndex", "(IILjava/util/function/BiFunction;)I"⟩
def RL : String := "WeatherChessLaw"
abbrev cL_law : ByteArray := code
def yL_law : MethodName := ⟨RL, "law", "([I)Z"⟩
abbrev vwCl : List vw_C := [(RX0, TX0, 2), (RX1, TX1, 3), (RX3, TX3, 8), (RX4, TX4, 2), (RX5, TX5, 7), (RX6, TX6, 7), (RX7, TX7, 3), (RX8, TX8, 4), (RX9, TX9, 5), (RX10, TX10, 13), (RX11, TX11, 11), (RX12, TX12, 43)]
