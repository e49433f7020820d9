section
-- ===== PART A: goes FIRST, ahead of the names: the tables' words, and 'selects' of the private methods out of them =====
/-- a private method of a class that the tables say can be made, by its rows of tables_1 -/
def lw_okq (q : MethodName × Nat) : Prop := (q.1.cls ≠ "java/lang/invoke/MethodHandle" ∧ q.1.cls ≠ "java/lang/invoke/VarHandle") ∧ Cond.instantiable q.1.cls q.2 ∈ tables_1 ∧ Cond.privateMethod q.1 ∈ tables_1 ∧ Cond.instanceMethod q.1 ∈ tables_1
theorem lw_p0 : lw_okq (⟨"FourWalls$State", "forgetMornings", "()V"⟩, 1) := ⟨⟨by decide +kernel, by decide +kernel⟩, List.mem_of_getElem? (i := 131) (by decide +kernel), List.mem_of_getElem? (i := 137) (by decide +kernel), List.mem_of_getElem? (i := 138) (by decide +kernel)⟩
theorem lw_p1 : lw_okq (⟨"FourWalls$Reader", "skipBlanks", "()V"⟩, 6) := ⟨⟨by decide +kernel, by decide +kernel⟩, List.mem_of_getElem? (i := 101) (by decide +kernel), List.mem_of_getElem? (i := 330) (by decide +kernel), List.mem_of_getElem? (i := 331) (by decide +kernel)⟩
theorem lw_p2 : lw_okq (⟨"FourWalls$Reader", "readClause", "()V"⟩, 6) := ⟨⟨by decide +kernel, by decide +kernel⟩, List.mem_of_getElem? (i := 101) (by decide +kernel), List.mem_of_getElem? (i := 338) (by decide +kernel), List.mem_of_getElem? (i := 339) (by decide +kernel)⟩
theorem lw_p3 : lw_okq (⟨"FourWalls$Reader", "fail", "(II)V"⟩, 6) := ⟨⟨by decide +kernel, by decide +kernel⟩, List.mem_of_getElem? (i := 101) (by decide +kernel), List.mem_of_getElem? (i := 346) (by decide +kernel), List.mem_of_getElem? (i := 347) (by decide +kernel)⟩
theorem lw_p4 : lw_okq (⟨"FourWalls$Reader", "readWalls", "(I)V"⟩, 6) := ⟨⟨by decide +kernel, by decide +kernel⟩, List.mem_of_getElem? (i := 101) (by decide +kernel), List.mem_of_getElem? (i := 350) (by decide +kernel), List.mem_of_getElem? (i := 351) (by decide +kernel)⟩
theorem lw_p5 : lw_okq (⟨"FourWalls$Reader", "readNumber", "(I)I"⟩, 6) := ⟨⟨by decide +kernel, by decide +kernel⟩, List.mem_of_getElem? (i := 101) (by decide +kernel), List.mem_of_getElem? (i := 354) (by decide +kernel), List.mem_of_getElem? (i := 355) (by decide +kernel)⟩
theorem lw_p6 : lw_okq (⟨"FourWalls$Reader", "readEnd", "()V"⟩, 6) := ⟨⟨by decide +kernel, by decide +kernel⟩, List.mem_of_getElem? (i := 101) (by decide +kernel), List.mem_of_getElem? (i := 369) (by decide +kernel), List.mem_of_getElem? (i := 370) (by decide +kernel)⟩
theorem lw_p7 : lw_okq (⟨"FourWalls$Reader", "readWind", "(I)V"⟩, 6) := ⟨⟨by decide +kernel, by decide +kernel⟩, List.mem_of_getElem? (i := 101) (by decide +kernel), List.mem_of_getElem? (i := 373) (by decide +kernel), List.mem_of_getElem? (i := 374) (by decide +kernel)⟩
theorem lw_p8 : lw_okq (⟨"FourWalls$Reader", "readSound", "(I)V"⟩, 6) := ⟨⟨by decide +kernel, by decide +kernel⟩, List.mem_of_getElem? (i := 101) (by decide +kernel), List.mem_of_getElem? (i := 377) (by decide +kernel), List.mem_of_getElem? (i := 378) (by decide +kernel)⟩
theorem lw_p9 : lw_okq (⟨"FourWalls$Reader", "readWitness", "(I)V"⟩, 6) := ⟨⟨by decide +kernel, by decide +kernel⟩, List.mem_of_getElem? (i := 101) (by decide +kernel), List.mem_of_getElem? (i := 385) (by decide +kernel), List.mem_of_getElem? (i := 386) (by decide +kernel)⟩
theorem lw_p10 : lw_okq (⟨"FourWalls", "forgetImages", "()V"⟩, 11) := ⟨⟨by decide +kernel, by decide +kernel⟩, List.mem_of_getElem? (i := 17) (by decide +kernel), List.mem_of_getElem? (i := 413) (by decide +kernel), List.mem_of_getElem? (i := 414) (by decide +kernel)⟩
theorem lw_p11 : lw_okq (⟨"FourWalls", "imageAt", "(I)LFourWalls$Image;"⟩, 11) := ⟨⟨by decide +kernel, by decide +kernel⟩, List.mem_of_getElem? (i := 17) (by decide +kernel), List.mem_of_getElem? (i := 417) (by decide +kernel), List.mem_of_getElem? (i := 418) (by decide +kernel)⟩
theorem lw_p12 : lw_okq (⟨"FourWalls", "isFullOfMornings", "()Z"⟩, 11) := ⟨⟨by decide +kernel, by decide +kernel⟩, List.mem_of_getElem? (i := 17) (by decide +kernel), List.mem_of_getElem? (i := 473) (by decide +kernel), List.mem_of_getElem? (i := 474) (by decide +kernel)⟩
theorem lw_p13 : lw_okq (⟨"FourWalls", "swear", "(II)V"⟩, 11) := ⟨⟨by decide +kernel, by decide +kernel⟩, List.mem_of_getElem? (i := 17) (by decide +kernel), List.mem_of_getElem? (i := 483) (by decide +kernel), List.mem_of_getElem? (i := 484) (by decide +kernel)⟩
theorem lw_p14 : lw_okq (⟨"FourWalls", "change", "(II)I"⟩, 11) := ⟨⟨by decide +kernel, by decide +kernel⟩, List.mem_of_getElem? (i := 17) (by decide +kernel), List.mem_of_getElem? (i := 513) (by decide +kernel), List.mem_of_getElem? (i := 514) (by decide +kernel)⟩
theorem lw_p15 : lw_okq (⟨"FourWalls", "draw", "(I)I"⟩, 11) := ⟨⟨by decide +kernel, by decide +kernel⟩, List.mem_of_getElem? (i := 17) (by decide +kernel), List.mem_of_getElem? (i := 531) (by decide +kernel), List.mem_of_getElem? (i := 532) (by decide +kernel)⟩
def lw_privs_1 : List (MethodName × Nat) := [(⟨"FourWalls$State", "forgetMornings", "()V"⟩, 1), (⟨"FourWalls$Reader", "skipBlanks", "()V"⟩, 6), (⟨"FourWalls$Reader", "readClause", "()V"⟩, 6), (⟨"FourWalls$Reader", "fail", "(II)V"⟩, 6), (⟨"FourWalls$Reader", "readWalls", "(I)V"⟩, 6), (⟨"FourWalls$Reader", "readNumber", "(I)I"⟩, 6), (⟨"FourWalls$Reader", "readEnd", "()V"⟩, 6), (⟨"FourWalls$Reader", "readWind", "(I)V"⟩, 6), (⟨"FourWalls$Reader", "readSound", "(I)V"⟩, 6), (⟨"FourWalls$Reader", "readWitness", "(I)V"⟩, 6), (⟨"FourWalls", "forgetImages", "()V"⟩, 11), (⟨"FourWalls", "imageAt", "(I)LFourWalls$Image;"⟩, 11), (⟨"FourWalls", "isFullOfMornings", "()Z"⟩, 11), (⟨"FourWalls", "swear", "(II)V"⟩, 11), (⟨"FourWalls", "change", "(II)I"⟩, 11), (⟨"FourWalls", "draw", "(I)I"⟩, 11)]
theorem lw_r1 : ∀ q ∈ lw_privs_1, lw_okq q := List.forall_mem_cons.mpr ⟨lw_p0, List.forall_mem_cons.mpr ⟨lw_p1, List.forall_mem_cons.mpr ⟨lw_p2, List.forall_mem_cons.mpr ⟨lw_p3, List.forall_mem_cons.mpr ⟨lw_p4, List.forall_mem_cons.mpr ⟨lw_p5, List.forall_mem_cons.mpr ⟨lw_p6, List.forall_mem_cons.mpr ⟨lw_p7, List.forall_mem_cons.mpr ⟨lw_p8, List.forall_mem_cons.mpr ⟨lw_p9, List.forall_mem_cons.mpr ⟨lw_p10, List.forall_mem_cons.mpr ⟨lw_p11, List.forall_mem_cons.mpr ⟨lw_p12, List.forall_mem_cons.mpr ⟨lw_p13, List.forall_mem_cons.mpr ⟨lw_p14, List.forall_mem_cons.mpr ⟨lw_p15, fun _ h => absurd h List.not_mem_nil⟩⟩⟩⟩⟩⟩⟩⟩⟩⟩⟩⟩⟩⟩⟩⟩
theorem lw_p16 : lw_okq (⟨"FourWalls$Trial", "coverAll", "(II)Z"⟩, 4) := ⟨⟨by decide +kernel, by decide +kernel⟩, List.mem_of_getElem? (i := 186) (by decide +kernel), List.mem_of_getElem? (i := 595) (by decide +kernel), List.mem_of_getElem? (i := 596) (by decide +kernel)⟩
theorem lw_p17 : lw_okq (⟨"FourWalls$Trial", "areAlike", "(III)Z"⟩, 4) := ⟨⟨by decide +kernel, by decide +kernel⟩, List.mem_of_getElem? (i := 186) (by decide +kernel), List.mem_of_getElem? (i := 608) (by decide +kernel), List.mem_of_getElem? (i := 609) (by decide +kernel)⟩
theorem lw_p18 : lw_okq (⟨"FourWalls$Claims", "pairs", "()I"⟩, 8) := ⟨⟨by decide +kernel, by decide +kernel⟩, List.mem_of_getElem? (i := 205) (by decide +kernel), List.mem_of_getElem? (i := 664) (by decide +kernel), List.mem_of_getElem? (i := 665) (by decide +kernel)⟩
theorem lw_p19 : lw_okq (⟨"FourWalls$Claims", "pairAt", "(I)I"⟩, 8) := ⟨⟨by decide +kernel, by decide +kernel⟩, List.mem_of_getElem? (i := 205) (by decide +kernel), List.mem_of_getElem? (i := 669) (by decide +kernel), List.mem_of_getElem? (i := 670) (by decide +kernel)⟩
theorem lw_p20 : lw_okq (⟨"FourWalls$Claims", "greatestPart", "(I)I"⟩, 8) := ⟨⟨by decide +kernel, by decide +kernel⟩, List.mem_of_getElem? (i := 205) (by decide +kernel), List.mem_of_getElem? (i := 713) (by decide +kernel), List.mem_of_getElem? (i := 714) (by decide +kernel)⟩
theorem lw_p21 : lw_okq (⟨"FourWallsModel", "clearNow", "()V"⟩, 35) := ⟨⟨by decide +kernel, by decide +kernel⟩, List.mem_of_getElem? (i := 757) (by decide +kernel), List.mem_of_getElem? (i := 763) (by decide +kernel), List.mem_of_getElem? (i := 764) (by decide +kernel)⟩
theorem lw_p22 : lw_okq (⟨"FourWallsModel", "here", "()I"⟩, 35) := ⟨⟨by decide +kernel, by decide +kernel⟩, List.mem_of_getElem? (i := 757) (by decide +kernel), List.mem_of_getElem? (i := 888) (by decide +kernel), List.mem_of_getElem? (i := 889) (by decide +kernel)⟩
theorem lw_p23 : lw_okq (⟨"FourWallsModel", "takeClause", "()I"⟩, 35) := ⟨⟨by decide +kernel, by decide +kernel⟩, List.mem_of_getElem? (i := 757) (by decide +kernel), List.mem_of_getElem? (i := 892) (by decide +kernel), List.mem_of_getElem? (i := 893) (by decide +kernel)⟩
theorem lw_p24 : lw_okq (⟨"FourWallsModel", "fails", "(II)I"⟩, 35) := ⟨⟨by decide +kernel, by decide +kernel⟩, List.mem_of_getElem? (i := 757) (by decide +kernel), List.mem_of_getElem? (i := 896) (by decide +kernel), List.mem_of_getElem? (i := 897) (by decide +kernel)⟩
theorem lw_p25 : lw_okq (⟨"FourWallsModel", "takeWalls", "()I"⟩, 35) := ⟨⟨by decide +kernel, by decide +kernel⟩, List.mem_of_getElem? (i := 757) (by decide +kernel), List.mem_of_getElem? (i := 900) (by decide +kernel), List.mem_of_getElem? (i := 901) (by decide +kernel)⟩
theorem lw_p26 : lw_okq (⟨"FourWallsModel", "into", "([IIII)I"⟩, 35) := ⟨⟨by decide +kernel, by decide +kernel⟩, List.mem_of_getElem? (i := 757) (by decide +kernel), List.mem_of_getElem? (i := 904) (by decide +kernel), List.mem_of_getElem? (i := 905) (by decide +kernel)⟩
theorem lw_p27 : lw_okq (⟨"FourWallsModel", "takeNumber", "(II)I"⟩, 35) := ⟨⟨by decide +kernel, by decide +kernel⟩, List.mem_of_getElem? (i := 757) (by decide +kernel), List.mem_of_getElem? (i := 908) (by decide +kernel), List.mem_of_getElem? (i := 909) (by decide +kernel)⟩
theorem lw_p28 : lw_okq (⟨"FourWallsModel", "takeWind", "()I"⟩, 35) := ⟨⟨by decide +kernel, by decide +kernel⟩, List.mem_of_getElem? (i := 757) (by decide +kernel), List.mem_of_getElem? (i := 914) (by decide +kernel), List.mem_of_getElem? (i := 915) (by decide +kernel)⟩
theorem lw_p29 : lw_okq (⟨"FourWallsModel", "takeSound", "()I"⟩, 35) := ⟨⟨by decide +kernel, by decide +kernel⟩, List.mem_of_getElem? (i := 757) (by decide +kernel), List.mem_of_getElem? (i := 918) (by decide +kernel), List.mem_of_getElem? (i := 919) (by decide +kernel)⟩
theorem lw_p30 : lw_okq (⟨"FourWallsModel", "takeWitness", "()I"⟩, 35) := ⟨⟨by decide +kernel, by decide +kernel⟩, List.mem_of_getElem? (i := 757) (by decide +kernel), List.mem_of_getElem? (i := 922) (by decide +kernel), List.mem_of_getElem? (i := 923) (by decide +kernel)⟩
theorem lw_p31 : lw_okq (⟨"FourWallsModel", "takeRead", "()V"⟩, 35) := ⟨⟨by decide +kernel, by decide +kernel⟩, List.mem_of_getElem? (i := 757) (by decide +kernel), List.mem_of_getElem? (i := 926) (by decide +kernel), List.mem_of_getElem? (i := 927) (by decide +kernel)⟩
def lw_privs_2 : List (MethodName × Nat) := [(⟨"FourWalls$Trial", "coverAll", "(II)Z"⟩, 4), (⟨"FourWalls$Trial", "areAlike", "(III)Z"⟩, 4), (⟨"FourWalls$Claims", "pairs", "()I"⟩, 8), (⟨"FourWalls$Claims", "pairAt", "(I)I"⟩, 8), (⟨"FourWalls$Claims", "greatestPart", "(I)I"⟩, 8), (⟨"FourWallsModel", "clearNow", "()V"⟩, 35), (⟨"FourWallsModel", "here", "()I"⟩, 35), (⟨"FourWallsModel", "takeClause", "()I"⟩, 35), (⟨"FourWallsModel", "fails", "(II)I"⟩, 35), (⟨"FourWallsModel", "takeWalls", "()I"⟩, 35), (⟨"FourWallsModel", "into", "([IIII)I"⟩, 35), (⟨"FourWallsModel", "takeNumber", "(II)I"⟩, 35), (⟨"FourWallsModel", "takeWind", "()I"⟩, 35), (⟨"FourWallsModel", "takeSound", "()I"⟩, 35), (⟨"FourWallsModel", "takeWitness", "()I"⟩, 35), (⟨"FourWallsModel", "takeRead", "()V"⟩, 35)]
theorem lw_r2 : ∀ q ∈ lw_privs_2, lw_okq q := List.forall_mem_cons.mpr ⟨lw_p16, List.forall_mem_cons.mpr ⟨lw_p17, List.forall_mem_cons.mpr ⟨lw_p18, List.forall_mem_cons.mpr ⟨lw_p19, List.forall_mem_cons.mpr ⟨lw_p20, List.forall_mem_cons.mpr ⟨lw_p21, List.forall_mem_cons.mpr ⟨lw_p22, List.forall_mem_cons.mpr ⟨lw_p23, List.forall_mem_cons.mpr ⟨lw_p24, List.forall_mem_cons.mpr ⟨lw_p25, List.forall_mem_cons.mpr ⟨lw_p26, List.forall_mem_cons.mpr ⟨lw_p27, List.forall_mem_cons.mpr ⟨lw_p28, List.forall_mem_cons.mpr ⟨lw_p29, List.forall_mem_cons.mpr ⟨lw_p30, List.forall_mem_cons.mpr ⟨lw_p31, fun _ h => absurd h List.not_mem_nil⟩⟩⟩⟩⟩⟩⟩⟩⟩⟩⟩⟩⟩⟩⟩⟩
theorem lw_p32 : lw_okq (⟨"FourWallsModel", "places", "()I"⟩, 35) := ⟨⟨by decide +kernel, by decide +kernel⟩, List.mem_of_getElem? (i := 757) (by decide +kernel), List.mem_of_getElem? (i := 930) (by decide +kernel), List.mem_of_getElem? (i := 931) (by decide +kernel)⟩
theorem lw_p33 : lw_okq (⟨"FourWallsModel", "isSound", "(I)Z"⟩, 35) := ⟨⟨by decide +kernel, by decide +kernel⟩, List.mem_of_getElem? (i := 757) (by decide +kernel), List.mem_of_getElem? (i := 951) (by decide +kernel), List.mem_of_getElem? (i := 952) (by decide +kernel)⟩
theorem lw_p34 : lw_okq (⟨"FourWallsModel", "isWitness", "(I)Z"⟩, 35) := ⟨⟨by decide +kernel, by decide +kernel⟩, List.mem_of_getElem? (i := 757) (by decide +kernel), List.mem_of_getElem? (i := 959) (by decide +kernel), List.mem_of_getElem? (i := 960) (by decide +kernel)⟩
theorem lw_p35 : lw_okq (⟨"FourWallsModel", "isPlace", "(I)Z"⟩, 35) := ⟨⟨by decide +kernel, by decide +kernel⟩, List.mem_of_getElem? (i := 757) (by decide +kernel), List.mem_of_getElem? (i := 967) (by decide +kernel), List.mem_of_getElem? (i := 968) (by decide +kernel)⟩
theorem lw_p36 : lw_okq (⟨"FourWallsModel", "remember", "()V"⟩, 35) := ⟨⟨by decide +kernel, by decide +kernel⟩, List.mem_of_getElem? (i := 757) (by decide +kernel), List.mem_of_getElem? (i := 971) (by decide +kernel), List.mem_of_getElem? (i := 972) (by decide +kernel)⟩
theorem lw_p37 : lw_okq (⟨"FourWallsModel", "morningOf", "(II)V"⟩, 35) := ⟨⟨by decide +kernel, by decide +kernel⟩, List.mem_of_getElem? (i := 757) (by decide +kernel), List.mem_of_getElem? (i := 975) (by decide +kernel), List.mem_of_getElem? (i := 976) (by decide +kernel)⟩
theorem lw_p38 : lw_okq (⟨"FourWallsModel", "hears", "(III)Z"⟩, 35) := ⟨⟨by decide +kernel, by decide +kernel⟩, List.mem_of_getElem? (i := 757) (by decide +kernel), List.mem_of_getElem? (i := 979) (by decide +kernel), List.mem_of_getElem? (i := 980) (by decide +kernel)⟩
theorem lw_p39 : lw_okq (⟨"FourWallsModel", "loudAt", "(III)I"⟩, 35) := ⟨⟨by decide +kernel, by decide +kernel⟩, List.mem_of_getElem? (i := 757) (by decide +kernel), List.mem_of_getElem? (i := 983) (by decide +kernel), List.mem_of_getElem? (i := 984) (by decide +kernel)⟩
theorem lw_p40 : lw_okq (⟨"FourWallsModel", "hearsTone", "(III)Z"⟩, 35) := ⟨⟨by decide +kernel, by decide +kernel⟩, List.mem_of_getElem? (i := 757) (by decide +kernel), List.mem_of_getElem? (i := 987) (by decide +kernel), List.mem_of_getElem? (i := 988) (by decide +kernel)⟩
theorem lw_p41 : lw_okq (⟨"FourWallsModel", "sayingOf", "(III)I"⟩, 35) := ⟨⟨by decide +kernel, by decide +kernel⟩, List.mem_of_getElem? (i := 757) (by decide +kernel), List.mem_of_getElem? (i := 991) (by decide +kernel), List.mem_of_getElem? (i := 992) (by decide +kernel)⟩
theorem lw_p42 : lw_okq (⟨"FourWallsModel", "widowers", "()I"⟩, 35) := ⟨⟨by decide +kernel, by decide +kernel⟩, List.mem_of_getElem? (i := 757) (by decide +kernel), List.mem_of_getElem? (i := 995) (by decide +kernel), List.mem_of_getElem? (i := 996) (by decide +kernel)⟩
theorem lw_p43 : lw_okq (⟨"FourWallsModel", "draw", "(I)I"⟩, 35) := ⟨⟨by decide +kernel, by decide +kernel⟩, List.mem_of_getElem? (i := 757) (by decide +kernel), List.mem_of_getElem? (i := 1019) (by decide +kernel), List.mem_of_getElem? (i := 1020) (by decide +kernel)⟩
theorem lw_p44 : lw_okq (⟨"FourWallsModel", "listenTo", "(III)I"⟩, 35) := ⟨⟨by decide +kernel, by decide +kernel⟩, List.mem_of_getElem? (i := 757) (by decide +kernel), List.mem_of_getElem? (i := 1044) (by decide +kernel), List.mem_of_getElem? (i := 1045) (by decide +kernel)⟩
theorem lw_p45 : lw_okq (⟨"FourWallsModel", "isHeard", "(II)Z"⟩, 35) := ⟨⟨by decide +kernel, by decide +kernel⟩, List.mem_of_getElem? (i := 757) (by decide +kernel), List.mem_of_getElem? (i := 1052) (by decide +kernel), List.mem_of_getElem? (i := 1053) (by decide +kernel)⟩
theorem lw_p46 : lw_okq (⟨"FourWallsModel", "isPlaces", "(I)Z"⟩, 35) := ⟨⟨by decide +kernel, by decide +kernel⟩, List.mem_of_getElem? (i := 757) (by decide +kernel), List.mem_of_getElem? (i := 1060) (by decide +kernel), List.mem_of_getElem? (i := 1061) (by decide +kernel)⟩
theorem lw_p47 : lw_okq (⟨"FourWallsModel", "allHeard", "(IIII)Z"⟩, 35) := ⟨⟨by decide +kernel, by decide +kernel⟩, List.mem_of_getElem? (i := 757) (by decide +kernel), List.mem_of_getElem? (i := 1067) (by decide +kernel), List.mem_of_getElem? (i := 1068) (by decide +kernel)⟩
def lw_privs_3 : List (MethodName × Nat) := [(⟨"FourWallsModel", "places", "()I"⟩, 35), (⟨"FourWallsModel", "isSound", "(I)Z"⟩, 35), (⟨"FourWallsModel", "isWitness", "(I)Z"⟩, 35), (⟨"FourWallsModel", "isPlace", "(I)Z"⟩, 35), (⟨"FourWallsModel", "remember", "()V"⟩, 35), (⟨"FourWallsModel", "morningOf", "(II)V"⟩, 35), (⟨"FourWallsModel", "hears", "(III)Z"⟩, 35), (⟨"FourWallsModel", "loudAt", "(III)I"⟩, 35), (⟨"FourWallsModel", "hearsTone", "(III)Z"⟩, 35), (⟨"FourWallsModel", "sayingOf", "(III)I"⟩, 35), (⟨"FourWallsModel", "widowers", "()I"⟩, 35), (⟨"FourWallsModel", "draw", "(I)I"⟩, 35), (⟨"FourWallsModel", "listenTo", "(III)I"⟩, 35), (⟨"FourWallsModel", "isHeard", "(II)Z"⟩, 35), (⟨"FourWallsModel", "isPlaces", "(I)Z"⟩, 35), (⟨"FourWallsModel", "allHeard", "(IIII)Z"⟩, 35)]
theorem lw_r3 : ∀ q ∈ lw_privs_3, lw_okq q := List.forall_mem_cons.mpr ⟨lw_p32, List.forall_mem_cons.mpr ⟨lw_p33, List.forall_mem_cons.mpr ⟨lw_p34, List.forall_mem_cons.mpr ⟨lw_p35, List.forall_mem_cons.mpr ⟨lw_p36, List.forall_mem_cons.mpr ⟨lw_p37, List.forall_mem_cons.mpr ⟨lw_p38, List.forall_mem_cons.mpr ⟨lw_p39, List.forall_mem_cons.mpr ⟨lw_p40, List.forall_mem_cons.mpr ⟨lw_p41, List.forall_mem_cons.mpr ⟨lw_p42, List.forall_mem_cons.mpr ⟨lw_p43, List.forall_mem_cons.mpr ⟨lw_p44, List.forall_mem_cons.mpr ⟨lw_p45, List.forall_mem_cons.mpr ⟨lw_p46, List.forall_mem_cons.mpr ⟨lw_p47, fun _ h => absurd h List.not_mem_nil⟩⟩⟩⟩⟩⟩⟩⟩⟩⟩⟩⟩⟩⟩⟩⟩
theorem lw_p48 : lw_okq (⟨"FourWallsModel", "areAlike", "(III)Z"⟩, 35) := ⟨⟨by decide +kernel, by decide +kernel⟩, List.mem_of_getElem? (i := 757) (by decide +kernel), List.mem_of_getElem? (i := 1078) (by decide +kernel), List.mem_of_getElem? (i := 1079) (by decide +kernel)⟩
theorem lw_p49 : lw_okq (⟨"FourWallsModel", "isPair", "(I)Z"⟩, 35) := ⟨⟨by decide +kernel, by decide +kernel⟩, List.mem_of_getElem? (i := 757) (by decide +kernel), List.mem_of_getElem? (i := 1111) (by decide +kernel), List.mem_of_getElem? (i := 1112) (by decide +kernel)⟩
theorem lw_p50 : lw_okq (⟨"FourWallsModel", "liarsOf", "(I)I"⟩, 35) := ⟨⟨by decide +kernel, by decide +kernel⟩, List.mem_of_getElem? (i := 757) (by decide +kernel), List.mem_of_getElem? (i := 1115) (by decide +kernel), List.mem_of_getElem? (i := 1116) (by decide +kernel)⟩
theorem lw_p51 : lw_okq (⟨"FourWallsModel", "sayingFor", "(II)I"⟩, 35) := ⟨⟨by decide +kernel, by decide +kernel⟩, List.mem_of_getElem? (i := 757) (by decide +kernel), List.mem_of_getElem? (i := 1119) (by decide +kernel), List.mem_of_getElem? (i := 1120) (by decide +kernel)⟩
theorem lw_p52 : lw_okq (⟨"FourWallsModel", "greatestPart", "(I)I"⟩, 35) := ⟨⟨by decide +kernel, by decide +kernel⟩, List.mem_of_getElem? (i := 757) (by decide +kernel), List.mem_of_getElem? (i := 1136) (by decide +kernel), List.mem_of_getElem? (i := 1137) (by decide +kernel)⟩
def lw_privs_4 : List (MethodName × Nat) := [(⟨"FourWallsModel", "areAlike", "(III)Z"⟩, 35), (⟨"FourWallsModel", "isPair", "(I)Z"⟩, 35), (⟨"FourWallsModel", "liarsOf", "(I)I"⟩, 35), (⟨"FourWallsModel", "sayingFor", "(II)I"⟩, 35), (⟨"FourWallsModel", "greatestPart", "(I)I"⟩, 35)]
theorem lw_r4 : ∀ q ∈ lw_privs_4, lw_okq q := List.forall_mem_cons.mpr ⟨lw_p48, List.forall_mem_cons.mpr ⟨lw_p49, List.forall_mem_cons.mpr ⟨lw_p50, List.forall_mem_cons.mpr ⟨lw_p51, List.forall_mem_cons.mpr ⟨lw_p52, fun _ h => absurd h List.not_mem_nil⟩⟩⟩⟩⟩
def lw_privs : List (MethodName × Nat) := lw_privs_1 ++ (lw_privs_2 ++ (lw_privs_3 ++ (lw_privs_4)))
def lw_tbl : List Cond := k2_sels lw_privs ++ tables_1
theorem lw_privs_ok : ∀ q ∈ lw_privs, lw_okq q := by
  show ∀ q ∈ lw_privs_1 ++ (lw_privs_2 ++ (lw_privs_3 ++ (lw_privs_4))), lw_okq q
  exact List.forall_mem_append.mpr ⟨lw_r1, List.forall_mem_append.mpr ⟨lw_r2, List.forall_mem_append.mpr ⟨lw_r3, lw_r4⟩⟩⟩
/-! ===== BEGIN words of one list among another's, by their places ===== -/
theorem goodIn_r {big : List Cond} (ws : List Cond) (ps : List Nat) (hp : ws = ps.filterMap (fun i => big[i]?)) (h : ws.all goodWord = true) : GoodIn big ws := by
  intro w hw
  have h1 := List.all_eq_true.mp h w hw
  rw [hp] at hw
  obtain ⟨i, -, hi⟩ := List.mem_filterMap.mp hw
  have hm : w ∈ big := by first | exact List.mem_of_getElem? hi | exact List.getElem?_mem hi
  exact ⟨hm, good_of_word h1⟩
theorem goodIn_app {big a b : List Cond} (ha : GoodIn big a) (hb : GoodIn big b) : GoodIn big (a ++ b) := fun w h => (List.mem_append.mp h).elim (ha w) (hb w)
theorem goodIn_ca {big a b : List Cond} {c : Cond} (ha : GoodIn big (c :: a)) (hb : GoodIn big b) : GoodIn big (c :: (a ++ b)) := fun w h => (List.mem_cons.mp h).elim (fun e => ha w (List.mem_cons.mpr (Or.inl e))) (fun h => (List.mem_append.mp h).elim (fun h => ha w (List.mem_cons.mpr (Or.inr h))) (hb w))
theorem goodIn_sub {big ws : List Cond} (hm : ∀ w ∈ ws, w ∈ big) (h : ws.all goodWord = true) : GoodIn big ws := fun w hw => ⟨hm w hw, good_of_word (List.all_eq_true.mp h w hw)⟩
/-! ===== END ===== -/

/-! ===== BEGIN printed: names, fields, word lists, decode rows ===== -/
def RX0 : String := "FourWalls$Book"
def TX0 : u_T := fun k => match k with
  | 0 => ("FourWalls$Book", "entries", "[I", true)
  | _ => ("FourWalls$Book", "count", "I", false)
def tyX0 : Nat → FieldType := fun k => match k with
  | 0 => .array .int
  | _ => .int
abbrev wsX00 : List Cond := u_ws RX0 TX0 2
theorem nmX0 : ∀ a, a < 2 → ∀ b, b < 2 → a ≠ b → (TX0 a).2.1 ≠ (TX0 b).2.1 := by decide +kernel
theorem tyX0_ok : ∀ k, k < 2 → parseFieldDescriptor (TX0 k).2.2.1 = some (tyX0 k) := by decide +kernel
abbrev cX0_init : ByteArray := prog_2_method_1_code
def yX0_init : MethodName := ⟨RX0, "<init>", "()V"⟩
abbrev cX0_add : ByteArray := prog_2_method_2_code
def yX0_add : MethodName := ⟨RX0, "add", "(I)Z"⟩
abbrev cX0_firstOtherThan : ByteArray := prog_2_method_3_code
def yX0_firstOtherThan : MethodName := ⟨RX0, "firstOtherThan", "(I)I"⟩
def RX1 : String := "FourWalls$Claims"
def TX1 : u_T := fun k => match k with
  | 0 => ("FourWalls$Claims", "plan", "LFourWalls$Plan;", true)
  | 1 => ("FourWalls$Claims", "hearing", "LFourWalls$Hearing;", true)
  | 2 => ("FourWalls$Claims", "who", "[I", true)
  | 3 => ("FourWalls$Claims", "what", "[I", true)
  | 4 => ("FourWalls$Claims", "count", "I", false)
  | 5 => ("FourWalls$Claims", "fitting", "[I", true)
  | 6 => ("FourWalls$Claims", "births", "I", false)
  | _ => ("FourWalls$Claims", "parts", "[I", true)
def tyX1 : Nat → FieldType := fun k => match k with
  | 0 => .object "FourWalls$Plan"
  | 1 => .object "FourWalls$Hearing"
  | 2 => .array .int
  | 3 => .array .int
  | 4 => .int
  | 5 => .array .int
  | 6 => .int
  | _ => .array .int
abbrev wsX10 : List Cond := u_ws RX1 TX1 8
theorem nmX1 : ∀ a, a < 8 → ∀ b, b < 8 → a ≠ b → (TX1 a).2.1 ≠ (TX1 b).2.1 := by decide +kernel
theorem tyX1_ok : ∀ k, k < 8 → parseFieldDescriptor (TX1 k).2.2.1 = some (tyX1 k) := by decide +kernel
abbrev cX1_init : ByteArray := prog_3_method_1_code
def yX1_init : MethodName := ⟨RX1, "<init>", "(LFourWalls$Plan;LFourWalls$Hearing;)V"⟩
abbrev cX1_add : ByteArray := prog_3_method_2_code
def yX1_add : MethodName := ⟨RX1, "add", "(II)Z"⟩
abbrev cX1_liarsOf : ByteArray := prog_3_method_3_code
def yX1_liarsOf : MethodName := ⟨RX1, "liarsOf", "(I)I"⟩
abbrev cX1_gatherBirths : ByteArray := prog_3_method_4_code
def yX1_gatherBirths : MethodName := ⟨RX1, "gatherBirths", "()V"⟩
abbrev cX1_birthAt : ByteArray := prog_3_method_5_code
def yX1_birthAt : MethodName := ⟨RX1, "birthAt", "(I)I"⟩
abbrev cX1_pairOfFewestLiars : ByteArray := prog_3_method_6_code
def yX1_pairOfFewestLiars : MethodName := ⟨RX1, "pairOfFewestLiars", "()I"⟩
abbrev cX1_bestAsked : ByteArray := prog_3_method_7_code
def yX1_bestAsked : MethodName := ⟨RX1, "bestAsked", "()I"⟩
abbrev cX1_greatestPart : ByteArray := prog_3_method_8_code
def yX1_greatestPart : MethodName := ⟨RX1, "greatestPart", "(I)I"⟩
abbrev cX1_pairs : ByteArray := prog_3_method_9_code
def yX1_pairs : MethodName := ⟨RX1, "pairs", "()I"⟩
abbrev cX1_pairAt : ByteArray := prog_3_method_10_code
def yX1_pairAt : MethodName := ⟨RX1, "pairAt", "(I)I"⟩
abbrev cX1_soundOf : ByteArray := prog_3_method_11_code
def yX1_soundOf : MethodName := ⟨RX1, "soundOf", "(I)I"⟩
def RX2 : String := "FourWalls$Hearing"
def TX2 : u_T := fun k => match k with
  | 0 => ("FourWalls$Hearing", "plan", "LFourWalls$Plan;", true)
  | _ => ("FourWalls$Hearing", "state", "LFourWalls$State;", true)
def tyX2 : Nat → FieldType := fun k => match k with
  | 0 => .object "FourWalls$Plan"
  | _ => .object "FourWalls$State"
abbrev wsX20 : List Cond := u_ws RX2 TX2 2
theorem nmX2 : ∀ a, a < 2 → ∀ b, b < 2 → a ≠ b → (TX2 a).2.1 ≠ (TX2 b).2.1 := by decide +kernel
theorem tyX2_ok : ∀ k, k < 2 → parseFieldDescriptor (TX2 k).2.2.1 = some (tyX2 k) := by decide +kernel
abbrev cX2_init : ByteArray := prog_4_method_1_code
def yX2_init : MethodName := ⟨RX2, "<init>", "(LFourWalls$Plan;LFourWalls$State;)V"⟩
abbrev cX2_loudness : ByteArray := prog_4_method_2_code
def yX2_loudness : MethodName := ⟨RX2, "loudness", "(III)I"⟩
abbrev cX2_margin : ByteArray := prog_4_method_3_code
def yX2_margin : MethodName := ⟨RX2, "margin", "(III)I"⟩
abbrev cX2_hearers : ByteArray := prog_4_method_4_code
def yX2_hearers : MethodName := ⟨RX2, "hearers", "(III)I"⟩
abbrev cX2_saying : ByteArray := prog_4_method_5_code
def yX2_saying : MethodName := ⟨RX2, "saying", "(III)I"⟩
def RX3 : String := "FourWalls$Image"
def TX3 : u_T := fun k => match k with
  | 0 => ("FourWalls$Image", "state", "LFourWalls$State;", true)
  | 1 => ("FourWalls$Image", "seed", "I", false)
  | _ => ("FourWalls$Image", "kept", "Z", false)
def tyX3 : Nat → FieldType := fun k => match k with
  | 0 => .object "FourWalls$State"
  | 1 => .int
  | _ => .boolean
abbrev wsX30 : List Cond := u_ws RX3 TX3 3
theorem nmX3 : ∀ a, a < 3 → ∀ b, b < 3 → a ≠ b → (TX3 a).2.1 ≠ (TX3 b).2.1 := by decide +kernel
theorem tyX3_ok : ∀ k, k < 3 → parseFieldDescriptor (TX3 k).2.2.1 = some (tyX3 k) := by decide +kernel
abbrev cX3_init : ByteArray := prog_5_method_1_code
def yX3_init : MethodName := ⟨RX3, "<init>", "()V"⟩
def RX4 : String := "FourWalls$Past"
def TX4 : u_T := fun k => match k with
  | 0 => ("FourWalls$Past", "rows", "[I", true)
  | 1 => ("FourWalls$Past", "next", "I", false)
  | _ => ("FourWalls$Past", "count", "I", false)
def tyX4 : Nat → FieldType := fun k => match k with
  | 0 => .array .int
  | 1 => .int
  | _ => .int
abbrev wsX40 : List Cond := u_ws RX4 TX4 3
theorem nmX4 : ∀ a, a < 3 → ∀ b, b < 3 → a ≠ b → (TX4 a).2.1 ≠ (TX4 b).2.1 := by decide +kernel
theorem tyX4_ok : ∀ k, k < 3 → parseFieldDescriptor (TX4 k).2.2.1 = some (tyX4 k) := by decide +kernel
abbrev cX4_init : ByteArray := prog_6_method_1_code
def yX4_init : MethodName := ⟨RX4, "<init>", "()V"⟩
abbrev cX4_push : ByteArray := prog_6_method_2_code
def yX4_push : MethodName := ⟨RX4, "push", "(LFourWalls$State;)V"⟩
abbrev cX4_pop : ByteArray := prog_6_method_3_code
def yX4_pop : MethodName := ⟨RX4, "pop", "(LFourWalls$State;)Z"⟩
abbrev cX4_forget : ByteArray := prog_6_method_4_code
def yX4_forget : MethodName := ⟨RX4, "forget", "()V"⟩
def RX5 : String := "FourWalls$Plan"
def TX5 : u_T := fun k => match k with
  | 0 => ("FourWalls$Plan", "walls", "I", false)
  | 1 => ("FourWalls$Plan", "wind", "I", false)
  | 2 => ("FourWalls$Plan", "sounds", "I", false)
  | 3 => ("FourWalls$Plan", "witnesses", "I", false)
  | 4 => ("FourWalls$Plan", "thickness", "[I", true)
  | 5 => ("FourWalls$Plan", "loud", "[I", true)
  | 6 => ("FourWalls$Plan", "tone", "[I", true)
  | 7 => ("FourWalls$Plan", "spot", "[I", true)
  | 8 => ("FourWalls$Plan", "ear", "[I", true)
  | _ => ("FourWalls$Plan", "side", "[I", true)
def tyX5 : Nat → FieldType := fun k => match k with
  | 0 => .int
  | 1 => .int
  | 2 => .int
  | 3 => .int
  | 4 => .array .int
  | 5 => .array .int
  | 6 => .array .int
  | 7 => .array .int
  | 8 => .array .int
  | _ => .array .int
abbrev wsX50 : List Cond := u_ws RX5 TX5 10
theorem nmX5 : ∀ a, a < 10 → ∀ b, b < 10 → a ≠ b → (TX5 a).2.1 ≠ (TX5 b).2.1 := by decide +kernel
theorem tyX5_ok : ∀ k, k < 10 → parseFieldDescriptor (TX5 k).2.2.1 = some (tyX5 k) := by decide +kernel
abbrev cX5_init : ByteArray := prog_7_method_1_code
def yX5_init : MethodName := ⟨RX5, "<init>", "()V"⟩
abbrev cX5_clear : ByteArray := prog_7_method_2_code
def yX5_clear : MethodName := ⟨RX5, "clear", "()V"⟩
abbrev cX5_take : ByteArray := prog_7_method_3_code
def yX5_take : MethodName := ⟨RX5, "take", "(LFourWalls$Plan;)V"⟩
abbrev cX5_addWall : ByteArray := prog_7_method_4_code
def yX5_addWall : MethodName := ⟨RX5, "addWall", "(I)V"⟩
abbrev cX5_addSound : ByteArray := prog_7_method_5_code
def yX5_addSound : MethodName := ⟨RX5, "addSound", "(II)V"⟩
abbrev cX5_addWitness : ByteArray := prog_7_method_6_code
def yX5_addWitness : MethodName := ⟨RX5, "addWitness", "(III)V"⟩
abbrev cX5_stands : ByteArray := prog_7_method_7_code
def yX5_stands : MethodName := ⟨RX5, "stands", "()Z"⟩
abbrev cX5_places : ByteArray := prog_7_method_8_code
def yX5_places : MethodName := ⟨RX5, "places", "()I"⟩
abbrev cX5_isWall : ByteArray := prog_7_method_9_code
def yX5_isWall : MethodName := ⟨RX5, "isWall", "(I)Z"⟩
abbrev cX5_isPlace : ByteArray := prog_7_method_10_code
def yX5_isPlace : MethodName := ⟨RX5, "isPlace", "(I)Z"⟩
abbrev cX5_isSound : ByteArray := prog_7_method_11_code
def yX5_isSound : MethodName := ⟨RX5, "isSound", "(I)Z"⟩
abbrev cX5_isWitness : ByteArray := prog_7_method_12_code
def yX5_isWitness : MethodName := ⟨RX5, "isWitness", "(I)Z"⟩
abbrev cX5_arePlaces : ByteArray := prog_7_method_13_code
def yX5_arePlaces : MethodName := ⟨RX5, "arePlaces", "(I)Z"⟩
abbrev cX5_isPair : ByteArray := prog_7_method_14_code
def yX5_isPair : MethodName := ⟨RX5, "isPair", "(I)Z"⟩
def RX6 : String := "FourWalls$Reader"
def TX6 : u_T := fun k => match k with
  | 0 => ("FourWalls$Reader", "text", "LFourWalls$Text;", true)
  | 1 => ("FourWalls$Reader", "plan", "LFourWalls$Plan;", true)
  | 2 => ("FourWalls$Reader", "fault", "I", false)
  | 3 => ("FourWalls$Reader", "faultAt", "I", false)
  | 4 => ("FourWalls$Reader", "at", "I", false)
  | _ => ("FourWalls$Reader", "windTold", "Z", false)
def tyX6 : Nat → FieldType := fun k => match k with
  | 0 => .object "FourWalls$Text"
  | 1 => .object "FourWalls$Plan"
  | 2 => .int
  | 3 => .int
  | 4 => .int
  | _ => .boolean
abbrev wsX60 : List Cond := u_ws RX6 TX6 6
theorem nmX6 : ∀ a, a < 6 → ∀ b, b < 6 → a ≠ b → (TX6 a).2.1 ≠ (TX6 b).2.1 := by decide +kernel
theorem tyX6_ok : ∀ k, k < 6 → parseFieldDescriptor (TX6 k).2.2.1 = some (tyX6 k) := by decide +kernel
abbrev cX6_init : ByteArray := prog_8_method_1_code
def yX6_init : MethodName := ⟨RX6, "<init>", "(LFourWalls$Text;)V"⟩
abbrev cX6_read : ByteArray := prog_8_method_2_code
def yX6_read : MethodName := ⟨RX6, "read", "()V"⟩
abbrev cX6_readClause : ByteArray := prog_8_method_3_code
def yX6_readClause : MethodName := ⟨RX6, "readClause", "()V"⟩
abbrev cX6_readWalls : ByteArray := prog_8_method_4_code
def yX6_readWalls : MethodName := ⟨RX6, "readWalls", "(I)V"⟩
abbrev cX6_readWind : ByteArray := prog_8_method_5_code
def yX6_readWind : MethodName := ⟨RX6, "readWind", "(I)V"⟩
abbrev cX6_readSound : ByteArray := prog_8_method_6_code
def yX6_readSound : MethodName := ⟨RX6, "readSound", "(I)V"⟩
abbrev cX6_readWitness : ByteArray := prog_8_method_7_code
def yX6_readWitness : MethodName := ⟨RX6, "readWitness", "(I)V"⟩
abbrev cX6_readNumber : ByteArray := prog_8_method_8_code
def yX6_readNumber : MethodName := ⟨RX6, "readNumber", "(I)I"⟩
abbrev cX6_readEnd : ByteArray := prog_8_method_9_code
def yX6_readEnd : MethodName := ⟨RX6, "readEnd", "()V"⟩
abbrev cX6_skipBlanks : ByteArray := prog_8_method_10_code
def yX6_skipBlanks : MethodName := ⟨RX6, "skipBlanks", "()V"⟩
abbrev cX6_isFigure : ByteArray := prog_8_method_11_code
def yX6_isFigure : MethodName := ⟨RX6, "isFigure", "(I)Z"⟩
abbrev cX6_fail : ByteArray := prog_8_method_12_code
def yX6_fail : MethodName := ⟨RX6, "fail", "(II)V"⟩
def RX7 : String := "FourWalls$Row"
def TX7 : u_T := fun k => match k with
  | _ => ("", "", "", false)
def tyX7 : Nat → FieldType := fun k => match k with
  | _ => .int
abbrev wsX70 : List Cond := u_ws RX7 TX7 0
theorem nmX7 : ∀ a, a < 0 → ∀ b, b < 0 → a ≠ b → (TX7 a).2.1 ≠ (TX7 b).2.1 := by decide +kernel
theorem tyX7_ok : ∀ k, k < 0 → parseFieldDescriptor (TX7 k).2.2.1 = some (tyX7 k) := by decide +kernel
abbrev cX7_get : ByteArray := prog_9_method_2_code
def yX7_get : MethodName := ⟨RX7, "get", "([II)I"⟩
abbrev cX7_put : ByteArray := prog_9_method_3_code
def yX7_put : MethodName := ⟨RX7, "put", "([III)V"⟩
abbrev cX7_copy : ByteArray := prog_9_method_4_code
def yX7_copy : MethodName := ⟨RX7, "copy", "([II[III)V"⟩
def RX8 : String := "FourWalls$State"
def TX8 : u_T := fun k => match k with
  | _ => ("FourWalls$State", "row", "[I", true)
def tyX8 : Nat → FieldType := fun k => match k with
  | _ => .array .int
abbrev wsX80 : List Cond := u_ws RX8 TX8 1
theorem nmX8 : ∀ a, a < 1 → ∀ b, b < 1 → a ≠ b → (TX8 a).2.1 ≠ (TX8 b).2.1 := by decide +kernel
theorem tyX8_ok : ∀ k, k < 1 → parseFieldDescriptor (TX8 k).2.2.1 = some (tyX8 k) := by decide +kernel
abbrev cX8_init : ByteArray := prog_10_method_1_code
def yX8_init : MethodName := ⟨RX8, "<init>", "()V"⟩
abbrev cX8_get : ByteArray := prog_10_method_2_code
def yX8_get : MethodName := ⟨RX8, "get", "(I)I"⟩
abbrev cX8_put : ByteArray := prog_10_method_3_code
def yX8_put : MethodName := ⟨RX8, "put", "(II)V"⟩
abbrev cX8_take : ByteArray := prog_10_method_4_code
def yX8_take : MethodName := ⟨RX8, "take", "(LFourWalls$State;)V"⟩
abbrev cX8_begin : ByteArray := prog_10_method_5_code
def yX8_begin : MethodName := ⟨RX8, "begin", "(LFourWalls$Plan;)V"⟩
abbrev cX8_forgetMornings : ByteArray := prog_10_method_6_code
def yX8_forgetMornings : MethodName := ⟨RX8, "forgetMornings", "()V"⟩
def RX9 : String := "FourWalls$Text"
def TX9 : u_T := fun k => match k with
  | 0 => ("FourWalls$Text", "letters", "[I", true)
  | _ => ("FourWalls$Text", "length", "I", false)
def tyX9 : Nat → FieldType := fun k => match k with
  | 0 => .array .int
  | _ => .int
abbrev wsX90 : List Cond := u_ws RX9 TX9 2
theorem nmX9 : ∀ a, a < 2 → ∀ b, b < 2 → a ≠ b → (TX9 a).2.1 ≠ (TX9 b).2.1 := by decide +kernel
theorem tyX9_ok : ∀ k, k < 2 → parseFieldDescriptor (TX9 k).2.2.1 = some (tyX9 k) := by decide +kernel
abbrev cX9_init : ByteArray := prog_11_method_1_code
def yX9_init : MethodName := ⟨RX9, "<init>", "()V"⟩
abbrev cX9_add : ByteArray := prog_11_method_2_code
def yX9_add : MethodName := ⟨RX9, "add", "(I)Z"⟩
abbrev cX9_letterAt : ByteArray := prog_11_method_3_code
def yX9_letterAt : MethodName := ⟨RX9, "letterAt", "(I)I"⟩
def RX10 : String := "FourWalls$Trial"
def TX10 : u_T := fun k => match k with
  | 0 => ("FourWalls$Trial", "plan", "LFourWalls$Plan;", true)
  | 1 => ("FourWalls$Trial", "state", "LFourWalls$State;", true)
  | 2 => ("FourWalls$Trial", "hearing", "LFourWalls$Hearing;", true)
  | _ => ("FourWalls$Trial", "listenersOf", "[I", true)
def tyX10 : Nat → FieldType := fun k => match k with
  | 0 => .object "FourWalls$Plan"
  | 1 => .object "FourWalls$State"
  | 2 => .object "FourWalls$Hearing"
  | _ => .array .int
abbrev wsX100 : List Cond := u_ws RX10 TX10 4
theorem nmX10 : ∀ a, a < 4 → ∀ b, b < 4 → a ≠ b → (TX10 a).2.1 ≠ (TX10 b).2.1 := by decide +kernel
theorem tyX10_ok : ∀ k, k < 4 → parseFieldDescriptor (TX10 k).2.2.1 = some (tyX10 k) := by decide +kernel
abbrev cX10_init : ByteArray := prog_12_method_1_code
def yX10_init : MethodName := ⟨RX10, "<init>", "(LFourWalls$Plan;LFourWalls$State;LFourWalls$Hearing;)V"⟩
abbrev cX10_listeners : ByteArray := prog_12_method_2_code
def yX10_listeners : MethodName := ⟨RX10, "listeners", "(III)I"⟩
abbrev cX10_unheard : ByteArray := prog_12_method_3_code
def yX10_unheard : MethodName := ⟨RX10, "unheard", "(I)I"⟩
abbrev cX10_fewestEars : ByteArray := prog_12_method_4_code
def yX10_fewestEars : MethodName := ⟨RX10, "fewestEars", "(III)I"⟩
abbrev cX10_coverAll : ByteArray := prog_12_method_5_code
def yX10_coverAll : MethodName := ⟨RX10, "coverAll", "(II)Z"⟩
abbrev cX10_alikePair : ByteArray := prog_12_method_6_code
def yX10_alikePair : MethodName := ⟨RX10, "alikePair", "(II)I"⟩
abbrev cX10_areAlike : ByteArray := prog_12_method_7_code
def yX10_areAlike : MethodName := ⟨RX10, "areAlike", "(III)Z"⟩
abbrev cX10_hidingThickness : ByteArray := prog_12_method_8_code
def yX10_hidingThickness : MethodName := ⟨RX10, "hidingThickness", "(III)I"⟩
abbrev cX10_oddsOfHearing : ByteArray := prog_12_method_9_code
def yX10_oddsOfHearing : MethodName := ⟨RX10, "oddsOfHearing", "(I)I"⟩
def RX11 : String := "FourWalls"
def TX11 : u_T := fun k => match k with
  | 0 => ("FourWalls", "text", "LFourWalls$Text;", true)
  | 1 => ("FourWalls", "plan", "LFourWalls$Plan;", true)
  | 2 => ("FourWalls", "reader", "LFourWalls$Reader;", true)
  | 3 => ("FourWalls", "state", "LFourWalls$State;", true)
  | 4 => ("FourWalls", "past", "LFourWalls$Past;", true)
  | 5 => ("FourWalls", "theSeed", "I", false)
  | 6 => ("FourWalls", "images", "[LFourWalls$Image;", true)
  | 7 => ("FourWalls", "hearing", "LFourWalls$Hearing;", true)
  | 8 => ("FourWalls", "trial", "LFourWalls$Trial;", true)
  | 9 => ("FourWalls", "claims", "LFourWalls$Claims;", true)
  | _ => ("FourWalls", "book", "LFourWalls$Book;", true)
def tyX11 : Nat → FieldType := fun k => match k with
  | 0 => .object "FourWalls$Text"
  | 1 => .object "FourWalls$Plan"
  | 2 => .object "FourWalls$Reader"
  | 3 => .object "FourWalls$State"
  | 4 => .object "FourWalls$Past"
  | 5 => .int
  | 6 => .array (.object "FourWalls$Image")
  | 7 => .object "FourWalls$Hearing"
  | 8 => .object "FourWalls$Trial"
  | 9 => .object "FourWalls$Claims"
  | _ => .object "FourWalls$Book"
abbrev wsX110 : List Cond := u_ws RX11 TX11 11
theorem nmX11 : ∀ a, a < 11 → ∀ b, b < 11 → a ≠ b → (TX11 a).2.1 ≠ (TX11 b).2.1 := by decide +kernel
theorem tyX11_ok : ∀ k, k < 11 → parseFieldDescriptor (TX11 k).2.2.1 = some (tyX11 k) := by decide +kernel
abbrev cX11_init : ByteArray := prog_1_method_1_code
def yX11_init : MethodName := ⟨RX11, "<init>", "()V"⟩
abbrev cX11_feed : ByteArray := prog_1_method_2_code
def yX11_feed : MethodName := ⟨RX11, "feed", "(I)I"⟩
abbrev cX11_house : ByteArray := prog_1_method_3_code
def yX11_house : MethodName := ⟨RX11, "house", "()I"⟩
abbrev cX11_fault : ByteArray := prog_1_method_4_code
def yX11_fault : MethodName := ⟨RX11, "fault", "()I"⟩
abbrev cX11_told : ByteArray := prog_1_method_5_code
def yX11_told : MethodName := ⟨RX11, "told", "(I)I"⟩
abbrev cX11_thick : ByteArray := prog_1_method_6_code
def yX11_thick : MethodName := ⟨RX11, "thick", "(I)I"⟩
abbrev cX11_sound : ByteArray := prog_1_method_7_code
def yX11_sound : MethodName := ⟨RX11, "sound", "(II)I"⟩
abbrev cX11_witness : ByteArray := prog_1_method_8_code
def yX11_witness : MethodName := ⟨RX11, "witness", "(II)I"⟩
abbrev cX11_morning : ByteArray := prog_1_method_9_code
def yX11_morning : MethodName := ⟨RX11, "morning", "(II)I"⟩
abbrev cX11_move : ByteArray := prog_1_method_10_code
def yX11_move : MethodName := ⟨RX11, "move", "(II)I"⟩
abbrev cX11_wall : ByteArray := prog_1_method_11_code
def yX11_wall : MethodName := ⟨RX11, "wall", "(II)I"⟩
abbrev cX11_wind : ByteArray := prog_1_method_12_code
def yX11_wind : MethodName := ⟨RX11, "wind", "(I)I"⟩
abbrev cX11_drift : ByteArray := prog_1_method_13_code
def yX11_drift : MethodName := ⟨RX11, "drift", "(I)I"⟩
abbrev cX11_undo : ByteArray := prog_1_method_14_code
def yX11_undo : MethodName := ⟨RX11, "undo", "()I"⟩
abbrev cX11_comes : ByteArray := prog_1_method_15_code
def yX11_comes : MethodName := ⟨RX11, "comes", "(III)I"⟩
abbrev cX11_says : ByteArray := prog_1_method_16_code
def yX11_says : MethodName := ⟨RX11, "says", "(III)I"⟩
abbrev cX11_listen : ByteArray := prog_1_method_17_code
def yX11_listen : MethodName := ⟨RX11, "listen", "(III)I"⟩
abbrev cX11_deaf : ByteArray := prog_1_method_18_code
def yX11_deaf : MethodName := ⟨RX11, "deaf", "(I)I"⟩
abbrev cX11_ears : ByteArray := prog_1_method_19_code
def yX11_ears : MethodName := ⟨RX11, "ears", "(III)I"⟩
abbrev cX11_alike : ByteArray := prog_1_method_20_code
def yX11_alike : MethodName := ⟨RX11, "alike", "(II)I"⟩
abbrev cX11_hides : ByteArray := prog_1_method_21_code
def yX11_hides : MethodName := ⟨RX11, "hides", "(III)I"⟩
abbrev cX11_midwife : ByteArray := prog_1_method_22_code
def yX11_midwife : MethodName := ⟨RX11, "midwife", "(ZIIII)I"⟩
abbrev cX11_bargain : ByteArray := prog_1_method_23_code
def yX11_bargain : MethodName := ⟨RX11, "bargain", "(IIII)I"⟩
abbrev cX11_found : ByteArray := prog_1_method_24_code
def yX11_found : MethodName := ⟨RX11, "found", "(I)I"⟩
abbrev cX11_say : ByteArray := prog_1_method_25_code
def yX11_say : MethodName := ⟨RX11, "say", "(II)I"⟩
abbrev cX11_births : ByteArray := prog_1_method_26_code
def yX11_births : MethodName := ⟨RX11, "births", "(I)I"⟩
abbrev cX11_liars : ByteArray := prog_1_method_27_code
def yX11_liars : MethodName := ⟨RX11, "liars", "(I)I"⟩
abbrev cX11_leastLiars : ByteArray := prog_1_method_28_code
def yX11_leastLiars : MethodName := ⟨RX11, "leastLiars", "(I)I"⟩
abbrev cX11_ask : ByteArray := prog_1_method_29_code
def yX11_ask : MethodName := ⟨RX11, "ask", "()I"⟩
abbrev cX11_write : ByteArray := prog_1_method_30_code
def yX11_write : MethodName := ⟨RX11, "write", "(I)I"⟩
abbrev cX11_tear : ByteArray := prog_1_method_31_code
def yX11_tear : MethodName := ⟨RX11, "tear", "()I"⟩
abbrev cX11_judge : ByteArray := prog_1_method_32_code
def yX11_judge : MethodName := ⟨RX11, "judge", "()I"⟩
abbrev cX11_seed : ByteArray := prog_1_method_33_code
def yX11_seed : MethodName := ⟨RX11, "seed", "(I)I"⟩
abbrev cX11_keep : ByteArray := prog_1_method_34_code
def yX11_keep : MethodName := ⟨RX11, "keep", "(I)I"⟩
abbrev cX11_goBack : ByteArray := prog_1_method_35_code
def yX11_goBack : MethodName := ⟨RX11, "goBack", "(I)I"⟩
abbrev cX11_isOutside : ByteArray := prog_1_method_36_code
def yX11_isOutside : MethodName := ⟨RX11, "isOutside", "(II)Z"⟩
abbrev cX11_isFullOfMornings : ByteArray := prog_1_method_37_code
def yX11_isFullOfMornings : MethodName := ⟨RX11, "isFullOfMornings", "()Z"⟩
abbrev cX11_change : ByteArray := prog_1_method_38_code
def yX11_change : MethodName := ⟨RX11, "change", "(II)I"⟩
abbrev cX11_swear : ByteArray := prog_1_method_39_code
def yX11_swear : MethodName := ⟨RX11, "swear", "(II)V"⟩
abbrev cX11_draw : ByteArray := prog_1_method_40_code
def yX11_draw : MethodName := ⟨RX11, "draw", "(I)I"⟩
abbrev cX11_imageAt : ByteArray := prog_1_method_41_code
def yX11_imageAt : MethodName := ⟨RX11, "imageAt", "(I)LFourWalls$Image;"⟩
abbrev cX11_forgetImages : ByteArray := prog_1_method_42_code
def yX11_forgetImages : MethodName := ⟨RX11, "forgetImages", "()V"⟩
def RX12 : String := "FourWallsModel"
def TX12 : u_T := fun k => match k with
  | 0 => ("FourWallsModel", "walls", "I", false)
  | 1 => ("FourWallsModel", "sounds", "I", false)
  | 2 => ("FourWallsModel", "loud", "[I", true)
  | 3 => ("FourWallsModel", "tone", "[I", true)
  | 4 => ("FourWallsModel", "witnesses", "I", false)
  | 5 => ("FourWallsModel", "needs", "[I", true)
  | 6 => ("FourWallsModel", "whose", "[I", true)
  | 7 => ("FourWallsModel", "now", "[I", true)
  | 8 => ("FourWallsModel", "seed", "I", false)
  | 9 => ("FourWallsModel", "text", "[I", true)
  | 10 => ("FourWallsModel", "texted", "I", false)
  | 11 => ("FourWallsModel", "faultPlace", "I", false)
  | 12 => ("FourWallsModel", "at0", "I", false)
  | 13 => ("FourWallsModel", "number", "I", false)
  | 14 => ("FourWallsModel", "numberAt", "I", false)
  | 15 => ("FourWallsModel", "readWalls", "I", false)
  | 16 => ("FourWallsModel", "readThick", "[I", true)
  | 17 => ("FourWallsModel", "readWind", "I", false)
  | 18 => ("FourWallsModel", "readSounds", "I", false)
  | 19 => ("FourWallsModel", "readLoud", "[I", true)
  | 20 => ("FourWallsModel", "readTone", "[I", true)
  | 21 => ("FourWallsModel", "readWitnesses", "I", false)
  | 22 => ("FourWallsModel", "readPlace", "[I", true)
  | 23 => ("FourWallsModel", "readNeeds", "[I", true)
  | 24 => ("FourWallsModel", "readWhose", "[I", true)
  | 25 => ("FourWallsModel", "undos", "I", false)
  | 26 => ("FourWallsModel", "past", "[I", true)
  | 27 => ("FourWallsModel", "said", "I", false)
  | 28 => ("FourWallsModel", "saidBy", "[I", true)
  | 29 => ("FourWallsModel", "saidWhat", "[I", true)
  | 30 => ("FourWallsModel", "parts", "[I", true)
  | 31 => ("FourWallsModel", "booked", "I", false)
  | 32 => ("FourWallsModel", "book", "[I", true)
  | 33 => ("FourWallsModel", "images", "[I", true)
  | _ => ("FourWallsModel", "isKept", "[Z", true)
def tyX12 : Nat → FieldType := fun k => match k with
  | 0 => .int
  | 1 => .int
  | 2 => .array .int
  | 3 => .array .int
  | 4 => .int
  | 5 => .array .int
  | 6 => .array .int
  | 7 => .array .int
  | 8 => .int
  | 9 => .array .int
  | 10 => .int
  | 11 => .int
  | 12 => .int
  | 13 => .int
  | 14 => .int
  | 15 => .int
  | 16 => .array .int
  | 17 => .int
  | 18 => .int
  | 19 => .array .int
  | 20 => .array .int
  | 21 => .int
  | 22 => .array .int
  | 23 => .array .int
  | 24 => .array .int
  | 25 => .int
  | 26 => .array .int
  | 27 => .int
  | 28 => .array .int
  | 29 => .array .int
  | 30 => .array .int
  | 31 => .int
  | 32 => .array .int
  | 33 => .array .int
  | _ => .array .boolean
abbrev wsX120 : List Cond := u_ws RX12 TX12 35
theorem nmX12 : ∀ a, a < 35 → ∀ b, b < 35 → a ≠ b → (TX12 a).2.1 ≠ (TX12 b).2.1 := by decide +kernel
theorem tyX12_ok : ∀ k, k < 35 → parseFieldDescriptor (TX12 k).2.2.1 = some (tyX12 k) := by decide +kernel
abbrev cX12_init : ByteArray := prog_14_method_1_code
def yX12_init : MethodName := ⟨RX12, "<init>", "()V"⟩
abbrev cX12_clearNow : ByteArray := prog_14_method_3_code
def yX12_clearNow : MethodName := ⟨RX12, "clearNow", "()V"⟩
abbrev cX12_in : ByteArray := prog_14_method_4_code
def yX12_in : MethodName := ⟨RX12, "in", "(JJJ)Z"⟩
abbrev cX12_has : ByteArray := prog_14_method_5_code
def yX12_has : MethodName := ⟨RX12, "has", "(II)Z"⟩
abbrev cX12_bits : ByteArray := prog_14_method_6_code
def yX12_bits : MethodName := ⟨RX12, "bits", "(I)I"⟩
abbrev cX12_places : ByteArray := prog_14_method_7_code
def yX12_places : MethodName := ⟨RX12, "places", "()I"⟩
abbrev cX12_isPlace : ByteArray := prog_14_method_8_code
def yX12_isPlace : MethodName := ⟨RX12, "isPlace", "(I)Z"⟩
abbrev cX12_isPlaces : ByteArray := prog_14_method_9_code
def yX12_isPlaces : MethodName := ⟨RX12, "isPlaces", "(I)Z"⟩
abbrev cX12_isSound : ByteArray := prog_14_method_10_code
def yX12_isSound : MethodName := ⟨RX12, "isSound", "(I)Z"⟩
abbrev cX12_isWitness : ByteArray := prog_14_method_11_code
def yX12_isWitness : MethodName := ⟨RX12, "isWitness", "(I)Z"⟩
abbrev cX12_feed : ByteArray := prog_14_method_12_code
def yX12_feed : MethodName := ⟨RX12, "feed", "(I)I"⟩
abbrev cX12_here : ByteArray := prog_14_method_13_code
def yX12_here : MethodName := ⟨RX12, "here", "()I"⟩
abbrev cX12_fails : ByteArray := prog_14_method_14_code
def yX12_fails : MethodName := ⟨RX12, "fails", "(II)I"⟩
abbrev cX12_takeNumber : ByteArray := prog_14_method_15_code
def yX12_takeNumber : MethodName := ⟨RX12, "takeNumber", "(II)I"⟩
abbrev cX12_into : ByteArray := prog_14_method_16_code
def yX12_into : MethodName := ⟨RX12, "into", "([IIII)I"⟩
abbrev cX12_takeWalls : ByteArray := prog_14_method_17_code
def yX12_takeWalls : MethodName := ⟨RX12, "takeWalls", "()I"⟩
abbrev cX12_takeWind : ByteArray := prog_14_method_18_code
def yX12_takeWind : MethodName := ⟨RX12, "takeWind", "()I"⟩
abbrev cX12_takeSound : ByteArray := prog_14_method_19_code
def yX12_takeSound : MethodName := ⟨RX12, "takeSound", "()I"⟩
abbrev cX12_takeWitness : ByteArray := prog_14_method_20_code
def yX12_takeWitness : MethodName := ⟨RX12, "takeWitness", "()I"⟩
abbrev cX12_takeClause : ByteArray := prog_14_method_21_code
def yX12_takeClause : MethodName := ⟨RX12, "takeClause", "()I"⟩
abbrev cX12_takeRead : ByteArray := prog_14_method_22_code
def yX12_takeRead : MethodName := ⟨RX12, "takeRead", "()V"⟩
abbrev cX12_house : ByteArray := prog_14_method_23_code
def yX12_house : MethodName := ⟨RX12, "house", "()I"⟩
abbrev cX12_fault : ByteArray := prog_14_method_24_code
def yX12_fault : MethodName := ⟨RX12, "fault", "()I"⟩
abbrev cX12_told : ByteArray := prog_14_method_25_code
def yX12_told : MethodName := ⟨RX12, "told", "(I)I"⟩
abbrev cX12_thick : ByteArray := prog_14_method_26_code
def yX12_thick : MethodName := ⟨RX12, "thick", "(I)I"⟩
abbrev cX12_sound : ByteArray := prog_14_method_27_code
def yX12_sound : MethodName := ⟨RX12, "sound", "(II)I"⟩
abbrev cX12_witness : ByteArray := prog_14_method_28_code
def yX12_witness : MethodName := ⟨RX12, "witness", "(II)I"⟩
abbrev cX12_loudAt : ByteArray := prog_14_method_29_code
def yX12_loudAt : MethodName := ⟨RX12, "loudAt", "(III)I"⟩
abbrev cX12_hears : ByteArray := prog_14_method_30_code
def yX12_hears : MethodName := ⟨RX12, "hears", "(III)Z"⟩
abbrev cX12_hearsTone : ByteArray := prog_14_method_31_code
def yX12_hearsTone : MethodName := ⟨RX12, "hearsTone", "(III)Z"⟩
abbrev cX12_widowers : ByteArray := prog_14_method_32_code
def yX12_widowers : MethodName := ⟨RX12, "widowers", "()I"⟩
abbrev cX12_sayingOf : ByteArray := prog_14_method_33_code
def yX12_sayingOf : MethodName := ⟨RX12, "sayingOf", "(III)I"⟩
abbrev cX12_remember : ByteArray := prog_14_method_34_code
def yX12_remember : MethodName := ⟨RX12, "remember", "()V"⟩
abbrev cX12_morningOf : ByteArray := prog_14_method_35_code
def yX12_morningOf : MethodName := ⟨RX12, "morningOf", "(II)V"⟩
abbrev cX12_morning : ByteArray := prog_14_method_36_code
def yX12_morning : MethodName := ⟨RX12, "morning", "(II)I"⟩
abbrev cX12_move : ByteArray := prog_14_method_37_code
def yX12_move : MethodName := ⟨RX12, "move", "(II)I"⟩
abbrev cX12_wall : ByteArray := prog_14_method_38_code
def yX12_wall : MethodName := ⟨RX12, "wall", "(II)I"⟩
abbrev cX12_wind : ByteArray := prog_14_method_39_code
def yX12_wind : MethodName := ⟨RX12, "wind", "(I)I"⟩
abbrev cX12_draw : ByteArray := prog_14_method_40_code
def yX12_draw : MethodName := ⟨RX12, "draw", "(I)I"⟩
abbrev cX12_drift : ByteArray := prog_14_method_41_code
def yX12_drift : MethodName := ⟨RX12, "drift", "(I)I"⟩
abbrev cX12_undo : ByteArray := prog_14_method_42_code
def yX12_undo : MethodName := ⟨RX12, "undo", "()I"⟩
abbrev cX12_comes : ByteArray := prog_14_method_43_code
def yX12_comes : MethodName := ⟨RX12, "comes", "(III)I"⟩
abbrev cX12_says : ByteArray := prog_14_method_44_code
def yX12_says : MethodName := ⟨RX12, "says", "(III)I"⟩
abbrev cX12_listenTo : ByteArray := prog_14_method_45_code
def yX12_listenTo : MethodName := ⟨RX12, "listenTo", "(III)I"⟩
abbrev cX12_listen : ByteArray := prog_14_method_46_code
def yX12_listen : MethodName := ⟨RX12, "listen", "(III)I"⟩
abbrev cX12_isHeard : ByteArray := prog_14_method_47_code
def yX12_isHeard : MethodName := ⟨RX12, "isHeard", "(II)Z"⟩
abbrev cX12_deaf : ByteArray := prog_14_method_48_code
def yX12_deaf : MethodName := ⟨RX12, "deaf", "(I)I"⟩
abbrev cX12_allHeard : ByteArray := prog_14_method_49_code
def yX12_allHeard : MethodName := ⟨RX12, "allHeard", "(IIII)Z"⟩
abbrev cX12_ears : ByteArray := prog_14_method_50_code
def yX12_ears : MethodName := ⟨RX12, "ears", "(III)I"⟩
abbrev cX12_areAlike : ByteArray := prog_14_method_51_code
def yX12_areAlike : MethodName := ⟨RX12, "areAlike", "(III)Z"⟩
abbrev cX12_alike : ByteArray := prog_14_method_52_code
def yX12_alike : MethodName := ⟨RX12, "alike", "(II)I"⟩
abbrev cX12_hides : ByteArray := prog_14_method_53_code
def yX12_hides : MethodName := ⟨RX12, "hides", "(III)I"⟩
abbrev cX12_midwife : ByteArray := prog_14_method_54_code
def yX12_midwife : MethodName := ⟨RX12, "midwife", "(ZIIII)I"⟩
abbrev cX12_bargain : ByteArray := prog_14_method_55_code
def yX12_bargain : MethodName := ⟨RX12, "bargain", "(IIII)I"⟩
abbrev cX12_found : ByteArray := prog_14_method_56_code
def yX12_found : MethodName := ⟨RX12, "found", "(I)I"⟩
abbrev cX12_say : ByteArray := prog_14_method_57_code
def yX12_say : MethodName := ⟨RX12, "say", "(II)I"⟩
abbrev cX12_isPair : ByteArray := prog_14_method_58_code
def yX12_isPair : MethodName := ⟨RX12, "isPair", "(I)Z"⟩
abbrev cX12_sayingFor : ByteArray := prog_14_method_59_code
def yX12_sayingFor : MethodName := ⟨RX12, "sayingFor", "(II)I"⟩
abbrev cX12_liarsOf : ByteArray := prog_14_method_60_code
def yX12_liarsOf : MethodName := ⟨RX12, "liarsOf", "(I)I"⟩
abbrev cX12_births : ByteArray := prog_14_method_61_code
def yX12_births : MethodName := ⟨RX12, "births", "(I)I"⟩
abbrev cX12_liars : ByteArray := prog_14_method_62_code
def yX12_liars : MethodName := ⟨RX12, "liars", "(I)I"⟩
abbrev cX12_leastLiars : ByteArray := prog_14_method_63_code
def yX12_leastLiars : MethodName := ⟨RX12, "leastLiars", "(I)I"⟩
abbrev cX12_greatestPart : ByteArray := prog_14_method_64_code
def yX12_greatestPart : MethodName := ⟨RX12, "greatestPart", "(I)I"⟩
abbrev cX12_ask : ByteArray := prog_14_method_65_code
def yX12_ask : MethodName := ⟨RX12, "ask", "()I"⟩
abbrev cX12_write : ByteArray := prog_14_method_66_code
def yX12_write : MethodName := ⟨RX12, "write", "(I)I"⟩
abbrev cX12_tear : ByteArray := prog_14_method_67_code
def yX12_tear : MethodName := ⟨RX12, "tear", "()I"⟩
abbrev cX12_judge : ByteArray := prog_14_method_68_code
def yX12_judge : MethodName := ⟨RX12, "judge", "()I"⟩
abbrev cX12_seed : ByteArray := prog_14_method_69_code
def yX12_seed : MethodName := ⟨RX12, "seed", "(I)I"⟩
abbrev cX12_keep : ByteArray := prog_14_method_70_code
def yX12_keep : MethodName := ⟨RX12, "keep", "(I)I"⟩
abbrev cX12_goBack : ByteArray := prog_14_method_71_code
def yX12_goBack : MethodName := ⟨RX12, "goBack", "(I)I"⟩
def RJ6 : String := "java/lang/Integer"
def TJ6 : u_T := fun k => match k with
  | _ => ("", "", "", false)
def tyJ6 : Nat → FieldType := fun k => match k with
  | _ => .int
abbrev wsJ60 : List Cond := u_ws RJ6 TJ6 0
theorem nmJ6 : ∀ a, a < 0 → ∀ b, b < 0 → a ≠ b → (TJ6 a).2.1 ≠ (TJ6 b).2.1 := by decide +kernel
theorem tyJ6_ok : ∀ k, k < 0 → parseFieldDescriptor (TJ6 k).2.2.1 = some (tyJ6 k) := by decide +kernel
abbrev cJ6_bitCount_0f7a4 : ByteArray := prog_15_method_49_code
def yJ6_bitCount_0f7a4 : MethodName := ⟨RJ6, "bitCount", "(I)I"⟩
def RJ9 : String := "java/lang/Math"
def TJ9 : u_T := fun k => match k with
  | _ => ("", "", "", false)
def tyJ9 : Nat → FieldType := fun k => match k with
  | _ => .int
abbrev wsJ90 : List Cond := u_ws RJ9 TJ9 0
theorem nmJ9 : ∀ a, a < 0 → ∀ b, b < 0 → a ≠ b → (TJ9 a).2.1 ≠ (TJ9 b).2.1 := by decide +kernel
theorem tyJ9_ok : ∀ k, k < 0 → parseFieldDescriptor (TJ9 k).2.2.1 = some (tyJ9 k) := by decide +kernel
abbrev cJ9_max_7cf53 : ByteArray := prog_16_method_65_code
def yJ9_max_7cf53 : MethodName := ⟨RJ9, "max", "(II)I"⟩
abbrev cJ9_min_7cf53 : ByteArray := prog_16_method_69_code
def yJ9_min_7cf53 : MethodName := ⟨RJ9, "min", "(II)I"⟩
def RL : String := "FourWallsLaw"
abbrev cL_law : ByteArray := code
def yL_law : MethodName := ⟨RL, "law", "([I)Z"⟩
def wsX0_init : List Cond := .code yX0_init cX0_init 1 none :: ([.methodLink RX0 3 objectInit, .instanceMethod objectInit, .code objectInit ⟨#[0xb1]⟩ 1 none, .arrayClass .int, .fieldLink RX0 9 "FourWalls$Book" "entries" "[I"] ++ wsX00)
def wsX7_put : List Cond := .code yX7_put cX7_put 3 none :: ([])
def wsX0_add : List Cond := .code yX0_add cX0_add 2 (some .boolean) :: ([.fieldLink RX0 15 "FourWalls$Book" "count" "I", .fieldLink RX0 9 "FourWalls$Book" "entries" "[I", .methodLink RX0 19 yX7_put, .static yX7_put, .initialized RX7, .code yX7_put cX7_put 3 none] ++ wsX00)
def wsX7_get : List Cond := .code yX7_get cX7_get 2 (some .int) :: ([])
def wsX0_firstOtherThan : List Cond := .code yX0_firstOtherThan cX0_firstOtherThan 3 (some .int) :: ([.fieldLink RX0 15 "FourWalls$Book" "count" "I", .fieldLink RX0 9 "FourWalls$Book" "entries" "[I", .methodLink RX0 25 yX7_get, .static yX7_get, .initialized RX7, .code yX7_get cX7_get 2 (some .int)] ++ wsX00)
def wsX1_init : List Cond := .code yX1_init cX1_init 3 none :: ([.methodLink RX1 3 objectInit, .instanceMethod objectInit, .code objectInit ⟨#[0xb1]⟩ 1 none, .arrayClass .int, .fieldLink RX1 9 "FourWalls$Claims" "who" "[I", .fieldLink RX1 15 "FourWalls$Claims" "what" "[I", .fieldLink RX1 18 "FourWalls$Claims" "fitting" "[I", .fieldLink RX1 21 "FourWalls$Claims" "parts" "[I", .fieldLink RX1 24 "FourWalls$Claims" "plan" "LFourWalls$Plan;", .fieldLink RX1 28 "FourWalls$Claims" "hearing" "LFourWalls$Hearing;"] ++ wsX10)
def wsX1_add : List Cond := .code yX1_add cX1_add 3 (some .boolean) :: ([.fieldLink RX1 32 "FourWalls$Claims" "count" "I", .fieldLink RX1 9 "FourWalls$Claims" "who" "[I", .fieldLink RX1 15 "FourWalls$Claims" "what" "[I", .methodLink RX1 36 yX7_put, .static yX7_put, .initialized RX7, .code yX7_put cX7_put 3 none] ++ wsX10)
def wsX1_soundOf : List Cond := .code yX1_soundOf cX1_soundOf 1 (some .int) :: ([])
def wsX2_loudness : List Cond := .code yX2_loudness cX2_loudness 8 (some .int) :: ([.methodLink RX2 19 Lib.Math.min.name, .static Lib.Math.min.name, .initialized "java/lang/Math", .code Lib.Math.min.name Lib.Math.min.code 2 (some .int), .methodLink RX2 25 Lib.Math.max.name, .static Lib.Math.max.name, .code Lib.Math.max.name Lib.Math.max.code 2 (some .int), .fieldLink RX2 9 "FourWalls$Hearing" "plan" "LFourWalls$Plan;", .fieldLink RX2 28 "FourWalls$Plan" "loud" "[I", .fieldLink RX2 15 "FourWalls$Hearing" "state" "LFourWalls$State;", .fieldLink RX2 40 "FourWalls$State" "row" "[I", .methodLink RX2 34 yX7_get, .static yX7_get, .initialized RX7, .code yX7_get cX7_get 2 (some .int)] ++ wsX20 ++ wsX50 ++ wsX80)
def wsX2_margin : List Cond := .code yX2_margin cX2_margin 4 (some .int) :: ([.fieldLink RX2 15 "FourWalls$Hearing" "state" "LFourWalls$State;", .fieldLink RX2 40 "FourWalls$State" "row" "[I", .fieldLink RX2 9 "FourWalls$Hearing" "plan" "LFourWalls$Plan;", .fieldLink RX2 49 "FourWalls$Plan" "ear" "[I", .methodLink RX2 34 yX7_get, .static yX7_get, .initialized RX7, .code yX7_get cX7_get 2 (some .int), .methodLink RX2 45 yX2_loudness, .instanceMethod yX2_loudness, .selects RX2 yX2_loudness yX2_loudness, .initialized RX2, .code yX2_loudness cX2_loudness 8 (some .int), .methodLink RX2 19 Lib.Math.min.name, .static Lib.Math.min.name, .initialized "java/lang/Math", .code Lib.Math.min.name Lib.Math.min.code 2 (some .int), .methodLink RX2 25 Lib.Math.max.name, .static Lib.Math.max.name, .code Lib.Math.max.name Lib.Math.max.code 2 (some .int), .fieldLink RX2 28 "FourWalls$Plan" "loud" "[I"] ++ wsX20 ++ wsX80 ++ wsX50)
def wsX2_saying_r1 : List Cond := [Cond.fieldLink RX2 9 "FourWalls$Hearing" "plan" "LFourWalls$Plan;", Cond.fieldLink RX2 59 "FourWalls$Plan" "side" "[I", Cond.fieldLink RX2 62 "FourWalls$Plan" "sounds" "I", Cond.fieldLink RX2 65 "FourWalls$Plan" "tone" "[I", Cond.methodLink RX2 34 yX7_get, Cond.static yX7_get, Cond.initialized RX7, Cond.code yX7_get cX7_get 2 (some .int), Cond.methodLink RX2 56 yX2_margin, Cond.instanceMethod yX2_margin, Cond.selects RX2 yX2_margin yX2_margin, Cond.initialized RX2, Cond.code yX2_margin cX2_margin 4 (some .int), Cond.fieldLink RX2 15 "FourWalls$Hearing" "state" "LFourWalls$State;", Cond.fieldLink RX2 40 "FourWalls$State" "row" "[I", Cond.fieldLink RX2 49 "FourWalls$Plan" "ear" "[I", Cond.methodLink RX2 45 yX2_loudness, Cond.instanceMethod yX2_loudness, Cond.selects RX2 yX2_loudness yX2_loudness, Cond.code yX2_loudness cX2_loudness 8 (some .int), Cond.methodLink RX2 19 Lib.Math.min.name, Cond.static Lib.Math.min.name, Cond.initialized "java/lang/Math", Cond.code Lib.Math.min.name Lib.Math.min.code 2 (some .int)]
def wsX2_saying_r2 : List Cond := [Cond.methodLink RX2 25 Lib.Math.max.name, Cond.static Lib.Math.max.name, Cond.code Lib.Math.max.name Lib.Math.max.code 2 (some .int), Cond.fieldLink RX2 28 "FourWalls$Plan" "loud" "[I"]
def wsX2_saying : List Cond := .code yX2_saying cX2_saying 6 (some .int) :: ((wsX2_saying_r1 ++ wsX2_saying_r2) ++ wsX20 ++ wsX50 ++ wsX80)
def wsX1_liarsOf_r1 : List Cond := [Cond.fieldLink RX1 32 "FourWalls$Claims" "count" "I", Cond.fieldLink RX1 28 "FourWalls$Claims" "hearing" "LFourWalls$Hearing;", Cond.fieldLink RX1 9 "FourWalls$Claims" "who" "[I", Cond.fieldLink RX1 15 "FourWalls$Claims" "what" "[I", Cond.methodLink RX1 42 yX1_soundOf, Cond.static yX1_soundOf, Cond.initialized RX1, Cond.code yX1_soundOf cX1_soundOf 1 (some .int), Cond.methodLink RX1 46 yX7_get, Cond.static yX7_get, Cond.initialized RX7, Cond.code yX7_get cX7_get 2 (some .int), Cond.methodLink RX1 50 yX2_saying, Cond.instanceMethod yX2_saying, Cond.selects RX2 yX2_saying yX2_saying, Cond.initialized RX2, Cond.code yX2_saying cX2_saying 6 (some .int), Cond.fieldLink RX2 9 "FourWalls$Hearing" "plan" "LFourWalls$Plan;", Cond.fieldLink RX2 59 "FourWalls$Plan" "side" "[I", Cond.fieldLink RX2 62 "FourWalls$Plan" "sounds" "I", Cond.fieldLink RX2 65 "FourWalls$Plan" "tone" "[I", Cond.methodLink RX2 34 yX7_get, Cond.methodLink RX2 56 yX2_margin, Cond.instanceMethod yX2_margin]
def wsX1_liarsOf_r2 : List Cond := [Cond.selects RX2 yX2_margin yX2_margin, Cond.code yX2_margin cX2_margin 4 (some .int), Cond.fieldLink RX2 15 "FourWalls$Hearing" "state" "LFourWalls$State;", Cond.fieldLink RX2 40 "FourWalls$State" "row" "[I", Cond.fieldLink RX2 49 "FourWalls$Plan" "ear" "[I", Cond.methodLink RX2 45 yX2_loudness, Cond.instanceMethod yX2_loudness, Cond.selects RX2 yX2_loudness yX2_loudness, Cond.code yX2_loudness cX2_loudness 8 (some .int), Cond.methodLink RX2 19 Lib.Math.min.name, Cond.static Lib.Math.min.name, Cond.initialized "java/lang/Math", Cond.code Lib.Math.min.name Lib.Math.min.code 2 (some .int), Cond.methodLink RX2 25 Lib.Math.max.name, Cond.static Lib.Math.max.name, Cond.code Lib.Math.max.name Lib.Math.max.code 2 (some .int), Cond.fieldLink RX2 28 "FourWalls$Plan" "loud" "[I"]
def wsX1_liarsOf : List Cond := .code yX1_liarsOf cX1_liarsOf 5 (some .int) :: ((wsX1_liarsOf_r1 ++ wsX1_liarsOf_r2) ++ wsX10 ++ wsX20 ++ wsX50 ++ wsX80)
def wsX5_places : List Cond := .code yX5_places cX5_places 1 (some .int) :: ([.fieldLink RX5 30 "FourWalls$Plan" "walls" "I"] ++ wsX50)
def wsX1_pairs : List Cond := .code yX1_pairs cX1_pairs 1 (some .int) :: ([.fieldLink RX1 24 "FourWalls$Claims" "plan" "LFourWalls$Plan;", .fieldLink RX1 83 "FourWalls$Plan" "sounds" "I", .methodLink RX1 86 yX5_places, .instanceMethod yX5_places, .selects RX5 yX5_places yX5_places, .initialized RX5, .code yX5_places cX5_places 1 (some .int), .fieldLink RX5 30 "FourWalls$Plan" "walls" "I"] ++ wsX10 ++ wsX50)
def wsX1_pairAt : List Cond := .code yX1_pairAt cX1_pairAt 3 (some .int) :: ([.fieldLink RX1 24 "FourWalls$Claims" "plan" "LFourWalls$Plan;", .fieldLink RX1 83 "FourWalls$Plan" "sounds" "I", .methodLink RX1 86 yX5_places, .instanceMethod yX5_places, .selects RX5 yX5_places yX5_places, .initialized RX5, .code yX5_places cX5_places 1 (some .int), .fieldLink RX5 30 "FourWalls$Plan" "walls" "I"] ++ wsX10 ++ wsX50)
def wsX1_gatherBirths_r1 : List Cond := [Cond.fieldLink RX1 56 "FourWalls$Claims" "births" "I", Cond.fieldLink RX1 18 "FourWalls$Claims" "fitting" "[I", Cond.methodLink RX1 59 yX1_pairs, Cond.instanceMethod yX1_pairs, Cond.selects RX1 yX1_pairs yX1_pairs, Cond.initialized RX1, Cond.code yX1_pairs cX1_pairs 1 (some .int), Cond.fieldLink RX1 24 "FourWalls$Claims" "plan" "LFourWalls$Plan;", Cond.fieldLink RX1 83 "FourWalls$Plan" "sounds" "I", Cond.methodLink RX1 86 yX5_places, Cond.instanceMethod yX5_places, Cond.selects RX5 yX5_places yX5_places, Cond.initialized RX5, Cond.code yX5_places cX5_places 1 (some .int), Cond.fieldLink RX5 30 "FourWalls$Plan" "walls" "I", Cond.methodLink RX1 63 yX1_pairAt, Cond.instanceMethod yX1_pairAt, Cond.selects RX1 yX1_pairAt yX1_pairAt, Cond.code yX1_pairAt cX1_pairAt 3 (some .int), Cond.methodLink RX1 66 yX1_liarsOf, Cond.instanceMethod yX1_liarsOf, Cond.selects RX1 yX1_liarsOf yX1_liarsOf, Cond.code yX1_liarsOf cX1_liarsOf 5 (some .int), Cond.fieldLink RX1 32 "FourWalls$Claims" "count" "I"]
def wsX1_gatherBirths_r2 : List Cond := [Cond.fieldLink RX1 28 "FourWalls$Claims" "hearing" "LFourWalls$Hearing;", Cond.fieldLink RX1 9 "FourWalls$Claims" "who" "[I", Cond.fieldLink RX1 15 "FourWalls$Claims" "what" "[I", Cond.methodLink RX1 42 yX1_soundOf, Cond.static yX1_soundOf, Cond.code yX1_soundOf cX1_soundOf 1 (some .int), Cond.methodLink RX1 46 yX7_get, Cond.static yX7_get, Cond.initialized RX7, Cond.code yX7_get cX7_get 2 (some .int), Cond.methodLink RX1 50 yX2_saying, Cond.instanceMethod yX2_saying, Cond.selects RX2 yX2_saying yX2_saying, Cond.initialized RX2, Cond.code yX2_saying cX2_saying 6 (some .int), Cond.fieldLink RX2 9 "FourWalls$Hearing" "plan" "LFourWalls$Plan;", Cond.fieldLink RX2 59 "FourWalls$Plan" "side" "[I", Cond.fieldLink RX2 62 "FourWalls$Plan" "sounds" "I", Cond.fieldLink RX2 65 "FourWalls$Plan" "tone" "[I", Cond.methodLink RX2 34 yX7_get, Cond.methodLink RX2 56 yX2_margin, Cond.instanceMethod yX2_margin, Cond.selects RX2 yX2_margin yX2_margin, Cond.code yX2_margin cX2_margin 4 (some .int)]
def wsX1_gatherBirths_r3 : List Cond := [Cond.fieldLink RX2 15 "FourWalls$Hearing" "state" "LFourWalls$State;", Cond.fieldLink RX2 40 "FourWalls$State" "row" "[I", Cond.fieldLink RX2 49 "FourWalls$Plan" "ear" "[I", Cond.methodLink RX2 45 yX2_loudness, Cond.instanceMethod yX2_loudness, Cond.selects RX2 yX2_loudness yX2_loudness, Cond.code yX2_loudness cX2_loudness 8 (some .int), Cond.methodLink RX2 19 Lib.Math.min.name, Cond.static Lib.Math.min.name, Cond.initialized "java/lang/Math", Cond.code Lib.Math.min.name Lib.Math.min.code 2 (some .int), Cond.methodLink RX2 25 Lib.Math.max.name, Cond.static Lib.Math.max.name, Cond.code Lib.Math.max.name Lib.Math.max.code 2 (some .int), Cond.fieldLink RX2 28 "FourWalls$Plan" "loud" "[I", Cond.methodLink RX1 36 yX7_put, Cond.static yX7_put, Cond.code yX7_put cX7_put 3 none]
def wsX1_gatherBirths : List Cond := .code yX1_gatherBirths cX1_gatherBirths 3 none :: ((wsX1_gatherBirths_r1 ++ (wsX1_gatherBirths_r2 ++ wsX1_gatherBirths_r3)) ++ wsX10 ++ wsX50 ++ wsX20 ++ wsX80)
def wsX1_birthAt : List Cond := .code yX1_birthAt cX1_birthAt 2 (some .int) :: ([.fieldLink RX1 56 "FourWalls$Claims" "births" "I", .fieldLink RX1 18 "FourWalls$Claims" "fitting" "[I", .methodLink RX1 46 yX7_get, .static yX7_get, .initialized RX7, .code yX7_get cX7_get 2 (some .int)] ++ wsX10)
def wsX1_pairOfFewestLiars_r1 : List Cond := [Cond.methodLink RX1 63 yX1_pairAt, Cond.instanceMethod yX1_pairAt, Cond.selects RX1 yX1_pairAt yX1_pairAt, Cond.initialized RX1, Cond.code yX1_pairAt cX1_pairAt 3 (some .int), Cond.fieldLink RX1 24 "FourWalls$Claims" "plan" "LFourWalls$Plan;", Cond.fieldLink RX1 83 "FourWalls$Plan" "sounds" "I", Cond.methodLink RX1 86 yX5_places, Cond.instanceMethod yX5_places, Cond.selects RX5 yX5_places yX5_places, Cond.initialized RX5, Cond.code yX5_places cX5_places 1 (some .int), Cond.fieldLink RX5 30 "FourWalls$Plan" "walls" "I", Cond.methodLink RX1 66 yX1_liarsOf, Cond.instanceMethod yX1_liarsOf, Cond.selects RX1 yX1_liarsOf yX1_liarsOf, Cond.code yX1_liarsOf cX1_liarsOf 5 (some .int), Cond.fieldLink RX1 32 "FourWalls$Claims" "count" "I", Cond.fieldLink RX1 28 "FourWalls$Claims" "hearing" "LFourWalls$Hearing;", Cond.fieldLink RX1 9 "FourWalls$Claims" "who" "[I", Cond.fieldLink RX1 15 "FourWalls$Claims" "what" "[I", Cond.methodLink RX1 42 yX1_soundOf, Cond.static yX1_soundOf, Cond.code yX1_soundOf cX1_soundOf 1 (some .int)]
def wsX1_pairOfFewestLiars_r2 : List Cond := [Cond.methodLink RX1 46 yX7_get, Cond.static yX7_get, Cond.initialized RX7, Cond.code yX7_get cX7_get 2 (some .int), Cond.methodLink RX1 50 yX2_saying, Cond.instanceMethod yX2_saying, Cond.selects RX2 yX2_saying yX2_saying, Cond.initialized RX2, Cond.code yX2_saying cX2_saying 6 (some .int), Cond.fieldLink RX2 9 "FourWalls$Hearing" "plan" "LFourWalls$Plan;", Cond.fieldLink RX2 59 "FourWalls$Plan" "side" "[I", Cond.fieldLink RX2 62 "FourWalls$Plan" "sounds" "I", Cond.fieldLink RX2 65 "FourWalls$Plan" "tone" "[I", Cond.methodLink RX2 34 yX7_get, Cond.methodLink RX2 56 yX2_margin, Cond.instanceMethod yX2_margin, Cond.selects RX2 yX2_margin yX2_margin, Cond.code yX2_margin cX2_margin 4 (some .int), Cond.fieldLink RX2 15 "FourWalls$Hearing" "state" "LFourWalls$State;", Cond.fieldLink RX2 40 "FourWalls$State" "row" "[I", Cond.fieldLink RX2 49 "FourWalls$Plan" "ear" "[I", Cond.methodLink RX2 45 yX2_loudness, Cond.instanceMethod yX2_loudness, Cond.selects RX2 yX2_loudness yX2_loudness]
def wsX1_pairOfFewestLiars_r3 : List Cond := [Cond.code yX2_loudness cX2_loudness 8 (some .int), Cond.methodLink RX2 19 Lib.Math.min.name, Cond.static Lib.Math.min.name, Cond.initialized "java/lang/Math", Cond.code Lib.Math.min.name Lib.Math.min.code 2 (some .int), Cond.methodLink RX2 25 Lib.Math.max.name, Cond.static Lib.Math.max.name, Cond.code Lib.Math.max.name Lib.Math.max.code 2 (some .int), Cond.fieldLink RX2 28 "FourWalls$Plan" "loud" "[I", Cond.methodLink RX1 59 yX1_pairs, Cond.instanceMethod yX1_pairs, Cond.selects RX1 yX1_pairs yX1_pairs, Cond.code yX1_pairs cX1_pairs 1 (some .int)]
def wsX1_pairOfFewestLiars : List Cond := .code yX1_pairOfFewestLiars cX1_pairOfFewestLiars 5 (some .int) :: ((wsX1_pairOfFewestLiars_r1 ++ (wsX1_pairOfFewestLiars_r2 ++ wsX1_pairOfFewestLiars_r3)) ++ wsX10 ++ wsX50 ++ wsX20 ++ wsX80)
def wsX1_greatestPart_r1 : List Cond := [Cond.fieldLink RX1 21 "FourWalls$Claims" "parts" "[I", Cond.fieldLink RX1 56 "FourWalls$Claims" "births" "I", Cond.fieldLink RX1 18 "FourWalls$Claims" "fitting" "[I", Cond.fieldLink RX1 28 "FourWalls$Claims" "hearing" "LFourWalls$Hearing;", Cond.methodLink RX1 77 Lib.Math.max.name, Cond.static Lib.Math.max.name, Cond.initialized "java/lang/Math", Cond.code Lib.Math.max.name Lib.Math.max.code 2 (some .int), Cond.methodLink RX1 36 yX7_put, Cond.static yX7_put, Cond.initialized RX7, Cond.code yX7_put cX7_put 3 none, Cond.methodLink RX1 46 yX7_get, Cond.static yX7_get, Cond.code yX7_get cX7_get 2 (some .int), Cond.methodLink RX1 42 yX1_soundOf, Cond.static yX1_soundOf, Cond.initialized RX1, Cond.code yX1_soundOf cX1_soundOf 1 (some .int), Cond.methodLink RX1 50 yX2_saying, Cond.instanceMethod yX2_saying, Cond.selects RX2 yX2_saying yX2_saying, Cond.initialized RX2, Cond.code yX2_saying cX2_saying 6 (some .int)]
def wsX1_greatestPart_r2 : List Cond := [Cond.fieldLink RX2 9 "FourWalls$Hearing" "plan" "LFourWalls$Plan;", Cond.fieldLink RX2 59 "FourWalls$Plan" "side" "[I", Cond.fieldLink RX2 62 "FourWalls$Plan" "sounds" "I", Cond.fieldLink RX2 65 "FourWalls$Plan" "tone" "[I", Cond.methodLink RX2 34 yX7_get, Cond.methodLink RX2 56 yX2_margin, Cond.instanceMethod yX2_margin, Cond.selects RX2 yX2_margin yX2_margin, Cond.code yX2_margin cX2_margin 4 (some .int), Cond.fieldLink RX2 15 "FourWalls$Hearing" "state" "LFourWalls$State;", Cond.fieldLink RX2 40 "FourWalls$State" "row" "[I", Cond.fieldLink RX2 49 "FourWalls$Plan" "ear" "[I", Cond.methodLink RX2 45 yX2_loudness, Cond.instanceMethod yX2_loudness, Cond.selects RX2 yX2_loudness yX2_loudness, Cond.code yX2_loudness cX2_loudness 8 (some .int), Cond.methodLink RX2 19 Lib.Math.min.name, Cond.static Lib.Math.min.name, Cond.code Lib.Math.min.name Lib.Math.min.code 2 (some .int), Cond.methodLink RX2 25 Lib.Math.max.name, Cond.fieldLink RX2 28 "FourWalls$Plan" "loud" "[I"]
def wsX1_greatestPart : List Cond := .code yX1_greatestPart cX1_greatestPart 7 (some .int) :: ((wsX1_greatestPart_r1 ++ wsX1_greatestPart_r2) ++ wsX10 ++ wsX20 ++ wsX50 ++ wsX80)
def wsX1_bestAsked_r1 : List Cond := [Cond.fieldLink RX1 56 "FourWalls$Claims" "births" "I", Cond.fieldLink RX1 24 "FourWalls$Claims" "plan" "LFourWalls$Plan;", Cond.fieldLink RX1 69 "FourWalls$Plan" "witnesses" "I", Cond.methodLink RX1 74 yX1_greatestPart, Cond.instanceMethod yX1_greatestPart, Cond.selects RX1 yX1_greatestPart yX1_greatestPart, Cond.initialized RX1, Cond.code yX1_greatestPart cX1_greatestPart 7 (some .int), Cond.fieldLink RX1 21 "FourWalls$Claims" "parts" "[I", Cond.fieldLink RX1 18 "FourWalls$Claims" "fitting" "[I", Cond.fieldLink RX1 28 "FourWalls$Claims" "hearing" "LFourWalls$Hearing;", Cond.methodLink RX1 77 Lib.Math.max.name, Cond.static Lib.Math.max.name, Cond.initialized "java/lang/Math", Cond.code Lib.Math.max.name Lib.Math.max.code 2 (some .int), Cond.methodLink RX1 36 yX7_put, Cond.static yX7_put, Cond.initialized RX7, Cond.code yX7_put cX7_put 3 none, Cond.methodLink RX1 46 yX7_get, Cond.static yX7_get, Cond.code yX7_get cX7_get 2 (some .int), Cond.methodLink RX1 42 yX1_soundOf, Cond.static yX1_soundOf]
def wsX1_bestAsked_r2 : List Cond := [Cond.code yX1_soundOf cX1_soundOf 1 (some .int), Cond.methodLink RX1 50 yX2_saying, Cond.instanceMethod yX2_saying, Cond.selects RX2 yX2_saying yX2_saying, Cond.initialized RX2, Cond.code yX2_saying cX2_saying 6 (some .int), Cond.fieldLink RX2 9 "FourWalls$Hearing" "plan" "LFourWalls$Plan;", Cond.fieldLink RX2 59 "FourWalls$Plan" "side" "[I", Cond.fieldLink RX2 62 "FourWalls$Plan" "sounds" "I", Cond.fieldLink RX2 65 "FourWalls$Plan" "tone" "[I", Cond.methodLink RX2 34 yX7_get, Cond.methodLink RX2 56 yX2_margin, Cond.instanceMethod yX2_margin, Cond.selects RX2 yX2_margin yX2_margin, Cond.code yX2_margin cX2_margin 4 (some .int), Cond.fieldLink RX2 15 "FourWalls$Hearing" "state" "LFourWalls$State;", Cond.fieldLink RX2 40 "FourWalls$State" "row" "[I", Cond.fieldLink RX2 49 "FourWalls$Plan" "ear" "[I", Cond.methodLink RX2 45 yX2_loudness, Cond.instanceMethod yX2_loudness, Cond.selects RX2 yX2_loudness yX2_loudness, Cond.code yX2_loudness cX2_loudness 8 (some .int), Cond.methodLink RX2 19 Lib.Math.min.name, Cond.static Lib.Math.min.name]
def wsX1_bestAsked_r3 : List Cond := [Cond.code Lib.Math.min.name Lib.Math.min.code 2 (some .int), Cond.methodLink RX2 25 Lib.Math.max.name, Cond.fieldLink RX2 28 "FourWalls$Plan" "loud" "[I"]
def wsX1_bestAsked : List Cond := .code yX1_bestAsked cX1_bestAsked 5 (some .int) :: ((wsX1_bestAsked_r1 ++ (wsX1_bestAsked_r2 ++ wsX1_bestAsked_r3)) ++ wsX10 ++ wsX50 ++ wsX20 ++ wsX80)
def wsX2_init : List Cond := .code yX2_init cX2_init 3 none :: ([.methodLink RX2 3 objectInit, .instanceMethod objectInit, .code objectInit ⟨#[0xb1]⟩ 1 none, .fieldLink RX2 9 "FourWalls$Hearing" "plan" "LFourWalls$Plan;", .fieldLink RX2 15 "FourWalls$Hearing" "state" "LFourWalls$State;"] ++ wsX20)
def wsX2_hearers_r1 : List Cond := [Cond.fieldLink RX2 9 "FourWalls$Hearing" "plan" "LFourWalls$Plan;", Cond.fieldLink RX2 52 "FourWalls$Plan" "witnesses" "I", Cond.methodLink RX2 56 yX2_margin, Cond.instanceMethod yX2_margin, Cond.selects RX2 yX2_margin yX2_margin, Cond.initialized RX2, Cond.code yX2_margin cX2_margin 4 (some .int), Cond.fieldLink RX2 15 "FourWalls$Hearing" "state" "LFourWalls$State;", Cond.fieldLink RX2 40 "FourWalls$State" "row" "[I", Cond.fieldLink RX2 49 "FourWalls$Plan" "ear" "[I", Cond.methodLink RX2 34 yX7_get, Cond.static yX7_get, Cond.initialized RX7, Cond.code yX7_get cX7_get 2 (some .int), Cond.methodLink RX2 45 yX2_loudness, Cond.instanceMethod yX2_loudness, Cond.selects RX2 yX2_loudness yX2_loudness, Cond.code yX2_loudness cX2_loudness 8 (some .int), Cond.methodLink RX2 19 Lib.Math.min.name, Cond.static Lib.Math.min.name, Cond.initialized "java/lang/Math", Cond.code Lib.Math.min.name Lib.Math.min.code 2 (some .int), Cond.methodLink RX2 25 Lib.Math.max.name, Cond.static Lib.Math.max.name]
def wsX2_hearers_r2 : List Cond := [Cond.code Lib.Math.max.name Lib.Math.max.code 2 (some .int), Cond.fieldLink RX2 28 "FourWalls$Plan" "loud" "[I"]
def wsX2_hearers : List Cond := .code yX2_hearers cX2_hearers 6 (some .int) :: ((wsX2_hearers_r1 ++ wsX2_hearers_r2) ++ wsX20 ++ wsX50 ++ wsX80)
def wsX8_put : List Cond := .code yX8_put cX8_put 3 none :: ([.fieldLink RX8 11 "FourWalls$State" "row" "[I", .methodLink RX8 24 yX7_put, .static yX7_put, .initialized RX7, .code yX7_put cX7_put 3 none] ++ wsX80)
def wsX8_forgetMornings : List Cond := .code yX8_forgetMornings cX8_forgetMornings 2 none :: ([.methodLink RX8 38 yX8_put, .instanceMethod yX8_put, .selects RX8 yX8_put yX8_put, .initialized RX8, .code yX8_put cX8_put 3 none, .fieldLink RX8 11 "FourWalls$State" "row" "[I", .methodLink RX8 24 yX7_put, .static yX7_put, .initialized RX7, .code yX7_put cX7_put 3 none] ++ wsX80)
def wsX8_init : List Cond := .code yX8_init cX8_init 1 none :: ([.methodLink RX8 5 objectInit, .instanceMethod objectInit, .code objectInit ⟨#[0xb1]⟩ 1 none, .arrayClass .int, .fieldLink RX8 11 "FourWalls$State" "row" "[I", .methodLink RX8 15 yX8_forgetMornings, .instanceMethod yX8_forgetMornings, .selects RX8 yX8_forgetMornings yX8_forgetMornings, .initialized RX8, .code yX8_forgetMornings cX8_forgetMornings 2 none, .methodLink RX8 38 yX8_put, .instanceMethod yX8_put, .selects RX8 yX8_put yX8_put, .code yX8_put cX8_put 3 none, .methodLink RX8 24 yX7_put, .static yX7_put, .initialized RX7, .code yX7_put cX7_put 3 none] ++ wsX80)
def wsX3_init_r1 : List Cond := [Cond.methodLink RX3 1 objectInit, Cond.instanceMethod objectInit, Cond.code objectInit ⟨#[0xb1]⟩ 1 none, Cond.classLink RX3 7 RX8, Cond.instantiable RX8 1, Cond.initialized RX8, Cond.fieldLink RX3 10 "FourWalls$Image" "state" "LFourWalls$State;", Cond.methodLink RX3 9 yX8_init, Cond.instanceMethod yX8_init, Cond.code yX8_init cX8_init 1 none, Cond.methodLink RX8 5 objectInit, Cond.arrayClass .int, Cond.fieldLink RX8 11 "FourWalls$State" "row" "[I", Cond.methodLink RX8 15 yX8_forgetMornings, Cond.instanceMethod yX8_forgetMornings, Cond.selects RX8 yX8_forgetMornings yX8_forgetMornings, Cond.code yX8_forgetMornings cX8_forgetMornings 2 none, Cond.methodLink RX8 38 yX8_put, Cond.instanceMethod yX8_put, Cond.selects RX8 yX8_put yX8_put, Cond.code yX8_put cX8_put 3 none, Cond.methodLink RX8 24 yX7_put, Cond.static yX7_put, Cond.initialized RX7]
def wsX3_init_r2 : List Cond := [Cond.code yX7_put cX7_put 3 none]
def wsX3_init : List Cond := .code yX3_init cX3_init 1 none :: ((wsX3_init_r1 ++ wsX3_init_r2) ++ wsX80 ++ wsX30)
def wsX4_init : List Cond := .code yX4_init cX4_init 1 none :: ([.methodLink RX4 3 objectInit, .instanceMethod objectInit, .code objectInit ⟨#[0xb1]⟩ 1 none, .arrayClass .int, .fieldLink RX4 11 "FourWalls$Past" "rows" "[I"] ++ wsX40)
def wsX7_copy : List Cond := .code yX7_copy cX7_copy 6 none :: ([.methodLink RX7 7 yX7_get, .static yX7_get, .initialized RX7, .code yX7_get cX7_get 2 (some .int), .methodLink RX7 13 yX7_put, .static yX7_put, .code yX7_put cX7_put 3 none])
def wsX4_push : List Cond := .code yX4_push cX4_push 2 none :: ([.fieldLink RX4 17 "FourWalls$State" "row" "[I", .fieldLink RX4 11 "FourWalls$Past" "rows" "[I", .fieldLink RX4 20 "FourWalls$Past" "next" "I", .fieldLink RX4 30 "FourWalls$Past" "count" "I", .methodLink RX4 33 Lib.Math.min.name, .static Lib.Math.min.name, .initialized "java/lang/Math", .code Lib.Math.min.name Lib.Math.min.code 2 (some .int), .methodLink RX4 24 yX7_copy, .static yX7_copy, .initialized RX7, .code yX7_copy cX7_copy 6 none, .methodLink RX7 7 yX7_get, .static yX7_get, .code yX7_get cX7_get 2 (some .int), .methodLink RX7 13 yX7_put, .static yX7_put, .code yX7_put cX7_put 3 none] ++ wsX80 ++ wsX40)
def wsX4_pop : List Cond := .code yX4_pop cX4_pop 2 (some .boolean) :: ([.fieldLink RX4 30 "FourWalls$Past" "count" "I", .fieldLink RX4 20 "FourWalls$Past" "next" "I", .fieldLink RX4 11 "FourWalls$Past" "rows" "[I", .fieldLink RX4 17 "FourWalls$State" "row" "[I", .methodLink RX4 24 yX7_copy, .static yX7_copy, .initialized RX7, .code yX7_copy cX7_copy 6 none, .methodLink RX7 7 yX7_get, .static yX7_get, .code yX7_get cX7_get 2 (some .int), .methodLink RX7 13 yX7_put, .static yX7_put, .code yX7_put cX7_put 3 none] ++ wsX40 ++ wsX80)
def wsX4_forget : List Cond := .code yX4_forget cX4_forget 1 none :: ([.fieldLink RX4 30 "FourWalls$Past" "count" "I"] ++ wsX40)
def wsX5_init : List Cond := .code yX5_init cX5_init 1 none :: ([.methodLink RX5 3 objectInit, .instanceMethod objectInit, .code objectInit ⟨#[0xb1]⟩ 1 none, .arrayClass .int, .fieldLink RX5 9 "FourWalls$Plan" "thickness" "[I", .fieldLink RX5 15 "FourWalls$Plan" "loud" "[I", .fieldLink RX5 18 "FourWalls$Plan" "tone" "[I", .fieldLink RX5 21 "FourWalls$Plan" "spot" "[I", .fieldLink RX5 24 "FourWalls$Plan" "ear" "[I", .fieldLink RX5 27 "FourWalls$Plan" "side" "[I"] ++ wsX50)
def wsX5_clear : List Cond := .code yX5_clear cX5_clear 1 none :: ([.fieldLink RX5 30 "FourWalls$Plan" "walls" "I", .fieldLink RX5 34 "FourWalls$Plan" "wind" "I", .fieldLink RX5 37 "FourWalls$Plan" "sounds" "I", .fieldLink RX5 40 "FourWalls$Plan" "witnesses" "I"] ++ wsX50)
def wsX5_take : List Cond := .code yX5_take cX5_take 2 none :: ([.fieldLink RX5 30 "FourWalls$Plan" "walls" "I", .fieldLink RX5 34 "FourWalls$Plan" "wind" "I", .fieldLink RX5 37 "FourWalls$Plan" "sounds" "I", .fieldLink RX5 40 "FourWalls$Plan" "witnesses" "I", .fieldLink RX5 9 "FourWalls$Plan" "thickness" "[I", .fieldLink RX5 15 "FourWalls$Plan" "loud" "[I", .fieldLink RX5 18 "FourWalls$Plan" "tone" "[I", .fieldLink RX5 21 "FourWalls$Plan" "spot" "[I", .fieldLink RX5 24 "FourWalls$Plan" "ear" "[I", .fieldLink RX5 27 "FourWalls$Plan" "side" "[I", .methodLink RX5 43 yX7_copy, .static yX7_copy, .initialized RX7, .code yX7_copy cX7_copy 6 none, .methodLink RX7 7 yX7_get, .static yX7_get, .code yX7_get cX7_get 2 (some .int), .methodLink RX7 13 yX7_put, .static yX7_put, .code yX7_put cX7_put 3 none] ++ wsX50)
def wsX5_addWall : List Cond := .code yX5_addWall cX5_addWall 2 none :: ([.fieldLink RX5 9 "FourWalls$Plan" "thickness" "[I", .fieldLink RX5 30 "FourWalls$Plan" "walls" "I", .methodLink RX5 49 yX7_put, .static yX7_put, .initialized RX7, .code yX7_put cX7_put 3 none] ++ wsX50)
def wsX5_addSound : List Cond := .code yX5_addSound cX5_addSound 3 none :: ([.fieldLink RX5 15 "FourWalls$Plan" "loud" "[I", .fieldLink RX5 37 "FourWalls$Plan" "sounds" "I", .fieldLink RX5 18 "FourWalls$Plan" "tone" "[I", .methodLink RX5 49 yX7_put, .static yX7_put, .initialized RX7, .code yX7_put cX7_put 3 none] ++ wsX50)
def wsX5_addWitness : List Cond := .code yX5_addWitness cX5_addWitness 4 none :: ([.fieldLink RX5 21 "FourWalls$Plan" "spot" "[I", .fieldLink RX5 40 "FourWalls$Plan" "witnesses" "I", .fieldLink RX5 24 "FourWalls$Plan" "ear" "[I", .fieldLink RX5 27 "FourWalls$Plan" "side" "[I", .methodLink RX5 49 yX7_put, .static yX7_put, .initialized RX7, .code yX7_put cX7_put 3 none] ++ wsX50)
def wsX5_stands : List Cond := .code yX5_stands cX5_stands 1 (some .boolean) :: ([.fieldLink RX5 30 "FourWalls$Plan" "walls" "I"] ++ wsX50)
def wsX5_isWall : List Cond := .code yX5_isWall cX5_isWall 2 (some .boolean) :: ([.fieldLink RX5 30 "FourWalls$Plan" "walls" "I"] ++ wsX50)
def wsX5_isPlace : List Cond := .code yX5_isPlace cX5_isPlace 2 (some .boolean) :: ([.methodLink RX5 53 yX5_places, .instanceMethod yX5_places, .selects RX5 yX5_places yX5_places, .initialized RX5, .code yX5_places cX5_places 1 (some .int), .fieldLink RX5 30 "FourWalls$Plan" "walls" "I"] ++ wsX50)
def wsX5_isSound : List Cond := .code yX5_isSound cX5_isSound 2 (some .boolean) :: ([.fieldLink RX5 37 "FourWalls$Plan" "sounds" "I"] ++ wsX50)
def wsX5_isWitness : List Cond := .code yX5_isWitness cX5_isWitness 2 (some .boolean) :: ([.fieldLink RX5 40 "FourWalls$Plan" "witnesses" "I"] ++ wsX50)
def wsX5_arePlaces : List Cond := .code yX5_arePlaces cX5_arePlaces 2 (some .boolean) :: ([.methodLink RX5 53 yX5_places, .instanceMethod yX5_places, .selects RX5 yX5_places yX5_places, .initialized RX5, .code yX5_places cX5_places 1 (some .int), .fieldLink RX5 30 "FourWalls$Plan" "walls" "I"] ++ wsX50)
def wsX5_isPair : List Cond := .code yX5_isPair cX5_isPair 2 (some .boolean) :: ([.methodLink RX5 57 yX5_isSound, .instanceMethod yX5_isSound, .selects RX5 yX5_isSound yX5_isSound, .initialized RX5, .code yX5_isSound cX5_isSound 2 (some .boolean), .fieldLink RX5 37 "FourWalls$Plan" "sounds" "I", .methodLink RX5 61 yX5_isPlace, .instanceMethod yX5_isPlace, .selects RX5 yX5_isPlace yX5_isPlace, .code yX5_isPlace cX5_isPlace 2 (some .boolean), .methodLink RX5 53 yX5_places, .instanceMethod yX5_places, .selects RX5 yX5_places yX5_places, .code yX5_places cX5_places 1 (some .int), .fieldLink RX5 30 "FourWalls$Plan" "walls" "I"] ++ wsX50)
def wsX6_init : List Cond := .code yX6_init cX6_init 2 none :: ([.methodLink RX6 3 objectInit, .instanceMethod objectInit, .code objectInit ⟨#[0xb1]⟩ 1 none, .classLink RX6 9 RX5, .instantiable RX5 10, .initialized RX5, .fieldLink RX6 12 "FourWalls$Reader" "plan" "LFourWalls$Plan;", .fieldLink RX6 18 "FourWalls$Reader" "faultAt" "I", .fieldLink RX6 22 "FourWalls$Reader" "text" "LFourWalls$Text;", .instanceMethod yX5_init, .code yX5_init cX5_init 1 none, .methodLink RX5 3 objectInit, .arrayClass .int, .fieldLink RX5 9 "FourWalls$Plan" "thickness" "[I", .fieldLink RX5 15 "FourWalls$Plan" "loud" "[I", .fieldLink RX5 18 "FourWalls$Plan" "tone" "[I", .fieldLink RX5 21 "FourWalls$Plan" "spot" "[I", .fieldLink RX5 24 "FourWalls$Plan" "ear" "[I", .fieldLink RX5 27 "FourWalls$Plan" "side" "[I"] ++ wsX50 ++ wsX60)
def wsX9_letterAt : List Cond := .code yX9_letterAt cX9_letterAt 2 (some .int) :: ([.fieldLink RX9 15 "FourWalls$Text" "length" "I", .fieldLink RX9 9 "FourWalls$Text" "letters" "[I"] ++ wsX90)
def wsX6_skipBlanks : List Cond := .code yX6_skipBlanks cX6_skipBlanks 2 none :: ([.fieldLink RX6 22 "FourWalls$Reader" "text" "LFourWalls$Text;", .fieldLink RX6 32 "FourWalls$Reader" "at" "I", .methodLink RX6 50 yX9_letterAt, .instanceMethod yX9_letterAt, .selects RX9 yX9_letterAt yX9_letterAt, .initialized RX9, .code yX9_letterAt cX9_letterAt 2 (some .int), .fieldLink RX9 15 "FourWalls$Text" "length" "I", .fieldLink RX9 9 "FourWalls$Text" "letters" "[I"] ++ wsX60 ++ wsX90)
def wsX6_fail : List Cond := .code yX6_fail cX6_fail 3 none :: ([.fieldLink RX6 29 "FourWalls$Reader" "fault" "I", .fieldLink RX6 18 "FourWalls$Reader" "faultAt" "I"] ++ wsX60)
def wsX6_isFigure : List Cond := .code yX6_isFigure cX6_isFigure 1 (some .boolean) :: ([])
def wsX6_readNumber_r1 : List Cond := [Cond.fieldLink RX6 32 "FourWalls$Reader" "at" "I", Cond.fieldLink RX6 22 "FourWalls$Reader" "text" "LFourWalls$Text;", Cond.methodLink RX6 107 Lib.Math.min.name, Cond.static Lib.Math.min.name, Cond.initialized "java/lang/Math", Cond.code Lib.Math.min.name Lib.Math.min.code 2 (some .int), Cond.methodLink RX6 39 yX6_skipBlanks, Cond.instanceMethod yX6_skipBlanks, Cond.selects RX6 yX6_skipBlanks yX6_skipBlanks, Cond.initialized RX6, Cond.code yX6_skipBlanks cX6_skipBlanks 2 none, Cond.methodLink RX6 50 yX9_letterAt, Cond.instanceMethod yX9_letterAt, Cond.selects RX9 yX9_letterAt yX9_letterAt, Cond.initialized RX9, Cond.code yX9_letterAt cX9_letterAt 2 (some .int), Cond.fieldLink RX9 15 "FourWalls$Text" "length" "I", Cond.fieldLink RX9 9 "FourWalls$Text" "letters" "[I", Cond.methodLink RX6 103 yX6_isFigure, Cond.static yX6_isFigure, Cond.code yX6_isFigure cX6_isFigure 1 (some .boolean), Cond.methodLink RX6 58 yX6_fail, Cond.instanceMethod yX6_fail, Cond.selects RX6 yX6_fail yX6_fail]
def wsX6_readNumber_r2 : List Cond := [Cond.code yX6_fail cX6_fail 3 none, Cond.fieldLink RX6 29 "FourWalls$Reader" "fault" "I", Cond.fieldLink RX6 18 "FourWalls$Reader" "faultAt" "I"]
def wsX6_readNumber : List Cond := .code yX6_readNumber cX6_readNumber 5 (some .int) :: ((wsX6_readNumber_r1 ++ wsX6_readNumber_r2) ++ wsX60 ++ wsX90)
def wsX6_readEnd : List Cond := .code yX6_readEnd cX6_readEnd 1 none :: ([.fieldLink RX6 22 "FourWalls$Reader" "text" "LFourWalls$Text;", .fieldLink RX6 32 "FourWalls$Reader" "at" "I", .methodLink RX6 39 yX6_skipBlanks, .instanceMethod yX6_skipBlanks, .selects RX6 yX6_skipBlanks yX6_skipBlanks, .initialized RX6, .code yX6_skipBlanks cX6_skipBlanks 2 none, .methodLink RX6 50 yX9_letterAt, .instanceMethod yX9_letterAt, .selects RX9 yX9_letterAt yX9_letterAt, .initialized RX9, .code yX9_letterAt cX9_letterAt 2 (some .int), .fieldLink RX9 15 "FourWalls$Text" "length" "I", .fieldLink RX9 9 "FourWalls$Text" "letters" "[I", .methodLink RX6 58 yX6_fail, .instanceMethod yX6_fail, .selects RX6 yX6_fail yX6_fail, .code yX6_fail cX6_fail 3 none, .fieldLink RX6 29 "FourWalls$Reader" "fault" "I", .fieldLink RX6 18 "FourWalls$Reader" "faultAt" "I"] ++ wsX60 ++ wsX90)
def wsX6_readWalls_r1 : List Cond := [Cond.fieldLink RX6 12 "FourWalls$Reader" "plan" "LFourWalls$Plan;", Cond.fieldLink RX6 29 "FourWalls$Reader" "fault" "I", Cond.fieldLink RX6 22 "FourWalls$Reader" "text" "LFourWalls$Text;", Cond.fieldLink RX6 32 "FourWalls$Reader" "at" "I", Cond.methodLink RX6 54 yX5_stands, Cond.instanceMethod yX5_stands, Cond.selects RX5 yX5_stands yX5_stands, Cond.initialized RX5, Cond.code yX5_stands cX5_stands 1 (some .boolean), Cond.fieldLink RX5 30 "FourWalls$Plan" "walls" "I", Cond.methodLink RX6 58 yX6_fail, Cond.instanceMethod yX6_fail, Cond.selects RX6 yX6_fail yX6_fail, Cond.initialized RX6, Cond.code yX6_fail cX6_fail 3 none, Cond.fieldLink RX6 18 "FourWalls$Reader" "faultAt" "I", Cond.methodLink RX6 75 yX6_readNumber, Cond.instanceMethod yX6_readNumber, Cond.selects RX6 yX6_readNumber yX6_readNumber, Cond.code yX6_readNumber cX6_readNumber 5 (some .int), Cond.methodLink RX6 107 Lib.Math.min.name, Cond.static Lib.Math.min.name, Cond.initialized "java/lang/Math", Cond.code Lib.Math.min.name Lib.Math.min.code 2 (some .int)]
def wsX6_readWalls_r2 : List Cond := [Cond.methodLink RX6 39 yX6_skipBlanks, Cond.instanceMethod yX6_skipBlanks, Cond.selects RX6 yX6_skipBlanks yX6_skipBlanks, Cond.code yX6_skipBlanks cX6_skipBlanks 2 none, Cond.methodLink RX6 50 yX9_letterAt, Cond.instanceMethod yX9_letterAt, Cond.selects RX9 yX9_letterAt yX9_letterAt, Cond.initialized RX9, Cond.code yX9_letterAt cX9_letterAt 2 (some .int), Cond.fieldLink RX9 15 "FourWalls$Text" "length" "I", Cond.fieldLink RX9 9 "FourWalls$Text" "letters" "[I", Cond.methodLink RX6 103 yX6_isFigure, Cond.static yX6_isFigure, Cond.code yX6_isFigure cX6_isFigure 1 (some .boolean), Cond.methodLink RX6 78 yX5_addWall, Cond.instanceMethod yX5_addWall, Cond.selects RX5 yX5_addWall yX5_addWall, Cond.code yX5_addWall cX5_addWall 2 none, Cond.fieldLink RX5 9 "FourWalls$Plan" "thickness" "[I", Cond.methodLink RX5 49 yX7_put, Cond.static yX7_put, Cond.initialized RX7, Cond.code yX7_put cX7_put 3 none, Cond.methodLink RX6 81 yX6_readEnd]
def wsX6_readWalls_r3 : List Cond := [Cond.instanceMethod yX6_readEnd, Cond.selects RX6 yX6_readEnd yX6_readEnd, Cond.code yX6_readEnd cX6_readEnd 1 none]
def wsX6_readWalls : List Cond := .code yX6_readWalls cX6_readWalls 3 none :: ((wsX6_readWalls_r1 ++ (wsX6_readWalls_r2 ++ wsX6_readWalls_r3)) ++ wsX60 ++ wsX50 ++ wsX90)
def wsX6_readWind_r1 : List Cond := [Cond.fieldLink RX6 35 "FourWalls$Reader" "windTold" "Z", Cond.fieldLink RX6 12 "FourWalls$Reader" "plan" "LFourWalls$Plan;", Cond.fieldLink RX6 84 "FourWalls$Plan" "wind" "I", Cond.methodLink RX6 58 yX6_fail, Cond.instanceMethod yX6_fail, Cond.selects RX6 yX6_fail yX6_fail, Cond.initialized RX6, Cond.code yX6_fail cX6_fail 3 none, Cond.fieldLink RX6 29 "FourWalls$Reader" "fault" "I", Cond.fieldLink RX6 18 "FourWalls$Reader" "faultAt" "I", Cond.methodLink RX6 75 yX6_readNumber, Cond.instanceMethod yX6_readNumber, Cond.selects RX6 yX6_readNumber yX6_readNumber, Cond.code yX6_readNumber cX6_readNumber 5 (some .int), Cond.fieldLink RX6 32 "FourWalls$Reader" "at" "I", Cond.fieldLink RX6 22 "FourWalls$Reader" "text" "LFourWalls$Text;", Cond.methodLink RX6 107 Lib.Math.min.name, Cond.static Lib.Math.min.name, Cond.initialized "java/lang/Math", Cond.code Lib.Math.min.name Lib.Math.min.code 2 (some .int), Cond.methodLink RX6 39 yX6_skipBlanks, Cond.instanceMethod yX6_skipBlanks, Cond.selects RX6 yX6_skipBlanks yX6_skipBlanks, Cond.code yX6_skipBlanks cX6_skipBlanks 2 none]
def wsX6_readWind_r2 : List Cond := [Cond.methodLink RX6 50 yX9_letterAt, Cond.instanceMethod yX9_letterAt, Cond.selects RX9 yX9_letterAt yX9_letterAt, Cond.initialized RX9, Cond.code yX9_letterAt cX9_letterAt 2 (some .int), Cond.fieldLink RX9 15 "FourWalls$Text" "length" "I", Cond.fieldLink RX9 9 "FourWalls$Text" "letters" "[I", Cond.methodLink RX6 103 yX6_isFigure, Cond.static yX6_isFigure, Cond.code yX6_isFigure cX6_isFigure 1 (some .boolean), Cond.methodLink RX6 81 yX6_readEnd, Cond.instanceMethod yX6_readEnd, Cond.selects RX6 yX6_readEnd yX6_readEnd, Cond.code yX6_readEnd cX6_readEnd 1 none]
def wsX6_readWind : List Cond := .code yX6_readWind cX6_readWind 2 none :: ((wsX6_readWind_r1 ++ wsX6_readWind_r2) ++ wsX60 ++ wsX50 ++ wsX90)
def wsX6_readSound_r1 : List Cond := [Cond.fieldLink RX6 12 "FourWalls$Reader" "plan" "LFourWalls$Plan;", Cond.fieldLink RX6 87 "FourWalls$Plan" "sounds" "I", Cond.methodLink RX6 58 yX6_fail, Cond.instanceMethod yX6_fail, Cond.selects RX6 yX6_fail yX6_fail, Cond.initialized RX6, Cond.code yX6_fail cX6_fail 3 none, Cond.fieldLink RX6 29 "FourWalls$Reader" "fault" "I", Cond.fieldLink RX6 18 "FourWalls$Reader" "faultAt" "I", Cond.methodLink RX6 75 yX6_readNumber, Cond.instanceMethod yX6_readNumber, Cond.selects RX6 yX6_readNumber yX6_readNumber, Cond.code yX6_readNumber cX6_readNumber 5 (some .int), Cond.fieldLink RX6 32 "FourWalls$Reader" "at" "I", Cond.fieldLink RX6 22 "FourWalls$Reader" "text" "LFourWalls$Text;", Cond.methodLink RX6 107 Lib.Math.min.name, Cond.static Lib.Math.min.name, Cond.initialized "java/lang/Math", Cond.code Lib.Math.min.name Lib.Math.min.code 2 (some .int), Cond.methodLink RX6 39 yX6_skipBlanks, Cond.instanceMethod yX6_skipBlanks, Cond.selects RX6 yX6_skipBlanks yX6_skipBlanks, Cond.code yX6_skipBlanks cX6_skipBlanks 2 none, Cond.methodLink RX6 50 yX9_letterAt]
def wsX6_readSound_r2 : List Cond := [Cond.instanceMethod yX9_letterAt, Cond.selects RX9 yX9_letterAt yX9_letterAt, Cond.initialized RX9, Cond.code yX9_letterAt cX9_letterAt 2 (some .int), Cond.fieldLink RX9 15 "FourWalls$Text" "length" "I", Cond.fieldLink RX9 9 "FourWalls$Text" "letters" "[I", Cond.methodLink RX6 103 yX6_isFigure, Cond.static yX6_isFigure, Cond.code yX6_isFigure cX6_isFigure 1 (some .boolean), Cond.methodLink RX6 90 yX5_addSound, Cond.instanceMethod yX5_addSound, Cond.selects RX5 yX5_addSound yX5_addSound, Cond.initialized RX5, Cond.code yX5_addSound cX5_addSound 3 none, Cond.fieldLink RX5 15 "FourWalls$Plan" "loud" "[I", Cond.fieldLink RX5 37 "FourWalls$Plan" "sounds" "I", Cond.fieldLink RX5 18 "FourWalls$Plan" "tone" "[I", Cond.methodLink RX5 49 yX7_put, Cond.static yX7_put, Cond.initialized RX7, Cond.code yX7_put cX7_put 3 none, Cond.methodLink RX6 81 yX6_readEnd, Cond.instanceMethod yX6_readEnd, Cond.selects RX6 yX6_readEnd yX6_readEnd]
def wsX6_readSound_r3 : List Cond := [Cond.code yX6_readEnd cX6_readEnd 1 none]
def wsX6_readSound : List Cond := .code yX6_readSound cX6_readSound 4 none :: ((wsX6_readSound_r1 ++ (wsX6_readSound_r2 ++ wsX6_readSound_r3)) ++ wsX60 ++ wsX50 ++ wsX90)
def wsX6_readWitness_r1 : List Cond := [Cond.fieldLink RX6 12 "FourWalls$Reader" "plan" "LFourWalls$Plan;", Cond.fieldLink RX6 93 "FourWalls$Plan" "witnesses" "I", Cond.fieldLink RX6 96 "FourWalls$Plan" "walls" "I", Cond.methodLink RX6 58 yX6_fail, Cond.instanceMethod yX6_fail, Cond.selects RX6 yX6_fail yX6_fail, Cond.initialized RX6, Cond.code yX6_fail cX6_fail 3 none, Cond.fieldLink RX6 29 "FourWalls$Reader" "fault" "I", Cond.fieldLink RX6 18 "FourWalls$Reader" "faultAt" "I", Cond.methodLink RX6 75 yX6_readNumber, Cond.instanceMethod yX6_readNumber, Cond.selects RX6 yX6_readNumber yX6_readNumber, Cond.code yX6_readNumber cX6_readNumber 5 (some .int), Cond.fieldLink RX6 32 "FourWalls$Reader" "at" "I", Cond.fieldLink RX6 22 "FourWalls$Reader" "text" "LFourWalls$Text;", Cond.methodLink RX6 107 Lib.Math.min.name, Cond.static Lib.Math.min.name, Cond.initialized "java/lang/Math", Cond.code Lib.Math.min.name Lib.Math.min.code 2 (some .int), Cond.methodLink RX6 39 yX6_skipBlanks, Cond.instanceMethod yX6_skipBlanks, Cond.selects RX6 yX6_skipBlanks yX6_skipBlanks, Cond.code yX6_skipBlanks cX6_skipBlanks 2 none]
def wsX6_readWitness_r2 : List Cond := [Cond.methodLink RX6 50 yX9_letterAt, Cond.instanceMethod yX9_letterAt, Cond.selects RX9 yX9_letterAt yX9_letterAt, Cond.initialized RX9, Cond.code yX9_letterAt cX9_letterAt 2 (some .int), Cond.fieldLink RX9 15 "FourWalls$Text" "length" "I", Cond.fieldLink RX9 9 "FourWalls$Text" "letters" "[I", Cond.methodLink RX6 103 yX6_isFigure, Cond.static yX6_isFigure, Cond.code yX6_isFigure cX6_isFigure 1 (some .boolean), Cond.methodLink RX6 99 yX5_addWitness, Cond.instanceMethod yX5_addWitness, Cond.selects RX5 yX5_addWitness yX5_addWitness, Cond.initialized RX5, Cond.code yX5_addWitness cX5_addWitness 4 none, Cond.fieldLink RX5 21 "FourWalls$Plan" "spot" "[I", Cond.fieldLink RX5 40 "FourWalls$Plan" "witnesses" "I", Cond.fieldLink RX5 24 "FourWalls$Plan" "ear" "[I", Cond.fieldLink RX5 27 "FourWalls$Plan" "side" "[I", Cond.methodLink RX5 49 yX7_put, Cond.static yX7_put, Cond.initialized RX7, Cond.code yX7_put cX7_put 3 none, Cond.methodLink RX6 81 yX6_readEnd]
def wsX6_readWitness_r3 : List Cond := [Cond.instanceMethod yX6_readEnd, Cond.selects RX6 yX6_readEnd yX6_readEnd, Cond.code yX6_readEnd cX6_readEnd 1 none]
def wsX6_readWitness : List Cond := .code yX6_readWitness cX6_readWitness 5 none :: ((wsX6_readWitness_r1 ++ (wsX6_readWitness_r2 ++ wsX6_readWitness_r3)) ++ wsX60 ++ wsX50 ++ wsX90)
def wsX6_readClause_r1 : List Cond := [Cond.fieldLink RX6 32 "FourWalls$Reader" "at" "I", Cond.fieldLink RX6 22 "FourWalls$Reader" "text" "LFourWalls$Text;", Cond.fieldLink RX6 12 "FourWalls$Reader" "plan" "LFourWalls$Plan;", Cond.methodLink RX6 50 yX9_letterAt, Cond.instanceMethod yX9_letterAt, Cond.selects RX9 yX9_letterAt yX9_letterAt, Cond.initialized RX9, Cond.code yX9_letterAt cX9_letterAt 2 (some .int), Cond.fieldLink RX9 15 "FourWalls$Text" "length" "I", Cond.fieldLink RX9 9 "FourWalls$Text" "letters" "[I", Cond.methodLink RX6 54 yX5_stands, Cond.instanceMethod yX5_stands, Cond.selects RX5 yX5_stands yX5_stands, Cond.initialized RX5, Cond.code yX5_stands cX5_stands 1 (some .boolean), Cond.fieldLink RX5 30 "FourWalls$Plan" "walls" "I", Cond.methodLink RX6 58 yX6_fail, Cond.instanceMethod yX6_fail, Cond.selects RX6 yX6_fail yX6_fail, Cond.initialized RX6, Cond.code yX6_fail cX6_fail 3 none, Cond.fieldLink RX6 29 "FourWalls$Reader" "fault" "I", Cond.fieldLink RX6 18 "FourWalls$Reader" "faultAt" "I", Cond.methodLink RX6 62 yX6_readWalls]
def wsX6_readClause_r2 : List Cond := [Cond.instanceMethod yX6_readWalls, Cond.selects RX6 yX6_readWalls yX6_readWalls, Cond.code yX6_readWalls cX6_readWalls 3 none, Cond.methodLink RX6 75 yX6_readNumber, Cond.instanceMethod yX6_readNumber, Cond.selects RX6 yX6_readNumber yX6_readNumber, Cond.code yX6_readNumber cX6_readNumber 5 (some .int), Cond.methodLink RX6 107 Lib.Math.min.name, Cond.static Lib.Math.min.name, Cond.initialized "java/lang/Math", Cond.code Lib.Math.min.name Lib.Math.min.code 2 (some .int), Cond.methodLink RX6 39 yX6_skipBlanks, Cond.instanceMethod yX6_skipBlanks, Cond.selects RX6 yX6_skipBlanks yX6_skipBlanks, Cond.code yX6_skipBlanks cX6_skipBlanks 2 none, Cond.methodLink RX6 103 yX6_isFigure, Cond.static yX6_isFigure, Cond.code yX6_isFigure cX6_isFigure 1 (some .boolean), Cond.methodLink RX6 78 yX5_addWall, Cond.instanceMethod yX5_addWall, Cond.selects RX5 yX5_addWall yX5_addWall, Cond.code yX5_addWall cX5_addWall 2 none, Cond.fieldLink RX5 9 "FourWalls$Plan" "thickness" "[I", Cond.methodLink RX5 49 yX7_put]
def wsX6_readClause_r3 : List Cond := [Cond.static yX7_put, Cond.initialized RX7, Cond.code yX7_put cX7_put 3 none, Cond.methodLink RX6 81 yX6_readEnd, Cond.instanceMethod yX6_readEnd, Cond.selects RX6 yX6_readEnd yX6_readEnd, Cond.code yX6_readEnd cX6_readEnd 1 none, Cond.methodLink RX6 66 yX6_readWind, Cond.instanceMethod yX6_readWind, Cond.selects RX6 yX6_readWind yX6_readWind, Cond.code yX6_readWind cX6_readWind 2 none, Cond.fieldLink RX6 35 "FourWalls$Reader" "windTold" "Z", Cond.fieldLink RX6 84 "FourWalls$Plan" "wind" "I", Cond.methodLink RX6 69 yX6_readSound, Cond.instanceMethod yX6_readSound, Cond.selects RX6 yX6_readSound yX6_readSound, Cond.code yX6_readSound cX6_readSound 4 none, Cond.fieldLink RX6 87 "FourWalls$Plan" "sounds" "I", Cond.methodLink RX6 90 yX5_addSound, Cond.instanceMethod yX5_addSound, Cond.selects RX5 yX5_addSound yX5_addSound, Cond.code yX5_addSound cX5_addSound 3 none, Cond.fieldLink RX5 15 "FourWalls$Plan" "loud" "[I", Cond.fieldLink RX5 37 "FourWalls$Plan" "sounds" "I"]
def wsX6_readClause_r4 : List Cond := [Cond.fieldLink RX5 18 "FourWalls$Plan" "tone" "[I", Cond.methodLink RX6 72 yX6_readWitness, Cond.instanceMethod yX6_readWitness, Cond.selects RX6 yX6_readWitness yX6_readWitness, Cond.code yX6_readWitness cX6_readWitness 5 none, Cond.fieldLink RX6 93 "FourWalls$Plan" "witnesses" "I", Cond.fieldLink RX6 96 "FourWalls$Plan" "walls" "I", Cond.methodLink RX6 99 yX5_addWitness, Cond.instanceMethod yX5_addWitness, Cond.selects RX5 yX5_addWitness yX5_addWitness, Cond.code yX5_addWitness cX5_addWitness 4 none, Cond.fieldLink RX5 21 "FourWalls$Plan" "spot" "[I", Cond.fieldLink RX5 40 "FourWalls$Plan" "witnesses" "I", Cond.fieldLink RX5 24 "FourWalls$Plan" "ear" "[I", Cond.fieldLink RX5 27 "FourWalls$Plan" "side" "[I"]
def wsX6_readClause : List Cond := .code yX6_readClause cX6_readClause 3 none :: ((wsX6_readClause_r1 ++ (wsX6_readClause_r2 ++ (wsX6_readClause_r3 ++ wsX6_readClause_r4))) ++ wsX60 ++ wsX90 ++ wsX50)
def wsX6_read_r1 : List Cond := [Cond.fieldLink RX6 12 "FourWalls$Reader" "plan" "LFourWalls$Plan;", Cond.fieldLink RX6 29 "FourWalls$Reader" "fault" "I", Cond.fieldLink RX6 18 "FourWalls$Reader" "faultAt" "I", Cond.fieldLink RX6 32 "FourWalls$Reader" "at" "I", Cond.fieldLink RX6 35 "FourWalls$Reader" "windTold" "Z", Cond.fieldLink RX6 22 "FourWalls$Reader" "text" "LFourWalls$Text;", Cond.fieldLink RX6 42 "FourWalls$Text" "length" "I", Cond.methodLink RX6 26 yX5_clear, Cond.instanceMethod yX5_clear, Cond.selects RX5 yX5_clear yX5_clear, Cond.initialized RX5, Cond.code yX5_clear cX5_clear 1 none, Cond.fieldLink RX5 30 "FourWalls$Plan" "walls" "I", Cond.fieldLink RX5 34 "FourWalls$Plan" "wind" "I", Cond.fieldLink RX5 37 "FourWalls$Plan" "sounds" "I", Cond.fieldLink RX5 40 "FourWalls$Plan" "witnesses" "I", Cond.methodLink RX6 39 yX6_skipBlanks, Cond.instanceMethod yX6_skipBlanks, Cond.selects RX6 yX6_skipBlanks yX6_skipBlanks, Cond.initialized RX6, Cond.code yX6_skipBlanks cX6_skipBlanks 2 none, Cond.methodLink RX6 50 yX9_letterAt, Cond.instanceMethod yX9_letterAt, Cond.selects RX9 yX9_letterAt yX9_letterAt]
def wsX6_read_r2 : List Cond := [Cond.initialized RX9, Cond.code yX9_letterAt cX9_letterAt 2 (some .int), Cond.fieldLink RX9 15 "FourWalls$Text" "length" "I", Cond.fieldLink RX9 9 "FourWalls$Text" "letters" "[I", Cond.methodLink RX6 47 yX6_readClause, Cond.instanceMethod yX6_readClause, Cond.selects RX6 yX6_readClause yX6_readClause, Cond.code yX6_readClause cX6_readClause 3 none, Cond.methodLink RX6 54 yX5_stands, Cond.instanceMethod yX5_stands, Cond.selects RX5 yX5_stands yX5_stands, Cond.code yX5_stands cX5_stands 1 (some .boolean), Cond.methodLink RX6 58 yX6_fail, Cond.instanceMethod yX6_fail, Cond.selects RX6 yX6_fail yX6_fail, Cond.code yX6_fail cX6_fail 3 none, Cond.methodLink RX6 62 yX6_readWalls, Cond.instanceMethod yX6_readWalls, Cond.selects RX6 yX6_readWalls yX6_readWalls, Cond.code yX6_readWalls cX6_readWalls 3 none, Cond.methodLink RX6 75 yX6_readNumber, Cond.instanceMethod yX6_readNumber, Cond.selects RX6 yX6_readNumber yX6_readNumber, Cond.code yX6_readNumber cX6_readNumber 5 (some .int)]
def wsX6_read_r3 : List Cond := [Cond.methodLink RX6 107 Lib.Math.min.name, Cond.static Lib.Math.min.name, Cond.initialized "java/lang/Math", Cond.code Lib.Math.min.name Lib.Math.min.code 2 (some .int), Cond.methodLink RX6 103 yX6_isFigure, Cond.static yX6_isFigure, Cond.code yX6_isFigure cX6_isFigure 1 (some .boolean), Cond.methodLink RX6 78 yX5_addWall, Cond.instanceMethod yX5_addWall, Cond.selects RX5 yX5_addWall yX5_addWall, Cond.code yX5_addWall cX5_addWall 2 none, Cond.fieldLink RX5 9 "FourWalls$Plan" "thickness" "[I", Cond.methodLink RX5 49 yX7_put, Cond.static yX7_put, Cond.initialized RX7, Cond.code yX7_put cX7_put 3 none, Cond.methodLink RX6 81 yX6_readEnd, Cond.instanceMethod yX6_readEnd, Cond.selects RX6 yX6_readEnd yX6_readEnd, Cond.code yX6_readEnd cX6_readEnd 1 none, Cond.methodLink RX6 66 yX6_readWind, Cond.instanceMethod yX6_readWind, Cond.selects RX6 yX6_readWind yX6_readWind, Cond.code yX6_readWind cX6_readWind 2 none]
def wsX6_read_r4 : List Cond := [Cond.fieldLink RX6 84 "FourWalls$Plan" "wind" "I", Cond.methodLink RX6 69 yX6_readSound, Cond.instanceMethod yX6_readSound, Cond.selects RX6 yX6_readSound yX6_readSound, Cond.code yX6_readSound cX6_readSound 4 none, Cond.fieldLink RX6 87 "FourWalls$Plan" "sounds" "I", Cond.methodLink RX6 90 yX5_addSound, Cond.instanceMethod yX5_addSound, Cond.selects RX5 yX5_addSound yX5_addSound, Cond.code yX5_addSound cX5_addSound 3 none, Cond.fieldLink RX5 15 "FourWalls$Plan" "loud" "[I", Cond.fieldLink RX5 18 "FourWalls$Plan" "tone" "[I", Cond.methodLink RX6 72 yX6_readWitness, Cond.instanceMethod yX6_readWitness, Cond.selects RX6 yX6_readWitness yX6_readWitness, Cond.code yX6_readWitness cX6_readWitness 5 none, Cond.fieldLink RX6 93 "FourWalls$Plan" "witnesses" "I", Cond.fieldLink RX6 96 "FourWalls$Plan" "walls" "I", Cond.methodLink RX6 99 yX5_addWitness, Cond.instanceMethod yX5_addWitness, Cond.selects RX5 yX5_addWitness yX5_addWitness, Cond.code yX5_addWitness cX5_addWitness 4 none, Cond.fieldLink RX5 21 "FourWalls$Plan" "spot" "[I", Cond.fieldLink RX5 24 "FourWalls$Plan" "ear" "[I"]
def wsX6_read_r5 : List Cond := [Cond.fieldLink RX5 27 "FourWalls$Plan" "side" "[I"]
def wsX6_read : List Cond := .code yX6_read cX6_read 2 none :: ((wsX6_read_r1 ++ (wsX6_read_r2 ++ (wsX6_read_r3 ++ (wsX6_read_r4 ++ wsX6_read_r5)))) ++ wsX60 ++ wsX90 ++ wsX50)
def wsX8_get : List Cond := .code yX8_get cX8_get 2 (some .int) :: ([.fieldLink RX8 11 "FourWalls$State" "row" "[I", .methodLink RX8 18 yX7_get, .static yX7_get, .initialized RX7, .code yX7_get cX7_get 2 (some .int)] ++ wsX80)
def wsX8_take : List Cond := .code yX8_take cX8_take 2 none :: ([.fieldLink RX8 11 "FourWalls$State" "row" "[I", .methodLink RX8 28 yX7_copy, .static yX7_copy, .initialized RX7, .code yX7_copy cX7_copy 6 none, .methodLink RX7 7 yX7_get, .static yX7_get, .code yX7_get cX7_get 2 (some .int), .methodLink RX7 13 yX7_put, .static yX7_put, .code yX7_put cX7_put 3 none] ++ wsX80)
def wsX8_begin : List Cond := .code yX8_begin cX8_begin 2 none :: ([.fieldLink RX8 32 "FourWalls$Plan" "wind" "I", .fieldLink RX8 41 "FourWalls$Plan" "thickness" "[I", .fieldLink RX8 11 "FourWalls$State" "row" "[I", .fieldLink RX8 44 "FourWalls$Plan" "spot" "[I", .methodLink RX8 15 yX8_forgetMornings, .instanceMethod yX8_forgetMornings, .selects RX8 yX8_forgetMornings yX8_forgetMornings, .initialized RX8, .code yX8_forgetMornings cX8_forgetMornings 2 none, .methodLink RX8 38 yX8_put, .instanceMethod yX8_put, .selects RX8 yX8_put yX8_put, .code yX8_put cX8_put 3 none, .methodLink RX8 24 yX7_put, .static yX7_put, .initialized RX7, .code yX7_put cX7_put 3 none, .methodLink RX8 28 yX7_copy, .static yX7_copy, .code yX7_copy cX7_copy 6 none, .methodLink RX7 7 yX7_get, .static yX7_get, .code yX7_get cX7_get 2 (some .int), .methodLink RX7 13 yX7_put] ++ wsX50 ++ wsX80)
def wsX9_init : List Cond := .code yX9_init cX9_init 1 none :: ([.methodLink RX9 3 objectInit, .instanceMethod objectInit, .code objectInit ⟨#[0xb1]⟩ 1 none, .arrayClass .int, .fieldLink RX9 9 "FourWalls$Text" "letters" "[I"] ++ wsX90)
def wsX9_add : List Cond := .code yX9_add cX9_add 2 (some .boolean) :: ([.fieldLink RX9 15 "FourWalls$Text" "length" "I", .fieldLink RX9 9 "FourWalls$Text" "letters" "[I", .methodLink RX9 19 yX7_put, .static yX7_put, .initialized RX7, .code yX7_put cX7_put 3 none] ++ wsX90)
def wsX10_init : List Cond := .code yX10_init cX10_init 4 none :: ([.methodLink RX10 3 objectInit, .instanceMethod objectInit, .code objectInit ⟨#[0xb1]⟩ 1 none, .arrayClass .int, .fieldLink RX10 9 "FourWalls$Trial" "listenersOf" "[I", .fieldLink RX10 15 "FourWalls$Trial" "plan" "LFourWalls$Plan;", .fieldLink RX10 19 "FourWalls$Trial" "state" "LFourWalls$State;", .fieldLink RX10 23 "FourWalls$Trial" "hearing" "LFourWalls$Hearing;"] ++ wsX100)
def wsX10_listeners_r1 : List Cond := [Cond.fieldLink RX10 15 "FourWalls$Trial" "plan" "LFourWalls$Plan;", Cond.fieldLink RX10 23 "FourWalls$Trial" "hearing" "LFourWalls$Hearing;", Cond.methodLink RX10 27 yX5_places, Cond.instanceMethod yX5_places, Cond.selects RX5 yX5_places yX5_places, Cond.initialized RX5, Cond.code yX5_places cX5_places 1 (some .int), Cond.fieldLink RX5 30 "FourWalls$Plan" "walls" "I", Cond.methodLink RX10 33 yX2_loudness, Cond.instanceMethod yX2_loudness, Cond.selects RX2 yX2_loudness yX2_loudness, Cond.initialized RX2, Cond.code yX2_loudness cX2_loudness 8 (some .int), Cond.methodLink RX2 19 Lib.Math.min.name, Cond.static Lib.Math.min.name, Cond.initialized "java/lang/Math", Cond.code Lib.Math.min.name Lib.Math.min.code 2 (some .int), Cond.methodLink RX2 25 Lib.Math.max.name, Cond.static Lib.Math.max.name, Cond.code Lib.Math.max.name Lib.Math.max.code 2 (some .int), Cond.fieldLink RX2 9 "FourWalls$Hearing" "plan" "LFourWalls$Plan;", Cond.fieldLink RX2 28 "FourWalls$Plan" "loud" "[I", Cond.fieldLink RX2 15 "FourWalls$Hearing" "state" "LFourWalls$State;", Cond.fieldLink RX2 40 "FourWalls$State" "row" "[I"]
def wsX10_listeners_r2 : List Cond := [Cond.methodLink RX2 34 yX7_get, Cond.static yX7_get, Cond.initialized RX7, Cond.code yX7_get cX7_get 2 (some .int)]
def wsX10_listeners : List Cond := .code yX10_listeners cX10_listeners 6 (some .int) :: ((wsX10_listeners_r1 ++ wsX10_listeners_r2) ++ wsX100 ++ wsX50 ++ wsX20 ++ wsX80)
def wsX10_unheard_r1 : List Cond := [Cond.fieldLink RX10 15 "FourWalls$Trial" "plan" "LFourWalls$Plan;", Cond.fieldLink RX10 23 "FourWalls$Trial" "hearing" "LFourWalls$Hearing;", Cond.methodLink RX10 27 yX5_places, Cond.instanceMethod yX5_places, Cond.selects RX5 yX5_places yX5_places, Cond.initialized RX5, Cond.code yX5_places cX5_places 1 (some .int), Cond.fieldLink RX5 30 "FourWalls$Plan" "walls" "I", Cond.methodLink RX10 39 yX2_hearers, Cond.instanceMethod yX2_hearers, Cond.selects RX2 yX2_hearers yX2_hearers, Cond.initialized RX2, Cond.code yX2_hearers cX2_hearers 6 (some .int), Cond.fieldLink RX2 9 "FourWalls$Hearing" "plan" "LFourWalls$Plan;", Cond.fieldLink RX2 52 "FourWalls$Plan" "witnesses" "I", Cond.methodLink RX2 56 yX2_margin, Cond.instanceMethod yX2_margin, Cond.selects RX2 yX2_margin yX2_margin, Cond.code yX2_margin cX2_margin 4 (some .int), Cond.fieldLink RX2 15 "FourWalls$Hearing" "state" "LFourWalls$State;", Cond.fieldLink RX2 40 "FourWalls$State" "row" "[I", Cond.fieldLink RX2 49 "FourWalls$Plan" "ear" "[I", Cond.methodLink RX2 34 yX7_get, Cond.static yX7_get]
def wsX10_unheard_r2 : List Cond := [Cond.initialized RX7, Cond.code yX7_get cX7_get 2 (some .int), Cond.methodLink RX2 45 yX2_loudness, Cond.instanceMethod yX2_loudness, Cond.selects RX2 yX2_loudness yX2_loudness, Cond.code yX2_loudness cX2_loudness 8 (some .int), Cond.methodLink RX2 19 Lib.Math.min.name, Cond.static Lib.Math.min.name, Cond.initialized "java/lang/Math", Cond.code Lib.Math.min.name Lib.Math.min.code 2 (some .int), Cond.methodLink RX2 25 Lib.Math.max.name, Cond.static Lib.Math.max.name, Cond.code Lib.Math.max.name Lib.Math.max.code 2 (some .int), Cond.fieldLink RX2 28 "FourWalls$Plan" "loud" "[I"]
def wsX10_unheard : List Cond := .code yX10_unheard cX10_unheard 4 (some .int) :: ((wsX10_unheard_r1 ++ wsX10_unheard_r2) ++ wsX100 ++ wsX50 ++ wsX20 ++ wsX80)
def wsJ6_bitCount_0f7a4 : List Cond := .code yJ6_bitCount_0f7a4 cJ6_bitCount_0f7a4 1 (some .int) :: ([.constant RJ6 265 (1431655765), .constant RJ6 266 (858993459), .constant RJ6 267 (252645135)])
def wsX10_coverAll : List Cond := .code yX10_coverAll cX10_coverAll 4 (some .boolean) :: ([.fieldLink RX10 15 "FourWalls$Trial" "plan" "LFourWalls$Plan;", .fieldLink RX10 9 "FourWalls$Trial" "listenersOf" "[I", .methodLink RX10 27 yX5_places, .instanceMethod yX5_places, .selects RX5 yX5_places yX5_places, .initialized RX5, .code yX5_places cX5_places 1 (some .int), .fieldLink RX5 30 "FourWalls$Plan" "walls" "I", .methodLink RX10 61 yX7_get, .static yX7_get, .initialized RX7, .code yX7_get cX7_get 2 (some .int)] ++ wsX100 ++ wsX50)
def wsX10_fewestEars_r1 : List Cond := [Cond.fieldLink RX10 15 "FourWalls$Trial" "plan" "LFourWalls$Plan;", Cond.fieldLink RX10 9 "FourWalls$Trial" "listenersOf" "[I", Cond.methodLink RX10 27 yX5_places, Cond.instanceMethod yX5_places, Cond.selects RX5 yX5_places yX5_places, Cond.initialized RX5, Cond.code yX5_places cX5_places 1 (some .int), Cond.fieldLink RX5 30 "FourWalls$Plan" "walls" "I", Cond.methodLink RX10 42 yX10_listeners, Cond.instanceMethod yX10_listeners, Cond.selects RX10 yX10_listeners yX10_listeners, Cond.initialized RX10, Cond.code yX10_listeners cX10_listeners 6 (some .int), Cond.fieldLink RX10 23 "FourWalls$Trial" "hearing" "LFourWalls$Hearing;", Cond.methodLink RX10 33 yX2_loudness, Cond.instanceMethod yX2_loudness, Cond.selects RX2 yX2_loudness yX2_loudness, Cond.initialized RX2, Cond.code yX2_loudness cX2_loudness 8 (some .int), Cond.methodLink RX2 19 Lib.Math.min.name, Cond.static Lib.Math.min.name, Cond.initialized "java/lang/Math", Cond.code Lib.Math.min.name Lib.Math.min.code 2 (some .int), Cond.methodLink RX2 25 Lib.Math.max.name]
def wsX10_fewestEars_r2 : List Cond := [Cond.static Lib.Math.max.name, Cond.code Lib.Math.max.name Lib.Math.max.code 2 (some .int), Cond.fieldLink RX2 9 "FourWalls$Hearing" "plan" "LFourWalls$Plan;", Cond.fieldLink RX2 28 "FourWalls$Plan" "loud" "[I", Cond.fieldLink RX2 15 "FourWalls$Hearing" "state" "LFourWalls$State;", Cond.fieldLink RX2 40 "FourWalls$State" "row" "[I", Cond.methodLink RX2 34 yX7_get, Cond.static yX7_get, Cond.initialized RX7, Cond.code yX7_get cX7_get 2 (some .int), Cond.methodLink RX10 45 yX7_put, Cond.static yX7_put, Cond.code yX7_put cX7_put 3 none, Cond.methodLink RX10 51 yJ6_bitCount_0f7a4, Cond.static yJ6_bitCount_0f7a4, Cond.initialized RJ6, Cond.code yJ6_bitCount_0f7a4 cJ6_bitCount_0f7a4 1 (some .int), Cond.constant RJ6 265 (1431655765), Cond.constant RJ6 266 (858993459), Cond.constant RJ6 267 (252645135), Cond.methodLink RX10 57 yX10_coverAll, Cond.instanceMethod yX10_coverAll, Cond.selects RX10 yX10_coverAll yX10_coverAll, Cond.code yX10_coverAll cX10_coverAll 4 (some .boolean)]
def wsX10_fewestEars_r3 : List Cond := [Cond.methodLink RX10 61 yX7_get]
def wsX10_fewestEars : List Cond := .code yX10_fewestEars cX10_fewestEars 7 (some .int) :: ((wsX10_fewestEars_r1 ++ (wsX10_fewestEars_r2 ++ wsX10_fewestEars_r3)) ++ wsX100 ++ wsX50 ++ wsX20 ++ wsX80)
def wsX10_areAlike_r1 : List Cond := [Cond.fieldLink RX10 15 "FourWalls$Trial" "plan" "LFourWalls$Plan;", Cond.fieldLink RX10 73 "FourWalls$Plan" "witnesses" "I", Cond.fieldLink RX10 23 "FourWalls$Trial" "hearing" "LFourWalls$Hearing;", Cond.methodLink RX10 76 yX2_saying, Cond.instanceMethod yX2_saying, Cond.selects RX2 yX2_saying yX2_saying, Cond.initialized RX2, Cond.code yX2_saying cX2_saying 6 (some .int), Cond.fieldLink RX2 9 "FourWalls$Hearing" "plan" "LFourWalls$Plan;", Cond.fieldLink RX2 59 "FourWalls$Plan" "side" "[I", Cond.fieldLink RX2 62 "FourWalls$Plan" "sounds" "I", Cond.fieldLink RX2 65 "FourWalls$Plan" "tone" "[I", Cond.methodLink RX2 34 yX7_get, Cond.static yX7_get, Cond.initialized RX7, Cond.code yX7_get cX7_get 2 (some .int), Cond.methodLink RX2 56 yX2_margin, Cond.instanceMethod yX2_margin, Cond.selects RX2 yX2_margin yX2_margin, Cond.code yX2_margin cX2_margin 4 (some .int), Cond.fieldLink RX2 15 "FourWalls$Hearing" "state" "LFourWalls$State;", Cond.fieldLink RX2 40 "FourWalls$State" "row" "[I", Cond.fieldLink RX2 49 "FourWalls$Plan" "ear" "[I", Cond.methodLink RX2 45 yX2_loudness]
def wsX10_areAlike_r2 : List Cond := [Cond.instanceMethod yX2_loudness, Cond.selects RX2 yX2_loudness yX2_loudness, Cond.code yX2_loudness cX2_loudness 8 (some .int), Cond.methodLink RX2 19 Lib.Math.min.name, Cond.static Lib.Math.min.name, Cond.initialized "java/lang/Math", Cond.code Lib.Math.min.name Lib.Math.min.code 2 (some .int), Cond.methodLink RX2 25 Lib.Math.max.name, Cond.static Lib.Math.max.name, Cond.code Lib.Math.max.name Lib.Math.max.code 2 (some .int), Cond.fieldLink RX2 28 "FourWalls$Plan" "loud" "[I"]
def wsX10_areAlike : List Cond := .code yX10_areAlike cX10_areAlike 5 (some .boolean) :: ((wsX10_areAlike_r1 ++ wsX10_areAlike_r2) ++ wsX100 ++ wsX50 ++ wsX20 ++ wsX80)
def wsX10_alikePair_r1 : List Cond := [Cond.fieldLink RX10 15 "FourWalls$Trial" "plan" "LFourWalls$Plan;", Cond.fieldLink RX10 65 "FourWalls$Plan" "sounds" "I", Cond.methodLink RX10 69 yX10_areAlike, Cond.instanceMethod yX10_areAlike, Cond.selects RX10 yX10_areAlike yX10_areAlike, Cond.initialized RX10, Cond.code yX10_areAlike cX10_areAlike 5 (some .boolean), Cond.fieldLink RX10 73 "FourWalls$Plan" "witnesses" "I", Cond.fieldLink RX10 23 "FourWalls$Trial" "hearing" "LFourWalls$Hearing;", Cond.methodLink RX10 76 yX2_saying, Cond.instanceMethod yX2_saying, Cond.selects RX2 yX2_saying yX2_saying, Cond.initialized RX2, Cond.code yX2_saying cX2_saying 6 (some .int), Cond.fieldLink RX2 9 "FourWalls$Hearing" "plan" "LFourWalls$Plan;", Cond.fieldLink RX2 59 "FourWalls$Plan" "side" "[I", Cond.fieldLink RX2 62 "FourWalls$Plan" "sounds" "I", Cond.fieldLink RX2 65 "FourWalls$Plan" "tone" "[I", Cond.methodLink RX2 34 yX7_get, Cond.static yX7_get, Cond.initialized RX7, Cond.code yX7_get cX7_get 2 (some .int), Cond.methodLink RX2 56 yX2_margin, Cond.instanceMethod yX2_margin]
def wsX10_alikePair_r2 : List Cond := [Cond.selects RX2 yX2_margin yX2_margin, Cond.code yX2_margin cX2_margin 4 (some .int), Cond.fieldLink RX2 15 "FourWalls$Hearing" "state" "LFourWalls$State;", Cond.fieldLink RX2 40 "FourWalls$State" "row" "[I", Cond.fieldLink RX2 49 "FourWalls$Plan" "ear" "[I", Cond.methodLink RX2 45 yX2_loudness, Cond.instanceMethod yX2_loudness, Cond.selects RX2 yX2_loudness yX2_loudness, Cond.code yX2_loudness cX2_loudness 8 (some .int), Cond.methodLink RX2 19 Lib.Math.min.name, Cond.static Lib.Math.min.name, Cond.initialized "java/lang/Math", Cond.code Lib.Math.min.name Lib.Math.min.code 2 (some .int), Cond.methodLink RX2 25 Lib.Math.max.name, Cond.static Lib.Math.max.name, Cond.code Lib.Math.max.name Lib.Math.max.code 2 (some .int), Cond.fieldLink RX2 28 "FourWalls$Plan" "loud" "[I"]
def wsX10_alikePair : List Cond := .code yX10_alikePair cX10_alikePair 6 (some .int) :: ((wsX10_alikePair_r1 ++ wsX10_alikePair_r2) ++ wsX100 ++ wsX50 ++ wsX20 ++ wsX80)
def wsX10_hidingThickness_r1 : List Cond := [Cond.fieldLink RX10 15 "FourWalls$Trial" "plan" "LFourWalls$Plan;", Cond.fieldLink RX10 73 "FourWalls$Plan" "witnesses" "I", Cond.fieldLink RX10 23 "FourWalls$Trial" "hearing" "LFourWalls$Hearing;", Cond.fieldLink RX10 19 "FourWalls$Trial" "state" "LFourWalls$State;", Cond.methodLink RX10 86 Lib.Math.min.name, Cond.static Lib.Math.min.name, Cond.initialized "java/lang/Math", Cond.code Lib.Math.min.name Lib.Math.min.code 2 (some .int), Cond.methodLink RX10 92 Lib.Math.max.name, Cond.static Lib.Math.max.name, Cond.code Lib.Math.max.name Lib.Math.max.code 2 (some .int), Cond.methodLink RX10 79 yX2_margin, Cond.instanceMethod yX2_margin, Cond.selects RX2 yX2_margin yX2_margin, Cond.initialized RX2, Cond.code yX2_margin cX2_margin 4 (some .int), Cond.fieldLink RX2 15 "FourWalls$Hearing" "state" "LFourWalls$State;", Cond.fieldLink RX2 40 "FourWalls$State" "row" "[I", Cond.fieldLink RX2 9 "FourWalls$Hearing" "plan" "LFourWalls$Plan;", Cond.fieldLink RX2 49 "FourWalls$Plan" "ear" "[I", Cond.methodLink RX2 34 yX7_get, Cond.static yX7_get, Cond.initialized RX7, Cond.code yX7_get cX7_get 2 (some .int)]
def wsX10_hidingThickness_r2 : List Cond := [Cond.methodLink RX2 45 yX2_loudness, Cond.instanceMethod yX2_loudness, Cond.selects RX2 yX2_loudness yX2_loudness, Cond.code yX2_loudness cX2_loudness 8 (some .int), Cond.methodLink RX2 19 Lib.Math.min.name, Cond.methodLink RX2 25 Lib.Math.max.name, Cond.fieldLink RX2 28 "FourWalls$Plan" "loud" "[I", Cond.methodLink RX10 84 yX8_get, Cond.instanceMethod yX8_get, Cond.selects RX8 yX8_get yX8_get, Cond.initialized RX8, Cond.code yX8_get cX8_get 2 (some .int), Cond.fieldLink RX8 11 "FourWalls$State" "row" "[I", Cond.methodLink RX8 18 yX7_get]
def wsX10_hidingThickness : List Cond := .code yX10_hidingThickness cX10_hidingThickness 9 (some .int) :: ((wsX10_hidingThickness_r1 ++ wsX10_hidingThickness_r2) ++ wsX100 ++ wsX50 ++ wsX20 ++ wsX80)
def wsX10_oddsOfHearing_r1 : List Cond := [Cond.fieldLink RX10 15 "FourWalls$Trial" "plan" "LFourWalls$Plan;", Cond.fieldLink RX10 65 "FourWalls$Plan" "sounds" "I", Cond.constant RX10 98 (1000000), Cond.methodLink RX10 51 yJ6_bitCount_0f7a4, Cond.static yJ6_bitCount_0f7a4, Cond.initialized RJ6, Cond.code yJ6_bitCount_0f7a4 cJ6_bitCount_0f7a4 1 (some .int), Cond.constant RJ6 265 (1431655765), Cond.constant RJ6 266 (858993459), Cond.constant RJ6 267 (252645135), Cond.methodLink RX10 95 yX10_unheard, Cond.instanceMethod yX10_unheard, Cond.selects RX10 yX10_unheard yX10_unheard, Cond.initialized RX10, Cond.code yX10_unheard cX10_unheard 4 (some .int), Cond.fieldLink RX10 23 "FourWalls$Trial" "hearing" "LFourWalls$Hearing;", Cond.methodLink RX10 27 yX5_places, Cond.instanceMethod yX5_places, Cond.selects RX5 yX5_places yX5_places, Cond.initialized RX5, Cond.code yX5_places cX5_places 1 (some .int), Cond.fieldLink RX5 30 "FourWalls$Plan" "walls" "I", Cond.methodLink RX10 39 yX2_hearers, Cond.instanceMethod yX2_hearers]
def wsX10_oddsOfHearing_r2 : List Cond := [Cond.selects RX2 yX2_hearers yX2_hearers, Cond.initialized RX2, Cond.code yX2_hearers cX2_hearers 6 (some .int), Cond.fieldLink RX2 9 "FourWalls$Hearing" "plan" "LFourWalls$Plan;", Cond.fieldLink RX2 52 "FourWalls$Plan" "witnesses" "I", Cond.methodLink RX2 56 yX2_margin, Cond.instanceMethod yX2_margin, Cond.selects RX2 yX2_margin yX2_margin, Cond.code yX2_margin cX2_margin 4 (some .int), Cond.fieldLink RX2 15 "FourWalls$Hearing" "state" "LFourWalls$State;", Cond.fieldLink RX2 40 "FourWalls$State" "row" "[I", Cond.fieldLink RX2 49 "FourWalls$Plan" "ear" "[I", Cond.methodLink RX2 34 yX7_get, Cond.static yX7_get, Cond.initialized RX7, Cond.code yX7_get cX7_get 2 (some .int), Cond.methodLink RX2 45 yX2_loudness, Cond.instanceMethod yX2_loudness, Cond.selects RX2 yX2_loudness yX2_loudness, Cond.code yX2_loudness cX2_loudness 8 (some .int), Cond.methodLink RX2 19 Lib.Math.min.name, Cond.static Lib.Math.min.name, Cond.initialized "java/lang/Math", Cond.code Lib.Math.min.name Lib.Math.min.code 2 (some .int)]
def wsX10_oddsOfHearing_r3 : List Cond := [Cond.methodLink RX2 25 Lib.Math.max.name, Cond.static Lib.Math.max.name, Cond.code Lib.Math.max.name Lib.Math.max.code 2 (some .int), Cond.fieldLink RX2 28 "FourWalls$Plan" "loud" "[I"]
def wsX10_oddsOfHearing : List Cond := .code yX10_oddsOfHearing cX10_oddsOfHearing 5 (some .int) :: ((wsX10_oddsOfHearing_r1 ++ (wsX10_oddsOfHearing_r2 ++ wsX10_oddsOfHearing_r3)) ++ wsX100 ++ wsX50 ++ wsX20 ++ wsX80)
def wsX11_init_r1 : List Cond := [Cond.methodLink RX11 3 objectInit, Cond.instanceMethod objectInit, Cond.code objectInit ⟨#[0xb1]⟩ 1 none, Cond.classLink RX11 9 RX9, Cond.instantiable RX9 2, Cond.initialized RX9, Cond.fieldLink RX11 12 "FourWalls" "text" "LFourWalls$Text;", Cond.classLink RX11 16 RX5, Cond.instantiable RX5 10, Cond.initialized RX5, Cond.fieldLink RX11 19 "FourWalls" "plan" "LFourWalls$Plan;", Cond.classLink RX11 23 RX6, Cond.instantiable RX6 6, Cond.initialized RX6, Cond.fieldLink RX11 28 "FourWalls" "reader" "LFourWalls$Reader;", Cond.classLink RX11 32 RX8, Cond.instantiable RX8 1, Cond.initialized RX8, Cond.fieldLink RX11 35 "FourWalls" "state" "LFourWalls$State;", Cond.classLink RX11 39 RX4, Cond.instantiable RX4 3, Cond.initialized RX4, Cond.fieldLink RX11 42 "FourWalls" "past" "LFourWalls$Past;", Cond.classLink RX11 46 RX3]
def wsX11_init_r2 : List Cond := [Cond.fieldLink RX11 48 "FourWalls" "images" "[LFourWalls$Image;", Cond.classLink RX11 52 RX2, Cond.instantiable RX2 2, Cond.initialized RX2, Cond.fieldLink RX11 57 "FourWalls" "hearing" "LFourWalls$Hearing;", Cond.classLink RX11 61 RX10, Cond.instantiable RX10 4, Cond.initialized RX10, Cond.fieldLink RX11 66 "FourWalls" "trial" "LFourWalls$Trial;", Cond.classLink RX11 70 RX1, Cond.instantiable RX1 8, Cond.initialized RX1, Cond.fieldLink RX11 75 "FourWalls" "claims" "LFourWalls$Claims;", Cond.classLink RX11 79 RX0, Cond.instantiable RX0 2, Cond.initialized RX0, Cond.fieldLink RX11 82 "FourWalls" "book" "LFourWalls$Book;", Cond.instantiable RX3 3, Cond.initialized RX3, Cond.instanceMethod yX9_init, Cond.code yX9_init cX9_init 1 none, Cond.methodLink RX9 3 objectInit, Cond.arrayClass .int, Cond.fieldLink RX9 9 "FourWalls$Text" "letters" "[I"]
def wsX11_init_r3 : List Cond := [Cond.instanceMethod yX5_init, Cond.code yX5_init cX5_init 1 none, Cond.methodLink RX5 3 objectInit, Cond.fieldLink RX5 9 "FourWalls$Plan" "thickness" "[I", Cond.fieldLink RX5 15 "FourWalls$Plan" "loud" "[I", Cond.fieldLink RX5 18 "FourWalls$Plan" "tone" "[I", Cond.fieldLink RX5 21 "FourWalls$Plan" "spot" "[I", Cond.fieldLink RX5 24 "FourWalls$Plan" "ear" "[I", Cond.fieldLink RX5 27 "FourWalls$Plan" "side" "[I", Cond.methodLink RX11 25 yX6_init, Cond.instanceMethod yX6_init, Cond.code yX6_init cX6_init 2 none, Cond.methodLink RX6 3 objectInit, Cond.classLink RX6 9 RX5, Cond.fieldLink RX6 12 "FourWalls$Reader" "plan" "LFourWalls$Plan;", Cond.fieldLink RX6 18 "FourWalls$Reader" "faultAt" "I", Cond.fieldLink RX6 22 "FourWalls$Reader" "text" "LFourWalls$Text;", Cond.methodLink RX11 34 yX8_init, Cond.instanceMethod yX8_init, Cond.code yX8_init cX8_init 1 none, Cond.methodLink RX8 5 objectInit, Cond.fieldLink RX8 11 "FourWalls$State" "row" "[I", Cond.methodLink RX8 15 yX8_forgetMornings, Cond.instanceMethod yX8_forgetMornings]
def wsX11_init_r4 : List Cond := [Cond.selects RX8 yX8_forgetMornings yX8_forgetMornings, Cond.code yX8_forgetMornings cX8_forgetMornings 2 none, Cond.methodLink RX8 38 yX8_put, Cond.instanceMethod yX8_put, Cond.selects RX8 yX8_put yX8_put, Cond.code yX8_put cX8_put 3 none, Cond.methodLink RX8 24 yX7_put, Cond.static yX7_put, Cond.initialized RX7, Cond.code yX7_put cX7_put 3 none, Cond.instanceMethod yX4_init, Cond.code yX4_init cX4_init 1 none, Cond.methodLink RX4 3 objectInit, Cond.fieldLink RX4 11 "FourWalls$Past" "rows" "[I", Cond.methodLink RX11 54 yX2_init, Cond.instanceMethod yX2_init, Cond.code yX2_init cX2_init 3 none, Cond.methodLink RX2 3 objectInit, Cond.fieldLink RX2 9 "FourWalls$Hearing" "plan" "LFourWalls$Plan;", Cond.fieldLink RX2 15 "FourWalls$Hearing" "state" "LFourWalls$State;", Cond.methodLink RX11 63 yX10_init, Cond.instanceMethod yX10_init, Cond.code yX10_init cX10_init 4 none, Cond.methodLink RX10 3 objectInit]
def wsX11_init_r5 : List Cond := [Cond.fieldLink RX10 9 "FourWalls$Trial" "listenersOf" "[I", Cond.fieldLink RX10 15 "FourWalls$Trial" "plan" "LFourWalls$Plan;", Cond.fieldLink RX10 19 "FourWalls$Trial" "state" "LFourWalls$State;", Cond.fieldLink RX10 23 "FourWalls$Trial" "hearing" "LFourWalls$Hearing;", Cond.methodLink RX11 72 yX1_init, Cond.instanceMethod yX1_init, Cond.code yX1_init cX1_init 3 none, Cond.methodLink RX1 3 objectInit, Cond.fieldLink RX1 9 "FourWalls$Claims" "who" "[I", Cond.fieldLink RX1 15 "FourWalls$Claims" "what" "[I", Cond.fieldLink RX1 18 "FourWalls$Claims" "fitting" "[I", Cond.fieldLink RX1 21 "FourWalls$Claims" "parts" "[I", Cond.fieldLink RX1 24 "FourWalls$Claims" "plan" "LFourWalls$Plan;", Cond.fieldLink RX1 28 "FourWalls$Claims" "hearing" "LFourWalls$Hearing;", Cond.instanceMethod yX0_init, Cond.code yX0_init cX0_init 1 none, Cond.methodLink RX0 3 objectInit, Cond.fieldLink RX0 9 "FourWalls$Book" "entries" "[I", Cond.instanceMethod yX3_init, Cond.code yX3_init cX3_init 1 none, Cond.methodLink RX3 1 objectInit, Cond.classLink RX3 7 RX8, Cond.fieldLink RX3 10 "FourWalls$Image" "state" "LFourWalls$State;", Cond.methodLink RX3 9 yX8_init]
def wsX11_init : List Cond := .code yX11_init cX11_init 2 none :: ((wsX11_init_r1 ++ (wsX11_init_r2 ++ (wsX11_init_r3 ++ (wsX11_init_r4 ++ wsX11_init_r5)))) ++ wsX90 ++ wsX110 ++ wsX50 ++ wsX60 ++ wsX80 ++ wsX40 ++ wsX20 ++ wsX100 ++ wsX10 ++ wsX00 ++ wsX30)
def wsX11_isOutside : List Cond := .code yX11_isOutside cX11_isOutside 2 (some .boolean) :: ([])
def wsX11_feed : List Cond := .code yX11_feed cX11_feed 2 (some .int) :: ([.constant RX11 91 (-1000000002), .fieldLink RX11 12 "FourWalls" "text" "LFourWalls$Text;", .fieldLink RX11 96 "FourWalls$Text" "length" "I", .constant RX11 100 (-1000000004), .methodLink RX11 87 yX11_isOutside, .static yX11_isOutside, .initialized RX11, .code yX11_isOutside cX11_isOutside 2 (some .boolean), .methodLink RX11 92 yX9_add, .instanceMethod yX9_add, .selects RX9 yX9_add yX9_add, .initialized RX9, .code yX9_add cX9_add 2 (some .boolean), .fieldLink RX9 15 "FourWalls$Text" "length" "I", .fieldLink RX9 9 "FourWalls$Text" "letters" "[I", .methodLink RX9 19 yX7_put, .static yX7_put, .initialized RX7, .code yX7_put cX7_put 3 none] ++ wsX110 ++ wsX90)
def wsX11_imageAt : List Cond := .code yX11_imageAt cX11_imageAt 2 (some (.object "FourWalls$Image")) :: ([.fieldLink RX11 48 "FourWalls" "images" "[LFourWalls$Image;"] ++ wsX110)
def wsX11_forgetImages : List Cond := .code yX11_forgetImages cX11_forgetImages 3 none :: ([.fieldLink RX11 48 "FourWalls" "images" "[LFourWalls$Image;", .fieldLink RX11 288 "FourWalls$Image" "kept" "Z", .methodLink RX11 278 yX11_imageAt, .instanceMethod yX11_imageAt, .selects RX11 yX11_imageAt yX11_imageAt, .initialized RX11, .code yX11_imageAt cX11_imageAt 2 (some (.object "FourWalls$Image"))] ++ wsX110 ++ wsX30)
def wsX11_house_r1 : List Cond := [Cond.fieldLink RX11 28 "FourWalls" "reader" "LFourWalls$Reader;", Cond.fieldLink RX11 12 "FourWalls" "text" "LFourWalls$Text;", Cond.fieldLink RX11 96 "FourWalls$Text" "length" "I", Cond.fieldLink RX11 104 "FourWalls$Reader" "fault" "I", Cond.fieldLink RX11 19 "FourWalls" "plan" "LFourWalls$Plan;", Cond.fieldLink RX11 107 "FourWalls$Reader" "plan" "LFourWalls$Plan;", Cond.fieldLink RX11 35 "FourWalls" "state" "LFourWalls$State;", Cond.fieldLink RX11 42 "FourWalls" "past" "LFourWalls$Past;", Cond.fieldLink RX11 75 "FourWalls" "claims" "LFourWalls$Claims;", Cond.fieldLink RX11 121 "FourWalls$Claims" "count" "I", Cond.fieldLink RX11 82 "FourWalls" "book" "LFourWalls$Book;", Cond.fieldLink RX11 124 "FourWalls$Book" "count" "I", Cond.methodLink RX11 101 yX6_read, Cond.instanceMethod yX6_read, Cond.selects RX6 yX6_read yX6_read, Cond.initialized RX6, Cond.code yX6_read cX6_read 2 none, Cond.fieldLink RX6 12 "FourWalls$Reader" "plan" "LFourWalls$Plan;", Cond.fieldLink RX6 29 "FourWalls$Reader" "fault" "I", Cond.fieldLink RX6 18 "FourWalls$Reader" "faultAt" "I", Cond.fieldLink RX6 32 "FourWalls$Reader" "at" "I", Cond.fieldLink RX6 35 "FourWalls$Reader" "windTold" "Z", Cond.fieldLink RX6 22 "FourWalls$Reader" "text" "LFourWalls$Text;", Cond.fieldLink RX6 42 "FourWalls$Text" "length" "I"]
def wsX11_house_r2 : List Cond := [Cond.methodLink RX6 26 yX5_clear, Cond.instanceMethod yX5_clear, Cond.selects RX5 yX5_clear yX5_clear, Cond.initialized RX5, Cond.code yX5_clear cX5_clear 1 none, Cond.fieldLink RX5 30 "FourWalls$Plan" "walls" "I", Cond.fieldLink RX5 34 "FourWalls$Plan" "wind" "I", Cond.fieldLink RX5 37 "FourWalls$Plan" "sounds" "I", Cond.fieldLink RX5 40 "FourWalls$Plan" "witnesses" "I", Cond.methodLink RX6 39 yX6_skipBlanks, Cond.instanceMethod yX6_skipBlanks, Cond.selects RX6 yX6_skipBlanks yX6_skipBlanks, Cond.code yX6_skipBlanks cX6_skipBlanks 2 none, Cond.methodLink RX6 50 yX9_letterAt, Cond.instanceMethod yX9_letterAt, Cond.selects RX9 yX9_letterAt yX9_letterAt, Cond.initialized RX9, Cond.code yX9_letterAt cX9_letterAt 2 (some .int), Cond.fieldLink RX9 15 "FourWalls$Text" "length" "I", Cond.fieldLink RX9 9 "FourWalls$Text" "letters" "[I", Cond.methodLink RX6 47 yX6_readClause, Cond.instanceMethod yX6_readClause, Cond.selects RX6 yX6_readClause yX6_readClause, Cond.code yX6_readClause cX6_readClause 3 none]
def wsX11_house_r3 : List Cond := [Cond.methodLink RX6 54 yX5_stands, Cond.instanceMethod yX5_stands, Cond.selects RX5 yX5_stands yX5_stands, Cond.code yX5_stands cX5_stands 1 (some .boolean), Cond.methodLink RX6 58 yX6_fail, Cond.instanceMethod yX6_fail, Cond.selects RX6 yX6_fail yX6_fail, Cond.code yX6_fail cX6_fail 3 none, Cond.methodLink RX6 62 yX6_readWalls, Cond.instanceMethod yX6_readWalls, Cond.selects RX6 yX6_readWalls yX6_readWalls, Cond.code yX6_readWalls cX6_readWalls 3 none, Cond.methodLink RX6 75 yX6_readNumber, Cond.instanceMethod yX6_readNumber, Cond.selects RX6 yX6_readNumber yX6_readNumber, Cond.code yX6_readNumber cX6_readNumber 5 (some .int), Cond.methodLink RX6 107 Lib.Math.min.name, Cond.static Lib.Math.min.name, Cond.initialized "java/lang/Math", Cond.code Lib.Math.min.name Lib.Math.min.code 2 (some .int), Cond.methodLink RX6 103 yX6_isFigure, Cond.static yX6_isFigure, Cond.code yX6_isFigure cX6_isFigure 1 (some .boolean), Cond.methodLink RX6 78 yX5_addWall]
def wsX11_house_r4 : List Cond := [Cond.instanceMethod yX5_addWall, Cond.selects RX5 yX5_addWall yX5_addWall, Cond.code yX5_addWall cX5_addWall 2 none, Cond.fieldLink RX5 9 "FourWalls$Plan" "thickness" "[I", Cond.methodLink RX5 49 yX7_put, Cond.static yX7_put, Cond.initialized RX7, Cond.code yX7_put cX7_put 3 none, Cond.methodLink RX6 81 yX6_readEnd, Cond.instanceMethod yX6_readEnd, Cond.selects RX6 yX6_readEnd yX6_readEnd, Cond.code yX6_readEnd cX6_readEnd 1 none, Cond.methodLink RX6 66 yX6_readWind, Cond.instanceMethod yX6_readWind, Cond.selects RX6 yX6_readWind yX6_readWind, Cond.code yX6_readWind cX6_readWind 2 none, Cond.fieldLink RX6 84 "FourWalls$Plan" "wind" "I", Cond.methodLink RX6 69 yX6_readSound, Cond.instanceMethod yX6_readSound, Cond.selects RX6 yX6_readSound yX6_readSound, Cond.code yX6_readSound cX6_readSound 4 none, Cond.fieldLink RX6 87 "FourWalls$Plan" "sounds" "I", Cond.methodLink RX6 90 yX5_addSound, Cond.instanceMethod yX5_addSound]
def wsX11_house_r5 : List Cond := [Cond.selects RX5 yX5_addSound yX5_addSound, Cond.code yX5_addSound cX5_addSound 3 none, Cond.fieldLink RX5 15 "FourWalls$Plan" "loud" "[I", Cond.fieldLink RX5 18 "FourWalls$Plan" "tone" "[I", Cond.methodLink RX6 72 yX6_readWitness, Cond.instanceMethod yX6_readWitness, Cond.selects RX6 yX6_readWitness yX6_readWitness, Cond.code yX6_readWitness cX6_readWitness 5 none, Cond.fieldLink RX6 93 "FourWalls$Plan" "witnesses" "I", Cond.fieldLink RX6 96 "FourWalls$Plan" "walls" "I", Cond.methodLink RX6 99 yX5_addWitness, Cond.instanceMethod yX5_addWitness, Cond.selects RX5 yX5_addWitness yX5_addWitness, Cond.code yX5_addWitness cX5_addWitness 4 none, Cond.fieldLink RX5 21 "FourWalls$Plan" "spot" "[I", Cond.fieldLink RX5 24 "FourWalls$Plan" "ear" "[I", Cond.fieldLink RX5 27 "FourWalls$Plan" "side" "[I", Cond.methodLink RX11 108 yX5_take, Cond.instanceMethod yX5_take, Cond.selects RX5 yX5_take yX5_take, Cond.code yX5_take cX5_take 2 none, Cond.methodLink RX5 43 yX7_copy, Cond.static yX7_copy, Cond.code yX7_copy cX7_copy 6 none]
def wsX11_house_r6 : List Cond := [Cond.methodLink RX7 7 yX7_get, Cond.static yX7_get, Cond.code yX7_get cX7_get 2 (some .int), Cond.methodLink RX7 13 yX7_put, Cond.methodLink RX11 112 yX8_begin, Cond.instanceMethod yX8_begin, Cond.selects RX8 yX8_begin yX8_begin, Cond.initialized RX8, Cond.code yX8_begin cX8_begin 2 none, Cond.fieldLink RX8 32 "FourWalls$Plan" "wind" "I", Cond.fieldLink RX8 41 "FourWalls$Plan" "thickness" "[I", Cond.fieldLink RX8 11 "FourWalls$State" "row" "[I", Cond.fieldLink RX8 44 "FourWalls$Plan" "spot" "[I", Cond.methodLink RX8 15 yX8_forgetMornings, Cond.instanceMethod yX8_forgetMornings, Cond.selects RX8 yX8_forgetMornings yX8_forgetMornings, Cond.code yX8_forgetMornings cX8_forgetMornings 2 none, Cond.methodLink RX8 38 yX8_put, Cond.instanceMethod yX8_put, Cond.selects RX8 yX8_put yX8_put, Cond.code yX8_put cX8_put 3 none, Cond.methodLink RX8 24 yX7_put, Cond.methodLink RX8 28 yX7_copy, Cond.methodLink RX11 115 yX4_forget]
def wsX11_house_r7 : List Cond := [Cond.instanceMethod yX4_forget, Cond.selects RX4 yX4_forget yX4_forget, Cond.initialized RX4, Cond.code yX4_forget cX4_forget 1 none, Cond.fieldLink RX4 30 "FourWalls$Past" "count" "I", Cond.methodLink RX11 118 yX11_forgetImages, Cond.instanceMethod yX11_forgetImages, Cond.selects RX11 yX11_forgetImages yX11_forgetImages, Cond.initialized RX11, Cond.code yX11_forgetImages cX11_forgetImages 3 none, Cond.fieldLink RX11 48 "FourWalls" "images" "[LFourWalls$Image;", Cond.fieldLink RX11 288 "FourWalls$Image" "kept" "Z", Cond.methodLink RX11 278 yX11_imageAt, Cond.instanceMethod yX11_imageAt, Cond.selects RX11 yX11_imageAt yX11_imageAt, Cond.code yX11_imageAt cX11_imageAt 2 (some (.object "FourWalls$Image")), Cond.methodLink RX11 125 yX5_places, Cond.instanceMethod yX5_places, Cond.selects RX5 yX5_places yX5_places, Cond.code yX5_places cX5_places 1 (some .int)]
def wsX11_house : List Cond := .code yX11_house cX11_house 1 (some .int) :: ((wsX11_house_r1 ++ (wsX11_house_r2 ++ (wsX11_house_r3 ++ (wsX11_house_r4 ++ (wsX11_house_r5 ++ (wsX11_house_r6 ++ wsX11_house_r7)))))) ++ wsX110 ++ wsX90 ++ wsX60 ++ wsX10 ++ wsX00 ++ wsX50 ++ wsX80 ++ wsX40 ++ wsX30)
def wsX11_fault : List Cond := .code yX11_fault cX11_fault 1 (some .int) :: ([.fieldLink RX11 28 "FourWalls" "reader" "LFourWalls$Reader;", .fieldLink RX11 129 "FourWalls$Reader" "faultAt" "I"] ++ wsX110 ++ wsX60)
def wsX11_told_r1 : List Cond := [Cond.fieldLink RX11 19 "FourWalls" "plan" "LFourWalls$Plan;", Cond.fieldLink RX11 132 "FourWalls$Plan" "sounds" "I", Cond.fieldLink RX11 135 "FourWalls$Plan" "witnesses" "I", Cond.fieldLink RX11 12 "FourWalls" "text" "LFourWalls$Text;", Cond.fieldLink RX11 96 "FourWalls$Text" "length" "I", Cond.fieldLink RX11 35 "FourWalls" "state" "LFourWalls$State;", Cond.fieldLink RX11 75 "FourWalls" "claims" "LFourWalls$Claims;", Cond.fieldLink RX11 121 "FourWalls$Claims" "count" "I", Cond.fieldLink RX11 82 "FourWalls" "book" "LFourWalls$Book;", Cond.fieldLink RX11 124 "FourWalls$Book" "count" "I", Cond.fieldLink RX11 42 "FourWalls" "past" "LFourWalls$Past;", Cond.fieldLink RX11 142 "FourWalls$Past" "count" "I", Cond.constant RX11 91 (-1000000002), Cond.methodLink RX11 125 yX5_places, Cond.instanceMethod yX5_places, Cond.selects RX5 yX5_places yX5_places, Cond.initialized RX5, Cond.code yX5_places cX5_places 1 (some .int), Cond.fieldLink RX5 30 "FourWalls$Plan" "walls" "I", Cond.methodLink RX11 138 yX8_get, Cond.instanceMethod yX8_get, Cond.selects RX8 yX8_get yX8_get, Cond.initialized RX8, Cond.code yX8_get cX8_get 2 (some .int)]
def wsX11_told_r2 : List Cond := [Cond.fieldLink RX8 11 "FourWalls$State" "row" "[I", Cond.methodLink RX8 18 yX7_get, Cond.static yX7_get, Cond.initialized RX7, Cond.code yX7_get cX7_get 2 (some .int)]
def wsX11_told : List Cond := .code yX11_told cX11_told 2 (some .int) :: ((wsX11_told_r1 ++ wsX11_told_r2) ++ wsX110 ++ wsX50 ++ wsX90 ++ wsX10 ++ wsX00 ++ wsX40 ++ wsX80)
def wsX11_thick : List Cond := .code yX11_thick cX11_thick 2 (some .int) :: ([.fieldLink RX11 19 "FourWalls" "plan" "LFourWalls$Plan;", .fieldLink RX11 35 "FourWalls" "state" "LFourWalls$State;", .constant RX11 146 (-1000000001), .methodLink RX11 143 yX5_isWall, .instanceMethod yX5_isWall, .selects RX5 yX5_isWall yX5_isWall, .initialized RX5, .code yX5_isWall cX5_isWall 2 (some .boolean), .fieldLink RX5 30 "FourWalls$Plan" "walls" "I", .methodLink RX11 138 yX8_get, .instanceMethod yX8_get, .selects RX8 yX8_get yX8_get, .initialized RX8, .code yX8_get cX8_get 2 (some .int), .fieldLink RX8 11 "FourWalls$State" "row" "[I", .methodLink RX8 18 yX7_get, .static yX7_get, .initialized RX7, .code yX7_get cX7_get 2 (some .int)] ++ wsX110 ++ wsX50 ++ wsX80)
def wsX11_sound : List Cond := .code yX11_sound cX11_sound 3 (some .int) :: ([.fieldLink RX11 19 "FourWalls" "plan" "LFourWalls$Plan;", .constant RX11 146 (-1000000001), .fieldLink RX11 150 "FourWalls$Plan" "loud" "[I", .fieldLink RX11 159 "FourWalls$Plan" "tone" "[I", .constant RX11 91 (-1000000002), .methodLink RX11 147 yX5_isSound, .instanceMethod yX5_isSound, .selects RX5 yX5_isSound yX5_isSound, .initialized RX5, .code yX5_isSound cX5_isSound 2 (some .boolean), .fieldLink RX5 37 "FourWalls$Plan" "sounds" "I", .methodLink RX11 154 yX7_get, .static yX7_get, .initialized RX7, .code yX7_get cX7_get 2 (some .int)] ++ wsX110 ++ wsX50)
def wsX11_witness : List Cond := .code yX11_witness cX11_witness 3 (some .int) :: ([.fieldLink RX11 19 "FourWalls" "plan" "LFourWalls$Plan;", .constant RX11 146 (-1000000001), .fieldLink RX11 35 "FourWalls" "state" "LFourWalls$State;", .fieldLink RX11 165 "FourWalls$Plan" "ear" "[I", .fieldLink RX11 168 "FourWalls$Plan" "side" "[I", .constant RX11 91 (-1000000002), .methodLink RX11 162 yX5_isWitness, .instanceMethod yX5_isWitness, .selects RX5 yX5_isWitness yX5_isWitness, .initialized RX5, .code yX5_isWitness cX5_isWitness 2 (some .boolean), .fieldLink RX5 40 "FourWalls$Plan" "witnesses" "I", .methodLink RX11 138 yX8_get, .instanceMethod yX8_get, .selects RX8 yX8_get yX8_get, .initialized RX8, .code yX8_get cX8_get 2 (some .int), .fieldLink RX8 11 "FourWalls$State" "row" "[I", .methodLink RX8 18 yX7_get, .static yX7_get, .initialized RX7, .code yX7_get cX7_get 2 (some .int), .methodLink RX11 154 yX7_get] ++ wsX110 ++ wsX50 ++ wsX80)
def wsX11_isFullOfMornings : List Cond := .code yX11_isFullOfMornings cX11_isFullOfMornings 1 (some .boolean) :: ([.fieldLink RX11 35 "FourWalls" "state" "LFourWalls$State;", .methodLink RX11 138 yX8_get, .instanceMethod yX8_get, .selects RX8 yX8_get yX8_get, .initialized RX8, .code yX8_get cX8_get 2 (some .int), .fieldLink RX8 11 "FourWalls$State" "row" "[I", .methodLink RX8 18 yX7_get, .static yX7_get, .initialized RX7, .code yX7_get cX7_get 2 (some .int)] ++ wsX110 ++ wsX80)
def wsX11_swear_r1 : List Cond := [Cond.fieldLink RX11 35 "FourWalls" "state" "LFourWalls$State;", Cond.fieldLink RX11 57 "FourWalls" "hearing" "LFourWalls$Hearing;", Cond.fieldLink RX11 19 "FourWalls" "plan" "LFourWalls$Plan;", Cond.fieldLink RX11 135 "FourWalls$Plan" "witnesses" "I", Cond.methodLink RX11 138 yX8_get, Cond.instanceMethod yX8_get, Cond.selects RX8 yX8_get yX8_get, Cond.initialized RX8, Cond.code yX8_get cX8_get 2 (some .int), Cond.fieldLink RX8 11 "FourWalls$State" "row" "[I", Cond.methodLink RX8 18 yX7_get, Cond.static yX7_get, Cond.initialized RX7, Cond.code yX7_get cX7_get 2 (some .int), Cond.methodLink RX11 197 yX8_put, Cond.instanceMethod yX8_put, Cond.selects RX8 yX8_put yX8_put, Cond.code yX8_put cX8_put 3 none, Cond.methodLink RX8 24 yX7_put, Cond.static yX7_put, Cond.code yX7_put cX7_put 3 none, Cond.methodLink RX11 292 yX2_hearers, Cond.instanceMethod yX2_hearers, Cond.selects RX2 yX2_hearers yX2_hearers]
def wsX11_swear_r2 : List Cond := [Cond.initialized RX2, Cond.code yX2_hearers cX2_hearers 6 (some .int), Cond.fieldLink RX2 9 "FourWalls$Hearing" "plan" "LFourWalls$Plan;", Cond.fieldLink RX2 52 "FourWalls$Plan" "witnesses" "I", Cond.methodLink RX2 56 yX2_margin, Cond.instanceMethod yX2_margin, Cond.selects RX2 yX2_margin yX2_margin, Cond.code yX2_margin cX2_margin 4 (some .int), Cond.fieldLink RX2 15 "FourWalls$Hearing" "state" "LFourWalls$State;", Cond.fieldLink RX2 40 "FourWalls$State" "row" "[I", Cond.fieldLink RX2 49 "FourWalls$Plan" "ear" "[I", Cond.methodLink RX2 34 yX7_get, Cond.methodLink RX2 45 yX2_loudness, Cond.instanceMethod yX2_loudness, Cond.selects RX2 yX2_loudness yX2_loudness, Cond.code yX2_loudness cX2_loudness 8 (some .int), Cond.methodLink RX2 19 Lib.Math.min.name, Cond.static Lib.Math.min.name, Cond.initialized "java/lang/Math", Cond.code Lib.Math.min.name Lib.Math.min.code 2 (some .int), Cond.methodLink RX2 25 Lib.Math.max.name, Cond.static Lib.Math.max.name, Cond.code Lib.Math.max.name Lib.Math.max.code 2 (some .int), Cond.fieldLink RX2 28 "FourWalls$Plan" "loud" "[I"]
def wsX11_swear_r3 : List Cond := [Cond.methodLink RX11 208 yX2_saying, Cond.instanceMethod yX2_saying, Cond.selects RX2 yX2_saying yX2_saying, Cond.code yX2_saying cX2_saying 6 (some .int), Cond.fieldLink RX2 59 "FourWalls$Plan" "side" "[I", Cond.fieldLink RX2 62 "FourWalls$Plan" "sounds" "I", Cond.fieldLink RX2 65 "FourWalls$Plan" "tone" "[I"]
def wsX11_swear : List Cond := .code yX11_swear cX11_swear 4 none :: ((wsX11_swear_r1 ++ (wsX11_swear_r2 ++ wsX11_swear_r3)) ++ wsX110 ++ wsX50 ++ wsX80 ++ wsX20)
def wsX11_morning_r1 : List Cond := [Cond.fieldLink RX11 19 "FourWalls" "plan" "LFourWalls$Plan;", Cond.constant RX11 146 (-1000000001), Cond.constant RX11 100 (-1000000004), Cond.fieldLink RX11 42 "FourWalls" "past" "LFourWalls$Past;", Cond.fieldLink RX11 35 "FourWalls" "state" "LFourWalls$State;", Cond.methodLink RX11 147 yX5_isSound, Cond.instanceMethod yX5_isSound, Cond.selects RX5 yX5_isSound yX5_isSound, Cond.initialized RX5, Cond.code yX5_isSound cX5_isSound 2 (some .boolean), Cond.fieldLink RX5 37 "FourWalls$Plan" "sounds" "I", Cond.methodLink RX11 171 yX5_isPlace, Cond.instanceMethod yX5_isPlace, Cond.selects RX5 yX5_isPlace yX5_isPlace, Cond.code yX5_isPlace cX5_isPlace 2 (some .boolean), Cond.methodLink RX5 53 yX5_places, Cond.instanceMethod yX5_places, Cond.selects RX5 yX5_places yX5_places, Cond.code yX5_places cX5_places 1 (some .int), Cond.fieldLink RX5 30 "FourWalls$Plan" "walls" "I", Cond.methodLink RX11 174 yX11_isFullOfMornings, Cond.instanceMethod yX11_isFullOfMornings, Cond.selects RX11 yX11_isFullOfMornings yX11_isFullOfMornings, Cond.initialized RX11]
def wsX11_morning_r2 : List Cond := [Cond.code yX11_isFullOfMornings cX11_isFullOfMornings 1 (some .boolean), Cond.methodLink RX11 138 yX8_get, Cond.instanceMethod yX8_get, Cond.selects RX8 yX8_get yX8_get, Cond.initialized RX8, Cond.code yX8_get cX8_get 2 (some .int), Cond.fieldLink RX8 11 "FourWalls$State" "row" "[I", Cond.methodLink RX8 18 yX7_get, Cond.static yX7_get, Cond.initialized RX7, Cond.code yX7_get cX7_get 2 (some .int), Cond.methodLink RX11 178 yX4_push, Cond.instanceMethod yX4_push, Cond.selects RX4 yX4_push yX4_push, Cond.initialized RX4, Cond.code yX4_push cX4_push 2 none, Cond.fieldLink RX4 17 "FourWalls$State" "row" "[I", Cond.fieldLink RX4 11 "FourWalls$Past" "rows" "[I", Cond.fieldLink RX4 20 "FourWalls$Past" "next" "I", Cond.fieldLink RX4 30 "FourWalls$Past" "count" "I", Cond.methodLink RX4 33 Lib.Math.min.name, Cond.static Lib.Math.min.name, Cond.initialized "java/lang/Math", Cond.code Lib.Math.min.name Lib.Math.min.code 2 (some .int)]
def wsX11_morning_r3 : List Cond := [Cond.methodLink RX4 24 yX7_copy, Cond.static yX7_copy, Cond.code yX7_copy cX7_copy 6 none, Cond.methodLink RX7 7 yX7_get, Cond.methodLink RX7 13 yX7_put, Cond.static yX7_put, Cond.code yX7_put cX7_put 3 none, Cond.methodLink RX11 182 yX11_swear, Cond.instanceMethod yX11_swear, Cond.selects RX11 yX11_swear yX11_swear, Cond.code yX11_swear cX11_swear 4 none, Cond.fieldLink RX11 57 "FourWalls" "hearing" "LFourWalls$Hearing;", Cond.fieldLink RX11 135 "FourWalls$Plan" "witnesses" "I", Cond.methodLink RX11 197 yX8_put, Cond.instanceMethod yX8_put, Cond.selects RX8 yX8_put yX8_put, Cond.code yX8_put cX8_put 3 none, Cond.methodLink RX8 24 yX7_put, Cond.methodLink RX11 292 yX2_hearers, Cond.instanceMethod yX2_hearers, Cond.selects RX2 yX2_hearers yX2_hearers, Cond.initialized RX2, Cond.code yX2_hearers cX2_hearers 6 (some .int), Cond.fieldLink RX2 9 "FourWalls$Hearing" "plan" "LFourWalls$Plan;"]
def wsX11_morning_r4 : List Cond := [Cond.fieldLink RX2 52 "FourWalls$Plan" "witnesses" "I", Cond.methodLink RX2 56 yX2_margin, Cond.instanceMethod yX2_margin, Cond.selects RX2 yX2_margin yX2_margin, Cond.code yX2_margin cX2_margin 4 (some .int), Cond.fieldLink RX2 15 "FourWalls$Hearing" "state" "LFourWalls$State;", Cond.fieldLink RX2 40 "FourWalls$State" "row" "[I", Cond.fieldLink RX2 49 "FourWalls$Plan" "ear" "[I", Cond.methodLink RX2 34 yX7_get, Cond.methodLink RX2 45 yX2_loudness, Cond.instanceMethod yX2_loudness, Cond.selects RX2 yX2_loudness yX2_loudness, Cond.code yX2_loudness cX2_loudness 8 (some .int), Cond.methodLink RX2 19 Lib.Math.min.name, Cond.methodLink RX2 25 Lib.Math.max.name, Cond.static Lib.Math.max.name, Cond.code Lib.Math.max.name Lib.Math.max.code 2 (some .int), Cond.fieldLink RX2 28 "FourWalls$Plan" "loud" "[I", Cond.methodLink RX11 208 yX2_saying, Cond.instanceMethod yX2_saying, Cond.selects RX2 yX2_saying yX2_saying, Cond.code yX2_saying cX2_saying 6 (some .int), Cond.fieldLink RX2 59 "FourWalls$Plan" "side" "[I", Cond.fieldLink RX2 62 "FourWalls$Plan" "sounds" "I"]
def wsX11_morning_r5 : List Cond := [Cond.fieldLink RX2 65 "FourWalls$Plan" "tone" "[I"]
def wsX11_morning : List Cond := .code yX11_morning cX11_morning 3 (some .int) :: ((wsX11_morning_r1 ++ (wsX11_morning_r2 ++ (wsX11_morning_r3 ++ (wsX11_morning_r4 ++ wsX11_morning_r5)))) ++ wsX110 ++ wsX50 ++ wsX80 ++ wsX40 ++ wsX20)
def wsX11_change_r1 : List Cond := [Cond.fieldLink RX11 35 "FourWalls" "state" "LFourWalls$State;", Cond.fieldLink RX11 42 "FourWalls" "past" "LFourWalls$Past;", Cond.methodLink RX11 138 yX8_get, Cond.instanceMethod yX8_get, Cond.selects RX8 yX8_get yX8_get, Cond.initialized RX8, Cond.code yX8_get cX8_get 2 (some .int), Cond.fieldLink RX8 11 "FourWalls$State" "row" "[I", Cond.methodLink RX8 18 yX7_get, Cond.static yX7_get, Cond.initialized RX7, Cond.code yX7_get cX7_get 2 (some .int), Cond.methodLink RX11 178 yX4_push, Cond.instanceMethod yX4_push, Cond.selects RX4 yX4_push yX4_push, Cond.initialized RX4, Cond.code yX4_push cX4_push 2 none, Cond.fieldLink RX4 17 "FourWalls$State" "row" "[I", Cond.fieldLink RX4 11 "FourWalls$Past" "rows" "[I", Cond.fieldLink RX4 20 "FourWalls$Past" "next" "I", Cond.fieldLink RX4 30 "FourWalls$Past" "count" "I", Cond.methodLink RX4 33 Lib.Math.min.name, Cond.static Lib.Math.min.name, Cond.initialized "java/lang/Math"]
def wsX11_change_r2 : List Cond := [Cond.code Lib.Math.min.name Lib.Math.min.code 2 (some .int), Cond.methodLink RX4 24 yX7_copy, Cond.static yX7_copy, Cond.code yX7_copy cX7_copy 6 none, Cond.methodLink RX7 7 yX7_get, Cond.methodLink RX7 13 yX7_put, Cond.static yX7_put, Cond.code yX7_put cX7_put 3 none, Cond.methodLink RX11 197 yX8_put, Cond.instanceMethod yX8_put, Cond.selects RX8 yX8_put yX8_put, Cond.code yX8_put cX8_put 3 none, Cond.methodLink RX8 24 yX7_put]
def wsX11_change : List Cond := .code yX11_change cX11_change 4 (some .int) :: ((wsX11_change_r1 ++ wsX11_change_r2) ++ wsX110 ++ wsX80 ++ wsX40)
def wsX11_move_r1 : List Cond := [Cond.fieldLink RX11 19 "FourWalls" "plan" "LFourWalls$Plan;", Cond.constant RX11 146 (-1000000001), Cond.methodLink RX11 162 yX5_isWitness, Cond.instanceMethod yX5_isWitness, Cond.selects RX5 yX5_isWitness yX5_isWitness, Cond.initialized RX5, Cond.code yX5_isWitness cX5_isWitness 2 (some .boolean), Cond.fieldLink RX5 40 "FourWalls$Plan" "witnesses" "I", Cond.methodLink RX11 171 yX5_isPlace, Cond.instanceMethod yX5_isPlace, Cond.selects RX5 yX5_isPlace yX5_isPlace, Cond.code yX5_isPlace cX5_isPlace 2 (some .boolean), Cond.methodLink RX5 53 yX5_places, Cond.instanceMethod yX5_places, Cond.selects RX5 yX5_places yX5_places, Cond.code yX5_places cX5_places 1 (some .int), Cond.fieldLink RX5 30 "FourWalls$Plan" "walls" "I", Cond.methodLink RX11 186 yX11_change, Cond.instanceMethod yX11_change, Cond.selects RX11 yX11_change yX11_change, Cond.initialized RX11, Cond.code yX11_change cX11_change 4 (some .int), Cond.fieldLink RX11 35 "FourWalls" "state" "LFourWalls$State;", Cond.fieldLink RX11 42 "FourWalls" "past" "LFourWalls$Past;"]
def wsX11_move_r2 : List Cond := [Cond.methodLink RX11 138 yX8_get, Cond.instanceMethod yX8_get, Cond.selects RX8 yX8_get yX8_get, Cond.initialized RX8, Cond.code yX8_get cX8_get 2 (some .int), Cond.fieldLink RX8 11 "FourWalls$State" "row" "[I", Cond.methodLink RX8 18 yX7_get, Cond.static yX7_get, Cond.initialized RX7, Cond.code yX7_get cX7_get 2 (some .int), Cond.methodLink RX11 178 yX4_push, Cond.instanceMethod yX4_push, Cond.selects RX4 yX4_push yX4_push, Cond.initialized RX4, Cond.code yX4_push cX4_push 2 none, Cond.fieldLink RX4 17 "FourWalls$State" "row" "[I", Cond.fieldLink RX4 11 "FourWalls$Past" "rows" "[I", Cond.fieldLink RX4 20 "FourWalls$Past" "next" "I", Cond.fieldLink RX4 30 "FourWalls$Past" "count" "I", Cond.methodLink RX4 33 Lib.Math.min.name, Cond.static Lib.Math.min.name, Cond.initialized "java/lang/Math", Cond.code Lib.Math.min.name Lib.Math.min.code 2 (some .int), Cond.methodLink RX4 24 yX7_copy]
def wsX11_move_r3 : List Cond := [Cond.static yX7_copy, Cond.code yX7_copy cX7_copy 6 none, Cond.methodLink RX7 7 yX7_get, Cond.methodLink RX7 13 yX7_put, Cond.static yX7_put, Cond.code yX7_put cX7_put 3 none, Cond.methodLink RX11 197 yX8_put, Cond.instanceMethod yX8_put, Cond.selects RX8 yX8_put yX8_put, Cond.code yX8_put cX8_put 3 none, Cond.methodLink RX8 24 yX7_put]
def wsX11_move : List Cond := .code yX11_move cX11_move 3 (some .int) :: ((wsX11_move_r1 ++ (wsX11_move_r2 ++ wsX11_move_r3)) ++ wsX110 ++ wsX50 ++ wsX80 ++ wsX40)
def wsX11_wall_r1 : List Cond := [Cond.fieldLink RX11 19 "FourWalls" "plan" "LFourWalls$Plan;", Cond.constant RX11 146 (-1000000001), Cond.constant RX11 91 (-1000000002), Cond.methodLink RX11 143 yX5_isWall, Cond.instanceMethod yX5_isWall, Cond.selects RX5 yX5_isWall yX5_isWall, Cond.initialized RX5, Cond.code yX5_isWall cX5_isWall 2 (some .boolean), Cond.fieldLink RX5 30 "FourWalls$Plan" "walls" "I", Cond.methodLink RX11 87 yX11_isOutside, Cond.static yX11_isOutside, Cond.initialized RX11, Cond.code yX11_isOutside cX11_isOutside 2 (some .boolean), Cond.methodLink RX11 186 yX11_change, Cond.instanceMethod yX11_change, Cond.selects RX11 yX11_change yX11_change, Cond.code yX11_change cX11_change 4 (some .int), Cond.fieldLink RX11 35 "FourWalls" "state" "LFourWalls$State;", Cond.fieldLink RX11 42 "FourWalls" "past" "LFourWalls$Past;", Cond.methodLink RX11 138 yX8_get, Cond.instanceMethod yX8_get, Cond.selects RX8 yX8_get yX8_get, Cond.initialized RX8, Cond.code yX8_get cX8_get 2 (some .int)]
def wsX11_wall_r2 : List Cond := [Cond.fieldLink RX8 11 "FourWalls$State" "row" "[I", Cond.methodLink RX8 18 yX7_get, Cond.static yX7_get, Cond.initialized RX7, Cond.code yX7_get cX7_get 2 (some .int), Cond.methodLink RX11 178 yX4_push, Cond.instanceMethod yX4_push, Cond.selects RX4 yX4_push yX4_push, Cond.initialized RX4, Cond.code yX4_push cX4_push 2 none, Cond.fieldLink RX4 17 "FourWalls$State" "row" "[I", Cond.fieldLink RX4 11 "FourWalls$Past" "rows" "[I", Cond.fieldLink RX4 20 "FourWalls$Past" "next" "I", Cond.fieldLink RX4 30 "FourWalls$Past" "count" "I", Cond.methodLink RX4 33 Lib.Math.min.name, Cond.static Lib.Math.min.name, Cond.initialized "java/lang/Math", Cond.code Lib.Math.min.name Lib.Math.min.code 2 (some .int), Cond.methodLink RX4 24 yX7_copy, Cond.static yX7_copy, Cond.code yX7_copy cX7_copy 6 none, Cond.methodLink RX7 7 yX7_get, Cond.methodLink RX7 13 yX7_put, Cond.static yX7_put]
def wsX11_wall_r3 : List Cond := [Cond.code yX7_put cX7_put 3 none, Cond.methodLink RX11 197 yX8_put, Cond.instanceMethod yX8_put, Cond.selects RX8 yX8_put yX8_put, Cond.code yX8_put cX8_put 3 none, Cond.methodLink RX8 24 yX7_put]
def wsX11_wall : List Cond := .code yX11_wall cX11_wall 3 (some .int) :: ((wsX11_wall_r1 ++ (wsX11_wall_r2 ++ wsX11_wall_r3)) ++ wsX110 ++ wsX50 ++ wsX80 ++ wsX40)
def wsX11_wind_r1 : List Cond := [Cond.constant RX11 91 (-1000000002), Cond.fieldLink RX11 19 "FourWalls" "plan" "LFourWalls$Plan;", Cond.constant RX11 193 (-1000000003), Cond.methodLink RX11 87 yX11_isOutside, Cond.static yX11_isOutside, Cond.initialized RX11, Cond.code yX11_isOutside cX11_isOutside 2 (some .boolean), Cond.methodLink RX11 190 yX5_stands, Cond.instanceMethod yX5_stands, Cond.selects RX5 yX5_stands yX5_stands, Cond.initialized RX5, Cond.code yX5_stands cX5_stands 1 (some .boolean), Cond.fieldLink RX5 30 "FourWalls$Plan" "walls" "I", Cond.methodLink RX11 186 yX11_change, Cond.instanceMethod yX11_change, Cond.selects RX11 yX11_change yX11_change, Cond.code yX11_change cX11_change 4 (some .int), Cond.fieldLink RX11 35 "FourWalls" "state" "LFourWalls$State;", Cond.fieldLink RX11 42 "FourWalls" "past" "LFourWalls$Past;", Cond.methodLink RX11 138 yX8_get, Cond.instanceMethod yX8_get, Cond.selects RX8 yX8_get yX8_get, Cond.initialized RX8, Cond.code yX8_get cX8_get 2 (some .int)]
def wsX11_wind_r2 : List Cond := [Cond.fieldLink RX8 11 "FourWalls$State" "row" "[I", Cond.methodLink RX8 18 yX7_get, Cond.static yX7_get, Cond.initialized RX7, Cond.code yX7_get cX7_get 2 (some .int), Cond.methodLink RX11 178 yX4_push, Cond.instanceMethod yX4_push, Cond.selects RX4 yX4_push yX4_push, Cond.initialized RX4, Cond.code yX4_push cX4_push 2 none, Cond.fieldLink RX4 17 "FourWalls$State" "row" "[I", Cond.fieldLink RX4 11 "FourWalls$Past" "rows" "[I", Cond.fieldLink RX4 20 "FourWalls$Past" "next" "I", Cond.fieldLink RX4 30 "FourWalls$Past" "count" "I", Cond.methodLink RX4 33 Lib.Math.min.name, Cond.static Lib.Math.min.name, Cond.initialized "java/lang/Math", Cond.code Lib.Math.min.name Lib.Math.min.code 2 (some .int), Cond.methodLink RX4 24 yX7_copy, Cond.static yX7_copy, Cond.code yX7_copy cX7_copy 6 none, Cond.methodLink RX7 7 yX7_get, Cond.methodLink RX7 13 yX7_put, Cond.static yX7_put]
def wsX11_wind_r3 : List Cond := [Cond.code yX7_put cX7_put 3 none, Cond.methodLink RX11 197 yX8_put, Cond.instanceMethod yX8_put, Cond.selects RX8 yX8_put yX8_put, Cond.code yX8_put cX8_put 3 none, Cond.methodLink RX8 24 yX7_put]
def wsX11_wind : List Cond := .code yX11_wind cX11_wind 2 (some .int) :: ((wsX11_wind_r1 ++ (wsX11_wind_r2 ++ wsX11_wind_r3)) ++ wsX110 ++ wsX50 ++ wsX80 ++ wsX40)
def wsX11_draw : List Cond := .code yX11_draw cX11_draw 2 (some .int) :: ([.fieldLink RX11 275 "FourWalls" "theSeed" "I", .constantLong RX11 295 (1103515245), .constantLong RX11 297 (12345), .constantLong RX11 299 (2147483648), .constant RX11 301 (65536)] ++ wsX110)
def wsX11_drift_r1 : List Cond := [Cond.constant RX11 91 (-1000000002), Cond.fieldLink RX11 19 "FourWalls" "plan" "LFourWalls$Plan;", Cond.constant RX11 193 (-1000000003), Cond.constant RX11 100 (-1000000004), Cond.fieldLink RX11 42 "FourWalls" "past" "LFourWalls$Past;", Cond.fieldLink RX11 35 "FourWalls" "state" "LFourWalls$State;", Cond.fieldLink RX11 132 "FourWalls$Plan" "sounds" "I", Cond.methodLink RX11 190 yX5_stands, Cond.instanceMethod yX5_stands, Cond.selects RX5 yX5_stands yX5_stands, Cond.initialized RX5, Cond.code yX5_stands cX5_stands 1 (some .boolean), Cond.fieldLink RX5 30 "FourWalls$Plan" "walls" "I", Cond.methodLink RX11 174 yX11_isFullOfMornings, Cond.instanceMethod yX11_isFullOfMornings, Cond.selects RX11 yX11_isFullOfMornings yX11_isFullOfMornings, Cond.initialized RX11, Cond.code yX11_isFullOfMornings cX11_isFullOfMornings 1 (some .boolean), Cond.methodLink RX11 138 yX8_get, Cond.instanceMethod yX8_get, Cond.selects RX8 yX8_get yX8_get, Cond.initialized RX8, Cond.code yX8_get cX8_get 2 (some .int), Cond.fieldLink RX8 11 "FourWalls$State" "row" "[I"]
def wsX11_drift_r2 : List Cond := [Cond.methodLink RX8 18 yX7_get, Cond.static yX7_get, Cond.initialized RX7, Cond.code yX7_get cX7_get 2 (some .int), Cond.methodLink RX11 178 yX4_push, Cond.instanceMethod yX4_push, Cond.selects RX4 yX4_push yX4_push, Cond.initialized RX4, Cond.code yX4_push cX4_push 2 none, Cond.fieldLink RX4 17 "FourWalls$State" "row" "[I", Cond.fieldLink RX4 11 "FourWalls$Past" "rows" "[I", Cond.fieldLink RX4 20 "FourWalls$Past" "next" "I", Cond.fieldLink RX4 30 "FourWalls$Past" "count" "I", Cond.methodLink RX4 33 Lib.Math.min.name, Cond.static Lib.Math.min.name, Cond.initialized "java/lang/Math", Cond.code Lib.Math.min.name Lib.Math.min.code 2 (some .int), Cond.methodLink RX4 24 yX7_copy, Cond.static yX7_copy, Cond.code yX7_copy cX7_copy 6 none, Cond.methodLink RX7 7 yX7_get, Cond.methodLink RX7 13 yX7_put, Cond.static yX7_put, Cond.code yX7_put cX7_put 3 none]
def wsX11_drift_r3 : List Cond := [Cond.methodLink RX11 194 yX11_draw, Cond.instanceMethod yX11_draw, Cond.selects RX11 yX11_draw yX11_draw, Cond.code yX11_draw cX11_draw 2 (some .int), Cond.fieldLink RX11 275 "FourWalls" "theSeed" "I", Cond.constantLong RX11 295 (1103515245), Cond.constantLong RX11 297 (12345), Cond.constantLong RX11 299 (2147483648), Cond.constant RX11 301 (65536), Cond.methodLink RX11 125 yX5_places, Cond.instanceMethod yX5_places, Cond.selects RX5 yX5_places yX5_places, Cond.code yX5_places cX5_places 1 (some .int), Cond.methodLink RX11 182 yX11_swear, Cond.instanceMethod yX11_swear, Cond.selects RX11 yX11_swear yX11_swear, Cond.code yX11_swear cX11_swear 4 none, Cond.fieldLink RX11 57 "FourWalls" "hearing" "LFourWalls$Hearing;", Cond.fieldLink RX11 135 "FourWalls$Plan" "witnesses" "I", Cond.methodLink RX11 197 yX8_put, Cond.instanceMethod yX8_put, Cond.selects RX8 yX8_put yX8_put, Cond.code yX8_put cX8_put 3 none, Cond.methodLink RX8 24 yX7_put]
def wsX11_drift_r4 : List Cond := [Cond.methodLink RX11 292 yX2_hearers, Cond.instanceMethod yX2_hearers, Cond.selects RX2 yX2_hearers yX2_hearers, Cond.initialized RX2, Cond.code yX2_hearers cX2_hearers 6 (some .int), Cond.fieldLink RX2 9 "FourWalls$Hearing" "plan" "LFourWalls$Plan;", Cond.fieldLink RX2 52 "FourWalls$Plan" "witnesses" "I", Cond.methodLink RX2 56 yX2_margin, Cond.instanceMethod yX2_margin, Cond.selects RX2 yX2_margin yX2_margin, Cond.code yX2_margin cX2_margin 4 (some .int), Cond.fieldLink RX2 15 "FourWalls$Hearing" "state" "LFourWalls$State;", Cond.fieldLink RX2 40 "FourWalls$State" "row" "[I", Cond.fieldLink RX2 49 "FourWalls$Plan" "ear" "[I", Cond.methodLink RX2 34 yX7_get, Cond.methodLink RX2 45 yX2_loudness, Cond.instanceMethod yX2_loudness, Cond.selects RX2 yX2_loudness yX2_loudness, Cond.code yX2_loudness cX2_loudness 8 (some .int), Cond.methodLink RX2 19 Lib.Math.min.name, Cond.methodLink RX2 25 Lib.Math.max.name, Cond.static Lib.Math.max.name, Cond.code Lib.Math.max.name Lib.Math.max.code 2 (some .int), Cond.fieldLink RX2 28 "FourWalls$Plan" "loud" "[I"]
def wsX11_drift_r5 : List Cond := [Cond.methodLink RX11 208 yX2_saying, Cond.instanceMethod yX2_saying, Cond.selects RX2 yX2_saying yX2_saying, Cond.code yX2_saying cX2_saying 6 (some .int), Cond.fieldLink RX2 59 "FourWalls$Plan" "side" "[I", Cond.fieldLink RX2 62 "FourWalls$Plan" "sounds" "I", Cond.fieldLink RX2 65 "FourWalls$Plan" "tone" "[I"]
def wsX11_drift : List Cond := .code yX11_drift cX11_drift 5 (some .int) :: ((wsX11_drift_r1 ++ (wsX11_drift_r2 ++ (wsX11_drift_r3 ++ (wsX11_drift_r4 ++ wsX11_drift_r5)))) ++ wsX110 ++ wsX50 ++ wsX80 ++ wsX40 ++ wsX20)
def wsX11_undo : List Cond := .code yX11_undo cX11_undo 1 (some .int) :: ([.fieldLink RX11 42 "FourWalls" "past" "LFourWalls$Past;", .fieldLink RX11 35 "FourWalls" "state" "LFourWalls$State;", .fieldLink RX11 142 "FourWalls$Past" "count" "I", .constant RX11 193 (-1000000003), .methodLink RX11 200 yX4_pop, .instanceMethod yX4_pop, .selects RX4 yX4_pop yX4_pop, .initialized RX4, .code yX4_pop cX4_pop 2 (some .boolean), .fieldLink RX4 30 "FourWalls$Past" "count" "I", .fieldLink RX4 20 "FourWalls$Past" "next" "I", .fieldLink RX4 11 "FourWalls$Past" "rows" "[I", .fieldLink RX4 17 "FourWalls$State" "row" "[I", .methodLink RX4 24 yX7_copy, .static yX7_copy, .initialized RX7, .code yX7_copy cX7_copy 6 none, .methodLink RX7 7 yX7_get, .static yX7_get, .code yX7_get cX7_get 2 (some .int), .methodLink RX7 13 yX7_put, .static yX7_put, .code yX7_put cX7_put 3 none] ++ wsX110 ++ wsX40 ++ wsX80)
def wsX11_comes_r1 : List Cond := [Cond.fieldLink RX11 19 "FourWalls" "plan" "LFourWalls$Plan;", Cond.constant RX11 146 (-1000000001), Cond.fieldLink RX11 57 "FourWalls" "hearing" "LFourWalls$Hearing;", Cond.methodLink RX11 147 yX5_isSound, Cond.instanceMethod yX5_isSound, Cond.selects RX5 yX5_isSound yX5_isSound, Cond.initialized RX5, Cond.code yX5_isSound cX5_isSound 2 (some .boolean), Cond.fieldLink RX5 37 "FourWalls$Plan" "sounds" "I", Cond.methodLink RX11 171 yX5_isPlace, Cond.instanceMethod yX5_isPlace, Cond.selects RX5 yX5_isPlace yX5_isPlace, Cond.code yX5_isPlace cX5_isPlace 2 (some .boolean), Cond.methodLink RX5 53 yX5_places, Cond.instanceMethod yX5_places, Cond.selects RX5 yX5_places yX5_places, Cond.code yX5_places cX5_places 1 (some .int), Cond.fieldLink RX5 30 "FourWalls$Plan" "walls" "I", Cond.methodLink RX11 204 yX2_loudness, Cond.instanceMethod yX2_loudness, Cond.selects RX2 yX2_loudness yX2_loudness, Cond.initialized RX2, Cond.code yX2_loudness cX2_loudness 8 (some .int), Cond.methodLink RX2 19 Lib.Math.min.name]
def wsX11_comes_r2 : List Cond := [Cond.static Lib.Math.min.name, Cond.initialized "java/lang/Math", Cond.code Lib.Math.min.name Lib.Math.min.code 2 (some .int), Cond.methodLink RX2 25 Lib.Math.max.name, Cond.static Lib.Math.max.name, Cond.code Lib.Math.max.name Lib.Math.max.code 2 (some .int), Cond.fieldLink RX2 9 "FourWalls$Hearing" "plan" "LFourWalls$Plan;", Cond.fieldLink RX2 28 "FourWalls$Plan" "loud" "[I", Cond.fieldLink RX2 15 "FourWalls$Hearing" "state" "LFourWalls$State;", Cond.fieldLink RX2 40 "FourWalls$State" "row" "[I", Cond.methodLink RX2 34 yX7_get, Cond.static yX7_get, Cond.initialized RX7, Cond.code yX7_get cX7_get 2 (some .int)]
def wsX11_comes : List Cond := .code yX11_comes cX11_comes 4 (some .int) :: ((wsX11_comes_r1 ++ wsX11_comes_r2) ++ wsX110 ++ wsX50 ++ wsX20 ++ wsX80)
def wsX11_says_r1 : List Cond := [Cond.fieldLink RX11 19 "FourWalls" "plan" "LFourWalls$Plan;", Cond.constant RX11 146 (-1000000001), Cond.fieldLink RX11 57 "FourWalls" "hearing" "LFourWalls$Hearing;", Cond.methodLink RX11 162 yX5_isWitness, Cond.instanceMethod yX5_isWitness, Cond.selects RX5 yX5_isWitness yX5_isWitness, Cond.initialized RX5, Cond.code yX5_isWitness cX5_isWitness 2 (some .boolean), Cond.fieldLink RX5 40 "FourWalls$Plan" "witnesses" "I", Cond.methodLink RX11 147 yX5_isSound, Cond.instanceMethod yX5_isSound, Cond.selects RX5 yX5_isSound yX5_isSound, Cond.code yX5_isSound cX5_isSound 2 (some .boolean), Cond.fieldLink RX5 37 "FourWalls$Plan" "sounds" "I", Cond.methodLink RX11 171 yX5_isPlace, Cond.instanceMethod yX5_isPlace, Cond.selects RX5 yX5_isPlace yX5_isPlace, Cond.code yX5_isPlace cX5_isPlace 2 (some .boolean), Cond.methodLink RX5 53 yX5_places, Cond.instanceMethod yX5_places, Cond.selects RX5 yX5_places yX5_places, Cond.code yX5_places cX5_places 1 (some .int), Cond.fieldLink RX5 30 "FourWalls$Plan" "walls" "I", Cond.methodLink RX11 208 yX2_saying]
def wsX11_says_r2 : List Cond := [Cond.instanceMethod yX2_saying, Cond.selects RX2 yX2_saying yX2_saying, Cond.initialized RX2, Cond.code yX2_saying cX2_saying 6 (some .int), Cond.fieldLink RX2 9 "FourWalls$Hearing" "plan" "LFourWalls$Plan;", Cond.fieldLink RX2 59 "FourWalls$Plan" "side" "[I", Cond.fieldLink RX2 62 "FourWalls$Plan" "sounds" "I", Cond.fieldLink RX2 65 "FourWalls$Plan" "tone" "[I", Cond.methodLink RX2 34 yX7_get, Cond.static yX7_get, Cond.initialized RX7, Cond.code yX7_get cX7_get 2 (some .int), Cond.methodLink RX2 56 yX2_margin, Cond.instanceMethod yX2_margin, Cond.selects RX2 yX2_margin yX2_margin, Cond.code yX2_margin cX2_margin 4 (some .int), Cond.fieldLink RX2 15 "FourWalls$Hearing" "state" "LFourWalls$State;", Cond.fieldLink RX2 40 "FourWalls$State" "row" "[I", Cond.fieldLink RX2 49 "FourWalls$Plan" "ear" "[I", Cond.methodLink RX2 45 yX2_loudness, Cond.instanceMethod yX2_loudness, Cond.selects RX2 yX2_loudness yX2_loudness, Cond.code yX2_loudness cX2_loudness 8 (some .int), Cond.methodLink RX2 19 Lib.Math.min.name]
def wsX11_says_r3 : List Cond := [Cond.static Lib.Math.min.name, Cond.initialized "java/lang/Math", Cond.code Lib.Math.min.name Lib.Math.min.code 2 (some .int), Cond.methodLink RX2 25 Lib.Math.max.name, Cond.static Lib.Math.max.name, Cond.code Lib.Math.max.name Lib.Math.max.code 2 (some .int), Cond.fieldLink RX2 28 "FourWalls$Plan" "loud" "[I"]
def wsX11_says : List Cond := .code yX11_says cX11_says 4 (some .int) :: ((wsX11_says_r1 ++ (wsX11_says_r2 ++ wsX11_says_r3)) ++ wsX110 ++ wsX50 ++ wsX20 ++ wsX80)
def wsX11_listen_r1 : List Cond := [Cond.fieldLink RX11 19 "FourWalls" "plan" "LFourWalls$Plan;", Cond.constant RX11 146 (-1000000001), Cond.constant RX11 91 (-1000000002), Cond.fieldLink RX11 66 "FourWalls" "trial" "LFourWalls$Trial;", Cond.methodLink RX11 147 yX5_isSound, Cond.instanceMethod yX5_isSound, Cond.selects RX5 yX5_isSound yX5_isSound, Cond.initialized RX5, Cond.code yX5_isSound cX5_isSound 2 (some .boolean), Cond.fieldLink RX5 37 "FourWalls$Plan" "sounds" "I", Cond.methodLink RX11 171 yX5_isPlace, Cond.instanceMethod yX5_isPlace, Cond.selects RX5 yX5_isPlace yX5_isPlace, Cond.code yX5_isPlace cX5_isPlace 2 (some .boolean), Cond.methodLink RX5 53 yX5_places, Cond.instanceMethod yX5_places, Cond.selects RX5 yX5_places yX5_places, Cond.code yX5_places cX5_places 1 (some .int), Cond.fieldLink RX5 30 "FourWalls$Plan" "walls" "I", Cond.methodLink RX11 87 yX11_isOutside, Cond.static yX11_isOutside, Cond.initialized RX11, Cond.code yX11_isOutside cX11_isOutside 2 (some .boolean), Cond.methodLink RX11 211 yX10_listeners]
def wsX11_listen_r2 : List Cond := [Cond.instanceMethod yX10_listeners, Cond.selects RX10 yX10_listeners yX10_listeners, Cond.initialized RX10, Cond.code yX10_listeners cX10_listeners 6 (some .int), Cond.fieldLink RX10 15 "FourWalls$Trial" "plan" "LFourWalls$Plan;", Cond.fieldLink RX10 23 "FourWalls$Trial" "hearing" "LFourWalls$Hearing;", Cond.methodLink RX10 27 yX5_places, Cond.methodLink RX10 33 yX2_loudness, Cond.instanceMethod yX2_loudness, Cond.selects RX2 yX2_loudness yX2_loudness, Cond.initialized RX2, Cond.code yX2_loudness cX2_loudness 8 (some .int), Cond.methodLink RX2 19 Lib.Math.min.name, Cond.static Lib.Math.min.name, Cond.initialized "java/lang/Math", Cond.code Lib.Math.min.name Lib.Math.min.code 2 (some .int), Cond.methodLink RX2 25 Lib.Math.max.name, Cond.static Lib.Math.max.name, Cond.code Lib.Math.max.name Lib.Math.max.code 2 (some .int), Cond.fieldLink RX2 9 "FourWalls$Hearing" "plan" "LFourWalls$Plan;", Cond.fieldLink RX2 28 "FourWalls$Plan" "loud" "[I", Cond.fieldLink RX2 15 "FourWalls$Hearing" "state" "LFourWalls$State;", Cond.fieldLink RX2 40 "FourWalls$State" "row" "[I", Cond.methodLink RX2 34 yX7_get]
def wsX11_listen_r3 : List Cond := [Cond.static yX7_get, Cond.initialized RX7, Cond.code yX7_get cX7_get 2 (some .int)]
def wsX11_listen : List Cond := .code yX11_listen cX11_listen 4 (some .int) :: ((wsX11_listen_r1 ++ (wsX11_listen_r2 ++ wsX11_listen_r3)) ++ wsX110 ++ wsX50 ++ wsX100 ++ wsX20 ++ wsX80)
def wsX11_deaf_r1 : List Cond := [Cond.fieldLink RX11 19 "FourWalls" "plan" "LFourWalls$Plan;", Cond.fieldLink RX11 66 "FourWalls" "trial" "LFourWalls$Trial;", Cond.constant RX11 146 (-1000000001), Cond.methodLink RX11 147 yX5_isSound, Cond.instanceMethod yX5_isSound, Cond.selects RX5 yX5_isSound yX5_isSound, Cond.initialized RX5, Cond.code yX5_isSound cX5_isSound 2 (some .boolean), Cond.fieldLink RX5 37 "FourWalls$Plan" "sounds" "I", Cond.methodLink RX11 214 yX10_unheard, Cond.instanceMethod yX10_unheard, Cond.selects RX10 yX10_unheard yX10_unheard, Cond.initialized RX10, Cond.code yX10_unheard cX10_unheard 4 (some .int), Cond.fieldLink RX10 15 "FourWalls$Trial" "plan" "LFourWalls$Plan;", Cond.fieldLink RX10 23 "FourWalls$Trial" "hearing" "LFourWalls$Hearing;", Cond.methodLink RX10 27 yX5_places, Cond.instanceMethod yX5_places, Cond.selects RX5 yX5_places yX5_places, Cond.code yX5_places cX5_places 1 (some .int), Cond.fieldLink RX5 30 "FourWalls$Plan" "walls" "I", Cond.methodLink RX10 39 yX2_hearers, Cond.instanceMethod yX2_hearers, Cond.selects RX2 yX2_hearers yX2_hearers]
def wsX11_deaf_r2 : List Cond := [Cond.initialized RX2, Cond.code yX2_hearers cX2_hearers 6 (some .int), Cond.fieldLink RX2 9 "FourWalls$Hearing" "plan" "LFourWalls$Plan;", Cond.fieldLink RX2 52 "FourWalls$Plan" "witnesses" "I", Cond.methodLink RX2 56 yX2_margin, Cond.instanceMethod yX2_margin, Cond.selects RX2 yX2_margin yX2_margin, Cond.code yX2_margin cX2_margin 4 (some .int), Cond.fieldLink RX2 15 "FourWalls$Hearing" "state" "LFourWalls$State;", Cond.fieldLink RX2 40 "FourWalls$State" "row" "[I", Cond.fieldLink RX2 49 "FourWalls$Plan" "ear" "[I", Cond.methodLink RX2 34 yX7_get, Cond.static yX7_get, Cond.initialized RX7, Cond.code yX7_get cX7_get 2 (some .int), Cond.methodLink RX2 45 yX2_loudness, Cond.instanceMethod yX2_loudness, Cond.selects RX2 yX2_loudness yX2_loudness, Cond.code yX2_loudness cX2_loudness 8 (some .int), Cond.methodLink RX2 19 Lib.Math.min.name, Cond.static Lib.Math.min.name, Cond.initialized "java/lang/Math", Cond.code Lib.Math.min.name Lib.Math.min.code 2 (some .int), Cond.methodLink RX2 25 Lib.Math.max.name]
def wsX11_deaf_r3 : List Cond := [Cond.static Lib.Math.max.name, Cond.code Lib.Math.max.name Lib.Math.max.code 2 (some .int), Cond.fieldLink RX2 28 "FourWalls$Plan" "loud" "[I"]
def wsX11_deaf : List Cond := .code yX11_deaf cX11_deaf 2 (some .int) :: ((wsX11_deaf_r1 ++ (wsX11_deaf_r2 ++ wsX11_deaf_r3)) ++ wsX110 ++ wsX50 ++ wsX100 ++ wsX20 ++ wsX80)
def wsX11_ears_r1 : List Cond := [Cond.fieldLink RX11 19 "FourWalls" "plan" "LFourWalls$Plan;", Cond.constant RX11 146 (-1000000001), Cond.constant RX11 91 (-1000000002), Cond.fieldLink RX11 66 "FourWalls" "trial" "LFourWalls$Trial;", Cond.methodLink RX11 147 yX5_isSound, Cond.instanceMethod yX5_isSound, Cond.selects RX5 yX5_isSound yX5_isSound, Cond.initialized RX5, Cond.code yX5_isSound cX5_isSound 2 (some .boolean), Cond.fieldLink RX5 37 "FourWalls$Plan" "sounds" "I", Cond.methodLink RX11 217 yX5_arePlaces, Cond.instanceMethod yX5_arePlaces, Cond.selects RX5 yX5_arePlaces yX5_arePlaces, Cond.code yX5_arePlaces cX5_arePlaces 2 (some .boolean), Cond.methodLink RX5 53 yX5_places, Cond.instanceMethod yX5_places, Cond.selects RX5 yX5_places yX5_places, Cond.code yX5_places cX5_places 1 (some .int), Cond.fieldLink RX5 30 "FourWalls$Plan" "walls" "I", Cond.methodLink RX11 87 yX11_isOutside, Cond.static yX11_isOutside, Cond.initialized RX11, Cond.code yX11_isOutside cX11_isOutside 2 (some .boolean), Cond.methodLink RX11 220 yX10_fewestEars]
def wsX11_ears_r2 : List Cond := [Cond.instanceMethod yX10_fewestEars, Cond.selects RX10 yX10_fewestEars yX10_fewestEars, Cond.initialized RX10, Cond.code yX10_fewestEars cX10_fewestEars 7 (some .int), Cond.fieldLink RX10 15 "FourWalls$Trial" "plan" "LFourWalls$Plan;", Cond.fieldLink RX10 9 "FourWalls$Trial" "listenersOf" "[I", Cond.methodLink RX10 27 yX5_places, Cond.methodLink RX10 42 yX10_listeners, Cond.instanceMethod yX10_listeners, Cond.selects RX10 yX10_listeners yX10_listeners, Cond.code yX10_listeners cX10_listeners 6 (some .int), Cond.fieldLink RX10 23 "FourWalls$Trial" "hearing" "LFourWalls$Hearing;", Cond.methodLink RX10 33 yX2_loudness, Cond.instanceMethod yX2_loudness, Cond.selects RX2 yX2_loudness yX2_loudness, Cond.initialized RX2, Cond.code yX2_loudness cX2_loudness 8 (some .int), Cond.methodLink RX2 19 Lib.Math.min.name, Cond.static Lib.Math.min.name, Cond.initialized "java/lang/Math", Cond.code Lib.Math.min.name Lib.Math.min.code 2 (some .int), Cond.methodLink RX2 25 Lib.Math.max.name, Cond.static Lib.Math.max.name, Cond.code Lib.Math.max.name Lib.Math.max.code 2 (some .int)]
def wsX11_ears_r3 : List Cond := [Cond.fieldLink RX2 9 "FourWalls$Hearing" "plan" "LFourWalls$Plan;", Cond.fieldLink RX2 28 "FourWalls$Plan" "loud" "[I", Cond.fieldLink RX2 15 "FourWalls$Hearing" "state" "LFourWalls$State;", Cond.fieldLink RX2 40 "FourWalls$State" "row" "[I", Cond.methodLink RX2 34 yX7_get, Cond.static yX7_get, Cond.initialized RX7, Cond.code yX7_get cX7_get 2 (some .int), Cond.methodLink RX10 45 yX7_put, Cond.static yX7_put, Cond.code yX7_put cX7_put 3 none, Cond.methodLink RX10 51 yJ6_bitCount_0f7a4, Cond.static yJ6_bitCount_0f7a4, Cond.initialized RJ6, Cond.code yJ6_bitCount_0f7a4 cJ6_bitCount_0f7a4 1 (some .int), Cond.constant RJ6 265 (1431655765), Cond.constant RJ6 266 (858993459), Cond.constant RJ6 267 (252645135), Cond.methodLink RX10 57 yX10_coverAll, Cond.instanceMethod yX10_coverAll, Cond.selects RX10 yX10_coverAll yX10_coverAll, Cond.code yX10_coverAll cX10_coverAll 4 (some .boolean), Cond.methodLink RX10 61 yX7_get]
def wsX11_ears : List Cond := .code yX11_ears cX11_ears 4 (some .int) :: ((wsX11_ears_r1 ++ (wsX11_ears_r2 ++ wsX11_ears_r3)) ++ wsX110 ++ wsX50 ++ wsX100 ++ wsX20 ++ wsX80)
def wsX11_alike_r1 : List Cond := [Cond.fieldLink RX11 19 "FourWalls" "plan" "LFourWalls$Plan;", Cond.fieldLink RX11 66 "FourWalls" "trial" "LFourWalls$Trial;", Cond.constant RX11 146 (-1000000001), Cond.methodLink RX11 171 yX5_isPlace, Cond.instanceMethod yX5_isPlace, Cond.selects RX5 yX5_isPlace yX5_isPlace, Cond.initialized RX5, Cond.code yX5_isPlace cX5_isPlace 2 (some .boolean), Cond.methodLink RX5 53 yX5_places, Cond.instanceMethod yX5_places, Cond.selects RX5 yX5_places yX5_places, Cond.code yX5_places cX5_places 1 (some .int), Cond.fieldLink RX5 30 "FourWalls$Plan" "walls" "I", Cond.methodLink RX11 223 yX10_alikePair, Cond.instanceMethod yX10_alikePair, Cond.selects RX10 yX10_alikePair yX10_alikePair, Cond.initialized RX10, Cond.code yX10_alikePair cX10_alikePair 6 (some .int), Cond.fieldLink RX10 15 "FourWalls$Trial" "plan" "LFourWalls$Plan;", Cond.fieldLink RX10 65 "FourWalls$Plan" "sounds" "I", Cond.methodLink RX10 69 yX10_areAlike, Cond.instanceMethod yX10_areAlike, Cond.selects RX10 yX10_areAlike yX10_areAlike, Cond.code yX10_areAlike cX10_areAlike 5 (some .boolean)]
def wsX11_alike_r2 : List Cond := [Cond.fieldLink RX10 73 "FourWalls$Plan" "witnesses" "I", Cond.fieldLink RX10 23 "FourWalls$Trial" "hearing" "LFourWalls$Hearing;", Cond.methodLink RX10 76 yX2_saying, Cond.instanceMethod yX2_saying, Cond.selects RX2 yX2_saying yX2_saying, Cond.initialized RX2, Cond.code yX2_saying cX2_saying 6 (some .int), Cond.fieldLink RX2 9 "FourWalls$Hearing" "plan" "LFourWalls$Plan;", Cond.fieldLink RX2 59 "FourWalls$Plan" "side" "[I", Cond.fieldLink RX2 62 "FourWalls$Plan" "sounds" "I", Cond.fieldLink RX2 65 "FourWalls$Plan" "tone" "[I", Cond.methodLink RX2 34 yX7_get, Cond.static yX7_get, Cond.initialized RX7, Cond.code yX7_get cX7_get 2 (some .int), Cond.methodLink RX2 56 yX2_margin, Cond.instanceMethod yX2_margin, Cond.selects RX2 yX2_margin yX2_margin, Cond.code yX2_margin cX2_margin 4 (some .int), Cond.fieldLink RX2 15 "FourWalls$Hearing" "state" "LFourWalls$State;", Cond.fieldLink RX2 40 "FourWalls$State" "row" "[I", Cond.fieldLink RX2 49 "FourWalls$Plan" "ear" "[I", Cond.methodLink RX2 45 yX2_loudness, Cond.instanceMethod yX2_loudness]
def wsX11_alike_r3 : List Cond := [Cond.selects RX2 yX2_loudness yX2_loudness, Cond.code yX2_loudness cX2_loudness 8 (some .int), Cond.methodLink RX2 19 Lib.Math.min.name, Cond.static Lib.Math.min.name, Cond.initialized "java/lang/Math", Cond.code Lib.Math.min.name Lib.Math.min.code 2 (some .int), Cond.methodLink RX2 25 Lib.Math.max.name, Cond.static Lib.Math.max.name, Cond.code Lib.Math.max.name Lib.Math.max.code 2 (some .int), Cond.fieldLink RX2 28 "FourWalls$Plan" "loud" "[I"]
def wsX11_alike : List Cond := .code yX11_alike cX11_alike 3 (some .int) :: ((wsX11_alike_r1 ++ (wsX11_alike_r2 ++ wsX11_alike_r3)) ++ wsX110 ++ wsX50 ++ wsX100 ++ wsX20 ++ wsX80)
def wsX11_hides_r1 : List Cond := [Cond.fieldLink RX11 19 "FourWalls" "plan" "LFourWalls$Plan;", Cond.constant RX11 146 (-1000000001), Cond.fieldLink RX11 66 "FourWalls" "trial" "LFourWalls$Trial;", Cond.methodLink RX11 143 yX5_isWall, Cond.instanceMethod yX5_isWall, Cond.selects RX5 yX5_isWall yX5_isWall, Cond.initialized RX5, Cond.code yX5_isWall cX5_isWall 2 (some .boolean), Cond.fieldLink RX5 30 "FourWalls$Plan" "walls" "I", Cond.methodLink RX11 147 yX5_isSound, Cond.instanceMethod yX5_isSound, Cond.selects RX5 yX5_isSound yX5_isSound, Cond.code yX5_isSound cX5_isSound 2 (some .boolean), Cond.fieldLink RX5 37 "FourWalls$Plan" "sounds" "I", Cond.methodLink RX11 171 yX5_isPlace, Cond.instanceMethod yX5_isPlace, Cond.selects RX5 yX5_isPlace yX5_isPlace, Cond.code yX5_isPlace cX5_isPlace 2 (some .boolean), Cond.methodLink RX5 53 yX5_places, Cond.instanceMethod yX5_places, Cond.selects RX5 yX5_places yX5_places, Cond.code yX5_places cX5_places 1 (some .int), Cond.methodLink RX11 226 yX10_hidingThickness, Cond.instanceMethod yX10_hidingThickness]
def wsX11_hides_r2 : List Cond := [Cond.selects RX10 yX10_hidingThickness yX10_hidingThickness, Cond.initialized RX10, Cond.code yX10_hidingThickness cX10_hidingThickness 9 (some .int), Cond.fieldLink RX10 15 "FourWalls$Trial" "plan" "LFourWalls$Plan;", Cond.fieldLink RX10 73 "FourWalls$Plan" "witnesses" "I", Cond.fieldLink RX10 23 "FourWalls$Trial" "hearing" "LFourWalls$Hearing;", Cond.fieldLink RX10 19 "FourWalls$Trial" "state" "LFourWalls$State;", Cond.methodLink RX10 86 Lib.Math.min.name, Cond.static Lib.Math.min.name, Cond.initialized "java/lang/Math", Cond.code Lib.Math.min.name Lib.Math.min.code 2 (some .int), Cond.methodLink RX10 92 Lib.Math.max.name, Cond.static Lib.Math.max.name, Cond.code Lib.Math.max.name Lib.Math.max.code 2 (some .int), Cond.methodLink RX10 79 yX2_margin, Cond.instanceMethod yX2_margin, Cond.selects RX2 yX2_margin yX2_margin, Cond.initialized RX2, Cond.code yX2_margin cX2_margin 4 (some .int), Cond.fieldLink RX2 15 "FourWalls$Hearing" "state" "LFourWalls$State;", Cond.fieldLink RX2 40 "FourWalls$State" "row" "[I", Cond.fieldLink RX2 9 "FourWalls$Hearing" "plan" "LFourWalls$Plan;", Cond.fieldLink RX2 49 "FourWalls$Plan" "ear" "[I", Cond.methodLink RX2 34 yX7_get]
def wsX11_hides_r3 : List Cond := [Cond.static yX7_get, Cond.initialized RX7, Cond.code yX7_get cX7_get 2 (some .int), Cond.methodLink RX2 45 yX2_loudness, Cond.instanceMethod yX2_loudness, Cond.selects RX2 yX2_loudness yX2_loudness, Cond.code yX2_loudness cX2_loudness 8 (some .int), Cond.methodLink RX2 19 Lib.Math.min.name, Cond.methodLink RX2 25 Lib.Math.max.name, Cond.fieldLink RX2 28 "FourWalls$Plan" "loud" "[I", Cond.methodLink RX10 84 yX8_get, Cond.instanceMethod yX8_get, Cond.selects RX8 yX8_get yX8_get, Cond.initialized RX8, Cond.code yX8_get cX8_get 2 (some .int), Cond.fieldLink RX8 11 "FourWalls$State" "row" "[I", Cond.methodLink RX8 18 yX7_get]
def wsX11_hides : List Cond := .code yX11_hides cX11_hides 4 (some .int) :: ((wsX11_hides_r1 ++ (wsX11_hides_r2 ++ wsX11_hides_r3)) ++ wsX110 ++ wsX50 ++ wsX100 ++ wsX20 ++ wsX80)
def wsX11_midwife : List Cond := .code yX11_midwife cX11_midwife 7 (some .int) :: ([.constant RX11 91 (-1000000002), .methodLink RX11 87 yX11_isOutside, .static yX11_isOutside, .initialized RX11, .code yX11_isOutside cX11_isOutside 2 (some .boolean)])
def wsX11_bargain : List Cond := .code yX11_bargain cX11_bargain 8 (some .int) :: ([.constant RX11 229 (1000000), .constant RX11 91 (-1000000002), .constantLong RX11 230 (1000000), .methodLink RX11 232 Lib.Math.max.name, .static Lib.Math.max.name, .initialized "java/lang/Math", .code Lib.Math.max.name Lib.Math.max.code 2 (some .int), .methodLink RX11 237 Lib.Math.min.name, .static Lib.Math.min.name, .code Lib.Math.min.name Lib.Math.min.code 2 (some .int), .methodLink RX11 87 yX11_isOutside, .static yX11_isOutside, .initialized RX11, .code yX11_isOutside cX11_isOutside 2 (some .boolean)])
def wsX11_found_r1 : List Cond := [Cond.fieldLink RX11 19 "FourWalls" "plan" "LFourWalls$Plan;", Cond.fieldLink RX11 66 "FourWalls" "trial" "LFourWalls$Trial;", Cond.constant RX11 146 (-1000000001), Cond.methodLink RX11 217 yX5_arePlaces, Cond.instanceMethod yX5_arePlaces, Cond.selects RX5 yX5_arePlaces yX5_arePlaces, Cond.initialized RX5, Cond.code yX5_arePlaces cX5_arePlaces 2 (some .boolean), Cond.methodLink RX5 53 yX5_places, Cond.instanceMethod yX5_places, Cond.selects RX5 yX5_places yX5_places, Cond.code yX5_places cX5_places 1 (some .int), Cond.fieldLink RX5 30 "FourWalls$Plan" "walls" "I", Cond.methodLink RX11 240 yX10_oddsOfHearing, Cond.instanceMethod yX10_oddsOfHearing, Cond.selects RX10 yX10_oddsOfHearing yX10_oddsOfHearing, Cond.initialized RX10, Cond.code yX10_oddsOfHearing cX10_oddsOfHearing 5 (some .int), Cond.fieldLink RX10 15 "FourWalls$Trial" "plan" "LFourWalls$Plan;", Cond.fieldLink RX10 65 "FourWalls$Plan" "sounds" "I", Cond.constant RX10 98 (1000000), Cond.methodLink RX10 51 yJ6_bitCount_0f7a4, Cond.static yJ6_bitCount_0f7a4, Cond.initialized RJ6]
def wsX11_found_r2 : List Cond := [Cond.code yJ6_bitCount_0f7a4 cJ6_bitCount_0f7a4 1 (some .int), Cond.constant RJ6 265 (1431655765), Cond.constant RJ6 266 (858993459), Cond.constant RJ6 267 (252645135), Cond.methodLink RX10 95 yX10_unheard, Cond.instanceMethod yX10_unheard, Cond.selects RX10 yX10_unheard yX10_unheard, Cond.code yX10_unheard cX10_unheard 4 (some .int), Cond.fieldLink RX10 23 "FourWalls$Trial" "hearing" "LFourWalls$Hearing;", Cond.methodLink RX10 27 yX5_places, Cond.methodLink RX10 39 yX2_hearers, Cond.instanceMethod yX2_hearers, Cond.selects RX2 yX2_hearers yX2_hearers, Cond.initialized RX2, Cond.code yX2_hearers cX2_hearers 6 (some .int), Cond.fieldLink RX2 9 "FourWalls$Hearing" "plan" "LFourWalls$Plan;", Cond.fieldLink RX2 52 "FourWalls$Plan" "witnesses" "I", Cond.methodLink RX2 56 yX2_margin, Cond.instanceMethod yX2_margin, Cond.selects RX2 yX2_margin yX2_margin, Cond.code yX2_margin cX2_margin 4 (some .int), Cond.fieldLink RX2 15 "FourWalls$Hearing" "state" "LFourWalls$State;", Cond.fieldLink RX2 40 "FourWalls$State" "row" "[I", Cond.fieldLink RX2 49 "FourWalls$Plan" "ear" "[I"]
def wsX11_found_r3 : List Cond := [Cond.methodLink RX2 34 yX7_get, Cond.static yX7_get, Cond.initialized RX7, Cond.code yX7_get cX7_get 2 (some .int), Cond.methodLink RX2 45 yX2_loudness, Cond.instanceMethod yX2_loudness, Cond.selects RX2 yX2_loudness yX2_loudness, Cond.code yX2_loudness cX2_loudness 8 (some .int), Cond.methodLink RX2 19 Lib.Math.min.name, Cond.static Lib.Math.min.name, Cond.initialized "java/lang/Math", Cond.code Lib.Math.min.name Lib.Math.min.code 2 (some .int), Cond.methodLink RX2 25 Lib.Math.max.name, Cond.static Lib.Math.max.name, Cond.code Lib.Math.max.name Lib.Math.max.code 2 (some .int), Cond.fieldLink RX2 28 "FourWalls$Plan" "loud" "[I"]
def wsX11_found : List Cond := .code yX11_found cX11_found 2 (some .int) :: ((wsX11_found_r1 ++ (wsX11_found_r2 ++ wsX11_found_r3)) ++ wsX110 ++ wsX50 ++ wsX100 ++ wsX20 ++ wsX80)
def wsX11_say_r1 : List Cond := [Cond.fieldLink RX11 19 "FourWalls" "plan" "LFourWalls$Plan;", Cond.constant RX11 146 (-1000000001), Cond.constant RX11 91 (-1000000002), Cond.fieldLink RX11 75 "FourWalls" "claims" "LFourWalls$Claims;", Cond.fieldLink RX11 121 "FourWalls$Claims" "count" "I", Cond.constant RX11 100 (-1000000004), Cond.methodLink RX11 162 yX5_isWitness, Cond.instanceMethod yX5_isWitness, Cond.selects RX5 yX5_isWitness yX5_isWitness, Cond.initialized RX5, Cond.code yX5_isWitness cX5_isWitness 2 (some .boolean), Cond.fieldLink RX5 40 "FourWalls$Plan" "witnesses" "I", Cond.methodLink RX11 87 yX11_isOutside, Cond.static yX11_isOutside, Cond.initialized RX11, Cond.code yX11_isOutside cX11_isOutside 2 (some .boolean), Cond.methodLink RX11 243 yX1_add, Cond.instanceMethod yX1_add, Cond.selects RX1 yX1_add yX1_add, Cond.initialized RX1, Cond.code yX1_add cX1_add 3 (some .boolean), Cond.fieldLink RX1 32 "FourWalls$Claims" "count" "I", Cond.fieldLink RX1 9 "FourWalls$Claims" "who" "[I", Cond.fieldLink RX1 15 "FourWalls$Claims" "what" "[I"]
def wsX11_say_r2 : List Cond := [Cond.methodLink RX1 36 yX7_put, Cond.static yX7_put, Cond.initialized RX7, Cond.code yX7_put cX7_put 3 none]
def wsX11_say : List Cond := .code yX11_say cX11_say 3 (some .int) :: ((wsX11_say_r1 ++ wsX11_say_r2) ++ wsX110 ++ wsX10 ++ wsX50)
def wsX11_births_r1 : List Cond := [Cond.fieldLink RX11 19 "FourWalls" "plan" "LFourWalls$Plan;", Cond.constant RX11 193 (-1000000003), Cond.fieldLink RX11 75 "FourWalls" "claims" "LFourWalls$Claims;", Cond.fieldLink RX11 248 "FourWalls$Claims" "births" "I", Cond.methodLink RX11 190 yX5_stands, Cond.instanceMethod yX5_stands, Cond.selects RX5 yX5_stands yX5_stands, Cond.initialized RX5, Cond.code yX5_stands cX5_stands 1 (some .boolean), Cond.fieldLink RX5 30 "FourWalls$Plan" "walls" "I", Cond.methodLink RX11 245 yX1_gatherBirths, Cond.instanceMethod yX1_gatherBirths, Cond.selects RX1 yX1_gatherBirths yX1_gatherBirths, Cond.initialized RX1, Cond.code yX1_gatherBirths cX1_gatherBirths 3 none, Cond.fieldLink RX1 56 "FourWalls$Claims" "births" "I", Cond.fieldLink RX1 18 "FourWalls$Claims" "fitting" "[I", Cond.methodLink RX1 59 yX1_pairs, Cond.instanceMethod yX1_pairs, Cond.selects RX1 yX1_pairs yX1_pairs, Cond.code yX1_pairs cX1_pairs 1 (some .int), Cond.fieldLink RX1 24 "FourWalls$Claims" "plan" "LFourWalls$Plan;", Cond.fieldLink RX1 83 "FourWalls$Plan" "sounds" "I", Cond.methodLink RX1 86 yX5_places]
def wsX11_births_r2 : List Cond := [Cond.instanceMethod yX5_places, Cond.selects RX5 yX5_places yX5_places, Cond.code yX5_places cX5_places 1 (some .int), Cond.methodLink RX1 63 yX1_pairAt, Cond.instanceMethod yX1_pairAt, Cond.selects RX1 yX1_pairAt yX1_pairAt, Cond.code yX1_pairAt cX1_pairAt 3 (some .int), Cond.methodLink RX1 66 yX1_liarsOf, Cond.instanceMethod yX1_liarsOf, Cond.selects RX1 yX1_liarsOf yX1_liarsOf, Cond.code yX1_liarsOf cX1_liarsOf 5 (some .int), Cond.fieldLink RX1 32 "FourWalls$Claims" "count" "I", Cond.fieldLink RX1 28 "FourWalls$Claims" "hearing" "LFourWalls$Hearing;", Cond.fieldLink RX1 9 "FourWalls$Claims" "who" "[I", Cond.fieldLink RX1 15 "FourWalls$Claims" "what" "[I", Cond.methodLink RX1 42 yX1_soundOf, Cond.static yX1_soundOf, Cond.code yX1_soundOf cX1_soundOf 1 (some .int), Cond.methodLink RX1 46 yX7_get, Cond.static yX7_get, Cond.initialized RX7, Cond.code yX7_get cX7_get 2 (some .int), Cond.methodLink RX1 50 yX2_saying, Cond.instanceMethod yX2_saying]
def wsX11_births_r3 : List Cond := [Cond.selects RX2 yX2_saying yX2_saying, Cond.initialized RX2, Cond.code yX2_saying cX2_saying 6 (some .int), Cond.fieldLink RX2 9 "FourWalls$Hearing" "plan" "LFourWalls$Plan;", Cond.fieldLink RX2 59 "FourWalls$Plan" "side" "[I", Cond.fieldLink RX2 62 "FourWalls$Plan" "sounds" "I", Cond.fieldLink RX2 65 "FourWalls$Plan" "tone" "[I", Cond.methodLink RX2 34 yX7_get, Cond.methodLink RX2 56 yX2_margin, Cond.instanceMethod yX2_margin, Cond.selects RX2 yX2_margin yX2_margin, Cond.code yX2_margin cX2_margin 4 (some .int), Cond.fieldLink RX2 15 "FourWalls$Hearing" "state" "LFourWalls$State;", Cond.fieldLink RX2 40 "FourWalls$State" "row" "[I", Cond.fieldLink RX2 49 "FourWalls$Plan" "ear" "[I", Cond.methodLink RX2 45 yX2_loudness, Cond.instanceMethod yX2_loudness, Cond.selects RX2 yX2_loudness yX2_loudness, Cond.code yX2_loudness cX2_loudness 8 (some .int), Cond.methodLink RX2 19 Lib.Math.min.name, Cond.static Lib.Math.min.name, Cond.initialized "java/lang/Math", Cond.code Lib.Math.min.name Lib.Math.min.code 2 (some .int), Cond.methodLink RX2 25 Lib.Math.max.name]
def wsX11_births_r4 : List Cond := [Cond.static Lib.Math.max.name, Cond.code Lib.Math.max.name Lib.Math.max.code 2 (some .int), Cond.fieldLink RX2 28 "FourWalls$Plan" "loud" "[I", Cond.methodLink RX1 36 yX7_put, Cond.static yX7_put, Cond.code yX7_put cX7_put 3 none, Cond.methodLink RX11 251 yX1_birthAt, Cond.instanceMethod yX1_birthAt, Cond.selects RX1 yX1_birthAt yX1_birthAt, Cond.code yX1_birthAt cX1_birthAt 2 (some .int)]
def wsX11_births : List Cond := .code yX11_births cX11_births 2 (some .int) :: ((wsX11_births_r1 ++ (wsX11_births_r2 ++ (wsX11_births_r3 ++ wsX11_births_r4))) ++ wsX110 ++ wsX10 ++ wsX50 ++ wsX20 ++ wsX80)
def wsX11_liars_r1 : List Cond := [Cond.fieldLink RX11 19 "FourWalls" "plan" "LFourWalls$Plan;", Cond.constant RX11 146 (-1000000001), Cond.fieldLink RX11 75 "FourWalls" "claims" "LFourWalls$Claims;", Cond.constant RX11 193 (-1000000003), Cond.methodLink RX11 254 yX5_isPair, Cond.instanceMethod yX5_isPair, Cond.selects RX5 yX5_isPair yX5_isPair, Cond.initialized RX5, Cond.code yX5_isPair cX5_isPair 2 (some .boolean), Cond.methodLink RX5 57 yX5_isSound, Cond.instanceMethod yX5_isSound, Cond.selects RX5 yX5_isSound yX5_isSound, Cond.code yX5_isSound cX5_isSound 2 (some .boolean), Cond.fieldLink RX5 37 "FourWalls$Plan" "sounds" "I", Cond.methodLink RX5 61 yX5_isPlace, Cond.instanceMethod yX5_isPlace, Cond.selects RX5 yX5_isPlace yX5_isPlace, Cond.code yX5_isPlace cX5_isPlace 2 (some .boolean), Cond.methodLink RX5 53 yX5_places, Cond.instanceMethod yX5_places, Cond.selects RX5 yX5_places yX5_places, Cond.code yX5_places cX5_places 1 (some .int), Cond.fieldLink RX5 30 "FourWalls$Plan" "walls" "I", Cond.methodLink RX11 190 yX5_stands]
def wsX11_liars_r2 : List Cond := [Cond.instanceMethod yX5_stands, Cond.selects RX5 yX5_stands yX5_stands, Cond.code yX5_stands cX5_stands 1 (some .boolean), Cond.methodLink RX11 257 yX1_liarsOf, Cond.instanceMethod yX1_liarsOf, Cond.selects RX1 yX1_liarsOf yX1_liarsOf, Cond.initialized RX1, Cond.code yX1_liarsOf cX1_liarsOf 5 (some .int), Cond.fieldLink RX1 32 "FourWalls$Claims" "count" "I", Cond.fieldLink RX1 28 "FourWalls$Claims" "hearing" "LFourWalls$Hearing;", Cond.fieldLink RX1 9 "FourWalls$Claims" "who" "[I", Cond.fieldLink RX1 15 "FourWalls$Claims" "what" "[I", Cond.methodLink RX1 42 yX1_soundOf, Cond.static yX1_soundOf, Cond.code yX1_soundOf cX1_soundOf 1 (some .int), Cond.methodLink RX1 46 yX7_get, Cond.static yX7_get, Cond.initialized RX7, Cond.code yX7_get cX7_get 2 (some .int), Cond.methodLink RX1 50 yX2_saying, Cond.instanceMethod yX2_saying, Cond.selects RX2 yX2_saying yX2_saying, Cond.initialized RX2, Cond.code yX2_saying cX2_saying 6 (some .int)]
def wsX11_liars_r3 : List Cond := [Cond.fieldLink RX2 9 "FourWalls$Hearing" "plan" "LFourWalls$Plan;", Cond.fieldLink RX2 59 "FourWalls$Plan" "side" "[I", Cond.fieldLink RX2 62 "FourWalls$Plan" "sounds" "I", Cond.fieldLink RX2 65 "FourWalls$Plan" "tone" "[I", Cond.methodLink RX2 34 yX7_get, Cond.methodLink RX2 56 yX2_margin, Cond.instanceMethod yX2_margin, Cond.selects RX2 yX2_margin yX2_margin, Cond.code yX2_margin cX2_margin 4 (some .int), Cond.fieldLink RX2 15 "FourWalls$Hearing" "state" "LFourWalls$State;", Cond.fieldLink RX2 40 "FourWalls$State" "row" "[I", Cond.fieldLink RX2 49 "FourWalls$Plan" "ear" "[I", Cond.methodLink RX2 45 yX2_loudness, Cond.instanceMethod yX2_loudness, Cond.selects RX2 yX2_loudness yX2_loudness, Cond.code yX2_loudness cX2_loudness 8 (some .int), Cond.methodLink RX2 19 Lib.Math.min.name, Cond.static Lib.Math.min.name, Cond.initialized "java/lang/Math", Cond.code Lib.Math.min.name Lib.Math.min.code 2 (some .int), Cond.methodLink RX2 25 Lib.Math.max.name, Cond.static Lib.Math.max.name, Cond.code Lib.Math.max.name Lib.Math.max.code 2 (some .int), Cond.fieldLink RX2 28 "FourWalls$Plan" "loud" "[I"]
def wsX11_liars : List Cond := .code yX11_liars cX11_liars 2 (some .int) :: ((wsX11_liars_r1 ++ (wsX11_liars_r2 ++ wsX11_liars_r3)) ++ wsX110 ++ wsX50 ++ wsX10 ++ wsX20 ++ wsX80)
def wsX11_leastLiars_r1 : List Cond := [Cond.constant RX11 91 (-1000000002), Cond.fieldLink RX11 19 "FourWalls" "plan" "LFourWalls$Plan;", Cond.constant RX11 193 (-1000000003), Cond.fieldLink RX11 75 "FourWalls" "claims" "LFourWalls$Claims;", Cond.methodLink RX11 87 yX11_isOutside, Cond.static yX11_isOutside, Cond.initialized RX11, Cond.code yX11_isOutside cX11_isOutside 2 (some .boolean), Cond.methodLink RX11 190 yX5_stands, Cond.instanceMethod yX5_stands, Cond.selects RX5 yX5_stands yX5_stands, Cond.initialized RX5, Cond.code yX5_stands cX5_stands 1 (some .boolean), Cond.fieldLink RX5 30 "FourWalls$Plan" "walls" "I", Cond.methodLink RX11 260 yX1_pairOfFewestLiars, Cond.instanceMethod yX1_pairOfFewestLiars, Cond.selects RX1 yX1_pairOfFewestLiars yX1_pairOfFewestLiars, Cond.initialized RX1, Cond.code yX1_pairOfFewestLiars cX1_pairOfFewestLiars 5 (some .int), Cond.methodLink RX1 63 yX1_pairAt, Cond.instanceMethod yX1_pairAt, Cond.selects RX1 yX1_pairAt yX1_pairAt, Cond.code yX1_pairAt cX1_pairAt 3 (some .int), Cond.fieldLink RX1 24 "FourWalls$Claims" "plan" "LFourWalls$Plan;"]
def wsX11_leastLiars_r2 : List Cond := [Cond.fieldLink RX1 83 "FourWalls$Plan" "sounds" "I", Cond.methodLink RX1 86 yX5_places, Cond.instanceMethod yX5_places, Cond.selects RX5 yX5_places yX5_places, Cond.code yX5_places cX5_places 1 (some .int), Cond.methodLink RX1 66 yX1_liarsOf, Cond.instanceMethod yX1_liarsOf, Cond.selects RX1 yX1_liarsOf yX1_liarsOf, Cond.code yX1_liarsOf cX1_liarsOf 5 (some .int), Cond.fieldLink RX1 32 "FourWalls$Claims" "count" "I", Cond.fieldLink RX1 28 "FourWalls$Claims" "hearing" "LFourWalls$Hearing;", Cond.fieldLink RX1 9 "FourWalls$Claims" "who" "[I", Cond.fieldLink RX1 15 "FourWalls$Claims" "what" "[I", Cond.methodLink RX1 42 yX1_soundOf, Cond.static yX1_soundOf, Cond.code yX1_soundOf cX1_soundOf 1 (some .int), Cond.methodLink RX1 46 yX7_get, Cond.static yX7_get, Cond.initialized RX7, Cond.code yX7_get cX7_get 2 (some .int), Cond.methodLink RX1 50 yX2_saying, Cond.instanceMethod yX2_saying, Cond.selects RX2 yX2_saying yX2_saying, Cond.initialized RX2]
def wsX11_leastLiars_r3 : List Cond := [Cond.code yX2_saying cX2_saying 6 (some .int), Cond.fieldLink RX2 9 "FourWalls$Hearing" "plan" "LFourWalls$Plan;", Cond.fieldLink RX2 59 "FourWalls$Plan" "side" "[I", Cond.fieldLink RX2 62 "FourWalls$Plan" "sounds" "I", Cond.fieldLink RX2 65 "FourWalls$Plan" "tone" "[I", Cond.methodLink RX2 34 yX7_get, Cond.methodLink RX2 56 yX2_margin, Cond.instanceMethod yX2_margin, Cond.selects RX2 yX2_margin yX2_margin, Cond.code yX2_margin cX2_margin 4 (some .int), Cond.fieldLink RX2 15 "FourWalls$Hearing" "state" "LFourWalls$State;", Cond.fieldLink RX2 40 "FourWalls$State" "row" "[I", Cond.fieldLink RX2 49 "FourWalls$Plan" "ear" "[I", Cond.methodLink RX2 45 yX2_loudness, Cond.instanceMethod yX2_loudness, Cond.selects RX2 yX2_loudness yX2_loudness, Cond.code yX2_loudness cX2_loudness 8 (some .int), Cond.methodLink RX2 19 Lib.Math.min.name, Cond.static Lib.Math.min.name, Cond.initialized "java/lang/Math", Cond.code Lib.Math.min.name Lib.Math.min.code 2 (some .int), Cond.methodLink RX2 25 Lib.Math.max.name, Cond.static Lib.Math.max.name, Cond.code Lib.Math.max.name Lib.Math.max.code 2 (some .int)]
def wsX11_leastLiars_r4 : List Cond := [Cond.fieldLink RX2 28 "FourWalls$Plan" "loud" "[I", Cond.methodLink RX1 59 yX1_pairs, Cond.instanceMethod yX1_pairs, Cond.selects RX1 yX1_pairs yX1_pairs, Cond.code yX1_pairs cX1_pairs 1 (some .int), Cond.methodLink RX11 257 yX1_liarsOf]
def wsX11_leastLiars : List Cond := .code yX11_leastLiars cX11_leastLiars 3 (some .int) :: ((wsX11_leastLiars_r1 ++ (wsX11_leastLiars_r2 ++ (wsX11_leastLiars_r3 ++ wsX11_leastLiars_r4))) ++ wsX110 ++ wsX50 ++ wsX10 ++ wsX20 ++ wsX80)
def wsX11_ask_r1 : List Cond := [Cond.fieldLink RX11 19 "FourWalls" "plan" "LFourWalls$Plan;", Cond.constant RX11 193 (-1000000003), Cond.fieldLink RX11 75 "FourWalls" "claims" "LFourWalls$Claims;", Cond.methodLink RX11 190 yX5_stands, Cond.instanceMethod yX5_stands, Cond.selects RX5 yX5_stands yX5_stands, Cond.initialized RX5, Cond.code yX5_stands cX5_stands 1 (some .boolean), Cond.fieldLink RX5 30 "FourWalls$Plan" "walls" "I", Cond.methodLink RX11 245 yX1_gatherBirths, Cond.instanceMethod yX1_gatherBirths, Cond.selects RX1 yX1_gatherBirths yX1_gatherBirths, Cond.initialized RX1, Cond.code yX1_gatherBirths cX1_gatherBirths 3 none, Cond.fieldLink RX1 56 "FourWalls$Claims" "births" "I", Cond.fieldLink RX1 18 "FourWalls$Claims" "fitting" "[I", Cond.methodLink RX1 59 yX1_pairs, Cond.instanceMethod yX1_pairs, Cond.selects RX1 yX1_pairs yX1_pairs, Cond.code yX1_pairs cX1_pairs 1 (some .int), Cond.fieldLink RX1 24 "FourWalls$Claims" "plan" "LFourWalls$Plan;", Cond.fieldLink RX1 83 "FourWalls$Plan" "sounds" "I", Cond.methodLink RX1 86 yX5_places, Cond.instanceMethod yX5_places]
def wsX11_ask_r2 : List Cond := [Cond.selects RX5 yX5_places yX5_places, Cond.code yX5_places cX5_places 1 (some .int), Cond.methodLink RX1 63 yX1_pairAt, Cond.instanceMethod yX1_pairAt, Cond.selects RX1 yX1_pairAt yX1_pairAt, Cond.code yX1_pairAt cX1_pairAt 3 (some .int), Cond.methodLink RX1 66 yX1_liarsOf, Cond.instanceMethod yX1_liarsOf, Cond.selects RX1 yX1_liarsOf yX1_liarsOf, Cond.code yX1_liarsOf cX1_liarsOf 5 (some .int), Cond.fieldLink RX1 32 "FourWalls$Claims" "count" "I", Cond.fieldLink RX1 28 "FourWalls$Claims" "hearing" "LFourWalls$Hearing;", Cond.fieldLink RX1 9 "FourWalls$Claims" "who" "[I", Cond.fieldLink RX1 15 "FourWalls$Claims" "what" "[I", Cond.methodLink RX1 42 yX1_soundOf, Cond.static yX1_soundOf, Cond.code yX1_soundOf cX1_soundOf 1 (some .int), Cond.methodLink RX1 46 yX7_get, Cond.static yX7_get, Cond.initialized RX7, Cond.code yX7_get cX7_get 2 (some .int), Cond.methodLink RX1 50 yX2_saying, Cond.instanceMethod yX2_saying, Cond.selects RX2 yX2_saying yX2_saying]
def wsX11_ask_r3 : List Cond := [Cond.initialized RX2, Cond.code yX2_saying cX2_saying 6 (some .int), Cond.fieldLink RX2 9 "FourWalls$Hearing" "plan" "LFourWalls$Plan;", Cond.fieldLink RX2 59 "FourWalls$Plan" "side" "[I", Cond.fieldLink RX2 62 "FourWalls$Plan" "sounds" "I", Cond.fieldLink RX2 65 "FourWalls$Plan" "tone" "[I", Cond.methodLink RX2 34 yX7_get, Cond.methodLink RX2 56 yX2_margin, Cond.instanceMethod yX2_margin, Cond.selects RX2 yX2_margin yX2_margin, Cond.code yX2_margin cX2_margin 4 (some .int), Cond.fieldLink RX2 15 "FourWalls$Hearing" "state" "LFourWalls$State;", Cond.fieldLink RX2 40 "FourWalls$State" "row" "[I", Cond.fieldLink RX2 49 "FourWalls$Plan" "ear" "[I", Cond.methodLink RX2 45 yX2_loudness, Cond.instanceMethod yX2_loudness, Cond.selects RX2 yX2_loudness yX2_loudness, Cond.code yX2_loudness cX2_loudness 8 (some .int), Cond.methodLink RX2 19 Lib.Math.min.name, Cond.static Lib.Math.min.name, Cond.initialized "java/lang/Math", Cond.code Lib.Math.min.name Lib.Math.min.code 2 (some .int), Cond.methodLink RX2 25 Lib.Math.max.name, Cond.static Lib.Math.max.name]
def wsX11_ask_r4 : List Cond := [Cond.code Lib.Math.max.name Lib.Math.max.code 2 (some .int), Cond.fieldLink RX2 28 "FourWalls$Plan" "loud" "[I", Cond.methodLink RX1 36 yX7_put, Cond.static yX7_put, Cond.code yX7_put cX7_put 3 none, Cond.methodLink RX11 263 yX1_bestAsked, Cond.instanceMethod yX1_bestAsked, Cond.selects RX1 yX1_bestAsked yX1_bestAsked, Cond.code yX1_bestAsked cX1_bestAsked 5 (some .int), Cond.fieldLink RX1 69 "FourWalls$Plan" "witnesses" "I", Cond.methodLink RX1 74 yX1_greatestPart, Cond.instanceMethod yX1_greatestPart, Cond.selects RX1 yX1_greatestPart yX1_greatestPart, Cond.code yX1_greatestPart cX1_greatestPart 7 (some .int), Cond.fieldLink RX1 21 "FourWalls$Claims" "parts" "[I", Cond.methodLink RX1 77 Lib.Math.max.name]
def wsX11_ask : List Cond := .code yX11_ask cX11_ask 1 (some .int) :: ((wsX11_ask_r1 ++ (wsX11_ask_r2 ++ (wsX11_ask_r3 ++ wsX11_ask_r4))) ++ wsX110 ++ wsX50 ++ wsX10 ++ wsX20 ++ wsX80)
def wsX11_write : List Cond := .code yX11_write cX11_write 2 (some .int) :: ([.constant RX11 91 (-1000000002), .fieldLink RX11 82 "FourWalls" "book" "LFourWalls$Book;", .fieldLink RX11 124 "FourWalls$Book" "count" "I", .constant RX11 100 (-1000000004), .methodLink RX11 87 yX11_isOutside, .static yX11_isOutside, .initialized RX11, .code yX11_isOutside cX11_isOutside 2 (some .boolean), .methodLink RX11 266 yX0_add, .instanceMethod yX0_add, .selects RX0 yX0_add yX0_add, .initialized RX0, .code yX0_add cX0_add 2 (some .boolean), .fieldLink RX0 15 "FourWalls$Book" "count" "I", .fieldLink RX0 9 "FourWalls$Book" "entries" "[I", .methodLink RX0 19 yX7_put, .static yX7_put, .initialized RX7, .code yX7_put cX7_put 3 none] ++ wsX110 ++ wsX00)
def wsX11_tear : List Cond := .code yX11_tear cX11_tear 2 (some .int) :: ([.fieldLink RX11 75 "FourWalls" "claims" "LFourWalls$Claims;", .fieldLink RX11 121 "FourWalls$Claims" "count" "I", .fieldLink RX11 82 "FourWalls" "book" "LFourWalls$Book;", .fieldLink RX11 124 "FourWalls$Book" "count" "I"] ++ wsX110 ++ wsX10 ++ wsX00)
def wsX11_judge_r1 : List Cond := [Cond.fieldLink RX11 82 "FourWalls" "book" "LFourWalls$Book;", Cond.fieldLink RX11 35 "FourWalls" "state" "LFourWalls$State;", Cond.methodLink RX11 138 yX8_get, Cond.instanceMethod yX8_get, Cond.selects RX8 yX8_get yX8_get, Cond.initialized RX8, Cond.code yX8_get cX8_get 2 (some .int), Cond.fieldLink RX8 11 "FourWalls$State" "row" "[I", Cond.methodLink RX8 18 yX7_get, Cond.static yX7_get, Cond.initialized RX7, Cond.code yX7_get cX7_get 2 (some .int), Cond.methodLink RX11 267 yJ6_bitCount_0f7a4, Cond.static yJ6_bitCount_0f7a4, Cond.initialized RJ6, Cond.code yJ6_bitCount_0f7a4 cJ6_bitCount_0f7a4 1 (some .int), Cond.constant RJ6 265 (1431655765), Cond.constant RJ6 266 (858993459), Cond.constant RJ6 267 (252645135), Cond.methodLink RX11 272 yX0_firstOtherThan, Cond.instanceMethod yX0_firstOtherThan, Cond.selects RX0 yX0_firstOtherThan yX0_firstOtherThan, Cond.initialized RX0, Cond.code yX0_firstOtherThan cX0_firstOtherThan 3 (some .int)]
def wsX11_judge_r2 : List Cond := [Cond.fieldLink RX0 15 "FourWalls$Book" "count" "I", Cond.fieldLink RX0 9 "FourWalls$Book" "entries" "[I", Cond.methodLink RX0 25 yX7_get]
def wsX11_judge : List Cond := .code yX11_judge cX11_judge 1 (some .int) :: ((wsX11_judge_r1 ++ wsX11_judge_r2) ++ wsX110 ++ wsX80 ++ wsX00)
def wsX11_seed : List Cond := .code yX11_seed cX11_seed 3 (some .int) :: ([.constant RX11 91 (-1000000002), .fieldLink RX11 275 "FourWalls" "theSeed" "I"] ++ wsX110)
def wsX11_keep_r1 : List Cond := [Cond.constant RX11 146 (-1000000001), Cond.fieldLink RX11 282 "FourWalls$Image" "state" "LFourWalls$State;", Cond.fieldLink RX11 35 "FourWalls" "state" "LFourWalls$State;", Cond.fieldLink RX11 275 "FourWalls" "theSeed" "I", Cond.fieldLink RX11 285 "FourWalls$Image" "seed" "I", Cond.fieldLink RX11 288 "FourWalls$Image" "kept" "Z", Cond.fieldLink RX11 42 "FourWalls" "past" "LFourWalls$Past;", Cond.methodLink RX11 278 yX11_imageAt, Cond.instanceMethod yX11_imageAt, Cond.selects RX11 yX11_imageAt yX11_imageAt, Cond.initialized RX11, Cond.code yX11_imageAt cX11_imageAt 2 (some (.object "FourWalls$Image")), Cond.fieldLink RX11 48 "FourWalls" "images" "[LFourWalls$Image;", Cond.methodLink RX11 283 yX8_take, Cond.instanceMethod yX8_take, Cond.selects RX8 yX8_take yX8_take, Cond.initialized RX8, Cond.code yX8_take cX8_take 2 none, Cond.fieldLink RX8 11 "FourWalls$State" "row" "[I", Cond.methodLink RX8 28 yX7_copy, Cond.static yX7_copy, Cond.initialized RX7, Cond.code yX7_copy cX7_copy 6 none, Cond.methodLink RX7 7 yX7_get]
def wsX11_keep_r2 : List Cond := [Cond.static yX7_get, Cond.code yX7_get cX7_get 2 (some .int), Cond.methodLink RX7 13 yX7_put, Cond.static yX7_put, Cond.code yX7_put cX7_put 3 none, Cond.methodLink RX11 115 yX4_forget, Cond.instanceMethod yX4_forget, Cond.selects RX4 yX4_forget yX4_forget, Cond.initialized RX4, Cond.code yX4_forget cX4_forget 1 none, Cond.fieldLink RX4 30 "FourWalls$Past" "count" "I"]
def wsX11_keep : List Cond := .code yX11_keep cX11_keep 3 (some .int) :: ((wsX11_keep_r1 ++ wsX11_keep_r2) ++ wsX30 ++ wsX110 ++ wsX80 ++ wsX40)
def wsX11_goBack_r1 : List Cond := [Cond.constant RX11 146 (-1000000001), Cond.fieldLink RX11 288 "FourWalls$Image" "kept" "Z", Cond.constant RX11 193 (-1000000003), Cond.fieldLink RX11 35 "FourWalls" "state" "LFourWalls$State;", Cond.fieldLink RX11 282 "FourWalls$Image" "state" "LFourWalls$State;", Cond.fieldLink RX11 285 "FourWalls$Image" "seed" "I", Cond.fieldLink RX11 275 "FourWalls" "theSeed" "I", Cond.fieldLink RX11 42 "FourWalls" "past" "LFourWalls$Past;", Cond.methodLink RX11 278 yX11_imageAt, Cond.instanceMethod yX11_imageAt, Cond.selects RX11 yX11_imageAt yX11_imageAt, Cond.initialized RX11, Cond.code yX11_imageAt cX11_imageAt 2 (some (.object "FourWalls$Image")), Cond.fieldLink RX11 48 "FourWalls" "images" "[LFourWalls$Image;", Cond.methodLink RX11 283 yX8_take, Cond.instanceMethod yX8_take, Cond.selects RX8 yX8_take yX8_take, Cond.initialized RX8, Cond.code yX8_take cX8_take 2 none, Cond.fieldLink RX8 11 "FourWalls$State" "row" "[I", Cond.methodLink RX8 28 yX7_copy, Cond.static yX7_copy, Cond.initialized RX7, Cond.code yX7_copy cX7_copy 6 none]
def wsX11_goBack_r2 : List Cond := [Cond.methodLink RX7 7 yX7_get, Cond.static yX7_get, Cond.code yX7_get cX7_get 2 (some .int), Cond.methodLink RX7 13 yX7_put, Cond.static yX7_put, Cond.code yX7_put cX7_put 3 none, Cond.methodLink RX11 115 yX4_forget, Cond.instanceMethod yX4_forget, Cond.selects RX4 yX4_forget yX4_forget, Cond.initialized RX4, Cond.code yX4_forget cX4_forget 1 none, Cond.fieldLink RX4 30 "FourWalls$Past" "count" "I"]
def wsX11_goBack : List Cond := .code yX11_goBack cX11_goBack 3 (some .int) :: ((wsX11_goBack_r1 ++ wsX11_goBack_r2) ++ wsX30 ++ wsX110 ++ wsX80 ++ wsX40)
def wsX12_clearNow : List Cond := .code yX12_clearNow cX12_clearNow 2 none :: ([.fieldLink RX12 22 "FourWallsModel" "now" "[I"] ++ wsX120)
def wsX12_init_r1 : List Cond := [Cond.methodLink RX12 1 objectInit, Cond.instanceMethod objectInit, Cond.code objectInit ⟨#[0xb1]⟩ 1 none, Cond.arrayClass .int, Cond.fieldLink RX12 7 "FourWallsModel" "loud" "[I", Cond.fieldLink RX12 13 "FourWallsModel" "tone" "[I", Cond.fieldLink RX12 16 "FourWallsModel" "needs" "[I", Cond.fieldLink RX12 19 "FourWallsModel" "whose" "[I", Cond.fieldLink RX12 22 "FourWallsModel" "now" "[I", Cond.fieldLink RX12 25 "FourWallsModel" "text" "[I", Cond.fieldLink RX12 28 "FourWallsModel" "faultPlace" "I", Cond.fieldLink RX12 32 "FourWallsModel" "readThick" "[I", Cond.fieldLink RX12 35 "FourWallsModel" "readLoud" "[I", Cond.fieldLink RX12 38 "FourWallsModel" "readTone" "[I", Cond.fieldLink RX12 41 "FourWallsModel" "readPlace" "[I", Cond.fieldLink RX12 44 "FourWallsModel" "readNeeds" "[I", Cond.fieldLink RX12 47 "FourWallsModel" "readWhose" "[I", Cond.fieldLink RX12 50 "FourWallsModel" "past" "[I", Cond.fieldLink RX12 53 "FourWallsModel" "saidBy" "[I", Cond.fieldLink RX12 56 "FourWallsModel" "saidWhat" "[I", Cond.fieldLink RX12 59 "FourWallsModel" "parts" "[I", Cond.fieldLink RX12 62 "FourWallsModel" "book" "[I", Cond.fieldLink RX12 65 "FourWallsModel" "images" "[I", Cond.arrayClass .boolean]
def wsX12_init_r2 : List Cond := [Cond.fieldLink RX12 68 "FourWallsModel" "isKept" "[Z", Cond.methodLink RX12 72 yX12_clearNow, Cond.instanceMethod yX12_clearNow, Cond.selects RX12 yX12_clearNow yX12_clearNow, Cond.initialized RX12, Cond.code yX12_clearNow cX12_clearNow 2 none]
def wsX12_init : List Cond := .code yX12_init cX12_init 1 none :: ((wsX12_init_r1 ++ wsX12_init_r2) ++ wsX120)
def wsX12_in : List Cond := .code yX12_in cX12_in 6 (some .boolean) :: ([])
def wsX12_has : List Cond := .code yX12_has cX12_has 2 (some .boolean) :: ([])
def wsX12_bits : List Cond := .code yX12_bits cX12_bits 3 (some .int) :: ([])
def wsX12_places : List Cond := .code yX12_places cX12_places 1 (some .int) :: ([.fieldLink RX12 75 "FourWallsModel" "walls" "I"] ++ wsX120)
def wsX12_isPlace : List Cond := .code yX12_isPlace cX12_isPlace 2 (some .boolean) :: ([.methodLink RX12 78 yX12_places, .instanceMethod yX12_places, .selects RX12 yX12_places yX12_places, .initialized RX12, .code yX12_places cX12_places 1 (some .int), .fieldLink RX12 75 "FourWallsModel" "walls" "I", .methodLink RX12 82 yX12_in, .static yX12_in, .code yX12_in cX12_in 6 (some .boolean)] ++ wsX120)
def wsX12_isPlaces : List Cond := .code yX12_isPlaces cX12_isPlaces 2 (some .boolean) :: ([.methodLink RX12 78 yX12_places, .instanceMethod yX12_places, .selects RX12 yX12_places yX12_places, .initialized RX12, .code yX12_places cX12_places 1 (some .int), .fieldLink RX12 75 "FourWallsModel" "walls" "I", .methodLink RX12 82 yX12_in, .static yX12_in, .code yX12_in cX12_in 6 (some .boolean)] ++ wsX120)
def wsX12_isSound : List Cond := .code yX12_isSound cX12_isSound 2 (some .boolean) :: ([.fieldLink RX12 86 "FourWallsModel" "sounds" "I", .methodLink RX12 82 yX12_in, .static yX12_in, .initialized RX12, .code yX12_in cX12_in 6 (some .boolean)] ++ wsX120)
def wsX12_isWitness : List Cond := .code yX12_isWitness cX12_isWitness 2 (some .boolean) :: ([.fieldLink RX12 89 "FourWallsModel" "witnesses" "I", .methodLink RX12 82 yX12_in, .static yX12_in, .initialized RX12, .code yX12_in cX12_in 6 (some .boolean)] ++ wsX120)
def wsX12_feed : List Cond := .code yX12_feed cX12_feed 2 (some .int) :: ([.constantLong RX12 92 (255), .constant RX12 94 (-1000000002), .fieldLink RX12 95 "FourWallsModel" "texted" "I", .constant RX12 98 (-1000000004), .fieldLink RX12 25 "FourWallsModel" "text" "[I", .methodLink RX12 82 yX12_in, .static yX12_in, .initialized RX12, .code yX12_in cX12_in 6 (some .boolean)] ++ wsX120)
def wsX12_here : List Cond := .code yX12_here cX12_here 1 (some .int) :: ([.fieldLink RX12 99 "FourWallsModel" "at0" "I", .fieldLink RX12 95 "FourWallsModel" "texted" "I", .fieldLink RX12 25 "FourWallsModel" "text" "[I"] ++ wsX120)
def wsX12_fails : List Cond := .code yX12_fails cX12_fails 3 (some .int) :: ([.fieldLink RX12 28 "FourWallsModel" "faultPlace" "I"] ++ wsX120)
def wsX12_takeNumber : List Cond := .code yX12_takeNumber cX12_takeNumber 4 (some .int) :: ([.constantLong RX12 105 (48), .constantLong RX12 107 (57), .fieldLink RX12 99 "FourWallsModel" "at0" "I", .fieldLink RX12 113 "FourWallsModel" "numberAt" "I", .fieldLink RX12 116 "FourWallsModel" "number" "I", .fieldLink RX12 95 "FourWallsModel" "texted" "I", .fieldLink RX12 25 "FourWallsModel" "text" "[I", .methodLink RX12 102 yX12_here, .instanceMethod yX12_here, .selects RX12 yX12_here yX12_here, .initialized RX12, .code yX12_here cX12_here 1 (some .int), .methodLink RX12 82 yX12_in, .static yX12_in, .code yX12_in cX12_in 6 (some .boolean), .methodLink RX12 109 yX12_fails, .instanceMethod yX12_fails, .selects RX12 yX12_fails yX12_fails, .code yX12_fails cX12_fails 3 (some .int), .fieldLink RX12 28 "FourWallsModel" "faultPlace" "I"] ++ wsX120)
def wsX12_into : List Cond := .code yX12_into cX12_into 6 (some .int) :: ([.fieldLink RX12 116 "FourWallsModel" "number" "I", .methodLink RX12 119 yX12_takeNumber, .instanceMethod yX12_takeNumber, .selects RX12 yX12_takeNumber yX12_takeNumber, .initialized RX12, .code yX12_takeNumber cX12_takeNumber 4 (some .int), .constantLong RX12 105 (48), .constantLong RX12 107 (57), .fieldLink RX12 99 "FourWallsModel" "at0" "I", .fieldLink RX12 113 "FourWallsModel" "numberAt" "I", .fieldLink RX12 95 "FourWallsModel" "texted" "I", .fieldLink RX12 25 "FourWallsModel" "text" "[I", .methodLink RX12 102 yX12_here, .instanceMethod yX12_here, .selects RX12 yX12_here yX12_here, .code yX12_here cX12_here 1 (some .int), .methodLink RX12 82 yX12_in, .static yX12_in, .code yX12_in cX12_in 6 (some .boolean), .methodLink RX12 109 yX12_fails, .instanceMethod yX12_fails, .selects RX12 yX12_fails yX12_fails, .code yX12_fails cX12_fails 3 (some .int), .fieldLink RX12 28 "FourWallsModel" "faultPlace" "I"] ++ wsX120)
def wsX12_takeWalls_r1 : List Cond := [Cond.fieldLink RX12 32 "FourWallsModel" "readThick" "[I", Cond.fieldLink RX12 126 "FourWallsModel" "readWalls" "I", Cond.fieldLink RX12 99 "FourWallsModel" "at0" "I", Cond.methodLink RX12 122 yX12_into, Cond.instanceMethod yX12_into, Cond.selects RX12 yX12_into yX12_into, Cond.initialized RX12, Cond.code yX12_into cX12_into 6 (some .int), Cond.fieldLink RX12 116 "FourWallsModel" "number" "I", Cond.methodLink RX12 119 yX12_takeNumber, Cond.instanceMethod yX12_takeNumber, Cond.selects RX12 yX12_takeNumber yX12_takeNumber, Cond.code yX12_takeNumber cX12_takeNumber 4 (some .int), Cond.constantLong RX12 105 (48), Cond.constantLong RX12 107 (57), Cond.fieldLink RX12 113 "FourWallsModel" "numberAt" "I", Cond.fieldLink RX12 95 "FourWallsModel" "texted" "I", Cond.fieldLink RX12 25 "FourWallsModel" "text" "[I", Cond.methodLink RX12 102 yX12_here, Cond.instanceMethod yX12_here, Cond.selects RX12 yX12_here yX12_here, Cond.code yX12_here cX12_here 1 (some .int), Cond.methodLink RX12 82 yX12_in, Cond.static yX12_in]
def wsX12_takeWalls_r2 : List Cond := [Cond.code yX12_in cX12_in 6 (some .boolean), Cond.methodLink RX12 109 yX12_fails, Cond.instanceMethod yX12_fails, Cond.selects RX12 yX12_fails yX12_fails, Cond.code yX12_fails cX12_fails 3 (some .int), Cond.fieldLink RX12 28 "FourWallsModel" "faultPlace" "I"]
def wsX12_takeWalls : List Cond := .code yX12_takeWalls cX12_takeWalls 2 (some .int) :: ((wsX12_takeWalls_r1 ++ wsX12_takeWalls_r2) ++ wsX120)
def wsX12_takeWind_r1 : List Cond := [Cond.fieldLink RX12 116 "FourWallsModel" "number" "I", Cond.fieldLink RX12 129 "FourWallsModel" "readWind" "I", Cond.methodLink RX12 119 yX12_takeNumber, Cond.instanceMethod yX12_takeNumber, Cond.selects RX12 yX12_takeNumber yX12_takeNumber, Cond.initialized RX12, Cond.code yX12_takeNumber cX12_takeNumber 4 (some .int), Cond.constantLong RX12 105 (48), Cond.constantLong RX12 107 (57), Cond.fieldLink RX12 99 "FourWallsModel" "at0" "I", Cond.fieldLink RX12 113 "FourWallsModel" "numberAt" "I", Cond.fieldLink RX12 95 "FourWallsModel" "texted" "I", Cond.fieldLink RX12 25 "FourWallsModel" "text" "[I", Cond.methodLink RX12 102 yX12_here, Cond.instanceMethod yX12_here, Cond.selects RX12 yX12_here yX12_here, Cond.code yX12_here cX12_here 1 (some .int), Cond.methodLink RX12 82 yX12_in, Cond.static yX12_in, Cond.code yX12_in cX12_in 6 (some .boolean), Cond.methodLink RX12 109 yX12_fails, Cond.instanceMethod yX12_fails, Cond.selects RX12 yX12_fails yX12_fails, Cond.code yX12_fails cX12_fails 3 (some .int)]
def wsX12_takeWind_r2 : List Cond := [Cond.fieldLink RX12 28 "FourWallsModel" "faultPlace" "I"]
def wsX12_takeWind : List Cond := .code yX12_takeWind cX12_takeWind 2 (some .int) :: ((wsX12_takeWind_r1 ++ wsX12_takeWind_r2) ++ wsX120)
def wsX12_takeSound_r1 : List Cond := [Cond.fieldLink RX12 132 "FourWallsModel" "readSounds" "I", Cond.fieldLink RX12 35 "FourWallsModel" "readLoud" "[I", Cond.fieldLink RX12 38 "FourWallsModel" "readTone" "[I", Cond.methodLink RX12 122 yX12_into, Cond.instanceMethod yX12_into, Cond.selects RX12 yX12_into yX12_into, Cond.initialized RX12, Cond.code yX12_into cX12_into 6 (some .int), Cond.fieldLink RX12 116 "FourWallsModel" "number" "I", Cond.methodLink RX12 119 yX12_takeNumber, Cond.instanceMethod yX12_takeNumber, Cond.selects RX12 yX12_takeNumber yX12_takeNumber, Cond.code yX12_takeNumber cX12_takeNumber 4 (some .int), Cond.constantLong RX12 105 (48), Cond.constantLong RX12 107 (57), Cond.fieldLink RX12 99 "FourWallsModel" "at0" "I", Cond.fieldLink RX12 113 "FourWallsModel" "numberAt" "I", Cond.fieldLink RX12 95 "FourWallsModel" "texted" "I", Cond.fieldLink RX12 25 "FourWallsModel" "text" "[I", Cond.methodLink RX12 102 yX12_here, Cond.instanceMethod yX12_here, Cond.selects RX12 yX12_here yX12_here, Cond.code yX12_here cX12_here 1 (some .int), Cond.methodLink RX12 82 yX12_in]
def wsX12_takeSound_r2 : List Cond := [Cond.static yX12_in, Cond.code yX12_in cX12_in 6 (some .boolean), Cond.methodLink RX12 109 yX12_fails, Cond.instanceMethod yX12_fails, Cond.selects RX12 yX12_fails yX12_fails, Cond.code yX12_fails cX12_fails 3 (some .int), Cond.fieldLink RX12 28 "FourWallsModel" "faultPlace" "I"]
def wsX12_takeSound : List Cond := .code yX12_takeSound cX12_takeSound 3 (some .int) :: ((wsX12_takeSound_r1 ++ wsX12_takeSound_r2) ++ wsX120)
def wsX12_takeWitness_r1 : List Cond := [Cond.fieldLink RX12 135 "FourWallsModel" "readWitnesses" "I", Cond.fieldLink RX12 41 "FourWallsModel" "readPlace" "[I", Cond.fieldLink RX12 126 "FourWallsModel" "readWalls" "I", Cond.fieldLink RX12 44 "FourWallsModel" "readNeeds" "[I", Cond.fieldLink RX12 47 "FourWallsModel" "readWhose" "[I", Cond.methodLink RX12 122 yX12_into, Cond.instanceMethod yX12_into, Cond.selects RX12 yX12_into yX12_into, Cond.initialized RX12, Cond.code yX12_into cX12_into 6 (some .int), Cond.fieldLink RX12 116 "FourWallsModel" "number" "I", Cond.methodLink RX12 119 yX12_takeNumber, Cond.instanceMethod yX12_takeNumber, Cond.selects RX12 yX12_takeNumber yX12_takeNumber, Cond.code yX12_takeNumber cX12_takeNumber 4 (some .int), Cond.constantLong RX12 105 (48), Cond.constantLong RX12 107 (57), Cond.fieldLink RX12 99 "FourWallsModel" "at0" "I", Cond.fieldLink RX12 113 "FourWallsModel" "numberAt" "I", Cond.fieldLink RX12 95 "FourWallsModel" "texted" "I", Cond.fieldLink RX12 25 "FourWallsModel" "text" "[I", Cond.methodLink RX12 102 yX12_here, Cond.instanceMethod yX12_here, Cond.selects RX12 yX12_here yX12_here]
def wsX12_takeWitness_r2 : List Cond := [Cond.code yX12_here cX12_here 1 (some .int), Cond.methodLink RX12 82 yX12_in, Cond.static yX12_in, Cond.code yX12_in cX12_in 6 (some .boolean), Cond.methodLink RX12 109 yX12_fails, Cond.instanceMethod yX12_fails, Cond.selects RX12 yX12_fails yX12_fails, Cond.code yX12_fails cX12_fails 3 (some .int), Cond.fieldLink RX12 28 "FourWallsModel" "faultPlace" "I"]
def wsX12_takeWitness : List Cond := .code yX12_takeWitness cX12_takeWitness 3 (some .int) :: ((wsX12_takeWitness_r1 ++ wsX12_takeWitness_r2) ++ wsX120)
def wsX12_takeClause_r1 : List Cond := [Cond.fieldLink RX12 126 "FourWallsModel" "readWalls" "I", Cond.fieldLink RX12 99 "FourWallsModel" "at0" "I", Cond.fieldLink RX12 129 "FourWallsModel" "readWind" "I", Cond.fieldLink RX12 132 "FourWallsModel" "readSounds" "I", Cond.fieldLink RX12 135 "FourWallsModel" "readWitnesses" "I", Cond.methodLink RX12 102 yX12_here, Cond.instanceMethod yX12_here, Cond.selects RX12 yX12_here yX12_here, Cond.initialized RX12, Cond.code yX12_here cX12_here 1 (some .int), Cond.fieldLink RX12 95 "FourWallsModel" "texted" "I", Cond.fieldLink RX12 25 "FourWallsModel" "text" "[I", Cond.methodLink RX12 109 yX12_fails, Cond.instanceMethod yX12_fails, Cond.selects RX12 yX12_fails yX12_fails, Cond.code yX12_fails cX12_fails 3 (some .int), Cond.fieldLink RX12 28 "FourWallsModel" "faultPlace" "I", Cond.methodLink RX12 138 yX12_takeWalls, Cond.instanceMethod yX12_takeWalls, Cond.selects RX12 yX12_takeWalls yX12_takeWalls, Cond.code yX12_takeWalls cX12_takeWalls 2 (some .int), Cond.fieldLink RX12 32 "FourWallsModel" "readThick" "[I", Cond.methodLink RX12 122 yX12_into, Cond.instanceMethod yX12_into]
def wsX12_takeClause_r2 : List Cond := [Cond.selects RX12 yX12_into yX12_into, Cond.code yX12_into cX12_into 6 (some .int), Cond.fieldLink RX12 116 "FourWallsModel" "number" "I", Cond.methodLink RX12 119 yX12_takeNumber, Cond.instanceMethod yX12_takeNumber, Cond.selects RX12 yX12_takeNumber yX12_takeNumber, Cond.code yX12_takeNumber cX12_takeNumber 4 (some .int), Cond.constantLong RX12 105 (48), Cond.constantLong RX12 107 (57), Cond.fieldLink RX12 113 "FourWallsModel" "numberAt" "I", Cond.methodLink RX12 82 yX12_in, Cond.static yX12_in, Cond.code yX12_in cX12_in 6 (some .boolean), Cond.methodLink RX12 141 yX12_takeWind, Cond.instanceMethod yX12_takeWind, Cond.selects RX12 yX12_takeWind yX12_takeWind, Cond.code yX12_takeWind cX12_takeWind 2 (some .int), Cond.methodLink RX12 144 yX12_takeSound, Cond.instanceMethod yX12_takeSound, Cond.selects RX12 yX12_takeSound yX12_takeSound, Cond.code yX12_takeSound cX12_takeSound 3 (some .int), Cond.fieldLink RX12 35 "FourWallsModel" "readLoud" "[I", Cond.fieldLink RX12 38 "FourWallsModel" "readTone" "[I", Cond.methodLink RX12 147 yX12_takeWitness]
def wsX12_takeClause_r3 : List Cond := [Cond.instanceMethod yX12_takeWitness, Cond.selects RX12 yX12_takeWitness yX12_takeWitness, Cond.code yX12_takeWitness cX12_takeWitness 3 (some .int), Cond.fieldLink RX12 41 "FourWallsModel" "readPlace" "[I", Cond.fieldLink RX12 44 "FourWallsModel" "readNeeds" "[I", Cond.fieldLink RX12 47 "FourWallsModel" "readWhose" "[I"]
def wsX12_takeClause : List Cond := .code yX12_takeClause cX12_takeClause 5 (some .int) :: ((wsX12_takeClause_r1 ++ (wsX12_takeClause_r2 ++ wsX12_takeClause_r3)) ++ wsX120)
def wsX12_takeRead : List Cond := .code yX12_takeRead cX12_takeRead 2 none :: ([.fieldLink RX12 126 "FourWallsModel" "readWalls" "I", .fieldLink RX12 75 "FourWallsModel" "walls" "I", .fieldLink RX12 132 "FourWallsModel" "readSounds" "I", .fieldLink RX12 86 "FourWallsModel" "sounds" "I", .fieldLink RX12 135 "FourWallsModel" "readWitnesses" "I", .fieldLink RX12 89 "FourWallsModel" "witnesses" "I", .fieldLink RX12 22 "FourWallsModel" "now" "[I", .fieldLink RX12 32 "FourWallsModel" "readThick" "[I", .fieldLink RX12 129 "FourWallsModel" "readWind" "I", .fieldLink RX12 7 "FourWallsModel" "loud" "[I", .fieldLink RX12 35 "FourWallsModel" "readLoud" "[I", .fieldLink RX12 13 "FourWallsModel" "tone" "[I", .fieldLink RX12 38 "FourWallsModel" "readTone" "[I", .fieldLink RX12 41 "FourWallsModel" "readPlace" "[I", .fieldLink RX12 16 "FourWallsModel" "needs" "[I", .fieldLink RX12 44 "FourWallsModel" "readNeeds" "[I", .fieldLink RX12 19 "FourWallsModel" "whose" "[I", .fieldLink RX12 47 "FourWallsModel" "readWhose" "[I", .methodLink RX12 72 yX12_clearNow, .instanceMethod yX12_clearNow, .selects RX12 yX12_clearNow yX12_clearNow, .initialized RX12, .code yX12_clearNow cX12_clearNow 2 none] ++ wsX120)
def wsX12_house_r1 : List Cond := [Cond.fieldLink RX12 28 "FourWallsModel" "faultPlace" "I", Cond.fieldLink RX12 99 "FourWallsModel" "at0" "I", Cond.fieldLink RX12 126 "FourWallsModel" "readWalls" "I", Cond.fieldLink RX12 129 "FourWallsModel" "readWind" "I", Cond.fieldLink RX12 132 "FourWallsModel" "readSounds" "I", Cond.fieldLink RX12 135 "FourWallsModel" "readWitnesses" "I", Cond.fieldLink RX12 95 "FourWallsModel" "texted" "I", Cond.fieldLink RX12 156 "FourWallsModel" "said" "I", Cond.fieldLink RX12 159 "FourWallsModel" "booked" "I", Cond.fieldLink RX12 162 "FourWallsModel" "undos" "I", Cond.fieldLink RX12 68 "FourWallsModel" "isKept" "[Z", Cond.methodLink RX12 102 yX12_here, Cond.instanceMethod yX12_here, Cond.selects RX12 yX12_here yX12_here, Cond.initialized RX12, Cond.code yX12_here cX12_here 1 (some .int), Cond.fieldLink RX12 25 "FourWallsModel" "text" "[I", Cond.methodLink RX12 150 yX12_takeClause, Cond.instanceMethod yX12_takeClause, Cond.selects RX12 yX12_takeClause yX12_takeClause, Cond.code yX12_takeClause cX12_takeClause 5 (some .int), Cond.methodLink RX12 109 yX12_fails, Cond.instanceMethod yX12_fails, Cond.selects RX12 yX12_fails yX12_fails]
def wsX12_house_r2 : List Cond := [Cond.code yX12_fails cX12_fails 3 (some .int), Cond.methodLink RX12 138 yX12_takeWalls, Cond.instanceMethod yX12_takeWalls, Cond.selects RX12 yX12_takeWalls yX12_takeWalls, Cond.code yX12_takeWalls cX12_takeWalls 2 (some .int), Cond.fieldLink RX12 32 "FourWallsModel" "readThick" "[I", Cond.methodLink RX12 122 yX12_into, Cond.instanceMethod yX12_into, Cond.selects RX12 yX12_into yX12_into, Cond.code yX12_into cX12_into 6 (some .int), Cond.fieldLink RX12 116 "FourWallsModel" "number" "I", Cond.methodLink RX12 119 yX12_takeNumber, Cond.instanceMethod yX12_takeNumber, Cond.selects RX12 yX12_takeNumber yX12_takeNumber, Cond.code yX12_takeNumber cX12_takeNumber 4 (some .int), Cond.constantLong RX12 105 (48), Cond.constantLong RX12 107 (57), Cond.fieldLink RX12 113 "FourWallsModel" "numberAt" "I", Cond.methodLink RX12 82 yX12_in, Cond.static yX12_in, Cond.code yX12_in cX12_in 6 (some .boolean), Cond.methodLink RX12 141 yX12_takeWind, Cond.instanceMethod yX12_takeWind, Cond.selects RX12 yX12_takeWind yX12_takeWind]
def wsX12_house_r3 : List Cond := [Cond.code yX12_takeWind cX12_takeWind 2 (some .int), Cond.methodLink RX12 144 yX12_takeSound, Cond.instanceMethod yX12_takeSound, Cond.selects RX12 yX12_takeSound yX12_takeSound, Cond.code yX12_takeSound cX12_takeSound 3 (some .int), Cond.fieldLink RX12 35 "FourWallsModel" "readLoud" "[I", Cond.fieldLink RX12 38 "FourWallsModel" "readTone" "[I", Cond.methodLink RX12 147 yX12_takeWitness, Cond.instanceMethod yX12_takeWitness, Cond.selects RX12 yX12_takeWitness yX12_takeWitness, Cond.code yX12_takeWitness cX12_takeWitness 3 (some .int), Cond.fieldLink RX12 41 "FourWallsModel" "readPlace" "[I", Cond.fieldLink RX12 44 "FourWallsModel" "readNeeds" "[I", Cond.fieldLink RX12 47 "FourWallsModel" "readWhose" "[I", Cond.methodLink RX12 153 yX12_takeRead, Cond.instanceMethod yX12_takeRead, Cond.selects RX12 yX12_takeRead yX12_takeRead, Cond.code yX12_takeRead cX12_takeRead 2 none, Cond.fieldLink RX12 75 "FourWallsModel" "walls" "I", Cond.fieldLink RX12 86 "FourWallsModel" "sounds" "I", Cond.fieldLink RX12 89 "FourWallsModel" "witnesses" "I", Cond.fieldLink RX12 22 "FourWallsModel" "now" "[I", Cond.fieldLink RX12 7 "FourWallsModel" "loud" "[I", Cond.fieldLink RX12 13 "FourWallsModel" "tone" "[I"]
def wsX12_house_r4 : List Cond := [Cond.fieldLink RX12 16 "FourWallsModel" "needs" "[I", Cond.fieldLink RX12 19 "FourWallsModel" "whose" "[I", Cond.methodLink RX12 72 yX12_clearNow, Cond.instanceMethod yX12_clearNow, Cond.selects RX12 yX12_clearNow yX12_clearNow, Cond.code yX12_clearNow cX12_clearNow 2 none, Cond.methodLink RX12 78 yX12_places, Cond.instanceMethod yX12_places, Cond.selects RX12 yX12_places yX12_places, Cond.code yX12_places cX12_places 1 (some .int)]
def wsX12_house : List Cond := .code yX12_house cX12_house 2 (some .int) :: ((wsX12_house_r1 ++ (wsX12_house_r2 ++ (wsX12_house_r3 ++ wsX12_house_r4))) ++ wsX120)
def wsX12_fault : List Cond := .code yX12_fault cX12_fault 1 (some .int) :: ([.fieldLink RX12 28 "FourWallsModel" "faultPlace" "I"] ++ wsX120)
def wsX12_told : List Cond := .code yX12_told cX12_told 2 (some .int) :: ([.fieldLink RX12 86 "FourWallsModel" "sounds" "I", .fieldLink RX12 89 "FourWallsModel" "witnesses" "I", .fieldLink RX12 95 "FourWallsModel" "texted" "I", .fieldLink RX12 22 "FourWallsModel" "now" "[I", .fieldLink RX12 156 "FourWallsModel" "said" "I", .fieldLink RX12 159 "FourWallsModel" "booked" "I", .fieldLink RX12 162 "FourWallsModel" "undos" "I", .constant RX12 94 (-1000000002), .methodLink RX12 78 yX12_places, .instanceMethod yX12_places, .selects RX12 yX12_places yX12_places, .initialized RX12, .code yX12_places cX12_places 1 (some .int), .fieldLink RX12 75 "FourWallsModel" "walls" "I"] ++ wsX120)
def wsX12_thick : List Cond := .code yX12_thick cX12_thick 2 (some .int) :: ([.fieldLink RX12 75 "FourWallsModel" "walls" "I", .fieldLink RX12 22 "FourWallsModel" "now" "[I", .constant RX12 165 (-1000000001), .methodLink RX12 82 yX12_in, .static yX12_in, .initialized RX12, .code yX12_in cX12_in 6 (some .boolean)] ++ wsX120)
def wsX12_sound : List Cond := .code yX12_sound cX12_sound 3 (some .int) :: ([.constant RX12 165 (-1000000001), .fieldLink RX12 7 "FourWallsModel" "loud" "[I", .fieldLink RX12 13 "FourWallsModel" "tone" "[I", .constant RX12 94 (-1000000002), .methodLink RX12 166 yX12_isSound, .instanceMethod yX12_isSound, .selects RX12 yX12_isSound yX12_isSound, .initialized RX12, .code yX12_isSound cX12_isSound 2 (some .boolean), .fieldLink RX12 86 "FourWallsModel" "sounds" "I", .methodLink RX12 82 yX12_in, .static yX12_in, .code yX12_in cX12_in 6 (some .boolean)] ++ wsX120)
def wsX12_witness : List Cond := .code yX12_witness cX12_witness 3 (some .int) :: ([.constant RX12 165 (-1000000001), .fieldLink RX12 22 "FourWallsModel" "now" "[I", .fieldLink RX12 16 "FourWallsModel" "needs" "[I", .fieldLink RX12 19 "FourWallsModel" "whose" "[I", .constant RX12 94 (-1000000002), .methodLink RX12 170 yX12_isWitness, .instanceMethod yX12_isWitness, .selects RX12 yX12_isWitness yX12_isWitness, .initialized RX12, .code yX12_isWitness cX12_isWitness 2 (some .boolean), .fieldLink RX12 89 "FourWallsModel" "witnesses" "I", .methodLink RX12 82 yX12_in, .static yX12_in, .code yX12_in cX12_in 6 (some .boolean)] ++ wsX120)
def wsX12_loudAt : List Cond := .code yX12_loudAt cX12_loudAt 8 (some .int) :: ([.fieldLink RX12 7 "FourWallsModel" "loud" "[I", .fieldLink RX12 22 "FourWallsModel" "now" "[I"] ++ wsX120)
def wsX12_hears : List Cond := .code yX12_hears cX12_hears 4 (some .boolean) :: ([.fieldLink RX12 22 "FourWallsModel" "now" "[I", .fieldLink RX12 16 "FourWallsModel" "needs" "[I", .methodLink RX12 173 yX12_loudAt, .instanceMethod yX12_loudAt, .selects RX12 yX12_loudAt yX12_loudAt, .initialized RX12, .code yX12_loudAt cX12_loudAt 8 (some .int), .fieldLink RX12 7 "FourWallsModel" "loud" "[I"] ++ wsX120)
def wsX12_hearsTone : List Cond := .code yX12_hearsTone cX12_hearsTone 4 (some .boolean) :: ([.fieldLink RX12 22 "FourWallsModel" "now" "[I", .fieldLink RX12 16 "FourWallsModel" "needs" "[I", .methodLink RX12 173 yX12_loudAt, .instanceMethod yX12_loudAt, .selects RX12 yX12_loudAt yX12_loudAt, .initialized RX12, .code yX12_loudAt cX12_loudAt 8 (some .int), .fieldLink RX12 7 "FourWallsModel" "loud" "[I"] ++ wsX120)
def wsX12_widowers : List Cond := .code yX12_widowers cX12_widowers 1 (some .int) :: ([.fieldLink RX12 86 "FourWallsModel" "sounds" "I", .fieldLink RX12 13 "FourWallsModel" "tone" "[I"] ++ wsX120)
def wsX12_sayingOf : List Cond := .code yX12_sayingOf cX12_sayingOf 4 (some .int) :: ([.fieldLink RX12 19 "FourWallsModel" "whose" "[I", .fieldLink RX12 13 "FourWallsModel" "tone" "[I", .methodLink RX12 177 yX12_widowers, .instanceMethod yX12_widowers, .selects RX12 yX12_widowers yX12_widowers, .initialized RX12, .code yX12_widowers cX12_widowers 1 (some .int), .fieldLink RX12 86 "FourWallsModel" "sounds" "I", .methodLink RX12 180 yX12_hearsTone, .instanceMethod yX12_hearsTone, .selects RX12 yX12_hearsTone yX12_hearsTone, .code yX12_hearsTone cX12_hearsTone 4 (some .boolean), .fieldLink RX12 22 "FourWallsModel" "now" "[I", .fieldLink RX12 16 "FourWallsModel" "needs" "[I", .methodLink RX12 173 yX12_loudAt, .instanceMethod yX12_loudAt, .selects RX12 yX12_loudAt yX12_loudAt, .code yX12_loudAt cX12_loudAt 8 (some .int), .fieldLink RX12 7 "FourWallsModel" "loud" "[I", .methodLink RX12 184 yX12_hears, .instanceMethod yX12_hears, .selects RX12 yX12_hears yX12_hears, .code yX12_hears cX12_hears 4 (some .boolean)] ++ wsX120)
def wsX12_remember : List Cond := .code yX12_remember cX12_remember 2 none :: ([.fieldLink RX12 162 "FourWallsModel" "undos" "I", .fieldLink RX12 50 "FourWallsModel" "past" "[I", .fieldLink RX12 22 "FourWallsModel" "now" "[I"] ++ wsX120)
def wsX12_morningOf_r1 : List Cond := [Cond.fieldLink RX12 22 "FourWallsModel" "now" "[I", Cond.fieldLink RX12 89 "FourWallsModel" "witnesses" "I", Cond.methodLink RX12 184 yX12_hears, Cond.instanceMethod yX12_hears, Cond.selects RX12 yX12_hears yX12_hears, Cond.initialized RX12, Cond.code yX12_hears cX12_hears 4 (some .boolean), Cond.fieldLink RX12 16 "FourWallsModel" "needs" "[I", Cond.methodLink RX12 173 yX12_loudAt, Cond.instanceMethod yX12_loudAt, Cond.selects RX12 yX12_loudAt yX12_loudAt, Cond.code yX12_loudAt cX12_loudAt 8 (some .int), Cond.fieldLink RX12 7 "FourWallsModel" "loud" "[I", Cond.methodLink RX12 180 yX12_hearsTone, Cond.instanceMethod yX12_hearsTone, Cond.selects RX12 yX12_hearsTone yX12_hearsTone, Cond.code yX12_hearsTone cX12_hearsTone 4 (some .boolean), Cond.methodLink RX12 187 yX12_sayingOf, Cond.instanceMethod yX12_sayingOf, Cond.selects RX12 yX12_sayingOf yX12_sayingOf, Cond.code yX12_sayingOf cX12_sayingOf 4 (some .int), Cond.fieldLink RX12 19 "FourWallsModel" "whose" "[I", Cond.fieldLink RX12 13 "FourWallsModel" "tone" "[I", Cond.methodLink RX12 177 yX12_widowers]
def wsX12_morningOf_r2 : List Cond := [Cond.instanceMethod yX12_widowers, Cond.selects RX12 yX12_widowers yX12_widowers, Cond.code yX12_widowers cX12_widowers 1 (some .int), Cond.fieldLink RX12 86 "FourWallsModel" "sounds" "I"]
def wsX12_morningOf : List Cond := .code yX12_morningOf cX12_morningOf 4 none :: ((wsX12_morningOf_r1 ++ wsX12_morningOf_r2) ++ wsX120)
def wsX12_morning_r1 : List Cond := [Cond.constant RX12 165 (-1000000001), Cond.fieldLink RX12 22 "FourWallsModel" "now" "[I", Cond.constant RX12 98 (-1000000004), Cond.methodLink RX12 166 yX12_isSound, Cond.instanceMethod yX12_isSound, Cond.selects RX12 yX12_isSound yX12_isSound, Cond.initialized RX12, Cond.code yX12_isSound cX12_isSound 2 (some .boolean), Cond.fieldLink RX12 86 "FourWallsModel" "sounds" "I", Cond.methodLink RX12 82 yX12_in, Cond.static yX12_in, Cond.code yX12_in cX12_in 6 (some .boolean), Cond.methodLink RX12 190 yX12_isPlace, Cond.instanceMethod yX12_isPlace, Cond.selects RX12 yX12_isPlace yX12_isPlace, Cond.code yX12_isPlace cX12_isPlace 2 (some .boolean), Cond.methodLink RX12 78 yX12_places, Cond.instanceMethod yX12_places, Cond.selects RX12 yX12_places yX12_places, Cond.code yX12_places cX12_places 1 (some .int), Cond.fieldLink RX12 75 "FourWallsModel" "walls" "I", Cond.methodLink RX12 193 yX12_remember, Cond.instanceMethod yX12_remember, Cond.selects RX12 yX12_remember yX12_remember]
def wsX12_morning_r2 : List Cond := [Cond.code yX12_remember cX12_remember 2 none, Cond.fieldLink RX12 162 "FourWallsModel" "undos" "I", Cond.fieldLink RX12 50 "FourWallsModel" "past" "[I", Cond.methodLink RX12 196 yX12_morningOf, Cond.instanceMethod yX12_morningOf, Cond.selects RX12 yX12_morningOf yX12_morningOf, Cond.code yX12_morningOf cX12_morningOf 4 none, Cond.fieldLink RX12 89 "FourWallsModel" "witnesses" "I", Cond.methodLink RX12 184 yX12_hears, Cond.instanceMethod yX12_hears, Cond.selects RX12 yX12_hears yX12_hears, Cond.code yX12_hears cX12_hears 4 (some .boolean), Cond.fieldLink RX12 16 "FourWallsModel" "needs" "[I", Cond.methodLink RX12 173 yX12_loudAt, Cond.instanceMethod yX12_loudAt, Cond.selects RX12 yX12_loudAt yX12_loudAt, Cond.code yX12_loudAt cX12_loudAt 8 (some .int), Cond.fieldLink RX12 7 "FourWallsModel" "loud" "[I", Cond.methodLink RX12 180 yX12_hearsTone, Cond.instanceMethod yX12_hearsTone, Cond.selects RX12 yX12_hearsTone yX12_hearsTone, Cond.code yX12_hearsTone cX12_hearsTone 4 (some .boolean), Cond.methodLink RX12 187 yX12_sayingOf, Cond.instanceMethod yX12_sayingOf]
def wsX12_morning_r3 : List Cond := [Cond.selects RX12 yX12_sayingOf yX12_sayingOf, Cond.code yX12_sayingOf cX12_sayingOf 4 (some .int), Cond.fieldLink RX12 19 "FourWallsModel" "whose" "[I", Cond.fieldLink RX12 13 "FourWallsModel" "tone" "[I", Cond.methodLink RX12 177 yX12_widowers, Cond.instanceMethod yX12_widowers, Cond.selects RX12 yX12_widowers yX12_widowers, Cond.code yX12_widowers cX12_widowers 1 (some .int)]
def wsX12_morning : List Cond := .code yX12_morning cX12_morning 3 (some .int) :: ((wsX12_morning_r1 ++ (wsX12_morning_r2 ++ wsX12_morning_r3)) ++ wsX120)
def wsX12_move_r1 : List Cond := [Cond.constant RX12 165 (-1000000001), Cond.fieldLink RX12 22 "FourWallsModel" "now" "[I", Cond.methodLink RX12 170 yX12_isWitness, Cond.instanceMethod yX12_isWitness, Cond.selects RX12 yX12_isWitness yX12_isWitness, Cond.initialized RX12, Cond.code yX12_isWitness cX12_isWitness 2 (some .boolean), Cond.fieldLink RX12 89 "FourWallsModel" "witnesses" "I", Cond.methodLink RX12 82 yX12_in, Cond.static yX12_in, Cond.code yX12_in cX12_in 6 (some .boolean), Cond.methodLink RX12 190 yX12_isPlace, Cond.instanceMethod yX12_isPlace, Cond.selects RX12 yX12_isPlace yX12_isPlace, Cond.code yX12_isPlace cX12_isPlace 2 (some .boolean), Cond.methodLink RX12 78 yX12_places, Cond.instanceMethod yX12_places, Cond.selects RX12 yX12_places yX12_places, Cond.code yX12_places cX12_places 1 (some .int), Cond.fieldLink RX12 75 "FourWallsModel" "walls" "I", Cond.methodLink RX12 193 yX12_remember, Cond.instanceMethod yX12_remember, Cond.selects RX12 yX12_remember yX12_remember, Cond.code yX12_remember cX12_remember 2 none]
def wsX12_move_r2 : List Cond := [Cond.fieldLink RX12 162 "FourWallsModel" "undos" "I", Cond.fieldLink RX12 50 "FourWallsModel" "past" "[I"]
def wsX12_move : List Cond := .code yX12_move cX12_move 4 (some .int) :: ((wsX12_move_r1 ++ wsX12_move_r2) ++ wsX120)
def wsX12_wall : List Cond := .code yX12_wall cX12_wall 4 (some .int) :: ([.fieldLink RX12 75 "FourWallsModel" "walls" "I", .constant RX12 165 (-1000000001), .constantLong RX12 200 (20), .constant RX12 94 (-1000000002), .fieldLink RX12 22 "FourWallsModel" "now" "[I", .methodLink RX12 82 yX12_in, .static yX12_in, .initialized RX12, .code yX12_in cX12_in 6 (some .boolean), .methodLink RX12 193 yX12_remember, .instanceMethod yX12_remember, .selects RX12 yX12_remember yX12_remember, .code yX12_remember cX12_remember 2 none, .fieldLink RX12 162 "FourWallsModel" "undos" "I", .fieldLink RX12 50 "FourWallsModel" "past" "[I"] ++ wsX120)
def wsX12_wind : List Cond := .code yX12_wind cX12_wind 3 (some .int) :: ([.constantLong RX12 202 (18), .constant RX12 94 (-1000000002), .fieldLink RX12 75 "FourWallsModel" "walls" "I", .constant RX12 204 (-1000000003), .fieldLink RX12 22 "FourWallsModel" "now" "[I", .methodLink RX12 82 yX12_in, .static yX12_in, .initialized RX12, .code yX12_in cX12_in 6 (some .boolean), .methodLink RX12 193 yX12_remember, .instanceMethod yX12_remember, .selects RX12 yX12_remember yX12_remember, .code yX12_remember cX12_remember 2 none, .fieldLink RX12 162 "FourWallsModel" "undos" "I", .fieldLink RX12 50 "FourWallsModel" "past" "[I"] ++ wsX120)
def wsX12_draw : List Cond := .code yX12_draw cX12_draw 2 (some .int) :: ([.fieldLink RX12 205 "FourWallsModel" "seed" "I", .constantLong RX12 208 (1103515245), .constantLong RX12 210 (12345), .constantLong RX12 212 (2147483648), .constant RX12 214 (65536)] ++ wsX120)
def wsX12_drift_r1 : List Cond := [Cond.constantLong RX12 215 (60), Cond.constant RX12 94 (-1000000002), Cond.fieldLink RX12 75 "FourWallsModel" "walls" "I", Cond.constant RX12 204 (-1000000003), Cond.fieldLink RX12 22 "FourWallsModel" "now" "[I", Cond.constant RX12 98 (-1000000004), Cond.fieldLink RX12 86 "FourWallsModel" "sounds" "I", Cond.methodLink RX12 82 yX12_in, Cond.static yX12_in, Cond.initialized RX12, Cond.code yX12_in cX12_in 6 (some .boolean), Cond.methodLink RX12 193 yX12_remember, Cond.instanceMethod yX12_remember, Cond.selects RX12 yX12_remember yX12_remember, Cond.code yX12_remember cX12_remember 2 none, Cond.fieldLink RX12 162 "FourWallsModel" "undos" "I", Cond.fieldLink RX12 50 "FourWallsModel" "past" "[I", Cond.methodLink RX12 217 yX12_draw, Cond.instanceMethod yX12_draw, Cond.selects RX12 yX12_draw yX12_draw, Cond.code yX12_draw cX12_draw 2 (some .int), Cond.fieldLink RX12 205 "FourWallsModel" "seed" "I", Cond.constantLong RX12 208 (1103515245), Cond.constantLong RX12 210 (12345)]
def wsX12_drift_r2 : List Cond := [Cond.constantLong RX12 212 (2147483648), Cond.constant RX12 214 (65536), Cond.methodLink RX12 78 yX12_places, Cond.instanceMethod yX12_places, Cond.selects RX12 yX12_places yX12_places, Cond.code yX12_places cX12_places 1 (some .int), Cond.methodLink RX12 196 yX12_morningOf, Cond.instanceMethod yX12_morningOf, Cond.selects RX12 yX12_morningOf yX12_morningOf, Cond.code yX12_morningOf cX12_morningOf 4 none, Cond.fieldLink RX12 89 "FourWallsModel" "witnesses" "I", Cond.methodLink RX12 184 yX12_hears, Cond.instanceMethod yX12_hears, Cond.selects RX12 yX12_hears yX12_hears, Cond.code yX12_hears cX12_hears 4 (some .boolean), Cond.fieldLink RX12 16 "FourWallsModel" "needs" "[I", Cond.methodLink RX12 173 yX12_loudAt, Cond.instanceMethod yX12_loudAt, Cond.selects RX12 yX12_loudAt yX12_loudAt, Cond.code yX12_loudAt cX12_loudAt 8 (some .int), Cond.fieldLink RX12 7 "FourWallsModel" "loud" "[I", Cond.methodLink RX12 180 yX12_hearsTone, Cond.instanceMethod yX12_hearsTone, Cond.selects RX12 yX12_hearsTone yX12_hearsTone]
def wsX12_drift_r3 : List Cond := [Cond.code yX12_hearsTone cX12_hearsTone 4 (some .boolean), Cond.methodLink RX12 187 yX12_sayingOf, Cond.instanceMethod yX12_sayingOf, Cond.selects RX12 yX12_sayingOf yX12_sayingOf, Cond.code yX12_sayingOf cX12_sayingOf 4 (some .int), Cond.fieldLink RX12 19 "FourWallsModel" "whose" "[I", Cond.fieldLink RX12 13 "FourWallsModel" "tone" "[I", Cond.methodLink RX12 177 yX12_widowers, Cond.instanceMethod yX12_widowers, Cond.selects RX12 yX12_widowers yX12_widowers, Cond.code yX12_widowers cX12_widowers 1 (some .int)]
def wsX12_drift : List Cond := .code yX12_drift cX12_drift 4 (some .int) :: ((wsX12_drift_r1 ++ (wsX12_drift_r2 ++ wsX12_drift_r3)) ++ wsX120)
def wsX12_undo : List Cond := .code yX12_undo cX12_undo 2 (some .int) :: ([.fieldLink RX12 162 "FourWallsModel" "undos" "I", .constant RX12 204 (-1000000003), .fieldLink RX12 22 "FourWallsModel" "now" "[I", .fieldLink RX12 50 "FourWallsModel" "past" "[I"] ++ wsX120)
def wsX12_comes_r1 : List Cond := [Cond.constant RX12 165 (-1000000001), Cond.methodLink RX12 166 yX12_isSound, Cond.instanceMethod yX12_isSound, Cond.selects RX12 yX12_isSound yX12_isSound, Cond.initialized RX12, Cond.code yX12_isSound cX12_isSound 2 (some .boolean), Cond.fieldLink RX12 86 "FourWallsModel" "sounds" "I", Cond.methodLink RX12 82 yX12_in, Cond.static yX12_in, Cond.code yX12_in cX12_in 6 (some .boolean), Cond.methodLink RX12 190 yX12_isPlace, Cond.instanceMethod yX12_isPlace, Cond.selects RX12 yX12_isPlace yX12_isPlace, Cond.code yX12_isPlace cX12_isPlace 2 (some .boolean), Cond.methodLink RX12 78 yX12_places, Cond.instanceMethod yX12_places, Cond.selects RX12 yX12_places yX12_places, Cond.code yX12_places cX12_places 1 (some .int), Cond.fieldLink RX12 75 "FourWallsModel" "walls" "I", Cond.methodLink RX12 173 yX12_loudAt, Cond.instanceMethod yX12_loudAt, Cond.selects RX12 yX12_loudAt yX12_loudAt, Cond.code yX12_loudAt cX12_loudAt 8 (some .int), Cond.fieldLink RX12 7 "FourWallsModel" "loud" "[I"]
def wsX12_comes_r2 : List Cond := [Cond.fieldLink RX12 22 "FourWallsModel" "now" "[I"]
def wsX12_comes : List Cond := .code yX12_comes cX12_comes 4 (some .int) :: ((wsX12_comes_r1 ++ wsX12_comes_r2) ++ wsX120)
def wsX12_says_r1 : List Cond := [Cond.constant RX12 165 (-1000000001), Cond.methodLink RX12 170 yX12_isWitness, Cond.instanceMethod yX12_isWitness, Cond.selects RX12 yX12_isWitness yX12_isWitness, Cond.initialized RX12, Cond.code yX12_isWitness cX12_isWitness 2 (some .boolean), Cond.fieldLink RX12 89 "FourWallsModel" "witnesses" "I", Cond.methodLink RX12 82 yX12_in, Cond.static yX12_in, Cond.code yX12_in cX12_in 6 (some .boolean), Cond.methodLink RX12 166 yX12_isSound, Cond.instanceMethod yX12_isSound, Cond.selects RX12 yX12_isSound yX12_isSound, Cond.code yX12_isSound cX12_isSound 2 (some .boolean), Cond.fieldLink RX12 86 "FourWallsModel" "sounds" "I", Cond.methodLink RX12 190 yX12_isPlace, Cond.instanceMethod yX12_isPlace, Cond.selects RX12 yX12_isPlace yX12_isPlace, Cond.code yX12_isPlace cX12_isPlace 2 (some .boolean), Cond.methodLink RX12 78 yX12_places, Cond.instanceMethod yX12_places, Cond.selects RX12 yX12_places yX12_places, Cond.code yX12_places cX12_places 1 (some .int), Cond.fieldLink RX12 75 "FourWallsModel" "walls" "I"]
def wsX12_says_r2 : List Cond := [Cond.methodLink RX12 187 yX12_sayingOf, Cond.instanceMethod yX12_sayingOf, Cond.selects RX12 yX12_sayingOf yX12_sayingOf, Cond.code yX12_sayingOf cX12_sayingOf 4 (some .int), Cond.fieldLink RX12 19 "FourWallsModel" "whose" "[I", Cond.fieldLink RX12 13 "FourWallsModel" "tone" "[I", Cond.methodLink RX12 177 yX12_widowers, Cond.instanceMethod yX12_widowers, Cond.selects RX12 yX12_widowers yX12_widowers, Cond.code yX12_widowers cX12_widowers 1 (some .int), Cond.methodLink RX12 180 yX12_hearsTone, Cond.instanceMethod yX12_hearsTone, Cond.selects RX12 yX12_hearsTone yX12_hearsTone, Cond.code yX12_hearsTone cX12_hearsTone 4 (some .boolean), Cond.fieldLink RX12 22 "FourWallsModel" "now" "[I", Cond.fieldLink RX12 16 "FourWallsModel" "needs" "[I", Cond.methodLink RX12 173 yX12_loudAt, Cond.instanceMethod yX12_loudAt, Cond.selects RX12 yX12_loudAt yX12_loudAt, Cond.code yX12_loudAt cX12_loudAt 8 (some .int), Cond.fieldLink RX12 7 "FourWallsModel" "loud" "[I", Cond.methodLink RX12 184 yX12_hears, Cond.instanceMethod yX12_hears, Cond.selects RX12 yX12_hears yX12_hears]
def wsX12_says_r3 : List Cond := [Cond.code yX12_hears cX12_hears 4 (some .boolean)]
def wsX12_says : List Cond := .code yX12_says cX12_says 4 (some .int) :: ((wsX12_says_r1 ++ (wsX12_says_r2 ++ wsX12_says_r3)) ++ wsX120)
def wsX12_listenTo : List Cond := .code yX12_listenTo cX12_listenTo 6 (some .int) :: ([.methodLink RX12 78 yX12_places, .instanceMethod yX12_places, .selects RX12 yX12_places yX12_places, .initialized RX12, .code yX12_places cX12_places 1 (some .int), .fieldLink RX12 75 "FourWallsModel" "walls" "I", .methodLink RX12 173 yX12_loudAt, .instanceMethod yX12_loudAt, .selects RX12 yX12_loudAt yX12_loudAt, .code yX12_loudAt cX12_loudAt 8 (some .int), .fieldLink RX12 7 "FourWallsModel" "loud" "[I", .fieldLink RX12 22 "FourWallsModel" "now" "[I"] ++ wsX120)
def wsX12_listen_r1 : List Cond := [Cond.constant RX12 165 (-1000000001), Cond.constantLong RX12 221 (30), Cond.constant RX12 94 (-1000000002), Cond.methodLink RX12 166 yX12_isSound, Cond.instanceMethod yX12_isSound, Cond.selects RX12 yX12_isSound yX12_isSound, Cond.initialized RX12, Cond.code yX12_isSound cX12_isSound 2 (some .boolean), Cond.fieldLink RX12 86 "FourWallsModel" "sounds" "I", Cond.methodLink RX12 82 yX12_in, Cond.static yX12_in, Cond.code yX12_in cX12_in 6 (some .boolean), Cond.methodLink RX12 190 yX12_isPlace, Cond.instanceMethod yX12_isPlace, Cond.selects RX12 yX12_isPlace yX12_isPlace, Cond.code yX12_isPlace cX12_isPlace 2 (some .boolean), Cond.methodLink RX12 78 yX12_places, Cond.instanceMethod yX12_places, Cond.selects RX12 yX12_places yX12_places, Cond.code yX12_places cX12_places 1 (some .int), Cond.fieldLink RX12 75 "FourWallsModel" "walls" "I", Cond.methodLink RX12 223 yX12_listenTo, Cond.instanceMethod yX12_listenTo, Cond.selects RX12 yX12_listenTo yX12_listenTo]
def wsX12_listen_r2 : List Cond := [Cond.code yX12_listenTo cX12_listenTo 6 (some .int), Cond.methodLink RX12 173 yX12_loudAt, Cond.instanceMethod yX12_loudAt, Cond.selects RX12 yX12_loudAt yX12_loudAt, Cond.code yX12_loudAt cX12_loudAt 8 (some .int), Cond.fieldLink RX12 7 "FourWallsModel" "loud" "[I", Cond.fieldLink RX12 22 "FourWallsModel" "now" "[I"]
def wsX12_listen : List Cond := .code yX12_listen cX12_listen 4 (some .int) :: ((wsX12_listen_r1 ++ wsX12_listen_r2) ++ wsX120)
def wsX12_isHeard : List Cond := .code yX12_isHeard cX12_isHeard 5 (some .boolean) :: ([.fieldLink RX12 89 "FourWallsModel" "witnesses" "I", .methodLink RX12 184 yX12_hears, .instanceMethod yX12_hears, .selects RX12 yX12_hears yX12_hears, .initialized RX12, .code yX12_hears cX12_hears 4 (some .boolean), .fieldLink RX12 22 "FourWallsModel" "now" "[I", .fieldLink RX12 16 "FourWallsModel" "needs" "[I", .methodLink RX12 173 yX12_loudAt, .instanceMethod yX12_loudAt, .selects RX12 yX12_loudAt yX12_loudAt, .code yX12_loudAt cX12_loudAt 8 (some .int), .fieldLink RX12 7 "FourWallsModel" "loud" "[I"] ++ wsX120)
def wsX12_deaf_r1 : List Cond := [Cond.constant RX12 165 (-1000000001), Cond.methodLink RX12 166 yX12_isSound, Cond.instanceMethod yX12_isSound, Cond.selects RX12 yX12_isSound yX12_isSound, Cond.initialized RX12, Cond.code yX12_isSound cX12_isSound 2 (some .boolean), Cond.fieldLink RX12 86 "FourWallsModel" "sounds" "I", Cond.methodLink RX12 82 yX12_in, Cond.static yX12_in, Cond.code yX12_in cX12_in 6 (some .boolean), Cond.methodLink RX12 78 yX12_places, Cond.instanceMethod yX12_places, Cond.selects RX12 yX12_places yX12_places, Cond.code yX12_places cX12_places 1 (some .int), Cond.fieldLink RX12 75 "FourWallsModel" "walls" "I", Cond.methodLink RX12 226 yX12_isHeard, Cond.instanceMethod yX12_isHeard, Cond.selects RX12 yX12_isHeard yX12_isHeard, Cond.code yX12_isHeard cX12_isHeard 5 (some .boolean), Cond.fieldLink RX12 89 "FourWallsModel" "witnesses" "I", Cond.methodLink RX12 184 yX12_hears, Cond.instanceMethod yX12_hears, Cond.selects RX12 yX12_hears yX12_hears, Cond.code yX12_hears cX12_hears 4 (some .boolean)]
def wsX12_deaf_r2 : List Cond := [Cond.fieldLink RX12 22 "FourWallsModel" "now" "[I", Cond.fieldLink RX12 16 "FourWallsModel" "needs" "[I", Cond.methodLink RX12 173 yX12_loudAt, Cond.instanceMethod yX12_loudAt, Cond.selects RX12 yX12_loudAt yX12_loudAt, Cond.code yX12_loudAt cX12_loudAt 8 (some .int), Cond.fieldLink RX12 7 "FourWallsModel" "loud" "[I"]
def wsX12_deaf : List Cond := .code yX12_deaf cX12_deaf 4 (some .int) :: ((wsX12_deaf_r1 ++ wsX12_deaf_r2) ++ wsX120)
def wsX12_allHeard : List Cond := .code yX12_allHeard cX12_allHeard 7 (some .boolean) :: ([.methodLink RX12 78 yX12_places, .instanceMethod yX12_places, .selects RX12 yX12_places yX12_places, .initialized RX12, .code yX12_places cX12_places 1 (some .int), .fieldLink RX12 75 "FourWallsModel" "walls" "I", .methodLink RX12 230 yX12_has, .static yX12_has, .code yX12_has cX12_has 2 (some .boolean), .methodLink RX12 223 yX12_listenTo, .instanceMethod yX12_listenTo, .selects RX12 yX12_listenTo yX12_listenTo, .code yX12_listenTo cX12_listenTo 6 (some .int), .methodLink RX12 173 yX12_loudAt, .instanceMethod yX12_loudAt, .selects RX12 yX12_loudAt yX12_loudAt, .code yX12_loudAt cX12_loudAt 8 (some .int), .fieldLink RX12 7 "FourWallsModel" "loud" "[I", .fieldLink RX12 22 "FourWallsModel" "now" "[I"] ++ wsX120)
def wsX12_ears_r1 : List Cond := [Cond.constant RX12 165 (-1000000001), Cond.constantLong RX12 221 (30), Cond.constant RX12 94 (-1000000002), Cond.methodLink RX12 166 yX12_isSound, Cond.instanceMethod yX12_isSound, Cond.selects RX12 yX12_isSound yX12_isSound, Cond.initialized RX12, Cond.code yX12_isSound cX12_isSound 2 (some .boolean), Cond.fieldLink RX12 86 "FourWallsModel" "sounds" "I", Cond.methodLink RX12 82 yX12_in, Cond.static yX12_in, Cond.code yX12_in cX12_in 6 (some .boolean), Cond.methodLink RX12 233 yX12_isPlaces, Cond.instanceMethod yX12_isPlaces, Cond.selects RX12 yX12_isPlaces yX12_isPlaces, Cond.code yX12_isPlaces cX12_isPlaces 2 (some .boolean), Cond.methodLink RX12 78 yX12_places, Cond.instanceMethod yX12_places, Cond.selects RX12 yX12_places yX12_places, Cond.code yX12_places cX12_places 1 (some .int), Cond.fieldLink RX12 75 "FourWallsModel" "walls" "I", Cond.methodLink RX12 236 yX12_bits, Cond.static yX12_bits, Cond.code yX12_bits cX12_bits 3 (some .int)]
def wsX12_ears_r2 : List Cond := [Cond.methodLink RX12 239 yX12_allHeard, Cond.instanceMethod yX12_allHeard, Cond.selects RX12 yX12_allHeard yX12_allHeard, Cond.code yX12_allHeard cX12_allHeard 7 (some .boolean), Cond.methodLink RX12 230 yX12_has, Cond.static yX12_has, Cond.code yX12_has cX12_has 2 (some .boolean), Cond.methodLink RX12 223 yX12_listenTo, Cond.instanceMethod yX12_listenTo, Cond.selects RX12 yX12_listenTo yX12_listenTo, Cond.code yX12_listenTo cX12_listenTo 6 (some .int), Cond.methodLink RX12 173 yX12_loudAt, Cond.instanceMethod yX12_loudAt, Cond.selects RX12 yX12_loudAt yX12_loudAt, Cond.code yX12_loudAt cX12_loudAt 8 (some .int), Cond.fieldLink RX12 7 "FourWallsModel" "loud" "[I", Cond.fieldLink RX12 22 "FourWallsModel" "now" "[I"]
def wsX12_ears : List Cond := .code yX12_ears cX12_ears 7 (some .int) :: ((wsX12_ears_r1 ++ wsX12_ears_r2) ++ wsX120)
def wsX12_areAlike_r1 : List Cond := [Cond.fieldLink RX12 89 "FourWallsModel" "witnesses" "I", Cond.methodLink RX12 187 yX12_sayingOf, Cond.instanceMethod yX12_sayingOf, Cond.selects RX12 yX12_sayingOf yX12_sayingOf, Cond.initialized RX12, Cond.code yX12_sayingOf cX12_sayingOf 4 (some .int), Cond.fieldLink RX12 19 "FourWallsModel" "whose" "[I", Cond.fieldLink RX12 13 "FourWallsModel" "tone" "[I", Cond.methodLink RX12 177 yX12_widowers, Cond.instanceMethod yX12_widowers, Cond.selects RX12 yX12_widowers yX12_widowers, Cond.code yX12_widowers cX12_widowers 1 (some .int), Cond.fieldLink RX12 86 "FourWallsModel" "sounds" "I", Cond.methodLink RX12 180 yX12_hearsTone, Cond.instanceMethod yX12_hearsTone, Cond.selects RX12 yX12_hearsTone yX12_hearsTone, Cond.code yX12_hearsTone cX12_hearsTone 4 (some .boolean), Cond.fieldLink RX12 22 "FourWallsModel" "now" "[I", Cond.fieldLink RX12 16 "FourWallsModel" "needs" "[I", Cond.methodLink RX12 173 yX12_loudAt, Cond.instanceMethod yX12_loudAt, Cond.selects RX12 yX12_loudAt yX12_loudAt, Cond.code yX12_loudAt cX12_loudAt 8 (some .int), Cond.fieldLink RX12 7 "FourWallsModel" "loud" "[I"]
def wsX12_areAlike_r2 : List Cond := [Cond.methodLink RX12 184 yX12_hears, Cond.instanceMethod yX12_hears, Cond.selects RX12 yX12_hears yX12_hears, Cond.code yX12_hears cX12_hears 4 (some .boolean)]
def wsX12_areAlike : List Cond := .code yX12_areAlike cX12_areAlike 6 (some .boolean) :: ((wsX12_areAlike_r1 ++ wsX12_areAlike_r2) ++ wsX120)
def wsX12_alike_r1 : List Cond := [Cond.constant RX12 165 (-1000000001), Cond.fieldLink RX12 86 "FourWallsModel" "sounds" "I", Cond.methodLink RX12 190 yX12_isPlace, Cond.instanceMethod yX12_isPlace, Cond.selects RX12 yX12_isPlace yX12_isPlace, Cond.initialized RX12, Cond.code yX12_isPlace cX12_isPlace 2 (some .boolean), Cond.methodLink RX12 78 yX12_places, Cond.instanceMethod yX12_places, Cond.selects RX12 yX12_places yX12_places, Cond.code yX12_places cX12_places 1 (some .int), Cond.fieldLink RX12 75 "FourWallsModel" "walls" "I", Cond.methodLink RX12 82 yX12_in, Cond.static yX12_in, Cond.code yX12_in cX12_in 6 (some .boolean), Cond.methodLink RX12 243 yX12_areAlike, Cond.instanceMethod yX12_areAlike, Cond.selects RX12 yX12_areAlike yX12_areAlike, Cond.code yX12_areAlike cX12_areAlike 6 (some .boolean), Cond.fieldLink RX12 89 "FourWallsModel" "witnesses" "I", Cond.methodLink RX12 187 yX12_sayingOf, Cond.instanceMethod yX12_sayingOf, Cond.selects RX12 yX12_sayingOf yX12_sayingOf, Cond.code yX12_sayingOf cX12_sayingOf 4 (some .int)]
def wsX12_alike_r2 : List Cond := [Cond.fieldLink RX12 19 "FourWallsModel" "whose" "[I", Cond.fieldLink RX12 13 "FourWallsModel" "tone" "[I", Cond.methodLink RX12 177 yX12_widowers, Cond.instanceMethod yX12_widowers, Cond.selects RX12 yX12_widowers yX12_widowers, Cond.code yX12_widowers cX12_widowers 1 (some .int), Cond.methodLink RX12 180 yX12_hearsTone, Cond.instanceMethod yX12_hearsTone, Cond.selects RX12 yX12_hearsTone yX12_hearsTone, Cond.code yX12_hearsTone cX12_hearsTone 4 (some .boolean), Cond.fieldLink RX12 22 "FourWallsModel" "now" "[I", Cond.fieldLink RX12 16 "FourWallsModel" "needs" "[I", Cond.methodLink RX12 173 yX12_loudAt, Cond.instanceMethod yX12_loudAt, Cond.selects RX12 yX12_loudAt yX12_loudAt, Cond.code yX12_loudAt cX12_loudAt 8 (some .int), Cond.fieldLink RX12 7 "FourWallsModel" "loud" "[I", Cond.methodLink RX12 184 yX12_hears, Cond.instanceMethod yX12_hears, Cond.selects RX12 yX12_hears yX12_hears, Cond.code yX12_hears cX12_hears 4 (some .boolean)]
def wsX12_alike : List Cond := .code yX12_alike cX12_alike 7 (some .int) :: ((wsX12_alike_r1 ++ wsX12_alike_r2) ++ wsX120)
def wsX12_hides_r1 : List Cond := [Cond.fieldLink RX12 75 "FourWallsModel" "walls" "I", Cond.constant RX12 165 (-1000000001), Cond.fieldLink RX12 22 "FourWallsModel" "now" "[I", Cond.methodLink RX12 82 yX12_in, Cond.static yX12_in, Cond.initialized RX12, Cond.code yX12_in cX12_in 6 (some .boolean), Cond.methodLink RX12 166 yX12_isSound, Cond.instanceMethod yX12_isSound, Cond.selects RX12 yX12_isSound yX12_isSound, Cond.code yX12_isSound cX12_isSound 2 (some .boolean), Cond.fieldLink RX12 86 "FourWallsModel" "sounds" "I", Cond.methodLink RX12 190 yX12_isPlace, Cond.instanceMethod yX12_isPlace, Cond.selects RX12 yX12_isPlace yX12_isPlace, Cond.code yX12_isPlace cX12_isPlace 2 (some .boolean), Cond.methodLink RX12 78 yX12_places, Cond.instanceMethod yX12_places, Cond.selects RX12 yX12_places yX12_places, Cond.code yX12_places cX12_places 1 (some .int), Cond.methodLink RX12 226 yX12_isHeard, Cond.instanceMethod yX12_isHeard, Cond.selects RX12 yX12_isHeard yX12_isHeard, Cond.code yX12_isHeard cX12_isHeard 5 (some .boolean)]
def wsX12_hides_r2 : List Cond := [Cond.fieldLink RX12 89 "FourWallsModel" "witnesses" "I", Cond.methodLink RX12 184 yX12_hears, Cond.instanceMethod yX12_hears, Cond.selects RX12 yX12_hears yX12_hears, Cond.code yX12_hears cX12_hears 4 (some .boolean), Cond.fieldLink RX12 16 "FourWallsModel" "needs" "[I", Cond.methodLink RX12 173 yX12_loudAt, Cond.instanceMethod yX12_loudAt, Cond.selects RX12 yX12_loudAt yX12_loudAt, Cond.code yX12_loudAt cX12_loudAt 8 (some .int), Cond.fieldLink RX12 7 "FourWallsModel" "loud" "[I"]
def wsX12_hides : List Cond := .code yX12_hides cX12_hides 7 (some .int) :: ((wsX12_hides_r1 ++ wsX12_hides_r2) ++ wsX120)
def wsX12_midwife : List Cond := .code yX12_midwife cX12_midwife 10 (some .int) :: ([.constantLong RX12 246 (9999), .constantLong RX12 248 (100), .constant RX12 94 (-1000000002), .methodLink RX12 82 yX12_in, .static yX12_in, .initialized RX12, .code yX12_in cX12_in 6 (some .boolean)])
def wsX12_bargain : List Cond := .code yX12_bargain cX12_bargain 7 (some .int) :: ([.constantLong RX12 246 (9999), .constantLong RX12 250 (1000000), .constantLong RX12 252 (999), .constant RX12 94 (-1000000002), .methodLink RX12 82 yX12_in, .static yX12_in, .initialized RX12, .code yX12_in cX12_in 6 (some .boolean)])
def wsX12_found_r1 : List Cond := [Cond.constant RX12 165 (-1000000001), Cond.fieldLink RX12 86 "FourWallsModel" "sounds" "I", Cond.constantLong RX12 250 (1000000), Cond.methodLink RX12 233 yX12_isPlaces, Cond.instanceMethod yX12_isPlaces, Cond.selects RX12 yX12_isPlaces yX12_isPlaces, Cond.initialized RX12, Cond.code yX12_isPlaces cX12_isPlaces 2 (some .boolean), Cond.methodLink RX12 78 yX12_places, Cond.instanceMethod yX12_places, Cond.selects RX12 yX12_places yX12_places, Cond.code yX12_places cX12_places 1 (some .int), Cond.fieldLink RX12 75 "FourWallsModel" "walls" "I", Cond.methodLink RX12 82 yX12_in, Cond.static yX12_in, Cond.code yX12_in cX12_in 6 (some .boolean), Cond.methodLink RX12 230 yX12_has, Cond.static yX12_has, Cond.code yX12_has cX12_has 2 (some .boolean), Cond.methodLink RX12 226 yX12_isHeard, Cond.instanceMethod yX12_isHeard, Cond.selects RX12 yX12_isHeard yX12_isHeard, Cond.code yX12_isHeard cX12_isHeard 5 (some .boolean), Cond.fieldLink RX12 89 "FourWallsModel" "witnesses" "I"]
def wsX12_found_r2 : List Cond := [Cond.methodLink RX12 184 yX12_hears, Cond.instanceMethod yX12_hears, Cond.selects RX12 yX12_hears yX12_hears, Cond.code yX12_hears cX12_hears 4 (some .boolean), Cond.fieldLink RX12 22 "FourWallsModel" "now" "[I", Cond.fieldLink RX12 16 "FourWallsModel" "needs" "[I", Cond.methodLink RX12 173 yX12_loudAt, Cond.instanceMethod yX12_loudAt, Cond.selects RX12 yX12_loudAt yX12_loudAt, Cond.code yX12_loudAt cX12_loudAt 8 (some .int), Cond.fieldLink RX12 7 "FourWallsModel" "loud" "[I"]
def wsX12_found : List Cond := .code yX12_found cX12_found 6 (some .int) :: ((wsX12_found_r1 ++ wsX12_found_r2) ++ wsX120)
def wsX12_say : List Cond := .code yX12_say cX12_say 3 (some .int) :: ([.constant RX12 165 (-1000000001), .constantLong RX12 254 (11), .constant RX12 94 (-1000000002), .fieldLink RX12 156 "FourWallsModel" "said" "I", .constant RX12 98 (-1000000004), .fieldLink RX12 53 "FourWallsModel" "saidBy" "[I", .fieldLink RX12 56 "FourWallsModel" "saidWhat" "[I", .methodLink RX12 170 yX12_isWitness, .instanceMethod yX12_isWitness, .selects RX12 yX12_isWitness yX12_isWitness, .initialized RX12, .code yX12_isWitness cX12_isWitness 2 (some .boolean), .fieldLink RX12 89 "FourWallsModel" "witnesses" "I", .methodLink RX12 82 yX12_in, .static yX12_in, .code yX12_in cX12_in 6 (some .boolean)] ++ wsX120)
def wsX12_isPair : List Cond := .code yX12_isPair cX12_isPair 2 (some .boolean) :: ([.methodLink RX12 166 yX12_isSound, .instanceMethod yX12_isSound, .selects RX12 yX12_isSound yX12_isSound, .initialized RX12, .code yX12_isSound cX12_isSound 2 (some .boolean), .fieldLink RX12 86 "FourWallsModel" "sounds" "I", .methodLink RX12 82 yX12_in, .static yX12_in, .code yX12_in cX12_in 6 (some .boolean), .methodLink RX12 190 yX12_isPlace, .instanceMethod yX12_isPlace, .selects RX12 yX12_isPlace yX12_isPlace, .code yX12_isPlace cX12_isPlace 2 (some .boolean), .methodLink RX12 78 yX12_places, .instanceMethod yX12_places, .selects RX12 yX12_places yX12_places, .code yX12_places cX12_places 1 (some .int), .fieldLink RX12 75 "FourWallsModel" "walls" "I"] ++ wsX120)
def wsX12_sayingFor_r1 : List Cond := [Cond.fieldLink RX12 19 "FourWallsModel" "whose" "[I", Cond.methodLink RX12 187 yX12_sayingOf, Cond.instanceMethod yX12_sayingOf, Cond.selects RX12 yX12_sayingOf yX12_sayingOf, Cond.initialized RX12, Cond.code yX12_sayingOf cX12_sayingOf 4 (some .int), Cond.fieldLink RX12 13 "FourWallsModel" "tone" "[I", Cond.methodLink RX12 177 yX12_widowers, Cond.instanceMethod yX12_widowers, Cond.selects RX12 yX12_widowers yX12_widowers, Cond.code yX12_widowers cX12_widowers 1 (some .int), Cond.fieldLink RX12 86 "FourWallsModel" "sounds" "I", Cond.methodLink RX12 180 yX12_hearsTone, Cond.instanceMethod yX12_hearsTone, Cond.selects RX12 yX12_hearsTone yX12_hearsTone, Cond.code yX12_hearsTone cX12_hearsTone 4 (some .boolean), Cond.fieldLink RX12 22 "FourWallsModel" "now" "[I", Cond.fieldLink RX12 16 "FourWallsModel" "needs" "[I", Cond.methodLink RX12 173 yX12_loudAt, Cond.instanceMethod yX12_loudAt, Cond.selects RX12 yX12_loudAt yX12_loudAt, Cond.code yX12_loudAt cX12_loudAt 8 (some .int), Cond.fieldLink RX12 7 "FourWallsModel" "loud" "[I", Cond.methodLink RX12 184 yX12_hears]
def wsX12_sayingFor_r2 : List Cond := [Cond.instanceMethod yX12_hears, Cond.selects RX12 yX12_hears yX12_hears, Cond.code yX12_hears cX12_hears 4 (some .boolean)]
def wsX12_sayingFor : List Cond := .code yX12_sayingFor cX12_sayingFor 3 (some .int) :: ((wsX12_sayingFor_r1 ++ wsX12_sayingFor_r2) ++ wsX120)
def wsX12_liarsOf_r1 : List Cond := [Cond.fieldLink RX12 156 "FourWallsModel" "said" "I", Cond.fieldLink RX12 53 "FourWallsModel" "saidBy" "[I", Cond.fieldLink RX12 56 "FourWallsModel" "saidWhat" "[I", Cond.methodLink RX12 256 yX12_sayingFor, Cond.instanceMethod yX12_sayingFor, Cond.selects RX12 yX12_sayingFor yX12_sayingFor, Cond.initialized RX12, Cond.code yX12_sayingFor cX12_sayingFor 3 (some .int), Cond.fieldLink RX12 19 "FourWallsModel" "whose" "[I", Cond.methodLink RX12 187 yX12_sayingOf, Cond.instanceMethod yX12_sayingOf, Cond.selects RX12 yX12_sayingOf yX12_sayingOf, Cond.code yX12_sayingOf cX12_sayingOf 4 (some .int), Cond.fieldLink RX12 13 "FourWallsModel" "tone" "[I", Cond.methodLink RX12 177 yX12_widowers, Cond.instanceMethod yX12_widowers, Cond.selects RX12 yX12_widowers yX12_widowers, Cond.code yX12_widowers cX12_widowers 1 (some .int), Cond.fieldLink RX12 86 "FourWallsModel" "sounds" "I", Cond.methodLink RX12 180 yX12_hearsTone, Cond.instanceMethod yX12_hearsTone, Cond.selects RX12 yX12_hearsTone yX12_hearsTone, Cond.code yX12_hearsTone cX12_hearsTone 4 (some .boolean), Cond.fieldLink RX12 22 "FourWallsModel" "now" "[I"]
def wsX12_liarsOf_r2 : List Cond := [Cond.fieldLink RX12 16 "FourWallsModel" "needs" "[I", Cond.methodLink RX12 173 yX12_loudAt, Cond.instanceMethod yX12_loudAt, Cond.selects RX12 yX12_loudAt yX12_loudAt, Cond.code yX12_loudAt cX12_loudAt 8 (some .int), Cond.fieldLink RX12 7 "FourWallsModel" "loud" "[I", Cond.methodLink RX12 184 yX12_hears, Cond.instanceMethod yX12_hears, Cond.selects RX12 yX12_hears yX12_hears, Cond.code yX12_hears cX12_hears 4 (some .boolean)]
def wsX12_liarsOf : List Cond := .code yX12_liarsOf cX12_liarsOf 4 (some .int) :: ((wsX12_liarsOf_r1 ++ wsX12_liarsOf_r2) ++ wsX120)
def wsX12_births_r1 : List Cond := [Cond.fieldLink RX12 75 "FourWallsModel" "walls" "I", Cond.constant RX12 204 (-1000000003), Cond.methodLink RX12 259 yX12_isPair, Cond.instanceMethod yX12_isPair, Cond.selects RX12 yX12_isPair yX12_isPair, Cond.initialized RX12, Cond.code yX12_isPair cX12_isPair 2 (some .boolean), Cond.methodLink RX12 166 yX12_isSound, Cond.instanceMethod yX12_isSound, Cond.selects RX12 yX12_isSound yX12_isSound, Cond.code yX12_isSound cX12_isSound 2 (some .boolean), Cond.fieldLink RX12 86 "FourWallsModel" "sounds" "I", Cond.methodLink RX12 82 yX12_in, Cond.static yX12_in, Cond.code yX12_in cX12_in 6 (some .boolean), Cond.methodLink RX12 190 yX12_isPlace, Cond.instanceMethod yX12_isPlace, Cond.selects RX12 yX12_isPlace yX12_isPlace, Cond.code yX12_isPlace cX12_isPlace 2 (some .boolean), Cond.methodLink RX12 78 yX12_places, Cond.instanceMethod yX12_places, Cond.selects RX12 yX12_places yX12_places, Cond.code yX12_places cX12_places 1 (some .int), Cond.methodLink RX12 262 yX12_liarsOf]
def wsX12_births_r2 : List Cond := [Cond.instanceMethod yX12_liarsOf, Cond.selects RX12 yX12_liarsOf yX12_liarsOf, Cond.code yX12_liarsOf cX12_liarsOf 4 (some .int), Cond.fieldLink RX12 156 "FourWallsModel" "said" "I", Cond.fieldLink RX12 53 "FourWallsModel" "saidBy" "[I", Cond.fieldLink RX12 56 "FourWallsModel" "saidWhat" "[I", Cond.methodLink RX12 256 yX12_sayingFor, Cond.instanceMethod yX12_sayingFor, Cond.selects RX12 yX12_sayingFor yX12_sayingFor, Cond.code yX12_sayingFor cX12_sayingFor 3 (some .int), Cond.fieldLink RX12 19 "FourWallsModel" "whose" "[I", Cond.methodLink RX12 187 yX12_sayingOf, Cond.instanceMethod yX12_sayingOf, Cond.selects RX12 yX12_sayingOf yX12_sayingOf, Cond.code yX12_sayingOf cX12_sayingOf 4 (some .int), Cond.fieldLink RX12 13 "FourWallsModel" "tone" "[I", Cond.methodLink RX12 177 yX12_widowers, Cond.instanceMethod yX12_widowers, Cond.selects RX12 yX12_widowers yX12_widowers, Cond.code yX12_widowers cX12_widowers 1 (some .int), Cond.methodLink RX12 180 yX12_hearsTone, Cond.instanceMethod yX12_hearsTone, Cond.selects RX12 yX12_hearsTone yX12_hearsTone, Cond.code yX12_hearsTone cX12_hearsTone 4 (some .boolean)]
def wsX12_births_r3 : List Cond := [Cond.fieldLink RX12 22 "FourWallsModel" "now" "[I", Cond.fieldLink RX12 16 "FourWallsModel" "needs" "[I", Cond.methodLink RX12 173 yX12_loudAt, Cond.instanceMethod yX12_loudAt, Cond.selects RX12 yX12_loudAt yX12_loudAt, Cond.code yX12_loudAt cX12_loudAt 8 (some .int), Cond.fieldLink RX12 7 "FourWallsModel" "loud" "[I", Cond.methodLink RX12 184 yX12_hears, Cond.instanceMethod yX12_hears, Cond.selects RX12 yX12_hears yX12_hears, Cond.code yX12_hears cX12_hears 4 (some .boolean)]
def wsX12_births : List Cond := .code yX12_births cX12_births 4 (some .int) :: ((wsX12_births_r1 ++ (wsX12_births_r2 ++ wsX12_births_r3)) ++ wsX120)
def wsX12_liars_r1 : List Cond := [Cond.constant RX12 165 (-1000000001), Cond.fieldLink RX12 75 "FourWallsModel" "walls" "I", Cond.constant RX12 204 (-1000000003), Cond.methodLink RX12 259 yX12_isPair, Cond.instanceMethod yX12_isPair, Cond.selects RX12 yX12_isPair yX12_isPair, Cond.initialized RX12, Cond.code yX12_isPair cX12_isPair 2 (some .boolean), Cond.methodLink RX12 166 yX12_isSound, Cond.instanceMethod yX12_isSound, Cond.selects RX12 yX12_isSound yX12_isSound, Cond.code yX12_isSound cX12_isSound 2 (some .boolean), Cond.fieldLink RX12 86 "FourWallsModel" "sounds" "I", Cond.methodLink RX12 82 yX12_in, Cond.static yX12_in, Cond.code yX12_in cX12_in 6 (some .boolean), Cond.methodLink RX12 190 yX12_isPlace, Cond.instanceMethod yX12_isPlace, Cond.selects RX12 yX12_isPlace yX12_isPlace, Cond.code yX12_isPlace cX12_isPlace 2 (some .boolean), Cond.methodLink RX12 78 yX12_places, Cond.instanceMethod yX12_places, Cond.selects RX12 yX12_places yX12_places, Cond.code yX12_places cX12_places 1 (some .int)]
def wsX12_liars_r2 : List Cond := [Cond.methodLink RX12 262 yX12_liarsOf, Cond.instanceMethod yX12_liarsOf, Cond.selects RX12 yX12_liarsOf yX12_liarsOf, Cond.code yX12_liarsOf cX12_liarsOf 4 (some .int), Cond.fieldLink RX12 156 "FourWallsModel" "said" "I", Cond.fieldLink RX12 53 "FourWallsModel" "saidBy" "[I", Cond.fieldLink RX12 56 "FourWallsModel" "saidWhat" "[I", Cond.methodLink RX12 256 yX12_sayingFor, Cond.instanceMethod yX12_sayingFor, Cond.selects RX12 yX12_sayingFor yX12_sayingFor, Cond.code yX12_sayingFor cX12_sayingFor 3 (some .int), Cond.fieldLink RX12 19 "FourWallsModel" "whose" "[I", Cond.methodLink RX12 187 yX12_sayingOf, Cond.instanceMethod yX12_sayingOf, Cond.selects RX12 yX12_sayingOf yX12_sayingOf, Cond.code yX12_sayingOf cX12_sayingOf 4 (some .int), Cond.fieldLink RX12 13 "FourWallsModel" "tone" "[I", Cond.methodLink RX12 177 yX12_widowers, Cond.instanceMethod yX12_widowers, Cond.selects RX12 yX12_widowers yX12_widowers, Cond.code yX12_widowers cX12_widowers 1 (some .int), Cond.methodLink RX12 180 yX12_hearsTone, Cond.instanceMethod yX12_hearsTone, Cond.selects RX12 yX12_hearsTone yX12_hearsTone]
def wsX12_liars_r3 : List Cond := [Cond.code yX12_hearsTone cX12_hearsTone 4 (some .boolean), Cond.fieldLink RX12 22 "FourWallsModel" "now" "[I", Cond.fieldLink RX12 16 "FourWallsModel" "needs" "[I", Cond.methodLink RX12 173 yX12_loudAt, Cond.instanceMethod yX12_loudAt, Cond.selects RX12 yX12_loudAt yX12_loudAt, Cond.code yX12_loudAt cX12_loudAt 8 (some .int), Cond.fieldLink RX12 7 "FourWallsModel" "loud" "[I", Cond.methodLink RX12 184 yX12_hears, Cond.instanceMethod yX12_hears, Cond.selects RX12 yX12_hears yX12_hears, Cond.code yX12_hears cX12_hears 4 (some .boolean)]
def wsX12_liars : List Cond := .code yX12_liars cX12_liars 2 (some .int) :: ((wsX12_liars_r1 ++ (wsX12_liars_r2 ++ wsX12_liars_r3)) ++ wsX120)
def wsX12_leastLiars_r1 : List Cond := [Cond.constant RX12 94 (-1000000002), Cond.fieldLink RX12 75 "FourWallsModel" "walls" "I", Cond.constant RX12 204 (-1000000003), Cond.methodLink RX12 82 yX12_in, Cond.static yX12_in, Cond.initialized RX12, Cond.code yX12_in cX12_in 6 (some .boolean), Cond.methodLink RX12 259 yX12_isPair, Cond.instanceMethod yX12_isPair, Cond.selects RX12 yX12_isPair yX12_isPair, Cond.code yX12_isPair cX12_isPair 2 (some .boolean), Cond.methodLink RX12 166 yX12_isSound, Cond.instanceMethod yX12_isSound, Cond.selects RX12 yX12_isSound yX12_isSound, Cond.code yX12_isSound cX12_isSound 2 (some .boolean), Cond.fieldLink RX12 86 "FourWallsModel" "sounds" "I", Cond.methodLink RX12 190 yX12_isPlace, Cond.instanceMethod yX12_isPlace, Cond.selects RX12 yX12_isPlace yX12_isPlace, Cond.code yX12_isPlace cX12_isPlace 2 (some .boolean), Cond.methodLink RX12 78 yX12_places, Cond.instanceMethod yX12_places, Cond.selects RX12 yX12_places yX12_places, Cond.code yX12_places cX12_places 1 (some .int)]
def wsX12_leastLiars_r2 : List Cond := [Cond.methodLink RX12 262 yX12_liarsOf, Cond.instanceMethod yX12_liarsOf, Cond.selects RX12 yX12_liarsOf yX12_liarsOf, Cond.code yX12_liarsOf cX12_liarsOf 4 (some .int), Cond.fieldLink RX12 156 "FourWallsModel" "said" "I", Cond.fieldLink RX12 53 "FourWallsModel" "saidBy" "[I", Cond.fieldLink RX12 56 "FourWallsModel" "saidWhat" "[I", Cond.methodLink RX12 256 yX12_sayingFor, Cond.instanceMethod yX12_sayingFor, Cond.selects RX12 yX12_sayingFor yX12_sayingFor, Cond.code yX12_sayingFor cX12_sayingFor 3 (some .int), Cond.fieldLink RX12 19 "FourWallsModel" "whose" "[I", Cond.methodLink RX12 187 yX12_sayingOf, Cond.instanceMethod yX12_sayingOf, Cond.selects RX12 yX12_sayingOf yX12_sayingOf, Cond.code yX12_sayingOf cX12_sayingOf 4 (some .int), Cond.fieldLink RX12 13 "FourWallsModel" "tone" "[I", Cond.methodLink RX12 177 yX12_widowers, Cond.instanceMethod yX12_widowers, Cond.selects RX12 yX12_widowers yX12_widowers, Cond.code yX12_widowers cX12_widowers 1 (some .int), Cond.methodLink RX12 180 yX12_hearsTone, Cond.instanceMethod yX12_hearsTone, Cond.selects RX12 yX12_hearsTone yX12_hearsTone]
def wsX12_leastLiars_r3 : List Cond := [Cond.code yX12_hearsTone cX12_hearsTone 4 (some .boolean), Cond.fieldLink RX12 22 "FourWallsModel" "now" "[I", Cond.fieldLink RX12 16 "FourWallsModel" "needs" "[I", Cond.methodLink RX12 173 yX12_loudAt, Cond.instanceMethod yX12_loudAt, Cond.selects RX12 yX12_loudAt yX12_loudAt, Cond.code yX12_loudAt cX12_loudAt 8 (some .int), Cond.fieldLink RX12 7 "FourWallsModel" "loud" "[I", Cond.methodLink RX12 184 yX12_hears, Cond.instanceMethod yX12_hears, Cond.selects RX12 yX12_hears yX12_hears, Cond.code yX12_hears cX12_hears 4 (some .boolean)]
def wsX12_leastLiars : List Cond := .code yX12_leastLiars cX12_leastLiars 4 (some .int) :: ((wsX12_leastLiars_r1 ++ (wsX12_leastLiars_r2 ++ wsX12_leastLiars_r3)) ++ wsX120)
def wsX12_greatestPart_r1 : List Cond := [Cond.fieldLink RX12 59 "FourWallsModel" "parts" "[I", Cond.methodLink RX12 259 yX12_isPair, Cond.instanceMethod yX12_isPair, Cond.selects RX12 yX12_isPair yX12_isPair, Cond.initialized RX12, Cond.code yX12_isPair cX12_isPair 2 (some .boolean), Cond.methodLink RX12 166 yX12_isSound, Cond.instanceMethod yX12_isSound, Cond.selects RX12 yX12_isSound yX12_isSound, Cond.code yX12_isSound cX12_isSound 2 (some .boolean), Cond.fieldLink RX12 86 "FourWallsModel" "sounds" "I", Cond.methodLink RX12 82 yX12_in, Cond.static yX12_in, Cond.code yX12_in cX12_in 6 (some .boolean), Cond.methodLink RX12 190 yX12_isPlace, Cond.instanceMethod yX12_isPlace, Cond.selects RX12 yX12_isPlace yX12_isPlace, Cond.code yX12_isPlace cX12_isPlace 2 (some .boolean), Cond.methodLink RX12 78 yX12_places, Cond.instanceMethod yX12_places, Cond.selects RX12 yX12_places yX12_places, Cond.code yX12_places cX12_places 1 (some .int), Cond.fieldLink RX12 75 "FourWallsModel" "walls" "I", Cond.methodLink RX12 262 yX12_liarsOf]
def wsX12_greatestPart_r2 : List Cond := [Cond.instanceMethod yX12_liarsOf, Cond.selects RX12 yX12_liarsOf yX12_liarsOf, Cond.code yX12_liarsOf cX12_liarsOf 4 (some .int), Cond.fieldLink RX12 156 "FourWallsModel" "said" "I", Cond.fieldLink RX12 53 "FourWallsModel" "saidBy" "[I", Cond.fieldLink RX12 56 "FourWallsModel" "saidWhat" "[I", Cond.methodLink RX12 256 yX12_sayingFor, Cond.instanceMethod yX12_sayingFor, Cond.selects RX12 yX12_sayingFor yX12_sayingFor, Cond.code yX12_sayingFor cX12_sayingFor 3 (some .int), Cond.fieldLink RX12 19 "FourWallsModel" "whose" "[I", Cond.methodLink RX12 187 yX12_sayingOf, Cond.instanceMethod yX12_sayingOf, Cond.selects RX12 yX12_sayingOf yX12_sayingOf, Cond.code yX12_sayingOf cX12_sayingOf 4 (some .int), Cond.fieldLink RX12 13 "FourWallsModel" "tone" "[I", Cond.methodLink RX12 177 yX12_widowers, Cond.instanceMethod yX12_widowers, Cond.selects RX12 yX12_widowers yX12_widowers, Cond.code yX12_widowers cX12_widowers 1 (some .int), Cond.methodLink RX12 180 yX12_hearsTone, Cond.instanceMethod yX12_hearsTone, Cond.selects RX12 yX12_hearsTone yX12_hearsTone, Cond.code yX12_hearsTone cX12_hearsTone 4 (some .boolean)]
def wsX12_greatestPart_r3 : List Cond := [Cond.fieldLink RX12 22 "FourWallsModel" "now" "[I", Cond.fieldLink RX12 16 "FourWallsModel" "needs" "[I", Cond.methodLink RX12 173 yX12_loudAt, Cond.instanceMethod yX12_loudAt, Cond.selects RX12 yX12_loudAt yX12_loudAt, Cond.code yX12_loudAt cX12_loudAt 8 (some .int), Cond.fieldLink RX12 7 "FourWallsModel" "loud" "[I", Cond.methodLink RX12 184 yX12_hears, Cond.instanceMethod yX12_hears, Cond.selects RX12 yX12_hears yX12_hears, Cond.code yX12_hears cX12_hears 4 (some .boolean)]
def wsX12_greatestPart : List Cond := .code yX12_greatestPart cX12_greatestPart 5 (some .int) :: ((wsX12_greatestPart_r1 ++ (wsX12_greatestPart_r2 ++ wsX12_greatestPart_r3)) ++ wsX120)
def wsX12_ask_r1 : List Cond := [Cond.fieldLink RX12 75 "FourWallsModel" "walls" "I", Cond.constant RX12 204 (-1000000003), Cond.fieldLink RX12 89 "FourWallsModel" "witnesses" "I", Cond.methodLink RX12 265 yX12_births, Cond.instanceMethod yX12_births, Cond.selects RX12 yX12_births yX12_births, Cond.initialized RX12, Cond.code yX12_births cX12_births 4 (some .int), Cond.methodLink RX12 259 yX12_isPair, Cond.instanceMethod yX12_isPair, Cond.selects RX12 yX12_isPair yX12_isPair, Cond.code yX12_isPair cX12_isPair 2 (some .boolean), Cond.methodLink RX12 166 yX12_isSound, Cond.instanceMethod yX12_isSound, Cond.selects RX12 yX12_isSound yX12_isSound, Cond.code yX12_isSound cX12_isSound 2 (some .boolean), Cond.fieldLink RX12 86 "FourWallsModel" "sounds" "I", Cond.methodLink RX12 82 yX12_in, Cond.static yX12_in, Cond.code yX12_in cX12_in 6 (some .boolean), Cond.methodLink RX12 190 yX12_isPlace, Cond.instanceMethod yX12_isPlace, Cond.selects RX12 yX12_isPlace yX12_isPlace, Cond.code yX12_isPlace cX12_isPlace 2 (some .boolean)]
def wsX12_ask_r2 : List Cond := [Cond.methodLink RX12 78 yX12_places, Cond.instanceMethod yX12_places, Cond.selects RX12 yX12_places yX12_places, Cond.code yX12_places cX12_places 1 (some .int), Cond.methodLink RX12 262 yX12_liarsOf, Cond.instanceMethod yX12_liarsOf, Cond.selects RX12 yX12_liarsOf yX12_liarsOf, Cond.code yX12_liarsOf cX12_liarsOf 4 (some .int), Cond.fieldLink RX12 156 "FourWallsModel" "said" "I", Cond.fieldLink RX12 53 "FourWallsModel" "saidBy" "[I", Cond.fieldLink RX12 56 "FourWallsModel" "saidWhat" "[I", Cond.methodLink RX12 256 yX12_sayingFor, Cond.instanceMethod yX12_sayingFor, Cond.selects RX12 yX12_sayingFor yX12_sayingFor, Cond.code yX12_sayingFor cX12_sayingFor 3 (some .int), Cond.fieldLink RX12 19 "FourWallsModel" "whose" "[I", Cond.methodLink RX12 187 yX12_sayingOf, Cond.instanceMethod yX12_sayingOf, Cond.selects RX12 yX12_sayingOf yX12_sayingOf, Cond.code yX12_sayingOf cX12_sayingOf 4 (some .int), Cond.fieldLink RX12 13 "FourWallsModel" "tone" "[I", Cond.methodLink RX12 177 yX12_widowers, Cond.instanceMethod yX12_widowers, Cond.selects RX12 yX12_widowers yX12_widowers]
def wsX12_ask_r3 : List Cond := [Cond.code yX12_widowers cX12_widowers 1 (some .int), Cond.methodLink RX12 180 yX12_hearsTone, Cond.instanceMethod yX12_hearsTone, Cond.selects RX12 yX12_hearsTone yX12_hearsTone, Cond.code yX12_hearsTone cX12_hearsTone 4 (some .boolean), Cond.fieldLink RX12 22 "FourWallsModel" "now" "[I", Cond.fieldLink RX12 16 "FourWallsModel" "needs" "[I", Cond.methodLink RX12 173 yX12_loudAt, Cond.instanceMethod yX12_loudAt, Cond.selects RX12 yX12_loudAt yX12_loudAt, Cond.code yX12_loudAt cX12_loudAt 8 (some .int), Cond.fieldLink RX12 7 "FourWallsModel" "loud" "[I", Cond.methodLink RX12 184 yX12_hears, Cond.instanceMethod yX12_hears, Cond.selects RX12 yX12_hears yX12_hears, Cond.code yX12_hears cX12_hears 4 (some .boolean), Cond.methodLink RX12 268 yX12_greatestPart, Cond.instanceMethod yX12_greatestPart, Cond.selects RX12 yX12_greatestPart yX12_greatestPart, Cond.code yX12_greatestPart cX12_greatestPart 5 (some .int), Cond.fieldLink RX12 59 "FourWallsModel" "parts" "[I"]
def wsX12_ask : List Cond := .code yX12_ask cX12_ask 5 (some .int) :: ((wsX12_ask_r1 ++ (wsX12_ask_r2 ++ wsX12_ask_r3)) ++ wsX120)
def wsX12_write : List Cond := .code yX12_write cX12_write 2 (some .int) :: ([.constantLong RX12 271 (7), .constant RX12 94 (-1000000002), .fieldLink RX12 159 "FourWallsModel" "booked" "I", .constant RX12 98 (-1000000004), .fieldLink RX12 62 "FourWallsModel" "book" "[I", .methodLink RX12 82 yX12_in, .static yX12_in, .initialized RX12, .code yX12_in cX12_in 6 (some .boolean)] ++ wsX120)
def wsX12_tear : List Cond := .code yX12_tear cX12_tear 2 (some .int) :: ([.fieldLink RX12 156 "FourWallsModel" "said" "I", .fieldLink RX12 159 "FourWallsModel" "booked" "I"] ++ wsX120)
def wsX12_judge : List Cond := .code yX12_judge cX12_judge 2 (some .int) :: ([.fieldLink RX12 159 "FourWallsModel" "booked" "I", .fieldLink RX12 22 "FourWallsModel" "now" "[I", .fieldLink RX12 62 "FourWallsModel" "book" "[I", .methodLink RX12 236 yX12_bits, .static yX12_bits, .initialized RX12, .code yX12_bits cX12_bits 3 (some .int)] ++ wsX120)
def wsX12_seed : List Cond := .code yX12_seed cX12_seed 3 (some .int) :: ([.constant RX12 94 (-1000000002), .fieldLink RX12 205 "FourWallsModel" "seed" "I"] ++ wsX120)
def wsX12_keep : List Cond := .code yX12_keep cX12_keep 3 (some .int) :: ([.constant RX12 165 (-1000000001), .fieldLink RX12 65 "FourWallsModel" "images" "[I", .fieldLink RX12 22 "FourWallsModel" "now" "[I", .fieldLink RX12 205 "FourWallsModel" "seed" "I", .fieldLink RX12 68 "FourWallsModel" "isKept" "[Z", .fieldLink RX12 162 "FourWallsModel" "undos" "I", .methodLink RX12 82 yX12_in, .static yX12_in, .initialized RX12, .code yX12_in cX12_in 6 (some .boolean)] ++ wsX120)
def wsX12_goBack : List Cond := .code yX12_goBack cX12_goBack 3 (some .int) :: ([.constant RX12 165 (-1000000001), .fieldLink RX12 68 "FourWallsModel" "isKept" "[Z", .constant RX12 204 (-1000000003), .fieldLink RX12 22 "FourWallsModel" "now" "[I", .fieldLink RX12 65 "FourWallsModel" "images" "[I", .fieldLink RX12 205 "FourWallsModel" "seed" "I", .fieldLink RX12 162 "FourWallsModel" "undos" "I", .methodLink RX12 82 yX12_in, .static yX12_in, .initialized RX12, .code yX12_in cX12_in 6 (some .boolean)] ++ wsX120)
def wsJ9_max_7cf53 : List Cond := .code yJ9_max_7cf53 cJ9_max_7cf53 2 (some .int) :: ([])
def wsJ9_min_7cf53 : List Cond := .code yJ9_min_7cf53 cJ9_min_7cf53 2 (some .int) :: ([])
abbrev vwCl : List vw_C := [(RX0, TX0, 2), (RX1, TX1, 8), (RX2, TX2, 2), (RX3, TX3, 3), (RX4, TX4, 3), (RX5, TX5, 10), (RX6, TX6, 6), (RX8, TX8, 1), (RX9, TX9, 2), (RX10, TX10, 4), (RX11, TX11, 11), (RX12, TX12, 35)]
end
section
theorem inJ6 : ∀ w ∈ wsJ60, w ∈ lw_tbl := by decide +kernel
theorem inJ9 : ∀ w ∈ wsJ90, w ∈ lw_tbl := by decide +kernel
theorem dX0_init_0 : decode cX0_init 0 = .ok (.aload_n 0, 1) := by decide +kernel
theorem dX0_init_1 : decode cX0_init 1 = .ok (.invokespecial 3, 3) := by decide +kernel
theorem dX0_init_4 : decode cX0_init 4 = .ok (.aload_n 0, 1) := by decide +kernel
theorem dX0_init_5 : decode cX0_init 5 = .ok (.bipush 15, 2) := by decide +kernel
theorem dX0_init_7 : decode cX0_init 7 = .ok (.newarray .int, 2) := by decide +kernel
theorem dX0_init_9 : decode cX0_init 9 = .ok (.putfield 9, 3) := by decide +kernel
theorem dX0_init_12 : decode cX0_init 12 = .ok (.return_, 1) := by decide +kernel
set_option maxRecDepth 20000 in
theorem ggX0_add_X7_put : GoodIn wsX0_add wsX7_put := goodIn_r _ [6] (by decide +kernel) (by decide +kernel)
set_option maxRecDepth 20000 in
theorem gX0_add_X7_put : GoodIn wsX0_add (va_wsS RX0 19 yX7_put wsX7_put) := goodIn_app (goodIn_of _ (by decide +kernel)) ggX0_add_X7_put
theorem dX0_add_0 : decode cX0_add 0 = .ok (.aload_n 0, 1) := by decide +kernel
theorem dX0_add_1 : decode cX0_add 1 = .ok (.getfield 15, 3) := by decide +kernel
theorem dX0_add_4 : decode cX0_add 4 = .ok (.bipush 15, 2) := by decide +kernel
theorem dX0_add_6 : decode cX0_add 6 = .ok (.if_icmp .lt 5, 3) := by decide +kernel
theorem dX0_add_9 : decode cX0_add 9 = .ok (.iconst 0, 1) := by decide +kernel
theorem dX0_add_10 : decode cX0_add 10 = .ok (.ireturn, 1) := by decide +kernel
theorem dX0_add_11 : decode cX0_add 11 = .ok (.aload_n 0, 1) := by decide +kernel
theorem dX0_add_12 : decode cX0_add 12 = .ok (.getfield 9, 3) := by decide +kernel
theorem dX0_add_15 : decode cX0_add 15 = .ok (.aload_n 0, 1) := by decide +kernel
theorem dX0_add_16 : decode cX0_add 16 = .ok (.getfield 15, 3) := by decide +kernel
theorem dX0_add_19 : decode cX0_add 19 = .ok (.iload_n 1, 1) := by decide +kernel
theorem dX0_add_20 : decode cX0_add 20 = .ok (.invokestatic 19, 3) := by decide +kernel
theorem dX0_add_23 : decode cX0_add 23 = .ok (.aload_n 0, 1) := by decide +kernel
theorem dX0_add_24 : decode cX0_add 24 = .ok (.dup, 1) := by decide +kernel
theorem dX0_add_25 : decode cX0_add 25 = .ok (.getfield 15, 3) := by decide +kernel
theorem dX0_add_28 : decode cX0_add 28 = .ok (.iconst 1, 1) := by decide +kernel
theorem dX0_add_29 : decode cX0_add 29 = .ok (.iadd, 1) := by decide +kernel
theorem dX0_add_30 : decode cX0_add 30 = .ok (.putfield 15, 3) := by decide +kernel
theorem dX0_add_33 : decode cX0_add 33 = .ok (.iconst 1, 1) := by decide +kernel
theorem dX0_add_34 : decode cX0_add 34 = .ok (.ireturn, 1) := by decide +kernel
set_option maxRecDepth 20000 in
theorem ggX0_firstOtherThan_X7_get : GoodIn wsX0_firstOtherThan wsX7_get := goodIn_r _ [6] (by decide +kernel) (by decide +kernel)
set_option maxRecDepth 20000 in
theorem gX0_firstOtherThan_X7_get : GoodIn wsX0_firstOtherThan (va_wsS RX0 25 yX7_get wsX7_get) := goodIn_app (goodIn_of _ (by decide +kernel)) ggX0_firstOtherThan_X7_get
theorem dX0_firstOtherThan_0 : decode cX0_firstOtherThan 0 = .ok (.iconst 0, 1) := by decide +kernel
theorem dX0_firstOtherThan_1 : decode cX0_firstOtherThan 1 = .ok (.istore_n 2, 1) := by decide +kernel
theorem dX0_firstOtherThan_2 : decode cX0_firstOtherThan 2 = .ok (.iload_n 2, 1) := by decide +kernel
theorem dX0_firstOtherThan_3 : decode cX0_firstOtherThan 3 = .ok (.aload_n 0, 1) := by decide +kernel
theorem dX0_firstOtherThan_4 : decode cX0_firstOtherThan 4 = .ok (.getfield 15, 3) := by decide +kernel
theorem dX0_firstOtherThan_7 : decode cX0_firstOtherThan 7 = .ok (.if_icmp .ge 23, 3) := by decide +kernel
theorem dX0_firstOtherThan_10 : decode cX0_firstOtherThan 10 = .ok (.aload_n 0, 1) := by decide +kernel
theorem dX0_firstOtherThan_11 : decode cX0_firstOtherThan 11 = .ok (.getfield 9, 3) := by decide +kernel
theorem dX0_firstOtherThan_14 : decode cX0_firstOtherThan 14 = .ok (.iload_n 2, 1) := by decide +kernel
theorem dX0_firstOtherThan_15 : decode cX0_firstOtherThan 15 = .ok (.invokestatic 25, 3) := by decide +kernel
theorem dX0_firstOtherThan_18 : decode cX0_firstOtherThan 18 = .ok (.iload_n 1, 1) := by decide +kernel
theorem dX0_firstOtherThan_19 : decode cX0_firstOtherThan 19 = .ok (.if_icmp .eq 5, 3) := by decide +kernel
theorem dX0_firstOtherThan_22 : decode cX0_firstOtherThan 22 = .ok (.iload_n 2, 1) := by decide +kernel
theorem dX0_firstOtherThan_23 : decode cX0_firstOtherThan 23 = .ok (.ireturn, 1) := by decide +kernel
theorem dX0_firstOtherThan_24 : decode cX0_firstOtherThan 24 = .ok (.iinc 2 1, 3) := by decide +kernel
theorem dX0_firstOtherThan_27 : decode cX0_firstOtherThan 27 = .ok (.goto (-25), 3) := by decide +kernel
theorem dX0_firstOtherThan_30 : decode cX0_firstOtherThan 30 = .ok (.iconst (-1), 1) := by decide +kernel
theorem dX0_firstOtherThan_31 : decode cX0_firstOtherThan 31 = .ok (.ireturn, 1) := by decide +kernel
theorem dX1_init_0 : decode cX1_init 0 = .ok (.aload_n 0, 1) := by decide +kernel
theorem dX1_init_1 : decode cX1_init 1 = .ok (.invokespecial 3, 3) := by decide +kernel
theorem dX1_init_4 : decode cX1_init 4 = .ok (.aload_n 0, 1) := by decide +kernel
theorem dX1_init_5 : decode cX1_init 5 = .ok (.bipush 8, 2) := by decide +kernel
theorem dX1_init_7 : decode cX1_init 7 = .ok (.newarray .int, 2) := by decide +kernel
theorem dX1_init_9 : decode cX1_init 9 = .ok (.putfield 9, 3) := by decide +kernel
theorem dX1_init_12 : decode cX1_init 12 = .ok (.aload_n 0, 1) := by decide +kernel
theorem dX1_init_13 : decode cX1_init 13 = .ok (.bipush 8, 2) := by decide +kernel
theorem dX1_init_15 : decode cX1_init 15 = .ok (.newarray .int, 2) := by decide +kernel
theorem dX1_init_17 : decode cX1_init 17 = .ok (.putfield 15, 3) := by decide +kernel
theorem dX1_init_20 : decode cX1_init 20 = .ok (.aload_n 0, 1) := by decide +kernel
theorem dX1_init_21 : decode cX1_init 21 = .ok (.bipush 55, 2) := by decide +kernel
theorem dX1_init_23 : decode cX1_init 23 = .ok (.newarray .int, 2) := by decide +kernel
theorem dX1_init_25 : decode cX1_init 25 = .ok (.putfield 18, 3) := by decide +kernel
theorem dX1_init_28 : decode cX1_init 28 = .ok (.aload_n 0, 1) := by decide +kernel
theorem dX1_init_29 : decode cX1_init 29 = .ok (.bipush 12, 2) := by decide +kernel
theorem dX1_init_31 : decode cX1_init 31 = .ok (.newarray .int, 2) := by decide +kernel
theorem dX1_init_33 : decode cX1_init 33 = .ok (.putfield 21, 3) := by decide +kernel
theorem dX1_init_36 : decode cX1_init 36 = .ok (.aload_n 0, 1) := by decide +kernel
theorem dX1_init_37 : decode cX1_init 37 = .ok (.aload_n 1, 1) := by decide +kernel
theorem dX1_init_38 : decode cX1_init 38 = .ok (.putfield 24, 3) := by decide +kernel
theorem dX1_init_41 : decode cX1_init 41 = .ok (.aload_n 0, 1) := by decide +kernel
theorem dX1_init_42 : decode cX1_init 42 = .ok (.aload_n 2, 1) := by decide +kernel
theorem dX1_init_43 : decode cX1_init 43 = .ok (.putfield 28, 3) := by decide +kernel
theorem dX1_init_46 : decode cX1_init 46 = .ok (.return_, 1) := by decide +kernel
set_option maxRecDepth 20000 in
theorem ggX1_add_X7_put : GoodIn wsX1_add wsX7_put := goodIn_r _ [7] (by decide +kernel) (by decide +kernel)
set_option maxRecDepth 20000 in
theorem gX1_add_X7_put : GoodIn wsX1_add (va_wsS RX1 36 yX7_put wsX7_put) := goodIn_app (goodIn_of _ (by decide +kernel)) ggX1_add_X7_put
theorem dX1_add_0 : decode cX1_add 0 = .ok (.aload_n 0, 1) := by decide +kernel
theorem dX1_add_1 : decode cX1_add 1 = .ok (.getfield 32, 3) := by decide +kernel
theorem dX1_add_4 : decode cX1_add 4 = .ok (.bipush 8, 2) := by decide +kernel
theorem dX1_add_6 : decode cX1_add 6 = .ok (.if_icmp .lt 5, 3) := by decide +kernel
theorem dX1_add_9 : decode cX1_add 9 = .ok (.iconst 0, 1) := by decide +kernel
theorem dX1_add_10 : decode cX1_add 10 = .ok (.ireturn, 1) := by decide +kernel
theorem dX1_add_11 : decode cX1_add 11 = .ok (.aload_n 0, 1) := by decide +kernel
theorem dX1_add_12 : decode cX1_add 12 = .ok (.getfield 9, 3) := by decide +kernel
theorem dX1_add_15 : decode cX1_add 15 = .ok (.aload_n 0, 1) := by decide +kernel
theorem dX1_add_16 : decode cX1_add 16 = .ok (.getfield 32, 3) := by decide +kernel
theorem dX1_add_19 : decode cX1_add 19 = .ok (.iload_n 1, 1) := by decide +kernel
theorem dX1_add_20 : decode cX1_add 20 = .ok (.invokestatic 36, 3) := by decide +kernel
theorem dX1_add_23 : decode cX1_add 23 = .ok (.aload_n 0, 1) := by decide +kernel
theorem dX1_add_24 : decode cX1_add 24 = .ok (.getfield 15, 3) := by decide +kernel
theorem dX1_add_27 : decode cX1_add 27 = .ok (.aload_n 0, 1) := by decide +kernel
theorem dX1_add_28 : decode cX1_add 28 = .ok (.getfield 32, 3) := by decide +kernel
theorem dX1_add_31 : decode cX1_add 31 = .ok (.iload_n 2, 1) := by decide +kernel
theorem dX1_add_32 : decode cX1_add 32 = .ok (.invokestatic 36, 3) := by decide +kernel
theorem dX1_add_35 : decode cX1_add 35 = .ok (.aload_n 0, 1) := by decide +kernel
theorem dX1_add_36 : decode cX1_add 36 = .ok (.dup, 1) := by decide +kernel
theorem dX1_add_37 : decode cX1_add 37 = .ok (.getfield 32, 3) := by decide +kernel
theorem dX1_add_40 : decode cX1_add 40 = .ok (.iconst 1, 1) := by decide +kernel
theorem dX1_add_41 : decode cX1_add 41 = .ok (.iadd, 1) := by decide +kernel
theorem dX1_add_42 : decode cX1_add 42 = .ok (.putfield 32, 3) := by decide +kernel
theorem dX1_add_45 : decode cX1_add 45 = .ok (.iconst 1, 1) := by decide +kernel
theorem dX1_add_46 : decode cX1_add 46 = .ok (.ireturn, 1) := by decide +kernel
set_option maxRecDepth 20000 in
theorem ggX1_liarsOf_X1_soundOf : GoodIn wsX1_liarsOf wsX1_soundOf := goodIn_r _ [8] (by decide +kernel) (by decide +kernel)
set_option maxRecDepth 20000 in
theorem gX1_liarsOf_X1_soundOf : GoodIn wsX1_liarsOf (va_wsS RX1 42 yX1_soundOf wsX1_soundOf) := goodIn_app (goodIn_of _ (by decide +kernel)) ggX1_liarsOf_X1_soundOf
set_option maxRecDepth 20000 in
theorem ggX1_liarsOf_X7_get : GoodIn wsX1_liarsOf wsX7_get := goodIn_r _ [12] (by decide +kernel) (by decide +kernel)
set_option maxRecDepth 20000 in
theorem gX1_liarsOf_X7_get : GoodIn wsX1_liarsOf (va_wsS RX1 46 yX7_get wsX7_get) := goodIn_app (goodIn_of _ (by decide +kernel)) ggX1_liarsOf_X7_get
set_option maxRecDepth 20000 in
theorem ggX1_liarsOf_X2_saying : GoodIn wsX1_liarsOf wsX2_saying := goodIn_r _ [17, 18, 19, 20, 21, 22, 10, 11, 12, 23, 24, 25, 16, 26, 27, 28, 29, 30, 31, 32, 33, 34, 35, 36, 37, 38, 39, 40, 41, 50, 51, 52, 53, 54, 55, 56, 57, 58, 59, 60, 61, 62] (by decide +kernel) (by decide +kernel)
set_option maxRecDepth 20000 in
theorem gX1_liarsOf_X2_saying : GoodIn wsX1_liarsOf (wsV RX1 50 RX2 yX2_saying wsX2_saying) := goodIn_app (goodIn_of _ (by decide +kernel)) ggX1_liarsOf_X2_saying
theorem dX1_liarsOf_0 : decode cX1_liarsOf 0 = .ok (.iload_n 1, 1) := by decide +kernel
theorem dX1_liarsOf_1 : decode cX1_liarsOf 1 = .ok (.invokestatic 42, 3) := by decide +kernel
theorem dX1_liarsOf_4 : decode cX1_liarsOf 4 = .ok (.istore_n 2, 1) := by decide +kernel
theorem dX1_liarsOf_5 : decode cX1_liarsOf 5 = .ok (.iconst 0, 1) := by decide +kernel
theorem dX1_liarsOf_6 : decode cX1_liarsOf 6 = .ok (.istore_n 3, 1) := by decide +kernel
theorem dX1_liarsOf_7 : decode cX1_liarsOf 7 = .ok (.iconst 0, 1) := by decide +kernel
theorem dX1_liarsOf_8 : decode cX1_liarsOf 8 = .ok (.istore 4, 2) := by decide +kernel
theorem dX1_liarsOf_10 : decode cX1_liarsOf 10 = .ok (.iload 4, 2) := by decide +kernel
theorem dX1_liarsOf_12 : decode cX1_liarsOf 12 = .ok (.aload_n 0, 1) := by decide +kernel
theorem dX1_liarsOf_13 : decode cX1_liarsOf 13 = .ok (.getfield 32, 3) := by decide +kernel
theorem dX1_liarsOf_16 : decode cX1_liarsOf 16 = .ok (.if_icmp .ge 45, 3) := by decide +kernel
theorem dX1_liarsOf_19 : decode cX1_liarsOf 19 = .ok (.aload_n 0, 1) := by decide +kernel
theorem dX1_liarsOf_20 : decode cX1_liarsOf 20 = .ok (.getfield 28, 3) := by decide +kernel
theorem dX1_liarsOf_23 : decode cX1_liarsOf 23 = .ok (.aload_n 0, 1) := by decide +kernel
theorem dX1_liarsOf_24 : decode cX1_liarsOf 24 = .ok (.getfield 9, 3) := by decide +kernel
theorem dX1_liarsOf_27 : decode cX1_liarsOf 27 = .ok (.iload 4, 2) := by decide +kernel
theorem dX1_liarsOf_29 : decode cX1_liarsOf 29 = .ok (.invokestatic 46, 3) := by decide +kernel
theorem dX1_liarsOf_32 : decode cX1_liarsOf 32 = .ok (.iload_n 2, 1) := by decide +kernel
theorem dX1_liarsOf_33 : decode cX1_liarsOf 33 = .ok (.iload_n 1, 1) := by decide +kernel
theorem dX1_liarsOf_34 : decode cX1_liarsOf 34 = .ok (.bipush 10, 2) := by decide +kernel
theorem dX1_liarsOf_36 : decode cX1_liarsOf 36 = .ok (.irem, 1) := by decide +kernel
theorem dX1_liarsOf_37 : decode cX1_liarsOf 37 = .ok (.invokevirtual 50, 3) := by decide +kernel
theorem dX1_liarsOf_40 : decode cX1_liarsOf 40 = .ok (.aload_n 0, 1) := by decide +kernel
theorem dX1_liarsOf_41 : decode cX1_liarsOf 41 = .ok (.getfield 15, 3) := by decide +kernel
theorem dX1_liarsOf_44 : decode cX1_liarsOf 44 = .ok (.iload 4, 2) := by decide +kernel
theorem dX1_liarsOf_46 : decode cX1_liarsOf 46 = .ok (.invokestatic 46, 3) := by decide +kernel
theorem dX1_liarsOf_49 : decode cX1_liarsOf 49 = .ok (.if_icmp .eq 6, 3) := by decide +kernel
theorem dX1_liarsOf_52 : decode cX1_liarsOf 52 = .ok (.iinc 3 1, 3) := by decide +kernel
theorem dX1_liarsOf_55 : decode cX1_liarsOf 55 = .ok (.iinc 4 1, 3) := by decide +kernel
theorem dX1_liarsOf_58 : decode cX1_liarsOf 58 = .ok (.goto (-48), 3) := by decide +kernel
theorem dX1_liarsOf_61 : decode cX1_liarsOf 61 = .ok (.iload_n 3, 1) := by decide +kernel
theorem dX1_liarsOf_62 : decode cX1_liarsOf 62 = .ok (.ireturn, 1) := by decide +kernel
set_option maxRecDepth 20000 in
theorem ggX1_gatherBirths_X1_pairs : GoodIn wsX1_gatherBirths wsX1_pairs := goodIn_r _ [7, 8, 9, 10, 11, 12, 13, 14, 15, 67, 68, 69, 70, 71, 72, 73, 74, 75, 76, 77, 78, 79, 80, 81, 82, 83, 84] (by decide +kernel) (by decide +kernel)
set_option maxRecDepth 20000 in
theorem gX1_gatherBirths_X1_pairs : GoodIn wsX1_gatherBirths (wsV RX1 59 RX1 yX1_pairs wsX1_pairs) := goodIn_app (goodIn_of _ (by decide +kernel)) ggX1_gatherBirths_X1_pairs
set_option maxRecDepth 20000 in
theorem ggX1_gatherBirths_X1_pairAt : GoodIn wsX1_gatherBirths wsX1_pairAt := goodIn_r _ [19, 8, 9, 10, 11, 12, 13, 14, 15, 67, 68, 69, 70, 71, 72, 73, 74, 75, 76, 77, 78, 79, 80, 81, 82, 83, 84] (by decide +kernel) (by decide +kernel)
set_option maxRecDepth 20000 in
theorem gX1_gatherBirths_X1_pairAt : GoodIn wsX1_gatherBirths (wsV RX1 63 RX1 yX1_pairAt wsX1_pairAt) := goodIn_app (goodIn_of _ (by decide +kernel)) ggX1_gatherBirths_X1_pairAt
set_option maxRecDepth 20000 in
theorem ggX1_gatherBirths_X1_liarsOf : GoodIn wsX1_gatherBirths wsX1_liarsOf := goodIn_r _ [23, 24, 25, 26, 27, 28, 29, 6, 30, 31, 32, 33, 34, 35, 36, 37, 38, 39, 40, 41, 42, 43, 44, 45, 46, 47, 48, 49, 50, 51, 52, 53, 54, 55, 56, 57, 58, 59, 60, 61, 62, 63, 67, 68, 69, 70, 71, 72, 73, 74, 85, 86, 75, 76, 77, 78, 79, 80, 81, 82, 83, 84, 87] (by decide +kernel) (by decide +kernel)
set_option maxRecDepth 20000 in
theorem gX1_gatherBirths_X1_liarsOf : GoodIn wsX1_gatherBirths (wsV RX1 66 RX1 yX1_liarsOf wsX1_liarsOf) := goodIn_app (goodIn_of _ (by decide +kernel)) ggX1_gatherBirths_X1_liarsOf
set_option maxRecDepth 20000 in
theorem ggX1_gatherBirths_X7_put : GoodIn wsX1_gatherBirths wsX7_put := goodIn_r _ [66] (by decide +kernel) (by decide +kernel)
set_option maxRecDepth 20000 in
theorem gX1_gatherBirths_X7_put : GoodIn wsX1_gatherBirths (va_wsS RX1 36 yX7_put wsX7_put) := goodIn_app (goodIn_of _ (by decide +kernel)) ggX1_gatherBirths_X7_put
theorem dX1_gatherBirths_0 : decode cX1_gatherBirths 0 = .ok (.aload_n 0, 1) := by decide +kernel
theorem dX1_gatherBirths_1 : decode cX1_gatherBirths 1 = .ok (.iconst 0, 1) := by decide +kernel
theorem dX1_gatherBirths_2 : decode cX1_gatherBirths 2 = .ok (.putfield 56, 3) := by decide +kernel
theorem dX1_gatherBirths_5 : decode cX1_gatherBirths 5 = .ok (.iconst 0, 1) := by decide +kernel
theorem dX1_gatherBirths_6 : decode cX1_gatherBirths 6 = .ok (.istore_n 1, 1) := by decide +kernel
theorem dX1_gatherBirths_7 : decode cX1_gatherBirths 7 = .ok (.iload_n 1, 1) := by decide +kernel
theorem dX1_gatherBirths_8 : decode cX1_gatherBirths 8 = .ok (.aload_n 0, 1) := by decide +kernel
theorem dX1_gatherBirths_9 : decode cX1_gatherBirths 9 = .ok (.invokevirtual 59, 3) := by decide +kernel
theorem dX1_gatherBirths_12 : decode cX1_gatherBirths 12 = .ok (.if_icmp .ge 45, 3) := by decide +kernel
theorem dX1_gatherBirths_15 : decode cX1_gatherBirths 15 = .ok (.aload_n 0, 1) := by decide +kernel
theorem dX1_gatherBirths_16 : decode cX1_gatherBirths 16 = .ok (.iload_n 1, 1) := by decide +kernel
theorem dX1_gatherBirths_17 : decode cX1_gatherBirths 17 = .ok (.invokevirtual 63, 3) := by decide +kernel
theorem dX1_gatherBirths_20 : decode cX1_gatherBirths 20 = .ok (.istore_n 2, 1) := by decide +kernel
theorem dX1_gatherBirths_21 : decode cX1_gatherBirths 21 = .ok (.aload_n 0, 1) := by decide +kernel
theorem dX1_gatherBirths_22 : decode cX1_gatherBirths 22 = .ok (.iload_n 2, 1) := by decide +kernel
theorem dX1_gatherBirths_23 : decode cX1_gatherBirths 23 = .ok (.invokevirtual 66, 3) := by decide +kernel
theorem dX1_gatherBirths_26 : decode cX1_gatherBirths 26 = .ok (.ifCond .ne 25, 3) := by decide +kernel
theorem dX1_gatherBirths_29 : decode cX1_gatherBirths 29 = .ok (.aload_n 0, 1) := by decide +kernel
theorem dX1_gatherBirths_30 : decode cX1_gatherBirths 30 = .ok (.getfield 18, 3) := by decide +kernel
theorem dX1_gatherBirths_33 : decode cX1_gatherBirths 33 = .ok (.aload_n 0, 1) := by decide +kernel
theorem dX1_gatherBirths_34 : decode cX1_gatherBirths 34 = .ok (.getfield 56, 3) := by decide +kernel
theorem dX1_gatherBirths_37 : decode cX1_gatherBirths 37 = .ok (.iload_n 2, 1) := by decide +kernel
theorem dX1_gatherBirths_38 : decode cX1_gatherBirths 38 = .ok (.invokestatic 36, 3) := by decide +kernel
theorem dX1_gatherBirths_41 : decode cX1_gatherBirths 41 = .ok (.aload_n 0, 1) := by decide +kernel
theorem dX1_gatherBirths_42 : decode cX1_gatherBirths 42 = .ok (.dup, 1) := by decide +kernel
theorem dX1_gatherBirths_43 : decode cX1_gatherBirths 43 = .ok (.getfield 56, 3) := by decide +kernel
theorem dX1_gatherBirths_46 : decode cX1_gatherBirths 46 = .ok (.iconst 1, 1) := by decide +kernel
theorem dX1_gatherBirths_47 : decode cX1_gatherBirths 47 = .ok (.iadd, 1) := by decide +kernel
theorem dX1_gatherBirths_48 : decode cX1_gatherBirths 48 = .ok (.putfield 56, 3) := by decide +kernel
theorem dX1_gatherBirths_51 : decode cX1_gatherBirths 51 = .ok (.iinc 1 1, 3) := by decide +kernel
theorem dX1_gatherBirths_54 : decode cX1_gatherBirths 54 = .ok (.goto (-47), 3) := by decide +kernel
theorem dX1_gatherBirths_57 : decode cX1_gatherBirths 57 = .ok (.return_, 1) := by decide +kernel
set_option maxRecDepth 20000 in
theorem ggX1_birthAt_X7_get : GoodIn wsX1_birthAt wsX7_get := goodIn_r _ [6] (by decide +kernel) (by decide +kernel)
set_option maxRecDepth 20000 in
theorem gX1_birthAt_X7_get : GoodIn wsX1_birthAt (va_wsS RX1 46 yX7_get wsX7_get) := goodIn_app (goodIn_of _ (by decide +kernel)) ggX1_birthAt_X7_get
theorem dX1_birthAt_0 : decode cX1_birthAt 0 = .ok (.iload_n 1, 1) := by decide +kernel
theorem dX1_birthAt_1 : decode cX1_birthAt 1 = .ok (.ifCond .lt 22, 3) := by decide +kernel
theorem dX1_birthAt_4 : decode cX1_birthAt 4 = .ok (.iload_n 1, 1) := by decide +kernel
theorem dX1_birthAt_5 : decode cX1_birthAt 5 = .ok (.aload_n 0, 1) := by decide +kernel
theorem dX1_birthAt_6 : decode cX1_birthAt 6 = .ok (.getfield 56, 3) := by decide +kernel
theorem dX1_birthAt_9 : decode cX1_birthAt 9 = .ok (.if_icmp .ge 14, 3) := by decide +kernel
theorem dX1_birthAt_12 : decode cX1_birthAt 12 = .ok (.aload_n 0, 1) := by decide +kernel
theorem dX1_birthAt_13 : decode cX1_birthAt 13 = .ok (.getfield 18, 3) := by decide +kernel
theorem dX1_birthAt_16 : decode cX1_birthAt 16 = .ok (.iload_n 1, 1) := by decide +kernel
theorem dX1_birthAt_17 : decode cX1_birthAt 17 = .ok (.invokestatic 46, 3) := by decide +kernel
theorem dX1_birthAt_20 : decode cX1_birthAt 20 = .ok (.goto 4, 3) := by decide +kernel
theorem dX1_birthAt_23 : decode cX1_birthAt 23 = .ok (.iconst (-1), 1) := by decide +kernel
theorem dX1_birthAt_24 : decode cX1_birthAt 24 = .ok (.ireturn, 1) := by decide +kernel
set_option maxRecDepth 20000 in
theorem ggX1_pairOfFewestLiars_X1_pairAt : GoodIn wsX1_pairOfFewestLiars wsX1_pairAt := goodIn_r _ [5, 6, 7, 8, 9, 10, 11, 12, 13, 62, 63, 64, 65, 66, 67, 68, 69, 70, 71, 72, 73, 74, 75, 76, 77, 78, 79] (by decide +kernel) (by decide +kernel)
set_option maxRecDepth 20000 in
theorem gX1_pairOfFewestLiars_X1_pairAt : GoodIn wsX1_pairOfFewestLiars (wsV RX1 63 RX1 yX1_pairAt wsX1_pairAt) := goodIn_app (goodIn_of _ (by decide +kernel)) ggX1_pairOfFewestLiars_X1_pairAt
set_option maxRecDepth 20000 in
theorem ggX1_pairOfFewestLiars_X1_liarsOf : GoodIn wsX1_pairOfFewestLiars wsX1_liarsOf := goodIn_r _ [17, 18, 19, 20, 21, 22, 23, 4, 24, 25, 26, 27, 28, 29, 30, 31, 32, 33, 34, 35, 36, 37, 38, 39, 40, 41, 42, 43, 44, 45, 46, 47, 48, 49, 50, 51, 52, 53, 54, 55, 56, 57, 62, 63, 64, 65, 66, 67, 68, 69, 80, 81, 70, 71, 72, 73, 74, 75, 76, 77, 78, 79, 82] (by decide +kernel) (by decide +kernel)
set_option maxRecDepth 20000 in
theorem gX1_pairOfFewestLiars_X1_liarsOf : GoodIn wsX1_pairOfFewestLiars (wsV RX1 66 RX1 yX1_liarsOf wsX1_liarsOf) := goodIn_app (goodIn_of _ (by decide +kernel)) ggX1_pairOfFewestLiars_X1_liarsOf
set_option maxRecDepth 20000 in
theorem ggX1_pairOfFewestLiars_X1_pairs : GoodIn wsX1_pairOfFewestLiars wsX1_pairs := goodIn_r _ [61, 6, 7, 8, 9, 10, 11, 12, 13, 62, 63, 64, 65, 66, 67, 68, 69, 70, 71, 72, 73, 74, 75, 76, 77, 78, 79] (by decide +kernel) (by decide +kernel)
set_option maxRecDepth 20000 in
theorem gX1_pairOfFewestLiars_X1_pairs : GoodIn wsX1_pairOfFewestLiars (wsV RX1 59 RX1 yX1_pairs wsX1_pairs) := goodIn_app (goodIn_of _ (by decide +kernel)) ggX1_pairOfFewestLiars_X1_pairs
theorem dX1_pairOfFewestLiars_0 : decode cX1_pairOfFewestLiars 0 = .ok (.aload_n 0, 1) := by decide +kernel
theorem dX1_pairOfFewestLiars_1 : decode cX1_pairOfFewestLiars 1 = .ok (.iconst 0, 1) := by decide +kernel
theorem dX1_pairOfFewestLiars_2 : decode cX1_pairOfFewestLiars 2 = .ok (.invokevirtual 63, 3) := by decide +kernel
theorem dX1_pairOfFewestLiars_5 : decode cX1_pairOfFewestLiars 5 = .ok (.istore_n 1, 1) := by decide +kernel
theorem dX1_pairOfFewestLiars_6 : decode cX1_pairOfFewestLiars 6 = .ok (.aload_n 0, 1) := by decide +kernel
theorem dX1_pairOfFewestLiars_7 : decode cX1_pairOfFewestLiars 7 = .ok (.iload_n 1, 1) := by decide +kernel
theorem dX1_pairOfFewestLiars_8 : decode cX1_pairOfFewestLiars 8 = .ok (.invokevirtual 66, 3) := by decide +kernel
theorem dX1_pairOfFewestLiars_11 : decode cX1_pairOfFewestLiars 11 = .ok (.istore_n 2, 1) := by decide +kernel
theorem dX1_pairOfFewestLiars_12 : decode cX1_pairOfFewestLiars 12 = .ok (.iconst 1, 1) := by decide +kernel
theorem dX1_pairOfFewestLiars_13 : decode cX1_pairOfFewestLiars 13 = .ok (.istore_n 3, 1) := by decide +kernel
theorem dX1_pairOfFewestLiars_14 : decode cX1_pairOfFewestLiars 14 = .ok (.iload_n 3, 1) := by decide +kernel
theorem dX1_pairOfFewestLiars_15 : decode cX1_pairOfFewestLiars 15 = .ok (.aload_n 0, 1) := by decide +kernel
theorem dX1_pairOfFewestLiars_16 : decode cX1_pairOfFewestLiars 16 = .ok (.invokevirtual 59, 3) := by decide +kernel
theorem dX1_pairOfFewestLiars_19 : decode cX1_pairOfFewestLiars 19 = .ok (.if_icmp .ge 35, 3) := by decide +kernel
theorem dX1_pairOfFewestLiars_22 : decode cX1_pairOfFewestLiars 22 = .ok (.aload_n 0, 1) := by decide +kernel
theorem dX1_pairOfFewestLiars_23 : decode cX1_pairOfFewestLiars 23 = .ok (.aload_n 0, 1) := by decide +kernel
theorem dX1_pairOfFewestLiars_24 : decode cX1_pairOfFewestLiars 24 = .ok (.iload_n 3, 1) := by decide +kernel
theorem dX1_pairOfFewestLiars_25 : decode cX1_pairOfFewestLiars 25 = .ok (.invokevirtual 63, 3) := by decide +kernel
theorem dX1_pairOfFewestLiars_28 : decode cX1_pairOfFewestLiars 28 = .ok (.invokevirtual 66, 3) := by decide +kernel
theorem dX1_pairOfFewestLiars_31 : decode cX1_pairOfFewestLiars 31 = .ok (.istore 4, 2) := by decide +kernel
theorem dX1_pairOfFewestLiars_33 : decode cX1_pairOfFewestLiars 33 = .ok (.iload 4, 2) := by decide +kernel
theorem dX1_pairOfFewestLiars_35 : decode cX1_pairOfFewestLiars 35 = .ok (.iload_n 2, 1) := by decide +kernel
theorem dX1_pairOfFewestLiars_36 : decode cX1_pairOfFewestLiars 36 = .ok (.if_icmp .ge 12, 3) := by decide +kernel
theorem dX1_pairOfFewestLiars_39 : decode cX1_pairOfFewestLiars 39 = .ok (.aload_n 0, 1) := by decide +kernel
theorem dX1_pairOfFewestLiars_40 : decode cX1_pairOfFewestLiars 40 = .ok (.iload_n 3, 1) := by decide +kernel
theorem dX1_pairOfFewestLiars_41 : decode cX1_pairOfFewestLiars 41 = .ok (.invokevirtual 63, 3) := by decide +kernel
theorem dX1_pairOfFewestLiars_44 : decode cX1_pairOfFewestLiars 44 = .ok (.istore_n 1, 1) := by decide +kernel
theorem dX1_pairOfFewestLiars_45 : decode cX1_pairOfFewestLiars 45 = .ok (.iload 4, 2) := by decide +kernel
theorem dX1_pairOfFewestLiars_47 : decode cX1_pairOfFewestLiars 47 = .ok (.istore_n 2, 1) := by decide +kernel
theorem dX1_pairOfFewestLiars_48 : decode cX1_pairOfFewestLiars 48 = .ok (.iinc 3 1, 3) := by decide +kernel
theorem dX1_pairOfFewestLiars_51 : decode cX1_pairOfFewestLiars 51 = .ok (.goto (-37), 3) := by decide +kernel
theorem dX1_pairOfFewestLiars_54 : decode cX1_pairOfFewestLiars 54 = .ok (.iload_n 1, 1) := by decide +kernel
theorem dX1_pairOfFewestLiars_55 : decode cX1_pairOfFewestLiars 55 = .ok (.ireturn, 1) := by decide +kernel
set_option maxRecDepth 20000 in
theorem ggX1_bestAsked_X1_greatestPart : GoodIn wsX1_bestAsked wsX1_greatestPart := goodIn_r _ [8, 9, 1, 10, 11, 12, 13, 14, 15, 16, 17, 18, 19, 20, 21, 22, 23, 24, 7, 25, 26, 27, 28, 29, 30, 31, 32, 33, 34, 35, 36, 37, 38, 39, 40, 41, 42, 43, 44, 45, 46, 47, 48, 49, 50, 51, 52, 53, 54, 55, 56, 57, 58, 59, 70, 71, 60, 61, 62, 63, 64, 65, 66, 67, 68, 69, 72] (by decide +kernel) (by decide +kernel)
set_option maxRecDepth 20000 in
theorem gX1_bestAsked_X1_greatestPart : GoodIn wsX1_bestAsked (wsV RX1 74 RX1 yX1_greatestPart wsX1_greatestPart) := goodIn_app (goodIn_of _ (by decide +kernel)) ggX1_bestAsked_X1_greatestPart
theorem dX1_bestAsked_0 : decode cX1_bestAsked 0 = .ok (.iconst (-1), 1) := by decide +kernel
theorem dX1_bestAsked_1 : decode cX1_bestAsked 1 = .ok (.istore_n 1, 1) := by decide +kernel
theorem dX1_bestAsked_2 : decode cX1_bestAsked 2 = .ok (.aload_n 0, 1) := by decide +kernel
theorem dX1_bestAsked_3 : decode cX1_bestAsked 3 = .ok (.getfield 56, 3) := by decide +kernel
theorem dX1_bestAsked_6 : decode cX1_bestAsked 6 = .ok (.istore_n 2, 1) := by decide +kernel
theorem dX1_bestAsked_7 : decode cX1_bestAsked 7 = .ok (.iconst 0, 1) := by decide +kernel
theorem dX1_bestAsked_8 : decode cX1_bestAsked 8 = .ok (.istore_n 3, 1) := by decide +kernel
theorem dX1_bestAsked_9 : decode cX1_bestAsked 9 = .ok (.iload_n 3, 1) := by decide +kernel
theorem dX1_bestAsked_10 : decode cX1_bestAsked 10 = .ok (.aload_n 0, 1) := by decide +kernel
theorem dX1_bestAsked_11 : decode cX1_bestAsked 11 = .ok (.getfield 24, 3) := by decide +kernel
theorem dX1_bestAsked_14 : decode cX1_bestAsked 14 = .ok (.getfield 69, 3) := by decide +kernel
theorem dX1_bestAsked_17 : decode cX1_bestAsked 17 = .ok (.if_icmp .ge 27, 3) := by decide +kernel
theorem dX1_bestAsked_20 : decode cX1_bestAsked 20 = .ok (.aload_n 0, 1) := by decide +kernel
theorem dX1_bestAsked_21 : decode cX1_bestAsked 21 = .ok (.iload_n 3, 1) := by decide +kernel
theorem dX1_bestAsked_22 : decode cX1_bestAsked 22 = .ok (.invokevirtual 74, 3) := by decide +kernel
theorem dX1_bestAsked_25 : decode cX1_bestAsked 25 = .ok (.istore 4, 2) := by decide +kernel
theorem dX1_bestAsked_27 : decode cX1_bestAsked 27 = .ok (.iload 4, 2) := by decide +kernel
theorem dX1_bestAsked_29 : decode cX1_bestAsked 29 = .ok (.iload_n 2, 1) := by decide +kernel
theorem dX1_bestAsked_30 : decode cX1_bestAsked 30 = .ok (.if_icmp .ge 8, 3) := by decide +kernel
theorem dX1_bestAsked_33 : decode cX1_bestAsked 33 = .ok (.iload_n 3, 1) := by decide +kernel
theorem dX1_bestAsked_34 : decode cX1_bestAsked 34 = .ok (.istore_n 1, 1) := by decide +kernel
theorem dX1_bestAsked_35 : decode cX1_bestAsked 35 = .ok (.iload 4, 2) := by decide +kernel
theorem dX1_bestAsked_37 : decode cX1_bestAsked 37 = .ok (.istore_n 2, 1) := by decide +kernel
theorem dX1_bestAsked_38 : decode cX1_bestAsked 38 = .ok (.iinc 3 1, 3) := by decide +kernel
theorem dX1_bestAsked_41 : decode cX1_bestAsked 41 = .ok (.goto (-32), 3) := by decide +kernel
theorem dX1_bestAsked_44 : decode cX1_bestAsked 44 = .ok (.iload_n 1, 1) := by decide +kernel
theorem dX1_bestAsked_45 : decode cX1_bestAsked 45 = .ok (.ireturn, 1) := by decide +kernel
set_option maxRecDepth 20000 in
theorem ggX1_greatestPart_X7_put : GoodIn wsX1_greatestPart wsX7_put := goodIn_r _ [12] (by decide +kernel) (by decide +kernel)
set_option maxRecDepth 20000 in
theorem gX1_greatestPart_X7_put : GoodIn wsX1_greatestPart (va_wsS RX1 36 yX7_put wsX7_put) := goodIn_app (goodIn_of _ (by decide +kernel)) ggX1_greatestPart_X7_put
set_option maxRecDepth 20000 in
theorem ggX1_greatestPart_X7_get : GoodIn wsX1_greatestPart wsX7_get := goodIn_r _ [15] (by decide +kernel) (by decide +kernel)
set_option maxRecDepth 20000 in
theorem gX1_greatestPart_X7_get : GoodIn wsX1_greatestPart (va_wsS RX1 46 yX7_get wsX7_get) := goodIn_app (goodIn_of _ (by decide +kernel)) ggX1_greatestPart_X7_get
set_option maxRecDepth 20000 in
theorem ggX1_greatestPart_X1_soundOf : GoodIn wsX1_greatestPart wsX1_soundOf := goodIn_r _ [19] (by decide +kernel) (by decide +kernel)
set_option maxRecDepth 20000 in
theorem gX1_greatestPart_X1_soundOf : GoodIn wsX1_greatestPart (va_wsS RX1 42 yX1_soundOf wsX1_soundOf) := goodIn_app (goodIn_of _ (by decide +kernel)) ggX1_greatestPart_X1_soundOf
set_option maxRecDepth 20000 in
theorem ggX1_greatestPart_X2_saying : GoodIn wsX1_greatestPart wsX2_saying := goodIn_r _ [24, 25, 26, 27, 28, 29, 14, 11, 15, 30, 31, 32, 23, 33, 34, 35, 36, 37, 38, 39, 40, 41, 42, 7, 43, 44, 6, 8, 45, 54, 55, 56, 57, 58, 59, 60, 61, 62, 63, 64, 65, 66] (by decide +kernel) (by decide +kernel)
set_option maxRecDepth 20000 in
theorem gX1_greatestPart_X2_saying : GoodIn wsX1_greatestPart (wsV RX1 50 RX2 yX2_saying wsX2_saying) := goodIn_app (goodIn_of _ (by decide +kernel)) ggX1_greatestPart_X2_saying
theorem dX1_greatestPart_0 : decode cX1_greatestPart 0 = .ok (.iconst 0, 1) := by decide +kernel
theorem dX1_greatestPart_1 : decode cX1_greatestPart 1 = .ok (.istore_n 2, 1) := by decide +kernel
theorem dX1_greatestPart_2 : decode cX1_greatestPart 2 = .ok (.iconst 0, 1) := by decide +kernel
theorem dX1_greatestPart_3 : decode cX1_greatestPart 3 = .ok (.istore_n 3, 1) := by decide +kernel
theorem dX1_greatestPart_4 : decode cX1_greatestPart 4 = .ok (.iload_n 3, 1) := by decide +kernel
theorem dX1_greatestPart_5 : decode cX1_greatestPart 5 = .ok (.aload_n 0, 1) := by decide +kernel
theorem dX1_greatestPart_6 : decode cX1_greatestPart 6 = .ok (.getfield 21, 3) := by decide +kernel
theorem dX1_greatestPart_9 : decode cX1_greatestPart 9 = .ok (.arraylength, 1) := by decide +kernel
theorem dX1_greatestPart_10 : decode cX1_greatestPart 10 = .ok (.if_icmp .ge 18, 3) := by decide +kernel
theorem dX1_greatestPart_13 : decode cX1_greatestPart 13 = .ok (.aload_n 0, 1) := by decide +kernel
theorem dX1_greatestPart_14 : decode cX1_greatestPart 14 = .ok (.getfield 21, 3) := by decide +kernel
theorem dX1_greatestPart_17 : decode cX1_greatestPart 17 = .ok (.iload_n 3, 1) := by decide +kernel
theorem dX1_greatestPart_18 : decode cX1_greatestPart 18 = .ok (.iconst 0, 1) := by decide +kernel
theorem dX1_greatestPart_19 : decode cX1_greatestPart 19 = .ok (.invokestatic 36, 3) := by decide +kernel
theorem dX1_greatestPart_22 : decode cX1_greatestPart 22 = .ok (.iinc 3 1, 3) := by decide +kernel
theorem dX1_greatestPart_25 : decode cX1_greatestPart 25 = .ok (.goto (-21), 3) := by decide +kernel
theorem dX1_greatestPart_28 : decode cX1_greatestPart 28 = .ok (.iconst 0, 1) := by decide +kernel
theorem dX1_greatestPart_29 : decode cX1_greatestPart 29 = .ok (.istore_n 3, 1) := by decide +kernel
theorem dX1_greatestPart_30 : decode cX1_greatestPart 30 = .ok (.iload_n 3, 1) := by decide +kernel
theorem dX1_greatestPart_31 : decode cX1_greatestPart 31 = .ok (.aload_n 0, 1) := by decide +kernel
theorem dX1_greatestPart_32 : decode cX1_greatestPart 32 = .ok (.getfield 56, 3) := by decide +kernel
theorem dX1_greatestPart_35 : decode cX1_greatestPart 35 = .ok (.if_icmp .ge 70, 3) := by decide +kernel
theorem dX1_greatestPart_38 : decode cX1_greatestPart 38 = .ok (.aload_n 0, 1) := by decide +kernel
theorem dX1_greatestPart_39 : decode cX1_greatestPart 39 = .ok (.getfield 18, 3) := by decide +kernel
theorem dX1_greatestPart_42 : decode cX1_greatestPart 42 = .ok (.iload_n 3, 1) := by decide +kernel
theorem dX1_greatestPart_43 : decode cX1_greatestPart 43 = .ok (.invokestatic 46, 3) := by decide +kernel
theorem dX1_greatestPart_46 : decode cX1_greatestPart 46 = .ok (.istore 4, 2) := by decide +kernel
theorem dX1_greatestPart_48 : decode cX1_greatestPart 48 = .ok (.aload_n 0, 1) := by decide +kernel
theorem dX1_greatestPart_49 : decode cX1_greatestPart 49 = .ok (.getfield 28, 3) := by decide +kernel
theorem dX1_greatestPart_52 : decode cX1_greatestPart 52 = .ok (.iload_n 1, 1) := by decide +kernel
theorem dX1_greatestPart_53 : decode cX1_greatestPart 53 = .ok (.iload 4, 2) := by decide +kernel
theorem dX1_greatestPart_55 : decode cX1_greatestPart 55 = .ok (.invokestatic 42, 3) := by decide +kernel
theorem dX1_greatestPart_58 : decode cX1_greatestPart 58 = .ok (.iload 4, 2) := by decide +kernel
theorem dX1_greatestPart_60 : decode cX1_greatestPart 60 = .ok (.bipush 10, 2) := by decide +kernel
theorem dX1_greatestPart_62 : decode cX1_greatestPart 62 = .ok (.irem, 1) := by decide +kernel
theorem dX1_greatestPart_63 : decode cX1_greatestPart 63 = .ok (.invokevirtual 50, 3) := by decide +kernel
theorem dX1_greatestPart_66 : decode cX1_greatestPart 66 = .ok (.istore 5, 2) := by decide +kernel
theorem dX1_greatestPart_68 : decode cX1_greatestPart 68 = .ok (.aload_n 0, 1) := by decide +kernel
theorem dX1_greatestPart_69 : decode cX1_greatestPart 69 = .ok (.getfield 21, 3) := by decide +kernel
theorem dX1_greatestPart_72 : decode cX1_greatestPart 72 = .ok (.iload 5, 2) := by decide +kernel
theorem dX1_greatestPart_74 : decode cX1_greatestPart 74 = .ok (.invokestatic 46, 3) := by decide +kernel
theorem dX1_greatestPart_77 : decode cX1_greatestPart 77 = .ok (.iconst 1, 1) := by decide +kernel
theorem dX1_greatestPart_78 : decode cX1_greatestPart 78 = .ok (.iadd, 1) := by decide +kernel
theorem dX1_greatestPart_79 : decode cX1_greatestPart 79 = .ok (.istore 6, 2) := by decide +kernel
theorem dX1_greatestPart_81 : decode cX1_greatestPart 81 = .ok (.aload_n 0, 1) := by decide +kernel
theorem dX1_greatestPart_82 : decode cX1_greatestPart 82 = .ok (.getfield 21, 3) := by decide +kernel
theorem dX1_greatestPart_85 : decode cX1_greatestPart 85 = .ok (.iload 5, 2) := by decide +kernel
theorem dX1_greatestPart_87 : decode cX1_greatestPart 87 = .ok (.iload 6, 2) := by decide +kernel
theorem dX1_greatestPart_89 : decode cX1_greatestPart 89 = .ok (.invokestatic 36, 3) := by decide +kernel
theorem dX1_greatestPart_92 : decode cX1_greatestPart 92 = .ok (.iload_n 2, 1) := by decide +kernel
theorem dX1_greatestPart_93 : decode cX1_greatestPart 93 = .ok (.iload 6, 2) := by decide +kernel
theorem dX1_greatestPart_95 : decode cX1_greatestPart 95 = .ok (.invokestatic 77, 3) := by decide +kernel
theorem dX1_greatestPart_98 : decode cX1_greatestPart 98 = .ok (.istore_n 2, 1) := by decide +kernel
theorem dX1_greatestPart_99 : decode cX1_greatestPart 99 = .ok (.iinc 3 1, 3) := by decide +kernel
theorem dX1_greatestPart_102 : decode cX1_greatestPart 102 = .ok (.goto (-72), 3) := by decide +kernel
theorem dX1_greatestPart_105 : decode cX1_greatestPart 105 = .ok (.iload_n 2, 1) := by decide +kernel
theorem dX1_greatestPart_106 : decode cX1_greatestPart 106 = .ok (.ireturn, 1) := by decide +kernel
set_option maxRecDepth 20000 in
theorem ggX1_pairs_X5_places : GoodIn wsX1_pairs wsX5_places := goodIn_r _ [7, 8, 17, 18, 19, 20, 21, 22, 23, 24, 25, 26] (by decide +kernel) (by decide +kernel)
set_option maxRecDepth 20000 in
theorem gX1_pairs_X5_places : GoodIn wsX1_pairs (wsV RX1 86 RX5 yX5_places wsX5_places) := goodIn_app (goodIn_of _ (by decide +kernel)) ggX1_pairs_X5_places
theorem dX1_pairs_0 : decode cX1_pairs 0 = .ok (.aload_n 0, 1) := by decide +kernel
theorem dX1_pairs_1 : decode cX1_pairs 1 = .ok (.getfield 24, 3) := by decide +kernel
theorem dX1_pairs_4 : decode cX1_pairs 4 = .ok (.getfield 83, 3) := by decide +kernel
theorem dX1_pairs_7 : decode cX1_pairs 7 = .ok (.aload_n 0, 1) := by decide +kernel
theorem dX1_pairs_8 : decode cX1_pairs 8 = .ok (.getfield 24, 3) := by decide +kernel
theorem dX1_pairs_11 : decode cX1_pairs 11 = .ok (.invokevirtual 86, 3) := by decide +kernel
theorem dX1_pairs_14 : decode cX1_pairs 14 = .ok (.imul, 1) := by decide +kernel
theorem dX1_pairs_15 : decode cX1_pairs 15 = .ok (.iconst 1, 1) := by decide +kernel
theorem dX1_pairs_16 : decode cX1_pairs 16 = .ok (.iadd, 1) := by decide +kernel
theorem dX1_pairs_17 : decode cX1_pairs 17 = .ok (.ireturn, 1) := by decide +kernel
set_option maxRecDepth 20000 in
theorem ggX1_pairAt_X5_places : GoodIn wsX1_pairAt wsX5_places := goodIn_r _ [7, 8, 17, 18, 19, 20, 21, 22, 23, 24, 25, 26] (by decide +kernel) (by decide +kernel)
set_option maxRecDepth 20000 in
theorem gX1_pairAt_X5_places : GoodIn wsX1_pairAt (wsV RX1 86 RX5 yX5_places wsX5_places) := goodIn_app (goodIn_of _ (by decide +kernel)) ggX1_pairAt_X5_places
theorem dX1_pairAt_0 : decode cX1_pairAt 0 = .ok (.aload_n 0, 1) := by decide +kernel
theorem dX1_pairAt_1 : decode cX1_pairAt 1 = .ok (.getfield 24, 3) := by decide +kernel
theorem dX1_pairAt_4 : decode cX1_pairAt 4 = .ok (.invokevirtual 86, 3) := by decide +kernel
theorem dX1_pairAt_7 : decode cX1_pairAt 7 = .ok (.istore_n 2, 1) := by decide +kernel
theorem dX1_pairAt_8 : decode cX1_pairAt 8 = .ok (.iload_n 2, 1) := by decide +kernel
theorem dX1_pairAt_9 : decode cX1_pairAt 9 = .ok (.ifCond .le 16, 3) := by decide +kernel
theorem dX1_pairAt_12 : decode cX1_pairAt 12 = .ok (.iload_n 1, 1) := by decide +kernel
theorem dX1_pairAt_13 : decode cX1_pairAt 13 = .ok (.aload_n 0, 1) := by decide +kernel
theorem dX1_pairAt_14 : decode cX1_pairAt 14 = .ok (.getfield 24, 3) := by decide +kernel
theorem dX1_pairAt_17 : decode cX1_pairAt 17 = .ok (.getfield 83, 3) := by decide +kernel
theorem dX1_pairAt_20 : decode cX1_pairAt 20 = .ok (.iload_n 2, 1) := by decide +kernel
theorem dX1_pairAt_21 : decode cX1_pairAt 21 = .ok (.imul, 1) := by decide +kernel
theorem dX1_pairAt_22 : decode cX1_pairAt 22 = .ok (.if_icmp .lt 6, 3) := by decide +kernel
theorem dX1_pairAt_25 : decode cX1_pairAt 25 = .ok (.bipush 100, 2) := by decide +kernel
theorem dX1_pairAt_27 : decode cX1_pairAt 27 = .ok (.ireturn, 1) := by decide +kernel
theorem dX1_pairAt_28 : decode cX1_pairAt 28 = .ok (.bipush 10, 2) := by decide +kernel
theorem dX1_pairAt_30 : decode cX1_pairAt 30 = .ok (.iload_n 1, 1) := by decide +kernel
theorem dX1_pairAt_31 : decode cX1_pairAt 31 = .ok (.iload_n 2, 1) := by decide +kernel
theorem dX1_pairAt_32 : decode cX1_pairAt 32 = .ok (.idiv, 1) := by decide +kernel
theorem dX1_pairAt_33 : decode cX1_pairAt 33 = .ok (.imul, 1) := by decide +kernel
theorem dX1_pairAt_34 : decode cX1_pairAt 34 = .ok (.iload_n 1, 1) := by decide +kernel
theorem dX1_pairAt_35 : decode cX1_pairAt 35 = .ok (.iload_n 2, 1) := by decide +kernel
theorem dX1_pairAt_36 : decode cX1_pairAt 36 = .ok (.irem, 1) := by decide +kernel
theorem dX1_pairAt_37 : decode cX1_pairAt 37 = .ok (.iadd, 1) := by decide +kernel
theorem dX1_pairAt_38 : decode cX1_pairAt 38 = .ok (.ireturn, 1) := by decide +kernel
theorem dX1_soundOf_0 : decode cX1_soundOf 0 = .ok (.iload_n 0, 1) := by decide +kernel
theorem dX1_soundOf_1 : decode cX1_soundOf 1 = .ok (.bipush 100, 2) := by decide +kernel
theorem dX1_soundOf_3 : decode cX1_soundOf 3 = .ok (.if_icmp .ne 7, 3) := by decide +kernel
theorem dX1_soundOf_6 : decode cX1_soundOf 6 = .ok (.iconst (-1), 1) := by decide +kernel
theorem dX1_soundOf_7 : decode cX1_soundOf 7 = .ok (.goto 7, 3) := by decide +kernel
theorem dX1_soundOf_10 : decode cX1_soundOf 10 = .ok (.iload_n 0, 1) := by decide +kernel
theorem dX1_soundOf_11 : decode cX1_soundOf 11 = .ok (.bipush 10, 2) := by decide +kernel
theorem dX1_soundOf_13 : decode cX1_soundOf 13 = .ok (.idiv, 1) := by decide +kernel
theorem dX1_soundOf_14 : decode cX1_soundOf 14 = .ok (.ireturn, 1) := by decide +kernel
theorem dX2_init_0 : decode cX2_init 0 = .ok (.aload_n 0, 1) := by decide +kernel
theorem dX2_init_1 : decode cX2_init 1 = .ok (.invokespecial 3, 3) := by decide +kernel
theorem dX2_init_4 : decode cX2_init 4 = .ok (.aload_n 0, 1) := by decide +kernel
theorem dX2_init_5 : decode cX2_init 5 = .ok (.aload_n 1, 1) := by decide +kernel
theorem dX2_init_6 : decode cX2_init 6 = .ok (.putfield 9, 3) := by decide +kernel
theorem dX2_init_9 : decode cX2_init 9 = .ok (.aload_n 0, 1) := by decide +kernel
theorem dX2_init_10 : decode cX2_init 10 = .ok (.aload_n 2, 1) := by decide +kernel
theorem dX2_init_11 : decode cX2_init 11 = .ok (.putfield 15, 3) := by decide +kernel
theorem dX2_init_14 : decode cX2_init 14 = .ok (.return_, 1) := by decide +kernel
set_option maxRecDepth 20000 in
theorem ggX2_loudness_X7_get : GoodIn wsX2_loudness wsX7_get := goodIn_r _ [15] (by decide +kernel) (by decide +kernel)
set_option maxRecDepth 20000 in
theorem gX2_loudness_X7_get : GoodIn wsX2_loudness (va_wsS RX2 34 yX7_get wsX7_get) := goodIn_app (goodIn_of _ (by decide +kernel)) ggX2_loudness_X7_get
theorem dX2_loudness_0 : decode cX2_loudness 0 = .ok (.iload_n 2, 1) := by decide +kernel
theorem dX2_loudness_1 : decode cX2_loudness 1 = .ok (.iload_n 3, 1) := by decide +kernel
theorem dX2_loudness_2 : decode cX2_loudness 2 = .ok (.invokestatic 19, 3) := by decide +kernel
theorem dX2_loudness_5 : decode cX2_loudness 5 = .ok (.istore 4, 2) := by decide +kernel
theorem dX2_loudness_7 : decode cX2_loudness 7 = .ok (.iload_n 2, 1) := by decide +kernel
theorem dX2_loudness_8 : decode cX2_loudness 8 = .ok (.iload_n 3, 1) := by decide +kernel
theorem dX2_loudness_9 : decode cX2_loudness 9 = .ok (.invokestatic 25, 3) := by decide +kernel
theorem dX2_loudness_12 : decode cX2_loudness 12 = .ok (.istore 5, 2) := by decide +kernel
theorem dX2_loudness_14 : decode cX2_loudness 14 = .ok (.aload_n 0, 1) := by decide +kernel
theorem dX2_loudness_15 : decode cX2_loudness 15 = .ok (.getfield 9, 3) := by decide +kernel
theorem dX2_loudness_18 : decode cX2_loudness 18 = .ok (.getfield 28, 3) := by decide +kernel
theorem dX2_loudness_21 : decode cX2_loudness 21 = .ok (.iload_n 1, 1) := by decide +kernel
theorem dX2_loudness_22 : decode cX2_loudness 22 = .ok (.invokestatic 34, 3) := by decide +kernel
theorem dX2_loudness_25 : decode cX2_loudness 25 = .ok (.iload 5, 2) := by decide +kernel
theorem dX2_loudness_27 : decode cX2_loudness 27 = .ok (.iload 4, 2) := by decide +kernel
theorem dX2_loudness_29 : decode cX2_loudness 29 = .ok (.isub, 1) := by decide +kernel
theorem dX2_loudness_30 : decode cX2_loudness 30 = .ok (.isub, 1) := by decide +kernel
theorem dX2_loudness_31 : decode cX2_loudness 31 = .ok (.aload_n 0, 1) := by decide +kernel
theorem dX2_loudness_32 : decode cX2_loudness 32 = .ok (.getfield 15, 3) := by decide +kernel
theorem dX2_loudness_35 : decode cX2_loudness 35 = .ok (.getfield 40, 3) := by decide +kernel
theorem dX2_loudness_38 : decode cX2_loudness 38 = .ok (.iconst 0, 1) := by decide +kernel
theorem dX2_loudness_39 : decode cX2_loudness 39 = .ok (.invokestatic 34, 3) := by decide +kernel
theorem dX2_loudness_42 : decode cX2_loudness 42 = .ok (.iload_n 3, 1) := by decide +kernel
theorem dX2_loudness_43 : decode cX2_loudness 43 = .ok (.iload_n 2, 1) := by decide +kernel
theorem dX2_loudness_44 : decode cX2_loudness 44 = .ok (.isub, 1) := by decide +kernel
theorem dX2_loudness_45 : decode cX2_loudness 45 = .ok (.imul, 1) := by decide +kernel
theorem dX2_loudness_46 : decode cX2_loudness 46 = .ok (.iadd, 1) := by decide +kernel
theorem dX2_loudness_47 : decode cX2_loudness 47 = .ok (.istore 6, 2) := by decide +kernel
theorem dX2_loudness_49 : decode cX2_loudness 49 = .ok (.iload 4, 2) := by decide +kernel
theorem dX2_loudness_51 : decode cX2_loudness 51 = .ok (.istore 7, 2) := by decide +kernel
theorem dX2_loudness_53 : decode cX2_loudness 53 = .ok (.iload 7, 2) := by decide +kernel
theorem dX2_loudness_55 : decode cX2_loudness 55 = .ok (.iload 5, 2) := by decide +kernel
theorem dX2_loudness_57 : decode cX2_loudness 57 = .ok (.if_icmp .ge 29, 3) := by decide +kernel
theorem dX2_loudness_60 : decode cX2_loudness 60 = .ok (.iload 6, 2) := by decide +kernel
theorem dX2_loudness_62 : decode cX2_loudness 62 = .ok (.aload_n 0, 1) := by decide +kernel
theorem dX2_loudness_63 : decode cX2_loudness 63 = .ok (.getfield 15, 3) := by decide +kernel
theorem dX2_loudness_66 : decode cX2_loudness 66 = .ok (.getfield 40, 3) := by decide +kernel
theorem dX2_loudness_69 : decode cX2_loudness 69 = .ok (.bipush 6, 2) := by decide +kernel
theorem dX2_loudness_71 : decode cX2_loudness 71 = .ok (.iload 7, 2) := by decide +kernel
theorem dX2_loudness_73 : decode cX2_loudness 73 = .ok (.iadd, 1) := by decide +kernel
theorem dX2_loudness_74 : decode cX2_loudness 74 = .ok (.invokestatic 34, 3) := by decide +kernel
theorem dX2_loudness_77 : decode cX2_loudness 77 = .ok (.isub, 1) := by decide +kernel
theorem dX2_loudness_78 : decode cX2_loudness 78 = .ok (.istore 6, 2) := by decide +kernel
theorem dX2_loudness_80 : decode cX2_loudness 80 = .ok (.iinc 7 1, 3) := by decide +kernel
theorem dX2_loudness_83 : decode cX2_loudness 83 = .ok (.goto (-30), 3) := by decide +kernel
theorem dX2_loudness_86 : decode cX2_loudness 86 = .ok (.iload 6, 2) := by decide +kernel
theorem dX2_loudness_88 : decode cX2_loudness 88 = .ok (.ireturn, 1) := by decide +kernel
set_option maxRecDepth 20000 in
theorem ggX2_margin_X7_get : GoodIn wsX2_margin wsX7_get := goodIn_r _ [8] (by decide +kernel) (by decide +kernel)
set_option maxRecDepth 20000 in
theorem gX2_margin_X7_get : GoodIn wsX2_margin (va_wsS RX2 34 yX7_get wsX7_get) := goodIn_app (goodIn_of _ (by decide +kernel)) ggX2_margin_X7_get
set_option maxRecDepth 20000 in
theorem ggX2_margin_X2_loudness : GoodIn wsX2_margin wsX2_loudness := goodIn_r _ [13, 14, 15, 16, 17, 18, 19, 20, 3, 21, 1, 2, 5, 6, 7, 8, 22, 23, 25, 26, 27, 28, 29, 30, 31, 32, 33, 34, 24] (by decide +kernel) (by decide +kernel)
set_option maxRecDepth 20000 in
theorem gX2_margin_X2_loudness : GoodIn wsX2_margin (wsV RX2 45 RX2 yX2_loudness wsX2_loudness) := goodIn_app (goodIn_of _ (by decide +kernel)) ggX2_margin_X2_loudness
theorem dX2_margin_0 : decode cX2_margin 0 = .ok (.aload_n 0, 1) := by decide +kernel
theorem dX2_margin_1 : decode cX2_margin 1 = .ok (.iload_n 2, 1) := by decide +kernel
theorem dX2_margin_2 : decode cX2_margin 2 = .ok (.iload_n 3, 1) := by decide +kernel
theorem dX2_margin_3 : decode cX2_margin 3 = .ok (.aload_n 0, 1) := by decide +kernel
theorem dX2_margin_4 : decode cX2_margin 4 = .ok (.getfield 15, 3) := by decide +kernel
theorem dX2_margin_7 : decode cX2_margin 7 = .ok (.getfield 40, 3) := by decide +kernel
theorem dX2_margin_10 : decode cX2_margin 10 = .ok (.bipush 14, 2) := by decide +kernel
theorem dX2_margin_12 : decode cX2_margin 12 = .ok (.iload_n 1, 1) := by decide +kernel
theorem dX2_margin_13 : decode cX2_margin 13 = .ok (.iadd, 1) := by decide +kernel
theorem dX2_margin_14 : decode cX2_margin 14 = .ok (.invokestatic 34, 3) := by decide +kernel
theorem dX2_margin_17 : decode cX2_margin 17 = .ok (.invokevirtual 45, 3) := by decide +kernel
theorem dX2_margin_20 : decode cX2_margin 20 = .ok (.aload_n 0, 1) := by decide +kernel
theorem dX2_margin_21 : decode cX2_margin 21 = .ok (.getfield 9, 3) := by decide +kernel
theorem dX2_margin_24 : decode cX2_margin 24 = .ok (.getfield 49, 3) := by decide +kernel
theorem dX2_margin_27 : decode cX2_margin 27 = .ok (.iload_n 1, 1) := by decide +kernel
theorem dX2_margin_28 : decode cX2_margin 28 = .ok (.invokestatic 34, 3) := by decide +kernel
theorem dX2_margin_31 : decode cX2_margin 31 = .ok (.isub, 1) := by decide +kernel
theorem dX2_margin_32 : decode cX2_margin 32 = .ok (.ireturn, 1) := by decide +kernel
set_option maxRecDepth 20000 in
theorem ggX2_hearers_X2_margin : GoodIn wsX2_hearers wsX2_margin := goodIn_r _ [7, 8, 9, 1, 10, 11, 12, 13, 14, 15, 16, 17, 6, 18, 19, 20, 21, 22, 23, 24, 25, 26, 27, 28, 39, 29, 30, 31, 32, 33, 34, 35, 36, 37, 38] (by decide +kernel) (by decide +kernel)
set_option maxRecDepth 20000 in
theorem gX2_hearers_X2_margin : GoodIn wsX2_hearers (wsV RX2 56 RX2 yX2_margin wsX2_margin) := goodIn_app (goodIn_of _ (by decide +kernel)) ggX2_hearers_X2_margin
theorem dX2_hearers_0 : decode cX2_hearers 0 = .ok (.iconst 0, 1) := by decide +kernel
theorem dX2_hearers_1 : decode cX2_hearers 1 = .ok (.istore 4, 2) := by decide +kernel
theorem dX2_hearers_3 : decode cX2_hearers 3 = .ok (.iconst 0, 1) := by decide +kernel
theorem dX2_hearers_4 : decode cX2_hearers 4 = .ok (.istore 5, 2) := by decide +kernel
theorem dX2_hearers_6 : decode cX2_hearers 6 = .ok (.iload 5, 2) := by decide +kernel
theorem dX2_hearers_8 : decode cX2_hearers 8 = .ok (.aload_n 0, 1) := by decide +kernel
theorem dX2_hearers_9 : decode cX2_hearers 9 = .ok (.getfield 9, 3) := by decide +kernel
theorem dX2_hearers_12 : decode cX2_hearers 12 = .ok (.getfield 52, 3) := by decide +kernel
theorem dX2_hearers_15 : decode cX2_hearers 15 = .ok (.if_icmp .ge 30, 3) := by decide +kernel
theorem dX2_hearers_18 : decode cX2_hearers 18 = .ok (.aload_n 0, 1) := by decide +kernel
theorem dX2_hearers_19 : decode cX2_hearers 19 = .ok (.iload 5, 2) := by decide +kernel
theorem dX2_hearers_21 : decode cX2_hearers 21 = .ok (.iload_n 1, 1) := by decide +kernel
theorem dX2_hearers_22 : decode cX2_hearers 22 = .ok (.iload_n 2, 1) := by decide +kernel
theorem dX2_hearers_23 : decode cX2_hearers 23 = .ok (.invokevirtual 56, 3) := by decide +kernel
theorem dX2_hearers_26 : decode cX2_hearers 26 = .ok (.iload_n 3, 1) := by decide +kernel
theorem dX2_hearers_27 : decode cX2_hearers 27 = .ok (.if_icmp .lt 12, 3) := by decide +kernel
theorem dX2_hearers_30 : decode cX2_hearers 30 = .ok (.iload 4, 2) := by decide +kernel
theorem dX2_hearers_32 : decode cX2_hearers 32 = .ok (.iconst 1, 1) := by decide +kernel
theorem dX2_hearers_33 : decode cX2_hearers 33 = .ok (.iload 5, 2) := by decide +kernel
theorem dX2_hearers_35 : decode cX2_hearers 35 = .ok (.ishl, 1) := by decide +kernel
theorem dX2_hearers_36 : decode cX2_hearers 36 = .ok (.ior, 1) := by decide +kernel
theorem dX2_hearers_37 : decode cX2_hearers 37 = .ok (.istore 4, 2) := by decide +kernel
theorem dX2_hearers_39 : decode cX2_hearers 39 = .ok (.iinc 5 1, 3) := by decide +kernel
theorem dX2_hearers_42 : decode cX2_hearers 42 = .ok (.goto (-36), 3) := by decide +kernel
theorem dX2_hearers_45 : decode cX2_hearers 45 = .ok (.iload 4, 2) := by decide +kernel
theorem dX2_hearers_47 : decode cX2_hearers 47 = .ok (.ireturn, 1) := by decide +kernel
set_option maxRecDepth 20000 in
theorem ggX2_saying_X7_get : GoodIn wsX2_saying wsX7_get := goodIn_r _ [8] (by decide +kernel) (by decide +kernel)
set_option maxRecDepth 20000 in
theorem gX2_saying_X7_get : GoodIn wsX2_saying (va_wsS RX2 34 yX7_get wsX7_get) := goodIn_app (goodIn_of _ (by decide +kernel)) ggX2_saying_X7_get
set_option maxRecDepth 20000 in
theorem ggX2_saying_X2_margin : GoodIn wsX2_saying wsX2_margin := goodIn_r _ [13, 14, 15, 1, 16, 5, 6, 7, 8, 17, 18, 19, 12, 20, 21, 22, 23, 24, 25, 26, 27, 28, 29, 30, 41, 31, 32, 33, 34, 35, 36, 37, 38, 39, 40] (by decide +kernel) (by decide +kernel)
set_option maxRecDepth 20000 in
theorem gX2_saying_X2_margin : GoodIn wsX2_saying (wsV RX2 56 RX2 yX2_margin wsX2_margin) := goodIn_app (goodIn_of _ (by decide +kernel)) ggX2_saying_X2_margin
theorem dX2_saying_0 : decode cX2_saying 0 = .ok (.aload_n 0, 1) := by decide +kernel
theorem dX2_saying_1 : decode cX2_saying 1 = .ok (.getfield 9, 3) := by decide +kernel
theorem dX2_saying_4 : decode cX2_saying 4 = .ok (.getfield 59, 3) := by decide +kernel
theorem dX2_saying_7 : decode cX2_saying 7 = .ok (.iload_n 1, 1) := by decide +kernel
theorem dX2_saying_8 : decode cX2_saying 8 = .ok (.invokestatic 34, 3) := by decide +kernel
theorem dX2_saying_11 : decode cX2_saying 11 = .ok (.istore 4, 2) := by decide +kernel
theorem dX2_saying_13 : decode cX2_saying 13 = .ok (.iload 4, 2) := by decide +kernel
theorem dX2_saying_15 : decode cX2_saying 15 = .ok (.iconst 1, 1) := by decide +kernel
theorem dX2_saying_16 : decode cX2_saying 16 = .ok (.if_icmp .ne 31, 3) := by decide +kernel
theorem dX2_saying_19 : decode cX2_saying 19 = .ok (.aload_n 0, 1) := by decide +kernel
theorem dX2_saying_20 : decode cX2_saying 20 = .ok (.getfield 9, 3) := by decide +kernel
theorem dX2_saying_23 : decode cX2_saying 23 = .ok (.getfield 62, 3) := by decide +kernel
theorem dX2_saying_26 : decode cX2_saying 26 = .ok (.ifCond .le 19, 3) := by decide +kernel
theorem dX2_saying_29 : decode cX2_saying 29 = .ok (.iconst 2, 1) := by decide +kernel
theorem dX2_saying_30 : decode cX2_saying 30 = .ok (.aload_n 0, 1) := by decide +kernel
theorem dX2_saying_31 : decode cX2_saying 31 = .ok (.getfield 9, 3) := by decide +kernel
theorem dX2_saying_34 : decode cX2_saying 34 = .ok (.getfield 65, 3) := by decide +kernel
theorem dX2_saying_37 : decode cX2_saying 37 = .ok (.iconst 0, 1) := by decide +kernel
theorem dX2_saying_38 : decode cX2_saying 38 = .ok (.invokestatic 34, 3) := by decide +kernel
theorem dX2_saying_41 : decode cX2_saying 41 = .ok (.iadd, 1) := by decide +kernel
theorem dX2_saying_42 : decode cX2_saying 42 = .ok (.goto 4, 3) := by decide +kernel
theorem dX2_saying_45 : decode cX2_saying 45 = .ok (.iconst 0, 1) := by decide +kernel
theorem dX2_saying_46 : decode cX2_saying 46 = .ok (.ireturn, 1) := by decide +kernel
theorem dX2_saying_47 : decode cX2_saying 47 = .ok (.iload 4, 2) := by decide +kernel
theorem dX2_saying_49 : decode cX2_saying 49 = .ok (.iconst 2, 1) := by decide +kernel
theorem dX2_saying_50 : decode cX2_saying 50 = .ok (.if_icmp .eq 8, 3) := by decide +kernel
theorem dX2_saying_53 : decode cX2_saying 53 = .ok (.iload_n 2, 1) := by decide +kernel
theorem dX2_saying_54 : decode cX2_saying 54 = .ok (.iconst (-1), 1) := by decide +kernel
theorem dX2_saying_55 : decode cX2_saying 55 = .ok (.if_icmp .ne 5, 3) := by decide +kernel
theorem dX2_saying_58 : decode cX2_saying 58 = .ok (.iconst 0, 1) := by decide +kernel
theorem dX2_saying_59 : decode cX2_saying 59 = .ok (.ireturn, 1) := by decide +kernel
theorem dX2_saying_60 : decode cX2_saying 60 = .ok (.aload_n 0, 1) := by decide +kernel
theorem dX2_saying_61 : decode cX2_saying 61 = .ok (.iload_n 1, 1) := by decide +kernel
theorem dX2_saying_62 : decode cX2_saying 62 = .ok (.iload_n 2, 1) := by decide +kernel
theorem dX2_saying_63 : decode cX2_saying 63 = .ok (.iload_n 3, 1) := by decide +kernel
theorem dX2_saying_64 : decode cX2_saying 64 = .ok (.invokevirtual 56, 3) := by decide +kernel
theorem dX2_saying_67 : decode cX2_saying 67 = .ok (.istore 5, 2) := by decide +kernel
theorem dX2_saying_69 : decode cX2_saying 69 = .ok (.iload 5, 2) := by decide +kernel
theorem dX2_saying_71 : decode cX2_saying 71 = .ok (.ifCond .ge 5, 3) := by decide +kernel
theorem dX2_saying_74 : decode cX2_saying 74 = .ok (.iconst 0, 1) := by decide +kernel
theorem dX2_saying_75 : decode cX2_saying 75 = .ok (.ireturn, 1) := by decide +kernel
theorem dX2_saying_76 : decode cX2_saying 76 = .ok (.iload 5, 2) := by decide +kernel
theorem dX2_saying_78 : decode cX2_saying 78 = .ok (.iconst 5, 1) := by decide +kernel
theorem dX2_saying_79 : decode cX2_saying 79 = .ok (.if_icmp .lt 19, 3) := by decide +kernel
theorem dX2_saying_82 : decode cX2_saying 82 = .ok (.iconst 2, 1) := by decide +kernel
theorem dX2_saying_83 : decode cX2_saying 83 = .ok (.aload_n 0, 1) := by decide +kernel
theorem dX2_saying_84 : decode cX2_saying 84 = .ok (.getfield 9, 3) := by decide +kernel
theorem dX2_saying_87 : decode cX2_saying 87 = .ok (.getfield 65, 3) := by decide +kernel
theorem dX2_saying_90 : decode cX2_saying 90 = .ok (.iload_n 2, 1) := by decide +kernel
theorem dX2_saying_91 : decode cX2_saying 91 = .ok (.invokestatic 34, 3) := by decide +kernel
theorem dX2_saying_94 : decode cX2_saying 94 = .ok (.iadd, 1) := by decide +kernel
theorem dX2_saying_95 : decode cX2_saying 95 = .ok (.goto 4, 3) := by decide +kernel
theorem dX2_saying_98 : decode cX2_saying 98 = .ok (.iconst 1, 1) := by decide +kernel
theorem dX2_saying_99 : decode cX2_saying 99 = .ok (.ireturn, 1) := by decide +kernel
set_option maxRecDepth 20000 in
theorem ggX3_init_X8_init : GoodIn wsX3_init wsX8_init := goodIn_r _ [10, 11, 2, 3, 12, 13, 14, 15, 16, 6, 17, 18, 19, 20, 21, 22, 23, 24, 25, 26] (by decide +kernel) (by decide +kernel)
set_option maxRecDepth 20000 in
theorem gX3_init_X8_init : GoodIn wsX3_init (wsX8_init) := ggX3_init_X8_init
theorem dX3_init_0 : decode cX3_init 0 = .ok (.aload_n 0, 1) := by decide +kernel
theorem dX3_init_1 : decode cX3_init 1 = .ok (.invokespecial 1, 3) := by decide +kernel
theorem dX3_init_4 : decode cX3_init 4 = .ok (.aload_n 0, 1) := by decide +kernel
theorem dX3_init_5 : decode cX3_init 5 = .ok (.new 7, 3) := by decide +kernel
theorem dX3_init_8 : decode cX3_init 8 = .ok (.dup, 1) := by decide +kernel
theorem dX3_init_9 : decode cX3_init 9 = .ok (.invokespecial 9, 3) := by decide +kernel
theorem dX3_init_12 : decode cX3_init 12 = .ok (.putfield 10, 3) := by decide +kernel
theorem dX3_init_15 : decode cX3_init 15 = .ok (.return_, 1) := by decide +kernel
theorem dX4_init_0 : decode cX4_init 0 = .ok (.aload_n 0, 1) := by decide +kernel
theorem dX4_init_1 : decode cX4_init 1 = .ok (.invokespecial 3, 3) := by decide +kernel
theorem dX4_init_4 : decode cX4_init 4 = .ok (.aload_n 0, 1) := by decide +kernel
theorem dX4_init_5 : decode cX4_init 5 = .ok (.sipush 560, 3) := by decide +kernel
theorem dX4_init_8 : decode cX4_init 8 = .ok (.newarray .int, 2) := by decide +kernel
theorem dX4_init_10 : decode cX4_init 10 = .ok (.putfield 11, 3) := by decide +kernel
theorem dX4_init_13 : decode cX4_init 13 = .ok (.return_, 1) := by decide +kernel
set_option maxRecDepth 20000 in
theorem ggX4_push_X7_copy : GoodIn wsX4_push wsX7_copy := goodIn_r _ [12, 13, 14, 11, 15, 16, 17, 18] (by decide +kernel) (by decide +kernel)
set_option maxRecDepth 20000 in
theorem gX4_push_X7_copy : GoodIn wsX4_push (va_wsS RX4 24 yX7_copy wsX7_copy) := goodIn_app (goodIn_of _ (by decide +kernel)) ggX4_push_X7_copy
theorem dX4_push_0 : decode cX4_push 0 = .ok (.aload_n 1, 1) := by decide +kernel
theorem dX4_push_1 : decode cX4_push 1 = .ok (.getfield 17, 3) := by decide +kernel
theorem dX4_push_4 : decode cX4_push 4 = .ok (.iconst 0, 1) := by decide +kernel
theorem dX4_push_5 : decode cX4_push 5 = .ok (.aload_n 0, 1) := by decide +kernel
theorem dX4_push_6 : decode cX4_push 6 = .ok (.getfield 11, 3) := by decide +kernel
theorem dX4_push_9 : decode cX4_push 9 = .ok (.aload_n 0, 1) := by decide +kernel
theorem dX4_push_10 : decode cX4_push 10 = .ok (.getfield 20, 3) := by decide +kernel
theorem dX4_push_13 : decode cX4_push 13 = .ok (.bipush 28, 2) := by decide +kernel
theorem dX4_push_15 : decode cX4_push 15 = .ok (.imul, 1) := by decide +kernel
theorem dX4_push_16 : decode cX4_push 16 = .ok (.bipush 28, 2) := by decide +kernel
theorem dX4_push_18 : decode cX4_push 18 = .ok (.invokestatic 24, 3) := by decide +kernel
theorem dX4_push_21 : decode cX4_push 21 = .ok (.aload_n 0, 1) := by decide +kernel
theorem dX4_push_22 : decode cX4_push 22 = .ok (.aload_n 0, 1) := by decide +kernel
theorem dX4_push_23 : decode cX4_push 23 = .ok (.getfield 20, 3) := by decide +kernel
theorem dX4_push_26 : decode cX4_push 26 = .ok (.iconst 1, 1) := by decide +kernel
theorem dX4_push_27 : decode cX4_push 27 = .ok (.iadd, 1) := by decide +kernel
theorem dX4_push_28 : decode cX4_push 28 = .ok (.bipush 20, 2) := by decide +kernel
theorem dX4_push_30 : decode cX4_push 30 = .ok (.if_icmp .ge 12, 3) := by decide +kernel
theorem dX4_push_33 : decode cX4_push 33 = .ok (.aload_n 0, 1) := by decide +kernel
theorem dX4_push_34 : decode cX4_push 34 = .ok (.getfield 20, 3) := by decide +kernel
theorem dX4_push_37 : decode cX4_push 37 = .ok (.iconst 1, 1) := by decide +kernel
theorem dX4_push_38 : decode cX4_push 38 = .ok (.iadd, 1) := by decide +kernel
theorem dX4_push_39 : decode cX4_push 39 = .ok (.goto 4, 3) := by decide +kernel
theorem dX4_push_42 : decode cX4_push 42 = .ok (.iconst 0, 1) := by decide +kernel
theorem dX4_push_43 : decode cX4_push 43 = .ok (.putfield 20, 3) := by decide +kernel
theorem dX4_push_46 : decode cX4_push 46 = .ok (.aload_n 0, 1) := by decide +kernel
theorem dX4_push_47 : decode cX4_push 47 = .ok (.aload_n 0, 1) := by decide +kernel
theorem dX4_push_48 : decode cX4_push 48 = .ok (.getfield 30, 3) := by decide +kernel
theorem dX4_push_51 : decode cX4_push 51 = .ok (.iconst 1, 1) := by decide +kernel
theorem dX4_push_52 : decode cX4_push 52 = .ok (.iadd, 1) := by decide +kernel
theorem dX4_push_53 : decode cX4_push 53 = .ok (.bipush 20, 2) := by decide +kernel
theorem dX4_push_55 : decode cX4_push 55 = .ok (.invokestatic 33, 3) := by decide +kernel
theorem dX4_push_58 : decode cX4_push 58 = .ok (.putfield 30, 3) := by decide +kernel
theorem dX4_push_61 : decode cX4_push 61 = .ok (.return_, 1) := by decide +kernel
set_option maxRecDepth 20000 in
theorem ggX4_pop_X7_copy : GoodIn wsX4_pop wsX7_copy := goodIn_r _ [8, 9, 10, 7, 11, 12, 13, 14] (by decide +kernel) (by decide +kernel)
set_option maxRecDepth 20000 in
theorem gX4_pop_X7_copy : GoodIn wsX4_pop (va_wsS RX4 24 yX7_copy wsX7_copy) := goodIn_app (goodIn_of _ (by decide +kernel)) ggX4_pop_X7_copy
theorem dX4_pop_0 : decode cX4_pop 0 = .ok (.aload_n 0, 1) := by decide +kernel
theorem dX4_pop_1 : decode cX4_pop 1 = .ok (.getfield 30, 3) := by decide +kernel
theorem dX4_pop_4 : decode cX4_pop 4 = .ok (.ifCond .gt 5, 3) := by decide +kernel
theorem dX4_pop_7 : decode cX4_pop 7 = .ok (.iconst 0, 1) := by decide +kernel
theorem dX4_pop_8 : decode cX4_pop 8 = .ok (.ireturn, 1) := by decide +kernel
theorem dX4_pop_9 : decode cX4_pop 9 = .ok (.aload_n 0, 1) := by decide +kernel
theorem dX4_pop_10 : decode cX4_pop 10 = .ok (.aload_n 0, 1) := by decide +kernel
theorem dX4_pop_11 : decode cX4_pop 11 = .ok (.getfield 20, 3) := by decide +kernel
theorem dX4_pop_14 : decode cX4_pop 14 = .ok (.ifCond .le 12, 3) := by decide +kernel
theorem dX4_pop_17 : decode cX4_pop 17 = .ok (.aload_n 0, 1) := by decide +kernel
theorem dX4_pop_18 : decode cX4_pop 18 = .ok (.getfield 20, 3) := by decide +kernel
theorem dX4_pop_21 : decode cX4_pop 21 = .ok (.iconst 1, 1) := by decide +kernel
theorem dX4_pop_22 : decode cX4_pop 22 = .ok (.isub, 1) := by decide +kernel
theorem dX4_pop_23 : decode cX4_pop 23 = .ok (.goto 5, 3) := by decide +kernel
theorem dX4_pop_26 : decode cX4_pop 26 = .ok (.bipush 19, 2) := by decide +kernel
theorem dX4_pop_28 : decode cX4_pop 28 = .ok (.putfield 20, 3) := by decide +kernel
theorem dX4_pop_31 : decode cX4_pop 31 = .ok (.aload_n 0, 1) := by decide +kernel
theorem dX4_pop_32 : decode cX4_pop 32 = .ok (.dup, 1) := by decide +kernel
theorem dX4_pop_33 : decode cX4_pop 33 = .ok (.getfield 30, 3) := by decide +kernel
theorem dX4_pop_36 : decode cX4_pop 36 = .ok (.iconst 1, 1) := by decide +kernel
theorem dX4_pop_37 : decode cX4_pop 37 = .ok (.isub, 1) := by decide +kernel
theorem dX4_pop_38 : decode cX4_pop 38 = .ok (.putfield 30, 3) := by decide +kernel
theorem dX4_pop_41 : decode cX4_pop 41 = .ok (.aload_n 0, 1) := by decide +kernel
theorem dX4_pop_42 : decode cX4_pop 42 = .ok (.getfield 11, 3) := by decide +kernel
theorem dX4_pop_45 : decode cX4_pop 45 = .ok (.aload_n 0, 1) := by decide +kernel
theorem dX4_pop_46 : decode cX4_pop 46 = .ok (.getfield 20, 3) := by decide +kernel
theorem dX4_pop_49 : decode cX4_pop 49 = .ok (.bipush 28, 2) := by decide +kernel
theorem dX4_pop_51 : decode cX4_pop 51 = .ok (.imul, 1) := by decide +kernel
theorem dX4_pop_52 : decode cX4_pop 52 = .ok (.aload_n 1, 1) := by decide +kernel
theorem dX4_pop_53 : decode cX4_pop 53 = .ok (.getfield 17, 3) := by decide +kernel
theorem dX4_pop_56 : decode cX4_pop 56 = .ok (.iconst 0, 1) := by decide +kernel
theorem dX4_pop_57 : decode cX4_pop 57 = .ok (.bipush 28, 2) := by decide +kernel
theorem dX4_pop_59 : decode cX4_pop 59 = .ok (.invokestatic 24, 3) := by decide +kernel
theorem dX4_pop_62 : decode cX4_pop 62 = .ok (.iconst 1, 1) := by decide +kernel
theorem dX4_pop_63 : decode cX4_pop 63 = .ok (.ireturn, 1) := by decide +kernel
theorem dX4_forget_0 : decode cX4_forget 0 = .ok (.aload_n 0, 1) := by decide +kernel
theorem dX4_forget_1 : decode cX4_forget 1 = .ok (.iconst 0, 1) := by decide +kernel
theorem dX4_forget_2 : decode cX4_forget 2 = .ok (.putfield 30, 3) := by decide +kernel
theorem dX4_forget_5 : decode cX4_forget 5 = .ok (.return_, 1) := by decide +kernel
theorem dX5_init_0 : decode cX5_init 0 = .ok (.aload_n 0, 1) := by decide +kernel
theorem dX5_init_1 : decode cX5_init 1 = .ok (.invokespecial 3, 3) := by decide +kernel
theorem dX5_init_4 : decode cX5_init 4 = .ok (.aload_n 0, 1) := by decide +kernel
theorem dX5_init_5 : decode cX5_init 5 = .ok (.bipush 8, 2) := by decide +kernel
theorem dX5_init_7 : decode cX5_init 7 = .ok (.newarray .int, 2) := by decide +kernel
theorem dX5_init_9 : decode cX5_init 9 = .ok (.putfield 9, 3) := by decide +kernel
theorem dX5_init_12 : decode cX5_init 12 = .ok (.aload_n 0, 1) := by decide +kernel
theorem dX5_init_13 : decode cX5_init 13 = .ok (.bipush 6, 2) := by decide +kernel
theorem dX5_init_15 : decode cX5_init 15 = .ok (.newarray .int, 2) := by decide +kernel
theorem dX5_init_17 : decode cX5_init 17 = .ok (.putfield 15, 3) := by decide +kernel
theorem dX5_init_20 : decode cX5_init 20 = .ok (.aload_n 0, 1) := by decide +kernel
theorem dX5_init_21 : decode cX5_init 21 = .ok (.bipush 6, 2) := by decide +kernel
theorem dX5_init_23 : decode cX5_init 23 = .ok (.newarray .int, 2) := by decide +kernel
theorem dX5_init_25 : decode cX5_init 25 = .ok (.putfield 18, 3) := by decide +kernel
theorem dX5_init_28 : decode cX5_init 28 = .ok (.aload_n 0, 1) := by decide +kernel
theorem dX5_init_29 : decode cX5_init 29 = .ok (.bipush 7, 2) := by decide +kernel
theorem dX5_init_31 : decode cX5_init 31 = .ok (.newarray .int, 2) := by decide +kernel
theorem dX5_init_33 : decode cX5_init 33 = .ok (.putfield 21, 3) := by decide +kernel
theorem dX5_init_36 : decode cX5_init 36 = .ok (.aload_n 0, 1) := by decide +kernel
theorem dX5_init_37 : decode cX5_init 37 = .ok (.bipush 7, 2) := by decide +kernel
theorem dX5_init_39 : decode cX5_init 39 = .ok (.newarray .int, 2) := by decide +kernel
theorem dX5_init_41 : decode cX5_init 41 = .ok (.putfield 24, 3) := by decide +kernel
theorem dX5_init_44 : decode cX5_init 44 = .ok (.aload_n 0, 1) := by decide +kernel
theorem dX5_init_45 : decode cX5_init 45 = .ok (.bipush 7, 2) := by decide +kernel
theorem dX5_init_47 : decode cX5_init 47 = .ok (.newarray .int, 2) := by decide +kernel
theorem dX5_init_49 : decode cX5_init 49 = .ok (.putfield 27, 3) := by decide +kernel
theorem dX5_init_52 : decode cX5_init 52 = .ok (.return_, 1) := by decide +kernel
theorem dX5_clear_0 : decode cX5_clear 0 = .ok (.aload_n 0, 1) := by decide +kernel
theorem dX5_clear_1 : decode cX5_clear 1 = .ok (.iconst 0, 1) := by decide +kernel
theorem dX5_clear_2 : decode cX5_clear 2 = .ok (.putfield 30, 3) := by decide +kernel
theorem dX5_clear_5 : decode cX5_clear 5 = .ok (.aload_n 0, 1) := by decide +kernel
theorem dX5_clear_6 : decode cX5_clear 6 = .ok (.iconst 0, 1) := by decide +kernel
theorem dX5_clear_7 : decode cX5_clear 7 = .ok (.putfield 34, 3) := by decide +kernel
theorem dX5_clear_10 : decode cX5_clear 10 = .ok (.aload_n 0, 1) := by decide +kernel
theorem dX5_clear_11 : decode cX5_clear 11 = .ok (.iconst 0, 1) := by decide +kernel
theorem dX5_clear_12 : decode cX5_clear 12 = .ok (.putfield 37, 3) := by decide +kernel
theorem dX5_clear_15 : decode cX5_clear 15 = .ok (.aload_n 0, 1) := by decide +kernel
theorem dX5_clear_16 : decode cX5_clear 16 = .ok (.iconst 0, 1) := by decide +kernel
theorem dX5_clear_17 : decode cX5_clear 17 = .ok (.putfield 40, 3) := by decide +kernel
theorem dX5_clear_20 : decode cX5_clear 20 = .ok (.return_, 1) := by decide +kernel
set_option maxRecDepth 20000 in
theorem ggX5_take_X7_copy : GoodIn wsX5_take wsX7_copy := goodIn_r _ [14, 15, 16, 13, 17, 18, 19, 20] (by decide +kernel) (by decide +kernel)
set_option maxRecDepth 20000 in
theorem gX5_take_X7_copy : GoodIn wsX5_take (va_wsS RX5 43 yX7_copy wsX7_copy) := goodIn_app (goodIn_of _ (by decide +kernel)) ggX5_take_X7_copy
theorem dX5_take_0 : decode cX5_take 0 = .ok (.aload_n 0, 1) := by decide +kernel
theorem dX5_take_1 : decode cX5_take 1 = .ok (.aload_n 1, 1) := by decide +kernel
theorem dX5_take_2 : decode cX5_take 2 = .ok (.getfield 30, 3) := by decide +kernel
theorem dX5_take_5 : decode cX5_take 5 = .ok (.putfield 30, 3) := by decide +kernel
theorem dX5_take_8 : decode cX5_take 8 = .ok (.aload_n 0, 1) := by decide +kernel
theorem dX5_take_9 : decode cX5_take 9 = .ok (.aload_n 1, 1) := by decide +kernel
theorem dX5_take_10 : decode cX5_take 10 = .ok (.getfield 34, 3) := by decide +kernel
theorem dX5_take_13 : decode cX5_take 13 = .ok (.putfield 34, 3) := by decide +kernel
theorem dX5_take_16 : decode cX5_take 16 = .ok (.aload_n 0, 1) := by decide +kernel
theorem dX5_take_17 : decode cX5_take 17 = .ok (.aload_n 1, 1) := by decide +kernel
theorem dX5_take_18 : decode cX5_take 18 = .ok (.getfield 37, 3) := by decide +kernel
theorem dX5_take_21 : decode cX5_take 21 = .ok (.putfield 37, 3) := by decide +kernel
theorem dX5_take_24 : decode cX5_take 24 = .ok (.aload_n 0, 1) := by decide +kernel
theorem dX5_take_25 : decode cX5_take 25 = .ok (.aload_n 1, 1) := by decide +kernel
theorem dX5_take_26 : decode cX5_take 26 = .ok (.getfield 40, 3) := by decide +kernel
theorem dX5_take_29 : decode cX5_take 29 = .ok (.putfield 40, 3) := by decide +kernel
theorem dX5_take_32 : decode cX5_take 32 = .ok (.aload_n 1, 1) := by decide +kernel
theorem dX5_take_33 : decode cX5_take 33 = .ok (.getfield 9, 3) := by decide +kernel
theorem dX5_take_36 : decode cX5_take 36 = .ok (.iconst 0, 1) := by decide +kernel
theorem dX5_take_37 : decode cX5_take 37 = .ok (.aload_n 0, 1) := by decide +kernel
theorem dX5_take_38 : decode cX5_take 38 = .ok (.getfield 9, 3) := by decide +kernel
theorem dX5_take_41 : decode cX5_take 41 = .ok (.iconst 0, 1) := by decide +kernel
theorem dX5_take_42 : decode cX5_take 42 = .ok (.bipush 8, 2) := by decide +kernel
theorem dX5_take_44 : decode cX5_take 44 = .ok (.invokestatic 43, 3) := by decide +kernel
theorem dX5_take_47 : decode cX5_take 47 = .ok (.aload_n 1, 1) := by decide +kernel
theorem dX5_take_48 : decode cX5_take 48 = .ok (.getfield 15, 3) := by decide +kernel
theorem dX5_take_51 : decode cX5_take 51 = .ok (.iconst 0, 1) := by decide +kernel
theorem dX5_take_52 : decode cX5_take 52 = .ok (.aload_n 0, 1) := by decide +kernel
theorem dX5_take_53 : decode cX5_take 53 = .ok (.getfield 15, 3) := by decide +kernel
theorem dX5_take_56 : decode cX5_take 56 = .ok (.iconst 0, 1) := by decide +kernel
theorem dX5_take_57 : decode cX5_take 57 = .ok (.bipush 6, 2) := by decide +kernel
theorem dX5_take_59 : decode cX5_take 59 = .ok (.invokestatic 43, 3) := by decide +kernel
theorem dX5_take_62 : decode cX5_take 62 = .ok (.aload_n 1, 1) := by decide +kernel
theorem dX5_take_63 : decode cX5_take 63 = .ok (.getfield 18, 3) := by decide +kernel
theorem dX5_take_66 : decode cX5_take 66 = .ok (.iconst 0, 1) := by decide +kernel
theorem dX5_take_67 : decode cX5_take 67 = .ok (.aload_n 0, 1) := by decide +kernel
theorem dX5_take_68 : decode cX5_take 68 = .ok (.getfield 18, 3) := by decide +kernel
theorem dX5_take_71 : decode cX5_take 71 = .ok (.iconst 0, 1) := by decide +kernel
theorem dX5_take_72 : decode cX5_take 72 = .ok (.bipush 6, 2) := by decide +kernel
theorem dX5_take_74 : decode cX5_take 74 = .ok (.invokestatic 43, 3) := by decide +kernel
theorem dX5_take_77 : decode cX5_take 77 = .ok (.aload_n 1, 1) := by decide +kernel
theorem dX5_take_78 : decode cX5_take 78 = .ok (.getfield 21, 3) := by decide +kernel
theorem dX5_take_81 : decode cX5_take 81 = .ok (.iconst 0, 1) := by decide +kernel
theorem dX5_take_82 : decode cX5_take 82 = .ok (.aload_n 0, 1) := by decide +kernel
theorem dX5_take_83 : decode cX5_take 83 = .ok (.getfield 21, 3) := by decide +kernel
theorem dX5_take_86 : decode cX5_take 86 = .ok (.iconst 0, 1) := by decide +kernel
theorem dX5_take_87 : decode cX5_take 87 = .ok (.bipush 7, 2) := by decide +kernel
theorem dX5_take_89 : decode cX5_take 89 = .ok (.invokestatic 43, 3) := by decide +kernel
theorem dX5_take_92 : decode cX5_take 92 = .ok (.aload_n 1, 1) := by decide +kernel
theorem dX5_take_93 : decode cX5_take 93 = .ok (.getfield 24, 3) := by decide +kernel
theorem dX5_take_96 : decode cX5_take 96 = .ok (.iconst 0, 1) := by decide +kernel
theorem dX5_take_97 : decode cX5_take 97 = .ok (.aload_n 0, 1) := by decide +kernel
theorem dX5_take_98 : decode cX5_take 98 = .ok (.getfield 24, 3) := by decide +kernel
theorem dX5_take_101 : decode cX5_take 101 = .ok (.iconst 0, 1) := by decide +kernel
theorem dX5_take_102 : decode cX5_take 102 = .ok (.bipush 7, 2) := by decide +kernel
theorem dX5_take_104 : decode cX5_take 104 = .ok (.invokestatic 43, 3) := by decide +kernel
theorem dX5_take_107 : decode cX5_take 107 = .ok (.aload_n 1, 1) := by decide +kernel
theorem dX5_take_108 : decode cX5_take 108 = .ok (.getfield 27, 3) := by decide +kernel
theorem dX5_take_111 : decode cX5_take 111 = .ok (.iconst 0, 1) := by decide +kernel
theorem dX5_take_112 : decode cX5_take 112 = .ok (.aload_n 0, 1) := by decide +kernel
theorem dX5_take_113 : decode cX5_take 113 = .ok (.getfield 27, 3) := by decide +kernel
theorem dX5_take_116 : decode cX5_take 116 = .ok (.iconst 0, 1) := by decide +kernel
theorem dX5_take_117 : decode cX5_take 117 = .ok (.bipush 7, 2) := by decide +kernel
theorem dX5_take_119 : decode cX5_take 119 = .ok (.invokestatic 43, 3) := by decide +kernel
theorem dX5_take_122 : decode cX5_take 122 = .ok (.return_, 1) := by decide +kernel
set_option maxRecDepth 20000 in
theorem ggX5_addWall_X7_put : GoodIn wsX5_addWall wsX7_put := goodIn_r _ [6] (by decide +kernel) (by decide +kernel)
set_option maxRecDepth 20000 in
theorem gX5_addWall_X7_put : GoodIn wsX5_addWall (va_wsS RX5 49 yX7_put wsX7_put) := goodIn_app (goodIn_of _ (by decide +kernel)) ggX5_addWall_X7_put
theorem dX5_addWall_0 : decode cX5_addWall 0 = .ok (.aload_n 0, 1) := by decide +kernel
theorem dX5_addWall_1 : decode cX5_addWall 1 = .ok (.getfield 9, 3) := by decide +kernel
theorem dX5_addWall_4 : decode cX5_addWall 4 = .ok (.aload_n 0, 1) := by decide +kernel
theorem dX5_addWall_5 : decode cX5_addWall 5 = .ok (.getfield 30, 3) := by decide +kernel
theorem dX5_addWall_8 : decode cX5_addWall 8 = .ok (.iload_n 1, 1) := by decide +kernel
theorem dX5_addWall_9 : decode cX5_addWall 9 = .ok (.invokestatic 49, 3) := by decide +kernel
theorem dX5_addWall_12 : decode cX5_addWall 12 = .ok (.aload_n 0, 1) := by decide +kernel
theorem dX5_addWall_13 : decode cX5_addWall 13 = .ok (.dup, 1) := by decide +kernel
theorem dX5_addWall_14 : decode cX5_addWall 14 = .ok (.getfield 30, 3) := by decide +kernel
theorem dX5_addWall_17 : decode cX5_addWall 17 = .ok (.iconst 1, 1) := by decide +kernel
theorem dX5_addWall_18 : decode cX5_addWall 18 = .ok (.iadd, 1) := by decide +kernel
theorem dX5_addWall_19 : decode cX5_addWall 19 = .ok (.putfield 30, 3) := by decide +kernel
theorem dX5_addWall_22 : decode cX5_addWall 22 = .ok (.return_, 1) := by decide +kernel
set_option maxRecDepth 20000 in
theorem ggX5_addSound_X7_put : GoodIn wsX5_addSound wsX7_put := goodIn_r _ [7] (by decide +kernel) (by decide +kernel)
set_option maxRecDepth 20000 in
theorem gX5_addSound_X7_put : GoodIn wsX5_addSound (va_wsS RX5 49 yX7_put wsX7_put) := goodIn_app (goodIn_of _ (by decide +kernel)) ggX5_addSound_X7_put
theorem dX5_addSound_0 : decode cX5_addSound 0 = .ok (.aload_n 0, 1) := by decide +kernel
theorem dX5_addSound_1 : decode cX5_addSound 1 = .ok (.getfield 15, 3) := by decide +kernel
theorem dX5_addSound_4 : decode cX5_addSound 4 = .ok (.aload_n 0, 1) := by decide +kernel
theorem dX5_addSound_5 : decode cX5_addSound 5 = .ok (.getfield 37, 3) := by decide +kernel
theorem dX5_addSound_8 : decode cX5_addSound 8 = .ok (.iload_n 1, 1) := by decide +kernel
theorem dX5_addSound_9 : decode cX5_addSound 9 = .ok (.invokestatic 49, 3) := by decide +kernel
theorem dX5_addSound_12 : decode cX5_addSound 12 = .ok (.aload_n 0, 1) := by decide +kernel
theorem dX5_addSound_13 : decode cX5_addSound 13 = .ok (.getfield 18, 3) := by decide +kernel
theorem dX5_addSound_16 : decode cX5_addSound 16 = .ok (.aload_n 0, 1) := by decide +kernel
theorem dX5_addSound_17 : decode cX5_addSound 17 = .ok (.getfield 37, 3) := by decide +kernel
theorem dX5_addSound_20 : decode cX5_addSound 20 = .ok (.iload_n 2, 1) := by decide +kernel
theorem dX5_addSound_21 : decode cX5_addSound 21 = .ok (.invokestatic 49, 3) := by decide +kernel
theorem dX5_addSound_24 : decode cX5_addSound 24 = .ok (.aload_n 0, 1) := by decide +kernel
theorem dX5_addSound_25 : decode cX5_addSound 25 = .ok (.dup, 1) := by decide +kernel
theorem dX5_addSound_26 : decode cX5_addSound 26 = .ok (.getfield 37, 3) := by decide +kernel
theorem dX5_addSound_29 : decode cX5_addSound 29 = .ok (.iconst 1, 1) := by decide +kernel
theorem dX5_addSound_30 : decode cX5_addSound 30 = .ok (.iadd, 1) := by decide +kernel
theorem dX5_addSound_31 : decode cX5_addSound 31 = .ok (.putfield 37, 3) := by decide +kernel
theorem dX5_addSound_34 : decode cX5_addSound 34 = .ok (.return_, 1) := by decide +kernel
set_option maxRecDepth 20000 in
theorem ggX5_addWitness_X7_put : GoodIn wsX5_addWitness wsX7_put := goodIn_r _ [8] (by decide +kernel) (by decide +kernel)
set_option maxRecDepth 20000 in
theorem gX5_addWitness_X7_put : GoodIn wsX5_addWitness (va_wsS RX5 49 yX7_put wsX7_put) := goodIn_app (goodIn_of _ (by decide +kernel)) ggX5_addWitness_X7_put
theorem dX5_addWitness_0 : decode cX5_addWitness 0 = .ok (.aload_n 0, 1) := by decide +kernel
theorem dX5_addWitness_1 : decode cX5_addWitness 1 = .ok (.getfield 21, 3) := by decide +kernel
theorem dX5_addWitness_4 : decode cX5_addWitness 4 = .ok (.aload_n 0, 1) := by decide +kernel
theorem dX5_addWitness_5 : decode cX5_addWitness 5 = .ok (.getfield 40, 3) := by decide +kernel
theorem dX5_addWitness_8 : decode cX5_addWitness 8 = .ok (.iload_n 1, 1) := by decide +kernel
theorem dX5_addWitness_9 : decode cX5_addWitness 9 = .ok (.invokestatic 49, 3) := by decide +kernel
theorem dX5_addWitness_12 : decode cX5_addWitness 12 = .ok (.aload_n 0, 1) := by decide +kernel
theorem dX5_addWitness_13 : decode cX5_addWitness 13 = .ok (.getfield 24, 3) := by decide +kernel
theorem dX5_addWitness_16 : decode cX5_addWitness 16 = .ok (.aload_n 0, 1) := by decide +kernel
theorem dX5_addWitness_17 : decode cX5_addWitness 17 = .ok (.getfield 40, 3) := by decide +kernel
theorem dX5_addWitness_20 : decode cX5_addWitness 20 = .ok (.iload_n 2, 1) := by decide +kernel
theorem dX5_addWitness_21 : decode cX5_addWitness 21 = .ok (.invokestatic 49, 3) := by decide +kernel
theorem dX5_addWitness_24 : decode cX5_addWitness 24 = .ok (.aload_n 0, 1) := by decide +kernel
theorem dX5_addWitness_25 : decode cX5_addWitness 25 = .ok (.getfield 27, 3) := by decide +kernel
theorem dX5_addWitness_28 : decode cX5_addWitness 28 = .ok (.aload_n 0, 1) := by decide +kernel
theorem dX5_addWitness_29 : decode cX5_addWitness 29 = .ok (.getfield 40, 3) := by decide +kernel
theorem dX5_addWitness_32 : decode cX5_addWitness 32 = .ok (.iload_n 3, 1) := by decide +kernel
theorem dX5_addWitness_33 : decode cX5_addWitness 33 = .ok (.invokestatic 49, 3) := by decide +kernel
theorem dX5_addWitness_36 : decode cX5_addWitness 36 = .ok (.aload_n 0, 1) := by decide +kernel
theorem dX5_addWitness_37 : decode cX5_addWitness 37 = .ok (.dup, 1) := by decide +kernel
theorem dX5_addWitness_38 : decode cX5_addWitness 38 = .ok (.getfield 40, 3) := by decide +kernel
theorem dX5_addWitness_41 : decode cX5_addWitness 41 = .ok (.iconst 1, 1) := by decide +kernel
theorem dX5_addWitness_42 : decode cX5_addWitness 42 = .ok (.iadd, 1) := by decide +kernel
theorem dX5_addWitness_43 : decode cX5_addWitness 43 = .ok (.putfield 40, 3) := by decide +kernel
theorem dX5_addWitness_46 : decode cX5_addWitness 46 = .ok (.return_, 1) := by decide +kernel
theorem dX5_stands_0 : decode cX5_stands 0 = .ok (.aload_n 0, 1) := by decide +kernel
theorem dX5_stands_1 : decode cX5_stands 1 = .ok (.getfield 30, 3) := by decide +kernel
theorem dX5_stands_4 : decode cX5_stands 4 = .ok (.ifCond .le 7, 3) := by decide +kernel
theorem dX5_stands_7 : decode cX5_stands 7 = .ok (.iconst 1, 1) := by decide +kernel
theorem dX5_stands_8 : decode cX5_stands 8 = .ok (.goto 4, 3) := by decide +kernel
theorem dX5_stands_11 : decode cX5_stands 11 = .ok (.iconst 0, 1) := by decide +kernel
theorem dX5_stands_12 : decode cX5_stands 12 = .ok (.ireturn, 1) := by decide +kernel
theorem dX5_places_0 : decode cX5_places 0 = .ok (.aload_n 0, 1) := by decide +kernel
theorem dX5_places_1 : decode cX5_places 1 = .ok (.getfield 30, 3) := by decide +kernel
theorem dX5_places_4 : decode cX5_places 4 = .ok (.ifCond .le 12, 3) := by decide +kernel
theorem dX5_places_7 : decode cX5_places 7 = .ok (.aload_n 0, 1) := by decide +kernel
theorem dX5_places_8 : decode cX5_places 8 = .ok (.getfield 30, 3) := by decide +kernel
theorem dX5_places_11 : decode cX5_places 11 = .ok (.iconst 1, 1) := by decide +kernel
theorem dX5_places_12 : decode cX5_places 12 = .ok (.iadd, 1) := by decide +kernel
theorem dX5_places_13 : decode cX5_places 13 = .ok (.goto 4, 3) := by decide +kernel
theorem dX5_places_16 : decode cX5_places 16 = .ok (.iconst 0, 1) := by decide +kernel
theorem dX5_places_17 : decode cX5_places 17 = .ok (.ireturn, 1) := by decide +kernel
theorem dX5_isWall_0 : decode cX5_isWall 0 = .ok (.iload_n 1, 1) := by decide +kernel
theorem dX5_isWall_1 : decode cX5_isWall 1 = .ok (.ifCond .lt 15, 3) := by decide +kernel
theorem dX5_isWall_4 : decode cX5_isWall 4 = .ok (.iload_n 1, 1) := by decide +kernel
theorem dX5_isWall_5 : decode cX5_isWall 5 = .ok (.aload_n 0, 1) := by decide +kernel
theorem dX5_isWall_6 : decode cX5_isWall 6 = .ok (.getfield 30, 3) := by decide +kernel
theorem dX5_isWall_9 : decode cX5_isWall 9 = .ok (.if_icmp .ge 7, 3) := by decide +kernel
theorem dX5_isWall_12 : decode cX5_isWall 12 = .ok (.iconst 1, 1) := by decide +kernel
theorem dX5_isWall_13 : decode cX5_isWall 13 = .ok (.goto 4, 3) := by decide +kernel
theorem dX5_isWall_16 : decode cX5_isWall 16 = .ok (.iconst 0, 1) := by decide +kernel
theorem dX5_isWall_17 : decode cX5_isWall 17 = .ok (.ireturn, 1) := by decide +kernel
set_option maxRecDepth 20000 in
theorem ggX5_isPlace_X5_places : GoodIn wsX5_isPlace wsX5_places := goodIn_r _ [5, 6, 7, 8, 9, 10, 11, 12, 13, 14, 15, 16] (by decide +kernel) (by decide +kernel)
set_option maxRecDepth 20000 in
theorem gX5_isPlace_X5_places : GoodIn wsX5_isPlace (wsV RX5 53 RX5 yX5_places wsX5_places) := goodIn_app (goodIn_of _ (by decide +kernel)) ggX5_isPlace_X5_places
theorem dX5_isPlace_0 : decode cX5_isPlace 0 = .ok (.iload_n 1, 1) := by decide +kernel
theorem dX5_isPlace_1 : decode cX5_isPlace 1 = .ok (.ifCond .lt 15, 3) := by decide +kernel
theorem dX5_isPlace_4 : decode cX5_isPlace 4 = .ok (.iload_n 1, 1) := by decide +kernel
theorem dX5_isPlace_5 : decode cX5_isPlace 5 = .ok (.aload_n 0, 1) := by decide +kernel
theorem dX5_isPlace_6 : decode cX5_isPlace 6 = .ok (.invokevirtual 53, 3) := by decide +kernel
theorem dX5_isPlace_9 : decode cX5_isPlace 9 = .ok (.if_icmp .ge 7, 3) := by decide +kernel
theorem dX5_isPlace_12 : decode cX5_isPlace 12 = .ok (.iconst 1, 1) := by decide +kernel
theorem dX5_isPlace_13 : decode cX5_isPlace 13 = .ok (.goto 4, 3) := by decide +kernel
theorem dX5_isPlace_16 : decode cX5_isPlace 16 = .ok (.iconst 0, 1) := by decide +kernel
theorem dX5_isPlace_17 : decode cX5_isPlace 17 = .ok (.ireturn, 1) := by decide +kernel
theorem dX5_isSound_0 : decode cX5_isSound 0 = .ok (.iload_n 1, 1) := by decide +kernel
theorem dX5_isSound_1 : decode cX5_isSound 1 = .ok (.ifCond .lt 15, 3) := by decide +kernel
theorem dX5_isSound_4 : decode cX5_isSound 4 = .ok (.iload_n 1, 1) := by decide +kernel
theorem dX5_isSound_5 : decode cX5_isSound 5 = .ok (.aload_n 0, 1) := by decide +kernel
theorem dX5_isSound_6 : decode cX5_isSound 6 = .ok (.getfield 37, 3) := by decide +kernel
theorem dX5_isSound_9 : decode cX5_isSound 9 = .ok (.if_icmp .ge 7, 3) := by decide +kernel
theorem dX5_isSound_12 : decode cX5_isSound 12 = .ok (.iconst 1, 1) := by decide +kernel
theorem dX5_isSound_13 : decode cX5_isSound 13 = .ok (.goto 4, 3) := by decide +kernel
theorem dX5_isSound_16 : decode cX5_isSound 16 = .ok (.iconst 0, 1) := by decide +kernel
theorem dX5_isSound_17 : decode cX5_isSound 17 = .ok (.ireturn, 1) := by decide +kernel
theorem dX5_isWitness_0 : decode cX5_isWitness 0 = .ok (.iload_n 1, 1) := by decide +kernel
theorem dX5_isWitness_1 : decode cX5_isWitness 1 = .ok (.ifCond .lt 15, 3) := by decide +kernel
theorem dX5_isWitness_4 : decode cX5_isWitness 4 = .ok (.iload_n 1, 1) := by decide +kernel
theorem dX5_isWitness_5 : decode cX5_isWitness 5 = .ok (.aload_n 0, 1) := by decide +kernel
theorem dX5_isWitness_6 : decode cX5_isWitness 6 = .ok (.getfield 40, 3) := by decide +kernel
theorem dX5_isWitness_9 : decode cX5_isWitness 9 = .ok (.if_icmp .ge 7, 3) := by decide +kernel
theorem dX5_isWitness_12 : decode cX5_isWitness 12 = .ok (.iconst 1, 1) := by decide +kernel
theorem dX5_isWitness_13 : decode cX5_isWitness 13 = .ok (.goto 4, 3) := by decide +kernel
theorem dX5_isWitness_16 : decode cX5_isWitness 16 = .ok (.iconst 0, 1) := by decide +kernel
theorem dX5_isWitness_17 : decode cX5_isWitness 17 = .ok (.ireturn, 1) := by decide +kernel
set_option maxRecDepth 20000 in
theorem ggX5_arePlaces_X5_places : GoodIn wsX5_arePlaces wsX5_places := goodIn_r _ [5, 6, 7, 8, 9, 10, 11, 12, 13, 14, 15, 16] (by decide +kernel) (by decide +kernel)
set_option maxRecDepth 20000 in
theorem gX5_arePlaces_X5_places : GoodIn wsX5_arePlaces (wsV RX5 53 RX5 yX5_places wsX5_places) := goodIn_app (goodIn_of _ (by decide +kernel)) ggX5_arePlaces_X5_places
theorem dX5_arePlaces_0 : decode cX5_arePlaces 0 = .ok (.iload_n 1, 1) := by decide +kernel
theorem dX5_arePlaces_1 : decode cX5_arePlaces 1 = .ok (.ifCond .lt 17, 3) := by decide +kernel
theorem dX5_arePlaces_4 : decode cX5_arePlaces 4 = .ok (.iload_n 1, 1) := by decide +kernel
theorem dX5_arePlaces_5 : decode cX5_arePlaces 5 = .ok (.iconst 1, 1) := by decide +kernel
theorem dX5_arePlaces_6 : decode cX5_arePlaces 6 = .ok (.aload_n 0, 1) := by decide +kernel
theorem dX5_arePlaces_7 : decode cX5_arePlaces 7 = .ok (.invokevirtual 53, 3) := by decide +kernel
theorem dX5_arePlaces_10 : decode cX5_arePlaces 10 = .ok (.ishl, 1) := by decide +kernel
theorem dX5_arePlaces_11 : decode cX5_arePlaces 11 = .ok (.if_icmp .ge 7, 3) := by decide +kernel
theorem dX5_arePlaces_14 : decode cX5_arePlaces 14 = .ok (.iconst 1, 1) := by decide +kernel
theorem dX5_arePlaces_15 : decode cX5_arePlaces 15 = .ok (.goto 4, 3) := by decide +kernel
theorem dX5_arePlaces_18 : decode cX5_arePlaces 18 = .ok (.iconst 0, 1) := by decide +kernel
theorem dX5_arePlaces_19 : decode cX5_arePlaces 19 = .ok (.ireturn, 1) := by decide +kernel
set_option maxRecDepth 20000 in
theorem ggX5_isPair_X5_isSound : GoodIn wsX5_isPair wsX5_isSound := goodIn_r _ [5, 6, 16, 17, 18, 19, 20, 21, 22, 23, 24, 25] (by decide +kernel) (by decide +kernel)
set_option maxRecDepth 20000 in
theorem gX5_isPair_X5_isSound : GoodIn wsX5_isPair (wsV RX5 57 RX5 yX5_isSound wsX5_isSound) := goodIn_app (goodIn_of _ (by decide +kernel)) ggX5_isPair_X5_isSound
set_option maxRecDepth 20000 in
theorem ggX5_isPair_X5_isPlace : GoodIn wsX5_isPair wsX5_isPlace := goodIn_r _ [10, 11, 12, 13, 4, 14, 15, 16, 17, 18, 19, 20, 21, 22, 23, 24, 25] (by decide +kernel) (by decide +kernel)
set_option maxRecDepth 20000 in
theorem gX5_isPair_X5_isPlace : GoodIn wsX5_isPair (wsV RX5 61 RX5 yX5_isPlace wsX5_isPlace) := goodIn_app (goodIn_of _ (by decide +kernel)) ggX5_isPair_X5_isPlace
theorem dX5_isPair_0 : decode cX5_isPair 0 = .ok (.iload_n 1, 1) := by decide +kernel
theorem dX5_isPair_1 : decode cX5_isPair 1 = .ok (.bipush 100, 2) := by decide +kernel
theorem dX5_isPair_3 : decode cX5_isPair 3 = .ok (.if_icmp .eq 29, 3) := by decide +kernel
theorem dX5_isPair_6 : decode cX5_isPair 6 = .ok (.iload_n 1, 1) := by decide +kernel
theorem dX5_isPair_7 : decode cX5_isPair 7 = .ok (.ifCond .lt 29, 3) := by decide +kernel
theorem dX5_isPair_10 : decode cX5_isPair 10 = .ok (.aload_n 0, 1) := by decide +kernel
theorem dX5_isPair_11 : decode cX5_isPair 11 = .ok (.iload_n 1, 1) := by decide +kernel
theorem dX5_isPair_12 : decode cX5_isPair 12 = .ok (.bipush 10, 2) := by decide +kernel
theorem dX5_isPair_14 : decode cX5_isPair 14 = .ok (.idiv, 1) := by decide +kernel
theorem dX5_isPair_15 : decode cX5_isPair 15 = .ok (.invokevirtual 57, 3) := by decide +kernel
theorem dX5_isPair_18 : decode cX5_isPair 18 = .ok (.ifCond .eq 18, 3) := by decide +kernel
theorem dX5_isPair_21 : decode cX5_isPair 21 = .ok (.aload_n 0, 1) := by decide +kernel
theorem dX5_isPair_22 : decode cX5_isPair 22 = .ok (.iload_n 1, 1) := by decide +kernel
theorem dX5_isPair_23 : decode cX5_isPair 23 = .ok (.bipush 10, 2) := by decide +kernel
theorem dX5_isPair_25 : decode cX5_isPair 25 = .ok (.irem, 1) := by decide +kernel
theorem dX5_isPair_26 : decode cX5_isPair 26 = .ok (.invokevirtual 61, 3) := by decide +kernel
theorem dX5_isPair_29 : decode cX5_isPair 29 = .ok (.ifCond .eq 7, 3) := by decide +kernel
theorem dX5_isPair_32 : decode cX5_isPair 32 = .ok (.iconst 1, 1) := by decide +kernel
theorem dX5_isPair_33 : decode cX5_isPair 33 = .ok (.goto 4, 3) := by decide +kernel
theorem dX5_isPair_36 : decode cX5_isPair 36 = .ok (.iconst 0, 1) := by decide +kernel
theorem dX5_isPair_37 : decode cX5_isPair 37 = .ok (.ireturn, 1) := by decide +kernel
set_option maxRecDepth 20000 in
theorem ggX6_init_X5_init : GoodIn wsX6_init wsX5_init := goodIn_r _ [11, 12, 2, 3, 13, 14, 15, 16, 17, 18, 19, 20, 21, 22, 23, 24, 25, 26, 27, 28, 29] (by decide +kernel) (by decide +kernel)
set_option maxRecDepth 20000 in
theorem gX6_init_X5_init_n11 : GoodIn wsX6_init (wsX5_init) := ggX6_init_X5_init
theorem dX6_init_0 : decode cX6_init 0 = .ok (.aload_n 0, 1) := by decide +kernel
theorem dX6_init_1 : decode cX6_init 1 = .ok (.invokespecial 3, 3) := by decide +kernel
theorem dX6_init_4 : decode cX6_init 4 = .ok (.aload_n 0, 1) := by decide +kernel
theorem dX6_init_5 : decode cX6_init 5 = .ok (.new 9, 3) := by decide +kernel
theorem dX6_init_8 : decode cX6_init 8 = .ok (.dup, 1) := by decide +kernel
theorem dX6_init_9 : decode cX6_init 9 = .ok (.invokespecial 11, 3) := by decide +kernel
theorem dX6_init_12 : decode cX6_init 12 = .ok (.putfield 12, 3) := by decide +kernel
theorem dX6_init_15 : decode cX6_init 15 = .ok (.aload_n 0, 1) := by decide +kernel
theorem dX6_init_16 : decode cX6_init 16 = .ok (.iconst (-1), 1) := by decide +kernel
theorem dX6_init_17 : decode cX6_init 17 = .ok (.putfield 18, 3) := by decide +kernel
theorem dX6_init_20 : decode cX6_init 20 = .ok (.aload_n 0, 1) := by decide +kernel
theorem dX6_init_21 : decode cX6_init 21 = .ok (.aload_n 1, 1) := by decide +kernel
theorem dX6_init_22 : decode cX6_init 22 = .ok (.putfield 22, 3) := by decide +kernel
theorem dX6_init_25 : decode cX6_init 25 = .ok (.return_, 1) := by decide +kernel
set_option maxRecDepth 20000 in
theorem ggX6_read_X5_clear : GoodIn wsX6_read wsX5_clear := goodIn_r _ [12, 13, 14, 15, 16, 106, 107, 108, 109, 110, 111, 112, 113, 114, 115] (by decide +kernel) (by decide +kernel)
set_option maxRecDepth 20000 in
theorem gX6_read_X5_clear : GoodIn wsX6_read (wsV RX6 26 RX5 yX5_clear wsX5_clear) := goodIn_app (goodIn_of _ (by decide +kernel)) ggX6_read_X5_clear
set_option maxRecDepth 20000 in
theorem ggX6_read_X6_skipBlanks : GoodIn wsX6_read wsX6_skipBlanks := goodIn_r _ [21, 6, 4, 22, 23, 24, 25, 26, 27, 28, 98, 99, 100, 101, 102, 103, 104, 105] (by decide +kernel) (by decide +kernel)
set_option maxRecDepth 20000 in
theorem gX6_read_X6_skipBlanks : GoodIn wsX6_read (wsV RX6 39 RX6 yX6_skipBlanks wsX6_skipBlanks) := goodIn_app (goodIn_of _ (by decide +kernel)) ggX6_read_X6_skipBlanks
set_option maxRecDepth 20000 in
theorem ggX6_read_X6_readClause : GoodIn wsX6_read wsX6_readClause := goodIn_r _ [32, 4, 6, 1, 22, 23, 24, 25, 26, 27, 28, 33, 34, 35, 11, 36, 13, 37, 38, 39, 20, 40, 2, 3, 41, 42, 43, 44, 45, 46, 47, 48, 49, 50, 51, 52, 17, 18, 19, 21, 53, 54, 55, 56, 57, 58, 59, 60, 61, 62, 63, 64, 65, 66, 67, 68, 69, 70, 71, 72, 5, 73, 74, 75, 76, 77, 78, 79, 80, 81, 82, 83, 15, 84, 85, 86, 87, 88, 89, 90, 91, 92, 93, 94, 95, 16, 96, 97, 98, 99, 100, 101, 102, 103, 104, 105, 106, 107, 108, 109, 110, 111, 112, 113, 114, 115] (by decide +kernel) (by decide +kernel)
set_option maxRecDepth 20000 in
theorem gX6_read_X6_readClause : GoodIn wsX6_read (wsV RX6 47 RX6 yX6_readClause wsX6_readClause) := goodIn_app (goodIn_of _ (by decide +kernel)) ggX6_read_X6_readClause
theorem dX6_read_0 : decode cX6_read 0 = .ok (.aload_n 0, 1) := by decide +kernel
theorem dX6_read_1 : decode cX6_read 1 = .ok (.getfield 12, 3) := by decide +kernel
theorem dX6_read_4 : decode cX6_read 4 = .ok (.invokevirtual 26, 3) := by decide +kernel
theorem dX6_read_7 : decode cX6_read 7 = .ok (.aload_n 0, 1) := by decide +kernel
theorem dX6_read_8 : decode cX6_read 8 = .ok (.iconst 0, 1) := by decide +kernel
theorem dX6_read_9 : decode cX6_read 9 = .ok (.putfield 29, 3) := by decide +kernel
theorem dX6_read_12 : decode cX6_read 12 = .ok (.aload_n 0, 1) := by decide +kernel
theorem dX6_read_13 : decode cX6_read 13 = .ok (.iconst (-1), 1) := by decide +kernel
theorem dX6_read_14 : decode cX6_read 14 = .ok (.putfield 18, 3) := by decide +kernel
theorem dX6_read_17 : decode cX6_read 17 = .ok (.aload_n 0, 1) := by decide +kernel
theorem dX6_read_18 : decode cX6_read 18 = .ok (.iconst 0, 1) := by decide +kernel
theorem dX6_read_19 : decode cX6_read 19 = .ok (.putfield 32, 3) := by decide +kernel
theorem dX6_read_22 : decode cX6_read 22 = .ok (.aload_n 0, 1) := by decide +kernel
theorem dX6_read_23 : decode cX6_read 23 = .ok (.iconst 0, 1) := by decide +kernel
theorem dX6_read_24 : decode cX6_read 24 = .ok (.putfield 35, 3) := by decide +kernel
theorem dX6_read_27 : decode cX6_read 27 = .ok (.aload_n 0, 1) := by decide +kernel
theorem dX6_read_28 : decode cX6_read 28 = .ok (.invokevirtual 39, 3) := by decide +kernel
theorem dX6_read_31 : decode cX6_read 31 = .ok (.iconst 0, 1) := by decide +kernel
theorem dX6_read_32 : decode cX6_read 32 = .ok (.istore_n 1, 1) := by decide +kernel
theorem dX6_read_33 : decode cX6_read 33 = .ok (.iload_n 1, 1) := by decide +kernel
theorem dX6_read_34 : decode cX6_read 34 = .ok (.sipush 240, 3) := by decide +kernel
theorem dX6_read_37 : decode cX6_read 37 = .ok (.if_icmp .ge 38, 3) := by decide +kernel
theorem dX6_read_40 : decode cX6_read 40 = .ok (.aload_n 0, 1) := by decide +kernel
theorem dX6_read_41 : decode cX6_read 41 = .ok (.getfield 29, 3) := by decide +kernel
theorem dX6_read_44 : decode cX6_read 44 = .ok (.ifCond .ne 31, 3) := by decide +kernel
theorem dX6_read_47 : decode cX6_read 47 = .ok (.aload_n 0, 1) := by decide +kernel
theorem dX6_read_48 : decode cX6_read 48 = .ok (.getfield 32, 3) := by decide +kernel
theorem dX6_read_51 : decode cX6_read 51 = .ok (.aload_n 0, 1) := by decide +kernel
theorem dX6_read_52 : decode cX6_read 52 = .ok (.getfield 22, 3) := by decide +kernel
theorem dX6_read_55 : decode cX6_read 55 = .ok (.getfield 42, 3) := by decide +kernel
theorem dX6_read_58 : decode cX6_read 58 = .ok (.if_icmp .ge 17, 3) := by decide +kernel
theorem dX6_read_61 : decode cX6_read 61 = .ok (.aload_n 0, 1) := by decide +kernel
theorem dX6_read_62 : decode cX6_read 62 = .ok (.invokevirtual 47, 3) := by decide +kernel
theorem dX6_read_65 : decode cX6_read 65 = .ok (.aload_n 0, 1) := by decide +kernel
theorem dX6_read_66 : decode cX6_read 66 = .ok (.invokevirtual 39, 3) := by decide +kernel
theorem dX6_read_69 : decode cX6_read 69 = .ok (.iinc 1 1, 3) := by decide +kernel
theorem dX6_read_72 : decode cX6_read 72 = .ok (.goto (-39), 3) := by decide +kernel
theorem dX6_read_75 : decode cX6_read 75 = .ok (.return_, 1) := by decide +kernel
set_option maxRecDepth 20000 in
theorem ggX6_readClause_X9_letterAt : GoodIn wsX6_readClause wsX9_letterAt := goodIn_r _ [8, 9, 10, 94, 95] (by decide +kernel) (by decide +kernel)
set_option maxRecDepth 20000 in
theorem gX6_readClause_X9_letterAt : GoodIn wsX6_readClause (wsV RX6 50 RX9 yX9_letterAt wsX9_letterAt) := goodIn_app (goodIn_of _ (by decide +kernel)) ggX6_readClause_X9_letterAt
set_option maxRecDepth 20000 in
theorem ggX6_readClause_X5_stands : GoodIn wsX6_readClause wsX5_stands := goodIn_r _ [15, 16, 96, 97, 98, 99, 100, 101, 102, 103, 104, 105] (by decide +kernel) (by decide +kernel)
set_option maxRecDepth 20000 in
theorem gX6_readClause_X5_stands : GoodIn wsX6_readClause (wsV RX6 54 RX5 yX5_stands wsX5_stands) := goodIn_app (goodIn_of _ (by decide +kernel)) ggX6_readClause_X5_stands
set_option maxRecDepth 20000 in
theorem ggX6_readClause_X6_fail : GoodIn wsX6_readClause wsX6_fail := goodIn_r _ [21, 22, 23, 88, 89, 90, 91, 92, 93] (by decide +kernel) (by decide +kernel)
set_option maxRecDepth 20000 in
theorem gX6_readClause_X6_fail : GoodIn wsX6_readClause (wsV RX6 58 RX6 yX6_fail wsX6_fail) := goodIn_app (goodIn_of _ (by decide +kernel)) ggX6_readClause_X6_fail
set_option maxRecDepth 20000 in
theorem ggX6_readClause_X6_readWalls : GoodIn wsX6_readClause wsX6_readWalls := goodIn_r _ [27, 3, 22, 2, 1, 11, 12, 13, 14, 15, 16, 17, 18, 19, 20, 21, 23, 28, 29, 30, 31, 32, 33, 34, 35, 36, 37, 38, 39, 4, 5, 6, 7, 8, 9, 10, 40, 41, 42, 43, 44, 45, 46, 47, 48, 49, 50, 51, 52, 53, 54, 55, 88, 89, 90, 91, 92, 93, 96, 97, 98, 99, 100, 101, 102, 103, 104, 105, 94, 95] (by decide +kernel) (by decide +kernel)
set_option maxRecDepth 20000 in
theorem gX6_readClause_X6_readWalls : GoodIn wsX6_readClause (wsV RX6 62 RX6 yX6_readWalls wsX6_readWalls) := goodIn_app (goodIn_of _ (by decide +kernel)) ggX6_readClause_X6_readWalls
set_option maxRecDepth 20000 in
theorem ggX6_readClause_X6_readWind : GoodIn wsX6_readClause wsX6_readWind := goodIn_r _ [59, 60, 3, 61, 17, 18, 19, 20, 21, 22, 23, 28, 29, 30, 31, 1, 2, 32, 33, 34, 35, 36, 37, 38, 39, 4, 5, 6, 7, 8, 9, 10, 40, 41, 42, 52, 53, 54, 55, 88, 89, 90, 91, 92, 93, 96, 97, 98, 99, 100, 101, 102, 103, 104, 105, 94, 95] (by decide +kernel) (by decide +kernel)
set_option maxRecDepth 20000 in
theorem gX6_readClause_X6_readWind : GoodIn wsX6_readClause (wsV RX6 66 RX6 yX6_readWind wsX6_readWind) := goodIn_app (goodIn_of _ (by decide +kernel)) ggX6_readClause_X6_readWind
set_option maxRecDepth 20000 in
theorem ggX6_readClause_X6_readSound : GoodIn wsX6_readClause wsX6_readSound := goodIn_r _ [65, 3, 66, 17, 18, 19, 20, 21, 22, 23, 28, 29, 30, 31, 1, 2, 32, 33, 34, 35, 36, 37, 38, 39, 4, 5, 6, 7, 8, 9, 10, 40, 41, 42, 67, 68, 69, 14, 70, 71, 72, 73, 48, 49, 50, 51, 52, 53, 54, 55, 88, 89, 90, 91, 92, 93, 96, 97, 98, 99, 100, 101, 102, 103, 104, 105, 94, 95] (by decide +kernel) (by decide +kernel)
set_option maxRecDepth 20000 in
theorem gX6_readClause_X6_readSound : GoodIn wsX6_readClause (wsV RX6 69 RX6 yX6_readSound wsX6_readSound) := goodIn_app (goodIn_of _ (by decide +kernel)) ggX6_readClause_X6_readSound
set_option maxRecDepth 20000 in
theorem ggX6_readClause_X6_readWitness : GoodIn wsX6_readClause wsX6_readWitness := goodIn_r _ [77, 3, 78, 79, 17, 18, 19, 20, 21, 22, 23, 28, 29, 30, 31, 1, 2, 32, 33, 34, 35, 36, 37, 38, 39, 4, 5, 6, 7, 8, 9, 10, 40, 41, 42, 80, 81, 82, 14, 83, 84, 85, 86, 87, 48, 49, 50, 51, 52, 53, 54, 55, 88, 89, 90, 91, 92, 93, 96, 97, 98, 99, 100, 101, 102, 103, 104, 105, 94, 95] (by decide +kernel) (by decide +kernel)
set_option maxRecDepth 20000 in
theorem gX6_readClause_X6_readWitness : GoodIn wsX6_readClause (wsV RX6 72 RX6 yX6_readWitness wsX6_readWitness) := goodIn_app (goodIn_of _ (by decide +kernel)) ggX6_readClause_X6_readWitness
theorem dX6_readClause_0 : decode cX6_readClause 0 = .ok (.aload_n 0, 1) := by decide +kernel
theorem dX6_readClause_1 : decode cX6_readClause 1 = .ok (.getfield 32, 3) := by decide +kernel
theorem dX6_readClause_4 : decode cX6_readClause 4 = .ok (.istore_n 1, 1) := by decide +kernel
theorem dX6_readClause_5 : decode cX6_readClause 5 = .ok (.aload_n 0, 1) := by decide +kernel
theorem dX6_readClause_6 : decode cX6_readClause 6 = .ok (.getfield 22, 3) := by decide +kernel
theorem dX6_readClause_9 : decode cX6_readClause 9 = .ok (.aload_n 0, 1) := by decide +kernel
theorem dX6_readClause_10 : decode cX6_readClause 10 = .ok (.getfield 32, 3) := by decide +kernel
theorem dX6_readClause_13 : decode cX6_readClause 13 = .ok (.invokevirtual 50, 3) := by decide +kernel
theorem dX6_readClause_16 : decode cX6_readClause 16 = .ok (.istore_n 2, 1) := by decide +kernel
theorem dX6_readClause_17 : decode cX6_readClause 17 = .ok (.aload_n 0, 1) := by decide +kernel
theorem dX6_readClause_18 : decode cX6_readClause 18 = .ok (.dup, 1) := by decide +kernel
theorem dX6_readClause_19 : decode cX6_readClause 19 = .ok (.getfield 32, 3) := by decide +kernel
theorem dX6_readClause_22 : decode cX6_readClause 22 = .ok (.iconst 1, 1) := by decide +kernel
theorem dX6_readClause_23 : decode cX6_readClause 23 = .ok (.iadd, 1) := by decide +kernel
theorem dX6_readClause_24 : decode cX6_readClause 24 = .ok (.putfield 32, 3) := by decide +kernel
theorem dX6_readClause_27 : decode cX6_readClause 27 = .ok (.aload_n 0, 1) := by decide +kernel
theorem dX6_readClause_28 : decode cX6_readClause 28 = .ok (.getfield 12, 3) := by decide +kernel
theorem dX6_readClause_31 : decode cX6_readClause 31 = .ok (.invokevirtual 54, 3) := by decide +kernel
theorem dX6_readClause_34 : decode cX6_readClause 34 = .ok (.ifCond .ne 16, 3) := by decide +kernel
theorem dX6_readClause_37 : decode cX6_readClause 37 = .ok (.iload_n 2, 1) := by decide +kernel
theorem dX6_readClause_38 : decode cX6_readClause 38 = .ok (.bipush 104, 2) := by decide +kernel
theorem dX6_readClause_40 : decode cX6_readClause 40 = .ok (.if_icmp .eq 10, 3) := by decide +kernel
theorem dX6_readClause_43 : decode cX6_readClause 43 = .ok (.aload_n 0, 1) := by decide +kernel
theorem dX6_readClause_44 : decode cX6_readClause 44 = .ok (.iconst 1, 1) := by decide +kernel
theorem dX6_readClause_45 : decode cX6_readClause 45 = .ok (.iload_n 1, 1) := by decide +kernel
theorem dX6_readClause_46 : decode cX6_readClause 46 = .ok (.invokevirtual 58, 3) := by decide +kernel
theorem dX6_readClause_49 : decode cX6_readClause 49 = .ok (.return_, 1) := by decide +kernel
theorem dX6_readClause_50 : decode cX6_readClause 50 = .ok (.iload_n 2, 1) := by decide +kernel
theorem dX6_readClause_51 : decode cX6_readClause 51 = .ok (.lookupswitch 73 #[(104, 41), (115, 57), (118, 49), (119, 65)], 41) := by decide +kernel
theorem dX6_readClause_92 : decode cX6_readClause 92 = .ok (.aload_n 0, 1) := by decide +kernel
theorem dX6_readClause_93 : decode cX6_readClause 93 = .ok (.iload_n 1, 1) := by decide +kernel
theorem dX6_readClause_94 : decode cX6_readClause 94 = .ok (.invokevirtual 62, 3) := by decide +kernel
theorem dX6_readClause_97 : decode cX6_readClause 97 = .ok (.goto 33, 3) := by decide +kernel
theorem dX6_readClause_100 : decode cX6_readClause 100 = .ok (.aload_n 0, 1) := by decide +kernel
theorem dX6_readClause_101 : decode cX6_readClause 101 = .ok (.iload_n 1, 1) := by decide +kernel
theorem dX6_readClause_102 : decode cX6_readClause 102 = .ok (.invokevirtual 66, 3) := by decide +kernel
theorem dX6_readClause_105 : decode cX6_readClause 105 = .ok (.goto 25, 3) := by decide +kernel
theorem dX6_readClause_108 : decode cX6_readClause 108 = .ok (.aload_n 0, 1) := by decide +kernel
theorem dX6_readClause_109 : decode cX6_readClause 109 = .ok (.iload_n 1, 1) := by decide +kernel
theorem dX6_readClause_110 : decode cX6_readClause 110 = .ok (.invokevirtual 69, 3) := by decide +kernel
theorem dX6_readClause_113 : decode cX6_readClause 113 = .ok (.goto 17, 3) := by decide +kernel
theorem dX6_readClause_116 : decode cX6_readClause 116 = .ok (.aload_n 0, 1) := by decide +kernel
theorem dX6_readClause_117 : decode cX6_readClause 117 = .ok (.iload_n 1, 1) := by decide +kernel
theorem dX6_readClause_118 : decode cX6_readClause 118 = .ok (.invokevirtual 72, 3) := by decide +kernel
theorem dX6_readClause_121 : decode cX6_readClause 121 = .ok (.goto 9, 3) := by decide +kernel
theorem dX6_readClause_124 : decode cX6_readClause 124 = .ok (.aload_n 0, 1) := by decide +kernel
theorem dX6_readClause_125 : decode cX6_readClause 125 = .ok (.iconst 1, 1) := by decide +kernel
theorem dX6_readClause_126 : decode cX6_readClause 126 = .ok (.iload_n 1, 1) := by decide +kernel
theorem dX6_readClause_127 : decode cX6_readClause 127 = .ok (.invokevirtual 58, 3) := by decide +kernel
theorem dX6_readClause_130 : decode cX6_readClause 130 = .ok (.return_, 1) := by decide +kernel
set_option maxRecDepth 20000 in
theorem ggX6_readWalls_X5_stands : GoodIn wsX6_readWalls wsX5_stands := goodIn_r _ [9, 10, 58, 59, 60, 61, 62, 63, 64, 65, 66, 67] (by decide +kernel) (by decide +kernel)
set_option maxRecDepth 20000 in
theorem gX6_readWalls_X5_stands : GoodIn wsX6_readWalls (wsV RX6 54 RX5 yX5_stands wsX5_stands) := goodIn_app (goodIn_of _ (by decide +kernel)) ggX6_readWalls_X5_stands
set_option maxRecDepth 20000 in
theorem ggX6_readWalls_X6_fail : GoodIn wsX6_readWalls wsX6_fail := goodIn_r _ [15, 2, 16, 52, 53, 54, 55, 56, 57] (by decide +kernel) (by decide +kernel)
set_option maxRecDepth 20000 in
theorem gX6_readWalls_X6_fail : GoodIn wsX6_readWalls (wsV RX6 58 RX6 yX6_fail wsX6_fail) := goodIn_app (goodIn_of _ (by decide +kernel)) ggX6_readWalls_X6_fail
set_option maxRecDepth 20000 in
theorem ggX6_readWalls_X6_readNumber : GoodIn wsX6_readWalls wsX6_readNumber := goodIn_r _ [20, 4, 3, 21, 22, 23, 24, 25, 26, 27, 14, 28, 29, 30, 31, 32, 33, 34, 35, 36, 37, 38, 11, 12, 13, 15, 2, 16, 52, 53, 54, 55, 56, 57, 68, 69] (by decide +kernel) (by decide +kernel)
set_option maxRecDepth 20000 in
theorem gX6_readWalls_X6_readNumber : GoodIn wsX6_readWalls (wsV RX6 75 RX6 yX6_readNumber wsX6_readNumber) := goodIn_app (goodIn_of _ (by decide +kernel)) ggX6_readWalls_X6_readNumber
set_option maxRecDepth 20000 in
theorem ggX6_readWalls_X5_addWall : GoodIn wsX6_readWalls wsX5_addWall := goodIn_r _ [42, 43, 10, 44, 45, 46, 47, 58, 59, 60, 61, 62, 63, 64, 65, 66, 67] (by decide +kernel) (by decide +kernel)
set_option maxRecDepth 20000 in
theorem gX6_readWalls_X5_addWall : GoodIn wsX6_readWalls (wsV RX6 78 RX5 yX5_addWall wsX5_addWall) := goodIn_app (goodIn_of _ (by decide +kernel)) ggX6_readWalls_X5_addWall
set_option maxRecDepth 20000 in
theorem ggX6_readWalls_X6_skipBlanks : GoodIn wsX6_readWalls wsX6_skipBlanks := goodIn_r _ [28, 3, 4, 29, 30, 31, 32, 33, 34, 35, 52, 53, 54, 55, 56, 57, 68, 69] (by decide +kernel) (by decide +kernel)
set_option maxRecDepth 20000 in
theorem gX6_readWalls_X6_skipBlanks : GoodIn wsX6_readWalls (wsV RX6 39 RX6 yX6_skipBlanks wsX6_skipBlanks) := goodIn_app (goodIn_of _ (by decide +kernel)) ggX6_readWalls_X6_skipBlanks
set_option maxRecDepth 20000 in
theorem ggX6_readWalls_X9_letterAt : GoodIn wsX6_readWalls wsX9_letterAt := goodIn_r _ [33, 34, 35, 68, 69] (by decide +kernel) (by decide +kernel)
set_option maxRecDepth 20000 in
theorem gX6_readWalls_X9_letterAt : GoodIn wsX6_readWalls (wsV RX6 50 RX9 yX9_letterAt wsX9_letterAt) := goodIn_app (goodIn_of _ (by decide +kernel)) ggX6_readWalls_X9_letterAt
set_option maxRecDepth 20000 in
theorem ggX6_readWalls_X6_readEnd : GoodIn wsX6_readWalls wsX6_readEnd := goodIn_r _ [51, 3, 4, 25, 26, 27, 14, 28, 29, 30, 31, 32, 33, 34, 35, 11, 12, 13, 15, 2, 16, 52, 53, 54, 55, 56, 57, 68, 69] (by decide +kernel) (by decide +kernel)
set_option maxRecDepth 20000 in
theorem gX6_readWalls_X6_readEnd : GoodIn wsX6_readWalls (wsV RX6 81 RX6 yX6_readEnd wsX6_readEnd) := goodIn_app (goodIn_of _ (by decide +kernel)) ggX6_readWalls_X6_readEnd
theorem dX6_readWalls_0 : decode cX6_readWalls 0 = .ok (.aload_n 0, 1) := by decide +kernel
theorem dX6_readWalls_1 : decode cX6_readWalls 1 = .ok (.getfield 12, 3) := by decide +kernel
theorem dX6_readWalls_4 : decode cX6_readWalls 4 = .ok (.invokevirtual 54, 3) := by decide +kernel
theorem dX6_readWalls_7 : decode cX6_readWalls 7 = .ok (.ifCond .eq 10, 3) := by decide +kernel
theorem dX6_readWalls_10 : decode cX6_readWalls 10 = .ok (.aload_n 0, 1) := by decide +kernel
theorem dX6_readWalls_11 : decode cX6_readWalls 11 = .ok (.iconst 3, 1) := by decide +kernel
theorem dX6_readWalls_12 : decode cX6_readWalls 12 = .ok (.iload_n 1, 1) := by decide +kernel
theorem dX6_readWalls_13 : decode cX6_readWalls 13 = .ok (.invokevirtual 58, 3) := by decide +kernel
theorem dX6_readWalls_16 : decode cX6_readWalls 16 = .ok (.return_, 1) := by decide +kernel
theorem dX6_readWalls_17 : decode cX6_readWalls 17 = .ok (.aload_n 0, 1) := by decide +kernel
theorem dX6_readWalls_18 : decode cX6_readWalls 18 = .ok (.getfield 12, 3) := by decide +kernel
theorem dX6_readWalls_21 : decode cX6_readWalls 21 = .ok (.aload_n 0, 1) := by decide +kernel
theorem dX6_readWalls_22 : decode cX6_readWalls 22 = .ok (.bipush 20, 2) := by decide +kernel
theorem dX6_readWalls_24 : decode cX6_readWalls 24 = .ok (.invokevirtual 75, 3) := by decide +kernel
theorem dX6_readWalls_27 : decode cX6_readWalls 27 = .ok (.invokevirtual 78, 3) := by decide +kernel
theorem dX6_readWalls_30 : decode cX6_readWalls 30 = .ok (.aload_n 0, 1) := by decide +kernel
theorem dX6_readWalls_31 : decode cX6_readWalls 31 = .ok (.invokevirtual 39, 3) := by decide +kernel
theorem dX6_readWalls_34 : decode cX6_readWalls 34 = .ok (.iconst 1, 1) := by decide +kernel
theorem dX6_readWalls_35 : decode cX6_readWalls 35 = .ok (.istore_n 2, 1) := by decide +kernel
theorem dX6_readWalls_36 : decode cX6_readWalls 36 = .ok (.iload_n 2, 1) := by decide +kernel
theorem dX6_readWalls_37 : decode cX6_readWalls 37 = .ok (.bipush 8, 2) := by decide +kernel
theorem dX6_readWalls_39 : decode cX6_readWalls 39 = .ok (.if_icmp .ge 59, 3) := by decide +kernel
theorem dX6_readWalls_42 : decode cX6_readWalls 42 = .ok (.aload_n 0, 1) := by decide +kernel
theorem dX6_readWalls_43 : decode cX6_readWalls 43 = .ok (.getfield 29, 3) := by decide +kernel
theorem dX6_readWalls_46 : decode cX6_readWalls 46 = .ok (.ifCond .ne 52, 3) := by decide +kernel
theorem dX6_readWalls_49 : decode cX6_readWalls 49 = .ok (.aload_n 0, 1) := by decide +kernel
theorem dX6_readWalls_50 : decode cX6_readWalls 50 = .ok (.getfield 22, 3) := by decide +kernel
theorem dX6_readWalls_53 : decode cX6_readWalls 53 = .ok (.aload_n 0, 1) := by decide +kernel
theorem dX6_readWalls_54 : decode cX6_readWalls 54 = .ok (.getfield 32, 3) := by decide +kernel
theorem dX6_readWalls_57 : decode cX6_readWalls 57 = .ok (.invokevirtual 50, 3) := by decide +kernel
theorem dX6_readWalls_60 : decode cX6_readWalls 60 = .ok (.bipush 44, 2) := by decide +kernel
theorem dX6_readWalls_62 : decode cX6_readWalls 62 = .ok (.if_icmp .ne 36, 3) := by decide +kernel
theorem dX6_readWalls_65 : decode cX6_readWalls 65 = .ok (.aload_n 0, 1) := by decide +kernel
theorem dX6_readWalls_66 : decode cX6_readWalls 66 = .ok (.dup, 1) := by decide +kernel
theorem dX6_readWalls_67 : decode cX6_readWalls 67 = .ok (.getfield 32, 3) := by decide +kernel
theorem dX6_readWalls_70 : decode cX6_readWalls 70 = .ok (.iconst 1, 1) := by decide +kernel
theorem dX6_readWalls_71 : decode cX6_readWalls 71 = .ok (.iadd, 1) := by decide +kernel
theorem dX6_readWalls_72 : decode cX6_readWalls 72 = .ok (.putfield 32, 3) := by decide +kernel
theorem dX6_readWalls_75 : decode cX6_readWalls 75 = .ok (.aload_n 0, 1) := by decide +kernel
theorem dX6_readWalls_76 : decode cX6_readWalls 76 = .ok (.getfield 12, 3) := by decide +kernel
theorem dX6_readWalls_79 : decode cX6_readWalls 79 = .ok (.aload_n 0, 1) := by decide +kernel
theorem dX6_readWalls_80 : decode cX6_readWalls 80 = .ok (.bipush 20, 2) := by decide +kernel
theorem dX6_readWalls_82 : decode cX6_readWalls 82 = .ok (.invokevirtual 75, 3) := by decide +kernel
theorem dX6_readWalls_85 : decode cX6_readWalls 85 = .ok (.invokevirtual 78, 3) := by decide +kernel
theorem dX6_readWalls_88 : decode cX6_readWalls 88 = .ok (.aload_n 0, 1) := by decide +kernel
theorem dX6_readWalls_89 : decode cX6_readWalls 89 = .ok (.invokevirtual 39, 3) := by decide +kernel
theorem dX6_readWalls_92 : decode cX6_readWalls 92 = .ok (.iinc 2 1, 3) := by decide +kernel
theorem dX6_readWalls_95 : decode cX6_readWalls 95 = .ok (.goto (-59), 3) := by decide +kernel
theorem dX6_readWalls_98 : decode cX6_readWalls 98 = .ok (.aload_n 0, 1) := by decide +kernel
theorem dX6_readWalls_99 : decode cX6_readWalls 99 = .ok (.invokevirtual 81, 3) := by decide +kernel
theorem dX6_readWalls_102 : decode cX6_readWalls 102 = .ok (.return_, 1) := by decide +kernel
set_option maxRecDepth 20000 in
theorem ggX6_readWind_X6_fail : GoodIn wsX6_readWind wsX6_fail := goodIn_r _ [8, 9, 10, 39, 40, 41, 42, 43, 44] (by decide +kernel) (by decide +kernel)
set_option maxRecDepth 20000 in
theorem gX6_readWind_X6_fail : GoodIn wsX6_readWind (wsV RX6 58 RX6 yX6_fail wsX6_fail) := goodIn_app (goodIn_of _ (by decide +kernel)) ggX6_readWind_X6_fail
set_option maxRecDepth 20000 in
theorem ggX6_readWind_X6_readNumber : GoodIn wsX6_readWind wsX6_readNumber := goodIn_r _ [14, 15, 16, 17, 18, 19, 20, 21, 22, 23, 7, 24, 25, 26, 27, 28, 29, 30, 31, 32, 33, 34, 4, 5, 6, 8, 9, 10, 39, 40, 41, 42, 43, 44, 55, 56] (by decide +kernel) (by decide +kernel)
set_option maxRecDepth 20000 in
theorem gX6_readWind_X6_readNumber : GoodIn wsX6_readWind (wsV RX6 75 RX6 yX6_readNumber wsX6_readNumber) := goodIn_app (goodIn_of _ (by decide +kernel)) ggX6_readWind_X6_readNumber
set_option maxRecDepth 20000 in
theorem ggX6_readWind_X6_readEnd : GoodIn wsX6_readWind wsX6_readEnd := goodIn_r _ [38, 16, 15, 21, 22, 23, 7, 24, 25, 26, 27, 28, 29, 30, 31, 4, 5, 6, 8, 9, 10, 39, 40, 41, 42, 43, 44, 55, 56] (by decide +kernel) (by decide +kernel)
set_option maxRecDepth 20000 in
theorem gX6_readWind_X6_readEnd : GoodIn wsX6_readWind (wsV RX6 81 RX6 yX6_readEnd wsX6_readEnd) := goodIn_app (goodIn_of _ (by decide +kernel)) ggX6_readWind_X6_readEnd
theorem dX6_readWind_0 : decode cX6_readWind 0 = .ok (.aload_n 0, 1) := by decide +kernel
theorem dX6_readWind_1 : decode cX6_readWind 1 = .ok (.getfield 35, 3) := by decide +kernel
theorem dX6_readWind_4 : decode cX6_readWind 4 = .ok (.ifCond .eq 10, 3) := by decide +kernel
theorem dX6_readWind_7 : decode cX6_readWind 7 = .ok (.aload_n 0, 1) := by decide +kernel
theorem dX6_readWind_8 : decode cX6_readWind 8 = .ok (.iconst 3, 1) := by decide +kernel
theorem dX6_readWind_9 : decode cX6_readWind 9 = .ok (.iload_n 1, 1) := by decide +kernel
theorem dX6_readWind_10 : decode cX6_readWind 10 = .ok (.invokevirtual 58, 3) := by decide +kernel
theorem dX6_readWind_13 : decode cX6_readWind 13 = .ok (.return_, 1) := by decide +kernel
theorem dX6_readWind_14 : decode cX6_readWind 14 = .ok (.aload_n 0, 1) := by decide +kernel
theorem dX6_readWind_15 : decode cX6_readWind 15 = .ok (.iconst 1, 1) := by decide +kernel
theorem dX6_readWind_16 : decode cX6_readWind 16 = .ok (.putfield 35, 3) := by decide +kernel
theorem dX6_readWind_19 : decode cX6_readWind 19 = .ok (.aload_n 0, 1) := by decide +kernel
theorem dX6_readWind_20 : decode cX6_readWind 20 = .ok (.getfield 12, 3) := by decide +kernel
theorem dX6_readWind_23 : decode cX6_readWind 23 = .ok (.aload_n 0, 1) := by decide +kernel
theorem dX6_readWind_24 : decode cX6_readWind 24 = .ok (.bipush 18, 2) := by decide +kernel
theorem dX6_readWind_26 : decode cX6_readWind 26 = .ok (.invokevirtual 75, 3) := by decide +kernel
theorem dX6_readWind_29 : decode cX6_readWind 29 = .ok (.bipush 9, 2) := by decide +kernel
theorem dX6_readWind_31 : decode cX6_readWind 31 = .ok (.isub, 1) := by decide +kernel
theorem dX6_readWind_32 : decode cX6_readWind 32 = .ok (.putfield 84, 3) := by decide +kernel
theorem dX6_readWind_35 : decode cX6_readWind 35 = .ok (.aload_n 0, 1) := by decide +kernel
theorem dX6_readWind_36 : decode cX6_readWind 36 = .ok (.invokevirtual 81, 3) := by decide +kernel
theorem dX6_readWind_39 : decode cX6_readWind 39 = .ok (.return_, 1) := by decide +kernel
set_option maxRecDepth 20000 in
theorem ggX6_readSound_X6_fail : GoodIn wsX6_readSound wsX6_fail := goodIn_r _ [7, 8, 9, 50, 51, 52, 53, 54, 55] (by decide +kernel) (by decide +kernel)
set_option maxRecDepth 20000 in
theorem gX6_readSound_X6_fail : GoodIn wsX6_readSound (wsV RX6 58 RX6 yX6_fail wsX6_fail) := goodIn_app (goodIn_of _ (by decide +kernel)) ggX6_readSound_X6_fail
set_option maxRecDepth 20000 in
theorem ggX6_readSound_X6_readNumber : GoodIn wsX6_readSound wsX6_readNumber := goodIn_r _ [13, 14, 15, 16, 17, 18, 19, 20, 21, 22, 6, 23, 24, 25, 26, 27, 28, 29, 30, 31, 32, 33, 3, 4, 5, 7, 8, 9, 50, 51, 52, 53, 54, 55, 66, 67] (by decide +kernel) (by decide +kernel)
set_option maxRecDepth 20000 in
theorem gX6_readSound_X6_readNumber : GoodIn wsX6_readSound (wsV RX6 75 RX6 yX6_readNumber wsX6_readNumber) := goodIn_app (goodIn_of _ (by decide +kernel)) ggX6_readSound_X6_readNumber
set_option maxRecDepth 20000 in
theorem ggX6_readSound_X5_addSound : GoodIn wsX6_readSound wsX5_addSound := goodIn_r _ [38, 39, 40, 41, 42, 43, 44, 45, 56, 57, 58, 59, 60, 61, 62, 63, 64, 65] (by decide +kernel) (by decide +kernel)
set_option maxRecDepth 20000 in
theorem gX6_readSound_X5_addSound : GoodIn wsX6_readSound (wsV RX6 90 RX5 yX5_addSound wsX5_addSound) := goodIn_app (goodIn_of _ (by decide +kernel)) ggX6_readSound_X5_addSound
set_option maxRecDepth 20000 in
theorem ggX6_readSound_X6_readEnd : GoodIn wsX6_readSound wsX6_readEnd := goodIn_r _ [49, 15, 14, 20, 21, 22, 6, 23, 24, 25, 26, 27, 28, 29, 30, 3, 4, 5, 7, 8, 9, 50, 51, 52, 53, 54, 55, 66, 67] (by decide +kernel) (by decide +kernel)
set_option maxRecDepth 20000 in
theorem gX6_readSound_X6_readEnd : GoodIn wsX6_readSound (wsV RX6 81 RX6 yX6_readEnd wsX6_readEnd) := goodIn_app (goodIn_of _ (by decide +kernel)) ggX6_readSound_X6_readEnd
theorem dX6_readSound_0 : decode cX6_readSound 0 = .ok (.aload_n 0, 1) := by decide +kernel
theorem dX6_readSound_1 : decode cX6_readSound 1 = .ok (.getfield 12, 3) := by decide +kernel
theorem dX6_readSound_4 : decode cX6_readSound 4 = .ok (.getfield 87, 3) := by decide +kernel
theorem dX6_readSound_7 : decode cX6_readSound 7 = .ok (.bipush 6, 2) := by decide +kernel
theorem dX6_readSound_9 : decode cX6_readSound 9 = .ok (.if_icmp .lt 10, 3) := by decide +kernel
theorem dX6_readSound_12 : decode cX6_readSound 12 = .ok (.aload_n 0, 1) := by decide +kernel
theorem dX6_readSound_13 : decode cX6_readSound 13 = .ok (.iconst 3, 1) := by decide +kernel
theorem dX6_readSound_14 : decode cX6_readSound 14 = .ok (.iload_n 1, 1) := by decide +kernel
theorem dX6_readSound_15 : decode cX6_readSound 15 = .ok (.invokevirtual 58, 3) := by decide +kernel
theorem dX6_readSound_18 : decode cX6_readSound 18 = .ok (.return_, 1) := by decide +kernel
theorem dX6_readSound_19 : decode cX6_readSound 19 = .ok (.aload_n 0, 1) := by decide +kernel
theorem dX6_readSound_20 : decode cX6_readSound 20 = .ok (.bipush 60, 2) := by decide +kernel
theorem dX6_readSound_22 : decode cX6_readSound 22 = .ok (.invokevirtual 75, 3) := by decide +kernel
theorem dX6_readSound_25 : decode cX6_readSound 25 = .ok (.istore_n 2, 1) := by decide +kernel
theorem dX6_readSound_26 : decode cX6_readSound 26 = .ok (.aload_n 0, 1) := by decide +kernel
theorem dX6_readSound_27 : decode cX6_readSound 27 = .ok (.bipush 9, 2) := by decide +kernel
theorem dX6_readSound_29 : decode cX6_readSound 29 = .ok (.invokevirtual 75, 3) := by decide +kernel
theorem dX6_readSound_32 : decode cX6_readSound 32 = .ok (.istore_n 3, 1) := by decide +kernel
theorem dX6_readSound_33 : decode cX6_readSound 33 = .ok (.aload_n 0, 1) := by decide +kernel
theorem dX6_readSound_34 : decode cX6_readSound 34 = .ok (.getfield 12, 3) := by decide +kernel
theorem dX6_readSound_37 : decode cX6_readSound 37 = .ok (.iload_n 2, 1) := by decide +kernel
theorem dX6_readSound_38 : decode cX6_readSound 38 = .ok (.iload_n 3, 1) := by decide +kernel
theorem dX6_readSound_39 : decode cX6_readSound 39 = .ok (.invokevirtual 90, 3) := by decide +kernel
theorem dX6_readSound_42 : decode cX6_readSound 42 = .ok (.aload_n 0, 1) := by decide +kernel
theorem dX6_readSound_43 : decode cX6_readSound 43 = .ok (.invokevirtual 81, 3) := by decide +kernel
theorem dX6_readSound_46 : decode cX6_readSound 46 = .ok (.return_, 1) := by decide +kernel
set_option maxRecDepth 20000 in
theorem ggX6_readWitness_X6_fail : GoodIn wsX6_readWitness wsX6_fail := goodIn_r _ [8, 9, 10, 52, 53, 54, 55, 56, 57] (by decide +kernel) (by decide +kernel)
set_option maxRecDepth 20000 in
theorem gX6_readWitness_X6_fail : GoodIn wsX6_readWitness (wsV RX6 58 RX6 yX6_fail wsX6_fail) := goodIn_app (goodIn_of _ (by decide +kernel)) ggX6_readWitness_X6_fail
set_option maxRecDepth 20000 in
theorem ggX6_readWitness_X6_readNumber : GoodIn wsX6_readWitness wsX6_readNumber := goodIn_r _ [14, 15, 16, 17, 18, 19, 20, 21, 22, 23, 7, 24, 25, 26, 27, 28, 29, 30, 31, 32, 33, 34, 4, 5, 6, 8, 9, 10, 52, 53, 54, 55, 56, 57, 68, 69] (by decide +kernel) (by decide +kernel)
set_option maxRecDepth 20000 in
theorem gX6_readWitness_X6_readNumber : GoodIn wsX6_readWitness (wsV RX6 75 RX6 yX6_readNumber wsX6_readNumber) := goodIn_app (goodIn_of _ (by decide +kernel)) ggX6_readWitness_X6_readNumber
set_option maxRecDepth 20000 in
theorem ggX6_readWitness_X5_addWitness : GoodIn wsX6_readWitness wsX5_addWitness := goodIn_r _ [39, 40, 41, 42, 43, 44, 45, 46, 47, 58, 59, 60, 61, 62, 63, 64, 65, 66, 67] (by decide +kernel) (by decide +kernel)
set_option maxRecDepth 20000 in
theorem gX6_readWitness_X5_addWitness : GoodIn wsX6_readWitness (wsV RX6 99 RX5 yX5_addWitness wsX5_addWitness) := goodIn_app (goodIn_of _ (by decide +kernel)) ggX6_readWitness_X5_addWitness
set_option maxRecDepth 20000 in
theorem ggX6_readWitness_X6_readEnd : GoodIn wsX6_readWitness wsX6_readEnd := goodIn_r _ [51, 16, 15, 21, 22, 23, 7, 24, 25, 26, 27, 28, 29, 30, 31, 4, 5, 6, 8, 9, 10, 52, 53, 54, 55, 56, 57, 68, 69] (by decide +kernel) (by decide +kernel)
set_option maxRecDepth 20000 in
theorem gX6_readWitness_X6_readEnd : GoodIn wsX6_readWitness (wsV RX6 81 RX6 yX6_readEnd wsX6_readEnd) := goodIn_app (goodIn_of _ (by decide +kernel)) ggX6_readWitness_X6_readEnd
theorem dX6_readWitness_0 : decode cX6_readWitness 0 = .ok (.aload_n 0, 1) := by decide +kernel
theorem dX6_readWitness_1 : decode cX6_readWitness 1 = .ok (.getfield 12, 3) := by decide +kernel
theorem dX6_readWitness_4 : decode cX6_readWitness 4 = .ok (.getfield 93, 3) := by decide +kernel
theorem dX6_readWitness_7 : decode cX6_readWitness 7 = .ok (.bipush 7, 2) := by decide +kernel
theorem dX6_readWitness_9 : decode cX6_readWitness 9 = .ok (.if_icmp .lt 10, 3) := by decide +kernel
theorem dX6_readWitness_12 : decode cX6_readWitness 12 = .ok (.aload_n 0, 1) := by decide +kernel
theorem dX6_readWitness_13 : decode cX6_readWitness 13 = .ok (.iconst 3, 1) := by decide +kernel
theorem dX6_readWitness_14 : decode cX6_readWitness 14 = .ok (.iload_n 1, 1) := by decide +kernel
theorem dX6_readWitness_15 : decode cX6_readWitness 15 = .ok (.invokevirtual 58, 3) := by decide +kernel
theorem dX6_readWitness_18 : decode cX6_readWitness 18 = .ok (.return_, 1) := by decide +kernel
theorem dX6_readWitness_19 : decode cX6_readWitness 19 = .ok (.aload_n 0, 1) := by decide +kernel
theorem dX6_readWitness_20 : decode cX6_readWitness 20 = .ok (.aload_n 0, 1) := by decide +kernel
theorem dX6_readWitness_21 : decode cX6_readWitness 21 = .ok (.getfield 12, 3) := by decide +kernel
theorem dX6_readWitness_24 : decode cX6_readWitness 24 = .ok (.getfield 96, 3) := by decide +kernel
theorem dX6_readWitness_27 : decode cX6_readWitness 27 = .ok (.invokevirtual 75, 3) := by decide +kernel
theorem dX6_readWitness_30 : decode cX6_readWitness 30 = .ok (.istore_n 2, 1) := by decide +kernel
theorem dX6_readWitness_31 : decode cX6_readWitness 31 = .ok (.aload_n 0, 1) := by decide +kernel
theorem dX6_readWitness_32 : decode cX6_readWitness 32 = .ok (.bipush 30, 2) := by decide +kernel
theorem dX6_readWitness_34 : decode cX6_readWitness 34 = .ok (.invokevirtual 75, 3) := by decide +kernel
theorem dX6_readWitness_37 : decode cX6_readWitness 37 = .ok (.istore_n 3, 1) := by decide +kernel
theorem dX6_readWitness_38 : decode cX6_readWitness 38 = .ok (.aload_n 0, 1) := by decide +kernel
theorem dX6_readWitness_39 : decode cX6_readWitness 39 = .ok (.iconst 2, 1) := by decide +kernel
theorem dX6_readWitness_40 : decode cX6_readWitness 40 = .ok (.invokevirtual 75, 3) := by decide +kernel
theorem dX6_readWitness_43 : decode cX6_readWitness 43 = .ok (.istore 4, 2) := by decide +kernel
theorem dX6_readWitness_45 : decode cX6_readWitness 45 = .ok (.aload_n 0, 1) := by decide +kernel
theorem dX6_readWitness_46 : decode cX6_readWitness 46 = .ok (.getfield 12, 3) := by decide +kernel
theorem dX6_readWitness_49 : decode cX6_readWitness 49 = .ok (.iload_n 2, 1) := by decide +kernel
theorem dX6_readWitness_50 : decode cX6_readWitness 50 = .ok (.iload_n 3, 1) := by decide +kernel
theorem dX6_readWitness_51 : decode cX6_readWitness 51 = .ok (.iload 4, 2) := by decide +kernel
theorem dX6_readWitness_53 : decode cX6_readWitness 53 = .ok (.invokevirtual 99, 3) := by decide +kernel
theorem dX6_readWitness_56 : decode cX6_readWitness 56 = .ok (.aload_n 0, 1) := by decide +kernel
theorem dX6_readWitness_57 : decode cX6_readWitness 57 = .ok (.invokevirtual 81, 3) := by decide +kernel
theorem dX6_readWitness_60 : decode cX6_readWitness 60 = .ok (.return_, 1) := by decide +kernel
set_option maxRecDepth 20000 in
theorem ggX6_readNumber_X6_skipBlanks : GoodIn wsX6_readNumber wsX6_skipBlanks := goodIn_r _ [11, 2, 1, 12, 13, 14, 15, 16, 17, 18, 28, 29, 30, 31, 32, 33, 34, 35] (by decide +kernel) (by decide +kernel)
set_option maxRecDepth 20000 in
theorem gX6_readNumber_X6_skipBlanks : GoodIn wsX6_readNumber (wsV RX6 39 RX6 yX6_skipBlanks wsX6_skipBlanks) := goodIn_app (goodIn_of _ (by decide +kernel)) ggX6_readNumber_X6_skipBlanks
set_option maxRecDepth 20000 in
theorem ggX6_readNumber_X9_letterAt : GoodIn wsX6_readNumber wsX9_letterAt := goodIn_r _ [16, 17, 18, 34, 35] (by decide +kernel) (by decide +kernel)
set_option maxRecDepth 20000 in
theorem gX6_readNumber_X9_letterAt : GoodIn wsX6_readNumber (wsV RX6 50 RX9 yX9_letterAt wsX9_letterAt) := goodIn_app (goodIn_of _ (by decide +kernel)) ggX6_readNumber_X9_letterAt
set_option maxRecDepth 20000 in
theorem ggX6_readNumber_X6_isFigure : GoodIn wsX6_readNumber wsX6_isFigure := goodIn_r _ [21] (by decide +kernel) (by decide +kernel)
set_option maxRecDepth 20000 in
theorem gX6_readNumber_X6_isFigure : GoodIn wsX6_readNumber (va_wsS RX6 103 yX6_isFigure wsX6_isFigure) := goodIn_app (goodIn_of _ (by decide +kernel)) ggX6_readNumber_X6_isFigure
set_option maxRecDepth 20000 in
theorem ggX6_readNumber_X6_fail : GoodIn wsX6_readNumber wsX6_fail := goodIn_r _ [25, 26, 27, 28, 29, 30, 31, 32, 33] (by decide +kernel) (by decide +kernel)
set_option maxRecDepth 20000 in
theorem gX6_readNumber_X6_fail : GoodIn wsX6_readNumber (wsV RX6 58 RX6 yX6_fail wsX6_fail) := goodIn_app (goodIn_of _ (by decide +kernel)) ggX6_readNumber_X6_fail
theorem dX6_readNumber_0 : decode cX6_readNumber 0 = .ok (.aload_n 0, 1) := by decide +kernel
theorem dX6_readNumber_1 : decode cX6_readNumber 1 = .ok (.invokevirtual 39, 3) := by decide +kernel
theorem dX6_readNumber_4 : decode cX6_readNumber 4 = .ok (.aload_n 0, 1) := by decide +kernel
theorem dX6_readNumber_5 : decode cX6_readNumber 5 = .ok (.getfield 32, 3) := by decide +kernel
theorem dX6_readNumber_8 : decode cX6_readNumber 8 = .ok (.istore_n 2, 1) := by decide +kernel
theorem dX6_readNumber_9 : decode cX6_readNumber 9 = .ok (.iconst 0, 1) := by decide +kernel
theorem dX6_readNumber_10 : decode cX6_readNumber 10 = .ok (.istore_n 3, 1) := by decide +kernel
theorem dX6_readNumber_11 : decode cX6_readNumber 11 = .ok (.iconst 0, 1) := by decide +kernel
theorem dX6_readNumber_12 : decode cX6_readNumber 12 = .ok (.istore 4, 2) := by decide +kernel
theorem dX6_readNumber_14 : decode cX6_readNumber 14 = .ok (.iload 4, 2) := by decide +kernel
theorem dX6_readNumber_16 : decode cX6_readNumber 16 = .ok (.sipush 240, 3) := by decide +kernel
theorem dX6_readNumber_19 : decode cX6_readNumber 19 = .ok (.if_icmp .ge 62, 3) := by decide +kernel
theorem dX6_readNumber_22 : decode cX6_readNumber 22 = .ok (.aload_n 0, 1) := by decide +kernel
theorem dX6_readNumber_23 : decode cX6_readNumber 23 = .ok (.getfield 22, 3) := by decide +kernel
theorem dX6_readNumber_26 : decode cX6_readNumber 26 = .ok (.aload_n 0, 1) := by decide +kernel
theorem dX6_readNumber_27 : decode cX6_readNumber 27 = .ok (.getfield 32, 3) := by decide +kernel
theorem dX6_readNumber_30 : decode cX6_readNumber 30 = .ok (.invokevirtual 50, 3) := by decide +kernel
theorem dX6_readNumber_33 : decode cX6_readNumber 33 = .ok (.invokestatic 103, 3) := by decide +kernel
theorem dX6_readNumber_36 : decode cX6_readNumber 36 = .ok (.ifCond .eq 45, 3) := by decide +kernel
theorem dX6_readNumber_39 : decode cX6_readNumber 39 = .ok (.iload_n 3, 1) := by decide +kernel
theorem dX6_readNumber_40 : decode cX6_readNumber 40 = .ok (.bipush 10, 2) := by decide +kernel
theorem dX6_readNumber_42 : decode cX6_readNumber 42 = .ok (.imul, 1) := by decide +kernel
theorem dX6_readNumber_43 : decode cX6_readNumber 43 = .ok (.aload_n 0, 1) := by decide +kernel
theorem dX6_readNumber_44 : decode cX6_readNumber 44 = .ok (.getfield 22, 3) := by decide +kernel
theorem dX6_readNumber_47 : decode cX6_readNumber 47 = .ok (.aload_n 0, 1) := by decide +kernel
theorem dX6_readNumber_48 : decode cX6_readNumber 48 = .ok (.getfield 32, 3) := by decide +kernel
theorem dX6_readNumber_51 : decode cX6_readNumber 51 = .ok (.invokevirtual 50, 3) := by decide +kernel
theorem dX6_readNumber_54 : decode cX6_readNumber 54 = .ok (.iadd, 1) := by decide +kernel
theorem dX6_readNumber_55 : decode cX6_readNumber 55 = .ok (.bipush 48, 2) := by decide +kernel
theorem dX6_readNumber_57 : decode cX6_readNumber 57 = .ok (.isub, 1) := by decide +kernel
theorem dX6_readNumber_58 : decode cX6_readNumber 58 = .ok (.sipush 1000, 3) := by decide +kernel
theorem dX6_readNumber_61 : decode cX6_readNumber 61 = .ok (.invokestatic 107, 3) := by decide +kernel
theorem dX6_readNumber_64 : decode cX6_readNumber 64 = .ok (.istore_n 3, 1) := by decide +kernel
theorem dX6_readNumber_65 : decode cX6_readNumber 65 = .ok (.aload_n 0, 1) := by decide +kernel
theorem dX6_readNumber_66 : decode cX6_readNumber 66 = .ok (.dup, 1) := by decide +kernel
theorem dX6_readNumber_67 : decode cX6_readNumber 67 = .ok (.getfield 32, 3) := by decide +kernel
theorem dX6_readNumber_70 : decode cX6_readNumber 70 = .ok (.iconst 1, 1) := by decide +kernel
theorem dX6_readNumber_71 : decode cX6_readNumber 71 = .ok (.iadd, 1) := by decide +kernel
theorem dX6_readNumber_72 : decode cX6_readNumber 72 = .ok (.putfield 32, 3) := by decide +kernel
theorem dX6_readNumber_75 : decode cX6_readNumber 75 = .ok (.iinc 4 1, 3) := by decide +kernel
theorem dX6_readNumber_78 : decode cX6_readNumber 78 = .ok (.goto (-64), 3) := by decide +kernel
theorem dX6_readNumber_81 : decode cX6_readNumber 81 = .ok (.aload_n 0, 1) := by decide +kernel
theorem dX6_readNumber_82 : decode cX6_readNumber 82 = .ok (.getfield 32, 3) := by decide +kernel
theorem dX6_readNumber_85 : decode cX6_readNumber 85 = .ok (.iload_n 2, 1) := by decide +kernel
theorem dX6_readNumber_86 : decode cX6_readNumber 86 = .ok (.if_icmp .ne 12, 3) := by decide +kernel
theorem dX6_readNumber_89 : decode cX6_readNumber 89 = .ok (.aload_n 0, 1) := by decide +kernel
theorem dX6_readNumber_90 : decode cX6_readNumber 90 = .ok (.iconst 1, 1) := by decide +kernel
theorem dX6_readNumber_91 : decode cX6_readNumber 91 = .ok (.iload_n 2, 1) := by decide +kernel
theorem dX6_readNumber_92 : decode cX6_readNumber 92 = .ok (.invokevirtual 58, 3) := by decide +kernel
theorem dX6_readNumber_95 : decode cX6_readNumber 95 = .ok (.goto 24, 3) := by decide +kernel
theorem dX6_readNumber_98 : decode cX6_readNumber 98 = .ok (.aload_n 0, 1) := by decide +kernel
theorem dX6_readNumber_99 : decode cX6_readNumber 99 = .ok (.getfield 32, 3) := by decide +kernel
theorem dX6_readNumber_102 : decode cX6_readNumber 102 = .ok (.iload_n 2, 1) := by decide +kernel
theorem dX6_readNumber_103 : decode cX6_readNumber 103 = .ok (.isub, 1) := by decide +kernel
theorem dX6_readNumber_104 : decode cX6_readNumber 104 = .ok (.iconst 3, 1) := by decide +kernel
theorem dX6_readNumber_105 : decode cX6_readNumber 105 = .ok (.if_icmp .gt 8, 3) := by decide +kernel
theorem dX6_readNumber_108 : decode cX6_readNumber 108 = .ok (.iload_n 3, 1) := by decide +kernel
theorem dX6_readNumber_109 : decode cX6_readNumber 109 = .ok (.iload_n 1, 1) := by decide +kernel
theorem dX6_readNumber_110 : decode cX6_readNumber 110 = .ok (.if_icmp .le 9, 3) := by decide +kernel
theorem dX6_readNumber_113 : decode cX6_readNumber 113 = .ok (.aload_n 0, 1) := by decide +kernel
theorem dX6_readNumber_114 : decode cX6_readNumber 114 = .ok (.iconst 2, 1) := by decide +kernel
theorem dX6_readNumber_115 : decode cX6_readNumber 115 = .ok (.iload_n 2, 1) := by decide +kernel
theorem dX6_readNumber_116 : decode cX6_readNumber 116 = .ok (.invokevirtual 58, 3) := by decide +kernel
theorem dX6_readNumber_119 : decode cX6_readNumber 119 = .ok (.iload_n 3, 1) := by decide +kernel
theorem dX6_readNumber_120 : decode cX6_readNumber 120 = .ok (.ireturn, 1) := by decide +kernel
set_option maxRecDepth 20000 in
theorem ggX6_readEnd_X6_skipBlanks : GoodIn wsX6_readEnd wsX6_skipBlanks := goodIn_r _ [7, 1, 2, 8, 9, 10, 11, 12, 13, 14, 21, 22, 23, 24, 25, 26, 27, 28] (by decide +kernel) (by decide +kernel)
set_option maxRecDepth 20000 in
theorem gX6_readEnd_X6_skipBlanks : GoodIn wsX6_readEnd (wsV RX6 39 RX6 yX6_skipBlanks wsX6_skipBlanks) := goodIn_app (goodIn_of _ (by decide +kernel)) ggX6_readEnd_X6_skipBlanks
set_option maxRecDepth 20000 in
theorem ggX6_readEnd_X9_letterAt : GoodIn wsX6_readEnd wsX9_letterAt := goodIn_r _ [12, 13, 14, 27, 28] (by decide +kernel) (by decide +kernel)
set_option maxRecDepth 20000 in
theorem gX6_readEnd_X9_letterAt : GoodIn wsX6_readEnd (wsV RX6 50 RX9 yX9_letterAt wsX9_letterAt) := goodIn_app (goodIn_of _ (by decide +kernel)) ggX6_readEnd_X9_letterAt
set_option maxRecDepth 20000 in
theorem ggX6_readEnd_X6_fail : GoodIn wsX6_readEnd wsX6_fail := goodIn_r _ [18, 19, 20, 21, 22, 23, 24, 25, 26] (by decide +kernel) (by decide +kernel)
set_option maxRecDepth 20000 in
theorem gX6_readEnd_X6_fail : GoodIn wsX6_readEnd (wsV RX6 58 RX6 yX6_fail wsX6_fail) := goodIn_app (goodIn_of _ (by decide +kernel)) ggX6_readEnd_X6_fail
theorem dX6_readEnd_0 : decode cX6_readEnd 0 = .ok (.aload_n 0, 1) := by decide +kernel
theorem dX6_readEnd_1 : decode cX6_readEnd 1 = .ok (.invokevirtual 39, 3) := by decide +kernel
theorem dX6_readEnd_4 : decode cX6_readEnd 4 = .ok (.aload_n 0, 1) := by decide +kernel
theorem dX6_readEnd_5 : decode cX6_readEnd 5 = .ok (.getfield 22, 3) := by decide +kernel
theorem dX6_readEnd_8 : decode cX6_readEnd 8 = .ok (.aload_n 0, 1) := by decide +kernel
theorem dX6_readEnd_9 : decode cX6_readEnd 9 = .ok (.getfield 32, 3) := by decide +kernel
theorem dX6_readEnd_12 : decode cX6_readEnd 12 = .ok (.invokevirtual 50, 3) := by decide +kernel
theorem dX6_readEnd_15 : decode cX6_readEnd 15 = .ok (.bipush 59, 2) := by decide +kernel
theorem dX6_readEnd_17 : decode cX6_readEnd 17 = .ok (.if_icmp .eq 12, 3) := by decide +kernel
theorem dX6_readEnd_20 : decode cX6_readEnd 20 = .ok (.aload_n 0, 1) := by decide +kernel
theorem dX6_readEnd_21 : decode cX6_readEnd 21 = .ok (.iconst 1, 1) := by decide +kernel
theorem dX6_readEnd_22 : decode cX6_readEnd 22 = .ok (.aload_n 0, 1) := by decide +kernel
theorem dX6_readEnd_23 : decode cX6_readEnd 23 = .ok (.getfield 32, 3) := by decide +kernel
theorem dX6_readEnd_26 : decode cX6_readEnd 26 = .ok (.invokevirtual 58, 3) := by decide +kernel
theorem dX6_readEnd_29 : decode cX6_readEnd 29 = .ok (.aload_n 0, 1) := by decide +kernel
theorem dX6_readEnd_30 : decode cX6_readEnd 30 = .ok (.dup, 1) := by decide +kernel
theorem dX6_readEnd_31 : decode cX6_readEnd 31 = .ok (.getfield 32, 3) := by decide +kernel
theorem dX6_readEnd_34 : decode cX6_readEnd 34 = .ok (.iconst 1, 1) := by decide +kernel
theorem dX6_readEnd_35 : decode cX6_readEnd 35 = .ok (.iadd, 1) := by decide +kernel
theorem dX6_readEnd_36 : decode cX6_readEnd 36 = .ok (.putfield 32, 3) := by decide +kernel
theorem dX6_readEnd_39 : decode cX6_readEnd 39 = .ok (.return_, 1) := by decide +kernel
set_option maxRecDepth 20000 in
theorem ggX6_skipBlanks_X9_letterAt : GoodIn wsX6_skipBlanks wsX9_letterAt := goodIn_r _ [7, 8, 9, 16, 17] (by decide +kernel) (by decide +kernel)
set_option maxRecDepth 20000 in
theorem gX6_skipBlanks_X9_letterAt : GoodIn wsX6_skipBlanks (wsV RX6 50 RX9 yX9_letterAt wsX9_letterAt) := goodIn_app (goodIn_of _ (by decide +kernel)) ggX6_skipBlanks_X9_letterAt
theorem dX6_skipBlanks_0 : decode cX6_skipBlanks 0 = .ok (.iconst 0, 1) := by decide +kernel
theorem dX6_skipBlanks_1 : decode cX6_skipBlanks 1 = .ok (.istore_n 1, 1) := by decide +kernel
theorem dX6_skipBlanks_2 : decode cX6_skipBlanks 2 = .ok (.iload_n 1, 1) := by decide +kernel
theorem dX6_skipBlanks_3 : decode cX6_skipBlanks 3 = .ok (.sipush 240, 3) := by decide +kernel
theorem dX6_skipBlanks_6 : decode cX6_skipBlanks 6 = .ok (.if_icmp .ge 35, 3) := by decide +kernel
theorem dX6_skipBlanks_9 : decode cX6_skipBlanks 9 = .ok (.aload_n 0, 1) := by decide +kernel
theorem dX6_skipBlanks_10 : decode cX6_skipBlanks 10 = .ok (.getfield 22, 3) := by decide +kernel
theorem dX6_skipBlanks_13 : decode cX6_skipBlanks 13 = .ok (.aload_n 0, 1) := by decide +kernel
theorem dX6_skipBlanks_14 : decode cX6_skipBlanks 14 = .ok (.getfield 32, 3) := by decide +kernel
theorem dX6_skipBlanks_17 : decode cX6_skipBlanks 17 = .ok (.invokevirtual 50, 3) := by decide +kernel
theorem dX6_skipBlanks_20 : decode cX6_skipBlanks 20 = .ok (.bipush 32, 2) := by decide +kernel
theorem dX6_skipBlanks_22 : decode cX6_skipBlanks 22 = .ok (.if_icmp .ne 19, 3) := by decide +kernel
theorem dX6_skipBlanks_25 : decode cX6_skipBlanks 25 = .ok (.aload_n 0, 1) := by decide +kernel
theorem dX6_skipBlanks_26 : decode cX6_skipBlanks 26 = .ok (.dup, 1) := by decide +kernel
theorem dX6_skipBlanks_27 : decode cX6_skipBlanks 27 = .ok (.getfield 32, 3) := by decide +kernel
theorem dX6_skipBlanks_30 : decode cX6_skipBlanks 30 = .ok (.iconst 1, 1) := by decide +kernel
theorem dX6_skipBlanks_31 : decode cX6_skipBlanks 31 = .ok (.iadd, 1) := by decide +kernel
theorem dX6_skipBlanks_32 : decode cX6_skipBlanks 32 = .ok (.putfield 32, 3) := by decide +kernel
theorem dX6_skipBlanks_35 : decode cX6_skipBlanks 35 = .ok (.iinc 1 1, 3) := by decide +kernel
theorem dX6_skipBlanks_38 : decode cX6_skipBlanks 38 = .ok (.goto (-36), 3) := by decide +kernel
theorem dX6_skipBlanks_41 : decode cX6_skipBlanks 41 = .ok (.return_, 1) := by decide +kernel
theorem dX6_isFigure_0 : decode cX6_isFigure 0 = .ok (.iload_n 0, 1) := by decide +kernel
theorem dX6_isFigure_1 : decode cX6_isFigure 1 = .ok (.bipush 48, 2) := by decide +kernel
theorem dX6_isFigure_3 : decode cX6_isFigure 3 = .ok (.if_icmp .lt 13, 3) := by decide +kernel
theorem dX6_isFigure_6 : decode cX6_isFigure 6 = .ok (.iload_n 0, 1) := by decide +kernel
theorem dX6_isFigure_7 : decode cX6_isFigure 7 = .ok (.bipush 57, 2) := by decide +kernel
theorem dX6_isFigure_9 : decode cX6_isFigure 9 = .ok (.if_icmp .gt 7, 3) := by decide +kernel
theorem dX6_isFigure_12 : decode cX6_isFigure 12 = .ok (.iconst 1, 1) := by decide +kernel
theorem dX6_isFigure_13 : decode cX6_isFigure 13 = .ok (.goto 4, 3) := by decide +kernel
theorem dX6_isFigure_16 : decode cX6_isFigure 16 = .ok (.iconst 0, 1) := by decide +kernel
theorem dX6_isFigure_17 : decode cX6_isFigure 17 = .ok (.ireturn, 1) := by decide +kernel
theorem dX6_fail_0 : decode cX6_fail 0 = .ok (.aload_n 0, 1) := by decide +kernel
theorem dX6_fail_1 : decode cX6_fail 1 = .ok (.getfield 29, 3) := by decide +kernel
theorem dX6_fail_4 : decode cX6_fail 4 = .ok (.ifCond .ne 13, 3) := by decide +kernel
theorem dX6_fail_7 : decode cX6_fail 7 = .ok (.aload_n 0, 1) := by decide +kernel
theorem dX6_fail_8 : decode cX6_fail 8 = .ok (.iload_n 1, 1) := by decide +kernel
theorem dX6_fail_9 : decode cX6_fail 9 = .ok (.putfield 29, 3) := by decide +kernel
theorem dX6_fail_12 : decode cX6_fail 12 = .ok (.aload_n 0, 1) := by decide +kernel
theorem dX6_fail_13 : decode cX6_fail 13 = .ok (.iload_n 2, 1) := by decide +kernel
theorem dX6_fail_14 : decode cX6_fail 14 = .ok (.putfield 18, 3) := by decide +kernel
theorem dX6_fail_17 : decode cX6_fail 17 = .ok (.return_, 1) := by decide +kernel
theorem dX7_get_0 : decode cX7_get 0 = .ok (.iload_n 1, 1) := by decide +kernel
theorem dX7_get_1 : decode cX7_get 1 = .ok (.ifCond .lt 15, 3) := by decide +kernel
theorem dX7_get_4 : decode cX7_get 4 = .ok (.iload_n 1, 1) := by decide +kernel
theorem dX7_get_5 : decode cX7_get 5 = .ok (.aload_n 0, 1) := by decide +kernel
theorem dX7_get_6 : decode cX7_get 6 = .ok (.arraylength, 1) := by decide +kernel
theorem dX7_get_7 : decode cX7_get 7 = .ok (.if_icmp .ge 9, 3) := by decide +kernel
theorem dX7_get_10 : decode cX7_get 10 = .ok (.aload_n 0, 1) := by decide +kernel
theorem dX7_get_11 : decode cX7_get 11 = .ok (.iload_n 1, 1) := by decide +kernel
theorem dX7_get_12 : decode cX7_get 12 = .ok (.iaload, 1) := by decide +kernel
theorem dX7_get_13 : decode cX7_get 13 = .ok (.goto 4, 3) := by decide +kernel
theorem dX7_get_16 : decode cX7_get 16 = .ok (.iconst 0, 1) := by decide +kernel
theorem dX7_get_17 : decode cX7_get 17 = .ok (.ireturn, 1) := by decide +kernel
theorem dX7_put_0 : decode cX7_put 0 = .ok (.iload_n 1, 1) := by decide +kernel
theorem dX7_put_1 : decode cX7_put 1 = .ok (.ifCond .lt 13, 3) := by decide +kernel
theorem dX7_put_4 : decode cX7_put 4 = .ok (.iload_n 1, 1) := by decide +kernel
theorem dX7_put_5 : decode cX7_put 5 = .ok (.aload_n 0, 1) := by decide +kernel
theorem dX7_put_6 : decode cX7_put 6 = .ok (.arraylength, 1) := by decide +kernel
theorem dX7_put_7 : decode cX7_put 7 = .ok (.if_icmp .ge 7, 3) := by decide +kernel
theorem dX7_put_10 : decode cX7_put 10 = .ok (.aload_n 0, 1) := by decide +kernel
theorem dX7_put_11 : decode cX7_put 11 = .ok (.iload_n 1, 1) := by decide +kernel
theorem dX7_put_12 : decode cX7_put 12 = .ok (.iload_n 2, 1) := by decide +kernel
theorem dX7_put_13 : decode cX7_put 13 = .ok (.iastore, 1) := by decide +kernel
theorem dX7_put_14 : decode cX7_put 14 = .ok (.return_, 1) := by decide +kernel
set_option maxRecDepth 20000 in
theorem ggX7_copy_X7_get : GoodIn wsX7_copy wsX7_get := goodIn_r _ [4] (by decide +kernel) (by decide +kernel)
set_option maxRecDepth 20000 in
theorem gX7_copy_X7_get : GoodIn wsX7_copy (va_wsS RX7 7 yX7_get wsX7_get) := goodIn_app (goodIn_of _ (by decide +kernel)) ggX7_copy_X7_get
set_option maxRecDepth 20000 in
theorem ggX7_copy_X7_put : GoodIn wsX7_copy wsX7_put := goodIn_r _ [7] (by decide +kernel) (by decide +kernel)
set_option maxRecDepth 20000 in
theorem gX7_copy_X7_put : GoodIn wsX7_copy (va_wsS RX7 13 yX7_put wsX7_put) := goodIn_app (goodIn_of _ (by decide +kernel)) ggX7_copy_X7_put
theorem dX7_copy_0 : decode cX7_copy 0 = .ok (.iconst 0, 1) := by decide +kernel
theorem dX7_copy_1 : decode cX7_copy 1 = .ok (.istore 5, 2) := by decide +kernel
theorem dX7_copy_3 : decode cX7_copy 3 = .ok (.iload 5, 2) := by decide +kernel
theorem dX7_copy_5 : decode cX7_copy 5 = .ok (.iload 4, 2) := by decide +kernel
theorem dX7_copy_7 : decode cX7_copy 7 = .ok (.if_icmp .ge 25, 3) := by decide +kernel
theorem dX7_copy_10 : decode cX7_copy 10 = .ok (.aload_n 2, 1) := by decide +kernel
theorem dX7_copy_11 : decode cX7_copy 11 = .ok (.iload_n 3, 1) := by decide +kernel
theorem dX7_copy_12 : decode cX7_copy 12 = .ok (.iload 5, 2) := by decide +kernel
theorem dX7_copy_14 : decode cX7_copy 14 = .ok (.iadd, 1) := by decide +kernel
theorem dX7_copy_15 : decode cX7_copy 15 = .ok (.aload_n 0, 1) := by decide +kernel
theorem dX7_copy_16 : decode cX7_copy 16 = .ok (.iload_n 1, 1) := by decide +kernel
theorem dX7_copy_17 : decode cX7_copy 17 = .ok (.iload 5, 2) := by decide +kernel
theorem dX7_copy_19 : decode cX7_copy 19 = .ok (.iadd, 1) := by decide +kernel
theorem dX7_copy_20 : decode cX7_copy 20 = .ok (.invokestatic 7, 3) := by decide +kernel
theorem dX7_copy_23 : decode cX7_copy 23 = .ok (.invokestatic 13, 3) := by decide +kernel
theorem dX7_copy_26 : decode cX7_copy 26 = .ok (.iinc 5 1, 3) := by decide +kernel
theorem dX7_copy_29 : decode cX7_copy 29 = .ok (.goto (-26), 3) := by decide +kernel
theorem dX7_copy_32 : decode cX7_copy 32 = .ok (.return_, 1) := by decide +kernel
set_option maxRecDepth 20000 in
theorem ggX8_init_X8_forgetMornings : GoodIn wsX8_init wsX8_forgetMornings := goodIn_r _ [10, 11, 12, 13, 9, 14, 5, 15, 16, 17, 18, 19] (by decide +kernel) (by decide +kernel)
set_option maxRecDepth 20000 in
theorem gX8_init_X8_forgetMornings : GoodIn wsX8_init (wsV RX8 15 RX8 yX8_forgetMornings wsX8_forgetMornings) := goodIn_app (goodIn_of _ (by decide +kernel)) ggX8_init_X8_forgetMornings
theorem dX8_init_0 : decode cX8_init 0 = .ok (.aload_n 0, 1) := by decide +kernel
theorem dX8_init_1 : decode cX8_init 1 = .ok (.invokespecial 5, 3) := by decide +kernel
theorem dX8_init_4 : decode cX8_init 4 = .ok (.aload_n 0, 1) := by decide +kernel
theorem dX8_init_5 : decode cX8_init 5 = .ok (.bipush 28, 2) := by decide +kernel
theorem dX8_init_7 : decode cX8_init 7 = .ok (.newarray .int, 2) := by decide +kernel
theorem dX8_init_9 : decode cX8_init 9 = .ok (.putfield 11, 3) := by decide +kernel
theorem dX8_init_12 : decode cX8_init 12 = .ok (.aload_n 0, 1) := by decide +kernel
theorem dX8_init_13 : decode cX8_init 13 = .ok (.invokevirtual 15, 3) := by decide +kernel
theorem dX8_init_16 : decode cX8_init 16 = .ok (.return_, 1) := by decide +kernel
set_option maxRecDepth 20000 in
theorem ggX8_get_X7_get : GoodIn wsX8_get wsX7_get := goodIn_r _ [5] (by decide +kernel) (by decide +kernel)
set_option maxRecDepth 20000 in
theorem gX8_get_X7_get : GoodIn wsX8_get (va_wsS RX8 18 yX7_get wsX7_get) := goodIn_app (goodIn_of _ (by decide +kernel)) ggX8_get_X7_get
theorem dX8_get_0 : decode cX8_get 0 = .ok (.aload_n 0, 1) := by decide +kernel
theorem dX8_get_1 : decode cX8_get 1 = .ok (.getfield 11, 3) := by decide +kernel
theorem dX8_get_4 : decode cX8_get 4 = .ok (.iload_n 1, 1) := by decide +kernel
theorem dX8_get_5 : decode cX8_get 5 = .ok (.invokestatic 18, 3) := by decide +kernel
theorem dX8_get_8 : decode cX8_get 8 = .ok (.ireturn, 1) := by decide +kernel
set_option maxRecDepth 20000 in
theorem ggX8_put_X7_put : GoodIn wsX8_put wsX7_put := goodIn_r _ [5] (by decide +kernel) (by decide +kernel)
set_option maxRecDepth 20000 in
theorem gX8_put_X7_put : GoodIn wsX8_put (va_wsS RX8 24 yX7_put wsX7_put) := goodIn_app (goodIn_of _ (by decide +kernel)) ggX8_put_X7_put
theorem dX8_put_0 : decode cX8_put 0 = .ok (.aload_n 0, 1) := by decide +kernel
theorem dX8_put_1 : decode cX8_put 1 = .ok (.getfield 11, 3) := by decide +kernel
theorem dX8_put_4 : decode cX8_put 4 = .ok (.iload_n 1, 1) := by decide +kernel
theorem dX8_put_5 : decode cX8_put 5 = .ok (.iload_n 2, 1) := by decide +kernel
theorem dX8_put_6 : decode cX8_put 6 = .ok (.invokestatic 24, 3) := by decide +kernel
theorem dX8_put_9 : decode cX8_put 9 = .ok (.return_, 1) := by decide +kernel
set_option maxRecDepth 20000 in
theorem ggX8_take_X7_copy : GoodIn wsX8_take wsX7_copy := goodIn_r _ [5, 6, 7, 4, 8, 9, 10, 11] (by decide +kernel) (by decide +kernel)
set_option maxRecDepth 20000 in
theorem gX8_take_X7_copy : GoodIn wsX8_take (va_wsS RX8 28 yX7_copy wsX7_copy) := goodIn_app (goodIn_of _ (by decide +kernel)) ggX8_take_X7_copy
theorem dX8_take_0 : decode cX8_take 0 = .ok (.aload_n 1, 1) := by decide +kernel
theorem dX8_take_1 : decode cX8_take 1 = .ok (.getfield 11, 3) := by decide +kernel
theorem dX8_take_4 : decode cX8_take 4 = .ok (.iconst 0, 1) := by decide +kernel
theorem dX8_take_5 : decode cX8_take 5 = .ok (.aload_n 0, 1) := by decide +kernel
theorem dX8_take_6 : decode cX8_take 6 = .ok (.getfield 11, 3) := by decide +kernel
theorem dX8_take_9 : decode cX8_take 9 = .ok (.iconst 0, 1) := by decide +kernel
theorem dX8_take_10 : decode cX8_take 10 = .ok (.bipush 28, 2) := by decide +kernel
theorem dX8_take_12 : decode cX8_take 12 = .ok (.invokestatic 28, 3) := by decide +kernel
theorem dX8_take_15 : decode cX8_take 15 = .ok (.return_, 1) := by decide +kernel
set_option maxRecDepth 20000 in
theorem ggX8_begin_X8_forgetMornings : GoodIn wsX8_begin wsX8_forgetMornings := goodIn_r _ [9, 10, 11, 12, 8, 13, 3, 14, 15, 16, 17, 35] (by decide +kernel) (by decide +kernel)
set_option maxRecDepth 20000 in
theorem gX8_begin_X8_forgetMornings : GoodIn wsX8_begin (wsV RX8 15 RX8 yX8_forgetMornings wsX8_forgetMornings) := goodIn_app (goodIn_of _ (by decide +kernel)) ggX8_begin_X8_forgetMornings
set_option maxRecDepth 20000 in
theorem ggX8_begin_X8_put : GoodIn wsX8_begin wsX8_put := goodIn_r _ [13, 3, 14, 15, 16, 17, 35] (by decide +kernel) (by decide +kernel)
set_option maxRecDepth 20000 in
theorem gX8_begin_X8_put : GoodIn wsX8_begin (wsV RX8 38 RX8 yX8_put wsX8_put) := goodIn_app (goodIn_of _ (by decide +kernel)) ggX8_begin_X8_put
set_option maxRecDepth 20000 in
theorem ggX8_begin_X7_copy : GoodIn wsX8_begin wsX7_copy := goodIn_r _ [20, 21, 22, 16, 23, 24, 15, 17] (by decide +kernel) (by decide +kernel)
set_option maxRecDepth 20000 in
theorem gX8_begin_X7_copy : GoodIn wsX8_begin (va_wsS RX8 28 yX7_copy wsX7_copy) := goodIn_app (goodIn_of _ (by decide +kernel)) ggX8_begin_X7_copy
theorem dX8_begin_0 : decode cX8_begin 0 = .ok (.aload_n 0, 1) := by decide +kernel
theorem dX8_begin_1 : decode cX8_begin 1 = .ok (.invokevirtual 15, 3) := by decide +kernel
theorem dX8_begin_4 : decode cX8_begin 4 = .ok (.aload_n 0, 1) := by decide +kernel
theorem dX8_begin_5 : decode cX8_begin 5 = .ok (.iconst 0, 1) := by decide +kernel
theorem dX8_begin_6 : decode cX8_begin 6 = .ok (.aload_n 1, 1) := by decide +kernel
theorem dX8_begin_7 : decode cX8_begin 7 = .ok (.getfield 32, 3) := by decide +kernel
theorem dX8_begin_10 : decode cX8_begin 10 = .ok (.invokevirtual 38, 3) := by decide +kernel
theorem dX8_begin_13 : decode cX8_begin 13 = .ok (.aload_n 1, 1) := by decide +kernel
theorem dX8_begin_14 : decode cX8_begin 14 = .ok (.getfield 41, 3) := by decide +kernel
theorem dX8_begin_17 : decode cX8_begin 17 = .ok (.iconst 0, 1) := by decide +kernel
theorem dX8_begin_18 : decode cX8_begin 18 = .ok (.aload_n 0, 1) := by decide +kernel
theorem dX8_begin_19 : decode cX8_begin 19 = .ok (.getfield 11, 3) := by decide +kernel
theorem dX8_begin_22 : decode cX8_begin 22 = .ok (.bipush 6, 2) := by decide +kernel
theorem dX8_begin_24 : decode cX8_begin 24 = .ok (.bipush 8, 2) := by decide +kernel
theorem dX8_begin_26 : decode cX8_begin 26 = .ok (.invokestatic 28, 3) := by decide +kernel
theorem dX8_begin_29 : decode cX8_begin 29 = .ok (.aload_n 1, 1) := by decide +kernel
theorem dX8_begin_30 : decode cX8_begin 30 = .ok (.getfield 44, 3) := by decide +kernel
theorem dX8_begin_33 : decode cX8_begin 33 = .ok (.iconst 0, 1) := by decide +kernel
theorem dX8_begin_34 : decode cX8_begin 34 = .ok (.aload_n 0, 1) := by decide +kernel
theorem dX8_begin_35 : decode cX8_begin 35 = .ok (.getfield 11, 3) := by decide +kernel
theorem dX8_begin_38 : decode cX8_begin 38 = .ok (.bipush 14, 2) := by decide +kernel
theorem dX8_begin_40 : decode cX8_begin 40 = .ok (.bipush 7, 2) := by decide +kernel
theorem dX8_begin_42 : decode cX8_begin 42 = .ok (.invokestatic 28, 3) := by decide +kernel
theorem dX8_begin_45 : decode cX8_begin 45 = .ok (.return_, 1) := by decide +kernel
set_option maxRecDepth 20000 in
theorem ggX8_forgetMornings_X8_put : GoodIn wsX8_forgetMornings wsX8_put := goodIn_r _ [5, 6, 7, 8, 9, 10, 11] (by decide +kernel) (by decide +kernel)
set_option maxRecDepth 20000 in
theorem gX8_forgetMornings_X8_put : GoodIn wsX8_forgetMornings (wsV RX8 38 RX8 yX8_put wsX8_put) := goodIn_app (goodIn_of _ (by decide +kernel)) ggX8_forgetMornings_X8_put
theorem dX8_forgetMornings_0 : decode cX8_forgetMornings 0 = .ok (.aload_n 0, 1) := by decide +kernel
theorem dX8_forgetMornings_1 : decode cX8_forgetMornings 1 = .ok (.iconst 1, 1) := by decide +kernel
theorem dX8_forgetMornings_2 : decode cX8_forgetMornings 2 = .ok (.iconst 0, 1) := by decide +kernel
theorem dX8_forgetMornings_3 : decode cX8_forgetMornings 3 = .ok (.invokevirtual 38, 3) := by decide +kernel
theorem dX8_forgetMornings_6 : decode cX8_forgetMornings 6 = .ok (.aload_n 0, 1) := by decide +kernel
theorem dX8_forgetMornings_7 : decode cX8_forgetMornings 7 = .ok (.iconst 2, 1) := by decide +kernel
theorem dX8_forgetMornings_8 : decode cX8_forgetMornings 8 = .ok (.iconst (-1), 1) := by decide +kernel
theorem dX8_forgetMornings_9 : decode cX8_forgetMornings 9 = .ok (.invokevirtual 38, 3) := by decide +kernel
theorem dX8_forgetMornings_12 : decode cX8_forgetMornings 12 = .ok (.aload_n 0, 1) := by decide +kernel
theorem dX8_forgetMornings_13 : decode cX8_forgetMornings 13 = .ok (.iconst 3, 1) := by decide +kernel
theorem dX8_forgetMornings_14 : decode cX8_forgetMornings 14 = .ok (.iconst (-1), 1) := by decide +kernel
theorem dX8_forgetMornings_15 : decode cX8_forgetMornings 15 = .ok (.invokevirtual 38, 3) := by decide +kernel
theorem dX8_forgetMornings_18 : decode cX8_forgetMornings 18 = .ok (.aload_n 0, 1) := by decide +kernel
theorem dX8_forgetMornings_19 : decode cX8_forgetMornings 19 = .ok (.iconst 4, 1) := by decide +kernel
theorem dX8_forgetMornings_20 : decode cX8_forgetMornings 20 = .ok (.iconst 0, 1) := by decide +kernel
theorem dX8_forgetMornings_21 : decode cX8_forgetMornings 21 = .ok (.invokevirtual 38, 3) := by decide +kernel
theorem dX8_forgetMornings_24 : decode cX8_forgetMornings 24 = .ok (.aload_n 0, 1) := by decide +kernel
theorem dX8_forgetMornings_25 : decode cX8_forgetMornings 25 = .ok (.iconst 5, 1) := by decide +kernel
theorem dX8_forgetMornings_26 : decode cX8_forgetMornings 26 = .ok (.iconst 0, 1) := by decide +kernel
theorem dX8_forgetMornings_27 : decode cX8_forgetMornings 27 = .ok (.invokevirtual 38, 3) := by decide +kernel
theorem dX8_forgetMornings_30 : decode cX8_forgetMornings 30 = .ok (.iconst 0, 1) := by decide +kernel
theorem dX8_forgetMornings_31 : decode cX8_forgetMornings 31 = .ok (.istore_n 1, 1) := by decide +kernel
theorem dX8_forgetMornings_32 : decode cX8_forgetMornings 32 = .ok (.iload_n 1, 1) := by decide +kernel
theorem dX8_forgetMornings_33 : decode cX8_forgetMornings 33 = .ok (.bipush 7, 2) := by decide +kernel
theorem dX8_forgetMornings_35 : decode cX8_forgetMornings 35 = .ok (.if_icmp .ge 18, 3) := by decide +kernel
theorem dX8_forgetMornings_38 : decode cX8_forgetMornings 38 = .ok (.aload_n 0, 1) := by decide +kernel
theorem dX8_forgetMornings_39 : decode cX8_forgetMornings 39 = .ok (.bipush 21, 2) := by decide +kernel
theorem dX8_forgetMornings_41 : decode cX8_forgetMornings 41 = .ok (.iload_n 1, 1) := by decide +kernel
theorem dX8_forgetMornings_42 : decode cX8_forgetMornings 42 = .ok (.iadd, 1) := by decide +kernel
theorem dX8_forgetMornings_43 : decode cX8_forgetMornings 43 = .ok (.iconst (-1), 1) := by decide +kernel
theorem dX8_forgetMornings_44 : decode cX8_forgetMornings 44 = .ok (.invokevirtual 38, 3) := by decide +kernel
theorem dX8_forgetMornings_47 : decode cX8_forgetMornings 47 = .ok (.iinc 1 1, 3) := by decide +kernel
theorem dX8_forgetMornings_50 : decode cX8_forgetMornings 50 = .ok (.goto (-18), 3) := by decide +kernel
theorem dX8_forgetMornings_53 : decode cX8_forgetMornings 53 = .ok (.return_, 1) := by decide +kernel
theorem dX9_init_0 : decode cX9_init 0 = .ok (.aload_n 0, 1) := by decide +kernel
theorem dX9_init_1 : decode cX9_init 1 = .ok (.invokespecial 3, 3) := by decide +kernel
theorem dX9_init_4 : decode cX9_init 4 = .ok (.aload_n 0, 1) := by decide +kernel
theorem dX9_init_5 : decode cX9_init 5 = .ok (.sipush 240, 3) := by decide +kernel
theorem dX9_init_8 : decode cX9_init 8 = .ok (.newarray .int, 2) := by decide +kernel
theorem dX9_init_10 : decode cX9_init 10 = .ok (.putfield 9, 3) := by decide +kernel
theorem dX9_init_13 : decode cX9_init 13 = .ok (.return_, 1) := by decide +kernel
set_option maxRecDepth 20000 in
theorem ggX9_add_X7_put : GoodIn wsX9_add wsX7_put := goodIn_r _ [6] (by decide +kernel) (by decide +kernel)
set_option maxRecDepth 20000 in
theorem gX9_add_X7_put : GoodIn wsX9_add (va_wsS RX9 19 yX7_put wsX7_put) := goodIn_app (goodIn_of _ (by decide +kernel)) ggX9_add_X7_put
theorem dX9_add_0 : decode cX9_add 0 = .ok (.aload_n 0, 1) := by decide +kernel
theorem dX9_add_1 : decode cX9_add 1 = .ok (.getfield 15, 3) := by decide +kernel
theorem dX9_add_4 : decode cX9_add 4 = .ok (.sipush 240, 3) := by decide +kernel
theorem dX9_add_7 : decode cX9_add 7 = .ok (.if_icmp .lt 5, 3) := by decide +kernel
theorem dX9_add_10 : decode cX9_add 10 = .ok (.iconst 0, 1) := by decide +kernel
theorem dX9_add_11 : decode cX9_add 11 = .ok (.ireturn, 1) := by decide +kernel
theorem dX9_add_12 : decode cX9_add 12 = .ok (.aload_n 0, 1) := by decide +kernel
theorem dX9_add_13 : decode cX9_add 13 = .ok (.getfield 9, 3) := by decide +kernel
theorem dX9_add_16 : decode cX9_add 16 = .ok (.aload_n 0, 1) := by decide +kernel
theorem dX9_add_17 : decode cX9_add 17 = .ok (.getfield 15, 3) := by decide +kernel
theorem dX9_add_20 : decode cX9_add 20 = .ok (.iload_n 1, 1) := by decide +kernel
theorem dX9_add_21 : decode cX9_add 21 = .ok (.invokestatic 19, 3) := by decide +kernel
theorem dX9_add_24 : decode cX9_add 24 = .ok (.aload_n 0, 1) := by decide +kernel
theorem dX9_add_25 : decode cX9_add 25 = .ok (.dup, 1) := by decide +kernel
theorem dX9_add_26 : decode cX9_add 26 = .ok (.getfield 15, 3) := by decide +kernel
theorem dX9_add_29 : decode cX9_add 29 = .ok (.iconst 1, 1) := by decide +kernel
theorem dX9_add_30 : decode cX9_add 30 = .ok (.iadd, 1) := by decide +kernel
theorem dX9_add_31 : decode cX9_add 31 = .ok (.putfield 15, 3) := by decide +kernel
theorem dX9_add_34 : decode cX9_add 34 = .ok (.iconst 1, 1) := by decide +kernel
theorem dX9_add_35 : decode cX9_add 35 = .ok (.ireturn, 1) := by decide +kernel
theorem dX9_letterAt_0 : decode cX9_letterAt 0 = .ok (.iload_n 1, 1) := by decide +kernel
theorem dX9_letterAt_1 : decode cX9_letterAt 1 = .ok (.ifCond .lt 29, 3) := by decide +kernel
theorem dX9_letterAt_4 : decode cX9_letterAt 4 = .ok (.iload_n 1, 1) := by decide +kernel
theorem dX9_letterAt_5 : decode cX9_letterAt 5 = .ok (.aload_n 0, 1) := by decide +kernel
theorem dX9_letterAt_6 : decode cX9_letterAt 6 = .ok (.getfield 15, 3) := by decide +kernel
theorem dX9_letterAt_9 : decode cX9_letterAt 9 = .ok (.if_icmp .ge 21, 3) := by decide +kernel
theorem dX9_letterAt_12 : decode cX9_letterAt 12 = .ok (.iload_n 1, 1) := by decide +kernel
theorem dX9_letterAt_13 : decode cX9_letterAt 13 = .ok (.aload_n 0, 1) := by decide +kernel
theorem dX9_letterAt_14 : decode cX9_letterAt 14 = .ok (.getfield 9, 3) := by decide +kernel
theorem dX9_letterAt_17 : decode cX9_letterAt 17 = .ok (.arraylength, 1) := by decide +kernel
theorem dX9_letterAt_18 : decode cX9_letterAt 18 = .ok (.if_icmp .ge 12, 3) := by decide +kernel
theorem dX9_letterAt_21 : decode cX9_letterAt 21 = .ok (.aload_n 0, 1) := by decide +kernel
theorem dX9_letterAt_22 : decode cX9_letterAt 22 = .ok (.getfield 9, 3) := by decide +kernel
theorem dX9_letterAt_25 : decode cX9_letterAt 25 = .ok (.iload_n 1, 1) := by decide +kernel
theorem dX9_letterAt_26 : decode cX9_letterAt 26 = .ok (.iaload, 1) := by decide +kernel
theorem dX9_letterAt_27 : decode cX9_letterAt 27 = .ok (.goto 4, 3) := by decide +kernel
theorem dX9_letterAt_30 : decode cX9_letterAt 30 = .ok (.iconst (-1), 1) := by decide +kernel
theorem dX9_letterAt_31 : decode cX9_letterAt 31 = .ok (.ireturn, 1) := by decide +kernel
theorem dX10_init_0 : decode cX10_init 0 = .ok (.aload_n 0, 1) := by decide +kernel
theorem dX10_init_1 : decode cX10_init 1 = .ok (.invokespecial 3, 3) := by decide +kernel
theorem dX10_init_4 : decode cX10_init 4 = .ok (.aload_n 0, 1) := by decide +kernel
theorem dX10_init_5 : decode cX10_init 5 = .ok (.bipush 9, 2) := by decide +kernel
theorem dX10_init_7 : decode cX10_init 7 = .ok (.newarray .int, 2) := by decide +kernel
theorem dX10_init_9 : decode cX10_init 9 = .ok (.putfield 9, 3) := by decide +kernel
theorem dX10_init_12 : decode cX10_init 12 = .ok (.aload_n 0, 1) := by decide +kernel
theorem dX10_init_13 : decode cX10_init 13 = .ok (.aload_n 1, 1) := by decide +kernel
theorem dX10_init_14 : decode cX10_init 14 = .ok (.putfield 15, 3) := by decide +kernel
theorem dX10_init_17 : decode cX10_init 17 = .ok (.aload_n 0, 1) := by decide +kernel
theorem dX10_init_18 : decode cX10_init 18 = .ok (.aload_n 2, 1) := by decide +kernel
theorem dX10_init_19 : decode cX10_init 19 = .ok (.putfield 19, 3) := by decide +kernel
theorem dX10_init_22 : decode cX10_init 22 = .ok (.aload_n 0, 1) := by decide +kernel
theorem dX10_init_23 : decode cX10_init 23 = .ok (.aload_n 3, 1) := by decide +kernel
theorem dX10_init_24 : decode cX10_init 24 = .ok (.putfield 23, 3) := by decide +kernel
theorem dX10_init_27 : decode cX10_init 27 = .ok (.return_, 1) := by decide +kernel
set_option maxRecDepth 20000 in
theorem ggX10_listeners_X5_places : GoodIn wsX10_listeners wsX5_places := goodIn_r _ [7, 8, 33, 34, 35, 36, 37, 38, 39, 40, 41, 42] (by decide +kernel) (by decide +kernel)
set_option maxRecDepth 20000 in
theorem gX10_listeners_X5_places : GoodIn wsX10_listeners (wsV RX10 27 RX5 yX5_places wsX5_places) := goodIn_app (goodIn_of _ (by decide +kernel)) ggX10_listeners_X5_places
set_option maxRecDepth 20000 in
theorem ggX10_listeners_X2_loudness : GoodIn wsX10_listeners wsX2_loudness := goodIn_r _ [13, 14, 15, 16, 17, 18, 19, 20, 21, 22, 23, 24, 25, 26, 27, 28, 43, 44, 33, 34, 35, 36, 37, 38, 39, 40, 41, 42, 45] (by decide +kernel) (by decide +kernel)
set_option maxRecDepth 20000 in
theorem gX10_listeners_X2_loudness : GoodIn wsX10_listeners (wsV RX10 33 RX2 yX2_loudness wsX2_loudness) := goodIn_app (goodIn_of _ (by decide +kernel)) ggX10_listeners_X2_loudness
theorem dX10_listeners_0 : decode cX10_listeners 0 = .ok (.iconst 0, 1) := by decide +kernel
theorem dX10_listeners_1 : decode cX10_listeners 1 = .ok (.istore 4, 2) := by decide +kernel
theorem dX10_listeners_3 : decode cX10_listeners 3 = .ok (.iconst 0, 1) := by decide +kernel
theorem dX10_listeners_4 : decode cX10_listeners 4 = .ok (.istore 5, 2) := by decide +kernel
theorem dX10_listeners_6 : decode cX10_listeners 6 = .ok (.iload 5, 2) := by decide +kernel
theorem dX10_listeners_8 : decode cX10_listeners 8 = .ok (.aload_n 0, 1) := by decide +kernel
theorem dX10_listeners_9 : decode cX10_listeners 9 = .ok (.getfield 15, 3) := by decide +kernel
theorem dX10_listeners_12 : decode cX10_listeners 12 = .ok (.invokevirtual 27, 3) := by decide +kernel
theorem dX10_listeners_15 : decode cX10_listeners 15 = .ok (.if_icmp .ge 33, 3) := by decide +kernel
theorem dX10_listeners_18 : decode cX10_listeners 18 = .ok (.aload_n 0, 1) := by decide +kernel
theorem dX10_listeners_19 : decode cX10_listeners 19 = .ok (.getfield 23, 3) := by decide +kernel
theorem dX10_listeners_22 : decode cX10_listeners 22 = .ok (.iload_n 1, 1) := by decide +kernel
theorem dX10_listeners_23 : decode cX10_listeners 23 = .ok (.iload_n 2, 1) := by decide +kernel
theorem dX10_listeners_24 : decode cX10_listeners 24 = .ok (.iload 5, 2) := by decide +kernel
theorem dX10_listeners_26 : decode cX10_listeners 26 = .ok (.invokevirtual 33, 3) := by decide +kernel
theorem dX10_listeners_29 : decode cX10_listeners 29 = .ok (.iload_n 3, 1) := by decide +kernel
theorem dX10_listeners_30 : decode cX10_listeners 30 = .ok (.if_icmp .lt 12, 3) := by decide +kernel
theorem dX10_listeners_33 : decode cX10_listeners 33 = .ok (.iload 4, 2) := by decide +kernel
theorem dX10_listeners_35 : decode cX10_listeners 35 = .ok (.iconst 1, 1) := by decide +kernel
theorem dX10_listeners_36 : decode cX10_listeners 36 = .ok (.iload 5, 2) := by decide +kernel
theorem dX10_listeners_38 : decode cX10_listeners 38 = .ok (.ishl, 1) := by decide +kernel
theorem dX10_listeners_39 : decode cX10_listeners 39 = .ok (.ior, 1) := by decide +kernel
theorem dX10_listeners_40 : decode cX10_listeners 40 = .ok (.istore 4, 2) := by decide +kernel
theorem dX10_listeners_42 : decode cX10_listeners 42 = .ok (.iinc 5 1, 3) := by decide +kernel
theorem dX10_listeners_45 : decode cX10_listeners 45 = .ok (.goto (-39), 3) := by decide +kernel
theorem dX10_listeners_48 : decode cX10_listeners 48 = .ok (.iload 4, 2) := by decide +kernel
theorem dX10_listeners_50 : decode cX10_listeners 50 = .ok (.ireturn, 1) := by decide +kernel
set_option maxRecDepth 20000 in
theorem ggX10_unheard_X5_places : GoodIn wsX10_unheard wsX5_places := goodIn_r _ [7, 8, 43, 44, 45, 46, 47, 48, 49, 50, 51, 52] (by decide +kernel) (by decide +kernel)
set_option maxRecDepth 20000 in
theorem gX10_unheard_X5_places : GoodIn wsX10_unheard (wsV RX10 27 RX5 yX5_places wsX5_places) := goodIn_app (goodIn_of _ (by decide +kernel)) ggX10_unheard_X5_places
set_option maxRecDepth 20000 in
theorem ggX10_unheard_X2_hearers : GoodIn wsX10_unheard wsX2_hearers := goodIn_r _ [13, 14, 15, 16, 17, 18, 12, 19, 20, 21, 22, 23, 24, 25, 26, 27, 28, 29, 30, 31, 32, 33, 34, 35, 36, 37, 38, 53, 54, 43, 44, 45, 46, 47, 48, 49, 50, 51, 52, 55] (by decide +kernel) (by decide +kernel)
set_option maxRecDepth 20000 in
theorem gX10_unheard_X2_hearers : GoodIn wsX10_unheard (wsV RX10 39 RX2 yX2_hearers wsX2_hearers) := goodIn_app (goodIn_of _ (by decide +kernel)) ggX10_unheard_X2_hearers
theorem dX10_unheard_0 : decode cX10_unheard 0 = .ok (.iconst 0, 1) := by decide +kernel
theorem dX10_unheard_1 : decode cX10_unheard 1 = .ok (.istore_n 2, 1) := by decide +kernel
theorem dX10_unheard_2 : decode cX10_unheard 2 = .ok (.iconst 0, 1) := by decide +kernel
theorem dX10_unheard_3 : decode cX10_unheard 3 = .ok (.istore_n 3, 1) := by decide +kernel
theorem dX10_unheard_4 : decode cX10_unheard 4 = .ok (.iload_n 3, 1) := by decide +kernel
theorem dX10_unheard_5 : decode cX10_unheard 5 = .ok (.aload_n 0, 1) := by decide +kernel
theorem dX10_unheard_6 : decode cX10_unheard 6 = .ok (.getfield 15, 3) := by decide +kernel
theorem dX10_unheard_9 : decode cX10_unheard 9 = .ok (.invokevirtual 27, 3) := by decide +kernel
theorem dX10_unheard_12 : decode cX10_unheard 12 = .ok (.if_icmp .ge 28, 3) := by decide +kernel
theorem dX10_unheard_15 : decode cX10_unheard 15 = .ok (.aload_n 0, 1) := by decide +kernel
theorem dX10_unheard_16 : decode cX10_unheard 16 = .ok (.getfield 23, 3) := by decide +kernel
theorem dX10_unheard_19 : decode cX10_unheard 19 = .ok (.iload_n 1, 1) := by decide +kernel
theorem dX10_unheard_20 : decode cX10_unheard 20 = .ok (.iload_n 3, 1) := by decide +kernel
theorem dX10_unheard_21 : decode cX10_unheard 21 = .ok (.iconst 0, 1) := by decide +kernel
theorem dX10_unheard_22 : decode cX10_unheard 22 = .ok (.invokevirtual 39, 3) := by decide +kernel
theorem dX10_unheard_25 : decode cX10_unheard 25 = .ok (.ifCond .ne 9, 3) := by decide +kernel
theorem dX10_unheard_28 : decode cX10_unheard 28 = .ok (.iload_n 2, 1) := by decide +kernel
theorem dX10_unheard_29 : decode cX10_unheard 29 = .ok (.iconst 1, 1) := by decide +kernel
theorem dX10_unheard_30 : decode cX10_unheard 30 = .ok (.iload_n 3, 1) := by decide +kernel
theorem dX10_unheard_31 : decode cX10_unheard 31 = .ok (.ishl, 1) := by decide +kernel
theorem dX10_unheard_32 : decode cX10_unheard 32 = .ok (.ior, 1) := by decide +kernel
theorem dX10_unheard_33 : decode cX10_unheard 33 = .ok (.istore_n 2, 1) := by decide +kernel
theorem dX10_unheard_34 : decode cX10_unheard 34 = .ok (.iinc 3 1, 3) := by decide +kernel
theorem dX10_unheard_37 : decode cX10_unheard 37 = .ok (.goto (-33), 3) := by decide +kernel
theorem dX10_unheard_40 : decode cX10_unheard 40 = .ok (.iload_n 2, 1) := by decide +kernel
theorem dX10_unheard_41 : decode cX10_unheard 41 = .ok (.ireturn, 1) := by decide +kernel
set_option maxRecDepth 20000 in
theorem ggX10_fewestEars_X5_places : GoodIn wsX10_fewestEars wsX5_places := goodIn_r _ [7, 8, 54, 55, 56, 57, 58, 59, 60, 61, 62, 63] (by decide +kernel) (by decide +kernel)
set_option maxRecDepth 20000 in
theorem gX10_fewestEars_X5_places : GoodIn wsX10_fewestEars (wsV RX10 27 RX5 yX5_places wsX5_places) := goodIn_app (goodIn_of _ (by decide +kernel)) ggX10_fewestEars_X5_places
set_option maxRecDepth 20000 in
theorem ggX10_fewestEars_X10_listeners : GoodIn wsX10_fewestEars wsX10_listeners := goodIn_r _ [13, 1, 14, 3, 4, 5, 6, 7, 8, 15, 16, 17, 18, 19, 20, 21, 22, 23, 24, 25, 26, 27, 28, 29, 30, 31, 32, 33, 34, 50, 51, 52, 53, 54, 55, 56, 57, 58, 59, 60, 61, 62, 63, 64, 65, 66] (by decide +kernel) (by decide +kernel)
set_option maxRecDepth 20000 in
theorem gX10_fewestEars_X10_listeners : GoodIn wsX10_fewestEars (wsV RX10 42 RX10 yX10_listeners wsX10_listeners) := goodIn_app (goodIn_of _ (by decide +kernel)) ggX10_fewestEars_X10_listeners
set_option maxRecDepth 20000 in
theorem ggX10_fewestEars_X7_put : GoodIn wsX10_fewestEars wsX7_put := goodIn_r _ [37] (by decide +kernel) (by decide +kernel)
set_option maxRecDepth 20000 in
theorem gX10_fewestEars_X7_put : GoodIn wsX10_fewestEars (va_wsS RX10 45 yX7_put wsX7_put) := goodIn_app (goodIn_of _ (by decide +kernel)) ggX10_fewestEars_X7_put
set_option maxRecDepth 20000 in
theorem ggX10_fewestEars_J6_bitCount_0f7a4 : GoodIn wsX10_fewestEars wsJ6_bitCount_0f7a4 := goodIn_r _ [41, 42, 43, 44] (by decide +kernel) (by decide +kernel)
set_option maxRecDepth 20000 in
theorem gX10_fewestEars_J6_bitCount_0f7a4 : GoodIn wsX10_fewestEars (va_wsS RX10 51 yJ6_bitCount_0f7a4 wsJ6_bitCount_0f7a4) := goodIn_app (goodIn_of _ (by decide +kernel)) ggX10_fewestEars_J6_bitCount_0f7a4
set_option maxRecDepth 20000 in
theorem ggX10_fewestEars_X10_coverAll : GoodIn wsX10_fewestEars wsX10_coverAll := goodIn_r _ [48, 1, 2, 3, 4, 5, 6, 7, 8, 49, 32, 33, 34, 50, 51, 52, 53, 54, 55, 56, 57, 58, 59, 60, 61, 62, 63] (by decide +kernel) (by decide +kernel)
set_option maxRecDepth 20000 in
theorem gX10_fewestEars_X10_coverAll : GoodIn wsX10_fewestEars (wsV RX10 57 RX10 yX10_coverAll wsX10_coverAll) := goodIn_app (goodIn_of _ (by decide +kernel)) ggX10_fewestEars_X10_coverAll
theorem dX10_fewestEars_0 : decode cX10_fewestEars 0 = .ok (.iconst 0, 1) := by decide +kernel
theorem dX10_fewestEars_1 : decode cX10_fewestEars 1 = .ok (.istore 4, 2) := by decide +kernel
theorem dX10_fewestEars_3 : decode cX10_fewestEars 3 = .ok (.iload 4, 2) := by decide +kernel
theorem dX10_fewestEars_5 : decode cX10_fewestEars 5 = .ok (.aload_n 0, 1) := by decide +kernel
theorem dX10_fewestEars_6 : decode cX10_fewestEars 6 = .ok (.getfield 15, 3) := by decide +kernel
theorem dX10_fewestEars_9 : decode cX10_fewestEars 9 = .ok (.invokevirtual 27, 3) := by decide +kernel
theorem dX10_fewestEars_12 : decode cX10_fewestEars 12 = .ok (.if_icmp .ge 26, 3) := by decide +kernel
theorem dX10_fewestEars_15 : decode cX10_fewestEars 15 = .ok (.aload_n 0, 1) := by decide +kernel
theorem dX10_fewestEars_16 : decode cX10_fewestEars 16 = .ok (.getfield 9, 3) := by decide +kernel
theorem dX10_fewestEars_19 : decode cX10_fewestEars 19 = .ok (.iload 4, 2) := by decide +kernel
theorem dX10_fewestEars_21 : decode cX10_fewestEars 21 = .ok (.aload_n 0, 1) := by decide +kernel
theorem dX10_fewestEars_22 : decode cX10_fewestEars 22 = .ok (.iload_n 1, 1) := by decide +kernel
theorem dX10_fewestEars_23 : decode cX10_fewestEars 23 = .ok (.iload 4, 2) := by decide +kernel
theorem dX10_fewestEars_25 : decode cX10_fewestEars 25 = .ok (.iload_n 3, 1) := by decide +kernel
theorem dX10_fewestEars_26 : decode cX10_fewestEars 26 = .ok (.invokevirtual 42, 3) := by decide +kernel
theorem dX10_fewestEars_29 : decode cX10_fewestEars 29 = .ok (.invokestatic 45, 3) := by decide +kernel
theorem dX10_fewestEars_32 : decode cX10_fewestEars 32 = .ok (.iinc 4 1, 3) := by decide +kernel
theorem dX10_fewestEars_35 : decode cX10_fewestEars 35 = .ok (.goto (-32), 3) := by decide +kernel
theorem dX10_fewestEars_38 : decode cX10_fewestEars 38 = .ok (.iconst (-1), 1) := by decide +kernel
theorem dX10_fewestEars_39 : decode cX10_fewestEars 39 = .ok (.istore 4, 2) := by decide +kernel
theorem dX10_fewestEars_41 : decode cX10_fewestEars 41 = .ok (.iconst 0, 1) := by decide +kernel
theorem dX10_fewestEars_42 : decode cX10_fewestEars 42 = .ok (.istore 5, 2) := by decide +kernel
theorem dX10_fewestEars_44 : decode cX10_fewestEars 44 = .ok (.iload 5, 2) := by decide +kernel
theorem dX10_fewestEars_46 : decode cX10_fewestEars 46 = .ok (.iconst 1, 1) := by decide +kernel
theorem dX10_fewestEars_47 : decode cX10_fewestEars 47 = .ok (.aload_n 0, 1) := by decide +kernel
theorem dX10_fewestEars_48 : decode cX10_fewestEars 48 = .ok (.getfield 15, 3) := by decide +kernel
theorem dX10_fewestEars_51 : decode cX10_fewestEars 51 = .ok (.invokevirtual 27, 3) := by decide +kernel
theorem dX10_fewestEars_54 : decode cX10_fewestEars 54 = .ok (.ishl, 1) := by decide +kernel
theorem dX10_fewestEars_55 : decode cX10_fewestEars 55 = .ok (.if_icmp .ge 54, 3) := by decide +kernel
theorem dX10_fewestEars_58 : decode cX10_fewestEars 58 = .ok (.iload 4, 2) := by decide +kernel
theorem dX10_fewestEars_60 : decode cX10_fewestEars 60 = .ok (.iconst (-1), 1) := by decide +kernel
theorem dX10_fewestEars_61 : decode cX10_fewestEars 61 = .ok (.if_icmp .eq 16, 3) := by decide +kernel
theorem dX10_fewestEars_64 : decode cX10_fewestEars 64 = .ok (.iload 5, 2) := by decide +kernel
theorem dX10_fewestEars_66 : decode cX10_fewestEars 66 = .ok (.invokestatic 51, 3) := by decide +kernel
theorem dX10_fewestEars_69 : decode cX10_fewestEars 69 = .ok (.iload 4, 2) := by decide +kernel
theorem dX10_fewestEars_71 : decode cX10_fewestEars 71 = .ok (.invokestatic 51, 3) := by decide +kernel
theorem dX10_fewestEars_74 : decode cX10_fewestEars 74 = .ok (.if_icmp .ge 7, 3) := by decide +kernel
theorem dX10_fewestEars_77 : decode cX10_fewestEars 77 = .ok (.iconst 1, 1) := by decide +kernel
theorem dX10_fewestEars_78 : decode cX10_fewestEars 78 = .ok (.goto 4, 3) := by decide +kernel
theorem dX10_fewestEars_81 : decode cX10_fewestEars 81 = .ok (.iconst 0, 1) := by decide +kernel
theorem dX10_fewestEars_82 : decode cX10_fewestEars 82 = .ok (.istore 6, 2) := by decide +kernel
theorem dX10_fewestEars_84 : decode cX10_fewestEars 84 = .ok (.iload 6, 2) := by decide +kernel
theorem dX10_fewestEars_86 : decode cX10_fewestEars 86 = .ok (.ifCond .eq 17, 3) := by decide +kernel
theorem dX10_fewestEars_89 : decode cX10_fewestEars 89 = .ok (.aload_n 0, 1) := by decide +kernel
theorem dX10_fewestEars_90 : decode cX10_fewestEars 90 = .ok (.iload 5, 2) := by decide +kernel
theorem dX10_fewestEars_92 : decode cX10_fewestEars 92 = .ok (.iload_n 2, 1) := by decide +kernel
theorem dX10_fewestEars_93 : decode cX10_fewestEars 93 = .ok (.invokevirtual 57, 3) := by decide +kernel
theorem dX10_fewestEars_96 : decode cX10_fewestEars 96 = .ok (.ifCond .eq 7, 3) := by decide +kernel
theorem dX10_fewestEars_99 : decode cX10_fewestEars 99 = .ok (.iload 5, 2) := by decide +kernel
theorem dX10_fewestEars_101 : decode cX10_fewestEars 101 = .ok (.istore 4, 2) := by decide +kernel
theorem dX10_fewestEars_103 : decode cX10_fewestEars 103 = .ok (.iinc 5 1, 3) := by decide +kernel
theorem dX10_fewestEars_106 : decode cX10_fewestEars 106 = .ok (.goto (-62), 3) := by decide +kernel
theorem dX10_fewestEars_109 : decode cX10_fewestEars 109 = .ok (.iload 4, 2) := by decide +kernel
theorem dX10_fewestEars_111 : decode cX10_fewestEars 111 = .ok (.ireturn, 1) := by decide +kernel
set_option maxRecDepth 20000 in
theorem ggX10_coverAll_X5_places : GoodIn wsX10_coverAll wsX5_places := goodIn_r _ [7, 8, 17, 18, 19, 20, 21, 22, 23, 24, 25, 26] (by decide +kernel) (by decide +kernel)
set_option maxRecDepth 20000 in
theorem gX10_coverAll_X5_places : GoodIn wsX10_coverAll (wsV RX10 27 RX5 yX5_places wsX5_places) := goodIn_app (goodIn_of _ (by decide +kernel)) ggX10_coverAll_X5_places
set_option maxRecDepth 20000 in
theorem ggX10_coverAll_X7_get : GoodIn wsX10_coverAll wsX7_get := goodIn_r _ [12] (by decide +kernel) (by decide +kernel)
set_option maxRecDepth 20000 in
theorem gX10_coverAll_X7_get : GoodIn wsX10_coverAll (va_wsS RX10 61 yX7_get wsX7_get) := goodIn_app (goodIn_of _ (by decide +kernel)) ggX10_coverAll_X7_get
theorem dX10_coverAll_0 : decode cX10_coverAll 0 = .ok (.iconst 0, 1) := by decide +kernel
theorem dX10_coverAll_1 : decode cX10_coverAll 1 = .ok (.istore_n 3, 1) := by decide +kernel
theorem dX10_coverAll_2 : decode cX10_coverAll 2 = .ok (.iload_n 3, 1) := by decide +kernel
theorem dX10_coverAll_3 : decode cX10_coverAll 3 = .ok (.aload_n 0, 1) := by decide +kernel
theorem dX10_coverAll_4 : decode cX10_coverAll 4 = .ok (.getfield 15, 3) := by decide +kernel
theorem dX10_coverAll_7 : decode cX10_coverAll 7 = .ok (.invokevirtual 27, 3) := by decide +kernel
theorem dX10_coverAll_10 : decode cX10_coverAll 10 = .ok (.if_icmp .ge 32, 3) := by decide +kernel
theorem dX10_coverAll_13 : decode cX10_coverAll 13 = .ok (.iload_n 2, 1) := by decide +kernel
theorem dX10_coverAll_14 : decode cX10_coverAll 14 = .ok (.iload_n 3, 1) := by decide +kernel
theorem dX10_coverAll_15 : decode cX10_coverAll 15 = .ok (.ishr, 1) := by decide +kernel
theorem dX10_coverAll_16 : decode cX10_coverAll 16 = .ok (.iconst 1, 1) := by decide +kernel
theorem dX10_coverAll_17 : decode cX10_coverAll 17 = .ok (.iand, 1) := by decide +kernel
theorem dX10_coverAll_18 : decode cX10_coverAll 18 = .ok (.ifCond .eq 18, 3) := by decide +kernel
theorem dX10_coverAll_21 : decode cX10_coverAll 21 = .ok (.iload_n 1, 1) := by decide +kernel
theorem dX10_coverAll_22 : decode cX10_coverAll 22 = .ok (.aload_n 0, 1) := by decide +kernel
theorem dX10_coverAll_23 : decode cX10_coverAll 23 = .ok (.getfield 9, 3) := by decide +kernel
theorem dX10_coverAll_26 : decode cX10_coverAll 26 = .ok (.iload_n 3, 1) := by decide +kernel
theorem dX10_coverAll_27 : decode cX10_coverAll 27 = .ok (.invokestatic 61, 3) := by decide +kernel
theorem dX10_coverAll_30 : decode cX10_coverAll 30 = .ok (.iand, 1) := by decide +kernel
theorem dX10_coverAll_31 : decode cX10_coverAll 31 = .ok (.ifCond .ne 5, 3) := by decide +kernel
theorem dX10_coverAll_34 : decode cX10_coverAll 34 = .ok (.iconst 0, 1) := by decide +kernel
theorem dX10_coverAll_35 : decode cX10_coverAll 35 = .ok (.ireturn, 1) := by decide +kernel
theorem dX10_coverAll_36 : decode cX10_coverAll 36 = .ok (.iinc 3 1, 3) := by decide +kernel
theorem dX10_coverAll_39 : decode cX10_coverAll 39 = .ok (.goto (-37), 3) := by decide +kernel
theorem dX10_coverAll_42 : decode cX10_coverAll 42 = .ok (.iconst 1, 1) := by decide +kernel
theorem dX10_coverAll_43 : decode cX10_coverAll 43 = .ok (.ireturn, 1) := by decide +kernel
set_option maxRecDepth 20000 in
theorem ggX10_alikePair_X10_areAlike : GoodIn wsX10_alikePair wsX10_areAlike := goodIn_r _ [7, 1, 8, 9, 10, 11, 12, 13, 14, 15, 16, 17, 18, 19, 20, 21, 22, 23, 24, 25, 26, 27, 28, 29, 30, 31, 32, 33, 34, 35, 36, 37, 38, 39, 40, 41, 42, 43, 44, 45, 46, 47, 48, 49, 50, 51, 52, 53, 54, 55, 56, 57, 58] (by decide +kernel) (by decide +kernel)
set_option maxRecDepth 20000 in
theorem gX10_alikePair_X10_areAlike : GoodIn wsX10_alikePair (wsV RX10 69 RX10 yX10_areAlike wsX10_areAlike) := goodIn_app (goodIn_of _ (by decide +kernel)) ggX10_alikePair_X10_areAlike
theorem dX10_alikePair_0 : decode cX10_alikePair 0 = .ok (.iconst 0, 1) := by decide +kernel
theorem dX10_alikePair_1 : decode cX10_alikePair 1 = .ok (.istore_n 3, 1) := by decide +kernel
theorem dX10_alikePair_2 : decode cX10_alikePair 2 = .ok (.iconst 0, 1) := by decide +kernel
theorem dX10_alikePair_3 : decode cX10_alikePair 3 = .ok (.istore 4, 2) := by decide +kernel
theorem dX10_alikePair_5 : decode cX10_alikePair 5 = .ok (.iload 4, 2) := by decide +kernel
theorem dX10_alikePair_7 : decode cX10_alikePair 7 = .ok (.aload_n 0, 1) := by decide +kernel
theorem dX10_alikePair_8 : decode cX10_alikePair 8 = .ok (.getfield 15, 3) := by decide +kernel
theorem dX10_alikePair_11 : decode cX10_alikePair 11 = .ok (.getfield 65, 3) := by decide +kernel
theorem dX10_alikePair_14 : decode cX10_alikePair 14 = .ok (.if_icmp .ge 65, 3) := by decide +kernel
theorem dX10_alikePair_17 : decode cX10_alikePair 17 = .ok (.iload 4, 2) := by decide +kernel
theorem dX10_alikePair_19 : decode cX10_alikePair 19 = .ok (.iconst 1, 1) := by decide +kernel
theorem dX10_alikePair_20 : decode cX10_alikePair 20 = .ok (.iadd, 1) := by decide +kernel
theorem dX10_alikePair_21 : decode cX10_alikePair 21 = .ok (.istore 5, 2) := by decide +kernel
theorem dX10_alikePair_23 : decode cX10_alikePair 23 = .ok (.iload 5, 2) := by decide +kernel
theorem dX10_alikePair_25 : decode cX10_alikePair 25 = .ok (.aload_n 0, 1) := by decide +kernel
theorem dX10_alikePair_26 : decode cX10_alikePair 26 = .ok (.getfield 15, 3) := by decide +kernel
theorem dX10_alikePair_29 : decode cX10_alikePair 29 = .ok (.getfield 65, 3) := by decide +kernel
theorem dX10_alikePair_32 : decode cX10_alikePair 32 = .ok (.if_icmp .ge 41, 3) := by decide +kernel
theorem dX10_alikePair_35 : decode cX10_alikePair 35 = .ok (.aload_n 0, 1) := by decide +kernel
theorem dX10_alikePair_36 : decode cX10_alikePair 36 = .ok (.iload 4, 2) := by decide +kernel
theorem dX10_alikePair_38 : decode cX10_alikePair 38 = .ok (.iload 5, 2) := by decide +kernel
theorem dX10_alikePair_40 : decode cX10_alikePair 40 = .ok (.iload_n 1, 1) := by decide +kernel
theorem dX10_alikePair_41 : decode cX10_alikePair 41 = .ok (.invokevirtual 69, 3) := by decide +kernel
theorem dX10_alikePair_44 : decode cX10_alikePair 44 = .ok (.ifCond .ne 6, 3) := by decide +kernel
theorem dX10_alikePair_47 : decode cX10_alikePair 47 = .ok (.goto 20, 3) := by decide +kernel
theorem dX10_alikePair_50 : decode cX10_alikePair 50 = .ok (.iload_n 3, 1) := by decide +kernel
theorem dX10_alikePair_51 : decode cX10_alikePair 51 = .ok (.iload_n 2, 1) := by decide +kernel
theorem dX10_alikePair_52 : decode cX10_alikePair 52 = .ok (.if_icmp .ne 12, 3) := by decide +kernel
theorem dX10_alikePair_55 : decode cX10_alikePair 55 = .ok (.bipush 10, 2) := by decide +kernel
theorem dX10_alikePair_57 : decode cX10_alikePair 57 = .ok (.iload 4, 2) := by decide +kernel
theorem dX10_alikePair_59 : decode cX10_alikePair 59 = .ok (.imul, 1) := by decide +kernel
theorem dX10_alikePair_60 : decode cX10_alikePair 60 = .ok (.iload 5, 2) := by decide +kernel
theorem dX10_alikePair_62 : decode cX10_alikePair 62 = .ok (.iadd, 1) := by decide +kernel
theorem dX10_alikePair_63 : decode cX10_alikePair 63 = .ok (.ireturn, 1) := by decide +kernel
theorem dX10_alikePair_64 : decode cX10_alikePair 64 = .ok (.iinc 3 1, 3) := by decide +kernel
theorem dX10_alikePair_67 : decode cX10_alikePair 67 = .ok (.iinc 5 1, 3) := by decide +kernel
theorem dX10_alikePair_70 : decode cX10_alikePair 70 = .ok (.goto (-47), 3) := by decide +kernel
theorem dX10_alikePair_73 : decode cX10_alikePair 73 = .ok (.iinc 4 1, 3) := by decide +kernel
theorem dX10_alikePair_76 : decode cX10_alikePair 76 = .ok (.goto (-71), 3) := by decide +kernel
theorem dX10_alikePair_79 : decode cX10_alikePair 79 = .ok (.iload_n 2, 1) := by decide +kernel
theorem dX10_alikePair_80 : decode cX10_alikePair 80 = .ok (.iconst (-1), 1) := by decide +kernel
theorem dX10_alikePair_81 : decode cX10_alikePair 81 = .ok (.if_icmp .ne 7, 3) := by decide +kernel
theorem dX10_alikePair_84 : decode cX10_alikePair 84 = .ok (.iload_n 3, 1) := by decide +kernel
theorem dX10_alikePair_85 : decode cX10_alikePair 85 = .ok (.goto 4, 3) := by decide +kernel
theorem dX10_alikePair_88 : decode cX10_alikePair 88 = .ok (.iconst (-1), 1) := by decide +kernel
theorem dX10_alikePair_89 : decode cX10_alikePair 89 = .ok (.ireturn, 1) := by decide +kernel
set_option maxRecDepth 20000 in
theorem ggX10_areAlike_X2_saying : GoodIn wsX10_areAlike wsX2_saying := goodIn_r _ [8, 9, 10, 11, 12, 13, 14, 15, 16, 17, 18, 19, 7, 20, 21, 22, 23, 24, 25, 26, 27, 28, 29, 30, 31, 32, 33, 34, 35, 50, 51, 40, 41, 42, 43, 44, 45, 46, 47, 48, 49, 52] (by decide +kernel) (by decide +kernel)
set_option maxRecDepth 20000 in
theorem gX10_areAlike_X2_saying : GoodIn wsX10_areAlike (wsV RX10 76 RX2 yX2_saying wsX2_saying) := goodIn_app (goodIn_of _ (by decide +kernel)) ggX10_areAlike_X2_saying
theorem dX10_areAlike_0 : decode cX10_areAlike 0 = .ok (.iconst 0, 1) := by decide +kernel
theorem dX10_areAlike_1 : decode cX10_areAlike 1 = .ok (.istore 4, 2) := by decide +kernel
theorem dX10_areAlike_3 : decode cX10_areAlike 3 = .ok (.iload 4, 2) := by decide +kernel
theorem dX10_areAlike_5 : decode cX10_areAlike 5 = .ok (.aload_n 0, 1) := by decide +kernel
theorem dX10_areAlike_6 : decode cX10_areAlike 6 = .ok (.getfield 15, 3) := by decide +kernel
theorem dX10_areAlike_9 : decode cX10_areAlike 9 = .ok (.getfield 73, 3) := by decide +kernel
theorem dX10_areAlike_12 : decode cX10_areAlike 12 = .ok (.if_icmp .ge 36, 3) := by decide +kernel
theorem dX10_areAlike_15 : decode cX10_areAlike 15 = .ok (.aload_n 0, 1) := by decide +kernel
theorem dX10_areAlike_16 : decode cX10_areAlike 16 = .ok (.getfield 23, 3) := by decide +kernel
theorem dX10_areAlike_19 : decode cX10_areAlike 19 = .ok (.iload 4, 2) := by decide +kernel
theorem dX10_areAlike_21 : decode cX10_areAlike 21 = .ok (.iload_n 1, 1) := by decide +kernel
theorem dX10_areAlike_22 : decode cX10_areAlike 22 = .ok (.iload_n 3, 1) := by decide +kernel
theorem dX10_areAlike_23 : decode cX10_areAlike 23 = .ok (.invokevirtual 76, 3) := by decide +kernel
theorem dX10_areAlike_26 : decode cX10_areAlike 26 = .ok (.aload_n 0, 1) := by decide +kernel
theorem dX10_areAlike_27 : decode cX10_areAlike 27 = .ok (.getfield 23, 3) := by decide +kernel
theorem dX10_areAlike_30 : decode cX10_areAlike 30 = .ok (.iload 4, 2) := by decide +kernel
theorem dX10_areAlike_32 : decode cX10_areAlike 32 = .ok (.iload_n 2, 1) := by decide +kernel
theorem dX10_areAlike_33 : decode cX10_areAlike 33 = .ok (.iload_n 3, 1) := by decide +kernel
theorem dX10_areAlike_34 : decode cX10_areAlike 34 = .ok (.invokevirtual 76, 3) := by decide +kernel
theorem dX10_areAlike_37 : decode cX10_areAlike 37 = .ok (.if_icmp .eq 5, 3) := by decide +kernel
theorem dX10_areAlike_40 : decode cX10_areAlike 40 = .ok (.iconst 0, 1) := by decide +kernel
theorem dX10_areAlike_41 : decode cX10_areAlike 41 = .ok (.ireturn, 1) := by decide +kernel
theorem dX10_areAlike_42 : decode cX10_areAlike 42 = .ok (.iinc 4 1, 3) := by decide +kernel
theorem dX10_areAlike_45 : decode cX10_areAlike 45 = .ok (.goto (-42), 3) := by decide +kernel
theorem dX10_areAlike_48 : decode cX10_areAlike 48 = .ok (.iconst 1, 1) := by decide +kernel
theorem dX10_areAlike_49 : decode cX10_areAlike 49 = .ok (.ireturn, 1) := by decide +kernel
set_option maxRecDepth 20000 in
theorem ggX10_hidingThickness_X2_margin : GoodIn wsX10_hidingThickness wsX2_margin := goodIn_r _ [16, 17, 18, 19, 20, 21, 22, 23, 24, 25, 26, 27, 15, 28, 29, 6, 7, 8, 30, 10, 11, 31, 53, 54, 55, 43, 44, 45, 46, 47, 48, 49, 50, 51, 52] (by decide +kernel) (by decide +kernel)
set_option maxRecDepth 20000 in
theorem gX10_hidingThickness_X2_margin : GoodIn wsX10_hidingThickness (wsV RX10 79 RX2 yX2_margin wsX2_margin) := goodIn_app (goodIn_of _ (by decide +kernel)) ggX10_hidingThickness_X2_margin
set_option maxRecDepth 20000 in
theorem ggX10_hidingThickness_X8_get : GoodIn wsX10_hidingThickness wsX8_get := goodIn_r _ [36, 37, 38, 22, 23, 24, 55] (by decide +kernel) (by decide +kernel)
set_option maxRecDepth 20000 in
theorem gX10_hidingThickness_X8_get : GoodIn wsX10_hidingThickness (wsV RX10 84 RX8 yX8_get wsX8_get) := goodIn_app (goodIn_of _ (by decide +kernel)) ggX10_hidingThickness_X8_get
theorem dX10_hidingThickness_0 : decode cX10_hidingThickness 0 = .ok (.iconst 0, 1) := by decide +kernel
theorem dX10_hidingThickness_1 : decode cX10_hidingThickness 1 = .ok (.istore 4, 2) := by decide +kernel
theorem dX10_hidingThickness_3 : decode cX10_hidingThickness 3 = .ok (.iconst 0, 1) := by decide +kernel
theorem dX10_hidingThickness_4 : decode cX10_hidingThickness 4 = .ok (.istore 5, 2) := by decide +kernel
theorem dX10_hidingThickness_6 : decode cX10_hidingThickness 6 = .ok (.iload 5, 2) := by decide +kernel
theorem dX10_hidingThickness_8 : decode cX10_hidingThickness 8 = .ok (.aload_n 0, 1) := by decide +kernel
theorem dX10_hidingThickness_9 : decode cX10_hidingThickness 9 = .ok (.getfield 15, 3) := by decide +kernel
theorem dX10_hidingThickness_12 : decode cX10_hidingThickness 12 = .ok (.getfield 73, 3) := by decide +kernel
theorem dX10_hidingThickness_15 : decode cX10_hidingThickness 15 = .ok (.if_icmp .ge 101, 3) := by decide +kernel
theorem dX10_hidingThickness_18 : decode cX10_hidingThickness 18 = .ok (.aload_n 0, 1) := by decide +kernel
theorem dX10_hidingThickness_19 : decode cX10_hidingThickness 19 = .ok (.getfield 23, 3) := by decide +kernel
theorem dX10_hidingThickness_22 : decode cX10_hidingThickness 22 = .ok (.iload 5, 2) := by decide +kernel
theorem dX10_hidingThickness_24 : decode cX10_hidingThickness 24 = .ok (.iload_n 2, 1) := by decide +kernel
theorem dX10_hidingThickness_25 : decode cX10_hidingThickness 25 = .ok (.iload_n 3, 1) := by decide +kernel
theorem dX10_hidingThickness_26 : decode cX10_hidingThickness 26 = .ok (.invokevirtual 79, 3) := by decide +kernel
theorem dX10_hidingThickness_29 : decode cX10_hidingThickness 29 = .ok (.istore 6, 2) := by decide +kernel
theorem dX10_hidingThickness_31 : decode cX10_hidingThickness 31 = .ok (.aload_n 0, 1) := by decide +kernel
theorem dX10_hidingThickness_32 : decode cX10_hidingThickness 32 = .ok (.getfield 19, 3) := by decide +kernel
theorem dX10_hidingThickness_35 : decode cX10_hidingThickness 35 = .ok (.bipush 14, 2) := by decide +kernel
theorem dX10_hidingThickness_37 : decode cX10_hidingThickness 37 = .ok (.iload 5, 2) := by decide +kernel
theorem dX10_hidingThickness_39 : decode cX10_hidingThickness 39 = .ok (.iadd, 1) := by decide +kernel
theorem dX10_hidingThickness_40 : decode cX10_hidingThickness 40 = .ok (.invokevirtual 84, 3) := by decide +kernel
theorem dX10_hidingThickness_43 : decode cX10_hidingThickness 43 = .ok (.istore 7, 2) := by decide +kernel
theorem dX10_hidingThickness_45 : decode cX10_hidingThickness 45 = .ok (.iload_n 3, 1) := by decide +kernel
theorem dX10_hidingThickness_46 : decode cX10_hidingThickness 46 = .ok (.iload 7, 2) := by decide +kernel
theorem dX10_hidingThickness_48 : decode cX10_hidingThickness 48 = .ok (.invokestatic 86, 3) := by decide +kernel
theorem dX10_hidingThickness_51 : decode cX10_hidingThickness 51 = .ok (.iload_n 1, 1) := by decide +kernel
theorem dX10_hidingThickness_52 : decode cX10_hidingThickness 52 = .ok (.if_icmp .gt 17, 3) := by decide +kernel
theorem dX10_hidingThickness_55 : decode cX10_hidingThickness 55 = .ok (.iload_n 1, 1) := by decide +kernel
theorem dX10_hidingThickness_56 : decode cX10_hidingThickness 56 = .ok (.iload_n 3, 1) := by decide +kernel
theorem dX10_hidingThickness_57 : decode cX10_hidingThickness 57 = .ok (.iload 7, 2) := by decide +kernel
theorem dX10_hidingThickness_59 : decode cX10_hidingThickness 59 = .ok (.invokestatic 92, 3) := by decide +kernel
theorem dX10_hidingThickness_62 : decode cX10_hidingThickness 62 = .ok (.if_icmp .ge 7, 3) := by decide +kernel
theorem dX10_hidingThickness_65 : decode cX10_hidingThickness 65 = .ok (.iconst 1, 1) := by decide +kernel
theorem dX10_hidingThickness_66 : decode cX10_hidingThickness 66 = .ok (.goto 4, 3) := by decide +kernel
theorem dX10_hidingThickness_69 : decode cX10_hidingThickness 69 = .ok (.iconst 0, 1) := by decide +kernel
theorem dX10_hidingThickness_70 : decode cX10_hidingThickness 70 = .ok (.istore 8, 2) := by decide +kernel
theorem dX10_hidingThickness_72 : decode cX10_hidingThickness 72 = .ok (.iload 8, 2) := by decide +kernel
theorem dX10_hidingThickness_74 : decode cX10_hidingThickness 74 = .ok (.ifCond .eq 29, 3) := by decide +kernel
theorem dX10_hidingThickness_77 : decode cX10_hidingThickness 77 = .ok (.iload 4, 2) := by decide +kernel
theorem dX10_hidingThickness_79 : decode cX10_hidingThickness 79 = .ok (.iload 6, 2) := by decide +kernel
theorem dX10_hidingThickness_81 : decode cX10_hidingThickness 81 = .ok (.aload_n 0, 1) := by decide +kernel
theorem dX10_hidingThickness_82 : decode cX10_hidingThickness 82 = .ok (.getfield 19, 3) := by decide +kernel
theorem dX10_hidingThickness_85 : decode cX10_hidingThickness 85 = .ok (.bipush 6, 2) := by decide +kernel
theorem dX10_hidingThickness_87 : decode cX10_hidingThickness 87 = .ok (.iload_n 1, 1) := by decide +kernel
theorem dX10_hidingThickness_88 : decode cX10_hidingThickness 88 = .ok (.iadd, 1) := by decide +kernel
theorem dX10_hidingThickness_89 : decode cX10_hidingThickness 89 = .ok (.invokevirtual 84, 3) := by decide +kernel
theorem dX10_hidingThickness_92 : decode cX10_hidingThickness 92 = .ok (.iadd, 1) := by decide +kernel
theorem dX10_hidingThickness_93 : decode cX10_hidingThickness 93 = .ok (.iconst 1, 1) := by decide +kernel
theorem dX10_hidingThickness_94 : decode cX10_hidingThickness 94 = .ok (.iadd, 1) := by decide +kernel
theorem dX10_hidingThickness_95 : decode cX10_hidingThickness 95 = .ok (.invokestatic 92, 3) := by decide +kernel
theorem dX10_hidingThickness_98 : decode cX10_hidingThickness 98 = .ok (.istore 4, 2) := by decide +kernel
theorem dX10_hidingThickness_100 : decode cX10_hidingThickness 100 = .ok (.goto 10, 3) := by decide +kernel
theorem dX10_hidingThickness_103 : decode cX10_hidingThickness 103 = .ok (.iload 6, 2) := by decide +kernel
theorem dX10_hidingThickness_105 : decode cX10_hidingThickness 105 = .ok (.ifCond .lt 5, 3) := by decide +kernel
theorem dX10_hidingThickness_108 : decode cX10_hidingThickness 108 = .ok (.iconst (-1), 1) := by decide +kernel
theorem dX10_hidingThickness_109 : decode cX10_hidingThickness 109 = .ok (.ireturn, 1) := by decide +kernel
theorem dX10_hidingThickness_110 : decode cX10_hidingThickness 110 = .ok (.iinc 5 1, 3) := by decide +kernel
theorem dX10_hidingThickness_113 : decode cX10_hidingThickness 113 = .ok (.goto (-107), 3) := by decide +kernel
theorem dX10_hidingThickness_116 : decode cX10_hidingThickness 116 = .ok (.iload 4, 2) := by decide +kernel
theorem dX10_hidingThickness_118 : decode cX10_hidingThickness 118 = .ok (.bipush 99, 2) := by decide +kernel
theorem dX10_hidingThickness_120 : decode cX10_hidingThickness 120 = .ok (.if_icmp .le 7, 3) := by decide +kernel
theorem dX10_hidingThickness_123 : decode cX10_hidingThickness 123 = .ok (.iconst (-1), 1) := by decide +kernel
theorem dX10_hidingThickness_124 : decode cX10_hidingThickness 124 = .ok (.goto 5, 3) := by decide +kernel
theorem dX10_hidingThickness_127 : decode cX10_hidingThickness 127 = .ok (.iload 4, 2) := by decide +kernel
theorem dX10_hidingThickness_129 : decode cX10_hidingThickness 129 = .ok (.ireturn, 1) := by decide +kernel
set_option maxRecDepth 20000 in
theorem ggX10_oddsOfHearing_J6_bitCount_0f7a4 : GoodIn wsX10_oddsOfHearing wsJ6_bitCount_0f7a4 := goodIn_r _ [7, 8, 9, 10] (by decide +kernel) (by decide +kernel)
set_option maxRecDepth 20000 in
theorem gX10_oddsOfHearing_J6_bitCount_0f7a4 : GoodIn wsX10_oddsOfHearing (va_wsS RX10 51 yJ6_bitCount_0f7a4 wsJ6_bitCount_0f7a4) := goodIn_app (goodIn_of _ (by decide +kernel)) ggX10_oddsOfHearing_J6_bitCount_0f7a4
set_option maxRecDepth 20000 in
theorem ggX10_oddsOfHearing_X10_unheard : GoodIn wsX10_oddsOfHearing wsX10_unheard := goodIn_r _ [15, 1, 16, 17, 18, 19, 20, 21, 22, 23, 24, 25, 26, 27, 28, 29, 30, 31, 32, 33, 34, 35, 36, 37, 38, 39, 40, 41, 42, 43, 44, 45, 46, 47, 48, 49, 50, 51, 52, 53, 54, 55, 56, 57, 58, 59, 60, 61, 62, 63, 64, 65, 66, 67, 68, 69] (by decide +kernel) (by decide +kernel)
set_option maxRecDepth 20000 in
theorem gX10_oddsOfHearing_X10_unheard : GoodIn wsX10_oddsOfHearing (wsV RX10 95 RX10 yX10_unheard wsX10_unheard) := goodIn_app (goodIn_of _ (by decide +kernel)) ggX10_oddsOfHearing_X10_unheard
theorem dX10_oddsOfHearing_0 : decode cX10_oddsOfHearing 0 = .ok (.aload_n 0, 1) := by decide +kernel
theorem dX10_oddsOfHearing_1 : decode cX10_oddsOfHearing 1 = .ok (.getfield 15, 3) := by decide +kernel
theorem dX10_oddsOfHearing_4 : decode cX10_oddsOfHearing 4 = .ok (.getfield 65, 3) := by decide +kernel
theorem dX10_oddsOfHearing_7 : decode cX10_oddsOfHearing 7 = .ok (.iload_n 1, 1) := by decide +kernel
theorem dX10_oddsOfHearing_8 : decode cX10_oddsOfHearing 8 = .ok (.invokestatic 51, 3) := by decide +kernel
theorem dX10_oddsOfHearing_11 : decode cX10_oddsOfHearing 11 = .ok (.imul, 1) := by decide +kernel
theorem dX10_oddsOfHearing_12 : decode cX10_oddsOfHearing 12 = .ok (.istore_n 2, 1) := by decide +kernel
theorem dX10_oddsOfHearing_13 : decode cX10_oddsOfHearing 13 = .ok (.iload_n 2, 1) := by decide +kernel
theorem dX10_oddsOfHearing_14 : decode cX10_oddsOfHearing 14 = .ok (.ifCond .gt 5, 3) := by decide +kernel
theorem dX10_oddsOfHearing_17 : decode cX10_oddsOfHearing 17 = .ok (.iconst 0, 1) := by decide +kernel
theorem dX10_oddsOfHearing_18 : decode cX10_oddsOfHearing 18 = .ok (.ireturn, 1) := by decide +kernel
theorem dX10_oddsOfHearing_19 : decode cX10_oddsOfHearing 19 = .ok (.iconst 0, 1) := by decide +kernel
theorem dX10_oddsOfHearing_20 : decode cX10_oddsOfHearing 20 = .ok (.istore_n 3, 1) := by decide +kernel
theorem dX10_oddsOfHearing_21 : decode cX10_oddsOfHearing 21 = .ok (.iconst 0, 1) := by decide +kernel
theorem dX10_oddsOfHearing_22 : decode cX10_oddsOfHearing 22 = .ok (.istore 4, 2) := by decide +kernel
theorem dX10_oddsOfHearing_24 : decode cX10_oddsOfHearing 24 = .ok (.iload 4, 2) := by decide +kernel
theorem dX10_oddsOfHearing_26 : decode cX10_oddsOfHearing 26 = .ok (.aload_n 0, 1) := by decide +kernel
theorem dX10_oddsOfHearing_27 : decode cX10_oddsOfHearing 27 = .ok (.getfield 15, 3) := by decide +kernel
theorem dX10_oddsOfHearing_30 : decode cX10_oddsOfHearing 30 = .ok (.getfield 65, 3) := by decide +kernel
theorem dX10_oddsOfHearing_33 : decode cX10_oddsOfHearing 33 = .ok (.if_icmp .ge 25, 3) := by decide +kernel
theorem dX10_oddsOfHearing_36 : decode cX10_oddsOfHearing 36 = .ok (.iload_n 3, 1) := by decide +kernel
theorem dX10_oddsOfHearing_37 : decode cX10_oddsOfHearing 37 = .ok (.iload_n 1, 1) := by decide +kernel
theorem dX10_oddsOfHearing_38 : decode cX10_oddsOfHearing 38 = .ok (.aload_n 0, 1) := by decide +kernel
theorem dX10_oddsOfHearing_39 : decode cX10_oddsOfHearing 39 = .ok (.iload 4, 2) := by decide +kernel
theorem dX10_oddsOfHearing_41 : decode cX10_oddsOfHearing 41 = .ok (.invokevirtual 95, 3) := by decide +kernel
theorem dX10_oddsOfHearing_44 : decode cX10_oddsOfHearing 44 = .ok (.iconst (-1), 1) := by decide +kernel
theorem dX10_oddsOfHearing_45 : decode cX10_oddsOfHearing 45 = .ok (.ixor, 1) := by decide +kernel
theorem dX10_oddsOfHearing_46 : decode cX10_oddsOfHearing 46 = .ok (.iand, 1) := by decide +kernel
theorem dX10_oddsOfHearing_47 : decode cX10_oddsOfHearing 47 = .ok (.invokestatic 51, 3) := by decide +kernel
theorem dX10_oddsOfHearing_50 : decode cX10_oddsOfHearing 50 = .ok (.iadd, 1) := by decide +kernel
theorem dX10_oddsOfHearing_51 : decode cX10_oddsOfHearing 51 = .ok (.istore_n 3, 1) := by decide +kernel
theorem dX10_oddsOfHearing_52 : decode cX10_oddsOfHearing 52 = .ok (.iinc 4 1, 3) := by decide +kernel
theorem dX10_oddsOfHearing_55 : decode cX10_oddsOfHearing 55 = .ok (.goto (-31), 3) := by decide +kernel
theorem dX10_oddsOfHearing_58 : decode cX10_oddsOfHearing 58 = .ok (.iload_n 3, 1) := by decide +kernel
theorem dX10_oddsOfHearing_59 : decode cX10_oddsOfHearing 59 = .ok (.ldc 98, 2) := by decide +kernel
theorem dX10_oddsOfHearing_61 : decode cX10_oddsOfHearing 61 = .ok (.imul, 1) := by decide +kernel
theorem dX10_oddsOfHearing_62 : decode cX10_oddsOfHearing 62 = .ok (.iload_n 2, 1) := by decide +kernel
theorem dX10_oddsOfHearing_63 : decode cX10_oddsOfHearing 63 = .ok (.idiv, 1) := by decide +kernel
theorem dX10_oddsOfHearing_64 : decode cX10_oddsOfHearing 64 = .ok (.ireturn, 1) := by decide +kernel
set_option maxRecDepth 20000 in
theorem ggX11_init_X9_init : GoodIn wsX11_init wsX9_init := goodIn_r _ [45, 46, 2, 3, 47, 48, 121, 122] (by decide +kernel) (by decide +kernel)
set_option maxRecDepth 20000 in
theorem gX11_init_X9_init_n11 : GoodIn wsX11_init (wsX9_init) := ggX11_init_X9_init
set_option maxRecDepth 20000 in
theorem ggX11_init_X5_init : GoodIn wsX11_init wsX5_init := goodIn_r _ [50, 51, 2, 3, 47, 52, 53, 54, 55, 56, 57, 134, 135, 136, 137, 138, 139, 140, 141, 142, 143] (by decide +kernel) (by decide +kernel)
set_option maxRecDepth 20000 in
theorem gX11_init_X5_init_n18 : GoodIn wsX11_init (wsX5_init) := ggX11_init_X5_init
set_option maxRecDepth 20000 in
theorem ggX11_init_X6_init : GoodIn wsX11_init wsX6_init := goodIn_r _ [60, 61, 2, 3, 62, 9, 10, 63, 64, 65, 49, 50, 51, 47, 52, 53, 54, 55, 56, 57, 134, 135, 136, 137, 138, 139, 140, 141, 142, 143, 144, 145, 146, 147, 148, 149] (by decide +kernel) (by decide +kernel)
set_option maxRecDepth 20000 in
theorem gX11_init_X6_init : GoodIn wsX11_init (wsX6_init) := ggX11_init_X6_init
set_option maxRecDepth 20000 in
theorem ggX11_init_X8_init : GoodIn wsX11_init wsX8_init := goodIn_r _ [68, 69, 2, 3, 47, 70, 71, 72, 73, 18, 74, 75, 76, 77, 78, 79, 80, 81, 82, 150] (by decide +kernel) (by decide +kernel)
set_option maxRecDepth 20000 in
theorem gX11_init_X8_init : GoodIn wsX11_init (wsX8_init) := ggX11_init_X8_init
set_option maxRecDepth 20000 in
theorem ggX11_init_X4_init : GoodIn wsX11_init wsX4_init := goodIn_r _ [84, 85, 2, 3, 47, 86, 151, 152, 153] (by decide +kernel) (by decide +kernel)
set_option maxRecDepth 20000 in
theorem gX11_init_X4_init_n41 : GoodIn wsX11_init (wsX4_init) := ggX11_init_X4_init
set_option maxRecDepth 20000 in
theorem ggX11_init_X2_init : GoodIn wsX11_init wsX2_init := goodIn_r _ [89, 90, 2, 3, 91, 92, 154, 155] (by decide +kernel) (by decide +kernel)
set_option maxRecDepth 20000 in
theorem gX11_init_X2_init : GoodIn wsX11_init (wsX2_init) := ggX11_init_X2_init
set_option maxRecDepth 20000 in
theorem ggX11_init_X10_init : GoodIn wsX11_init wsX10_init := goodIn_r _ [95, 96, 2, 3, 47, 97, 98, 99, 100, 156, 157, 158, 159] (by decide +kernel) (by decide +kernel)
set_option maxRecDepth 20000 in
theorem gX11_init_X10_init : GoodIn wsX11_init (wsX10_init) := ggX11_init_X10_init
set_option maxRecDepth 20000 in
theorem ggX11_init_X1_init : GoodIn wsX11_init wsX1_init := goodIn_r _ [103, 104, 2, 3, 47, 105, 106, 107, 108, 109, 110, 160, 161, 162, 163, 164, 165, 166, 167] (by decide +kernel) (by decide +kernel)
set_option maxRecDepth 20000 in
theorem gX11_init_X1_init : GoodIn wsX11_init (wsX1_init) := ggX11_init_X1_init
set_option maxRecDepth 20000 in
theorem ggX11_init_X0_init : GoodIn wsX11_init wsX0_init := goodIn_r _ [112, 113, 2, 3, 47, 114, 168, 169] (by decide +kernel) (by decide +kernel)
set_option maxRecDepth 20000 in
theorem gX11_init_X0_init_n81 : GoodIn wsX11_init (wsX0_init) := ggX11_init_X0_init
set_option maxRecDepth 20000 in
theorem ggX11_init_X3_init : GoodIn wsX11_init wsX3_init := goodIn_r _ [116, 117, 2, 3, 118, 17, 18, 119, 120, 67, 68, 69, 47, 70, 71, 72, 73, 74, 75, 76, 77, 78, 79, 80, 81, 82, 150, 170, 171, 172] (by decide +kernel) (by decide +kernel)
set_option maxRecDepth 20000 in
theorem gX11_init_X3_init_n86 : GoodIn wsX11_init (wsX3_init) := ggX11_init_X3_init
theorem dX11_init_0 : decode cX11_init 0 = .ok (.aload_n 0, 1) := by decide +kernel
theorem dX11_init_1 : decode cX11_init 1 = .ok (.invokespecial 3, 3) := by decide +kernel
theorem dX11_init_4 : decode cX11_init 4 = .ok (.aload_n 0, 1) := by decide +kernel
theorem dX11_init_5 : decode cX11_init 5 = .ok (.new 9, 3) := by decide +kernel
theorem dX11_init_8 : decode cX11_init 8 = .ok (.dup, 1) := by decide +kernel
theorem dX11_init_9 : decode cX11_init 9 = .ok (.invokespecial 11, 3) := by decide +kernel
theorem dX11_init_12 : decode cX11_init 12 = .ok (.putfield 12, 3) := by decide +kernel
theorem dX11_init_15 : decode cX11_init 15 = .ok (.aload_n 0, 1) := by decide +kernel
theorem dX11_init_16 : decode cX11_init 16 = .ok (.new 16, 3) := by decide +kernel
theorem dX11_init_19 : decode cX11_init 19 = .ok (.dup, 1) := by decide +kernel
theorem dX11_init_20 : decode cX11_init 20 = .ok (.invokespecial 18, 3) := by decide +kernel
theorem dX11_init_23 : decode cX11_init 23 = .ok (.putfield 19, 3) := by decide +kernel
theorem dX11_init_26 : decode cX11_init 26 = .ok (.aload_n 0, 1) := by decide +kernel
theorem dX11_init_27 : decode cX11_init 27 = .ok (.new 23, 3) := by decide +kernel
theorem dX11_init_30 : decode cX11_init 30 = .ok (.dup, 1) := by decide +kernel
theorem dX11_init_31 : decode cX11_init 31 = .ok (.aload_n 0, 1) := by decide +kernel
theorem dX11_init_32 : decode cX11_init 32 = .ok (.getfield 12, 3) := by decide +kernel
theorem dX11_init_35 : decode cX11_init 35 = .ok (.invokespecial 25, 3) := by decide +kernel
theorem dX11_init_38 : decode cX11_init 38 = .ok (.putfield 28, 3) := by decide +kernel
theorem dX11_init_41 : decode cX11_init 41 = .ok (.aload_n 0, 1) := by decide +kernel
theorem dX11_init_42 : decode cX11_init 42 = .ok (.new 32, 3) := by decide +kernel
theorem dX11_init_45 : decode cX11_init 45 = .ok (.dup, 1) := by decide +kernel
theorem dX11_init_46 : decode cX11_init 46 = .ok (.invokespecial 34, 3) := by decide +kernel
theorem dX11_init_49 : decode cX11_init 49 = .ok (.putfield 35, 3) := by decide +kernel
theorem dX11_init_52 : decode cX11_init 52 = .ok (.aload_n 0, 1) := by decide +kernel
theorem dX11_init_53 : decode cX11_init 53 = .ok (.new 39, 3) := by decide +kernel
theorem dX11_init_56 : decode cX11_init 56 = .ok (.dup, 1) := by decide +kernel
theorem dX11_init_57 : decode cX11_init 57 = .ok (.invokespecial 41, 3) := by decide +kernel
theorem dX11_init_60 : decode cX11_init 60 = .ok (.putfield 42, 3) := by decide +kernel
theorem dX11_init_63 : decode cX11_init 63 = .ok (.aload_n 0, 1) := by decide +kernel
theorem dX11_init_64 : decode cX11_init 64 = .ok (.iconst 2, 1) := by decide +kernel
theorem dX11_init_65 : decode cX11_init 65 = .ok (.anewarray 46, 3) := by decide +kernel
theorem dX11_init_68 : decode cX11_init 68 = .ok (.putfield 48, 3) := by decide +kernel
theorem dX11_init_71 : decode cX11_init 71 = .ok (.aload_n 0, 1) := by decide +kernel
theorem dX11_init_72 : decode cX11_init 72 = .ok (.new 52, 3) := by decide +kernel
theorem dX11_init_75 : decode cX11_init 75 = .ok (.dup, 1) := by decide +kernel
theorem dX11_init_76 : decode cX11_init 76 = .ok (.aload_n 0, 1) := by decide +kernel
theorem dX11_init_77 : decode cX11_init 77 = .ok (.getfield 19, 3) := by decide +kernel
theorem dX11_init_80 : decode cX11_init 80 = .ok (.aload_n 0, 1) := by decide +kernel
theorem dX11_init_81 : decode cX11_init 81 = .ok (.getfield 35, 3) := by decide +kernel
theorem dX11_init_84 : decode cX11_init 84 = .ok (.invokespecial 54, 3) := by decide +kernel
theorem dX11_init_87 : decode cX11_init 87 = .ok (.putfield 57, 3) := by decide +kernel
theorem dX11_init_90 : decode cX11_init 90 = .ok (.aload_n 0, 1) := by decide +kernel
theorem dX11_init_91 : decode cX11_init 91 = .ok (.new 61, 3) := by decide +kernel
theorem dX11_init_94 : decode cX11_init 94 = .ok (.dup, 1) := by decide +kernel
theorem dX11_init_95 : decode cX11_init 95 = .ok (.aload_n 0, 1) := by decide +kernel
theorem dX11_init_96 : decode cX11_init 96 = .ok (.getfield 19, 3) := by decide +kernel
theorem dX11_init_99 : decode cX11_init 99 = .ok (.aload_n 0, 1) := by decide +kernel
theorem dX11_init_100 : decode cX11_init 100 = .ok (.getfield 35, 3) := by decide +kernel
theorem dX11_init_103 : decode cX11_init 103 = .ok (.aload_n 0, 1) := by decide +kernel
theorem dX11_init_104 : decode cX11_init 104 = .ok (.getfield 57, 3) := by decide +kernel
theorem dX11_init_107 : decode cX11_init 107 = .ok (.invokespecial 63, 3) := by decide +kernel
theorem dX11_init_110 : decode cX11_init 110 = .ok (.putfield 66, 3) := by decide +kernel
theorem dX11_init_113 : decode cX11_init 113 = .ok (.aload_n 0, 1) := by decide +kernel
theorem dX11_init_114 : decode cX11_init 114 = .ok (.new 70, 3) := by decide +kernel
theorem dX11_init_117 : decode cX11_init 117 = .ok (.dup, 1) := by decide +kernel
theorem dX11_init_118 : decode cX11_init 118 = .ok (.aload_n 0, 1) := by decide +kernel
theorem dX11_init_119 : decode cX11_init 119 = .ok (.getfield 19, 3) := by decide +kernel
theorem dX11_init_122 : decode cX11_init 122 = .ok (.aload_n 0, 1) := by decide +kernel
theorem dX11_init_123 : decode cX11_init 123 = .ok (.getfield 57, 3) := by decide +kernel
theorem dX11_init_126 : decode cX11_init 126 = .ok (.invokespecial 72, 3) := by decide +kernel
theorem dX11_init_129 : decode cX11_init 129 = .ok (.putfield 75, 3) := by decide +kernel
theorem dX11_init_132 : decode cX11_init 132 = .ok (.aload_n 0, 1) := by decide +kernel
theorem dX11_init_133 : decode cX11_init 133 = .ok (.new 79, 3) := by decide +kernel
theorem dX11_init_136 : decode cX11_init 136 = .ok (.dup, 1) := by decide +kernel
theorem dX11_init_137 : decode cX11_init 137 = .ok (.invokespecial 81, 3) := by decide +kernel
theorem dX11_init_140 : decode cX11_init 140 = .ok (.putfield 82, 3) := by decide +kernel
theorem dX11_init_143 : decode cX11_init 143 = .ok (.iconst 0, 1) := by decide +kernel
theorem dX11_init_144 : decode cX11_init 144 = .ok (.istore_n 1, 1) := by decide +kernel
theorem dX11_init_145 : decode cX11_init 145 = .ok (.iload_n 1, 1) := by decide +kernel
theorem dX11_init_146 : decode cX11_init 146 = .ok (.aload_n 0, 1) := by decide +kernel
theorem dX11_init_147 : decode cX11_init 147 = .ok (.getfield 48, 3) := by decide +kernel
theorem dX11_init_150 : decode cX11_init 150 = .ok (.arraylength, 1) := by decide +kernel
theorem dX11_init_151 : decode cX11_init 151 = .ok (.if_icmp .ge 22, 3) := by decide +kernel
theorem dX11_init_154 : decode cX11_init 154 = .ok (.aload_n 0, 1) := by decide +kernel
theorem dX11_init_155 : decode cX11_init 155 = .ok (.getfield 48, 3) := by decide +kernel
theorem dX11_init_158 : decode cX11_init 158 = .ok (.iload_n 1, 1) := by decide +kernel
theorem dX11_init_159 : decode cX11_init 159 = .ok (.new 46, 3) := by decide +kernel
theorem dX11_init_162 : decode cX11_init 162 = .ok (.dup, 1) := by decide +kernel
theorem dX11_init_163 : decode cX11_init 163 = .ok (.invokespecial 86, 3) := by decide +kernel
theorem dX11_init_166 : decode cX11_init 166 = .ok (.aastore, 1) := by decide +kernel
theorem dX11_init_167 : decode cX11_init 167 = .ok (.iinc 1 1, 3) := by decide +kernel
theorem dX11_init_170 : decode cX11_init 170 = .ok (.goto (-25), 3) := by decide +kernel
theorem dX11_init_173 : decode cX11_init 173 = .ok (.return_, 1) := by decide +kernel
set_option maxRecDepth 20000 in
theorem ggX11_feed_X11_isOutside : GoodIn wsX11_feed wsX11_isOutside := goodIn_r _ [8] (by decide +kernel) (by decide +kernel)
set_option maxRecDepth 20000 in
theorem gX11_feed_X11_isOutside : GoodIn wsX11_feed (va_wsS RX11 87 yX11_isOutside wsX11_isOutside) := goodIn_app (goodIn_of _ (by decide +kernel)) ggX11_feed_X11_isOutside
set_option maxRecDepth 20000 in
theorem ggX11_feed_X9_add : GoodIn wsX11_feed wsX9_add := goodIn_r _ [13, 14, 15, 16, 17, 18, 19, 31, 32] (by decide +kernel) (by decide +kernel)
set_option maxRecDepth 20000 in
theorem gX11_feed_X9_add : GoodIn wsX11_feed (wsV RX11 92 RX9 yX9_add wsX9_add) := goodIn_app (goodIn_of _ (by decide +kernel)) ggX11_feed_X9_add
theorem dX11_feed_0 : decode cX11_feed 0 = .ok (.iload_n 1, 1) := by decide +kernel
theorem dX11_feed_1 : decode cX11_feed 1 = .ok (.sipush 255, 3) := by decide +kernel
theorem dX11_feed_4 : decode cX11_feed 4 = .ok (.invokestatic 87, 3) := by decide +kernel
theorem dX11_feed_7 : decode cX11_feed 7 = .ok (.ifCond .eq 6, 3) := by decide +kernel
theorem dX11_feed_10 : decode cX11_feed 10 = .ok (.ldc 91, 2) := by decide +kernel
theorem dX11_feed_12 : decode cX11_feed 12 = .ok (.ireturn, 1) := by decide +kernel
theorem dX11_feed_13 : decode cX11_feed 13 = .ok (.aload_n 0, 1) := by decide +kernel
theorem dX11_feed_14 : decode cX11_feed 14 = .ok (.getfield 12, 3) := by decide +kernel
theorem dX11_feed_17 : decode cX11_feed 17 = .ok (.iload_n 1, 1) := by decide +kernel
theorem dX11_feed_18 : decode cX11_feed 18 = .ok (.invokevirtual 92, 3) := by decide +kernel
theorem dX11_feed_21 : decode cX11_feed 21 = .ok (.ifCond .eq 13, 3) := by decide +kernel
theorem dX11_feed_24 : decode cX11_feed 24 = .ok (.aload_n 0, 1) := by decide +kernel
theorem dX11_feed_25 : decode cX11_feed 25 = .ok (.getfield 12, 3) := by decide +kernel
theorem dX11_feed_28 : decode cX11_feed 28 = .ok (.getfield 96, 3) := by decide +kernel
theorem dX11_feed_31 : decode cX11_feed 31 = .ok (.goto 5, 3) := by decide +kernel
theorem dX11_feed_34 : decode cX11_feed 34 = .ok (.ldc 100, 2) := by decide +kernel
theorem dX11_feed_36 : decode cX11_feed 36 = .ok (.ireturn, 1) := by decide +kernel
set_option maxRecDepth 20000 in
theorem ggX11_house_X6_read : GoodIn wsX11_house wsX6_read := goodIn_r _ [17, 18, 19, 20, 21, 22, 23, 24, 25, 26, 27, 28, 29, 30, 31, 32, 33, 34, 35, 36, 16, 37, 38, 39, 40, 41, 42, 43, 44, 45, 46, 47, 48, 49, 50, 51, 52, 53, 54, 55, 56, 57, 58, 59, 60, 61, 62, 63, 64, 65, 66, 67, 68, 69, 70, 71, 72, 73, 74, 75, 76, 77, 78, 79, 80, 81, 82, 83, 84, 85, 86, 87, 88, 89, 90, 91, 92, 93, 94, 95, 96, 97, 98, 99, 100, 101, 102, 103, 104, 105, 106, 107, 108, 109, 110, 111, 112, 113, 178, 179, 180, 181, 182, 183, 176, 177, 194, 195, 196, 197, 198, 199, 200, 201, 202, 203] (by decide +kernel) (by decide +kernel)
set_option maxRecDepth 20000 in
theorem gX11_house_X6_read : GoodIn wsX11_house (wsV RX11 101 RX6 yX6_read wsX6_read) := goodIn_app (goodIn_of _ (by decide +kernel)) ggX11_house_X6_read
set_option maxRecDepth 20000 in
theorem ggX11_house_X5_take : GoodIn wsX11_house wsX5_take := goodIn_r _ [117, 30, 31, 32, 33, 76, 99, 100, 111, 112, 113, 118, 119, 79, 120, 121, 122, 123, 124, 78, 80, 194, 195, 196, 197, 198, 199, 200, 201, 202, 203] (by decide +kernel) (by decide +kernel)
set_option maxRecDepth 20000 in
theorem gX11_house_X5_take : GoodIn wsX11_house (wsV RX11 108 RX5 yX5_take wsX5_take) := goodIn_app (goodIn_of _ (by decide +kernel)) ggX11_house_X5_take
set_option maxRecDepth 20000 in
theorem ggX11_house_X8_begin : GoodIn wsX11_house wsX8_begin := goodIn_r _ [129, 130, 131, 132, 133, 134, 135, 136, 128, 137, 138, 139, 140, 141, 142, 78, 79, 80, 143, 119, 120, 121, 122, 123, 124, 194, 195, 196, 197, 198, 199, 200, 201, 202, 203, 204] (by decide +kernel) (by decide +kernel)
set_option maxRecDepth 20000 in
theorem gX11_house_X8_begin : GoodIn wsX11_house (wsV RX11 112 RX8 yX8_begin wsX8_begin) := goodIn_app (goodIn_of _ (by decide +kernel)) ggX11_house_X8_begin
set_option maxRecDepth 20000 in
theorem ggX11_house_X4_forget : GoodIn wsX11_house wsX4_forget := goodIn_r _ [148, 149, 205, 206, 207] (by decide +kernel) (by decide +kernel)
set_option maxRecDepth 20000 in
theorem gX11_house_X4_forget : GoodIn wsX11_house (wsV RX11 115 RX4 yX4_forget wsX4_forget) := goodIn_app (goodIn_of _ (by decide +kernel)) ggX11_house_X4_forget
set_option maxRecDepth 20000 in
theorem ggX11_house_X11_forgetImages : GoodIn wsX11_house wsX11_forgetImages := goodIn_r _ [154, 155, 156, 157, 158, 159, 153, 160, 165, 166, 167, 168, 169, 170, 171, 172, 173, 174, 175, 208, 209, 210] (by decide +kernel) (by decide +kernel)
set_option maxRecDepth 20000 in
theorem gX11_house_X11_forgetImages : GoodIn wsX11_house (wsV RX11 118 RX11 yX11_forgetImages wsX11_forgetImages) := goodIn_app (goodIn_of _ (by decide +kernel)) ggX11_house_X11_forgetImages
set_option maxRecDepth 20000 in
theorem ggX11_house_X5_places : GoodIn wsX11_house wsX5_places := goodIn_r _ [164, 30, 194, 195, 196, 197, 198, 199, 200, 201, 202, 203] (by decide +kernel) (by decide +kernel)
set_option maxRecDepth 20000 in
theorem gX11_house_X5_places : GoodIn wsX11_house (wsV RX11 125 RX5 yX5_places wsX5_places) := goodIn_app (goodIn_of _ (by decide +kernel)) ggX11_house_X5_places
theorem dX11_house_0 : decode cX11_house 0 = .ok (.aload_n 0, 1) := by decide +kernel
theorem dX11_house_1 : decode cX11_house 1 = .ok (.getfield 28, 3) := by decide +kernel
theorem dX11_house_4 : decode cX11_house 4 = .ok (.invokevirtual 101, 3) := by decide +kernel
theorem dX11_house_7 : decode cX11_house 7 = .ok (.aload_n 0, 1) := by decide +kernel
theorem dX11_house_8 : decode cX11_house 8 = .ok (.getfield 12, 3) := by decide +kernel
theorem dX11_house_11 : decode cX11_house 11 = .ok (.iconst 0, 1) := by decide +kernel
theorem dX11_house_12 : decode cX11_house 12 = .ok (.putfield 96, 3) := by decide +kernel
theorem dX11_house_15 : decode cX11_house 15 = .ok (.aload_n 0, 1) := by decide +kernel
theorem dX11_house_16 : decode cX11_house 16 = .ok (.getfield 28, 3) := by decide +kernel
theorem dX11_house_19 : decode cX11_house 19 = .ok (.getfield 104, 3) := by decide +kernel
theorem dX11_house_22 : decode cX11_house 22 = .ok (.ifCond .eq 14, 3) := by decide +kernel
theorem dX11_house_25 : decode cX11_house 25 = .ok (.bipush (-10), 2) := by decide +kernel
theorem dX11_house_27 : decode cX11_house 27 = .ok (.aload_n 0, 1) := by decide +kernel
theorem dX11_house_28 : decode cX11_house 28 = .ok (.getfield 28, 3) := by decide +kernel
theorem dX11_house_31 : decode cX11_house 31 = .ok (.getfield 104, 3) := by decide +kernel
theorem dX11_house_34 : decode cX11_house 34 = .ok (.isub, 1) := by decide +kernel
theorem dX11_house_35 : decode cX11_house 35 = .ok (.ireturn, 1) := by decide +kernel
theorem dX11_house_36 : decode cX11_house 36 = .ok (.aload_n 0, 1) := by decide +kernel
theorem dX11_house_37 : decode cX11_house 37 = .ok (.getfield 19, 3) := by decide +kernel
theorem dX11_house_40 : decode cX11_house 40 = .ok (.aload_n 0, 1) := by decide +kernel
theorem dX11_house_41 : decode cX11_house 41 = .ok (.getfield 28, 3) := by decide +kernel
theorem dX11_house_44 : decode cX11_house 44 = .ok (.getfield 107, 3) := by decide +kernel
theorem dX11_house_47 : decode cX11_house 47 = .ok (.invokevirtual 108, 3) := by decide +kernel
theorem dX11_house_50 : decode cX11_house 50 = .ok (.aload_n 0, 1) := by decide +kernel
theorem dX11_house_51 : decode cX11_house 51 = .ok (.getfield 35, 3) := by decide +kernel
theorem dX11_house_54 : decode cX11_house 54 = .ok (.aload_n 0, 1) := by decide +kernel
theorem dX11_house_55 : decode cX11_house 55 = .ok (.getfield 19, 3) := by decide +kernel
theorem dX11_house_58 : decode cX11_house 58 = .ok (.invokevirtual 112, 3) := by decide +kernel
theorem dX11_house_61 : decode cX11_house 61 = .ok (.aload_n 0, 1) := by decide +kernel
theorem dX11_house_62 : decode cX11_house 62 = .ok (.getfield 42, 3) := by decide +kernel
theorem dX11_house_65 : decode cX11_house 65 = .ok (.invokevirtual 115, 3) := by decide +kernel
theorem dX11_house_68 : decode cX11_house 68 = .ok (.aload_n 0, 1) := by decide +kernel
theorem dX11_house_69 : decode cX11_house 69 = .ok (.invokevirtual 118, 3) := by decide +kernel
theorem dX11_house_72 : decode cX11_house 72 = .ok (.aload_n 0, 1) := by decide +kernel
theorem dX11_house_73 : decode cX11_house 73 = .ok (.getfield 75, 3) := by decide +kernel
theorem dX11_house_76 : decode cX11_house 76 = .ok (.iconst 0, 1) := by decide +kernel
theorem dX11_house_77 : decode cX11_house 77 = .ok (.putfield 121, 3) := by decide +kernel
theorem dX11_house_80 : decode cX11_house 80 = .ok (.aload_n 0, 1) := by decide +kernel
theorem dX11_house_81 : decode cX11_house 81 = .ok (.getfield 82, 3) := by decide +kernel
theorem dX11_house_84 : decode cX11_house 84 = .ok (.iconst 0, 1) := by decide +kernel
theorem dX11_house_85 : decode cX11_house 85 = .ok (.putfield 124, 3) := by decide +kernel
theorem dX11_house_88 : decode cX11_house 88 = .ok (.aload_n 0, 1) := by decide +kernel
theorem dX11_house_89 : decode cX11_house 89 = .ok (.getfield 19, 3) := by decide +kernel
theorem dX11_house_92 : decode cX11_house 92 = .ok (.invokevirtual 125, 3) := by decide +kernel
theorem dX11_house_95 : decode cX11_house 95 = .ok (.ireturn, 1) := by decide +kernel
theorem dX11_fault_0 : decode cX11_fault 0 = .ok (.aload_n 0, 1) := by decide +kernel
theorem dX11_fault_1 : decode cX11_fault 1 = .ok (.getfield 28, 3) := by decide +kernel
theorem dX11_fault_4 : decode cX11_fault 4 = .ok (.getfield 129, 3) := by decide +kernel
theorem dX11_fault_7 : decode cX11_fault 7 = .ok (.ireturn, 1) := by decide +kernel
set_option maxRecDepth 20000 in
theorem ggX11_told_X5_places : GoodIn wsX11_told wsX5_places := goodIn_r _ [18, 19, 41, 42, 43, 44, 45, 46, 47, 48, 49, 50] (by decide +kernel) (by decide +kernel)
set_option maxRecDepth 20000 in
theorem gX11_told_X5_places : GoodIn wsX11_told (wsV RX11 125 RX5 yX5_places wsX5_places) := goodIn_app (goodIn_of _ (by decide +kernel)) ggX11_told_X5_places
set_option maxRecDepth 20000 in
theorem ggX11_told_X8_get : GoodIn wsX11_told wsX8_get := goodIn_r _ [24, 25, 26, 27, 28, 29, 66] (by decide +kernel) (by decide +kernel)
set_option maxRecDepth 20000 in
theorem gX11_told_X8_get : GoodIn wsX11_told (wsV RX11 138 RX8 yX8_get wsX8_get) := goodIn_app (goodIn_of _ (by decide +kernel)) ggX11_told_X8_get
theorem dX11_told_0 : decode cX11_told 0 = .ok (.iload_n 1, 1) := by decide +kernel
theorem dX11_told_1 : decode cX11_told 1 = .ok (.tableswitch 180 0 12 #[67, 75, 83, 91, 99, 111, 120, 129, 138, 147, 156, 164, 172], 67) := by decide +kernel
theorem dX11_told_68 : decode cX11_told 68 = .ok (.aload_n 0, 1) := by decide +kernel
theorem dX11_told_69 : decode cX11_told 69 = .ok (.getfield 19, 3) := by decide +kernel
theorem dX11_told_72 : decode cX11_told 72 = .ok (.invokevirtual 125, 3) := by decide +kernel
theorem dX11_told_75 : decode cX11_told 75 = .ok (.ireturn, 1) := by decide +kernel
theorem dX11_told_76 : decode cX11_told 76 = .ok (.aload_n 0, 1) := by decide +kernel
theorem dX11_told_77 : decode cX11_told 77 = .ok (.getfield 19, 3) := by decide +kernel
theorem dX11_told_80 : decode cX11_told 80 = .ok (.getfield 132, 3) := by decide +kernel
theorem dX11_told_83 : decode cX11_told 83 = .ok (.ireturn, 1) := by decide +kernel
theorem dX11_told_84 : decode cX11_told 84 = .ok (.aload_n 0, 1) := by decide +kernel
theorem dX11_told_85 : decode cX11_told 85 = .ok (.getfield 19, 3) := by decide +kernel
theorem dX11_told_88 : decode cX11_told 88 = .ok (.getfield 135, 3) := by decide +kernel
theorem dX11_told_91 : decode cX11_told 91 = .ok (.ireturn, 1) := by decide +kernel
theorem dX11_told_92 : decode cX11_told 92 = .ok (.aload_n 0, 1) := by decide +kernel
theorem dX11_told_93 : decode cX11_told 93 = .ok (.getfield 12, 3) := by decide +kernel
theorem dX11_told_96 : decode cX11_told 96 = .ok (.getfield 96, 3) := by decide +kernel
theorem dX11_told_99 : decode cX11_told 99 = .ok (.ireturn, 1) := by decide +kernel
theorem dX11_told_100 : decode cX11_told 100 = .ok (.aload_n 0, 1) := by decide +kernel
theorem dX11_told_101 : decode cX11_told 101 = .ok (.getfield 35, 3) := by decide +kernel
theorem dX11_told_104 : decode cX11_told 104 = .ok (.iconst 0, 1) := by decide +kernel
theorem dX11_told_105 : decode cX11_told 105 = .ok (.invokevirtual 138, 3) := by decide +kernel
theorem dX11_told_108 : decode cX11_told 108 = .ok (.bipush 9, 2) := by decide +kernel
theorem dX11_told_110 : decode cX11_told 110 = .ok (.iadd, 1) := by decide +kernel
theorem dX11_told_111 : decode cX11_told 111 = .ok (.ireturn, 1) := by decide +kernel
theorem dX11_told_112 : decode cX11_told 112 = .ok (.aload_n 0, 1) := by decide +kernel
theorem dX11_told_113 : decode cX11_told 113 = .ok (.getfield 35, 3) := by decide +kernel
theorem dX11_told_116 : decode cX11_told 116 = .ok (.iconst 1, 1) := by decide +kernel
theorem dX11_told_117 : decode cX11_told 117 = .ok (.invokevirtual 138, 3) := by decide +kernel
theorem dX11_told_120 : decode cX11_told 120 = .ok (.ireturn, 1) := by decide +kernel
theorem dX11_told_121 : decode cX11_told 121 = .ok (.aload_n 0, 1) := by decide +kernel
theorem dX11_told_122 : decode cX11_told 122 = .ok (.getfield 35, 3) := by decide +kernel
theorem dX11_told_125 : decode cX11_told 125 = .ok (.iconst 2, 1) := by decide +kernel
theorem dX11_told_126 : decode cX11_told 126 = .ok (.invokevirtual 138, 3) := by decide +kernel
theorem dX11_told_129 : decode cX11_told 129 = .ok (.ireturn, 1) := by decide +kernel
theorem dX11_told_130 : decode cX11_told 130 = .ok (.aload_n 0, 1) := by decide +kernel
theorem dX11_told_131 : decode cX11_told 131 = .ok (.getfield 35, 3) := by decide +kernel
theorem dX11_told_134 : decode cX11_told 134 = .ok (.iconst 3, 1) := by decide +kernel
theorem dX11_told_135 : decode cX11_told 135 = .ok (.invokevirtual 138, 3) := by decide +kernel
theorem dX11_told_138 : decode cX11_told 138 = .ok (.ireturn, 1) := by decide +kernel
theorem dX11_told_139 : decode cX11_told 139 = .ok (.aload_n 0, 1) := by decide +kernel
theorem dX11_told_140 : decode cX11_told 140 = .ok (.getfield 35, 3) := by decide +kernel
theorem dX11_told_143 : decode cX11_told 143 = .ok (.iconst 4, 1) := by decide +kernel
theorem dX11_told_144 : decode cX11_told 144 = .ok (.invokevirtual 138, 3) := by decide +kernel
theorem dX11_told_147 : decode cX11_told 147 = .ok (.ireturn, 1) := by decide +kernel
theorem dX11_told_148 : decode cX11_told 148 = .ok (.aload_n 0, 1) := by decide +kernel
theorem dX11_told_149 : decode cX11_told 149 = .ok (.getfield 35, 3) := by decide +kernel
theorem dX11_told_152 : decode cX11_told 152 = .ok (.iconst 5, 1) := by decide +kernel
theorem dX11_told_153 : decode cX11_told 153 = .ok (.invokevirtual 138, 3) := by decide +kernel
theorem dX11_told_156 : decode cX11_told 156 = .ok (.ireturn, 1) := by decide +kernel
theorem dX11_told_157 : decode cX11_told 157 = .ok (.aload_n 0, 1) := by decide +kernel
theorem dX11_told_158 : decode cX11_told 158 = .ok (.getfield 75, 3) := by decide +kernel
theorem dX11_told_161 : decode cX11_told 161 = .ok (.getfield 121, 3) := by decide +kernel
theorem dX11_told_164 : decode cX11_told 164 = .ok (.ireturn, 1) := by decide +kernel
theorem dX11_told_165 : decode cX11_told 165 = .ok (.aload_n 0, 1) := by decide +kernel
theorem dX11_told_166 : decode cX11_told 166 = .ok (.getfield 82, 3) := by decide +kernel
theorem dX11_told_169 : decode cX11_told 169 = .ok (.getfield 124, 3) := by decide +kernel
theorem dX11_told_172 : decode cX11_told 172 = .ok (.ireturn, 1) := by decide +kernel
theorem dX11_told_173 : decode cX11_told 173 = .ok (.aload_n 0, 1) := by decide +kernel
theorem dX11_told_174 : decode cX11_told 174 = .ok (.getfield 42, 3) := by decide +kernel
theorem dX11_told_177 : decode cX11_told 177 = .ok (.getfield 142, 3) := by decide +kernel
theorem dX11_told_180 : decode cX11_told 180 = .ok (.ireturn, 1) := by decide +kernel
theorem dX11_told_181 : decode cX11_told 181 = .ok (.ldc 91, 2) := by decide +kernel
theorem dX11_told_183 : decode cX11_told 183 = .ok (.ireturn, 1) := by decide +kernel
set_option maxRecDepth 20000 in
theorem ggX11_thick_X5_isWall : GoodIn wsX11_thick wsX5_isWall := goodIn_r _ [8, 9, 31, 32, 33, 34, 35, 36, 37, 38, 39, 40] (by decide +kernel) (by decide +kernel)
set_option maxRecDepth 20000 in
theorem gX11_thick_X5_isWall : GoodIn wsX11_thick (wsV RX11 143 RX5 yX5_isWall wsX5_isWall) := goodIn_app (goodIn_of _ (by decide +kernel)) ggX11_thick_X5_isWall
set_option maxRecDepth 20000 in
theorem ggX11_thick_X8_get : GoodIn wsX11_thick wsX8_get := goodIn_r _ [14, 15, 16, 17, 18, 19, 41] (by decide +kernel) (by decide +kernel)
set_option maxRecDepth 20000 in
theorem gX11_thick_X8_get : GoodIn wsX11_thick (wsV RX11 138 RX8 yX8_get wsX8_get) := goodIn_app (goodIn_of _ (by decide +kernel)) ggX11_thick_X8_get
theorem dX11_thick_0 : decode cX11_thick 0 = .ok (.aload_n 0, 1) := by decide +kernel
theorem dX11_thick_1 : decode cX11_thick 1 = .ok (.getfield 19, 3) := by decide +kernel
theorem dX11_thick_4 : decode cX11_thick 4 = .ok (.iload_n 1, 1) := by decide +kernel
theorem dX11_thick_5 : decode cX11_thick 5 = .ok (.invokevirtual 143, 3) := by decide +kernel
theorem dX11_thick_8 : decode cX11_thick 8 = .ok (.ifCond .eq 17, 3) := by decide +kernel
theorem dX11_thick_11 : decode cX11_thick 11 = .ok (.aload_n 0, 1) := by decide +kernel
theorem dX11_thick_12 : decode cX11_thick 12 = .ok (.getfield 35, 3) := by decide +kernel
theorem dX11_thick_15 : decode cX11_thick 15 = .ok (.bipush 6, 2) := by decide +kernel
theorem dX11_thick_17 : decode cX11_thick 17 = .ok (.iload_n 1, 1) := by decide +kernel
theorem dX11_thick_18 : decode cX11_thick 18 = .ok (.iadd, 1) := by decide +kernel
theorem dX11_thick_19 : decode cX11_thick 19 = .ok (.invokevirtual 138, 3) := by decide +kernel
theorem dX11_thick_22 : decode cX11_thick 22 = .ok (.goto 5, 3) := by decide +kernel
theorem dX11_thick_25 : decode cX11_thick 25 = .ok (.ldc 146, 2) := by decide +kernel
theorem dX11_thick_27 : decode cX11_thick 27 = .ok (.ireturn, 1) := by decide +kernel
set_option maxRecDepth 20000 in
theorem ggX11_sound_X5_isSound : GoodIn wsX11_sound wsX5_isSound := goodIn_r _ [10, 11, 27, 28, 29, 30, 31, 32, 33, 34, 35, 36] (by decide +kernel) (by decide +kernel)
set_option maxRecDepth 20000 in
theorem gX11_sound_X5_isSound : GoodIn wsX11_sound (wsV RX11 147 RX5 yX5_isSound wsX5_isSound) := goodIn_app (goodIn_of _ (by decide +kernel)) ggX11_sound_X5_isSound
set_option maxRecDepth 20000 in
theorem ggX11_sound_X7_get : GoodIn wsX11_sound wsX7_get := goodIn_r _ [15] (by decide +kernel) (by decide +kernel)
set_option maxRecDepth 20000 in
theorem gX11_sound_X7_get : GoodIn wsX11_sound (va_wsS RX11 154 yX7_get wsX7_get) := goodIn_app (goodIn_of _ (by decide +kernel)) ggX11_sound_X7_get
theorem dX11_sound_0 : decode cX11_sound 0 = .ok (.aload_n 0, 1) := by decide +kernel
theorem dX11_sound_1 : decode cX11_sound 1 = .ok (.getfield 19, 3) := by decide +kernel
theorem dX11_sound_4 : decode cX11_sound 4 = .ok (.iload_n 1, 1) := by decide +kernel
theorem dX11_sound_5 : decode cX11_sound 5 = .ok (.invokevirtual 147, 3) := by decide +kernel
theorem dX11_sound_8 : decode cX11_sound 8 = .ok (.ifCond .ne 6, 3) := by decide +kernel
theorem dX11_sound_11 : decode cX11_sound 11 = .ok (.ldc 146, 2) := by decide +kernel
theorem dX11_sound_13 : decode cX11_sound 13 = .ok (.ireturn, 1) := by decide +kernel
theorem dX11_sound_14 : decode cX11_sound 14 = .ok (.iload_n 2, 1) := by decide +kernel
theorem dX11_sound_15 : decode cX11_sound 15 = .ok (.lookupswitch 49 #[(0, 25), (1, 37)], 25) := by decide +kernel
theorem dX11_sound_40 : decode cX11_sound 40 = .ok (.aload_n 0, 1) := by decide +kernel
theorem dX11_sound_41 : decode cX11_sound 41 = .ok (.getfield 19, 3) := by decide +kernel
theorem dX11_sound_44 : decode cX11_sound 44 = .ok (.getfield 150, 3) := by decide +kernel
theorem dX11_sound_47 : decode cX11_sound 47 = .ok (.iload_n 1, 1) := by decide +kernel
theorem dX11_sound_48 : decode cX11_sound 48 = .ok (.invokestatic 154, 3) := by decide +kernel
theorem dX11_sound_51 : decode cX11_sound 51 = .ok (.ireturn, 1) := by decide +kernel
theorem dX11_sound_52 : decode cX11_sound 52 = .ok (.aload_n 0, 1) := by decide +kernel
theorem dX11_sound_53 : decode cX11_sound 53 = .ok (.getfield 19, 3) := by decide +kernel
theorem dX11_sound_56 : decode cX11_sound 56 = .ok (.getfield 159, 3) := by decide +kernel
theorem dX11_sound_59 : decode cX11_sound 59 = .ok (.iload_n 1, 1) := by decide +kernel
theorem dX11_sound_60 : decode cX11_sound 60 = .ok (.invokestatic 154, 3) := by decide +kernel
theorem dX11_sound_63 : decode cX11_sound 63 = .ok (.ireturn, 1) := by decide +kernel
theorem dX11_sound_64 : decode cX11_sound 64 = .ok (.ldc 91, 2) := by decide +kernel
theorem dX11_sound_66 : decode cX11_sound 66 = .ok (.ireturn, 1) := by decide +kernel
set_option maxRecDepth 20000 in
theorem ggX11_witness_X5_isWitness : GoodIn wsX11_witness wsX5_isWitness := goodIn_r _ [11, 12, 35, 36, 37, 38, 39, 40, 41, 42, 43, 44] (by decide +kernel) (by decide +kernel)
set_option maxRecDepth 20000 in
theorem gX11_witness_X5_isWitness : GoodIn wsX11_witness (wsV RX11 162 RX5 yX5_isWitness wsX5_isWitness) := goodIn_app (goodIn_of _ (by decide +kernel)) ggX11_witness_X5_isWitness
set_option maxRecDepth 20000 in
theorem ggX11_witness_X8_get : GoodIn wsX11_witness wsX8_get := goodIn_r _ [17, 18, 19, 20, 21, 22, 45] (by decide +kernel) (by decide +kernel)
set_option maxRecDepth 20000 in
theorem gX11_witness_X8_get : GoodIn wsX11_witness (wsV RX11 138 RX8 yX8_get wsX8_get) := goodIn_app (goodIn_of _ (by decide +kernel)) ggX11_witness_X8_get
set_option maxRecDepth 20000 in
theorem ggX11_witness_X7_get : GoodIn wsX11_witness wsX7_get := goodIn_r _ [22] (by decide +kernel) (by decide +kernel)
set_option maxRecDepth 20000 in
theorem gX11_witness_X7_get : GoodIn wsX11_witness (va_wsS RX11 154 yX7_get wsX7_get) := goodIn_app (goodIn_of _ (by decide +kernel)) ggX11_witness_X7_get
theorem dX11_witness_0 : decode cX11_witness 0 = .ok (.aload_n 0, 1) := by decide +kernel
theorem dX11_witness_1 : decode cX11_witness 1 = .ok (.getfield 19, 3) := by decide +kernel
theorem dX11_witness_4 : decode cX11_witness 4 = .ok (.iload_n 1, 1) := by decide +kernel
theorem dX11_witness_5 : decode cX11_witness 5 = .ok (.invokevirtual 162, 3) := by decide +kernel
theorem dX11_witness_8 : decode cX11_witness 8 = .ok (.ifCond .ne 6, 3) := by decide +kernel
theorem dX11_witness_11 : decode cX11_witness 11 = .ok (.ldc 146, 2) := by decide +kernel
theorem dX11_witness_13 : decode cX11_witness 13 = .ok (.ireturn, 1) := by decide +kernel
theorem dX11_witness_14 : decode cX11_witness 14 = .ok (.iload_n 2, 1) := by decide +kernel
theorem dX11_witness_15 : decode cX11_witness 15 = .ok (.tableswitch 77 0 3 #[29, 41, 53, 65], 29) := by decide +kernel
theorem dX11_witness_44 : decode cX11_witness 44 = .ok (.aload_n 0, 1) := by decide +kernel
theorem dX11_witness_45 : decode cX11_witness 45 = .ok (.getfield 35, 3) := by decide +kernel
theorem dX11_witness_48 : decode cX11_witness 48 = .ok (.bipush 14, 2) := by decide +kernel
theorem dX11_witness_50 : decode cX11_witness 50 = .ok (.iload_n 1, 1) := by decide +kernel
theorem dX11_witness_51 : decode cX11_witness 51 = .ok (.iadd, 1) := by decide +kernel
theorem dX11_witness_52 : decode cX11_witness 52 = .ok (.invokevirtual 138, 3) := by decide +kernel
theorem dX11_witness_55 : decode cX11_witness 55 = .ok (.ireturn, 1) := by decide +kernel
theorem dX11_witness_56 : decode cX11_witness 56 = .ok (.aload_n 0, 1) := by decide +kernel
theorem dX11_witness_57 : decode cX11_witness 57 = .ok (.getfield 19, 3) := by decide +kernel
theorem dX11_witness_60 : decode cX11_witness 60 = .ok (.getfield 165, 3) := by decide +kernel
theorem dX11_witness_63 : decode cX11_witness 63 = .ok (.iload_n 1, 1) := by decide +kernel
theorem dX11_witness_64 : decode cX11_witness 64 = .ok (.invokestatic 154, 3) := by decide +kernel
theorem dX11_witness_67 : decode cX11_witness 67 = .ok (.ireturn, 1) := by decide +kernel
theorem dX11_witness_68 : decode cX11_witness 68 = .ok (.aload_n 0, 1) := by decide +kernel
theorem dX11_witness_69 : decode cX11_witness 69 = .ok (.getfield 19, 3) := by decide +kernel
theorem dX11_witness_72 : decode cX11_witness 72 = .ok (.getfield 168, 3) := by decide +kernel
theorem dX11_witness_75 : decode cX11_witness 75 = .ok (.iload_n 1, 1) := by decide +kernel
theorem dX11_witness_76 : decode cX11_witness 76 = .ok (.invokestatic 154, 3) := by decide +kernel
theorem dX11_witness_79 : decode cX11_witness 79 = .ok (.ireturn, 1) := by decide +kernel
theorem dX11_witness_80 : decode cX11_witness 80 = .ok (.aload_n 0, 1) := by decide +kernel
theorem dX11_witness_81 : decode cX11_witness 81 = .ok (.getfield 35, 3) := by decide +kernel
theorem dX11_witness_84 : decode cX11_witness 84 = .ok (.bipush 21, 2) := by decide +kernel
theorem dX11_witness_86 : decode cX11_witness 86 = .ok (.iload_n 1, 1) := by decide +kernel
theorem dX11_witness_87 : decode cX11_witness 87 = .ok (.iadd, 1) := by decide +kernel
theorem dX11_witness_88 : decode cX11_witness 88 = .ok (.invokevirtual 138, 3) := by decide +kernel
theorem dX11_witness_91 : decode cX11_witness 91 = .ok (.ireturn, 1) := by decide +kernel
theorem dX11_witness_92 : decode cX11_witness 92 = .ok (.ldc 91, 2) := by decide +kernel
theorem dX11_witness_94 : decode cX11_witness 94 = .ok (.ireturn, 1) := by decide +kernel
set_option maxRecDepth 20000 in
theorem ggX11_morning_X5_isSound : GoodIn wsX11_morning wsX5_isSound := goodIn_r _ [10, 11, 109, 110, 111, 112, 113, 114, 115, 116, 117, 118] (by decide +kernel) (by decide +kernel)
set_option maxRecDepth 20000 in
theorem gX11_morning_X5_isSound : GoodIn wsX11_morning (wsV RX11 147 RX5 yX5_isSound wsX5_isSound) := goodIn_app (goodIn_of _ (by decide +kernel)) ggX11_morning_X5_isSound
set_option maxRecDepth 20000 in
theorem ggX11_morning_X5_isPlace : GoodIn wsX11_morning wsX5_isPlace := goodIn_r _ [15, 16, 17, 18, 9, 19, 20, 109, 110, 111, 112, 113, 114, 115, 116, 117, 118] (by decide +kernel) (by decide +kernel)
set_option maxRecDepth 20000 in
theorem gX11_morning_X5_isPlace : GoodIn wsX11_morning (wsV RX11 171 RX5 yX5_isPlace wsX5_isPlace) := goodIn_app (goodIn_of _ (by decide +kernel)) ggX11_morning_X5_isPlace
set_option maxRecDepth 20000 in
theorem ggX11_morning_X11_isFullOfMornings : GoodIn wsX11_morning wsX11_isFullOfMornings := goodIn_r _ [25, 5, 26, 27, 28, 29, 30, 31, 32, 33, 34, 35, 98, 99, 100, 101, 102, 103, 104, 105, 106, 107, 108, 119] (by decide +kernel) (by decide +kernel)
set_option maxRecDepth 20000 in
theorem gX11_morning_X11_isFullOfMornings : GoodIn wsX11_morning (wsV RX11 174 RX11 yX11_isFullOfMornings wsX11_isFullOfMornings) := goodIn_app (goodIn_of _ (by decide +kernel)) ggX11_morning_X11_isFullOfMornings
set_option maxRecDepth 20000 in
theorem ggX11_morning_X4_push : GoodIn wsX11_morning wsX4_push := goodIn_r _ [40, 41, 42, 43, 44, 45, 46, 47, 48, 49, 50, 34, 51, 52, 33, 35, 53, 54, 55, 119, 120, 121, 122] (by decide +kernel) (by decide +kernel)
set_option maxRecDepth 20000 in
theorem gX11_morning_X4_push : GoodIn wsX11_morning (wsV RX11 178 RX4 yX4_push wsX4_push) := goodIn_app (goodIn_of _ (by decide +kernel)) ggX11_morning_X4_push
set_option maxRecDepth 20000 in
theorem ggX11_morning_X11_swear : GoodIn wsX11_morning wsX11_swear := goodIn_r _ [59, 5, 60, 1, 61, 26, 27, 28, 29, 30, 31, 32, 33, 34, 35, 62, 63, 64, 65, 66, 54, 55, 67, 68, 69, 70, 71, 72, 73, 74, 75, 76, 77, 78, 79, 80, 81, 82, 83, 84, 85, 86, 46, 47, 48, 87, 88, 89, 90, 91, 92, 93, 94, 95, 96, 97, 98, 99, 100, 101, 102, 103, 104, 105, 106, 107, 108, 109, 110, 111, 112, 113, 114, 115, 116, 117, 118, 119, 123, 124] (by decide +kernel) (by decide +kernel)
set_option maxRecDepth 20000 in
theorem gX11_morning_X11_swear : GoodIn wsX11_morning (wsV RX11 182 RX11 yX11_swear wsX11_swear) := goodIn_app (goodIn_of _ (by decide +kernel)) ggX11_morning_X11_swear
set_option maxRecDepth 20000 in
theorem ggX11_morning_X8_get : GoodIn wsX11_morning wsX8_get := goodIn_r _ [30, 31, 32, 33, 34, 35, 119] (by decide +kernel) (by decide +kernel)
set_option maxRecDepth 20000 in
theorem gX11_morning_X8_get : GoodIn wsX11_morning (wsV RX11 138 RX8 yX8_get wsX8_get) := goodIn_app (goodIn_of _ (by decide +kernel)) ggX11_morning_X8_get
theorem dX11_morning_0 : decode cX11_morning 0 = .ok (.aload_n 0, 1) := by decide +kernel
theorem dX11_morning_1 : decode cX11_morning 1 = .ok (.getfield 19, 3) := by decide +kernel
theorem dX11_morning_4 : decode cX11_morning 4 = .ok (.iload_n 1, 1) := by decide +kernel
theorem dX11_morning_5 : decode cX11_morning 5 = .ok (.invokevirtual 147, 3) := by decide +kernel
theorem dX11_morning_8 : decode cX11_morning 8 = .ok (.ifCond .eq 14, 3) := by decide +kernel
theorem dX11_morning_11 : decode cX11_morning 11 = .ok (.aload_n 0, 1) := by decide +kernel
theorem dX11_morning_12 : decode cX11_morning 12 = .ok (.getfield 19, 3) := by decide +kernel
theorem dX11_morning_15 : decode cX11_morning 15 = .ok (.iload_n 2, 1) := by decide +kernel
theorem dX11_morning_16 : decode cX11_morning 16 = .ok (.invokevirtual 171, 3) := by decide +kernel
theorem dX11_morning_19 : decode cX11_morning 19 = .ok (.ifCond .ne 6, 3) := by decide +kernel
theorem dX11_morning_22 : decode cX11_morning 22 = .ok (.ldc 146, 2) := by decide +kernel
theorem dX11_morning_24 : decode cX11_morning 24 = .ok (.ireturn, 1) := by decide +kernel
theorem dX11_morning_25 : decode cX11_morning 25 = .ok (.aload_n 0, 1) := by decide +kernel
theorem dX11_morning_26 : decode cX11_morning 26 = .ok (.invokevirtual 174, 3) := by decide +kernel
theorem dX11_morning_29 : decode cX11_morning 29 = .ok (.ifCond .eq 6, 3) := by decide +kernel
theorem dX11_morning_32 : decode cX11_morning 32 = .ok (.ldc 100, 2) := by decide +kernel
theorem dX11_morning_34 : decode cX11_morning 34 = .ok (.ireturn, 1) := by decide +kernel
theorem dX11_morning_35 : decode cX11_morning 35 = .ok (.aload_n 0, 1) := by decide +kernel
theorem dX11_morning_36 : decode cX11_morning 36 = .ok (.getfield 42, 3) := by decide +kernel
theorem dX11_morning_39 : decode cX11_morning 39 = .ok (.aload_n 0, 1) := by decide +kernel
theorem dX11_morning_40 : decode cX11_morning 40 = .ok (.getfield 35, 3) := by decide +kernel
theorem dX11_morning_43 : decode cX11_morning 43 = .ok (.invokevirtual 178, 3) := by decide +kernel
theorem dX11_morning_46 : decode cX11_morning 46 = .ok (.aload_n 0, 1) := by decide +kernel
theorem dX11_morning_47 : decode cX11_morning 47 = .ok (.iload_n 1, 1) := by decide +kernel
theorem dX11_morning_48 : decode cX11_morning 48 = .ok (.iload_n 2, 1) := by decide +kernel
theorem dX11_morning_49 : decode cX11_morning 49 = .ok (.invokevirtual 182, 3) := by decide +kernel
theorem dX11_morning_52 : decode cX11_morning 52 = .ok (.aload_n 0, 1) := by decide +kernel
theorem dX11_morning_53 : decode cX11_morning 53 = .ok (.getfield 35, 3) := by decide +kernel
theorem dX11_morning_56 : decode cX11_morning 56 = .ok (.iconst 4, 1) := by decide +kernel
theorem dX11_morning_57 : decode cX11_morning 57 = .ok (.invokevirtual 138, 3) := by decide +kernel
theorem dX11_morning_60 : decode cX11_morning 60 = .ok (.ireturn, 1) := by decide +kernel
set_option maxRecDepth 20000 in
theorem ggX11_move_X5_isWitness : GoodIn wsX11_move wsX5_isWitness := goodIn_r _ [7, 8, 71, 72, 73, 74, 75, 76, 77, 78, 79, 80] (by decide +kernel) (by decide +kernel)
set_option maxRecDepth 20000 in
theorem gX11_move_X5_isWitness : GoodIn wsX11_move (wsV RX11 162 RX5 yX5_isWitness wsX5_isWitness) := goodIn_app (goodIn_of _ (by decide +kernel)) ggX11_move_X5_isWitness
set_option maxRecDepth 20000 in
theorem ggX11_move_X5_isPlace : GoodIn wsX11_move wsX5_isPlace := goodIn_r _ [12, 13, 14, 15, 6, 16, 17, 71, 72, 73, 74, 75, 76, 77, 78, 79, 80] (by decide +kernel) (by decide +kernel)
set_option maxRecDepth 20000 in
theorem gX11_move_X5_isPlace : GoodIn wsX11_move (wsV RX11 171 RX5 yX5_isPlace wsX5_isPlace) := goodIn_app (goodIn_of _ (by decide +kernel)) ggX11_move_X5_isPlace
set_option maxRecDepth 20000 in
theorem ggX11_move_X11_change : GoodIn wsX11_move wsX11_change := goodIn_r _ [22, 23, 24, 25, 26, 27, 28, 29, 30, 31, 32, 33, 34, 35, 36, 37, 38, 39, 40, 41, 42, 43, 44, 45, 46, 47, 48, 49, 50, 51, 52, 53, 54, 55, 56, 57, 58, 59, 60, 61, 62, 63, 64, 65, 66, 67, 68, 69, 70, 81, 82, 83, 84] (by decide +kernel) (by decide +kernel)
set_option maxRecDepth 20000 in
theorem gX11_move_X11_change : GoodIn wsX11_move (wsV RX11 186 RX11 yX11_change wsX11_change) := goodIn_app (goodIn_of _ (by decide +kernel)) ggX11_move_X11_change
theorem dX11_move_0 : decode cX11_move 0 = .ok (.aload_n 0, 1) := by decide +kernel
theorem dX11_move_1 : decode cX11_move 1 = .ok (.getfield 19, 3) := by decide +kernel
theorem dX11_move_4 : decode cX11_move 4 = .ok (.iload_n 1, 1) := by decide +kernel
theorem dX11_move_5 : decode cX11_move 5 = .ok (.invokevirtual 162, 3) := by decide +kernel
theorem dX11_move_8 : decode cX11_move 8 = .ok (.ifCond .eq 14, 3) := by decide +kernel
theorem dX11_move_11 : decode cX11_move 11 = .ok (.aload_n 0, 1) := by decide +kernel
theorem dX11_move_12 : decode cX11_move 12 = .ok (.getfield 19, 3) := by decide +kernel
theorem dX11_move_15 : decode cX11_move 15 = .ok (.iload_n 2, 1) := by decide +kernel
theorem dX11_move_16 : decode cX11_move 16 = .ok (.invokevirtual 171, 3) := by decide +kernel
theorem dX11_move_19 : decode cX11_move 19 = .ok (.ifCond .ne 6, 3) := by decide +kernel
theorem dX11_move_22 : decode cX11_move 22 = .ok (.ldc 146, 2) := by decide +kernel
theorem dX11_move_24 : decode cX11_move 24 = .ok (.ireturn, 1) := by decide +kernel
theorem dX11_move_25 : decode cX11_move 25 = .ok (.aload_n 0, 1) := by decide +kernel
theorem dX11_move_26 : decode cX11_move 26 = .ok (.bipush 14, 2) := by decide +kernel
theorem dX11_move_28 : decode cX11_move 28 = .ok (.iload_n 1, 1) := by decide +kernel
theorem dX11_move_29 : decode cX11_move 29 = .ok (.iadd, 1) := by decide +kernel
theorem dX11_move_30 : decode cX11_move 30 = .ok (.iload_n 2, 1) := by decide +kernel
theorem dX11_move_31 : decode cX11_move 31 = .ok (.invokevirtual 186, 3) := by decide +kernel
theorem dX11_move_34 : decode cX11_move 34 = .ok (.ireturn, 1) := by decide +kernel
set_option maxRecDepth 20000 in
theorem ggX11_wall_X5_isWall : GoodIn wsX11_wall wsX5_isWall := goodIn_r _ [8, 9, 66, 67, 68, 69, 70, 71, 72, 73, 74, 75] (by decide +kernel) (by decide +kernel)
set_option maxRecDepth 20000 in
theorem gX11_wall_X5_isWall : GoodIn wsX11_wall (wsV RX11 143 RX5 yX5_isWall wsX5_isWall) := goodIn_app (goodIn_of _ (by decide +kernel)) ggX11_wall_X5_isWall
set_option maxRecDepth 20000 in
theorem ggX11_wall_X11_isOutside : GoodIn wsX11_wall wsX11_isOutside := goodIn_r _ [13] (by decide +kernel) (by decide +kernel)
set_option maxRecDepth 20000 in
theorem gX11_wall_X11_isOutside : GoodIn wsX11_wall (va_wsS RX11 87 yX11_isOutside wsX11_isOutside) := goodIn_app (goodIn_of _ (by decide +kernel)) ggX11_wall_X11_isOutside
set_option maxRecDepth 20000 in
theorem ggX11_wall_X11_change : GoodIn wsX11_wall wsX11_change := goodIn_r _ [17, 18, 19, 20, 21, 22, 23, 24, 25, 26, 27, 28, 29, 30, 31, 32, 33, 34, 35, 36, 37, 38, 39, 40, 41, 42, 43, 44, 45, 46, 47, 48, 49, 50, 51, 52, 53, 54, 55, 56, 57, 58, 59, 60, 61, 62, 63, 64, 65, 76, 77, 78, 79] (by decide +kernel) (by decide +kernel)
set_option maxRecDepth 20000 in
theorem gX11_wall_X11_change : GoodIn wsX11_wall (wsV RX11 186 RX11 yX11_change wsX11_change) := goodIn_app (goodIn_of _ (by decide +kernel)) ggX11_wall_X11_change
theorem dX11_wall_0 : decode cX11_wall 0 = .ok (.aload_n 0, 1) := by decide +kernel
theorem dX11_wall_1 : decode cX11_wall 1 = .ok (.getfield 19, 3) := by decide +kernel
theorem dX11_wall_4 : decode cX11_wall 4 = .ok (.iload_n 1, 1) := by decide +kernel
theorem dX11_wall_5 : decode cX11_wall 5 = .ok (.invokevirtual 143, 3) := by decide +kernel
theorem dX11_wall_8 : decode cX11_wall 8 = .ok (.ifCond .ne 6, 3) := by decide +kernel
theorem dX11_wall_11 : decode cX11_wall 11 = .ok (.ldc 146, 2) := by decide +kernel
theorem dX11_wall_13 : decode cX11_wall 13 = .ok (.ireturn, 1) := by decide +kernel
theorem dX11_wall_14 : decode cX11_wall 14 = .ok (.iload_n 2, 1) := by decide +kernel
theorem dX11_wall_15 : decode cX11_wall 15 = .ok (.bipush 20, 2) := by decide +kernel
theorem dX11_wall_17 : decode cX11_wall 17 = .ok (.invokestatic 87, 3) := by decide +kernel
theorem dX11_wall_20 : decode cX11_wall 20 = .ok (.ifCond .eq 6, 3) := by decide +kernel
theorem dX11_wall_23 : decode cX11_wall 23 = .ok (.ldc 91, 2) := by decide +kernel
theorem dX11_wall_25 : decode cX11_wall 25 = .ok (.ireturn, 1) := by decide +kernel
theorem dX11_wall_26 : decode cX11_wall 26 = .ok (.aload_n 0, 1) := by decide +kernel
theorem dX11_wall_27 : decode cX11_wall 27 = .ok (.bipush 6, 2) := by decide +kernel
theorem dX11_wall_29 : decode cX11_wall 29 = .ok (.iload_n 1, 1) := by decide +kernel
theorem dX11_wall_30 : decode cX11_wall 30 = .ok (.iadd, 1) := by decide +kernel
theorem dX11_wall_31 : decode cX11_wall 31 = .ok (.iload_n 2, 1) := by decide +kernel
theorem dX11_wall_32 : decode cX11_wall 32 = .ok (.invokevirtual 186, 3) := by decide +kernel
theorem dX11_wall_35 : decode cX11_wall 35 = .ok (.ireturn, 1) := by decide +kernel
set_option maxRecDepth 20000 in
theorem ggX11_wind_X11_isOutside : GoodIn wsX11_wind wsX11_isOutside := goodIn_r _ [7] (by decide +kernel) (by decide +kernel)
set_option maxRecDepth 20000 in
theorem gX11_wind_X11_isOutside : GoodIn wsX11_wind (va_wsS RX11 87 yX11_isOutside wsX11_isOutside) := goodIn_app (goodIn_of _ (by decide +kernel)) ggX11_wind_X11_isOutside
set_option maxRecDepth 20000 in
theorem ggX11_wind_X5_stands : GoodIn wsX11_wind wsX5_stands := goodIn_r _ [12, 13, 66, 67, 68, 69, 70, 71, 72, 73, 74, 75] (by decide +kernel) (by decide +kernel)
set_option maxRecDepth 20000 in
theorem gX11_wind_X5_stands : GoodIn wsX11_wind (wsV RX11 190 RX5 yX5_stands wsX5_stands) := goodIn_app (goodIn_of _ (by decide +kernel)) ggX11_wind_X5_stands
set_option maxRecDepth 20000 in
theorem ggX11_wind_X11_change : GoodIn wsX11_wind wsX11_change := goodIn_r _ [17, 18, 19, 20, 21, 22, 23, 24, 25, 26, 27, 28, 29, 30, 31, 32, 33, 34, 35, 36, 37, 38, 39, 40, 41, 42, 43, 44, 45, 46, 47, 48, 49, 50, 51, 52, 53, 54, 55, 56, 57, 58, 59, 60, 61, 62, 63, 64, 65, 76, 77, 78, 79] (by decide +kernel) (by decide +kernel)
set_option maxRecDepth 20000 in
theorem gX11_wind_X11_change : GoodIn wsX11_wind (wsV RX11 186 RX11 yX11_change wsX11_change) := goodIn_app (goodIn_of _ (by decide +kernel)) ggX11_wind_X11_change
theorem dX11_wind_0 : decode cX11_wind 0 = .ok (.iload_n 1, 1) := by decide +kernel
theorem dX11_wind_1 : decode cX11_wind 1 = .ok (.bipush 18, 2) := by decide +kernel
theorem dX11_wind_3 : decode cX11_wind 3 = .ok (.invokestatic 87, 3) := by decide +kernel
theorem dX11_wind_6 : decode cX11_wind 6 = .ok (.ifCond .eq 6, 3) := by decide +kernel
theorem dX11_wind_9 : decode cX11_wind 9 = .ok (.ldc 91, 2) := by decide +kernel
theorem dX11_wind_11 : decode cX11_wind 11 = .ok (.ireturn, 1) := by decide +kernel
theorem dX11_wind_12 : decode cX11_wind 12 = .ok (.aload_n 0, 1) := by decide +kernel
theorem dX11_wind_13 : decode cX11_wind 13 = .ok (.getfield 19, 3) := by decide +kernel
theorem dX11_wind_16 : decode cX11_wind 16 = .ok (.invokevirtual 190, 3) := by decide +kernel
theorem dX11_wind_19 : decode cX11_wind 19 = .ok (.ifCond .ne 6, 3) := by decide +kernel
theorem dX11_wind_22 : decode cX11_wind 22 = .ok (.ldc 193, 2) := by decide +kernel
theorem dX11_wind_24 : decode cX11_wind 24 = .ok (.ireturn, 1) := by decide +kernel
theorem dX11_wind_25 : decode cX11_wind 25 = .ok (.aload_n 0, 1) := by decide +kernel
theorem dX11_wind_26 : decode cX11_wind 26 = .ok (.iconst 0, 1) := by decide +kernel
theorem dX11_wind_27 : decode cX11_wind 27 = .ok (.iload_n 1, 1) := by decide +kernel
theorem dX11_wind_28 : decode cX11_wind 28 = .ok (.bipush 9, 2) := by decide +kernel
theorem dX11_wind_30 : decode cX11_wind 30 = .ok (.isub, 1) := by decide +kernel
theorem dX11_wind_31 : decode cX11_wind 31 = .ok (.invokevirtual 186, 3) := by decide +kernel
theorem dX11_wind_34 : decode cX11_wind 34 = .ok (.bipush 9, 2) := by decide +kernel
theorem dX11_wind_36 : decode cX11_wind 36 = .ok (.iadd, 1) := by decide +kernel
theorem dX11_wind_37 : decode cX11_wind 37 = .ok (.ireturn, 1) := by decide +kernel
set_option maxRecDepth 20000 in
theorem ggX11_drift_X5_stands : GoodIn wsX11_drift wsX5_stands := goodIn_r _ [12, 13, 115, 116, 117, 118, 119, 120, 121, 122, 123, 124] (by decide +kernel) (by decide +kernel)
set_option maxRecDepth 20000 in
theorem gX11_drift_X5_stands : GoodIn wsX11_drift (wsV RX11 190 RX5 yX5_stands wsX5_stands) := goodIn_app (goodIn_of _ (by decide +kernel)) ggX11_drift_X5_stands
set_option maxRecDepth 20000 in
theorem ggX11_drift_X11_isFullOfMornings : GoodIn wsX11_drift wsX11_isFullOfMornings := goodIn_r _ [18, 6, 19, 20, 21, 22, 23, 24, 25, 26, 27, 28, 104, 105, 106, 107, 108, 109, 110, 111, 112, 113, 114, 125] (by decide +kernel) (by decide +kernel)
set_option maxRecDepth 20000 in
theorem gX11_drift_X11_isFullOfMornings : GoodIn wsX11_drift (wsV RX11 174 RX11 yX11_isFullOfMornings wsX11_isFullOfMornings) := goodIn_app (goodIn_of _ (by decide +kernel)) ggX11_drift_X11_isFullOfMornings
set_option maxRecDepth 20000 in
theorem ggX11_drift_X4_push : GoodIn wsX11_drift wsX4_push := goodIn_r _ [33, 34, 35, 36, 37, 38, 39, 40, 41, 42, 43, 27, 44, 45, 26, 28, 46, 47, 48, 125, 126, 127, 128] (by decide +kernel) (by decide +kernel)
set_option maxRecDepth 20000 in
theorem gX11_drift_X4_push : GoodIn wsX11_drift (wsV RX11 178 RX4 yX4_push wsX4_push) := goodIn_app (goodIn_of _ (by decide +kernel)) ggX11_drift_X4_push
set_option maxRecDepth 20000 in
theorem ggX11_drift_X11_draw : GoodIn wsX11_drift wsX11_draw := goodIn_r _ [52, 53, 54, 55, 56, 57, 104, 105, 106, 107, 108, 109, 110, 111, 112, 113, 114] (by decide +kernel) (by decide +kernel)
set_option maxRecDepth 20000 in
theorem gX11_drift_X11_draw : GoodIn wsX11_drift (wsV RX11 194 RX11 yX11_draw wsX11_draw) := goodIn_app (goodIn_of _ (by decide +kernel)) ggX11_drift_X11_draw
set_option maxRecDepth 20000 in
theorem ggX11_drift_X5_places : GoodIn wsX11_drift wsX5_places := goodIn_r _ [61, 13, 115, 116, 117, 118, 119, 120, 121, 122, 123, 124] (by decide +kernel) (by decide +kernel)
set_option maxRecDepth 20000 in
theorem gX11_drift_X5_places : GoodIn wsX11_drift (wsV RX11 125 RX5 yX5_places wsX5_places) := goodIn_app (goodIn_of _ (by decide +kernel)) ggX11_drift_X5_places
set_option maxRecDepth 20000 in
theorem ggX11_drift_X11_swear : GoodIn wsX11_drift wsX11_swear := goodIn_r _ [65, 6, 66, 2, 67, 19, 20, 21, 22, 23, 24, 25, 26, 27, 28, 68, 69, 70, 71, 72, 47, 48, 73, 74, 75, 76, 77, 78, 79, 80, 81, 82, 83, 84, 85, 86, 87, 88, 89, 90, 91, 92, 39, 40, 41, 93, 94, 95, 96, 97, 98, 99, 100, 101, 102, 103, 104, 105, 106, 107, 108, 109, 110, 111, 112, 113, 114, 115, 116, 117, 118, 119, 120, 121, 122, 123, 124, 125, 129, 130] (by decide +kernel) (by decide +kernel)
set_option maxRecDepth 20000 in
theorem gX11_drift_X11_swear : GoodIn wsX11_drift (wsV RX11 182 RX11 yX11_swear wsX11_swear) := goodIn_app (goodIn_of _ (by decide +kernel)) ggX11_drift_X11_swear
set_option maxRecDepth 20000 in
theorem ggX11_drift_X8_put : GoodIn wsX11_drift wsX8_put := goodIn_r _ [71, 24, 72, 47, 27, 48, 125] (by decide +kernel) (by decide +kernel)
set_option maxRecDepth 20000 in
theorem gX11_drift_X8_put : GoodIn wsX11_drift (wsV RX11 197 RX8 yX8_put wsX8_put) := goodIn_app (goodIn_of _ (by decide +kernel)) ggX11_drift_X8_put
set_option maxRecDepth 20000 in
theorem ggX11_drift_X8_get : GoodIn wsX11_drift wsX8_get := goodIn_r _ [23, 24, 25, 26, 27, 28, 125] (by decide +kernel) (by decide +kernel)
set_option maxRecDepth 20000 in
theorem gX11_drift_X8_get : GoodIn wsX11_drift (wsV RX11 138 RX8 yX8_get wsX8_get) := goodIn_app (goodIn_of _ (by decide +kernel)) ggX11_drift_X8_get
theorem dX11_drift_0 : decode cX11_drift 0 = .ok (.iload_n 1, 1) := by decide +kernel
theorem dX11_drift_1 : decode cX11_drift 1 = .ok (.iconst 1, 1) := by decide +kernel
theorem dX11_drift_2 : decode cX11_drift 2 = .ok (.if_icmp .lt 9, 3) := by decide +kernel
theorem dX11_drift_5 : decode cX11_drift 5 = .ok (.iload_n 1, 1) := by decide +kernel
theorem dX11_drift_6 : decode cX11_drift 6 = .ok (.bipush 60, 2) := by decide +kernel
theorem dX11_drift_8 : decode cX11_drift 8 = .ok (.if_icmp .le 6, 3) := by decide +kernel
theorem dX11_drift_11 : decode cX11_drift 11 = .ok (.ldc 91, 2) := by decide +kernel
theorem dX11_drift_13 : decode cX11_drift 13 = .ok (.ireturn, 1) := by decide +kernel
theorem dX11_drift_14 : decode cX11_drift 14 = .ok (.aload_n 0, 1) := by decide +kernel
theorem dX11_drift_15 : decode cX11_drift 15 = .ok (.getfield 19, 3) := by decide +kernel
theorem dX11_drift_18 : decode cX11_drift 18 = .ok (.invokevirtual 190, 3) := by decide +kernel
theorem dX11_drift_21 : decode cX11_drift 21 = .ok (.ifCond .ne 6, 3) := by decide +kernel
theorem dX11_drift_24 : decode cX11_drift 24 = .ok (.ldc 193, 2) := by decide +kernel
theorem dX11_drift_26 : decode cX11_drift 26 = .ok (.ireturn, 1) := by decide +kernel
theorem dX11_drift_27 : decode cX11_drift 27 = .ok (.aload_n 0, 1) := by decide +kernel
theorem dX11_drift_28 : decode cX11_drift 28 = .ok (.invokevirtual 174, 3) := by decide +kernel
theorem dX11_drift_31 : decode cX11_drift 31 = .ok (.ifCond .eq 6, 3) := by decide +kernel
theorem dX11_drift_34 : decode cX11_drift 34 = .ok (.ldc 100, 2) := by decide +kernel
theorem dX11_drift_36 : decode cX11_drift 36 = .ok (.ireturn, 1) := by decide +kernel
theorem dX11_drift_37 : decode cX11_drift 37 = .ok (.aload_n 0, 1) := by decide +kernel
theorem dX11_drift_38 : decode cX11_drift 38 = .ok (.getfield 42, 3) := by decide +kernel
theorem dX11_drift_41 : decode cX11_drift 41 = .ok (.aload_n 0, 1) := by decide +kernel
theorem dX11_drift_42 : decode cX11_drift 42 = .ok (.getfield 35, 3) := by decide +kernel
theorem dX11_drift_45 : decode cX11_drift 45 = .ok (.invokevirtual 178, 3) := by decide +kernel
theorem dX11_drift_48 : decode cX11_drift 48 = .ok (.iconst 0, 1) := by decide +kernel
theorem dX11_drift_49 : decode cX11_drift 49 = .ok (.istore_n 2, 1) := by decide +kernel
theorem dX11_drift_50 : decode cX11_drift 50 = .ok (.iload_n 2, 1) := by decide +kernel
theorem dX11_drift_51 : decode cX11_drift 51 = .ok (.iload_n 1, 1) := by decide +kernel
theorem dX11_drift_52 : decode cX11_drift 52 = .ok (.if_icmp .ge 66, 3) := by decide +kernel
theorem dX11_drift_55 : decode cX11_drift 55 = .ok (.aload_n 0, 1) := by decide +kernel
theorem dX11_drift_56 : decode cX11_drift 56 = .ok (.getfield 19, 3) := by decide +kernel
theorem dX11_drift_59 : decode cX11_drift 59 = .ok (.getfield 132, 3) := by decide +kernel
theorem dX11_drift_62 : decode cX11_drift 62 = .ok (.ifCond .le 56, 3) := by decide +kernel
theorem dX11_drift_65 : decode cX11_drift 65 = .ok (.aload_n 0, 1) := by decide +kernel
theorem dX11_drift_66 : decode cX11_drift 66 = .ok (.aload_n 0, 1) := by decide +kernel
theorem dX11_drift_67 : decode cX11_drift 67 = .ok (.getfield 19, 3) := by decide +kernel
theorem dX11_drift_70 : decode cX11_drift 70 = .ok (.getfield 132, 3) := by decide +kernel
theorem dX11_drift_73 : decode cX11_drift 73 = .ok (.invokevirtual 194, 3) := by decide +kernel
theorem dX11_drift_76 : decode cX11_drift 76 = .ok (.istore_n 3, 1) := by decide +kernel
theorem dX11_drift_77 : decode cX11_drift 77 = .ok (.aload_n 0, 1) := by decide +kernel
theorem dX11_drift_78 : decode cX11_drift 78 = .ok (.aload_n 0, 1) := by decide +kernel
theorem dX11_drift_79 : decode cX11_drift 79 = .ok (.getfield 19, 3) := by decide +kernel
theorem dX11_drift_82 : decode cX11_drift 82 = .ok (.invokevirtual 125, 3) := by decide +kernel
theorem dX11_drift_85 : decode cX11_drift 85 = .ok (.invokevirtual 194, 3) := by decide +kernel
theorem dX11_drift_88 : decode cX11_drift 88 = .ok (.istore 4, 2) := by decide +kernel
theorem dX11_drift_90 : decode cX11_drift 90 = .ok (.aload_n 0, 1) := by decide +kernel
theorem dX11_drift_91 : decode cX11_drift 91 = .ok (.iload_n 3, 1) := by decide +kernel
theorem dX11_drift_92 : decode cX11_drift 92 = .ok (.iload 4, 2) := by decide +kernel
theorem dX11_drift_94 : decode cX11_drift 94 = .ok (.invokevirtual 182, 3) := by decide +kernel
theorem dX11_drift_97 : decode cX11_drift 97 = .ok (.aload_n 0, 1) := by decide +kernel
theorem dX11_drift_98 : decode cX11_drift 98 = .ok (.getfield 35, 3) := by decide +kernel
theorem dX11_drift_101 : decode cX11_drift 101 = .ok (.iconst 0, 1) := by decide +kernel
theorem dX11_drift_102 : decode cX11_drift 102 = .ok (.aload_n 0, 1) := by decide +kernel
theorem dX11_drift_103 : decode cX11_drift 103 = .ok (.iconst 5, 1) := by decide +kernel
theorem dX11_drift_104 : decode cX11_drift 104 = .ok (.invokevirtual 194, 3) := by decide +kernel
theorem dX11_drift_107 : decode cX11_drift 107 = .ok (.iconst 2, 1) := by decide +kernel
theorem dX11_drift_108 : decode cX11_drift 108 = .ok (.isub, 1) := by decide +kernel
theorem dX11_drift_109 : decode cX11_drift 109 = .ok (.invokevirtual 197, 3) := by decide +kernel
theorem dX11_drift_112 : decode cX11_drift 112 = .ok (.iinc 2 1, 3) := by decide +kernel
theorem dX11_drift_115 : decode cX11_drift 115 = .ok (.goto (-65), 3) := by decide +kernel
theorem dX11_drift_118 : decode cX11_drift 118 = .ok (.aload_n 0, 1) := by decide +kernel
theorem dX11_drift_119 : decode cX11_drift 119 = .ok (.getfield 35, 3) := by decide +kernel
theorem dX11_drift_122 : decode cX11_drift 122 = .ok (.iconst 4, 1) := by decide +kernel
theorem dX11_drift_123 : decode cX11_drift 123 = .ok (.invokevirtual 138, 3) := by decide +kernel
theorem dX11_drift_126 : decode cX11_drift 126 = .ok (.ireturn, 1) := by decide +kernel
set_option maxRecDepth 20000 in
theorem ggX11_undo_X4_pop : GoodIn wsX11_undo wsX4_pop := goodIn_r _ [9, 10, 11, 12, 13, 14, 15, 16, 17, 18, 19, 20, 21, 22, 23, 35, 36, 37, 38] (by decide +kernel) (by decide +kernel)
set_option maxRecDepth 20000 in
theorem gX11_undo_X4_pop : GoodIn wsX11_undo (wsV RX11 200 RX4 yX4_pop wsX4_pop) := goodIn_app (goodIn_of _ (by decide +kernel)) ggX11_undo_X4_pop
theorem dX11_undo_0 : decode cX11_undo 0 = .ok (.aload_n 0, 1) := by decide +kernel
theorem dX11_undo_1 : decode cX11_undo 1 = .ok (.getfield 42, 3) := by decide +kernel
theorem dX11_undo_4 : decode cX11_undo 4 = .ok (.aload_n 0, 1) := by decide +kernel
theorem dX11_undo_5 : decode cX11_undo 5 = .ok (.getfield 35, 3) := by decide +kernel
theorem dX11_undo_8 : decode cX11_undo 8 = .ok (.invokevirtual 200, 3) := by decide +kernel
theorem dX11_undo_11 : decode cX11_undo 11 = .ok (.ifCond .eq 13, 3) := by decide +kernel
theorem dX11_undo_14 : decode cX11_undo 14 = .ok (.aload_n 0, 1) := by decide +kernel
theorem dX11_undo_15 : decode cX11_undo 15 = .ok (.getfield 42, 3) := by decide +kernel
theorem dX11_undo_18 : decode cX11_undo 18 = .ok (.getfield 142, 3) := by decide +kernel
theorem dX11_undo_21 : decode cX11_undo 21 = .ok (.goto 5, 3) := by decide +kernel
theorem dX11_undo_24 : decode cX11_undo 24 = .ok (.ldc 193, 2) := by decide +kernel
theorem dX11_undo_26 : decode cX11_undo 26 = .ok (.ireturn, 1) := by decide +kernel
set_option maxRecDepth 20000 in
theorem ggX11_comes_X5_isSound : GoodIn wsX11_comes wsX5_isSound := goodIn_r _ [8, 9, 50, 51, 52, 53, 54, 55, 56, 57, 58, 59] (by decide +kernel) (by decide +kernel)
set_option maxRecDepth 20000 in
theorem gX11_comes_X5_isSound : GoodIn wsX11_comes (wsV RX11 147 RX5 yX5_isSound wsX5_isSound) := goodIn_app (goodIn_of _ (by decide +kernel)) ggX11_comes_X5_isSound
set_option maxRecDepth 20000 in
theorem ggX11_comes_X5_isPlace : GoodIn wsX11_comes wsX5_isPlace := goodIn_r _ [13, 14, 15, 16, 7, 17, 18, 50, 51, 52, 53, 54, 55, 56, 57, 58, 59] (by decide +kernel) (by decide +kernel)
set_option maxRecDepth 20000 in
theorem gX11_comes_X5_isPlace : GoodIn wsX11_comes (wsV RX11 171 RX5 yX5_isPlace wsX5_isPlace) := goodIn_app (goodIn_of _ (by decide +kernel)) ggX11_comes_X5_isPlace
set_option maxRecDepth 20000 in
theorem ggX11_comes_X2_loudness : GoodIn wsX11_comes wsX2_loudness := goodIn_r _ [23, 24, 25, 26, 27, 28, 29, 30, 31, 32, 33, 34, 35, 36, 37, 38, 60, 61, 50, 51, 52, 53, 54, 55, 56, 57, 58, 59, 62] (by decide +kernel) (by decide +kernel)
set_option maxRecDepth 20000 in
theorem gX11_comes_X2_loudness : GoodIn wsX11_comes (wsV RX11 204 RX2 yX2_loudness wsX2_loudness) := goodIn_app (goodIn_of _ (by decide +kernel)) ggX11_comes_X2_loudness
theorem dX11_comes_0 : decode cX11_comes 0 = .ok (.aload_n 0, 1) := by decide +kernel
theorem dX11_comes_1 : decode cX11_comes 1 = .ok (.getfield 19, 3) := by decide +kernel
theorem dX11_comes_4 : decode cX11_comes 4 = .ok (.iload_n 1, 1) := by decide +kernel
theorem dX11_comes_5 : decode cX11_comes 5 = .ok (.invokevirtual 147, 3) := by decide +kernel
theorem dX11_comes_8 : decode cX11_comes 8 = .ok (.ifCond .eq 25, 3) := by decide +kernel
theorem dX11_comes_11 : decode cX11_comes 11 = .ok (.aload_n 0, 1) := by decide +kernel
theorem dX11_comes_12 : decode cX11_comes 12 = .ok (.getfield 19, 3) := by decide +kernel
theorem dX11_comes_15 : decode cX11_comes 15 = .ok (.iload_n 2, 1) := by decide +kernel
theorem dX11_comes_16 : decode cX11_comes 16 = .ok (.invokevirtual 171, 3) := by decide +kernel
theorem dX11_comes_19 : decode cX11_comes 19 = .ok (.ifCond .eq 14, 3) := by decide +kernel
theorem dX11_comes_22 : decode cX11_comes 22 = .ok (.aload_n 0, 1) := by decide +kernel
theorem dX11_comes_23 : decode cX11_comes 23 = .ok (.getfield 19, 3) := by decide +kernel
theorem dX11_comes_26 : decode cX11_comes 26 = .ok (.iload_n 3, 1) := by decide +kernel
theorem dX11_comes_27 : decode cX11_comes 27 = .ok (.invokevirtual 171, 3) := by decide +kernel
theorem dX11_comes_30 : decode cX11_comes 30 = .ok (.ifCond .ne 6, 3) := by decide +kernel
theorem dX11_comes_33 : decode cX11_comes 33 = .ok (.ldc 146, 2) := by decide +kernel
theorem dX11_comes_35 : decode cX11_comes 35 = .ok (.ireturn, 1) := by decide +kernel
theorem dX11_comes_36 : decode cX11_comes 36 = .ok (.aload_n 0, 1) := by decide +kernel
theorem dX11_comes_37 : decode cX11_comes 37 = .ok (.getfield 57, 3) := by decide +kernel
theorem dX11_comes_40 : decode cX11_comes 40 = .ok (.iload_n 1, 1) := by decide +kernel
theorem dX11_comes_41 : decode cX11_comes 41 = .ok (.iload_n 2, 1) := by decide +kernel
theorem dX11_comes_42 : decode cX11_comes 42 = .ok (.iload_n 3, 1) := by decide +kernel
theorem dX11_comes_43 : decode cX11_comes 43 = .ok (.invokevirtual 204, 3) := by decide +kernel
theorem dX11_comes_46 : decode cX11_comes 46 = .ok (.sipush 1000, 3) := by decide +kernel
theorem dX11_comes_49 : decode cX11_comes 49 = .ok (.iadd, 1) := by decide +kernel
theorem dX11_comes_50 : decode cX11_comes 50 = .ok (.ireturn, 1) := by decide +kernel
set_option maxRecDepth 20000 in
theorem ggX11_says_X5_isWitness : GoodIn wsX11_says wsX5_isWitness := goodIn_r _ [8, 9, 67, 68, 69, 70, 71, 72, 73, 74, 75, 76] (by decide +kernel) (by decide +kernel)
set_option maxRecDepth 20000 in
theorem gX11_says_X5_isWitness : GoodIn wsX11_says (wsV RX11 162 RX5 yX5_isWitness wsX5_isWitness) := goodIn_app (goodIn_of _ (by decide +kernel)) ggX11_says_X5_isWitness
set_option maxRecDepth 20000 in
theorem ggX11_says_X5_isSound : GoodIn wsX11_says wsX5_isSound := goodIn_r _ [13, 14, 67, 68, 69, 70, 71, 72, 73, 74, 75, 76] (by decide +kernel) (by decide +kernel)
set_option maxRecDepth 20000 in
theorem gX11_says_X5_isSound : GoodIn wsX11_says (wsV RX11 147 RX5 yX5_isSound wsX5_isSound) := goodIn_app (goodIn_of _ (by decide +kernel)) ggX11_says_X5_isSound
set_option maxRecDepth 20000 in
theorem ggX11_says_X5_isPlace : GoodIn wsX11_says wsX5_isPlace := goodIn_r _ [18, 19, 20, 21, 7, 22, 23, 67, 68, 69, 70, 71, 72, 73, 74, 75, 76] (by decide +kernel) (by decide +kernel)
set_option maxRecDepth 20000 in
theorem gX11_says_X5_isPlace : GoodIn wsX11_says (wsV RX11 171 RX5 yX5_isPlace wsX5_isPlace) := goodIn_app (goodIn_of _ (by decide +kernel)) ggX11_says_X5_isPlace
set_option maxRecDepth 20000 in
theorem ggX11_says_X2_saying : GoodIn wsX11_says wsX2_saying := goodIn_r _ [28, 29, 30, 31, 32, 33, 34, 35, 36, 37, 38, 39, 27, 40, 41, 42, 43, 44, 45, 46, 47, 48, 49, 50, 51, 52, 53, 54, 55, 77, 78, 67, 68, 69, 70, 71, 72, 73, 74, 75, 76, 79] (by decide +kernel) (by decide +kernel)
set_option maxRecDepth 20000 in
theorem gX11_says_X2_saying : GoodIn wsX11_says (wsV RX11 208 RX2 yX2_saying wsX2_saying) := goodIn_app (goodIn_of _ (by decide +kernel)) ggX11_says_X2_saying
theorem dX11_says_0 : decode cX11_says 0 = .ok (.aload_n 0, 1) := by decide +kernel
theorem dX11_says_1 : decode cX11_says 1 = .ok (.getfield 19, 3) := by decide +kernel
theorem dX11_says_4 : decode cX11_says 4 = .ok (.iload_n 1, 1) := by decide +kernel
theorem dX11_says_5 : decode cX11_says 5 = .ok (.invokevirtual 162, 3) := by decide +kernel
theorem dX11_says_8 : decode cX11_says 8 = .ok (.ifCond .eq 25, 3) := by decide +kernel
theorem dX11_says_11 : decode cX11_says 11 = .ok (.aload_n 0, 1) := by decide +kernel
theorem dX11_says_12 : decode cX11_says 12 = .ok (.getfield 19, 3) := by decide +kernel
theorem dX11_says_15 : decode cX11_says 15 = .ok (.iload_n 2, 1) := by decide +kernel
theorem dX11_says_16 : decode cX11_says 16 = .ok (.invokevirtual 147, 3) := by decide +kernel
theorem dX11_says_19 : decode cX11_says 19 = .ok (.ifCond .eq 14, 3) := by decide +kernel
theorem dX11_says_22 : decode cX11_says 22 = .ok (.aload_n 0, 1) := by decide +kernel
theorem dX11_says_23 : decode cX11_says 23 = .ok (.getfield 19, 3) := by decide +kernel
theorem dX11_says_26 : decode cX11_says 26 = .ok (.iload_n 3, 1) := by decide +kernel
theorem dX11_says_27 : decode cX11_says 27 = .ok (.invokevirtual 171, 3) := by decide +kernel
theorem dX11_says_30 : decode cX11_says 30 = .ok (.ifCond .ne 6, 3) := by decide +kernel
theorem dX11_says_33 : decode cX11_says 33 = .ok (.ldc 146, 2) := by decide +kernel
theorem dX11_says_35 : decode cX11_says 35 = .ok (.ireturn, 1) := by decide +kernel
theorem dX11_says_36 : decode cX11_says 36 = .ok (.aload_n 0, 1) := by decide +kernel
theorem dX11_says_37 : decode cX11_says 37 = .ok (.getfield 57, 3) := by decide +kernel
theorem dX11_says_40 : decode cX11_says 40 = .ok (.iload_n 1, 1) := by decide +kernel
theorem dX11_says_41 : decode cX11_says 41 = .ok (.iload_n 2, 1) := by decide +kernel
theorem dX11_says_42 : decode cX11_says 42 = .ok (.iload_n 3, 1) := by decide +kernel
theorem dX11_says_43 : decode cX11_says 43 = .ok (.invokevirtual 208, 3) := by decide +kernel
theorem dX11_says_46 : decode cX11_says 46 = .ok (.ireturn, 1) := by decide +kernel
set_option maxRecDepth 20000 in
theorem ggX11_listen_X5_isSound : GoodIn wsX11_listen wsX5_isSound := goodIn_r _ [9, 10, 63, 64, 65, 66, 67, 68, 69, 70, 71, 72] (by decide +kernel) (by decide +kernel)
set_option maxRecDepth 20000 in
theorem gX11_listen_X5_isSound : GoodIn wsX11_listen (wsV RX11 147 RX5 yX5_isSound wsX5_isSound) := goodIn_app (goodIn_of _ (by decide +kernel)) ggX11_listen_X5_isSound
set_option maxRecDepth 20000 in
theorem ggX11_listen_X5_isPlace : GoodIn wsX11_listen wsX5_isPlace := goodIn_r _ [14, 15, 16, 17, 8, 18, 19, 63, 64, 65, 66, 67, 68, 69, 70, 71, 72] (by decide +kernel) (by decide +kernel)
set_option maxRecDepth 20000 in
theorem gX11_listen_X5_isPlace : GoodIn wsX11_listen (wsV RX11 171 RX5 yX5_isPlace wsX5_isPlace) := goodIn_app (goodIn_of _ (by decide +kernel)) ggX11_listen_X5_isPlace
set_option maxRecDepth 20000 in
theorem ggX11_listen_X11_isOutside : GoodIn wsX11_listen wsX11_isOutside := goodIn_r _ [23] (by decide +kernel) (by decide +kernel)
set_option maxRecDepth 20000 in
theorem gX11_listen_X11_isOutside : GoodIn wsX11_listen (va_wsS RX11 87 yX11_isOutside wsX11_isOutside) := goodIn_app (goodIn_of _ (by decide +kernel)) ggX11_listen_X11_isOutside
set_option maxRecDepth 20000 in
theorem ggX11_listen_X10_listeners : GoodIn wsX11_listen wsX10_listeners := goodIn_r _ [28, 29, 30, 31, 16, 17, 8, 18, 19, 32, 33, 34, 35, 36, 37, 38, 39, 40, 41, 42, 43, 44, 45, 46, 47, 48, 49, 50, 51, 73, 74, 75, 76, 63, 64, 65, 66, 67, 68, 69, 70, 71, 72, 77, 78, 79] (by decide +kernel) (by decide +kernel)
set_option maxRecDepth 20000 in
theorem gX11_listen_X10_listeners : GoodIn wsX11_listen (wsV RX11 211 RX10 yX10_listeners wsX10_listeners) := goodIn_app (goodIn_of _ (by decide +kernel)) ggX11_listen_X10_listeners
theorem dX11_listen_0 : decode cX11_listen 0 = .ok (.aload_n 0, 1) := by decide +kernel
theorem dX11_listen_1 : decode cX11_listen 1 = .ok (.getfield 19, 3) := by decide +kernel
theorem dX11_listen_4 : decode cX11_listen 4 = .ok (.iload_n 1, 1) := by decide +kernel
theorem dX11_listen_5 : decode cX11_listen 5 = .ok (.invokevirtual 147, 3) := by decide +kernel
theorem dX11_listen_8 : decode cX11_listen 8 = .ok (.ifCond .eq 14, 3) := by decide +kernel
theorem dX11_listen_11 : decode cX11_listen 11 = .ok (.aload_n 0, 1) := by decide +kernel
theorem dX11_listen_12 : decode cX11_listen 12 = .ok (.getfield 19, 3) := by decide +kernel
theorem dX11_listen_15 : decode cX11_listen 15 = .ok (.iload_n 2, 1) := by decide +kernel
theorem dX11_listen_16 : decode cX11_listen 16 = .ok (.invokevirtual 171, 3) := by decide +kernel
theorem dX11_listen_19 : decode cX11_listen 19 = .ok (.ifCond .ne 6, 3) := by decide +kernel
theorem dX11_listen_22 : decode cX11_listen 22 = .ok (.ldc 146, 2) := by decide +kernel
theorem dX11_listen_24 : decode cX11_listen 24 = .ok (.ireturn, 1) := by decide +kernel
theorem dX11_listen_25 : decode cX11_listen 25 = .ok (.iload_n 3, 1) := by decide +kernel
theorem dX11_listen_26 : decode cX11_listen 26 = .ok (.bipush 30, 2) := by decide +kernel
theorem dX11_listen_28 : decode cX11_listen 28 = .ok (.invokestatic 87, 3) := by decide +kernel
theorem dX11_listen_31 : decode cX11_listen 31 = .ok (.ifCond .eq 8, 3) := by decide +kernel
theorem dX11_listen_34 : decode cX11_listen 34 = .ok (.ldc 91, 2) := by decide +kernel
theorem dX11_listen_36 : decode cX11_listen 36 = .ok (.goto 13, 3) := by decide +kernel
theorem dX11_listen_39 : decode cX11_listen 39 = .ok (.aload_n 0, 1) := by decide +kernel
theorem dX11_listen_40 : decode cX11_listen 40 = .ok (.getfield 66, 3) := by decide +kernel
theorem dX11_listen_43 : decode cX11_listen 43 = .ok (.iload_n 1, 1) := by decide +kernel
theorem dX11_listen_44 : decode cX11_listen 44 = .ok (.iload_n 2, 1) := by decide +kernel
theorem dX11_listen_45 : decode cX11_listen 45 = .ok (.iload_n 3, 1) := by decide +kernel
theorem dX11_listen_46 : decode cX11_listen 46 = .ok (.invokevirtual 211, 3) := by decide +kernel
theorem dX11_listen_49 : decode cX11_listen 49 = .ok (.ireturn, 1) := by decide +kernel
set_option maxRecDepth 20000 in
theorem ggX11_deaf_X5_isSound : GoodIn wsX11_deaf wsX5_isSound := goodIn_r _ [8, 9, 63, 64, 65, 66, 67, 68, 69, 70, 71, 72] (by decide +kernel) (by decide +kernel)
set_option maxRecDepth 20000 in
theorem gX11_deaf_X5_isSound : GoodIn wsX11_deaf (wsV RX11 147 RX5 yX5_isSound wsX5_isSound) := goodIn_app (goodIn_of _ (by decide +kernel)) ggX11_deaf_X5_isSound
set_option maxRecDepth 20000 in
theorem ggX11_deaf_X10_unheard : GoodIn wsX11_deaf wsX10_unheard := goodIn_r _ [14, 15, 16, 17, 18, 19, 7, 20, 21, 22, 23, 24, 25, 26, 27, 28, 29, 30, 31, 32, 33, 34, 35, 36, 37, 38, 39, 40, 41, 42, 43, 44, 45, 46, 47, 48, 49, 50, 51, 73, 74, 75, 76, 63, 64, 65, 66, 67, 68, 69, 70, 71, 72, 77, 78, 79] (by decide +kernel) (by decide +kernel)
set_option maxRecDepth 20000 in
theorem gX11_deaf_X10_unheard : GoodIn wsX11_deaf (wsV RX11 214 RX10 yX10_unheard wsX10_unheard) := goodIn_app (goodIn_of _ (by decide +kernel)) ggX11_deaf_X10_unheard
theorem dX11_deaf_0 : decode cX11_deaf 0 = .ok (.aload_n 0, 1) := by decide +kernel
theorem dX11_deaf_1 : decode cX11_deaf 1 = .ok (.getfield 19, 3) := by decide +kernel
theorem dX11_deaf_4 : decode cX11_deaf 4 = .ok (.iload_n 1, 1) := by decide +kernel
theorem dX11_deaf_5 : decode cX11_deaf 5 = .ok (.invokevirtual 147, 3) := by decide +kernel
theorem dX11_deaf_8 : decode cX11_deaf 8 = .ok (.ifCond .eq 14, 3) := by decide +kernel
theorem dX11_deaf_11 : decode cX11_deaf 11 = .ok (.aload_n 0, 1) := by decide +kernel
theorem dX11_deaf_12 : decode cX11_deaf 12 = .ok (.getfield 66, 3) := by decide +kernel
theorem dX11_deaf_15 : decode cX11_deaf 15 = .ok (.iload_n 1, 1) := by decide +kernel
theorem dX11_deaf_16 : decode cX11_deaf 16 = .ok (.invokevirtual 214, 3) := by decide +kernel
theorem dX11_deaf_19 : decode cX11_deaf 19 = .ok (.goto 5, 3) := by decide +kernel
theorem dX11_deaf_22 : decode cX11_deaf 22 = .ok (.ldc 146, 2) := by decide +kernel
theorem dX11_deaf_24 : decode cX11_deaf 24 = .ok (.ireturn, 1) := by decide +kernel
set_option maxRecDepth 20000 in
theorem ggX11_ears_X5_isSound : GoodIn wsX11_ears wsX5_isSound := goodIn_r _ [9, 10, 83, 84, 85, 86, 87, 88, 89, 90, 91, 92] (by decide +kernel) (by decide +kernel)
set_option maxRecDepth 20000 in
theorem gX11_ears_X5_isSound : GoodIn wsX11_ears (wsV RX11 147 RX5 yX5_isSound wsX5_isSound) := goodIn_app (goodIn_of _ (by decide +kernel)) ggX11_ears_X5_isSound
set_option maxRecDepth 20000 in
theorem ggX11_ears_X5_arePlaces : GoodIn wsX11_ears wsX5_arePlaces := goodIn_r _ [14, 15, 16, 17, 8, 18, 19, 83, 84, 85, 86, 87, 88, 89, 90, 91, 92] (by decide +kernel) (by decide +kernel)
set_option maxRecDepth 20000 in
theorem gX11_ears_X5_arePlaces : GoodIn wsX11_ears (wsV RX11 217 RX5 yX5_arePlaces wsX5_arePlaces) := goodIn_app (goodIn_of _ (by decide +kernel)) ggX11_ears_X5_arePlaces
set_option maxRecDepth 20000 in
theorem ggX11_ears_X11_isOutside : GoodIn wsX11_ears wsX11_isOutside := goodIn_r _ [23] (by decide +kernel) (by decide +kernel)
set_option maxRecDepth 20000 in
theorem gX11_ears_X11_isOutside : GoodIn wsX11_ears (va_wsS RX11 87 yX11_isOutside wsX11_isOutside) := goodIn_app (goodIn_of _ (by decide +kernel)) ggX11_ears_X11_isOutside
set_option maxRecDepth 20000 in
theorem ggX11_ears_X10_fewestEars : GoodIn wsX11_ears wsX10_fewestEars := goodIn_r _ [28, 29, 30, 31, 16, 17, 8, 18, 19, 32, 33, 34, 27, 35, 36, 37, 38, 39, 40, 41, 42, 43, 44, 45, 46, 47, 48, 49, 50, 51, 52, 53, 54, 55, 56, 57, 58, 59, 60, 61, 62, 63, 64, 65, 66, 67, 68, 69, 70, 71, 93, 94, 95, 96, 83, 84, 85, 86, 87, 88, 89, 90, 91, 92, 97, 98, 99] (by decide +kernel) (by decide +kernel)
set_option maxRecDepth 20000 in
theorem gX11_ears_X10_fewestEars : GoodIn wsX11_ears (wsV RX11 220 RX10 yX10_fewestEars wsX10_fewestEars) := goodIn_app (goodIn_of _ (by decide +kernel)) ggX11_ears_X10_fewestEars
theorem dX11_ears_0 : decode cX11_ears 0 = .ok (.aload_n 0, 1) := by decide +kernel
theorem dX11_ears_1 : decode cX11_ears 1 = .ok (.getfield 19, 3) := by decide +kernel
theorem dX11_ears_4 : decode cX11_ears 4 = .ok (.iload_n 1, 1) := by decide +kernel
theorem dX11_ears_5 : decode cX11_ears 5 = .ok (.invokevirtual 147, 3) := by decide +kernel
theorem dX11_ears_8 : decode cX11_ears 8 = .ok (.ifCond .eq 14, 3) := by decide +kernel
theorem dX11_ears_11 : decode cX11_ears 11 = .ok (.aload_n 0, 1) := by decide +kernel
theorem dX11_ears_12 : decode cX11_ears 12 = .ok (.getfield 19, 3) := by decide +kernel
theorem dX11_ears_15 : decode cX11_ears 15 = .ok (.iload_n 2, 1) := by decide +kernel
theorem dX11_ears_16 : decode cX11_ears 16 = .ok (.invokevirtual 217, 3) := by decide +kernel
theorem dX11_ears_19 : decode cX11_ears 19 = .ok (.ifCond .ne 6, 3) := by decide +kernel
theorem dX11_ears_22 : decode cX11_ears 22 = .ok (.ldc 146, 2) := by decide +kernel
theorem dX11_ears_24 : decode cX11_ears 24 = .ok (.ireturn, 1) := by decide +kernel
theorem dX11_ears_25 : decode cX11_ears 25 = .ok (.iload_n 3, 1) := by decide +kernel
theorem dX11_ears_26 : decode cX11_ears 26 = .ok (.bipush 30, 2) := by decide +kernel
theorem dX11_ears_28 : decode cX11_ears 28 = .ok (.invokestatic 87, 3) := by decide +kernel
theorem dX11_ears_31 : decode cX11_ears 31 = .ok (.ifCond .eq 8, 3) := by decide +kernel
theorem dX11_ears_34 : decode cX11_ears 34 = .ok (.ldc 91, 2) := by decide +kernel
theorem dX11_ears_36 : decode cX11_ears 36 = .ok (.goto 13, 3) := by decide +kernel
theorem dX11_ears_39 : decode cX11_ears 39 = .ok (.aload_n 0, 1) := by decide +kernel
theorem dX11_ears_40 : decode cX11_ears 40 = .ok (.getfield 66, 3) := by decide +kernel
theorem dX11_ears_43 : decode cX11_ears 43 = .ok (.iload_n 1, 1) := by decide +kernel
theorem dX11_ears_44 : decode cX11_ears 44 = .ok (.iload_n 2, 1) := by decide +kernel
theorem dX11_ears_45 : decode cX11_ears 45 = .ok (.iload_n 3, 1) := by decide +kernel
theorem dX11_ears_46 : decode cX11_ears 46 = .ok (.invokevirtual 220, 3) := by decide +kernel
theorem dX11_ears_49 : decode cX11_ears 49 = .ok (.ireturn, 1) := by decide +kernel
set_option maxRecDepth 20000 in
theorem ggX11_alike_X5_isPlace : GoodIn wsX11_alike wsX5_isPlace := goodIn_r _ [8, 9, 10, 11, 7, 12, 13, 70, 71, 72, 73, 74, 75, 76, 77, 78, 79] (by decide +kernel) (by decide +kernel)
set_option maxRecDepth 20000 in
theorem gX11_alike_X5_isPlace : GoodIn wsX11_alike (wsV RX11 171 RX5 yX5_isPlace wsX5_isPlace) := goodIn_app (goodIn_of _ (by decide +kernel)) ggX11_alike_X5_isPlace
set_option maxRecDepth 20000 in
theorem ggX11_alike_X10_alikePair : GoodIn wsX11_alike wsX10_alikePair := goodIn_r _ [18, 19, 20, 21, 22, 23, 17, 24, 25, 26, 27, 28, 29, 30, 31, 32, 33, 34, 35, 36, 37, 38, 39, 40, 41, 42, 43, 44, 45, 46, 47, 48, 49, 50, 51, 52, 53, 54, 55, 56, 57, 58, 80, 81, 82, 83, 70, 71, 72, 73, 74, 75, 76, 77, 78, 79, 84, 85, 86] (by decide +kernel) (by decide +kernel)
set_option maxRecDepth 20000 in
theorem gX11_alike_X10_alikePair : GoodIn wsX11_alike (wsV RX11 223 RX10 yX10_alikePair wsX10_alikePair) := goodIn_app (goodIn_of _ (by decide +kernel)) ggX11_alike_X10_alikePair
theorem dX11_alike_0 : decode cX11_alike 0 = .ok (.aload_n 0, 1) := by decide +kernel
theorem dX11_alike_1 : decode cX11_alike 1 = .ok (.getfield 19, 3) := by decide +kernel
theorem dX11_alike_4 : decode cX11_alike 4 = .ok (.iload_n 1, 1) := by decide +kernel
theorem dX11_alike_5 : decode cX11_alike 5 = .ok (.invokevirtual 171, 3) := by decide +kernel
theorem dX11_alike_8 : decode cX11_alike 8 = .ok (.ifCond .eq 15, 3) := by decide +kernel
theorem dX11_alike_11 : decode cX11_alike 11 = .ok (.aload_n 0, 1) := by decide +kernel
theorem dX11_alike_12 : decode cX11_alike 12 = .ok (.getfield 66, 3) := by decide +kernel
theorem dX11_alike_15 : decode cX11_alike 15 = .ok (.iload_n 1, 1) := by decide +kernel
theorem dX11_alike_16 : decode cX11_alike 16 = .ok (.iload_n 2, 1) := by decide +kernel
theorem dX11_alike_17 : decode cX11_alike 17 = .ok (.invokevirtual 223, 3) := by decide +kernel
theorem dX11_alike_20 : decode cX11_alike 20 = .ok (.goto 5, 3) := by decide +kernel
theorem dX11_alike_23 : decode cX11_alike 23 = .ok (.ldc 146, 2) := by decide +kernel
theorem dX11_alike_25 : decode cX11_alike 25 = .ok (.ireturn, 1) := by decide +kernel
set_option maxRecDepth 20000 in
theorem ggX11_hides_X5_isWall : GoodIn wsX11_hides wsX5_isWall := goodIn_r _ [8, 9, 77, 78, 79, 80, 81, 82, 83, 84, 85, 86] (by decide +kernel) (by decide +kernel)
set_option maxRecDepth 20000 in
theorem gX11_hides_X5_isWall : GoodIn wsX11_hides (wsV RX11 143 RX5 yX5_isWall wsX5_isWall) := goodIn_app (goodIn_of _ (by decide +kernel)) ggX11_hides_X5_isWall
set_option maxRecDepth 20000 in
theorem ggX11_hides_X5_isSound : GoodIn wsX11_hides wsX5_isSound := goodIn_r _ [13, 14, 77, 78, 79, 80, 81, 82, 83, 84, 85, 86] (by decide +kernel) (by decide +kernel)
set_option maxRecDepth 20000 in
theorem gX11_hides_X5_isSound : GoodIn wsX11_hides (wsV RX11 147 RX5 yX5_isSound wsX5_isSound) := goodIn_app (goodIn_of _ (by decide +kernel)) ggX11_hides_X5_isSound
set_option maxRecDepth 20000 in
theorem ggX11_hides_X5_isPlace : GoodIn wsX11_hides wsX5_isPlace := goodIn_r _ [18, 19, 20, 21, 7, 22, 9, 77, 78, 79, 80, 81, 82, 83, 84, 85, 86] (by decide +kernel) (by decide +kernel)
set_option maxRecDepth 20000 in
theorem gX11_hides_X5_isPlace : GoodIn wsX11_hides (wsV RX11 171 RX5 yX5_isPlace wsX5_isPlace) := goodIn_app (goodIn_of _ (by decide +kernel)) ggX11_hides_X5_isPlace
set_option maxRecDepth 20000 in
theorem ggX11_hides_X10_hidingThickness : GoodIn wsX11_hides wsX10_hidingThickness := goodIn_r _ [27, 28, 29, 30, 31, 32, 33, 34, 35, 36, 37, 38, 39, 40, 41, 42, 43, 44, 45, 46, 47, 48, 49, 50, 51, 52, 53, 54, 55, 56, 57, 58, 59, 60, 61, 62, 63, 64, 65, 87, 88, 89, 90, 77, 78, 79, 80, 81, 82, 83, 84, 85, 86, 91, 92, 93] (by decide +kernel) (by decide +kernel)
set_option maxRecDepth 20000 in
theorem gX11_hides_X10_hidingThickness : GoodIn wsX11_hides (wsV RX11 226 RX10 yX10_hidingThickness wsX10_hidingThickness) := goodIn_app (goodIn_of _ (by decide +kernel)) ggX11_hides_X10_hidingThickness
theorem dX11_hides_0 : decode cX11_hides 0 = .ok (.aload_n 0, 1) := by decide +kernel
theorem dX11_hides_1 : decode cX11_hides 1 = .ok (.getfield 19, 3) := by decide +kernel
theorem dX11_hides_4 : decode cX11_hides 4 = .ok (.iload_n 1, 1) := by decide +kernel
theorem dX11_hides_5 : decode cX11_hides 5 = .ok (.invokevirtual 143, 3) := by decide +kernel
theorem dX11_hides_8 : decode cX11_hides 8 = .ok (.ifCond .eq 25, 3) := by decide +kernel
theorem dX11_hides_11 : decode cX11_hides 11 = .ok (.aload_n 0, 1) := by decide +kernel
theorem dX11_hides_12 : decode cX11_hides 12 = .ok (.getfield 19, 3) := by decide +kernel
theorem dX11_hides_15 : decode cX11_hides 15 = .ok (.iload_n 2, 1) := by decide +kernel
theorem dX11_hides_16 : decode cX11_hides 16 = .ok (.invokevirtual 147, 3) := by decide +kernel
theorem dX11_hides_19 : decode cX11_hides 19 = .ok (.ifCond .eq 14, 3) := by decide +kernel
theorem dX11_hides_22 : decode cX11_hides 22 = .ok (.aload_n 0, 1) := by decide +kernel
theorem dX11_hides_23 : decode cX11_hides 23 = .ok (.getfield 19, 3) := by decide +kernel
theorem dX11_hides_26 : decode cX11_hides 26 = .ok (.iload_n 3, 1) := by decide +kernel
theorem dX11_hides_27 : decode cX11_hides 27 = .ok (.invokevirtual 171, 3) := by decide +kernel
theorem dX11_hides_30 : decode cX11_hides 30 = .ok (.ifCond .ne 6, 3) := by decide +kernel
theorem dX11_hides_33 : decode cX11_hides 33 = .ok (.ldc 146, 2) := by decide +kernel
theorem dX11_hides_35 : decode cX11_hides 35 = .ok (.ireturn, 1) := by decide +kernel
theorem dX11_hides_36 : decode cX11_hides 36 = .ok (.aload_n 0, 1) := by decide +kernel
theorem dX11_hides_37 : decode cX11_hides 37 = .ok (.getfield 66, 3) := by decide +kernel
theorem dX11_hides_40 : decode cX11_hides 40 = .ok (.iload_n 1, 1) := by decide +kernel
theorem dX11_hides_41 : decode cX11_hides 41 = .ok (.iload_n 2, 1) := by decide +kernel
theorem dX11_hides_42 : decode cX11_hides 42 = .ok (.iload_n 3, 1) := by decide +kernel
theorem dX11_hides_43 : decode cX11_hides 43 = .ok (.invokevirtual 226, 3) := by decide +kernel
theorem dX11_hides_46 : decode cX11_hides 46 = .ok (.ireturn, 1) := by decide +kernel
set_option maxRecDepth 20000 in
theorem ggX11_midwife_X11_isOutside : GoodIn wsX11_midwife wsX11_isOutside := goodIn_r _ [5] (by decide +kernel) (by decide +kernel)
set_option maxRecDepth 20000 in
theorem gX11_midwife_X11_isOutside : GoodIn wsX11_midwife (va_wsS RX11 87 yX11_isOutside wsX11_isOutside) := goodIn_app (goodIn_of _ (by decide +kernel)) ggX11_midwife_X11_isOutside
theorem dX11_midwife_0 : decode cX11_midwife 0 = .ok (.iload_n 2, 1) := by decide +kernel
theorem dX11_midwife_1 : decode cX11_midwife 1 = .ok (.sipush 9999, 3) := by decide +kernel
theorem dX11_midwife_4 : decode cX11_midwife 4 = .ok (.invokestatic 87, 3) := by decide +kernel
theorem dX11_midwife_7 : decode cX11_midwife 7 = .ok (.ifCond .ne 34, 3) := by decide +kernel
theorem dX11_midwife_10 : decode cX11_midwife 10 = .ok (.iload_n 3, 1) := by decide +kernel
theorem dX11_midwife_11 : decode cX11_midwife 11 = .ok (.sipush 9999, 3) := by decide +kernel
theorem dX11_midwife_14 : decode cX11_midwife 14 = .ok (.invokestatic 87, 3) := by decide +kernel
theorem dX11_midwife_17 : decode cX11_midwife 17 = .ok (.ifCond .ne 24, 3) := by decide +kernel
theorem dX11_midwife_20 : decode cX11_midwife 20 = .ok (.iload 4, 2) := by decide +kernel
theorem dX11_midwife_22 : decode cX11_midwife 22 = .ok (.sipush 9999, 3) := by decide +kernel
theorem dX11_midwife_25 : decode cX11_midwife 25 = .ok (.invokestatic 87, 3) := by decide +kernel
theorem dX11_midwife_28 : decode cX11_midwife 28 = .ok (.ifCond .ne 13, 3) := by decide +kernel
theorem dX11_midwife_31 : decode cX11_midwife 31 = .ok (.iload 5, 2) := by decide +kernel
theorem dX11_midwife_33 : decode cX11_midwife 33 = .ok (.bipush 100, 2) := by decide +kernel
theorem dX11_midwife_35 : decode cX11_midwife 35 = .ok (.invokestatic 87, 3) := by decide +kernel
theorem dX11_midwife_38 : decode cX11_midwife 38 = .ok (.ifCond .eq 6, 3) := by decide +kernel
theorem dX11_midwife_41 : decode cX11_midwife 41 = .ok (.ldc 91, 2) := by decide +kernel
theorem dX11_midwife_43 : decode cX11_midwife 43 = .ok (.ireturn, 1) := by decide +kernel
theorem dX11_midwife_44 : decode cX11_midwife 44 = .ok (.iload 4, 2) := by decide +kernel
theorem dX11_midwife_46 : decode cX11_midwife 46 = .ok (.iload 5, 2) := by decide +kernel
theorem dX11_midwife_48 : decode cX11_midwife 48 = .ok (.imul, 1) := by decide +kernel
theorem dX11_midwife_49 : decode cX11_midwife 49 = .ok (.bipush 100, 2) := by decide +kernel
theorem dX11_midwife_51 : decode cX11_midwife 51 = .ok (.idiv, 1) := by decide +kernel
theorem dX11_midwife_52 : decode cX11_midwife 52 = .ok (.istore 6, 2) := by decide +kernel
theorem dX11_midwife_54 : decode cX11_midwife 54 = .ok (.iload_n 1, 1) := by decide +kernel
theorem dX11_midwife_55 : decode cX11_midwife 55 = .ok (.ifCond .eq 17, 3) := by decide +kernel
theorem dX11_midwife_58 : decode cX11_midwife 58 = .ok (.iload_n 3, 1) := by decide +kernel
theorem dX11_midwife_59 : decode cX11_midwife 59 = .ok (.iload 6, 2) := by decide +kernel
theorem dX11_midwife_61 : decode cX11_midwife 61 = .ok (.isub, 1) := by decide +kernel
theorem dX11_midwife_62 : decode cX11_midwife 62 = .ok (.iload_n 2, 1) := by decide +kernel
theorem dX11_midwife_63 : decode cX11_midwife 63 = .ok (.if_icmp .le 7, 3) := by decide +kernel
theorem dX11_midwife_66 : decode cX11_midwife 66 = .ok (.iconst 0, 1) := by decide +kernel
theorem dX11_midwife_67 : decode cX11_midwife 67 = .ok (.goto 4, 3) := by decide +kernel
theorem dX11_midwife_70 : decode cX11_midwife 70 = .ok (.iconst 1, 1) := by decide +kernel
theorem dX11_midwife_71 : decode cX11_midwife 71 = .ok (.ireturn, 1) := by decide +kernel
theorem dX11_midwife_72 : decode cX11_midwife 72 = .ok (.iload_n 2, 1) := by decide +kernel
theorem dX11_midwife_73 : decode cX11_midwife 73 = .ok (.iload 6, 2) := by decide +kernel
theorem dX11_midwife_75 : decode cX11_midwife 75 = .ok (.isub, 1) := by decide +kernel
theorem dX11_midwife_76 : decode cX11_midwife 76 = .ok (.iload_n 3, 1) := by decide +kernel
theorem dX11_midwife_77 : decode cX11_midwife 77 = .ok (.if_icmp .le 7, 3) := by decide +kernel
theorem dX11_midwife_80 : decode cX11_midwife 80 = .ok (.iconst 1, 1) := by decide +kernel
theorem dX11_midwife_81 : decode cX11_midwife 81 = .ok (.goto 4, 3) := by decide +kernel
theorem dX11_midwife_84 : decode cX11_midwife 84 = .ok (.iconst 0, 1) := by decide +kernel
theorem dX11_midwife_85 : decode cX11_midwife 85 = .ok (.ireturn, 1) := by decide +kernel
set_option maxRecDepth 20000 in
theorem ggX11_bargain_X11_isOutside : GoodIn wsX11_bargain wsX11_isOutside := goodIn_r _ [14] (by decide +kernel) (by decide +kernel)
set_option maxRecDepth 20000 in
theorem gX11_bargain_X11_isOutside : GoodIn wsX11_bargain (va_wsS RX11 87 yX11_isOutside wsX11_isOutside) := goodIn_app (goodIn_of _ (by decide +kernel)) ggX11_bargain_X11_isOutside
theorem dX11_bargain_0 : decode cX11_bargain 0 = .ok (.iload_n 1, 1) := by decide +kernel
theorem dX11_bargain_1 : decode cX11_bargain 1 = .ok (.sipush 9999, 3) := by decide +kernel
theorem dX11_bargain_4 : decode cX11_bargain 4 = .ok (.invokestatic 87, 3) := by decide +kernel
theorem dX11_bargain_7 : decode cX11_bargain 7 = .ok (.ifCond .ne 31, 3) := by decide +kernel
theorem dX11_bargain_10 : decode cX11_bargain 10 = .ok (.iload_n 2, 1) := by decide +kernel
theorem dX11_bargain_11 : decode cX11_bargain 11 = .ok (.ldc 229, 2) := by decide +kernel
theorem dX11_bargain_13 : decode cX11_bargain 13 = .ok (.invokestatic 87, 3) := by decide +kernel
theorem dX11_bargain_16 : decode cX11_bargain 16 = .ok (.ifCond .ne 22, 3) := by decide +kernel
theorem dX11_bargain_19 : decode cX11_bargain 19 = .ok (.iload_n 3, 1) := by decide +kernel
theorem dX11_bargain_20 : decode cX11_bargain 20 = .ok (.sipush 999, 3) := by decide +kernel
theorem dX11_bargain_23 : decode cX11_bargain 23 = .ok (.invokestatic 87, 3) := by decide +kernel
theorem dX11_bargain_26 : decode cX11_bargain 26 = .ok (.ifCond .ne 12, 3) := by decide +kernel
theorem dX11_bargain_29 : decode cX11_bargain 29 = .ok (.iload 4, 2) := by decide +kernel
theorem dX11_bargain_31 : decode cX11_bargain 31 = .ok (.iconst 1, 1) := by decide +kernel
theorem dX11_bargain_32 : decode cX11_bargain 32 = .ok (.invokestatic 87, 3) := by decide +kernel
theorem dX11_bargain_35 : decode cX11_bargain 35 = .ok (.ifCond .eq 6, 3) := by decide +kernel
theorem dX11_bargain_38 : decode cX11_bargain 38 = .ok (.ldc 91, 2) := by decide +kernel
theorem dX11_bargain_40 : decode cX11_bargain 40 = .ok (.ireturn, 1) := by decide +kernel
theorem dX11_bargain_41 : decode cX11_bargain 41 = .ok (.iload_n 1, 1) := by decide +kernel
theorem dX11_bargain_42 : decode cX11_bargain 42 = .ok (.i2l, 1) := by decide +kernel
theorem dX11_bargain_43 : decode cX11_bargain 43 = .ok (.iload_n 2, 1) := by decide +kernel
theorem dX11_bargain_44 : decode cX11_bargain 44 = .ok (.i2l, 1) := by decide +kernel
theorem dX11_bargain_45 : decode cX11_bargain 45 = .ok (.lmul, 1) := by decide +kernel
theorem dX11_bargain_46 : decode cX11_bargain 46 = .ok (.ldc2_w 230, 3) := by decide +kernel
theorem dX11_bargain_49 : decode cX11_bargain 49 = .ok (.ldiv, 1) := by decide +kernel
theorem dX11_bargain_50 : decode cX11_bargain 50 = .ok (.lstore 5, 2) := by decide +kernel
theorem dX11_bargain_52 : decode cX11_bargain 52 = .ok (.lload 5, 2) := by decide +kernel
theorem dX11_bargain_54 : decode cX11_bargain 54 = .ok (.l2i, 1) := by decide +kernel
theorem dX11_bargain_55 : decode cX11_bargain 55 = .ok (.iload_n 3, 1) := by decide +kernel
theorem dX11_bargain_56 : decode cX11_bargain 56 = .ok (.isub, 1) := by decide +kernel
theorem dX11_bargain_57 : decode cX11_bargain 57 = .ok (.iconst 0, 1) := by decide +kernel
theorem dX11_bargain_58 : decode cX11_bargain 58 = .ok (.invokestatic 232, 3) := by decide +kernel
theorem dX11_bargain_61 : decode cX11_bargain 61 = .ok (.istore 7, 2) := by decide +kernel
theorem dX11_bargain_63 : decode cX11_bargain 63 = .ok (.iload 4, 2) := by decide +kernel
theorem dX11_bargain_65 : decode cX11_bargain 65 = .ok (.ifCond .ne 8, 3) := by decide +kernel
theorem dX11_bargain_68 : decode cX11_bargain 68 = .ok (.iload 7, 2) := by decide +kernel
theorem dX11_bargain_70 : decode cX11_bargain 70 = .ok (.goto 13, 3) := by decide +kernel
theorem dX11_bargain_73 : decode cX11_bargain 73 = .ok (.iload 7, 2) := by decide +kernel
theorem dX11_bargain_75 : decode cX11_bargain 75 = .ok (.iconst 2, 1) := by decide +kernel
theorem dX11_bargain_76 : decode cX11_bargain 76 = .ok (.iload_n 3, 1) := by decide +kernel
theorem dX11_bargain_77 : decode cX11_bargain 77 = .ok (.imul, 1) := by decide +kernel
theorem dX11_bargain_78 : decode cX11_bargain 78 = .ok (.iadd, 1) := by decide +kernel
theorem dX11_bargain_79 : decode cX11_bargain 79 = .ok (.iload_n 1, 1) := by decide +kernel
theorem dX11_bargain_80 : decode cX11_bargain 80 = .ok (.invokestatic 237, 3) := by decide +kernel
theorem dX11_bargain_83 : decode cX11_bargain 83 = .ok (.ireturn, 1) := by decide +kernel
set_option maxRecDepth 20000 in
theorem ggX11_found_X5_arePlaces : GoodIn wsX11_found wsX5_arePlaces := goodIn_r _ [8, 9, 10, 11, 7, 12, 13, 76, 77, 78, 79, 80, 81, 82, 83, 84, 85] (by decide +kernel) (by decide +kernel)
set_option maxRecDepth 20000 in
theorem gX11_found_X5_arePlaces : GoodIn wsX11_found (wsV RX11 217 RX5 yX5_arePlaces wsX5_arePlaces) := goodIn_app (goodIn_of _ (by decide +kernel)) ggX11_found_X5_arePlaces
set_option maxRecDepth 20000 in
theorem ggX11_found_X10_oddsOfHearing : GoodIn wsX11_found wsX10_oddsOfHearing := goodIn_r _ [18, 19, 20, 21, 22, 23, 24, 25, 26, 27, 28, 29, 30, 31, 17, 32, 33, 34, 10, 11, 7, 12, 13, 35, 36, 37, 38, 39, 40, 41, 42, 43, 44, 45, 46, 47, 48, 49, 50, 51, 52, 53, 54, 55, 56, 57, 58, 59, 60, 61, 62, 63, 64, 86, 87, 88, 89, 76, 77, 78, 79, 80, 81, 82, 83, 84, 85, 90, 91, 92] (by decide +kernel) (by decide +kernel)
set_option maxRecDepth 20000 in
theorem gX11_found_X10_oddsOfHearing : GoodIn wsX11_found (wsV RX11 240 RX10 yX10_oddsOfHearing wsX10_oddsOfHearing) := goodIn_app (goodIn_of _ (by decide +kernel)) ggX11_found_X10_oddsOfHearing
theorem dX11_found_0 : decode cX11_found 0 = .ok (.aload_n 0, 1) := by decide +kernel
theorem dX11_found_1 : decode cX11_found 1 = .ok (.getfield 19, 3) := by decide +kernel
theorem dX11_found_4 : decode cX11_found 4 = .ok (.iload_n 1, 1) := by decide +kernel
theorem dX11_found_5 : decode cX11_found 5 = .ok (.invokevirtual 217, 3) := by decide +kernel
theorem dX11_found_8 : decode cX11_found 8 = .ok (.ifCond .eq 14, 3) := by decide +kernel
theorem dX11_found_11 : decode cX11_found 11 = .ok (.aload_n 0, 1) := by decide +kernel
theorem dX11_found_12 : decode cX11_found 12 = .ok (.getfield 66, 3) := by decide +kernel
theorem dX11_found_15 : decode cX11_found 15 = .ok (.iload_n 1, 1) := by decide +kernel
theorem dX11_found_16 : decode cX11_found 16 = .ok (.invokevirtual 240, 3) := by decide +kernel
theorem dX11_found_19 : decode cX11_found 19 = .ok (.goto 5, 3) := by decide +kernel
theorem dX11_found_22 : decode cX11_found 22 = .ok (.ldc 146, 2) := by decide +kernel
theorem dX11_found_24 : decode cX11_found 24 = .ok (.ireturn, 1) := by decide +kernel
set_option maxRecDepth 20000 in
theorem ggX11_say_X5_isWitness : GoodIn wsX11_say wsX5_isWitness := goodIn_r _ [11, 12, 48, 49, 50, 51, 52, 53, 54, 55, 56, 57] (by decide +kernel) (by decide +kernel)
set_option maxRecDepth 20000 in
theorem gX11_say_X5_isWitness : GoodIn wsX11_say (wsV RX11 162 RX5 yX5_isWitness wsX5_isWitness) := goodIn_app (goodIn_of _ (by decide +kernel)) ggX11_say_X5_isWitness
set_option maxRecDepth 20000 in
theorem ggX11_say_X11_isOutside : GoodIn wsX11_say wsX11_isOutside := goodIn_r _ [16] (by decide +kernel) (by decide +kernel)
set_option maxRecDepth 20000 in
theorem gX11_say_X11_isOutside : GoodIn wsX11_say (va_wsS RX11 87 yX11_isOutside wsX11_isOutside) := goodIn_app (goodIn_of _ (by decide +kernel)) ggX11_say_X11_isOutside
set_option maxRecDepth 20000 in
theorem ggX11_say_X1_add : GoodIn wsX11_say wsX1_add := goodIn_r _ [21, 22, 23, 24, 25, 26, 27, 28, 40, 41, 42, 43, 44, 45, 46, 47] (by decide +kernel) (by decide +kernel)
set_option maxRecDepth 20000 in
theorem gX11_say_X1_add : GoodIn wsX11_say (wsV RX11 243 RX1 yX1_add wsX1_add) := goodIn_app (goodIn_of _ (by decide +kernel)) ggX11_say_X1_add
theorem dX11_say_0 : decode cX11_say 0 = .ok (.aload_n 0, 1) := by decide +kernel
theorem dX11_say_1 : decode cX11_say 1 = .ok (.getfield 19, 3) := by decide +kernel
theorem dX11_say_4 : decode cX11_say 4 = .ok (.iload_n 1, 1) := by decide +kernel
theorem dX11_say_5 : decode cX11_say 5 = .ok (.invokevirtual 162, 3) := by decide +kernel
theorem dX11_say_8 : decode cX11_say 8 = .ok (.ifCond .ne 6, 3) := by decide +kernel
theorem dX11_say_11 : decode cX11_say 11 = .ok (.ldc 146, 2) := by decide +kernel
theorem dX11_say_13 : decode cX11_say 13 = .ok (.ireturn, 1) := by decide +kernel
theorem dX11_say_14 : decode cX11_say 14 = .ok (.iload_n 2, 1) := by decide +kernel
theorem dX11_say_15 : decode cX11_say 15 = .ok (.bipush 11, 2) := by decide +kernel
theorem dX11_say_17 : decode cX11_say 17 = .ok (.invokestatic 87, 3) := by decide +kernel
theorem dX11_say_20 : decode cX11_say 20 = .ok (.ifCond .eq 6, 3) := by decide +kernel
theorem dX11_say_23 : decode cX11_say 23 = .ok (.ldc 91, 2) := by decide +kernel
theorem dX11_say_25 : decode cX11_say 25 = .ok (.ireturn, 1) := by decide +kernel
theorem dX11_say_26 : decode cX11_say 26 = .ok (.aload_n 0, 1) := by decide +kernel
theorem dX11_say_27 : decode cX11_say 27 = .ok (.getfield 75, 3) := by decide +kernel
theorem dX11_say_30 : decode cX11_say 30 = .ok (.iload_n 1, 1) := by decide +kernel
theorem dX11_say_31 : decode cX11_say 31 = .ok (.iload_n 2, 1) := by decide +kernel
theorem dX11_say_32 : decode cX11_say 32 = .ok (.invokevirtual 243, 3) := by decide +kernel
theorem dX11_say_35 : decode cX11_say 35 = .ok (.ifCond .eq 13, 3) := by decide +kernel
theorem dX11_say_38 : decode cX11_say 38 = .ok (.aload_n 0, 1) := by decide +kernel
theorem dX11_say_39 : decode cX11_say 39 = .ok (.getfield 75, 3) := by decide +kernel
theorem dX11_say_42 : decode cX11_say 42 = .ok (.getfield 121, 3) := by decide +kernel
theorem dX11_say_45 : decode cX11_say 45 = .ok (.goto 5, 3) := by decide +kernel
theorem dX11_say_48 : decode cX11_say 48 = .ok (.ldc 100, 2) := by decide +kernel
theorem dX11_say_50 : decode cX11_say 50 = .ok (.ireturn, 1) := by decide +kernel
set_option maxRecDepth 20000 in
theorem ggX11_births_X5_stands : GoodIn wsX11_births wsX5_stands := goodIn_r _ [9, 10, 102, 103, 104, 105, 106, 107, 108, 109, 110, 111] (by decide +kernel) (by decide +kernel)
set_option maxRecDepth 20000 in
theorem gX11_births_X5_stands : GoodIn wsX11_births (wsV RX11 190 RX5 yX5_stands wsX5_stands) := goodIn_app (goodIn_of _ (by decide +kernel)) ggX11_births_X5_stands
set_option maxRecDepth 20000 in
theorem ggX11_births_X1_gatherBirths : GoodIn wsX11_births wsX1_gatherBirths := goodIn_r _ [15, 16, 17, 18, 19, 20, 14, 21, 22, 23, 24, 25, 26, 8, 27, 10, 28, 29, 30, 31, 32, 33, 34, 35, 36, 37, 38, 39, 40, 41, 42, 43, 44, 45, 46, 47, 48, 49, 50, 51, 52, 53, 54, 55, 56, 57, 58, 59, 60, 61, 62, 63, 64, 65, 66, 67, 68, 69, 70, 71, 72, 73, 74, 75, 76, 77, 78, 94, 95, 96, 97, 98, 99, 100, 101, 102, 103, 104, 105, 106, 107, 108, 109, 110, 111, 112, 113, 114] (by decide +kernel) (by decide +kernel)
set_option maxRecDepth 20000 in
theorem gX11_births_X1_gatherBirths : GoodIn wsX11_births (wsV RX11 245 RX1 yX1_gatherBirths wsX1_gatherBirths) := goodIn_app (goodIn_of _ (by decide +kernel)) ggX11_births_X1_gatherBirths
set_option maxRecDepth 20000 in
theorem ggX11_births_X1_birthAt : GoodIn wsX11_births wsX1_birthAt := goodIn_r _ [82, 16, 17, 43, 44, 45, 46, 94, 95, 96, 97, 98, 99, 100, 101] (by decide +kernel) (by decide +kernel)
set_option maxRecDepth 20000 in
theorem gX11_births_X1_birthAt : GoodIn wsX11_births (wsV RX11 251 RX1 yX1_birthAt wsX1_birthAt) := goodIn_app (goodIn_of _ (by decide +kernel)) ggX11_births_X1_birthAt
theorem dX11_births_0 : decode cX11_births 0 = .ok (.aload_n 0, 1) := by decide +kernel
theorem dX11_births_1 : decode cX11_births 1 = .ok (.getfield 19, 3) := by decide +kernel
theorem dX11_births_4 : decode cX11_births 4 = .ok (.invokevirtual 190, 3) := by decide +kernel
theorem dX11_births_7 : decode cX11_births 7 = .ok (.ifCond .ne 6, 3) := by decide +kernel
theorem dX11_births_10 : decode cX11_births 10 = .ok (.ldc 193, 2) := by decide +kernel
theorem dX11_births_12 : decode cX11_births 12 = .ok (.ireturn, 1) := by decide +kernel
theorem dX11_births_13 : decode cX11_births 13 = .ok (.aload_n 0, 1) := by decide +kernel
theorem dX11_births_14 : decode cX11_births 14 = .ok (.getfield 75, 3) := by decide +kernel
theorem dX11_births_17 : decode cX11_births 17 = .ok (.invokevirtual 245, 3) := by decide +kernel
theorem dX11_births_20 : decode cX11_births 20 = .ok (.iload_n 1, 1) := by decide +kernel
theorem dX11_births_21 : decode cX11_births 21 = .ok (.iconst (-1), 1) := by decide +kernel
theorem dX11_births_22 : decode cX11_births 22 = .ok (.if_icmp .ne 11, 3) := by decide +kernel
theorem dX11_births_25 : decode cX11_births 25 = .ok (.aload_n 0, 1) := by decide +kernel
theorem dX11_births_26 : decode cX11_births 26 = .ok (.getfield 75, 3) := by decide +kernel
theorem dX11_births_29 : decode cX11_births 29 = .ok (.getfield 248, 3) := by decide +kernel
theorem dX11_births_32 : decode cX11_births 32 = .ok (.ireturn, 1) := by decide +kernel
theorem dX11_births_33 : decode cX11_births 33 = .ok (.aload_n 0, 1) := by decide +kernel
theorem dX11_births_34 : decode cX11_births 34 = .ok (.getfield 75, 3) := by decide +kernel
theorem dX11_births_37 : decode cX11_births 37 = .ok (.iload_n 1, 1) := by decide +kernel
theorem dX11_births_38 : decode cX11_births 38 = .ok (.invokevirtual 251, 3) := by decide +kernel
theorem dX11_births_41 : decode cX11_births 41 = .ok (.ireturn, 1) := by decide +kernel
set_option maxRecDepth 20000 in
theorem ggX11_liars_X5_isPair : GoodIn wsX11_liars wsX5_isPair := goodIn_r _ [9, 10, 11, 12, 8, 13, 14, 15, 16, 17, 18, 19, 20, 21, 22, 23, 84, 85, 86, 87, 88, 89, 90, 91, 92, 93] (by decide +kernel) (by decide +kernel)
set_option maxRecDepth 20000 in
theorem gX11_liars_X5_isPair : GoodIn wsX11_liars (wsV RX11 254 RX5 yX5_isPair wsX5_isPair) := goodIn_app (goodIn_of _ (by decide +kernel)) ggX11_liars_X5_isPair
set_option maxRecDepth 20000 in
theorem ggX11_liars_X5_stands : GoodIn wsX11_liars wsX5_stands := goodIn_r _ [27, 23, 84, 85, 86, 87, 88, 89, 90, 91, 92, 93] (by decide +kernel) (by decide +kernel)
set_option maxRecDepth 20000 in
theorem gX11_liars_X5_stands : GoodIn wsX11_liars (wsV RX11 190 RX5 yX5_stands wsX5_stands) := goodIn_app (goodIn_of _ (by decide +kernel)) ggX11_liars_X5_stands
set_option maxRecDepth 20000 in
theorem ggX11_liars_X1_liarsOf : GoodIn wsX11_liars wsX1_liarsOf := goodIn_r _ [32, 33, 34, 35, 36, 37, 38, 31, 39, 40, 41, 42, 43, 44, 45, 46, 47, 48, 49, 50, 51, 52, 53, 54, 55, 56, 57, 58, 59, 60, 61, 62, 63, 64, 65, 66, 67, 68, 69, 70, 71, 72, 94, 95, 96, 97, 98, 99, 100, 101, 102, 103, 84, 85, 86, 87, 88, 89, 90, 91, 92, 93, 104] (by decide +kernel) (by decide +kernel)
set_option maxRecDepth 20000 in
theorem gX11_liars_X1_liarsOf : GoodIn wsX11_liars (wsV RX11 257 RX1 yX1_liarsOf wsX1_liarsOf) := goodIn_app (goodIn_of _ (by decide +kernel)) ggX11_liars_X1_liarsOf
theorem dX11_liars_0 : decode cX11_liars 0 = .ok (.aload_n 0, 1) := by decide +kernel
theorem dX11_liars_1 : decode cX11_liars 1 = .ok (.getfield 19, 3) := by decide +kernel
theorem dX11_liars_4 : decode cX11_liars 4 = .ok (.iload_n 1, 1) := by decide +kernel
theorem dX11_liars_5 : decode cX11_liars 5 = .ok (.invokevirtual 254, 3) := by decide +kernel
theorem dX11_liars_8 : decode cX11_liars 8 = .ok (.ifCond .ne 6, 3) := by decide +kernel
theorem dX11_liars_11 : decode cX11_liars 11 = .ok (.ldc 146, 2) := by decide +kernel
theorem dX11_liars_13 : decode cX11_liars 13 = .ok (.ireturn, 1) := by decide +kernel
theorem dX11_liars_14 : decode cX11_liars 14 = .ok (.aload_n 0, 1) := by decide +kernel
theorem dX11_liars_15 : decode cX11_liars 15 = .ok (.getfield 19, 3) := by decide +kernel
theorem dX11_liars_18 : decode cX11_liars 18 = .ok (.invokevirtual 190, 3) := by decide +kernel
theorem dX11_liars_21 : decode cX11_liars 21 = .ok (.ifCond .eq 14, 3) := by decide +kernel
theorem dX11_liars_24 : decode cX11_liars 24 = .ok (.aload_n 0, 1) := by decide +kernel
theorem dX11_liars_25 : decode cX11_liars 25 = .ok (.getfield 75, 3) := by decide +kernel
theorem dX11_liars_28 : decode cX11_liars 28 = .ok (.iload_n 1, 1) := by decide +kernel
theorem dX11_liars_29 : decode cX11_liars 29 = .ok (.invokevirtual 257, 3) := by decide +kernel
theorem dX11_liars_32 : decode cX11_liars 32 = .ok (.goto 5, 3) := by decide +kernel
theorem dX11_liars_35 : decode cX11_liars 35 = .ok (.ldc 193, 2) := by decide +kernel
theorem dX11_liars_37 : decode cX11_liars 37 = .ok (.ireturn, 1) := by decide +kernel
set_option maxRecDepth 20000 in
theorem ggX11_leastLiars_X11_isOutside : GoodIn wsX11_leastLiars wsX11_isOutside := goodIn_r _ [8] (by decide +kernel) (by decide +kernel)
set_option maxRecDepth 20000 in
theorem gX11_leastLiars_X11_isOutside : GoodIn wsX11_leastLiars (va_wsS RX11 87 yX11_isOutside wsX11_isOutside) := goodIn_app (goodIn_of _ (by decide +kernel)) ggX11_leastLiars_X11_isOutside
set_option maxRecDepth 20000 in
theorem ggX11_leastLiars_X5_stands : GoodIn wsX11_leastLiars wsX5_stands := goodIn_r _ [13, 14, 90, 91, 92, 93, 94, 95, 96, 97, 98, 99] (by decide +kernel) (by decide +kernel)
set_option maxRecDepth 20000 in
theorem gX11_leastLiars_X5_stands : GoodIn wsX11_leastLiars (wsV RX11 190 RX5 yX5_stands wsX5_stands) := goodIn_app (goodIn_of _ (by decide +kernel)) ggX11_leastLiars_X5_stands
set_option maxRecDepth 20000 in
theorem ggX11_leastLiars_X1_pairOfFewestLiars : GoodIn wsX11_leastLiars wsX1_pairOfFewestLiars := goodIn_r _ [19, 20, 21, 22, 18, 23, 24, 25, 26, 27, 28, 12, 29, 14, 30, 31, 32, 33, 34, 35, 36, 37, 38, 39, 40, 41, 42, 43, 44, 45, 46, 47, 48, 49, 50, 51, 52, 53, 54, 55, 56, 57, 58, 59, 60, 61, 62, 63, 64, 65, 66, 67, 68, 69, 70, 71, 72, 73, 74, 75, 76, 77, 100, 101, 102, 103, 104, 105, 106, 107, 90, 91, 92, 93, 94, 95, 96, 97, 98, 99, 108, 109, 110] (by decide +kernel) (by decide +kernel)
set_option maxRecDepth 20000 in
theorem gX11_leastLiars_X1_pairOfFewestLiars : GoodIn wsX11_leastLiars (wsV RX11 260 RX1 yX1_pairOfFewestLiars wsX1_pairOfFewestLiars) := goodIn_app (goodIn_of _ (by decide +kernel)) ggX11_leastLiars_X1_pairOfFewestLiars
set_option maxRecDepth 20000 in
theorem ggX11_leastLiars_X1_liarsOf : GoodIn wsX11_leastLiars wsX1_liarsOf := goodIn_r _ [33, 34, 35, 36, 37, 38, 39, 18, 40, 41, 42, 43, 44, 45, 46, 47, 48, 49, 50, 51, 52, 53, 54, 55, 56, 57, 58, 59, 60, 61, 62, 63, 64, 65, 66, 67, 68, 69, 70, 71, 72, 73, 100, 101, 102, 103, 104, 105, 106, 107, 108, 109, 90, 91, 92, 93, 94, 95, 96, 97, 98, 99, 110] (by decide +kernel) (by decide +kernel)
set_option maxRecDepth 20000 in
theorem gX11_leastLiars_X1_liarsOf : GoodIn wsX11_leastLiars (wsV RX11 257 RX1 yX1_liarsOf wsX1_liarsOf) := goodIn_app (goodIn_of _ (by decide +kernel)) ggX11_leastLiars_X1_liarsOf
theorem dX11_leastLiars_0 : decode cX11_leastLiars 0 = .ok (.iload_n 1, 1) := by decide +kernel
theorem dX11_leastLiars_1 : decode cX11_leastLiars 1 = .ok (.iconst 1, 1) := by decide +kernel
theorem dX11_leastLiars_2 : decode cX11_leastLiars 2 = .ok (.invokestatic 87, 3) := by decide +kernel
theorem dX11_leastLiars_5 : decode cX11_leastLiars 5 = .ok (.ifCond .eq 6, 3) := by decide +kernel
theorem dX11_leastLiars_8 : decode cX11_leastLiars 8 = .ok (.ldc 91, 2) := by decide +kernel
theorem dX11_leastLiars_10 : decode cX11_leastLiars 10 = .ok (.ireturn, 1) := by decide +kernel
theorem dX11_leastLiars_11 : decode cX11_leastLiars 11 = .ok (.aload_n 0, 1) := by decide +kernel
theorem dX11_leastLiars_12 : decode cX11_leastLiars 12 = .ok (.getfield 19, 3) := by decide +kernel
theorem dX11_leastLiars_15 : decode cX11_leastLiars 15 = .ok (.invokevirtual 190, 3) := by decide +kernel
theorem dX11_leastLiars_18 : decode cX11_leastLiars 18 = .ok (.ifCond .ne 6, 3) := by decide +kernel
theorem dX11_leastLiars_21 : decode cX11_leastLiars 21 = .ok (.ldc 193, 2) := by decide +kernel
theorem dX11_leastLiars_23 : decode cX11_leastLiars 23 = .ok (.ireturn, 1) := by decide +kernel
theorem dX11_leastLiars_24 : decode cX11_leastLiars 24 = .ok (.aload_n 0, 1) := by decide +kernel
theorem dX11_leastLiars_25 : decode cX11_leastLiars 25 = .ok (.getfield 75, 3) := by decide +kernel
theorem dX11_leastLiars_28 : decode cX11_leastLiars 28 = .ok (.invokevirtual 260, 3) := by decide +kernel
theorem dX11_leastLiars_31 : decode cX11_leastLiars 31 = .ok (.istore_n 2, 1) := by decide +kernel
theorem dX11_leastLiars_32 : decode cX11_leastLiars 32 = .ok (.iload_n 1, 1) := by decide +kernel
theorem dX11_leastLiars_33 : decode cX11_leastLiars 33 = .ok (.ifCond .ne 7, 3) := by decide +kernel
theorem dX11_leastLiars_36 : decode cX11_leastLiars 36 = .ok (.iload_n 2, 1) := by decide +kernel
theorem dX11_leastLiars_37 : decode cX11_leastLiars 37 = .ok (.goto 11, 3) := by decide +kernel
theorem dX11_leastLiars_40 : decode cX11_leastLiars 40 = .ok (.aload_n 0, 1) := by decide +kernel
theorem dX11_leastLiars_41 : decode cX11_leastLiars 41 = .ok (.getfield 75, 3) := by decide +kernel
theorem dX11_leastLiars_44 : decode cX11_leastLiars 44 = .ok (.iload_n 2, 1) := by decide +kernel
theorem dX11_leastLiars_45 : decode cX11_leastLiars 45 = .ok (.invokevirtual 257, 3) := by decide +kernel
theorem dX11_leastLiars_48 : decode cX11_leastLiars 48 = .ok (.ireturn, 1) := by decide +kernel
set_option maxRecDepth 20000 in
theorem ggX11_ask_X5_stands : GoodIn wsX11_ask wsX5_stands := goodIn_r _ [8, 9, 100, 101, 102, 103, 104, 105, 106, 107, 108, 109] (by decide +kernel) (by decide +kernel)
set_option maxRecDepth 20000 in
theorem gX11_ask_X5_stands : GoodIn wsX11_ask (wsV RX11 190 RX5 yX5_stands wsX5_stands) := goodIn_app (goodIn_of _ (by decide +kernel)) ggX11_ask_X5_stands
set_option maxRecDepth 20000 in
theorem ggX11_ask_X1_gatherBirths : GoodIn wsX11_ask wsX1_gatherBirths := goodIn_r _ [14, 15, 16, 17, 18, 19, 13, 20, 21, 22, 23, 24, 25, 7, 26, 9, 27, 28, 29, 30, 31, 32, 33, 34, 35, 36, 37, 38, 39, 40, 41, 42, 43, 44, 45, 46, 47, 48, 49, 50, 51, 52, 53, 54, 55, 56, 57, 58, 59, 60, 61, 62, 63, 64, 65, 66, 67, 68, 69, 70, 71, 72, 73, 74, 75, 76, 77, 110, 111, 112, 113, 114, 115, 116, 117, 100, 101, 102, 103, 104, 105, 106, 107, 108, 109, 118, 119, 120] (by decide +kernel) (by decide +kernel)
set_option maxRecDepth 20000 in
theorem gX11_ask_X1_gatherBirths : GoodIn wsX11_ask (wsV RX11 245 RX1 yX1_gatherBirths wsX1_gatherBirths) := goodIn_app (goodIn_of _ (by decide +kernel)) ggX11_ask_X1_gatherBirths
set_option maxRecDepth 20000 in
theorem ggX11_ask_X1_bestAsked : GoodIn wsX11_ask wsX1_bestAsked := goodIn_r _ [81, 15, 21, 82, 83, 84, 85, 13, 86, 87, 16, 36, 88, 72, 69, 73, 75, 76, 44, 77, 42, 43, 45, 39, 40, 41, 46, 47, 48, 49, 50, 51, 52, 53, 54, 55, 56, 57, 58, 59, 60, 61, 62, 63, 64, 65, 66, 67, 68, 70, 71, 74, 110, 111, 112, 113, 114, 115, 116, 117, 100, 101, 102, 103, 104, 105, 106, 107, 108, 109, 118, 119, 120] (by decide +kernel) (by decide +kernel)
set_option maxRecDepth 20000 in
theorem gX11_ask_X1_bestAsked : GoodIn wsX11_ask (wsV RX11 263 RX1 yX1_bestAsked wsX1_bestAsked) := goodIn_app (goodIn_of _ (by decide +kernel)) ggX11_ask_X1_bestAsked
theorem dX11_ask_0 : decode cX11_ask 0 = .ok (.aload_n 0, 1) := by decide +kernel
theorem dX11_ask_1 : decode cX11_ask 1 = .ok (.getfield 19, 3) := by decide +kernel
theorem dX11_ask_4 : decode cX11_ask 4 = .ok (.invokevirtual 190, 3) := by decide +kernel
theorem dX11_ask_7 : decode cX11_ask 7 = .ok (.ifCond .ne 6, 3) := by decide +kernel
theorem dX11_ask_10 : decode cX11_ask 10 = .ok (.ldc 193, 2) := by decide +kernel
theorem dX11_ask_12 : decode cX11_ask 12 = .ok (.ireturn, 1) := by decide +kernel
theorem dX11_ask_13 : decode cX11_ask 13 = .ok (.aload_n 0, 1) := by decide +kernel
theorem dX11_ask_14 : decode cX11_ask 14 = .ok (.getfield 75, 3) := by decide +kernel
theorem dX11_ask_17 : decode cX11_ask 17 = .ok (.invokevirtual 245, 3) := by decide +kernel
theorem dX11_ask_20 : decode cX11_ask 20 = .ok (.aload_n 0, 1) := by decide +kernel
theorem dX11_ask_21 : decode cX11_ask 21 = .ok (.getfield 75, 3) := by decide +kernel
theorem dX11_ask_24 : decode cX11_ask 24 = .ok (.invokevirtual 263, 3) := by decide +kernel
theorem dX11_ask_27 : decode cX11_ask 27 = .ok (.ireturn, 1) := by decide +kernel
set_option maxRecDepth 20000 in
theorem ggX11_write_X11_isOutside : GoodIn wsX11_write wsX11_isOutside := goodIn_r _ [8] (by decide +kernel) (by decide +kernel)
set_option maxRecDepth 20000 in
theorem gX11_write_X11_isOutside : GoodIn wsX11_write (va_wsS RX11 87 yX11_isOutside wsX11_isOutside) := goodIn_app (goodIn_of _ (by decide +kernel)) ggX11_write_X11_isOutside
set_option maxRecDepth 20000 in
theorem ggX11_write_X0_add : GoodIn wsX11_write wsX0_add := goodIn_r _ [13, 14, 15, 16, 17, 18, 19, 31, 32] (by decide +kernel) (by decide +kernel)
set_option maxRecDepth 20000 in
theorem gX11_write_X0_add : GoodIn wsX11_write (wsV RX11 266 RX0 yX0_add wsX0_add) := goodIn_app (goodIn_of _ (by decide +kernel)) ggX11_write_X0_add
theorem dX11_write_0 : decode cX11_write 0 = .ok (.iload_n 1, 1) := by decide +kernel
theorem dX11_write_1 : decode cX11_write 1 = .ok (.bipush 7, 2) := by decide +kernel
theorem dX11_write_3 : decode cX11_write 3 = .ok (.invokestatic 87, 3) := by decide +kernel
theorem dX11_write_6 : decode cX11_write 6 = .ok (.ifCond .eq 6, 3) := by decide +kernel
theorem dX11_write_9 : decode cX11_write 9 = .ok (.ldc 91, 2) := by decide +kernel
theorem dX11_write_11 : decode cX11_write 11 = .ok (.ireturn, 1) := by decide +kernel
theorem dX11_write_12 : decode cX11_write 12 = .ok (.aload_n 0, 1) := by decide +kernel
theorem dX11_write_13 : decode cX11_write 13 = .ok (.getfield 82, 3) := by decide +kernel
theorem dX11_write_16 : decode cX11_write 16 = .ok (.iload_n 1, 1) := by decide +kernel
theorem dX11_write_17 : decode cX11_write 17 = .ok (.invokevirtual 266, 3) := by decide +kernel
theorem dX11_write_20 : decode cX11_write 20 = .ok (.ifCond .eq 13, 3) := by decide +kernel
theorem dX11_write_23 : decode cX11_write 23 = .ok (.aload_n 0, 1) := by decide +kernel
theorem dX11_write_24 : decode cX11_write 24 = .ok (.getfield 82, 3) := by decide +kernel
theorem dX11_write_27 : decode cX11_write 27 = .ok (.getfield 124, 3) := by decide +kernel
theorem dX11_write_30 : decode cX11_write 30 = .ok (.goto 5, 3) := by decide +kernel
theorem dX11_write_33 : decode cX11_write 33 = .ok (.ldc 100, 2) := by decide +kernel
theorem dX11_write_35 : decode cX11_write 35 = .ok (.ireturn, 1) := by decide +kernel
theorem dX11_tear_0 : decode cX11_tear 0 = .ok (.aload_n 0, 1) := by decide +kernel
theorem dX11_tear_1 : decode cX11_tear 1 = .ok (.getfield 75, 3) := by decide +kernel
theorem dX11_tear_4 : decode cX11_tear 4 = .ok (.getfield 121, 3) := by decide +kernel
theorem dX11_tear_7 : decode cX11_tear 7 = .ok (.aload_n 0, 1) := by decide +kernel
theorem dX11_tear_8 : decode cX11_tear 8 = .ok (.getfield 82, 3) := by decide +kernel
theorem dX11_tear_11 : decode cX11_tear 11 = .ok (.getfield 124, 3) := by decide +kernel
theorem dX11_tear_14 : decode cX11_tear 14 = .ok (.iadd, 1) := by decide +kernel
theorem dX11_tear_15 : decode cX11_tear 15 = .ok (.istore_n 1, 1) := by decide +kernel
theorem dX11_tear_16 : decode cX11_tear 16 = .ok (.aload_n 0, 1) := by decide +kernel
theorem dX11_tear_17 : decode cX11_tear 17 = .ok (.getfield 75, 3) := by decide +kernel
end
section
theorem dX11_tear_20 : decode cX11_tear 20 = .ok (.iconst 0, 1) := by decide +kernel
theorem dX11_tear_21 : decode cX11_tear 21 = .ok (.putfield 121, 3) := by decide +kernel
theorem dX11_tear_24 : decode cX11_tear 24 = .ok (.aload_n 0, 1) := by decide +kernel
theorem dX11_tear_25 : decode cX11_tear 25 = .ok (.getfield 82, 3) := by decide +kernel
theorem dX11_tear_28 : decode cX11_tear 28 = .ok (.iconst 0, 1) := by decide +kernel
theorem dX11_tear_29 : decode cX11_tear 29 = .ok (.putfield 124, 3) := by decide +kernel
theorem dX11_tear_32 : decode cX11_tear 32 = .ok (.iload_n 1, 1) := by decide +kernel
theorem dX11_tear_33 : decode cX11_tear 33 = .ok (.ireturn, 1) := by decide +kernel
set_option maxRecDepth 20000 in
theorem ggX11_judge_X8_get : GoodIn wsX11_judge wsX8_get := goodIn_r _ [7, 8, 9, 10, 11, 12, 39] (by decide +kernel) (by decide +kernel)
set_option maxRecDepth 20000 in
theorem gX11_judge_X8_get : GoodIn wsX11_judge (wsV RX11 138 RX8 yX8_get wsX8_get) := goodIn_app (goodIn_of _ (by decide +kernel)) ggX11_judge_X8_get
set_option maxRecDepth 20000 in
theorem ggX11_judge_J6_bitCount_0f7a4 : GoodIn wsX11_judge wsJ6_bitCount_0f7a4 := goodIn_r _ [16, 17, 18, 19] (by decide +kernel) (by decide +kernel)
set_option maxRecDepth 20000 in
theorem gX11_judge_J6_bitCount_0f7a4 : GoodIn wsX11_judge (va_wsS RX11 267 yJ6_bitCount_0f7a4 wsJ6_bitCount_0f7a4) := goodIn_app (goodIn_of _ (by decide +kernel)) ggX11_judge_J6_bitCount_0f7a4
set_option maxRecDepth 20000 in
theorem ggX11_judge_X0_firstOtherThan : GoodIn wsX11_judge wsX0_firstOtherThan := goodIn_r _ [24, 25, 26, 27, 10, 11, 12, 40, 41] (by decide +kernel) (by decide +kernel)
set_option maxRecDepth 20000 in
theorem gX11_judge_X0_firstOtherThan : GoodIn wsX11_judge (wsV RX11 272 RX0 yX0_firstOtherThan wsX0_firstOtherThan) := goodIn_app (goodIn_of _ (by decide +kernel)) ggX11_judge_X0_firstOtherThan
theorem dX11_judge_0 : decode cX11_judge 0 = .ok (.aload_n 0, 1) := by decide +kernel
theorem dX11_judge_1 : decode cX11_judge 1 = .ok (.getfield 82, 3) := by decide +kernel
theorem dX11_judge_4 : decode cX11_judge 4 = .ok (.aload_n 0, 1) := by decide +kernel
theorem dX11_judge_5 : decode cX11_judge 5 = .ok (.getfield 35, 3) := by decide +kernel
theorem dX11_judge_8 : decode cX11_judge 8 = .ok (.iconst 4, 1) := by decide +kernel
theorem dX11_judge_9 : decode cX11_judge 9 = .ok (.invokevirtual 138, 3) := by decide +kernel
theorem dX11_judge_12 : decode cX11_judge 12 = .ok (.invokestatic 267, 3) := by decide +kernel
theorem dX11_judge_15 : decode cX11_judge 15 = .ok (.invokevirtual 272, 3) := by decide +kernel
theorem dX11_judge_18 : decode cX11_judge 18 = .ok (.ireturn, 1) := by decide +kernel
theorem dX11_seed_0 : decode cX11_seed 0 = .ok (.iload_n 1, 1) := by decide +kernel
theorem dX11_seed_1 : decode cX11_seed 1 = .ok (.ifCond .ge 6, 3) := by decide +kernel
theorem dX11_seed_4 : decode cX11_seed 4 = .ok (.ldc 91, 2) := by decide +kernel
theorem dX11_seed_6 : decode cX11_seed 6 = .ok (.ireturn, 1) := by decide +kernel
theorem dX11_seed_7 : decode cX11_seed 7 = .ok (.aload_n 0, 1) := by decide +kernel
theorem dX11_seed_8 : decode cX11_seed 8 = .ok (.getfield 275, 3) := by decide +kernel
theorem dX11_seed_11 : decode cX11_seed 11 = .ok (.istore_n 2, 1) := by decide +kernel
theorem dX11_seed_12 : decode cX11_seed 12 = .ok (.aload_n 0, 1) := by decide +kernel
theorem dX11_seed_13 : decode cX11_seed 13 = .ok (.iload_n 1, 1) := by decide +kernel
theorem dX11_seed_14 : decode cX11_seed 14 = .ok (.putfield 275, 3) := by decide +kernel
theorem dX11_seed_17 : decode cX11_seed 17 = .ok (.iload_n 2, 1) := by decide +kernel
theorem dX11_seed_18 : decode cX11_seed 18 = .ok (.ireturn, 1) := by decide +kernel
set_option maxRecDepth 20000 in
theorem ggX11_keep_X11_imageAt : GoodIn wsX11_keep wsX11_imageAt := goodIn_r _ [12, 13, 39, 40, 41, 42, 43, 44, 45, 46, 47, 48, 49] (by decide +kernel) (by decide +kernel)
set_option maxRecDepth 20000 in
theorem gX11_keep_X11_imageAt : GoodIn wsX11_keep (wsV RX11 278 RX11 yX11_imageAt wsX11_imageAt) := goodIn_app (goodIn_of _ (by decide +kernel)) ggX11_keep_X11_imageAt
set_option maxRecDepth 20000 in
theorem ggX11_keep_X8_take : GoodIn wsX11_keep wsX8_take := goodIn_r _ [18, 19, 20, 21, 22, 23, 24, 25, 26, 27, 28, 29, 50] (by decide +kernel) (by decide +kernel)
set_option maxRecDepth 20000 in
theorem gX11_keep_X8_take : GoodIn wsX11_keep (wsV RX11 283 RX8 yX8_take wsX8_take) := goodIn_app (goodIn_of _ (by decide +kernel)) ggX11_keep_X8_take
set_option maxRecDepth 20000 in
theorem ggX11_keep_X4_forget : GoodIn wsX11_keep wsX4_forget := goodIn_r _ [34, 35, 51, 52, 53] (by decide +kernel) (by decide +kernel)
set_option maxRecDepth 20000 in
theorem gX11_keep_X4_forget : GoodIn wsX11_keep (wsV RX11 115 RX4 yX4_forget wsX4_forget) := goodIn_app (goodIn_of _ (by decide +kernel)) ggX11_keep_X4_forget
theorem dX11_keep_0 : decode cX11_keep 0 = .ok (.aload_n 0, 1) := by decide +kernel
theorem dX11_keep_1 : decode cX11_keep 1 = .ok (.iload_n 1, 1) := by decide +kernel
theorem dX11_keep_2 : decode cX11_keep 2 = .ok (.invokevirtual 278, 3) := by decide +kernel
theorem dX11_keep_5 : decode cX11_keep 5 = .ok (.astore_n 2, 1) := by decide +kernel
theorem dX11_keep_6 : decode cX11_keep 6 = .ok (.aload_n 2, 1) := by decide +kernel
theorem dX11_keep_7 : decode cX11_keep 7 = .ok (.ifnonnull 6, 3) := by decide +kernel
theorem dX11_keep_10 : decode cX11_keep 10 = .ok (.ldc 146, 2) := by decide +kernel
theorem dX11_keep_12 : decode cX11_keep 12 = .ok (.ireturn, 1) := by decide +kernel
theorem dX11_keep_13 : decode cX11_keep 13 = .ok (.aload_n 2, 1) := by decide +kernel
theorem dX11_keep_14 : decode cX11_keep 14 = .ok (.getfield 282, 3) := by decide +kernel
theorem dX11_keep_17 : decode cX11_keep 17 = .ok (.aload_n 0, 1) := by decide +kernel
theorem dX11_keep_18 : decode cX11_keep 18 = .ok (.getfield 35, 3) := by decide +kernel
theorem dX11_keep_21 : decode cX11_keep 21 = .ok (.invokevirtual 283, 3) := by decide +kernel
theorem dX11_keep_24 : decode cX11_keep 24 = .ok (.aload_n 2, 1) := by decide +kernel
theorem dX11_keep_25 : decode cX11_keep 25 = .ok (.aload_n 0, 1) := by decide +kernel
theorem dX11_keep_26 : decode cX11_keep 26 = .ok (.getfield 275, 3) := by decide +kernel
theorem dX11_keep_29 : decode cX11_keep 29 = .ok (.putfield 285, 3) := by decide +kernel
theorem dX11_keep_32 : decode cX11_keep 32 = .ok (.aload_n 2, 1) := by decide +kernel
theorem dX11_keep_33 : decode cX11_keep 33 = .ok (.iconst 1, 1) := by decide +kernel
theorem dX11_keep_34 : decode cX11_keep 34 = .ok (.putfield 288, 3) := by decide +kernel
theorem dX11_keep_37 : decode cX11_keep 37 = .ok (.aload_n 0, 1) := by decide +kernel
theorem dX11_keep_38 : decode cX11_keep 38 = .ok (.getfield 42, 3) := by decide +kernel
theorem dX11_keep_41 : decode cX11_keep 41 = .ok (.invokevirtual 115, 3) := by decide +kernel
theorem dX11_keep_44 : decode cX11_keep 44 = .ok (.iconst 1, 1) := by decide +kernel
theorem dX11_keep_45 : decode cX11_keep 45 = .ok (.ireturn, 1) := by decide +kernel
set_option maxRecDepth 20000 in
theorem ggX11_goBack_X11_imageAt : GoodIn wsX11_goBack wsX11_imageAt := goodIn_r _ [13, 14, 40, 41, 42, 43, 44, 45, 46, 47, 48, 49, 50] (by decide +kernel) (by decide +kernel)
set_option maxRecDepth 20000 in
theorem gX11_goBack_X11_imageAt : GoodIn wsX11_goBack (wsV RX11 278 RX11 yX11_imageAt wsX11_imageAt) := goodIn_app (goodIn_of _ (by decide +kernel)) ggX11_goBack_X11_imageAt
set_option maxRecDepth 20000 in
theorem ggX11_goBack_X8_take : GoodIn wsX11_goBack wsX8_take := goodIn_r _ [19, 20, 21, 22, 23, 24, 25, 26, 27, 28, 29, 30, 51] (by decide +kernel) (by decide +kernel)
set_option maxRecDepth 20000 in
theorem gX11_goBack_X8_take : GoodIn wsX11_goBack (wsV RX11 283 RX8 yX8_take wsX8_take) := goodIn_app (goodIn_of _ (by decide +kernel)) ggX11_goBack_X8_take
set_option maxRecDepth 20000 in
theorem ggX11_goBack_X4_forget : GoodIn wsX11_goBack wsX4_forget := goodIn_r _ [35, 36, 52, 53, 54] (by decide +kernel) (by decide +kernel)
set_option maxRecDepth 20000 in
theorem gX11_goBack_X4_forget : GoodIn wsX11_goBack (wsV RX11 115 RX4 yX4_forget wsX4_forget) := goodIn_app (goodIn_of _ (by decide +kernel)) ggX11_goBack_X4_forget
theorem dX11_goBack_0 : decode cX11_goBack 0 = .ok (.aload_n 0, 1) := by decide +kernel
theorem dX11_goBack_1 : decode cX11_goBack 1 = .ok (.iload_n 1, 1) := by decide +kernel
theorem dX11_goBack_2 : decode cX11_goBack 2 = .ok (.invokevirtual 278, 3) := by decide +kernel
theorem dX11_goBack_5 : decode cX11_goBack 5 = .ok (.astore_n 2, 1) := by decide +kernel
theorem dX11_goBack_6 : decode cX11_goBack 6 = .ok (.aload_n 2, 1) := by decide +kernel
theorem dX11_goBack_7 : decode cX11_goBack 7 = .ok (.ifnonnull 6, 3) := by decide +kernel
theorem dX11_goBack_10 : decode cX11_goBack 10 = .ok (.ldc 146, 2) := by decide +kernel
theorem dX11_goBack_12 : decode cX11_goBack 12 = .ok (.ireturn, 1) := by decide +kernel
theorem dX11_goBack_13 : decode cX11_goBack 13 = .ok (.aload_n 2, 1) := by decide +kernel
theorem dX11_goBack_14 : decode cX11_goBack 14 = .ok (.getfield 288, 3) := by decide +kernel
theorem dX11_goBack_17 : decode cX11_goBack 17 = .ok (.ifCond .ne 6, 3) := by decide +kernel
theorem dX11_goBack_20 : decode cX11_goBack 20 = .ok (.ldc 193, 2) := by decide +kernel
theorem dX11_goBack_22 : decode cX11_goBack 22 = .ok (.ireturn, 1) := by decide +kernel
theorem dX11_goBack_23 : decode cX11_goBack 23 = .ok (.aload_n 0, 1) := by decide +kernel
theorem dX11_goBack_24 : decode cX11_goBack 24 = .ok (.getfield 35, 3) := by decide +kernel
theorem dX11_goBack_27 : decode cX11_goBack 27 = .ok (.aload_n 2, 1) := by decide +kernel
theorem dX11_goBack_28 : decode cX11_goBack 28 = .ok (.getfield 282, 3) := by decide +kernel
theorem dX11_goBack_31 : decode cX11_goBack 31 = .ok (.invokevirtual 283, 3) := by decide +kernel
theorem dX11_goBack_34 : decode cX11_goBack 34 = .ok (.aload_n 0, 1) := by decide +kernel
theorem dX11_goBack_35 : decode cX11_goBack 35 = .ok (.aload_n 2, 1) := by decide +kernel
theorem dX11_goBack_36 : decode cX11_goBack 36 = .ok (.getfield 285, 3) := by decide +kernel
theorem dX11_goBack_39 : decode cX11_goBack 39 = .ok (.putfield 275, 3) := by decide +kernel
theorem dX11_goBack_42 : decode cX11_goBack 42 = .ok (.aload_n 0, 1) := by decide +kernel
theorem dX11_goBack_43 : decode cX11_goBack 43 = .ok (.getfield 42, 3) := by decide +kernel
theorem dX11_goBack_46 : decode cX11_goBack 46 = .ok (.invokevirtual 115, 3) := by decide +kernel
theorem dX11_goBack_49 : decode cX11_goBack 49 = .ok (.iconst 1, 1) := by decide +kernel
theorem dX11_goBack_50 : decode cX11_goBack 50 = .ok (.ireturn, 1) := by decide +kernel
theorem dX11_isOutside_0 : decode cX11_isOutside 0 = .ok (.iload_n 0, 1) := by decide +kernel
theorem dX11_isOutside_1 : decode cX11_isOutside 1 = .ok (.ifCond .lt 8, 3) := by decide +kernel
theorem dX11_isOutside_4 : decode cX11_isOutside 4 = .ok (.iload_n 0, 1) := by decide +kernel
theorem dX11_isOutside_5 : decode cX11_isOutside 5 = .ok (.iload_n 1, 1) := by decide +kernel
theorem dX11_isOutside_6 : decode cX11_isOutside 6 = .ok (.if_icmp .le 7, 3) := by decide +kernel
theorem dX11_isOutside_9 : decode cX11_isOutside 9 = .ok (.iconst 1, 1) := by decide +kernel
theorem dX11_isOutside_10 : decode cX11_isOutside 10 = .ok (.goto 4, 3) := by decide +kernel
theorem dX11_isOutside_13 : decode cX11_isOutside 13 = .ok (.iconst 0, 1) := by decide +kernel
theorem dX11_isOutside_14 : decode cX11_isOutside 14 = .ok (.ireturn, 1) := by decide +kernel
set_option maxRecDepth 20000 in
theorem ggX11_isFullOfMornings_X8_get : GoodIn wsX11_isFullOfMornings wsX8_get := goodIn_r _ [6, 7, 8, 9, 10, 11, 23] (by decide +kernel) (by decide +kernel)
set_option maxRecDepth 20000 in
theorem gX11_isFullOfMornings_X8_get : GoodIn wsX11_isFullOfMornings (wsV RX11 138 RX8 yX8_get wsX8_get) := goodIn_app (goodIn_of _ (by decide +kernel)) ggX11_isFullOfMornings_X8_get
theorem dX11_isFullOfMornings_0 : decode cX11_isFullOfMornings 0 = .ok (.aload_n 0, 1) := by decide +kernel
theorem dX11_isFullOfMornings_1 : decode cX11_isFullOfMornings 1 = .ok (.getfield 35, 3) := by decide +kernel
theorem dX11_isFullOfMornings_4 : decode cX11_isFullOfMornings 4 = .ok (.iconst 1, 1) := by decide +kernel
theorem dX11_isFullOfMornings_5 : decode cX11_isFullOfMornings 5 = .ok (.invokevirtual 138, 3) := by decide +kernel
theorem dX11_isFullOfMornings_8 : decode cX11_isFullOfMornings 8 = .ok (.sipush 9000, 3) := by decide +kernel
theorem dX11_isFullOfMornings_11 : decode cX11_isFullOfMornings 11 = .ok (.if_icmp .le 7, 3) := by decide +kernel
theorem dX11_isFullOfMornings_14 : decode cX11_isFullOfMornings 14 = .ok (.iconst 1, 1) := by decide +kernel
theorem dX11_isFullOfMornings_15 : decode cX11_isFullOfMornings 15 = .ok (.goto 4, 3) := by decide +kernel
theorem dX11_isFullOfMornings_18 : decode cX11_isFullOfMornings 18 = .ok (.iconst 0, 1) := by decide +kernel
theorem dX11_isFullOfMornings_19 : decode cX11_isFullOfMornings 19 = .ok (.ireturn, 1) := by decide +kernel
set_option maxRecDepth 20000 in
theorem ggX11_change_X8_get : GoodIn wsX11_change wsX8_get := goodIn_r _ [7, 8, 9, 10, 11, 12, 49] (by decide +kernel) (by decide +kernel)
set_option maxRecDepth 20000 in
theorem gX11_change_X8_get : GoodIn wsX11_change (wsV RX11 138 RX8 yX8_get wsX8_get) := goodIn_app (goodIn_of _ (by decide +kernel)) ggX11_change_X8_get
set_option maxRecDepth 20000 in
theorem ggX11_change_X4_push : GoodIn wsX11_change wsX4_push := goodIn_r _ [17, 18, 19, 20, 21, 22, 23, 24, 25, 26, 27, 11, 28, 29, 10, 12, 30, 31, 32, 49, 50, 51, 52] (by decide +kernel) (by decide +kernel)
set_option maxRecDepth 20000 in
theorem gX11_change_X4_push : GoodIn wsX11_change (wsV RX11 178 RX4 yX4_push wsX4_push) := goodIn_app (goodIn_of _ (by decide +kernel)) ggX11_change_X4_push
set_option maxRecDepth 20000 in
theorem ggX11_change_X8_put : GoodIn wsX11_change wsX8_put := goodIn_r _ [36, 8, 37, 31, 11, 32, 49] (by decide +kernel) (by decide +kernel)
set_option maxRecDepth 20000 in
theorem gX11_change_X8_put : GoodIn wsX11_change (wsV RX11 197 RX8 yX8_put wsX8_put) := goodIn_app (goodIn_of _ (by decide +kernel)) ggX11_change_X8_put
theorem dX11_change_0 : decode cX11_change 0 = .ok (.aload_n 0, 1) := by decide +kernel
theorem dX11_change_1 : decode cX11_change 1 = .ok (.getfield 35, 3) := by decide +kernel
theorem dX11_change_4 : decode cX11_change 4 = .ok (.iload_n 1, 1) := by decide +kernel
theorem dX11_change_5 : decode cX11_change 5 = .ok (.invokevirtual 138, 3) := by decide +kernel
theorem dX11_change_8 : decode cX11_change 8 = .ok (.istore_n 3, 1) := by decide +kernel
theorem dX11_change_9 : decode cX11_change 9 = .ok (.aload_n 0, 1) := by decide +kernel
theorem dX11_change_10 : decode cX11_change 10 = .ok (.getfield 42, 3) := by decide +kernel
theorem dX11_change_13 : decode cX11_change 13 = .ok (.aload_n 0, 1) := by decide +kernel
theorem dX11_change_14 : decode cX11_change 14 = .ok (.getfield 35, 3) := by decide +kernel
theorem dX11_change_17 : decode cX11_change 17 = .ok (.invokevirtual 178, 3) := by decide +kernel
theorem dX11_change_20 : decode cX11_change 20 = .ok (.aload_n 0, 1) := by decide +kernel
theorem dX11_change_21 : decode cX11_change 21 = .ok (.getfield 35, 3) := by decide +kernel
theorem dX11_change_24 : decode cX11_change 24 = .ok (.iload_n 1, 1) := by decide +kernel
theorem dX11_change_25 : decode cX11_change 25 = .ok (.iload_n 2, 1) := by decide +kernel
theorem dX11_change_26 : decode cX11_change 26 = .ok (.invokevirtual 197, 3) := by decide +kernel
theorem dX11_change_29 : decode cX11_change 29 = .ok (.iload_n 3, 1) := by decide +kernel
theorem dX11_change_30 : decode cX11_change 30 = .ok (.ireturn, 1) := by decide +kernel
set_option maxRecDepth 20000 in
theorem ggX11_swear_X8_get : GoodIn wsX11_swear wsX8_get := goodIn_r _ [9, 10, 11, 12, 13, 14, 77] (by decide +kernel) (by decide +kernel)
set_option maxRecDepth 20000 in
theorem gX11_swear_X8_get : GoodIn wsX11_swear (wsV RX11 138 RX8 yX8_get wsX8_get) := goodIn_app (goodIn_of _ (by decide +kernel)) ggX11_swear_X8_get
set_option maxRecDepth 20000 in
theorem ggX11_swear_X8_put : GoodIn wsX11_swear wsX8_put := goodIn_r _ [18, 10, 19, 20, 13, 21, 77] (by decide +kernel) (by decide +kernel)
set_option maxRecDepth 20000 in
theorem gX11_swear_X8_put : GoodIn wsX11_swear (wsV RX11 197 RX8 yX8_put wsX8_put) := goodIn_app (goodIn_of _ (by decide +kernel)) ggX11_swear_X8_put
set_option maxRecDepth 20000 in
theorem ggX11_swear_X2_hearers : GoodIn wsX11_swear wsX2_hearers := goodIn_r _ [26, 27, 28, 29, 30, 31, 25, 32, 33, 34, 35, 36, 12, 13, 14, 37, 38, 39, 40, 41, 42, 43, 44, 45, 46, 47, 48, 78, 79, 67, 68, 69, 70, 71, 72, 73, 74, 75, 76, 77] (by decide +kernel) (by decide +kernel)
set_option maxRecDepth 20000 in
theorem gX11_swear_X2_hearers : GoodIn wsX11_swear (wsV RX11 292 RX2 yX2_hearers wsX2_hearers) := goodIn_app (goodIn_of _ (by decide +kernel)) ggX11_swear_X2_hearers
set_option maxRecDepth 20000 in
theorem ggX11_swear_X2_saying : GoodIn wsX11_swear wsX2_saying := goodIn_r _ [52, 27, 53, 54, 55, 36, 12, 13, 14, 29, 30, 31, 25, 32, 33, 34, 35, 37, 38, 39, 40, 41, 42, 43, 44, 45, 46, 47, 48, 78, 79, 67, 68, 69, 70, 71, 72, 73, 74, 75, 76, 77] (by decide +kernel) (by decide +kernel)
set_option maxRecDepth 20000 in
theorem gX11_swear_X2_saying : GoodIn wsX11_swear (wsV RX11 208 RX2 yX2_saying wsX2_saying) := goodIn_app (goodIn_of _ (by decide +kernel)) ggX11_swear_X2_saying
theorem dX11_swear_0 : decode cX11_swear 0 = .ok (.aload_n 0, 1) := by decide +kernel
theorem dX11_swear_1 : decode cX11_swear 1 = .ok (.getfield 35, 3) := by decide +kernel
theorem dX11_swear_4 : decode cX11_swear 4 = .ok (.iconst 1, 1) := by decide +kernel
theorem dX11_swear_5 : decode cX11_swear 5 = .ok (.aload_n 0, 1) := by decide +kernel
theorem dX11_swear_6 : decode cX11_swear 6 = .ok (.getfield 35, 3) := by decide +kernel
theorem dX11_swear_9 : decode cX11_swear 9 = .ok (.iconst 1, 1) := by decide +kernel
theorem dX11_swear_10 : decode cX11_swear 10 = .ok (.invokevirtual 138, 3) := by decide +kernel
theorem dX11_swear_13 : decode cX11_swear 13 = .ok (.iconst 1, 1) := by decide +kernel
theorem dX11_swear_14 : decode cX11_swear 14 = .ok (.iadd, 1) := by decide +kernel
theorem dX11_swear_15 : decode cX11_swear 15 = .ok (.invokevirtual 197, 3) := by decide +kernel
theorem dX11_swear_18 : decode cX11_swear 18 = .ok (.aload_n 0, 1) := by decide +kernel
theorem dX11_swear_19 : decode cX11_swear 19 = .ok (.getfield 35, 3) := by decide +kernel
theorem dX11_swear_22 : decode cX11_swear 22 = .ok (.iconst 2, 1) := by decide +kernel
theorem dX11_swear_23 : decode cX11_swear 23 = .ok (.iload_n 1, 1) := by decide +kernel
theorem dX11_swear_24 : decode cX11_swear 24 = .ok (.invokevirtual 197, 3) := by decide +kernel
theorem dX11_swear_27 : decode cX11_swear 27 = .ok (.aload_n 0, 1) := by decide +kernel
theorem dX11_swear_28 : decode cX11_swear 28 = .ok (.getfield 35, 3) := by decide +kernel
theorem dX11_swear_31 : decode cX11_swear 31 = .ok (.iconst 3, 1) := by decide +kernel
theorem dX11_swear_32 : decode cX11_swear 32 = .ok (.iload_n 2, 1) := by decide +kernel
theorem dX11_swear_33 : decode cX11_swear 33 = .ok (.invokevirtual 197, 3) := by decide +kernel
theorem dX11_swear_36 : decode cX11_swear 36 = .ok (.aload_n 0, 1) := by decide +kernel
theorem dX11_swear_37 : decode cX11_swear 37 = .ok (.getfield 35, 3) := by decide +kernel
theorem dX11_swear_40 : decode cX11_swear 40 = .ok (.iconst 4, 1) := by decide +kernel
theorem dX11_swear_41 : decode cX11_swear 41 = .ok (.aload_n 0, 1) := by decide +kernel
theorem dX11_swear_42 : decode cX11_swear 42 = .ok (.getfield 57, 3) := by decide +kernel
theorem dX11_swear_45 : decode cX11_swear 45 = .ok (.iload_n 1, 1) := by decide +kernel
theorem dX11_swear_46 : decode cX11_swear 46 = .ok (.iload_n 2, 1) := by decide +kernel
theorem dX11_swear_47 : decode cX11_swear 47 = .ok (.iconst 0, 1) := by decide +kernel
theorem dX11_swear_48 : decode cX11_swear 48 = .ok (.invokevirtual 292, 3) := by decide +kernel
theorem dX11_swear_51 : decode cX11_swear 51 = .ok (.invokevirtual 197, 3) := by decide +kernel
theorem dX11_swear_54 : decode cX11_swear 54 = .ok (.aload_n 0, 1) := by decide +kernel
theorem dX11_swear_55 : decode cX11_swear 55 = .ok (.getfield 35, 3) := by decide +kernel
theorem dX11_swear_58 : decode cX11_swear 58 = .ok (.iconst 5, 1) := by decide +kernel
theorem dX11_swear_59 : decode cX11_swear 59 = .ok (.aload_n 0, 1) := by decide +kernel
theorem dX11_swear_60 : decode cX11_swear 60 = .ok (.getfield 57, 3) := by decide +kernel
theorem dX11_swear_63 : decode cX11_swear 63 = .ok (.iload_n 1, 1) := by decide +kernel
theorem dX11_swear_64 : decode cX11_swear 64 = .ok (.iload_n 2, 1) := by decide +kernel
theorem dX11_swear_65 : decode cX11_swear 65 = .ok (.iconst 5, 1) := by decide +kernel
theorem dX11_swear_66 : decode cX11_swear 66 = .ok (.invokevirtual 292, 3) := by decide +kernel
theorem dX11_swear_69 : decode cX11_swear 69 = .ok (.invokevirtual 197, 3) := by decide +kernel
theorem dX11_swear_72 : decode cX11_swear 72 = .ok (.iconst 0, 1) := by decide +kernel
theorem dX11_swear_73 : decode cX11_swear 73 = .ok (.istore_n 3, 1) := by decide +kernel
theorem dX11_swear_74 : decode cX11_swear 74 = .ok (.iload_n 3, 1) := by decide +kernel
theorem dX11_swear_75 : decode cX11_swear 75 = .ok (.aload_n 0, 1) := by decide +kernel
theorem dX11_swear_76 : decode cX11_swear 76 = .ok (.getfield 19, 3) := by decide +kernel
theorem dX11_swear_79 : decode cX11_swear 79 = .ok (.getfield 135, 3) := by decide +kernel
theorem dX11_swear_82 : decode cX11_swear 82 = .ok (.if_icmp .ge 30, 3) := by decide +kernel
theorem dX11_swear_85 : decode cX11_swear 85 = .ok (.aload_n 0, 1) := by decide +kernel
theorem dX11_swear_86 : decode cX11_swear 86 = .ok (.getfield 35, 3) := by decide +kernel
theorem dX11_swear_89 : decode cX11_swear 89 = .ok (.bipush 21, 2) := by decide +kernel
theorem dX11_swear_91 : decode cX11_swear 91 = .ok (.iload_n 3, 1) := by decide +kernel
theorem dX11_swear_92 : decode cX11_swear 92 = .ok (.iadd, 1) := by decide +kernel
theorem dX11_swear_93 : decode cX11_swear 93 = .ok (.aload_n 0, 1) := by decide +kernel
theorem dX11_swear_94 : decode cX11_swear 94 = .ok (.getfield 57, 3) := by decide +kernel
theorem dX11_swear_97 : decode cX11_swear 97 = .ok (.iload_n 3, 1) := by decide +kernel
theorem dX11_swear_98 : decode cX11_swear 98 = .ok (.iload_n 1, 1) := by decide +kernel
theorem dX11_swear_99 : decode cX11_swear 99 = .ok (.iload_n 2, 1) := by decide +kernel
theorem dX11_swear_100 : decode cX11_swear 100 = .ok (.invokevirtual 208, 3) := by decide +kernel
theorem dX11_swear_103 : decode cX11_swear 103 = .ok (.invokevirtual 197, 3) := by decide +kernel
theorem dX11_swear_106 : decode cX11_swear 106 = .ok (.iinc 3 1, 3) := by decide +kernel
theorem dX11_swear_109 : decode cX11_swear 109 = .ok (.goto (-35), 3) := by decide +kernel
theorem dX11_swear_112 : decode cX11_swear 112 = .ok (.return_, 1) := by decide +kernel
theorem dX11_draw_0 : decode cX11_draw 0 = .ok (.iload_n 1, 1) := by decide +kernel
theorem dX11_draw_1 : decode cX11_draw 1 = .ok (.ifCond .gt 5, 3) := by decide +kernel
theorem dX11_draw_4 : decode cX11_draw 4 = .ok (.iconst 0, 1) := by decide +kernel
theorem dX11_draw_5 : decode cX11_draw 5 = .ok (.ireturn, 1) := by decide +kernel
theorem dX11_draw_6 : decode cX11_draw 6 = .ok (.aload_n 0, 1) := by decide +kernel
theorem dX11_draw_7 : decode cX11_draw 7 = .ok (.aload_n 0, 1) := by decide +kernel
theorem dX11_draw_8 : decode cX11_draw 8 = .ok (.getfield 275, 3) := by decide +kernel
theorem dX11_draw_11 : decode cX11_draw 11 = .ok (.i2l, 1) := by decide +kernel
theorem dX11_draw_12 : decode cX11_draw 12 = .ok (.ldc2_w 295, 3) := by decide +kernel
theorem dX11_draw_15 : decode cX11_draw 15 = .ok (.lmul, 1) := by decide +kernel
theorem dX11_draw_16 : decode cX11_draw 16 = .ok (.ldc2_w 297, 3) := by decide +kernel
theorem dX11_draw_19 : decode cX11_draw 19 = .ok (.ladd, 1) := by decide +kernel
theorem dX11_draw_20 : decode cX11_draw 20 = .ok (.ldc2_w 299, 3) := by decide +kernel
theorem dX11_draw_23 : decode cX11_draw 23 = .ok (.lrem, 1) := by decide +kernel
theorem dX11_draw_24 : decode cX11_draw 24 = .ok (.l2i, 1) := by decide +kernel
theorem dX11_draw_25 : decode cX11_draw 25 = .ok (.putfield 275, 3) := by decide +kernel
theorem dX11_draw_28 : decode cX11_draw 28 = .ok (.aload_n 0, 1) := by decide +kernel
theorem dX11_draw_29 : decode cX11_draw 29 = .ok (.getfield 275, 3) := by decide +kernel
theorem dX11_draw_32 : decode cX11_draw 32 = .ok (.ldc_w 301, 3) := by decide +kernel
theorem dX11_draw_35 : decode cX11_draw 35 = .ok (.idiv, 1) := by decide +kernel
theorem dX11_draw_36 : decode cX11_draw 36 = .ok (.iload_n 1, 1) := by decide +kernel
theorem dX11_draw_37 : decode cX11_draw 37 = .ok (.irem, 1) := by decide +kernel
theorem dX11_draw_38 : decode cX11_draw 38 = .ok (.ireturn, 1) := by decide +kernel
theorem dX11_imageAt_0 : decode cX11_imageAt 0 = .ok (.iload_n 1, 1) := by decide +kernel
theorem dX11_imageAt_1 : decode cX11_imageAt 1 = .ok (.ifCond .lt 21, 3) := by decide +kernel
theorem dX11_imageAt_4 : decode cX11_imageAt 4 = .ok (.iload_n 1, 1) := by decide +kernel
theorem dX11_imageAt_5 : decode cX11_imageAt 5 = .ok (.aload_n 0, 1) := by decide +kernel
theorem dX11_imageAt_6 : decode cX11_imageAt 6 = .ok (.getfield 48, 3) := by decide +kernel
theorem dX11_imageAt_9 : decode cX11_imageAt 9 = .ok (.arraylength, 1) := by decide +kernel
theorem dX11_imageAt_10 : decode cX11_imageAt 10 = .ok (.if_icmp .ge 12, 3) := by decide +kernel
theorem dX11_imageAt_13 : decode cX11_imageAt 13 = .ok (.aload_n 0, 1) := by decide +kernel
theorem dX11_imageAt_14 : decode cX11_imageAt 14 = .ok (.getfield 48, 3) := by decide +kernel
theorem dX11_imageAt_17 : decode cX11_imageAt 17 = .ok (.iload_n 1, 1) := by decide +kernel
theorem dX11_imageAt_18 : decode cX11_imageAt 18 = .ok (.aaload, 1) := by decide +kernel
theorem dX11_imageAt_19 : decode cX11_imageAt 19 = .ok (.goto 4, 3) := by decide +kernel
theorem dX11_imageAt_22 : decode cX11_imageAt 22 = .ok (.aconst_null, 1) := by decide +kernel
theorem dX11_imageAt_23 : decode cX11_imageAt 23 = .ok (.areturn, 1) := by decide +kernel
set_option maxRecDepth 20000 in
theorem ggX11_forgetImages_X11_imageAt : GoodIn wsX11_forgetImages wsX11_imageAt := goodIn_r _ [7, 1, 8, 9, 10, 11, 12, 13, 14, 15, 16, 17, 18] (by decide +kernel) (by decide +kernel)
set_option maxRecDepth 20000 in
theorem gX11_forgetImages_X11_imageAt : GoodIn wsX11_forgetImages (wsV RX11 278 RX11 yX11_imageAt wsX11_imageAt) := goodIn_app (goodIn_of _ (by decide +kernel)) ggX11_forgetImages_X11_imageAt
theorem dX11_forgetImages_0 : decode cX11_forgetImages 0 = .ok (.iconst 0, 1) := by decide +kernel
theorem dX11_forgetImages_1 : decode cX11_forgetImages 1 = .ok (.istore_n 1, 1) := by decide +kernel
theorem dX11_forgetImages_2 : decode cX11_forgetImages 2 = .ok (.iload_n 1, 1) := by decide +kernel
theorem dX11_forgetImages_3 : decode cX11_forgetImages 3 = .ok (.aload_n 0, 1) := by decide +kernel
theorem dX11_forgetImages_4 : decode cX11_forgetImages 4 = .ok (.getfield 48, 3) := by decide +kernel
theorem dX11_forgetImages_7 : decode cX11_forgetImages 7 = .ok (.arraylength, 1) := by decide +kernel
theorem dX11_forgetImages_8 : decode cX11_forgetImages 8 = .ok (.if_icmp .ge 24, 3) := by decide +kernel
theorem dX11_forgetImages_11 : decode cX11_forgetImages 11 = .ok (.aload_n 0, 1) := by decide +kernel
theorem dX11_forgetImages_12 : decode cX11_forgetImages 12 = .ok (.iload_n 1, 1) := by decide +kernel
theorem dX11_forgetImages_13 : decode cX11_forgetImages 13 = .ok (.invokevirtual 278, 3) := by decide +kernel
theorem dX11_forgetImages_16 : decode cX11_forgetImages 16 = .ok (.astore_n 2, 1) := by decide +kernel
theorem dX11_forgetImages_17 : decode cX11_forgetImages 17 = .ok (.aload_n 2, 1) := by decide +kernel
theorem dX11_forgetImages_18 : decode cX11_forgetImages 18 = .ok (.ifnull 8, 3) := by decide +kernel
theorem dX11_forgetImages_21 : decode cX11_forgetImages 21 = .ok (.aload_n 2, 1) := by decide +kernel
theorem dX11_forgetImages_22 : decode cX11_forgetImages 22 = .ok (.iconst 0, 1) := by decide +kernel
theorem dX11_forgetImages_23 : decode cX11_forgetImages 23 = .ok (.putfield 288, 3) := by decide +kernel
theorem dX11_forgetImages_26 : decode cX11_forgetImages 26 = .ok (.iinc 1 1, 3) := by decide +kernel
theorem dX11_forgetImages_29 : decode cX11_forgetImages 29 = .ok (.goto (-27), 3) := by decide +kernel
theorem dX11_forgetImages_32 : decode cX11_forgetImages 32 = .ok (.return_, 1) := by decide +kernel
set_option maxRecDepth 20000 in
theorem ggX12_init_X12_clearNow : GoodIn wsX12_init wsX12_clearNow := goodIn_r _ [30, 9, 31, 32, 33, 34, 35, 36, 37, 38, 39, 40, 41, 42, 43, 44, 45, 46, 47, 48, 49, 50, 51, 52, 53, 54, 55, 56, 57, 58, 59, 60, 61, 62, 63, 64, 65] (by decide +kernel) (by decide +kernel)
set_option maxRecDepth 20000 in
theorem gX12_init_X12_clearNow : GoodIn wsX12_init (wsV RX12 72 RX12 yX12_clearNow wsX12_clearNow) := goodIn_app (goodIn_of _ (by decide +kernel)) ggX12_init_X12_clearNow
theorem dX12_init_0 : decode cX12_init 0 = .ok (.aload_n 0, 1) := by decide +kernel
theorem dX12_init_1 : decode cX12_init 1 = .ok (.invokespecial 1, 3) := by decide +kernel
theorem dX12_init_4 : decode cX12_init 4 = .ok (.aload_n 0, 1) := by decide +kernel
theorem dX12_init_5 : decode cX12_init 5 = .ok (.bipush 6, 2) := by decide +kernel
theorem dX12_init_7 : decode cX12_init 7 = .ok (.newarray .int, 2) := by decide +kernel
theorem dX12_init_9 : decode cX12_init 9 = .ok (.putfield 7, 3) := by decide +kernel
theorem dX12_init_12 : decode cX12_init 12 = .ok (.aload_n 0, 1) := by decide +kernel
theorem dX12_init_13 : decode cX12_init 13 = .ok (.bipush 6, 2) := by decide +kernel
theorem dX12_init_15 : decode cX12_init 15 = .ok (.newarray .int, 2) := by decide +kernel
theorem dX12_init_17 : decode cX12_init 17 = .ok (.putfield 13, 3) := by decide +kernel
theorem dX12_init_20 : decode cX12_init 20 = .ok (.aload_n 0, 1) := by decide +kernel
theorem dX12_init_21 : decode cX12_init 21 = .ok (.bipush 7, 2) := by decide +kernel
theorem dX12_init_23 : decode cX12_init 23 = .ok (.newarray .int, 2) := by decide +kernel
theorem dX12_init_25 : decode cX12_init 25 = .ok (.putfield 16, 3) := by decide +kernel
theorem dX12_init_28 : decode cX12_init 28 = .ok (.aload_n 0, 1) := by decide +kernel
theorem dX12_init_29 : decode cX12_init 29 = .ok (.bipush 7, 2) := by decide +kernel
theorem dX12_init_31 : decode cX12_init 31 = .ok (.newarray .int, 2) := by decide +kernel
theorem dX12_init_33 : decode cX12_init 33 = .ok (.putfield 19, 3) := by decide +kernel
theorem dX12_init_36 : decode cX12_init 36 = .ok (.aload_n 0, 1) := by decide +kernel
theorem dX12_init_37 : decode cX12_init 37 = .ok (.bipush 28, 2) := by decide +kernel
theorem dX12_init_39 : decode cX12_init 39 = .ok (.newarray .int, 2) := by decide +kernel
theorem dX12_init_41 : decode cX12_init 41 = .ok (.putfield 22, 3) := by decide +kernel
theorem dX12_init_44 : decode cX12_init 44 = .ok (.aload_n 0, 1) := by decide +kernel
theorem dX12_init_45 : decode cX12_init 45 = .ok (.sipush 240, 3) := by decide +kernel
theorem dX12_init_48 : decode cX12_init 48 = .ok (.newarray .int, 2) := by decide +kernel
theorem dX12_init_50 : decode cX12_init 50 = .ok (.putfield 25, 3) := by decide +kernel
theorem dX12_init_53 : decode cX12_init 53 = .ok (.aload_n 0, 1) := by decide +kernel
theorem dX12_init_54 : decode cX12_init 54 = .ok (.iconst (-1), 1) := by decide +kernel
theorem dX12_init_55 : decode cX12_init 55 = .ok (.putfield 28, 3) := by decide +kernel
theorem dX12_init_58 : decode cX12_init 58 = .ok (.aload_n 0, 1) := by decide +kernel
theorem dX12_init_59 : decode cX12_init 59 = .ok (.bipush 8, 2) := by decide +kernel
theorem dX12_init_61 : decode cX12_init 61 = .ok (.newarray .int, 2) := by decide +kernel
theorem dX12_init_63 : decode cX12_init 63 = .ok (.putfield 32, 3) := by decide +kernel
theorem dX12_init_66 : decode cX12_init 66 = .ok (.aload_n 0, 1) := by decide +kernel
theorem dX12_init_67 : decode cX12_init 67 = .ok (.bipush 6, 2) := by decide +kernel
theorem dX12_init_69 : decode cX12_init 69 = .ok (.newarray .int, 2) := by decide +kernel
theorem dX12_init_71 : decode cX12_init 71 = .ok (.putfield 35, 3) := by decide +kernel
theorem dX12_init_74 : decode cX12_init 74 = .ok (.aload_n 0, 1) := by decide +kernel
theorem dX12_init_75 : decode cX12_init 75 = .ok (.bipush 6, 2) := by decide +kernel
theorem dX12_init_77 : decode cX12_init 77 = .ok (.newarray .int, 2) := by decide +kernel
theorem dX12_init_79 : decode cX12_init 79 = .ok (.putfield 38, 3) := by decide +kernel
theorem dX12_init_82 : decode cX12_init 82 = .ok (.aload_n 0, 1) := by decide +kernel
theorem dX12_init_83 : decode cX12_init 83 = .ok (.bipush 7, 2) := by decide +kernel
theorem dX12_init_85 : decode cX12_init 85 = .ok (.newarray .int, 2) := by decide +kernel
theorem dX12_init_87 : decode cX12_init 87 = .ok (.putfield 41, 3) := by decide +kernel
theorem dX12_init_90 : decode cX12_init 90 = .ok (.aload_n 0, 1) := by decide +kernel
theorem dX12_init_91 : decode cX12_init 91 = .ok (.bipush 7, 2) := by decide +kernel
theorem dX12_init_93 : decode cX12_init 93 = .ok (.newarray .int, 2) := by decide +kernel
theorem dX12_init_95 : decode cX12_init 95 = .ok (.putfield 44, 3) := by decide +kernel
theorem dX12_init_98 : decode cX12_init 98 = .ok (.aload_n 0, 1) := by decide +kernel
theorem dX12_init_99 : decode cX12_init 99 = .ok (.bipush 7, 2) := by decide +kernel
theorem dX12_init_101 : decode cX12_init 101 = .ok (.newarray .int, 2) := by decide +kernel
theorem dX12_init_103 : decode cX12_init 103 = .ok (.putfield 47, 3) := by decide +kernel
theorem dX12_init_106 : decode cX12_init 106 = .ok (.aload_n 0, 1) := by decide +kernel
theorem dX12_init_107 : decode cX12_init 107 = .ok (.sipush 560, 3) := by decide +kernel
theorem dX12_init_110 : decode cX12_init 110 = .ok (.newarray .int, 2) := by decide +kernel
theorem dX12_init_112 : decode cX12_init 112 = .ok (.putfield 50, 3) := by decide +kernel
theorem dX12_init_115 : decode cX12_init 115 = .ok (.aload_n 0, 1) := by decide +kernel
theorem dX12_init_116 : decode cX12_init 116 = .ok (.bipush 8, 2) := by decide +kernel
theorem dX12_init_118 : decode cX12_init 118 = .ok (.newarray .int, 2) := by decide +kernel
theorem dX12_init_120 : decode cX12_init 120 = .ok (.putfield 53, 3) := by decide +kernel
theorem dX12_init_123 : decode cX12_init 123 = .ok (.aload_n 0, 1) := by decide +kernel
theorem dX12_init_124 : decode cX12_init 124 = .ok (.bipush 8, 2) := by decide +kernel
theorem dX12_init_126 : decode cX12_init 126 = .ok (.newarray .int, 2) := by decide +kernel
theorem dX12_init_128 : decode cX12_init 128 = .ok (.putfield 56, 3) := by decide +kernel
theorem dX12_init_131 : decode cX12_init 131 = .ok (.aload_n 0, 1) := by decide +kernel
theorem dX12_init_132 : decode cX12_init 132 = .ok (.bipush 12, 2) := by decide +kernel
theorem dX12_init_134 : decode cX12_init 134 = .ok (.newarray .int, 2) := by decide +kernel
theorem dX12_init_136 : decode cX12_init 136 = .ok (.putfield 59, 3) := by decide +kernel
theorem dX12_init_139 : decode cX12_init 139 = .ok (.aload_n 0, 1) := by decide +kernel
theorem dX12_init_140 : decode cX12_init 140 = .ok (.bipush 15, 2) := by decide +kernel
theorem dX12_init_142 : decode cX12_init 142 = .ok (.newarray .int, 2) := by decide +kernel
theorem dX12_init_144 : decode cX12_init 144 = .ok (.putfield 62, 3) := by decide +kernel
theorem dX12_init_147 : decode cX12_init 147 = .ok (.aload_n 0, 1) := by decide +kernel
theorem dX12_init_148 : decode cX12_init 148 = .ok (.bipush 58, 2) := by decide +kernel
theorem dX12_init_150 : decode cX12_init 150 = .ok (.newarray .int, 2) := by decide +kernel
theorem dX12_init_152 : decode cX12_init 152 = .ok (.putfield 65, 3) := by decide +kernel
theorem dX12_init_155 : decode cX12_init 155 = .ok (.aload_n 0, 1) := by decide +kernel
theorem dX12_init_156 : decode cX12_init 156 = .ok (.iconst 2, 1) := by decide +kernel
theorem dX12_init_157 : decode cX12_init 157 = .ok (.newarray .boolean, 2) := by decide +kernel
theorem dX12_init_159 : decode cX12_init 159 = .ok (.putfield 68, 3) := by decide +kernel
theorem dX12_init_162 : decode cX12_init 162 = .ok (.aload_n 0, 1) := by decide +kernel
theorem dX12_init_163 : decode cX12_init 163 = .ok (.invokevirtual 72, 3) := by decide +kernel
theorem dX12_init_166 : decode cX12_init 166 = .ok (.return_, 1) := by decide +kernel
theorem dX12_clearNow_0 : decode cX12_clearNow 0 = .ok (.iconst 0, 1) := by decide +kernel
theorem dX12_clearNow_1 : decode cX12_clearNow 1 = .ok (.istore_n 1, 1) := by decide +kernel
theorem dX12_clearNow_2 : decode cX12_clearNow 2 = .ok (.iload_n 1, 1) := by decide +kernel
theorem dX12_clearNow_3 : decode cX12_clearNow 3 = .ok (.bipush 28, 2) := by decide +kernel
theorem dX12_clearNow_5 : decode cX12_clearNow 5 = .ok (.if_icmp .ge 16, 3) := by decide +kernel
theorem dX12_clearNow_8 : decode cX12_clearNow 8 = .ok (.aload_n 0, 1) := by decide +kernel
theorem dX12_clearNow_9 : decode cX12_clearNow 9 = .ok (.getfield 22, 3) := by decide +kernel
theorem dX12_clearNow_12 : decode cX12_clearNow 12 = .ok (.iload_n 1, 1) := by decide +kernel
theorem dX12_clearNow_13 : decode cX12_clearNow 13 = .ok (.iconst 0, 1) := by decide +kernel
theorem dX12_clearNow_14 : decode cX12_clearNow 14 = .ok (.iastore, 1) := by decide +kernel
theorem dX12_clearNow_15 : decode cX12_clearNow 15 = .ok (.iinc 1 1, 3) := by decide +kernel
theorem dX12_clearNow_18 : decode cX12_clearNow 18 = .ok (.goto (-16), 3) := by decide +kernel
theorem dX12_clearNow_21 : decode cX12_clearNow 21 = .ok (.aload_n 0, 1) := by decide +kernel
theorem dX12_clearNow_22 : decode cX12_clearNow 22 = .ok (.getfield 22, 3) := by decide +kernel
theorem dX12_clearNow_25 : decode cX12_clearNow 25 = .ok (.bipush 8, 2) := by decide +kernel
theorem dX12_clearNow_27 : decode cX12_clearNow 27 = .ok (.bipush 9, 2) := by decide +kernel
theorem dX12_clearNow_29 : decode cX12_clearNow 29 = .ok (.iastore, 1) := by decide +kernel
theorem dX12_clearNow_30 : decode cX12_clearNow 30 = .ok (.aload_n 0, 1) := by decide +kernel
theorem dX12_clearNow_31 : decode cX12_clearNow 31 = .ok (.getfield 22, 3) := by decide +kernel
theorem dX12_clearNow_34 : decode cX12_clearNow 34 = .ok (.bipush 17, 2) := by decide +kernel
theorem dX12_clearNow_36 : decode cX12_clearNow 36 = .ok (.iconst (-1), 1) := by decide +kernel
theorem dX12_clearNow_37 : decode cX12_clearNow 37 = .ok (.iastore, 1) := by decide +kernel
theorem dX12_clearNow_38 : decode cX12_clearNow 38 = .ok (.aload_n 0, 1) := by decide +kernel
theorem dX12_clearNow_39 : decode cX12_clearNow 39 = .ok (.getfield 22, 3) := by decide +kernel
theorem dX12_clearNow_42 : decode cX12_clearNow 42 = .ok (.bipush 18, 2) := by decide +kernel
theorem dX12_clearNow_44 : decode cX12_clearNow 44 = .ok (.iconst (-1), 1) := by decide +kernel
theorem dX12_clearNow_45 : decode cX12_clearNow 45 = .ok (.iastore, 1) := by decide +kernel
theorem dX12_clearNow_46 : decode cX12_clearNow 46 = .ok (.iconst 0, 1) := by decide +kernel
theorem dX12_clearNow_47 : decode cX12_clearNow 47 = .ok (.istore_n 1, 1) := by decide +kernel
theorem dX12_clearNow_48 : decode cX12_clearNow 48 = .ok (.iload_n 1, 1) := by decide +kernel
theorem dX12_clearNow_49 : decode cX12_clearNow 49 = .ok (.bipush 7, 2) := by decide +kernel
theorem dX12_clearNow_51 : decode cX12_clearNow 51 = .ok (.if_icmp .ge 19, 3) := by decide +kernel
theorem dX12_clearNow_54 : decode cX12_clearNow 54 = .ok (.aload_n 0, 1) := by decide +kernel
theorem dX12_clearNow_55 : decode cX12_clearNow 55 = .ok (.getfield 22, 3) := by decide +kernel
theorem dX12_clearNow_58 : decode cX12_clearNow 58 = .ok (.bipush 21, 2) := by decide +kernel
theorem dX12_clearNow_60 : decode cX12_clearNow 60 = .ok (.iload_n 1, 1) := by decide +kernel
theorem dX12_clearNow_61 : decode cX12_clearNow 61 = .ok (.iadd, 1) := by decide +kernel
theorem dX12_clearNow_62 : decode cX12_clearNow 62 = .ok (.iconst (-1), 1) := by decide +kernel
theorem dX12_clearNow_63 : decode cX12_clearNow 63 = .ok (.iastore, 1) := by decide +kernel
theorem dX12_clearNow_64 : decode cX12_clearNow 64 = .ok (.iinc 1 1, 3) := by decide +kernel
theorem dX12_clearNow_67 : decode cX12_clearNow 67 = .ok (.goto (-19), 3) := by decide +kernel
theorem dX12_clearNow_70 : decode cX12_clearNow 70 = .ok (.return_, 1) := by decide +kernel
theorem dX12_in_0 : decode cX12_in 0 = .ok (.lload_n 0, 1) := by decide +kernel
theorem dX12_in_1 : decode cX12_in 1 = .ok (.lload_n 2, 1) := by decide +kernel
theorem dX12_in_2 : decode cX12_in 2 = .ok (.lcmp, 1) := by decide +kernel
theorem dX12_in_3 : decode cX12_in 3 = .ok (.ifCond .lt 14, 3) := by decide +kernel
theorem dX12_in_6 : decode cX12_in 6 = .ok (.lload_n 0, 1) := by decide +kernel
theorem dX12_in_7 : decode cX12_in 7 = .ok (.lload 4, 2) := by decide +kernel
theorem dX12_in_9 : decode cX12_in 9 = .ok (.lcmp, 1) := by decide +kernel
theorem dX12_in_10 : decode cX12_in 10 = .ok (.ifCond .gt 7, 3) := by decide +kernel
theorem dX12_in_13 : decode cX12_in 13 = .ok (.iconst 1, 1) := by decide +kernel
theorem dX12_in_14 : decode cX12_in 14 = .ok (.goto 4, 3) := by decide +kernel
theorem dX12_in_17 : decode cX12_in 17 = .ok (.iconst 0, 1) := by decide +kernel
theorem dX12_in_18 : decode cX12_in 18 = .ok (.ireturn, 1) := by decide +kernel
theorem dX12_has_0 : decode cX12_has 0 = .ok (.iload_n 0, 1) := by decide +kernel
theorem dX12_has_1 : decode cX12_has 1 = .ok (.iload_n 1, 1) := by decide +kernel
theorem dX12_has_2 : decode cX12_has 2 = .ok (.ishr, 1) := by decide +kernel
theorem dX12_has_3 : decode cX12_has 3 = .ok (.iconst 1, 1) := by decide +kernel
theorem dX12_has_4 : decode cX12_has 4 = .ok (.iand, 1) := by decide +kernel
theorem dX12_has_5 : decode cX12_has 5 = .ok (.iconst 1, 1) := by decide +kernel
theorem dX12_has_6 : decode cX12_has 6 = .ok (.if_icmp .ne 7, 3) := by decide +kernel
theorem dX12_has_9 : decode cX12_has 9 = .ok (.iconst 1, 1) := by decide +kernel
theorem dX12_has_10 : decode cX12_has 10 = .ok (.goto 4, 3) := by decide +kernel
theorem dX12_has_13 : decode cX12_has 13 = .ok (.iconst 0, 1) := by decide +kernel
theorem dX12_has_14 : decode cX12_has 14 = .ok (.ireturn, 1) := by decide +kernel
theorem dX12_bits_0 : decode cX12_bits 0 = .ok (.iconst 0, 1) := by decide +kernel
theorem dX12_bits_1 : decode cX12_bits 1 = .ok (.istore_n 1, 1) := by decide +kernel
theorem dX12_bits_2 : decode cX12_bits 2 = .ok (.iconst 0, 1) := by decide +kernel
theorem dX12_bits_3 : decode cX12_bits 3 = .ok (.istore_n 2, 1) := by decide +kernel
theorem dX12_bits_4 : decode cX12_bits 4 = .ok (.iload_n 2, 1) := by decide +kernel
theorem dX12_bits_5 : decode cX12_bits 5 = .ok (.bipush 9, 2) := by decide +kernel
theorem dX12_bits_7 : decode cX12_bits 7 = .ok (.if_icmp .ge 17, 3) := by decide +kernel
theorem dX12_bits_10 : decode cX12_bits 10 = .ok (.iload_n 1, 1) := by decide +kernel
theorem dX12_bits_11 : decode cX12_bits 11 = .ok (.iload_n 0, 1) := by decide +kernel
theorem dX12_bits_12 : decode cX12_bits 12 = .ok (.iload_n 2, 1) := by decide +kernel
theorem dX12_bits_13 : decode cX12_bits 13 = .ok (.ishr, 1) := by decide +kernel
theorem dX12_bits_14 : decode cX12_bits 14 = .ok (.iconst 1, 1) := by decide +kernel
theorem dX12_bits_15 : decode cX12_bits 15 = .ok (.iand, 1) := by decide +kernel
theorem dX12_bits_16 : decode cX12_bits 16 = .ok (.iadd, 1) := by decide +kernel
theorem dX12_bits_17 : decode cX12_bits 17 = .ok (.istore_n 1, 1) := by decide +kernel
theorem dX12_bits_18 : decode cX12_bits 18 = .ok (.iinc 2 1, 3) := by decide +kernel
theorem dX12_bits_21 : decode cX12_bits 21 = .ok (.goto (-17), 3) := by decide +kernel
theorem dX12_bits_24 : decode cX12_bits 24 = .ok (.iload_n 1, 1) := by decide +kernel
theorem dX12_bits_25 : decode cX12_bits 25 = .ok (.ireturn, 1) := by decide +kernel
theorem dX12_places_0 : decode cX12_places 0 = .ok (.aload_n 0, 1) := by decide +kernel
theorem dX12_places_1 : decode cX12_places 1 = .ok (.getfield 75, 3) := by decide +kernel
theorem dX12_places_4 : decode cX12_places 4 = .ok (.ifCond .ne 7, 3) := by decide +kernel
theorem dX12_places_7 : decode cX12_places 7 = .ok (.iconst 0, 1) := by decide +kernel
theorem dX12_places_8 : decode cX12_places 8 = .ok (.goto 9, 3) := by decide +kernel
theorem dX12_places_11 : decode cX12_places 11 = .ok (.aload_n 0, 1) := by decide +kernel
theorem dX12_places_12 : decode cX12_places 12 = .ok (.getfield 75, 3) := by decide +kernel
theorem dX12_places_15 : decode cX12_places 15 = .ok (.iconst 1, 1) := by decide +kernel
theorem dX12_places_16 : decode cX12_places 16 = .ok (.iadd, 1) := by decide +kernel
theorem dX12_places_17 : decode cX12_places 17 = .ok (.ireturn, 1) := by decide +kernel
set_option maxRecDepth 20000 in
theorem ggX12_isPlace_X12_places : GoodIn wsX12_isPlace wsX12_places := goodIn_r _ [5, 6, 10, 11, 12, 13, 14, 15, 16, 17, 18, 19, 20, 21, 22, 23, 24, 25, 26, 27, 28, 29, 30, 31, 32, 33, 34, 35, 36, 37, 38, 39, 40, 41, 42, 43, 44] (by decide +kernel) (by decide +kernel)
set_option maxRecDepth 20000 in
theorem gX12_isPlace_X12_places : GoodIn wsX12_isPlace (wsV RX12 78 RX12 yX12_places wsX12_places) := goodIn_app (goodIn_of _ (by decide +kernel)) ggX12_isPlace_X12_places
set_option maxRecDepth 20000 in
theorem ggX12_isPlace_X12_in : GoodIn wsX12_isPlace wsX12_in := goodIn_r _ [9] (by decide +kernel) (by decide +kernel)
set_option maxRecDepth 20000 in
theorem gX12_isPlace_X12_in : GoodIn wsX12_isPlace (va_wsS RX12 82 yX12_in wsX12_in) := goodIn_app (goodIn_of _ (by decide +kernel)) ggX12_isPlace_X12_in
theorem dX12_isPlace_0 : decode cX12_isPlace 0 = .ok (.iload_n 1, 1) := by decide +kernel
theorem dX12_isPlace_1 : decode cX12_isPlace 1 = .ok (.i2l, 1) := by decide +kernel
theorem dX12_isPlace_2 : decode cX12_isPlace 2 = .ok (.lconst 0, 1) := by decide +kernel
theorem dX12_isPlace_3 : decode cX12_isPlace 3 = .ok (.aload_n 0, 1) := by decide +kernel
theorem dX12_isPlace_4 : decode cX12_isPlace 4 = .ok (.invokevirtual 78, 3) := by decide +kernel
theorem dX12_isPlace_7 : decode cX12_isPlace 7 = .ok (.iconst 1, 1) := by decide +kernel
theorem dX12_isPlace_8 : decode cX12_isPlace 8 = .ok (.isub, 1) := by decide +kernel
theorem dX12_isPlace_9 : decode cX12_isPlace 9 = .ok (.i2l, 1) := by decide +kernel
theorem dX12_isPlace_10 : decode cX12_isPlace 10 = .ok (.invokestatic 82, 3) := by decide +kernel
theorem dX12_isPlace_13 : decode cX12_isPlace 13 = .ok (.ireturn, 1) := by decide +kernel
set_option maxRecDepth 20000 in
theorem ggX12_isPlaces_X12_places : GoodIn wsX12_isPlaces wsX12_places := goodIn_r _ [5, 6, 10, 11, 12, 13, 14, 15, 16, 17, 18, 19, 20, 21, 22, 23, 24, 25, 26, 27, 28, 29, 30, 31, 32, 33, 34, 35, 36, 37, 38, 39, 40, 41, 42, 43, 44] (by decide +kernel) (by decide +kernel)
set_option maxRecDepth 20000 in
theorem gX12_isPlaces_X12_places : GoodIn wsX12_isPlaces (wsV RX12 78 RX12 yX12_places wsX12_places) := goodIn_app (goodIn_of _ (by decide +kernel)) ggX12_isPlaces_X12_places
set_option maxRecDepth 20000 in
theorem ggX12_isPlaces_X12_in : GoodIn wsX12_isPlaces wsX12_in := goodIn_r _ [9] (by decide +kernel) (by decide +kernel)
set_option maxRecDepth 20000 in
theorem gX12_isPlaces_X12_in : GoodIn wsX12_isPlaces (va_wsS RX12 82 yX12_in wsX12_in) := goodIn_app (goodIn_of _ (by decide +kernel)) ggX12_isPlaces_X12_in
theorem dX12_isPlaces_0 : decode cX12_isPlaces 0 = .ok (.iload_n 1, 1) := by decide +kernel
theorem dX12_isPlaces_1 : decode cX12_isPlaces 1 = .ok (.i2l, 1) := by decide +kernel
theorem dX12_isPlaces_2 : decode cX12_isPlaces 2 = .ok (.lconst 0, 1) := by decide +kernel
theorem dX12_isPlaces_3 : decode cX12_isPlaces 3 = .ok (.iconst 1, 1) := by decide +kernel
theorem dX12_isPlaces_4 : decode cX12_isPlaces 4 = .ok (.aload_n 0, 1) := by decide +kernel
theorem dX12_isPlaces_5 : decode cX12_isPlaces 5 = .ok (.invokevirtual 78, 3) := by decide +kernel
theorem dX12_isPlaces_8 : decode cX12_isPlaces 8 = .ok (.ishl, 1) := by decide +kernel
theorem dX12_isPlaces_9 : decode cX12_isPlaces 9 = .ok (.iconst 1, 1) := by decide +kernel
theorem dX12_isPlaces_10 : decode cX12_isPlaces 10 = .ok (.isub, 1) := by decide +kernel
theorem dX12_isPlaces_11 : decode cX12_isPlaces 11 = .ok (.i2l, 1) := by decide +kernel
theorem dX12_isPlaces_12 : decode cX12_isPlaces 12 = .ok (.invokestatic 82, 3) := by decide +kernel
theorem dX12_isPlaces_15 : decode cX12_isPlaces 15 = .ok (.ireturn, 1) := by decide +kernel
set_option maxRecDepth 20000 in
theorem ggX12_isSound_X12_in : GoodIn wsX12_isSound wsX12_in := goodIn_r _ [5] (by decide +kernel) (by decide +kernel)
set_option maxRecDepth 20000 in
theorem gX12_isSound_X12_in : GoodIn wsX12_isSound (va_wsS RX12 82 yX12_in wsX12_in) := goodIn_app (goodIn_of _ (by decide +kernel)) ggX12_isSound_X12_in
theorem dX12_isSound_0 : decode cX12_isSound 0 = .ok (.iload_n 1, 1) := by decide +kernel
theorem dX12_isSound_1 : decode cX12_isSound 1 = .ok (.i2l, 1) := by decide +kernel
theorem dX12_isSound_2 : decode cX12_isSound 2 = .ok (.lconst 0, 1) := by decide +kernel
theorem dX12_isSound_3 : decode cX12_isSound 3 = .ok (.aload_n 0, 1) := by decide +kernel
theorem dX12_isSound_4 : decode cX12_isSound 4 = .ok (.getfield 86, 3) := by decide +kernel
theorem dX12_isSound_7 : decode cX12_isSound 7 = .ok (.iconst 1, 1) := by decide +kernel
theorem dX12_isSound_8 : decode cX12_isSound 8 = .ok (.isub, 1) := by decide +kernel
theorem dX12_isSound_9 : decode cX12_isSound 9 = .ok (.i2l, 1) := by decide +kernel
theorem dX12_isSound_10 : decode cX12_isSound 10 = .ok (.invokestatic 82, 3) := by decide +kernel
theorem dX12_isSound_13 : decode cX12_isSound 13 = .ok (.ireturn, 1) := by decide +kernel
set_option maxRecDepth 20000 in
theorem ggX12_isWitness_X12_in : GoodIn wsX12_isWitness wsX12_in := goodIn_r _ [5] (by decide +kernel) (by decide +kernel)
set_option maxRecDepth 20000 in
theorem gX12_isWitness_X12_in : GoodIn wsX12_isWitness (va_wsS RX12 82 yX12_in wsX12_in) := goodIn_app (goodIn_of _ (by decide +kernel)) ggX12_isWitness_X12_in
theorem dX12_isWitness_0 : decode cX12_isWitness 0 = .ok (.iload_n 1, 1) := by decide +kernel
theorem dX12_isWitness_1 : decode cX12_isWitness 1 = .ok (.i2l, 1) := by decide +kernel
theorem dX12_isWitness_2 : decode cX12_isWitness 2 = .ok (.lconst 0, 1) := by decide +kernel
theorem dX12_isWitness_3 : decode cX12_isWitness 3 = .ok (.aload_n 0, 1) := by decide +kernel
theorem dX12_isWitness_4 : decode cX12_isWitness 4 = .ok (.getfield 89, 3) := by decide +kernel
theorem dX12_isWitness_7 : decode cX12_isWitness 7 = .ok (.iconst 1, 1) := by decide +kernel
theorem dX12_isWitness_8 : decode cX12_isWitness 8 = .ok (.isub, 1) := by decide +kernel
theorem dX12_isWitness_9 : decode cX12_isWitness 9 = .ok (.i2l, 1) := by decide +kernel
theorem dX12_isWitness_10 : decode cX12_isWitness 10 = .ok (.invokestatic 82, 3) := by decide +kernel
theorem dX12_isWitness_13 : decode cX12_isWitness 13 = .ok (.ireturn, 1) := by decide +kernel
set_option maxRecDepth 20000 in
theorem ggX12_feed_X12_in : GoodIn wsX12_feed wsX12_in := goodIn_r _ [9] (by decide +kernel) (by decide +kernel)
set_option maxRecDepth 20000 in
theorem gX12_feed_X12_in : GoodIn wsX12_feed (va_wsS RX12 82 yX12_in wsX12_in) := goodIn_app (goodIn_of _ (by decide +kernel)) ggX12_feed_X12_in
theorem dX12_feed_0 : decode cX12_feed 0 = .ok (.iload_n 1, 1) := by decide +kernel
theorem dX12_feed_1 : decode cX12_feed 1 = .ok (.i2l, 1) := by decide +kernel
theorem dX12_feed_2 : decode cX12_feed 2 = .ok (.lconst 0, 1) := by decide +kernel
theorem dX12_feed_3 : decode cX12_feed 3 = .ok (.ldc2_w 92, 3) := by decide +kernel
theorem dX12_feed_6 : decode cX12_feed 6 = .ok (.invokestatic 82, 3) := by decide +kernel
theorem dX12_feed_9 : decode cX12_feed 9 = .ok (.ifCond .ne 6, 3) := by decide +kernel
theorem dX12_feed_12 : decode cX12_feed 12 = .ok (.ldc 94, 2) := by decide +kernel
theorem dX12_feed_14 : decode cX12_feed 14 = .ok (.ireturn, 1) := by decide +kernel
theorem dX12_feed_15 : decode cX12_feed 15 = .ok (.aload_n 0, 1) := by decide +kernel
theorem dX12_feed_16 : decode cX12_feed 16 = .ok (.getfield 95, 3) := by decide +kernel
theorem dX12_feed_19 : decode cX12_feed 19 = .ok (.sipush 240, 3) := by decide +kernel
theorem dX12_feed_22 : decode cX12_feed 22 = .ok (.if_icmp .ne 6, 3) := by decide +kernel
theorem dX12_feed_25 : decode cX12_feed 25 = .ok (.ldc 98, 2) := by decide +kernel
theorem dX12_feed_27 : decode cX12_feed 27 = .ok (.ireturn, 1) := by decide +kernel
theorem dX12_feed_28 : decode cX12_feed 28 = .ok (.aload_n 0, 1) := by decide +kernel
theorem dX12_feed_29 : decode cX12_feed 29 = .ok (.getfield 25, 3) := by decide +kernel
theorem dX12_feed_32 : decode cX12_feed 32 = .ok (.aload_n 0, 1) := by decide +kernel
theorem dX12_feed_33 : decode cX12_feed 33 = .ok (.getfield 95, 3) := by decide +kernel
theorem dX12_feed_36 : decode cX12_feed 36 = .ok (.iload_n 1, 1) := by decide +kernel
theorem dX12_feed_37 : decode cX12_feed 37 = .ok (.iastore, 1) := by decide +kernel
theorem dX12_feed_38 : decode cX12_feed 38 = .ok (.aload_n 0, 1) := by decide +kernel
theorem dX12_feed_39 : decode cX12_feed 39 = .ok (.dup, 1) := by decide +kernel
theorem dX12_feed_40 : decode cX12_feed 40 = .ok (.getfield 95, 3) := by decide +kernel
theorem dX12_feed_43 : decode cX12_feed 43 = .ok (.iconst 1, 1) := by decide +kernel
theorem dX12_feed_44 : decode cX12_feed 44 = .ok (.iadd, 1) := by decide +kernel
theorem dX12_feed_45 : decode cX12_feed 45 = .ok (.putfield 95, 3) := by decide +kernel
theorem dX12_feed_48 : decode cX12_feed 48 = .ok (.aload_n 0, 1) := by decide +kernel
theorem dX12_feed_49 : decode cX12_feed 49 = .ok (.getfield 95, 3) := by decide +kernel
theorem dX12_feed_52 : decode cX12_feed 52 = .ok (.ireturn, 1) := by decide +kernel
theorem dX12_here_0 : decode cX12_here 0 = .ok (.aload_n 0, 1) := by decide +kernel
theorem dX12_here_1 : decode cX12_here 1 = .ok (.getfield 99, 3) := by decide +kernel
theorem dX12_here_4 : decode cX12_here 4 = .ok (.aload_n 0, 1) := by decide +kernel
theorem dX12_here_5 : decode cX12_here 5 = .ok (.getfield 95, 3) := by decide +kernel
theorem dX12_here_8 : decode cX12_here 8 = .ok (.if_icmp .ge 30, 3) := by decide +kernel
theorem dX12_here_11 : decode cX12_here 11 = .ok (.aload_n 0, 1) := by decide +kernel
theorem dX12_here_12 : decode cX12_here 12 = .ok (.getfield 25, 3) := by decide +kernel
theorem dX12_here_15 : decode cX12_here 15 = .ok (.aload_n 0, 1) := by decide +kernel
theorem dX12_here_16 : decode cX12_here 16 = .ok (.getfield 99, 3) := by decide +kernel
theorem dX12_here_19 : decode cX12_here 19 = .ok (.iaload, 1) := by decide +kernel
theorem dX12_here_20 : decode cX12_here 20 = .ok (.bipush 32, 2) := by decide +kernel
theorem dX12_here_22 : decode cX12_here 22 = .ok (.if_icmp .ne 16, 3) := by decide +kernel
theorem dX12_here_25 : decode cX12_here 25 = .ok (.aload_n 0, 1) := by decide +kernel
theorem dX12_here_26 : decode cX12_here 26 = .ok (.dup, 1) := by decide +kernel
theorem dX12_here_27 : decode cX12_here 27 = .ok (.getfield 99, 3) := by decide +kernel
theorem dX12_here_30 : decode cX12_here 30 = .ok (.iconst 1, 1) := by decide +kernel
theorem dX12_here_31 : decode cX12_here 31 = .ok (.iadd, 1) := by decide +kernel
theorem dX12_here_32 : decode cX12_here 32 = .ok (.putfield 99, 3) := by decide +kernel
theorem dX12_here_35 : decode cX12_here 35 = .ok (.goto (-35), 3) := by decide +kernel
theorem dX12_here_38 : decode cX12_here 38 = .ok (.aload_n 0, 1) := by decide +kernel
theorem dX12_here_39 : decode cX12_here 39 = .ok (.getfield 99, 3) := by decide +kernel
theorem dX12_here_42 : decode cX12_here 42 = .ok (.aload_n 0, 1) := by decide +kernel
theorem dX12_here_43 : decode cX12_here 43 = .ok (.getfield 95, 3) := by decide +kernel
theorem dX12_here_46 : decode cX12_here 46 = .ok (.if_icmp .ge 15, 3) := by decide +kernel
theorem dX12_here_49 : decode cX12_here 49 = .ok (.aload_n 0, 1) := by decide +kernel
theorem dX12_here_50 : decode cX12_here 50 = .ok (.getfield 25, 3) := by decide +kernel
theorem dX12_here_53 : decode cX12_here 53 = .ok (.aload_n 0, 1) := by decide +kernel
theorem dX12_here_54 : decode cX12_here 54 = .ok (.getfield 99, 3) := by decide +kernel
theorem dX12_here_57 : decode cX12_here 57 = .ok (.iaload, 1) := by decide +kernel
theorem dX12_here_58 : decode cX12_here 58 = .ok (.goto 4, 3) := by decide +kernel
theorem dX12_here_61 : decode cX12_here 61 = .ok (.iconst (-1), 1) := by decide +kernel
theorem dX12_here_62 : decode cX12_here 62 = .ok (.ireturn, 1) := by decide +kernel
theorem dX12_fails_0 : decode cX12_fails 0 = .ok (.aload_n 0, 1) := by decide +kernel
theorem dX12_fails_1 : decode cX12_fails 1 = .ok (.iload_n 2, 1) := by decide +kernel
theorem dX12_fails_2 : decode cX12_fails 2 = .ok (.putfield 28, 3) := by decide +kernel
theorem dX12_fails_5 : decode cX12_fails 5 = .ok (.iload_n 1, 1) := by decide +kernel
theorem dX12_fails_6 : decode cX12_fails 6 = .ok (.ireturn, 1) := by decide +kernel
set_option maxRecDepth 20000 in
theorem ggX12_takeNumber_X12_here : GoodIn wsX12_takeNumber wsX12_here := goodIn_r _ [12, 3, 6, 7, 21, 22, 23, 24, 25, 26, 27, 28, 29, 30, 31, 32, 33, 34, 35, 36, 37, 38, 39, 40, 41, 42, 43, 44, 45, 46, 47, 48, 49, 50, 51, 52, 53, 54, 55] (by decide +kernel) (by decide +kernel)
set_option maxRecDepth 20000 in
theorem gX12_takeNumber_X12_here : GoodIn wsX12_takeNumber (wsV RX12 102 RX12 yX12_here wsX12_here) := goodIn_app (goodIn_of _ (by decide +kernel)) ggX12_takeNumber_X12_here
set_option maxRecDepth 20000 in
theorem ggX12_takeNumber_X12_in : GoodIn wsX12_takeNumber wsX12_in := goodIn_r _ [15] (by decide +kernel) (by decide +kernel)
set_option maxRecDepth 20000 in
theorem gX12_takeNumber_X12_in : GoodIn wsX12_takeNumber (va_wsS RX12 82 yX12_in wsX12_in) := goodIn_app (goodIn_of _ (by decide +kernel)) ggX12_takeNumber_X12_in
set_option maxRecDepth 20000 in
theorem ggX12_takeNumber_X12_fails : GoodIn wsX12_takeNumber wsX12_fails := goodIn_r _ [19, 20, 21, 22, 23, 24, 25, 26, 27, 28, 29, 30, 31, 32, 33, 34, 35, 36, 37, 38, 39, 40, 41, 42, 43, 44, 45, 46, 47, 48, 49, 50, 51, 52, 53, 54, 55] (by decide +kernel) (by decide +kernel)
set_option maxRecDepth 20000 in
theorem gX12_takeNumber_X12_fails : GoodIn wsX12_takeNumber (wsV RX12 109 RX12 yX12_fails wsX12_fails) := goodIn_app (goodIn_of _ (by decide +kernel)) ggX12_takeNumber_X12_fails
theorem dX12_takeNumber_0 : decode cX12_takeNumber 0 = .ok (.aload_n 0, 1) := by decide +kernel
theorem dX12_takeNumber_1 : decode cX12_takeNumber 1 = .ok (.invokevirtual 102, 3) := by decide +kernel
theorem dX12_takeNumber_4 : decode cX12_takeNumber 4 = .ok (.istore_n 3, 1) := by decide +kernel
theorem dX12_takeNumber_5 : decode cX12_takeNumber 5 = .ok (.iload_n 3, 1) := by decide +kernel
theorem dX12_takeNumber_6 : decode cX12_takeNumber 6 = .ok (.i2l, 1) := by decide +kernel
theorem dX12_takeNumber_7 : decode cX12_takeNumber 7 = .ok (.ldc2_w 105, 3) := by decide +kernel
theorem dX12_takeNumber_10 : decode cX12_takeNumber 10 = .ok (.ldc2_w 107, 3) := by decide +kernel
theorem dX12_takeNumber_13 : decode cX12_takeNumber 13 = .ok (.invokestatic 82, 3) := by decide +kernel
theorem dX12_takeNumber_16 : decode cX12_takeNumber 16 = .ok (.ifCond .ne 13, 3) := by decide +kernel
theorem dX12_takeNumber_19 : decode cX12_takeNumber 19 = .ok (.aload_n 0, 1) := by decide +kernel
theorem dX12_takeNumber_20 : decode cX12_takeNumber 20 = .ok (.iconst 1, 1) := by decide +kernel
theorem dX12_takeNumber_21 : decode cX12_takeNumber 21 = .ok (.aload_n 0, 1) := by decide +kernel
theorem dX12_takeNumber_22 : decode cX12_takeNumber 22 = .ok (.getfield 99, 3) := by decide +kernel
theorem dX12_takeNumber_25 : decode cX12_takeNumber 25 = .ok (.invokevirtual 109, 3) := by decide +kernel
theorem dX12_takeNumber_28 : decode cX12_takeNumber 28 = .ok (.ireturn, 1) := by decide +kernel
theorem dX12_takeNumber_29 : decode cX12_takeNumber 29 = .ok (.aload_n 0, 1) := by decide +kernel
theorem dX12_takeNumber_30 : decode cX12_takeNumber 30 = .ok (.aload_n 0, 1) := by decide +kernel
theorem dX12_takeNumber_31 : decode cX12_takeNumber 31 = .ok (.getfield 99, 3) := by decide +kernel
theorem dX12_takeNumber_34 : decode cX12_takeNumber 34 = .ok (.putfield 113, 3) := by decide +kernel
theorem dX12_takeNumber_37 : decode cX12_takeNumber 37 = .ok (.aload_n 0, 1) := by decide +kernel
theorem dX12_takeNumber_38 : decode cX12_takeNumber 38 = .ok (.iconst 0, 1) := by decide +kernel
theorem dX12_takeNumber_39 : decode cX12_takeNumber 39 = .ok (.putfield 116, 3) := by decide +kernel
theorem dX12_takeNumber_42 : decode cX12_takeNumber 42 = .ok (.aload_n 0, 1) := by decide +kernel
theorem dX12_takeNumber_43 : decode cX12_takeNumber 43 = .ok (.getfield 99, 3) := by decide +kernel
theorem dX12_takeNumber_46 : decode cX12_takeNumber 46 = .ok (.aload_n 0, 1) := by decide +kernel
theorem dX12_takeNumber_47 : decode cX12_takeNumber 47 = .ok (.getfield 95, 3) := by decide +kernel
theorem dX12_takeNumber_50 : decode cX12_takeNumber 50 = .ok (.if_icmp .ge 79, 3) := by decide +kernel
theorem dX12_takeNumber_53 : decode cX12_takeNumber 53 = .ok (.aload_n 0, 1) := by decide +kernel
theorem dX12_takeNumber_54 : decode cX12_takeNumber 54 = .ok (.getfield 25, 3) := by decide +kernel
theorem dX12_takeNumber_57 : decode cX12_takeNumber 57 = .ok (.aload_n 0, 1) := by decide +kernel
theorem dX12_takeNumber_58 : decode cX12_takeNumber 58 = .ok (.getfield 99, 3) := by decide +kernel
theorem dX12_takeNumber_61 : decode cX12_takeNumber 61 = .ok (.iaload, 1) := by decide +kernel
theorem dX12_takeNumber_62 : decode cX12_takeNumber 62 = .ok (.i2l, 1) := by decide +kernel
theorem dX12_takeNumber_63 : decode cX12_takeNumber 63 = .ok (.ldc2_w 105, 3) := by decide +kernel
theorem dX12_takeNumber_66 : decode cX12_takeNumber 66 = .ok (.ldc2_w 107, 3) := by decide +kernel
theorem dX12_takeNumber_69 : decode cX12_takeNumber 69 = .ok (.invokestatic 82, 3) := by decide +kernel
theorem dX12_takeNumber_72 : decode cX12_takeNumber 72 = .ok (.ifCond .eq 57, 3) := by decide +kernel
theorem dX12_takeNumber_75 : decode cX12_takeNumber 75 = .ok (.aload_n 0, 1) := by decide +kernel
theorem dX12_takeNumber_76 : decode cX12_takeNumber 76 = .ok (.aload_n 0, 1) := by decide +kernel
theorem dX12_takeNumber_77 : decode cX12_takeNumber 77 = .ok (.getfield 116, 3) := by decide +kernel
theorem dX12_takeNumber_80 : decode cX12_takeNumber 80 = .ok (.sipush 10000, 3) := by decide +kernel
theorem dX12_takeNumber_83 : decode cX12_takeNumber 83 = .ok (.if_icmp .le 10, 3) := by decide +kernel
theorem dX12_takeNumber_86 : decode cX12_takeNumber 86 = .ok (.aload_n 0, 1) := by decide +kernel
theorem dX12_takeNumber_87 : decode cX12_takeNumber 87 = .ok (.getfield 116, 3) := by decide +kernel
theorem dX12_takeNumber_90 : decode cX12_takeNumber 90 = .ok (.goto 23, 3) := by decide +kernel
theorem dX12_takeNumber_93 : decode cX12_takeNumber 93 = .ok (.bipush 10, 2) := by decide +kernel
theorem dX12_takeNumber_95 : decode cX12_takeNumber 95 = .ok (.aload_n 0, 1) := by decide +kernel
theorem dX12_takeNumber_96 : decode cX12_takeNumber 96 = .ok (.getfield 116, 3) := by decide +kernel
theorem dX12_takeNumber_99 : decode cX12_takeNumber 99 = .ok (.imul, 1) := by decide +kernel
theorem dX12_takeNumber_100 : decode cX12_takeNumber 100 = .ok (.aload_n 0, 1) := by decide +kernel
theorem dX12_takeNumber_101 : decode cX12_takeNumber 101 = .ok (.getfield 25, 3) := by decide +kernel
theorem dX12_takeNumber_104 : decode cX12_takeNumber 104 = .ok (.aload_n 0, 1) := by decide +kernel
theorem dX12_takeNumber_105 : decode cX12_takeNumber 105 = .ok (.getfield 99, 3) := by decide +kernel
theorem dX12_takeNumber_108 : decode cX12_takeNumber 108 = .ok (.iaload, 1) := by decide +kernel
theorem dX12_takeNumber_109 : decode cX12_takeNumber 109 = .ok (.iadd, 1) := by decide +kernel
theorem dX12_takeNumber_110 : decode cX12_takeNumber 110 = .ok (.bipush 48, 2) := by decide +kernel
theorem dX12_takeNumber_112 : decode cX12_takeNumber 112 = .ok (.isub, 1) := by decide +kernel
theorem dX12_takeNumber_113 : decode cX12_takeNumber 113 = .ok (.putfield 116, 3) := by decide +kernel
theorem dX12_takeNumber_116 : decode cX12_takeNumber 116 = .ok (.aload_n 0, 1) := by decide +kernel
theorem dX12_takeNumber_117 : decode cX12_takeNumber 117 = .ok (.dup, 1) := by decide +kernel
theorem dX12_takeNumber_118 : decode cX12_takeNumber 118 = .ok (.getfield 99, 3) := by decide +kernel
theorem dX12_takeNumber_121 : decode cX12_takeNumber 121 = .ok (.iconst 1, 1) := by decide +kernel
theorem dX12_takeNumber_122 : decode cX12_takeNumber 122 = .ok (.iadd, 1) := by decide +kernel
theorem dX12_takeNumber_123 : decode cX12_takeNumber 123 = .ok (.putfield 99, 3) := by decide +kernel
theorem dX12_takeNumber_126 : decode cX12_takeNumber 126 = .ok (.goto (-84), 3) := by decide +kernel
theorem dX12_takeNumber_129 : decode cX12_takeNumber 129 = .ok (.aload_n 0, 1) := by decide +kernel
theorem dX12_takeNumber_130 : decode cX12_takeNumber 130 = .ok (.getfield 99, 3) := by decide +kernel
theorem dX12_takeNumber_133 : decode cX12_takeNumber 133 = .ok (.aload_n 0, 1) := by decide +kernel
theorem dX12_takeNumber_134 : decode cX12_takeNumber 134 = .ok (.getfield 113, 3) := by decide +kernel
theorem dX12_takeNumber_137 : decode cX12_takeNumber 137 = .ok (.isub, 1) := by decide +kernel
theorem dX12_takeNumber_138 : decode cX12_takeNumber 138 = .ok (.iconst 3, 1) := by decide +kernel
theorem dX12_takeNumber_139 : decode cX12_takeNumber 139 = .ok (.if_icmp .gt 18, 3) := by decide +kernel
theorem dX12_takeNumber_142 : decode cX12_takeNumber 142 = .ok (.aload_n 0, 1) := by decide +kernel
theorem dX12_takeNumber_143 : decode cX12_takeNumber 143 = .ok (.getfield 116, 3) := by decide +kernel
theorem dX12_takeNumber_146 : decode cX12_takeNumber 146 = .ok (.i2l, 1) := by decide +kernel
theorem dX12_takeNumber_147 : decode cX12_takeNumber 147 = .ok (.iload_n 1, 1) := by decide +kernel
theorem dX12_takeNumber_148 : decode cX12_takeNumber 148 = .ok (.i2l, 1) := by decide +kernel
theorem dX12_takeNumber_149 : decode cX12_takeNumber 149 = .ok (.iload_n 2, 1) := by decide +kernel
theorem dX12_takeNumber_150 : decode cX12_takeNumber 150 = .ok (.i2l, 1) := by decide +kernel
theorem dX12_takeNumber_151 : decode cX12_takeNumber 151 = .ok (.invokestatic 82, 3) := by decide +kernel
theorem dX12_takeNumber_154 : decode cX12_takeNumber 154 = .ok (.ifCond .ne 15, 3) := by decide +kernel
theorem dX12_takeNumber_157 : decode cX12_takeNumber 157 = .ok (.aload_n 0, 1) := by decide +kernel
theorem dX12_takeNumber_158 : decode cX12_takeNumber 158 = .ok (.iconst 2, 1) := by decide +kernel
theorem dX12_takeNumber_159 : decode cX12_takeNumber 159 = .ok (.aload_n 0, 1) := by decide +kernel
theorem dX12_takeNumber_160 : decode cX12_takeNumber 160 = .ok (.getfield 113, 3) := by decide +kernel
theorem dX12_takeNumber_163 : decode cX12_takeNumber 163 = .ok (.invokevirtual 109, 3) := by decide +kernel
theorem dX12_takeNumber_166 : decode cX12_takeNumber 166 = .ok (.goto 4, 3) := by decide +kernel
theorem dX12_takeNumber_169 : decode cX12_takeNumber 169 = .ok (.iconst 0, 1) := by decide +kernel
theorem dX12_takeNumber_170 : decode cX12_takeNumber 170 = .ok (.ireturn, 1) := by decide +kernel
set_option maxRecDepth 20000 in
theorem ggX12_into_X12_takeNumber : GoodIn wsX12_into wsX12_takeNumber := goodIn_r _ [6, 7, 8, 9, 10, 1, 11, 12, 13, 14, 15, 5, 16, 17, 18, 19, 20, 21, 22, 23, 24, 25, 26, 27, 28, 29, 30, 31, 32, 33, 34, 35, 36, 37, 38, 39, 40, 41, 42, 43, 44, 45, 46, 47, 48, 49, 50, 51, 52, 53, 54, 55, 56, 57, 58, 59] (by decide +kernel) (by decide +kernel)
set_option maxRecDepth 20000 in
theorem gX12_into_X12_takeNumber : GoodIn wsX12_into (wsV RX12 119 RX12 yX12_takeNumber wsX12_takeNumber) := goodIn_app (goodIn_of _ (by decide +kernel)) ggX12_into_X12_takeNumber
theorem dX12_into_0 : decode cX12_into 0 = .ok (.aload_n 0, 1) := by decide +kernel
theorem dX12_into_1 : decode cX12_into 1 = .ok (.iload_n 3, 1) := by decide +kernel
theorem dX12_into_2 : decode cX12_into 2 = .ok (.iload 4, 2) := by decide +kernel
theorem dX12_into_4 : decode cX12_into 4 = .ok (.invokevirtual 119, 3) := by decide +kernel
theorem dX12_into_7 : decode cX12_into 7 = .ok (.istore 5, 2) := by decide +kernel
theorem dX12_into_9 : decode cX12_into 9 = .ok (.aload_n 1, 1) := by decide +kernel
theorem dX12_into_10 : decode cX12_into 10 = .ok (.iload_n 2, 1) := by decide +kernel
theorem dX12_into_11 : decode cX12_into 11 = .ok (.aload_n 0, 1) := by decide +kernel
theorem dX12_into_12 : decode cX12_into 12 = .ok (.getfield 116, 3) := by decide +kernel
theorem dX12_into_15 : decode cX12_into 15 = .ok (.iastore, 1) := by decide +kernel
theorem dX12_into_16 : decode cX12_into 16 = .ok (.iload 5, 2) := by decide +kernel
theorem dX12_into_18 : decode cX12_into 18 = .ok (.ireturn, 1) := by decide +kernel
set_option maxRecDepth 20000 in
theorem ggX12_takeWalls_X12_into : GoodIn wsX12_takeWalls wsX12_into := goodIn_r _ [8, 9, 10, 11, 12, 7, 13, 14, 15, 3, 16, 17, 18, 19, 20, 21, 22, 23, 24, 25, 26, 27, 28, 29, 30, 31, 32, 33, 34, 35, 36, 37, 38, 39, 40, 41, 42, 43, 44, 45, 46, 47, 48, 49, 50, 51, 52, 53, 54, 55, 56, 57, 58, 59, 60, 61, 62, 63, 64, 65] (by decide +kernel) (by decide +kernel)
set_option maxRecDepth 20000 in
theorem gX12_takeWalls_X12_into : GoodIn wsX12_takeWalls (wsV RX12 122 RX12 yX12_into wsX12_into) := goodIn_app (goodIn_of _ (by decide +kernel)) ggX12_takeWalls_X12_into
set_option maxRecDepth 20000 in
theorem ggX12_takeWalls_X12_here : GoodIn wsX12_takeWalls wsX12_here := goodIn_r _ [22, 3, 17, 18, 31, 32, 33, 34, 35, 36, 37, 38, 39, 40, 41, 42, 43, 44, 45, 46, 47, 48, 49, 50, 51, 52, 53, 54, 55, 56, 57, 58, 59, 60, 61, 62, 63, 64, 65] (by decide +kernel) (by decide +kernel)
set_option maxRecDepth 20000 in
theorem gX12_takeWalls_X12_here : GoodIn wsX12_takeWalls (wsV RX12 102 RX12 yX12_here wsX12_here) := goodIn_app (goodIn_of _ (by decide +kernel)) ggX12_takeWalls_X12_here
set_option maxRecDepth 20000 in
theorem ggX12_takeWalls_X12_fails : GoodIn wsX12_takeWalls wsX12_fails := goodIn_r _ [29, 30, 31, 32, 33, 34, 35, 36, 37, 38, 39, 40, 41, 42, 43, 44, 45, 46, 47, 48, 49, 50, 51, 52, 53, 54, 55, 56, 57, 58, 59, 60, 61, 62, 63, 64, 65] (by decide +kernel) (by decide +kernel)
set_option maxRecDepth 20000 in
theorem gX12_takeWalls_X12_fails : GoodIn wsX12_takeWalls (wsV RX12 109 RX12 yX12_fails wsX12_fails) := goodIn_app (goodIn_of _ (by decide +kernel)) ggX12_takeWalls_X12_fails
theorem dX12_takeWalls_0 : decode cX12_takeWalls 0 = .ok (.aload_n 0, 1) := by decide +kernel
theorem dX12_takeWalls_1 : decode cX12_takeWalls 1 = .ok (.aload_n 0, 1) := by decide +kernel
theorem dX12_takeWalls_2 : decode cX12_takeWalls 2 = .ok (.getfield 32, 3) := by decide +kernel
theorem dX12_takeWalls_5 : decode cX12_takeWalls 5 = .ok (.iconst 0, 1) := by decide +kernel
theorem dX12_takeWalls_6 : decode cX12_takeWalls 6 = .ok (.iconst 0, 1) := by decide +kernel
theorem dX12_takeWalls_7 : decode cX12_takeWalls 7 = .ok (.bipush 20, 2) := by decide +kernel
theorem dX12_takeWalls_9 : decode cX12_takeWalls 9 = .ok (.invokevirtual 122, 3) := by decide +kernel
theorem dX12_takeWalls_12 : decode cX12_takeWalls 12 = .ok (.istore_n 1, 1) := by decide +kernel
theorem dX12_takeWalls_13 : decode cX12_takeWalls 13 = .ok (.aload_n 0, 1) := by decide +kernel
theorem dX12_takeWalls_14 : decode cX12_takeWalls 14 = .ok (.iconst 1, 1) := by decide +kernel
theorem dX12_takeWalls_15 : decode cX12_takeWalls 15 = .ok (.putfield 126, 3) := by decide +kernel
theorem dX12_takeWalls_18 : decode cX12_takeWalls 18 = .ok (.iload_n 1, 1) := by decide +kernel
theorem dX12_takeWalls_19 : decode cX12_takeWalls 19 = .ok (.ifCond .ne 70, 3) := by decide +kernel
theorem dX12_takeWalls_22 : decode cX12_takeWalls 22 = .ok (.aload_n 0, 1) := by decide +kernel
theorem dX12_takeWalls_23 : decode cX12_takeWalls 23 = .ok (.invokevirtual 102, 3) := by decide +kernel
theorem dX12_takeWalls_26 : decode cX12_takeWalls 26 = .ok (.bipush 44, 2) := by decide +kernel
theorem dX12_takeWalls_28 : decode cX12_takeWalls 28 = .ok (.if_icmp .ne 61, 3) := by decide +kernel
theorem dX12_takeWalls_31 : decode cX12_takeWalls 31 = .ok (.aload_n 0, 1) := by decide +kernel
theorem dX12_takeWalls_32 : decode cX12_takeWalls 32 = .ok (.getfield 126, 3) := by decide +kernel
theorem dX12_takeWalls_35 : decode cX12_takeWalls 35 = .ok (.bipush 8, 2) := by decide +kernel
theorem dX12_takeWalls_37 : decode cX12_takeWalls 37 = .ok (.if_icmp .ne 13, 3) := by decide +kernel
theorem dX12_takeWalls_40 : decode cX12_takeWalls 40 = .ok (.aload_n 0, 1) := by decide +kernel
theorem dX12_takeWalls_41 : decode cX12_takeWalls 41 = .ok (.iconst 1, 1) := by decide +kernel
theorem dX12_takeWalls_42 : decode cX12_takeWalls 42 = .ok (.aload_n 0, 1) := by decide +kernel
theorem dX12_takeWalls_43 : decode cX12_takeWalls 43 = .ok (.getfield 99, 3) := by decide +kernel
theorem dX12_takeWalls_46 : decode cX12_takeWalls 46 = .ok (.invokevirtual 109, 3) := by decide +kernel
theorem dX12_takeWalls_49 : decode cX12_takeWalls 49 = .ok (.ireturn, 1) := by decide +kernel
theorem dX12_takeWalls_50 : decode cX12_takeWalls 50 = .ok (.aload_n 0, 1) := by decide +kernel
theorem dX12_takeWalls_51 : decode cX12_takeWalls 51 = .ok (.dup, 1) := by decide +kernel
theorem dX12_takeWalls_52 : decode cX12_takeWalls 52 = .ok (.getfield 99, 3) := by decide +kernel
theorem dX12_takeWalls_55 : decode cX12_takeWalls 55 = .ok (.iconst 1, 1) := by decide +kernel
theorem dX12_takeWalls_56 : decode cX12_takeWalls 56 = .ok (.iadd, 1) := by decide +kernel
theorem dX12_takeWalls_57 : decode cX12_takeWalls 57 = .ok (.putfield 99, 3) := by decide +kernel
theorem dX12_takeWalls_60 : decode cX12_takeWalls 60 = .ok (.aload_n 0, 1) := by decide +kernel
theorem dX12_takeWalls_61 : decode cX12_takeWalls 61 = .ok (.aload_n 0, 1) := by decide +kernel
theorem dX12_takeWalls_62 : decode cX12_takeWalls 62 = .ok (.getfield 32, 3) := by decide +kernel
theorem dX12_takeWalls_65 : decode cX12_takeWalls 65 = .ok (.aload_n 0, 1) := by decide +kernel
theorem dX12_takeWalls_66 : decode cX12_takeWalls 66 = .ok (.getfield 126, 3) := by decide +kernel
theorem dX12_takeWalls_69 : decode cX12_takeWalls 69 = .ok (.iconst 0, 1) := by decide +kernel
theorem dX12_takeWalls_70 : decode cX12_takeWalls 70 = .ok (.bipush 20, 2) := by decide +kernel
theorem dX12_takeWalls_72 : decode cX12_takeWalls 72 = .ok (.invokevirtual 122, 3) := by decide +kernel
theorem dX12_takeWalls_75 : decode cX12_takeWalls 75 = .ok (.istore_n 1, 1) := by decide +kernel
theorem dX12_takeWalls_76 : decode cX12_takeWalls 76 = .ok (.aload_n 0, 1) := by decide +kernel
theorem dX12_takeWalls_77 : decode cX12_takeWalls 77 = .ok (.dup, 1) := by decide +kernel
theorem dX12_takeWalls_78 : decode cX12_takeWalls 78 = .ok (.getfield 126, 3) := by decide +kernel
theorem dX12_takeWalls_81 : decode cX12_takeWalls 81 = .ok (.iconst 1, 1) := by decide +kernel
theorem dX12_takeWalls_82 : decode cX12_takeWalls 82 = .ok (.iadd, 1) := by decide +kernel
theorem dX12_takeWalls_83 : decode cX12_takeWalls 83 = .ok (.putfield 126, 3) := by decide +kernel
theorem dX12_takeWalls_86 : decode cX12_takeWalls 86 = .ok (.goto (-68), 3) := by decide +kernel
theorem dX12_takeWalls_89 : decode cX12_takeWalls 89 = .ok (.iload_n 1, 1) := by decide +kernel
theorem dX12_takeWalls_90 : decode cX12_takeWalls 90 = .ok (.ireturn, 1) := by decide +kernel
set_option maxRecDepth 20000 in
theorem ggX12_takeWind_X12_takeNumber : GoodIn wsX12_takeWind wsX12_takeNumber := goodIn_r _ [7, 8, 9, 10, 11, 1, 12, 13, 14, 15, 16, 6, 17, 18, 19, 20, 21, 22, 23, 24, 25, 26, 27, 28, 29, 30, 31, 32, 33, 34, 35, 36, 37, 38, 39, 40, 41, 42, 43, 44, 45, 46, 47, 48, 49, 50, 51, 52, 53, 54, 55, 56, 57, 58, 59, 60] (by decide +kernel) (by decide +kernel)
set_option maxRecDepth 20000 in
theorem gX12_takeWind_X12_takeNumber : GoodIn wsX12_takeWind (wsV RX12 119 RX12 yX12_takeNumber wsX12_takeNumber) := goodIn_app (goodIn_of _ (by decide +kernel)) ggX12_takeWind_X12_takeNumber
theorem dX12_takeWind_0 : decode cX12_takeWind 0 = .ok (.aload_n 0, 1) := by decide +kernel
theorem dX12_takeWind_1 : decode cX12_takeWind 1 = .ok (.iconst 0, 1) := by decide +kernel
theorem dX12_takeWind_2 : decode cX12_takeWind 2 = .ok (.bipush 18, 2) := by decide +kernel
theorem dX12_takeWind_4 : decode cX12_takeWind 4 = .ok (.invokevirtual 119, 3) := by decide +kernel
theorem dX12_takeWind_7 : decode cX12_takeWind 7 = .ok (.istore_n 1, 1) := by decide +kernel
theorem dX12_takeWind_8 : decode cX12_takeWind 8 = .ok (.aload_n 0, 1) := by decide +kernel
theorem dX12_takeWind_9 : decode cX12_takeWind 9 = .ok (.aload_n 0, 1) := by decide +kernel
theorem dX12_takeWind_10 : decode cX12_takeWind 10 = .ok (.getfield 116, 3) := by decide +kernel
theorem dX12_takeWind_13 : decode cX12_takeWind 13 = .ok (.putfield 129, 3) := by decide +kernel
theorem dX12_takeWind_16 : decode cX12_takeWind 16 = .ok (.iload_n 1, 1) := by decide +kernel
theorem dX12_takeWind_17 : decode cX12_takeWind 17 = .ok (.ireturn, 1) := by decide +kernel
set_option maxRecDepth 20000 in
theorem ggX12_takeSound_X12_into : GoodIn wsX12_takeSound wsX12_into := goodIn_r _ [8, 9, 10, 11, 12, 7, 13, 14, 15, 16, 17, 18, 19, 20, 21, 22, 23, 24, 25, 26, 27, 28, 29, 30, 31, 32, 33, 34, 35, 36, 37, 38, 39, 40, 41, 42, 43, 44, 45, 46, 47, 48, 49, 50, 51, 52, 53, 54, 55, 56, 57, 58, 59, 60, 61, 62, 63, 64, 65, 66] (by decide +kernel) (by decide +kernel)
set_option maxRecDepth 20000 in
theorem gX12_takeSound_X12_into : GoodIn wsX12_takeSound (wsV RX12 122 RX12 yX12_into wsX12_into) := goodIn_app (goodIn_of _ (by decide +kernel)) ggX12_takeSound_X12_into
theorem dX12_takeSound_0 : decode cX12_takeSound 0 = .ok (.aload_n 0, 1) := by decide +kernel
theorem dX12_takeSound_1 : decode cX12_takeSound 1 = .ok (.getfield 132, 3) := by decide +kernel
theorem dX12_takeSound_4 : decode cX12_takeSound 4 = .ok (.istore_n 1, 1) := by decide +kernel
theorem dX12_takeSound_5 : decode cX12_takeSound 5 = .ok (.aload_n 0, 1) := by decide +kernel
theorem dX12_takeSound_6 : decode cX12_takeSound 6 = .ok (.dup, 1) := by decide +kernel
theorem dX12_takeSound_7 : decode cX12_takeSound 7 = .ok (.getfield 132, 3) := by decide +kernel
theorem dX12_takeSound_10 : decode cX12_takeSound 10 = .ok (.iconst 1, 1) := by decide +kernel
theorem dX12_takeSound_11 : decode cX12_takeSound 11 = .ok (.iadd, 1) := by decide +kernel
theorem dX12_takeSound_12 : decode cX12_takeSound 12 = .ok (.putfield 132, 3) := by decide +kernel
theorem dX12_takeSound_15 : decode cX12_takeSound 15 = .ok (.aload_n 0, 1) := by decide +kernel
theorem dX12_takeSound_16 : decode cX12_takeSound 16 = .ok (.aload_n 0, 1) := by decide +kernel
theorem dX12_takeSound_17 : decode cX12_takeSound 17 = .ok (.getfield 35, 3) := by decide +kernel
theorem dX12_takeSound_20 : decode cX12_takeSound 20 = .ok (.iload_n 1, 1) := by decide +kernel
theorem dX12_takeSound_21 : decode cX12_takeSound 21 = .ok (.iconst 0, 1) := by decide +kernel
theorem dX12_takeSound_22 : decode cX12_takeSound 22 = .ok (.bipush 60, 2) := by decide +kernel
theorem dX12_takeSound_24 : decode cX12_takeSound 24 = .ok (.invokevirtual 122, 3) := by decide +kernel
theorem dX12_takeSound_27 : decode cX12_takeSound 27 = .ok (.istore_n 2, 1) := by decide +kernel
theorem dX12_takeSound_28 : decode cX12_takeSound 28 = .ok (.iload_n 2, 1) := by decide +kernel
theorem dX12_takeSound_29 : decode cX12_takeSound 29 = .ok (.ifCond .le 7, 3) := by decide +kernel
theorem dX12_takeSound_32 : decode cX12_takeSound 32 = .ok (.iload_n 2, 1) := by decide +kernel
theorem dX12_takeSound_33 : decode cX12_takeSound 33 = .ok (.goto 15, 3) := by decide +kernel
theorem dX12_takeSound_36 : decode cX12_takeSound 36 = .ok (.aload_n 0, 1) := by decide +kernel
theorem dX12_takeSound_37 : decode cX12_takeSound 37 = .ok (.aload_n 0, 1) := by decide +kernel
theorem dX12_takeSound_38 : decode cX12_takeSound 38 = .ok (.getfield 38, 3) := by decide +kernel
theorem dX12_takeSound_41 : decode cX12_takeSound 41 = .ok (.iload_n 1, 1) := by decide +kernel
theorem dX12_takeSound_42 : decode cX12_takeSound 42 = .ok (.iconst 0, 1) := by decide +kernel
theorem dX12_takeSound_43 : decode cX12_takeSound 43 = .ok (.bipush 9, 2) := by decide +kernel
theorem dX12_takeSound_45 : decode cX12_takeSound 45 = .ok (.invokevirtual 122, 3) := by decide +kernel
theorem dX12_takeSound_48 : decode cX12_takeSound 48 = .ok (.ireturn, 1) := by decide +kernel
set_option maxRecDepth 20000 in
theorem ggX12_takeWitness_X12_into : GoodIn wsX12_takeWitness wsX12_into := goodIn_r _ [10, 11, 12, 13, 14, 9, 15, 16, 17, 18, 19, 20, 21, 22, 23, 24, 25, 26, 27, 28, 29, 30, 31, 32, 33, 34, 35, 36, 37, 38, 39, 40, 41, 42, 43, 44, 45, 46, 47, 48, 49, 50, 51, 52, 53, 54, 55, 56, 57, 58, 59, 60, 61, 62, 63, 64, 65, 66, 67, 68] (by decide +kernel) (by decide +kernel)
set_option maxRecDepth 20000 in
theorem gX12_takeWitness_X12_into : GoodIn wsX12_takeWitness (wsV RX12 122 RX12 yX12_into wsX12_into) := goodIn_app (goodIn_of _ (by decide +kernel)) ggX12_takeWitness_X12_into
theorem dX12_takeWitness_0 : decode cX12_takeWitness 0 = .ok (.aload_n 0, 1) := by decide +kernel
theorem dX12_takeWitness_1 : decode cX12_takeWitness 1 = .ok (.getfield 135, 3) := by decide +kernel
theorem dX12_takeWitness_4 : decode cX12_takeWitness 4 = .ok (.istore_n 1, 1) := by decide +kernel
theorem dX12_takeWitness_5 : decode cX12_takeWitness 5 = .ok (.aload_n 0, 1) := by decide +kernel
theorem dX12_takeWitness_6 : decode cX12_takeWitness 6 = .ok (.dup, 1) := by decide +kernel
theorem dX12_takeWitness_7 : decode cX12_takeWitness 7 = .ok (.getfield 135, 3) := by decide +kernel
theorem dX12_takeWitness_10 : decode cX12_takeWitness 10 = .ok (.iconst 1, 1) := by decide +kernel
theorem dX12_takeWitness_11 : decode cX12_takeWitness 11 = .ok (.iadd, 1) := by decide +kernel
theorem dX12_takeWitness_12 : decode cX12_takeWitness 12 = .ok (.putfield 135, 3) := by decide +kernel
theorem dX12_takeWitness_15 : decode cX12_takeWitness 15 = .ok (.aload_n 0, 1) := by decide +kernel
theorem dX12_takeWitness_16 : decode cX12_takeWitness 16 = .ok (.aload_n 0, 1) := by decide +kernel
theorem dX12_takeWitness_17 : decode cX12_takeWitness 17 = .ok (.getfield 41, 3) := by decide +kernel
theorem dX12_takeWitness_20 : decode cX12_takeWitness 20 = .ok (.iload_n 1, 1) := by decide +kernel
theorem dX12_takeWitness_21 : decode cX12_takeWitness 21 = .ok (.iconst 0, 1) := by decide +kernel
theorem dX12_takeWitness_22 : decode cX12_takeWitness 22 = .ok (.aload_n 0, 1) := by decide +kernel
theorem dX12_takeWitness_23 : decode cX12_takeWitness 23 = .ok (.getfield 126, 3) := by decide +kernel
theorem dX12_takeWitness_26 : decode cX12_takeWitness 26 = .ok (.invokevirtual 122, 3) := by decide +kernel
theorem dX12_takeWitness_29 : decode cX12_takeWitness 29 = .ok (.istore_n 2, 1) := by decide +kernel
theorem dX12_takeWitness_30 : decode cX12_takeWitness 30 = .ok (.iload_n 2, 1) := by decide +kernel
theorem dX12_takeWitness_31 : decode cX12_takeWitness 31 = .ok (.ifCond .le 7, 3) := by decide +kernel
theorem dX12_takeWitness_34 : decode cX12_takeWitness 34 = .ok (.iload_n 2, 1) := by decide +kernel
theorem dX12_takeWitness_35 : decode cX12_takeWitness 35 = .ok (.goto 15, 3) := by decide +kernel
theorem dX12_takeWitness_38 : decode cX12_takeWitness 38 = .ok (.aload_n 0, 1) := by decide +kernel
theorem dX12_takeWitness_39 : decode cX12_takeWitness 39 = .ok (.aload_n 0, 1) := by decide +kernel
theorem dX12_takeWitness_40 : decode cX12_takeWitness 40 = .ok (.getfield 44, 3) := by decide +kernel
theorem dX12_takeWitness_43 : decode cX12_takeWitness 43 = .ok (.iload_n 1, 1) := by decide +kernel
theorem dX12_takeWitness_44 : decode cX12_takeWitness 44 = .ok (.iconst 0, 1) := by decide +kernel
theorem dX12_takeWitness_45 : decode cX12_takeWitness 45 = .ok (.bipush 30, 2) := by decide +kernel
theorem dX12_takeWitness_47 : decode cX12_takeWitness 47 = .ok (.invokevirtual 122, 3) := by decide +kernel
theorem dX12_takeWitness_50 : decode cX12_takeWitness 50 = .ok (.istore_n 2, 1) := by decide +kernel
theorem dX12_takeWitness_51 : decode cX12_takeWitness 51 = .ok (.iload_n 2, 1) := by decide +kernel
theorem dX12_takeWitness_52 : decode cX12_takeWitness 52 = .ok (.ifCond .le 7, 3) := by decide +kernel
theorem dX12_takeWitness_55 : decode cX12_takeWitness 55 = .ok (.iload_n 2, 1) := by decide +kernel
theorem dX12_takeWitness_56 : decode cX12_takeWitness 56 = .ok (.goto 14, 3) := by decide +kernel
theorem dX12_takeWitness_59 : decode cX12_takeWitness 59 = .ok (.aload_n 0, 1) := by decide +kernel
theorem dX12_takeWitness_60 : decode cX12_takeWitness 60 = .ok (.aload_n 0, 1) := by decide +kernel
theorem dX12_takeWitness_61 : decode cX12_takeWitness 61 = .ok (.getfield 47, 3) := by decide +kernel
theorem dX12_takeWitness_64 : decode cX12_takeWitness 64 = .ok (.iload_n 1, 1) := by decide +kernel
theorem dX12_takeWitness_65 : decode cX12_takeWitness 65 = .ok (.iconst 0, 1) := by decide +kernel
theorem dX12_takeWitness_66 : decode cX12_takeWitness 66 = .ok (.iconst 2, 1) := by decide +kernel
theorem dX12_takeWitness_67 : decode cX12_takeWitness 67 = .ok (.invokevirtual 122, 3) := by decide +kernel
theorem dX12_takeWitness_70 : decode cX12_takeWitness 70 = .ok (.ireturn, 1) := by decide +kernel
set_option maxRecDepth 20000 in
theorem ggX12_takeClause_X12_here : GoodIn wsX12_takeClause wsX12_here := goodIn_r _ [10, 2, 11, 12, 55, 56, 57, 58, 59, 60, 61, 62, 63, 64, 65, 66, 67, 68, 69, 70, 71, 72, 73, 74, 75, 76, 77, 78, 79, 80, 81, 82, 83, 84, 85, 86, 87, 88, 89] (by decide +kernel) (by decide +kernel)
set_option maxRecDepth 20000 in
theorem gX12_takeClause_X12_here : GoodIn wsX12_takeClause (wsV RX12 102 RX12 yX12_here wsX12_here) := goodIn_app (goodIn_of _ (by decide +kernel)) ggX12_takeClause_X12_here
set_option maxRecDepth 20000 in
theorem ggX12_takeClause_X12_fails : GoodIn wsX12_takeClause wsX12_fails := goodIn_r _ [16, 17, 55, 56, 57, 58, 59, 60, 61, 62, 63, 64, 65, 66, 67, 68, 69, 70, 71, 72, 73, 74, 75, 76, 77, 78, 79, 80, 81, 82, 83, 84, 85, 86, 87, 88, 89] (by decide +kernel) (by decide +kernel)
set_option maxRecDepth 20000 in
theorem gX12_takeClause_X12_fails : GoodIn wsX12_takeClause (wsV RX12 109 RX12 yX12_fails wsX12_fails) := goodIn_app (goodIn_of _ (by decide +kernel)) ggX12_takeClause_X12_fails
set_option maxRecDepth 20000 in
theorem ggX12_takeClause_X12_takeWalls : GoodIn wsX12_takeClause wsX12_takeWalls := goodIn_r _ [21, 22, 1, 2, 23, 24, 25, 9, 26, 27, 28, 29, 30, 31, 32, 33, 34, 11, 12, 6, 7, 8, 10, 35, 36, 37, 13, 14, 15, 16, 17, 55, 56, 57, 58, 59, 60, 61, 62, 63, 64, 65, 66, 67, 68, 69, 70, 71, 72, 73, 74, 75, 76, 77, 78, 79, 80, 81, 82, 83, 84, 85, 86, 87, 88, 89] (by decide +kernel) (by decide +kernel)
set_option maxRecDepth 20000 in
theorem gX12_takeClause_X12_takeWalls : GoodIn wsX12_takeClause (wsV RX12 138 RX12 yX12_takeWalls wsX12_takeWalls) := goodIn_app (goodIn_of _ (by decide +kernel)) ggX12_takeClause_X12_takeWalls
set_option maxRecDepth 20000 in
theorem ggX12_takeClause_X12_takeWind : GoodIn wsX12_takeClause wsX12_takeWind := goodIn_r _ [41, 27, 3, 28, 29, 30, 9, 31, 32, 33, 2, 34, 11, 12, 6, 7, 8, 10, 35, 36, 37, 13, 14, 15, 16, 17, 55, 56, 57, 58, 59, 60, 61, 62, 63, 64, 65, 66, 67, 68, 69, 70, 71, 72, 73, 74, 75, 76, 77, 78, 79, 80, 81, 82, 83, 84, 85, 86, 87, 88, 89] (by decide +kernel) (by decide +kernel)
set_option maxRecDepth 20000 in
theorem gX12_takeClause_X12_takeWind : GoodIn wsX12_takeClause (wsV RX12 141 RX12 yX12_takeWind wsX12_takeWind) := goodIn_app (goodIn_of _ (by decide +kernel)) ggX12_takeClause_X12_takeWind
set_option maxRecDepth 20000 in
theorem ggX12_takeClause_X12_takeSound : GoodIn wsX12_takeClause wsX12_takeSound := goodIn_r _ [45, 4, 46, 47, 23, 24, 25, 9, 26, 27, 28, 29, 30, 31, 32, 33, 2, 34, 11, 12, 6, 7, 8, 10, 35, 36, 37, 13, 14, 15, 16, 17, 55, 56, 57, 58, 59, 60, 61, 62, 63, 64, 65, 66, 67, 68, 69, 70, 71, 72, 73, 74, 75, 76, 77, 78, 79, 80, 81, 82, 83, 84, 85, 86, 87, 88, 89] (by decide +kernel) (by decide +kernel)
set_option maxRecDepth 20000 in
theorem gX12_takeClause_X12_takeSound : GoodIn wsX12_takeClause (wsV RX12 144 RX12 yX12_takeSound wsX12_takeSound) := goodIn_app (goodIn_of _ (by decide +kernel)) ggX12_takeClause_X12_takeSound
set_option maxRecDepth 20000 in
theorem ggX12_takeClause_X12_takeWitness : GoodIn wsX12_takeClause wsX12_takeWitness := goodIn_r _ [51, 5, 52, 1, 53, 54, 23, 24, 25, 9, 26, 27, 28, 29, 30, 31, 32, 33, 2, 34, 11, 12, 6, 7, 8, 10, 35, 36, 37, 13, 14, 15, 16, 17, 55, 56, 57, 58, 59, 60, 61, 62, 63, 64, 65, 66, 67, 68, 69, 70, 71, 72, 73, 74, 75, 76, 77, 78, 79, 80, 81, 82, 83, 84, 85, 86, 87, 88, 89] (by decide +kernel) (by decide +kernel)
set_option maxRecDepth 20000 in
theorem gX12_takeClause_X12_takeWitness : GoodIn wsX12_takeClause (wsV RX12 147 RX12 yX12_takeWitness wsX12_takeWitness) := goodIn_app (goodIn_of _ (by decide +kernel)) ggX12_takeClause_X12_takeWitness
theorem dX12_takeClause_0 : decode cX12_takeClause 0 = .ok (.aload_n 0, 1) := by decide +kernel
theorem dX12_takeClause_1 : decode cX12_takeClause 1 = .ok (.invokevirtual 102, 3) := by decide +kernel
theorem dX12_takeClause_4 : decode cX12_takeClause 4 = .ok (.istore_n 1, 1) := by decide +kernel
theorem dX12_takeClause_5 : decode cX12_takeClause 5 = .ok (.iload_n 1, 1) := by decide +kernel
theorem dX12_takeClause_6 : decode cX12_takeClause 6 = .ok (.bipush 104, 2) := by decide +kernel
theorem dX12_takeClause_8 : decode cX12_takeClause 8 = .ok (.if_icmp .ne 7, 3) := by decide +kernel
theorem dX12_takeClause_11 : decode cX12_takeClause 11 = .ok (.iconst 0, 1) := by decide +kernel
theorem dX12_takeClause_12 : decode cX12_takeClause 12 = .ok (.goto 34, 3) := by decide +kernel
theorem dX12_takeClause_15 : decode cX12_takeClause 15 = .ok (.iload_n 1, 1) := by decide +kernel
theorem dX12_takeClause_16 : decode cX12_takeClause 16 = .ok (.bipush 118, 2) := by decide +kernel
theorem dX12_takeClause_18 : decode cX12_takeClause 18 = .ok (.if_icmp .ne 7, 3) := by decide +kernel
theorem dX12_takeClause_21 : decode cX12_takeClause 21 = .ok (.iconst 1, 1) := by decide +kernel
theorem dX12_takeClause_22 : decode cX12_takeClause 22 = .ok (.goto 24, 3) := by decide +kernel
theorem dX12_takeClause_25 : decode cX12_takeClause 25 = .ok (.iload_n 1, 1) := by decide +kernel
theorem dX12_takeClause_26 : decode cX12_takeClause 26 = .ok (.bipush 115, 2) := by decide +kernel
theorem dX12_takeClause_28 : decode cX12_takeClause 28 = .ok (.if_icmp .ne 7, 3) := by decide +kernel
theorem dX12_takeClause_31 : decode cX12_takeClause 31 = .ok (.iconst 2, 1) := by decide +kernel
theorem dX12_takeClause_32 : decode cX12_takeClause 32 = .ok (.goto 14, 3) := by decide +kernel
theorem dX12_takeClause_35 : decode cX12_takeClause 35 = .ok (.iload_n 1, 1) := by decide +kernel
theorem dX12_takeClause_36 : decode cX12_takeClause 36 = .ok (.bipush 119, 2) := by decide +kernel
theorem dX12_takeClause_38 : decode cX12_takeClause 38 = .ok (.if_icmp .ne 7, 3) := by decide +kernel
theorem dX12_takeClause_41 : decode cX12_takeClause 41 = .ok (.iconst 3, 1) := by decide +kernel
theorem dX12_takeClause_42 : decode cX12_takeClause 42 = .ok (.goto 4, 3) := by decide +kernel
theorem dX12_takeClause_45 : decode cX12_takeClause 45 = .ok (.iconst (-1), 1) := by decide +kernel
theorem dX12_takeClause_46 : decode cX12_takeClause 46 = .ok (.istore_n 2, 1) := by decide +kernel
theorem dX12_takeClause_47 : decode cX12_takeClause 47 = .ok (.iload_n 2, 1) := by decide +kernel
theorem dX12_takeClause_48 : decode cX12_takeClause 48 = .ok (.ifCond .lt 14, 3) := by decide +kernel
theorem dX12_takeClause_51 : decode cX12_takeClause 51 = .ok (.iload_n 2, 1) := by decide +kernel
theorem dX12_takeClause_52 : decode cX12_takeClause 52 = .ok (.ifCond .le 20, 3) := by decide +kernel
theorem dX12_takeClause_55 : decode cX12_takeClause 55 = .ok (.aload_n 0, 1) := by decide +kernel
theorem dX12_takeClause_56 : decode cX12_takeClause 56 = .ok (.getfield 126, 3) := by decide +kernel
theorem dX12_takeClause_59 : decode cX12_takeClause 59 = .ok (.ifCond .ne 13, 3) := by decide +kernel
theorem dX12_takeClause_62 : decode cX12_takeClause 62 = .ok (.aload_n 0, 1) := by decide +kernel
theorem dX12_takeClause_63 : decode cX12_takeClause 63 = .ok (.iconst 1, 1) := by decide +kernel
theorem dX12_takeClause_64 : decode cX12_takeClause 64 = .ok (.aload_n 0, 1) := by decide +kernel
theorem dX12_takeClause_65 : decode cX12_takeClause 65 = .ok (.getfield 99, 3) := by decide +kernel
theorem dX12_takeClause_68 : decode cX12_takeClause 68 = .ok (.invokevirtual 109, 3) := by decide +kernel
theorem dX12_takeClause_71 : decode cX12_takeClause 71 = .ok (.ireturn, 1) := by decide +kernel
theorem dX12_takeClause_72 : decode cX12_takeClause 72 = .ok (.iload_n 2, 1) := by decide +kernel
theorem dX12_takeClause_73 : decode cX12_takeClause 73 = .ok (.ifCond .ne 18, 3) := by decide +kernel
theorem dX12_takeClause_76 : decode cX12_takeClause 76 = .ok (.aload_n 0, 1) := by decide +kernel
theorem dX12_takeClause_77 : decode cX12_takeClause 77 = .ok (.getfield 126, 3) := by decide +kernel
theorem dX12_takeClause_80 : decode cX12_takeClause 80 = .ok (.ifCond .le 7, 3) := by decide +kernel
theorem dX12_takeClause_83 : decode cX12_takeClause 83 = .ok (.iconst 1, 1) := by decide +kernel
theorem dX12_takeClause_84 : decode cX12_takeClause 84 = .ok (.goto 63, 3) := by decide +kernel
theorem dX12_takeClause_87 : decode cX12_takeClause 87 = .ok (.iconst 0, 1) := by decide +kernel
theorem dX12_takeClause_88 : decode cX12_takeClause 88 = .ok (.goto 59, 3) := by decide +kernel
theorem dX12_takeClause_91 : decode cX12_takeClause 91 = .ok (.iload_n 2, 1) := by decide +kernel
theorem dX12_takeClause_92 : decode cX12_takeClause 92 = .ok (.iconst 1, 1) := by decide +kernel
theorem dX12_takeClause_93 : decode cX12_takeClause 93 = .ok (.if_icmp .ne 18, 3) := by decide +kernel
theorem dX12_takeClause_96 : decode cX12_takeClause 96 = .ok (.aload_n 0, 1) := by decide +kernel
theorem dX12_takeClause_97 : decode cX12_takeClause 97 = .ok (.getfield 129, 3) := by decide +kernel
theorem dX12_takeClause_100 : decode cX12_takeClause 100 = .ok (.ifCond .lt 7, 3) := by decide +kernel
theorem dX12_takeClause_103 : decode cX12_takeClause 103 = .ok (.iconst 1, 1) := by decide +kernel
theorem dX12_takeClause_104 : decode cX12_takeClause 104 = .ok (.goto 43, 3) := by decide +kernel
theorem dX12_takeClause_107 : decode cX12_takeClause 107 = .ok (.iconst 0, 1) := by decide +kernel
theorem dX12_takeClause_108 : decode cX12_takeClause 108 = .ok (.goto 39, 3) := by decide +kernel
theorem dX12_takeClause_111 : decode cX12_takeClause 111 = .ok (.iload_n 2, 1) := by decide +kernel
theorem dX12_takeClause_112 : decode cX12_takeClause 112 = .ok (.iconst 2, 1) := by decide +kernel
theorem dX12_takeClause_113 : decode cX12_takeClause 113 = .ok (.if_icmp .ne 20, 3) := by decide +kernel
theorem dX12_takeClause_116 : decode cX12_takeClause 116 = .ok (.aload_n 0, 1) := by decide +kernel
theorem dX12_takeClause_117 : decode cX12_takeClause 117 = .ok (.getfield 132, 3) := by decide +kernel
theorem dX12_takeClause_120 : decode cX12_takeClause 120 = .ok (.bipush 6, 2) := by decide +kernel
theorem dX12_takeClause_122 : decode cX12_takeClause 122 = .ok (.if_icmp .ne 7, 3) := by decide +kernel
theorem dX12_takeClause_125 : decode cX12_takeClause 125 = .ok (.iconst 1, 1) := by decide +kernel
theorem dX12_takeClause_126 : decode cX12_takeClause 126 = .ok (.goto 21, 3) := by decide +kernel
theorem dX12_takeClause_129 : decode cX12_takeClause 129 = .ok (.iconst 0, 1) := by decide +kernel
theorem dX12_takeClause_130 : decode cX12_takeClause 130 = .ok (.goto 17, 3) := by decide +kernel
theorem dX12_takeClause_133 : decode cX12_takeClause 133 = .ok (.aload_n 0, 1) := by decide +kernel
theorem dX12_takeClause_134 : decode cX12_takeClause 134 = .ok (.getfield 135, 3) := by decide +kernel
theorem dX12_takeClause_137 : decode cX12_takeClause 137 = .ok (.bipush 7, 2) := by decide +kernel
theorem dX12_takeClause_139 : decode cX12_takeClause 139 = .ok (.if_icmp .ne 7, 3) := by decide +kernel
theorem dX12_takeClause_142 : decode cX12_takeClause 142 = .ok (.iconst 1, 1) := by decide +kernel
theorem dX12_takeClause_143 : decode cX12_takeClause 143 = .ok (.goto 4, 3) := by decide +kernel
theorem dX12_takeClause_146 : decode cX12_takeClause 146 = .ok (.iconst 0, 1) := by decide +kernel
theorem dX12_takeClause_147 : decode cX12_takeClause 147 = .ok (.istore_n 3, 1) := by decide +kernel
theorem dX12_takeClause_148 : decode cX12_takeClause 148 = .ok (.iload_n 3, 1) := by decide +kernel
theorem dX12_takeClause_149 : decode cX12_takeClause 149 = .ok (.ifCond .eq 13, 3) := by decide +kernel
theorem dX12_takeClause_152 : decode cX12_takeClause 152 = .ok (.aload_n 0, 1) := by decide +kernel
theorem dX12_takeClause_153 : decode cX12_takeClause 153 = .ok (.iconst 3, 1) := by decide +kernel
theorem dX12_takeClause_154 : decode cX12_takeClause 154 = .ok (.aload_n 0, 1) := by decide +kernel
theorem dX12_takeClause_155 : decode cX12_takeClause 155 = .ok (.getfield 99, 3) := by decide +kernel
theorem dX12_takeClause_158 : decode cX12_takeClause 158 = .ok (.invokevirtual 109, 3) := by decide +kernel
theorem dX12_takeClause_161 : decode cX12_takeClause 161 = .ok (.ireturn, 1) := by decide +kernel
theorem dX12_takeClause_162 : decode cX12_takeClause 162 = .ok (.aload_n 0, 1) := by decide +kernel
theorem dX12_takeClause_163 : decode cX12_takeClause 163 = .ok (.dup, 1) := by decide +kernel
theorem dX12_takeClause_164 : decode cX12_takeClause 164 = .ok (.getfield 99, 3) := by decide +kernel
theorem dX12_takeClause_167 : decode cX12_takeClause 167 = .ok (.iconst 1, 1) := by decide +kernel
theorem dX12_takeClause_168 : decode cX12_takeClause 168 = .ok (.iadd, 1) := by decide +kernel
theorem dX12_takeClause_169 : decode cX12_takeClause 169 = .ok (.putfield 99, 3) := by decide +kernel
theorem dX12_takeClause_172 : decode cX12_takeClause 172 = .ok (.iload_n 2, 1) := by decide +kernel
theorem dX12_takeClause_173 : decode cX12_takeClause 173 = .ok (.ifCond .ne 10, 3) := by decide +kernel
theorem dX12_takeClause_176 : decode cX12_takeClause 176 = .ok (.aload_n 0, 1) := by decide +kernel
theorem dX12_takeClause_177 : decode cX12_takeClause 177 = .ok (.invokevirtual 138, 3) := by decide +kernel
theorem dX12_takeClause_180 : decode cX12_takeClause 180 = .ok (.goto 31, 3) := by decide +kernel
theorem dX12_takeClause_183 : decode cX12_takeClause 183 = .ok (.iload_n 2, 1) := by decide +kernel
theorem dX12_takeClause_184 : decode cX12_takeClause 184 = .ok (.iconst 1, 1) := by decide +kernel
theorem dX12_takeClause_185 : decode cX12_takeClause 185 = .ok (.if_icmp .ne 10, 3) := by decide +kernel
theorem dX12_takeClause_188 : decode cX12_takeClause 188 = .ok (.aload_n 0, 1) := by decide +kernel
theorem dX12_takeClause_189 : decode cX12_takeClause 189 = .ok (.invokevirtual 141, 3) := by decide +kernel
theorem dX12_takeClause_192 : decode cX12_takeClause 192 = .ok (.goto 19, 3) := by decide +kernel
theorem dX12_takeClause_195 : decode cX12_takeClause 195 = .ok (.iload_n 2, 1) := by decide +kernel
theorem dX12_takeClause_196 : decode cX12_takeClause 196 = .ok (.iconst 2, 1) := by decide +kernel
theorem dX12_takeClause_197 : decode cX12_takeClause 197 = .ok (.if_icmp .ne 10, 3) := by decide +kernel
theorem dX12_takeClause_200 : decode cX12_takeClause 200 = .ok (.aload_n 0, 1) := by decide +kernel
theorem dX12_takeClause_201 : decode cX12_takeClause 201 = .ok (.invokevirtual 144, 3) := by decide +kernel
theorem dX12_takeClause_204 : decode cX12_takeClause 204 = .ok (.goto 7, 3) := by decide +kernel
theorem dX12_takeClause_207 : decode cX12_takeClause 207 = .ok (.aload_n 0, 1) := by decide +kernel
theorem dX12_takeClause_208 : decode cX12_takeClause 208 = .ok (.invokevirtual 147, 3) := by decide +kernel
theorem dX12_takeClause_211 : decode cX12_takeClause 211 = .ok (.istore 4, 2) := by decide +kernel
theorem dX12_takeClause_213 : decode cX12_takeClause 213 = .ok (.iload 4, 2) := by decide +kernel
theorem dX12_takeClause_215 : decode cX12_takeClause 215 = .ok (.ifCond .ne 22, 3) := by decide +kernel
theorem dX12_takeClause_218 : decode cX12_takeClause 218 = .ok (.aload_n 0, 1) := by decide +kernel
theorem dX12_takeClause_219 : decode cX12_takeClause 219 = .ok (.invokevirtual 102, 3) := by decide +kernel
theorem dX12_takeClause_222 : decode cX12_takeClause 222 = .ok (.bipush 59, 2) := by decide +kernel
theorem dX12_takeClause_224 : decode cX12_takeClause 224 = .ok (.if_icmp .eq 13, 3) := by decide +kernel
theorem dX12_takeClause_227 : decode cX12_takeClause 227 = .ok (.aload_n 0, 1) := by decide +kernel
theorem dX12_takeClause_228 : decode cX12_takeClause 228 = .ok (.iconst 1, 1) := by decide +kernel
theorem dX12_takeClause_229 : decode cX12_takeClause 229 = .ok (.aload_n 0, 1) := by decide +kernel
theorem dX12_takeClause_230 : decode cX12_takeClause 230 = .ok (.getfield 99, 3) := by decide +kernel
theorem dX12_takeClause_233 : decode cX12_takeClause 233 = .ok (.invokevirtual 109, 3) := by decide +kernel
theorem dX12_takeClause_236 : decode cX12_takeClause 236 = .ok (.ireturn, 1) := by decide +kernel
theorem dX12_takeClause_237 : decode cX12_takeClause 237 = .ok (.aload_n 0, 1) := by decide +kernel
theorem dX12_takeClause_238 : decode cX12_takeClause 238 = .ok (.dup, 1) := by decide +kernel
theorem dX12_takeClause_239 : decode cX12_takeClause 239 = .ok (.getfield 99, 3) := by decide +kernel
theorem dX12_takeClause_242 : decode cX12_takeClause 242 = .ok (.iconst 1, 1) := by decide +kernel
theorem dX12_takeClause_243 : decode cX12_takeClause 243 = .ok (.iadd, 1) := by decide +kernel
theorem dX12_takeClause_244 : decode cX12_takeClause 244 = .ok (.putfield 99, 3) := by decide +kernel
theorem dX12_takeClause_247 : decode cX12_takeClause 247 = .ok (.iload 4, 2) := by decide +kernel
theorem dX12_takeClause_249 : decode cX12_takeClause 249 = .ok (.ireturn, 1) := by decide +kernel
set_option maxRecDepth 20000 in
theorem ggX12_takeRead_X12_clearNow : GoodIn wsX12_takeRead wsX12_clearNow := goodIn_r _ [23, 7, 24, 25, 26, 27, 28, 29, 30, 31, 32, 33, 34, 35, 36, 37, 38, 39, 40, 41, 42, 43, 44, 45, 46, 47, 48, 49, 50, 51, 52, 53, 54, 55, 56, 57, 58] (by decide +kernel) (by decide +kernel)
set_option maxRecDepth 20000 in
theorem gX12_takeRead_X12_clearNow : GoodIn wsX12_takeRead (wsV RX12 72 RX12 yX12_clearNow wsX12_clearNow) := goodIn_app (goodIn_of _ (by decide +kernel)) ggX12_takeRead_X12_clearNow
theorem dX12_takeRead_0 : decode cX12_takeRead 0 = .ok (.aload_n 0, 1) := by decide +kernel
theorem dX12_takeRead_1 : decode cX12_takeRead 1 = .ok (.aload_n 0, 1) := by decide +kernel
theorem dX12_takeRead_2 : decode cX12_takeRead 2 = .ok (.getfield 126, 3) := by decide +kernel
theorem dX12_takeRead_5 : decode cX12_takeRead 5 = .ok (.putfield 75, 3) := by decide +kernel
theorem dX12_takeRead_8 : decode cX12_takeRead 8 = .ok (.aload_n 0, 1) := by decide +kernel
theorem dX12_takeRead_9 : decode cX12_takeRead 9 = .ok (.aload_n 0, 1) := by decide +kernel
theorem dX12_takeRead_10 : decode cX12_takeRead 10 = .ok (.getfield 132, 3) := by decide +kernel
theorem dX12_takeRead_13 : decode cX12_takeRead 13 = .ok (.putfield 86, 3) := by decide +kernel
theorem dX12_takeRead_16 : decode cX12_takeRead 16 = .ok (.aload_n 0, 1) := by decide +kernel
theorem dX12_takeRead_17 : decode cX12_takeRead 17 = .ok (.aload_n 0, 1) := by decide +kernel
theorem dX12_takeRead_18 : decode cX12_takeRead 18 = .ok (.getfield 135, 3) := by decide +kernel
theorem dX12_takeRead_21 : decode cX12_takeRead 21 = .ok (.putfield 89, 3) := by decide +kernel
theorem dX12_takeRead_24 : decode cX12_takeRead 24 = .ok (.aload_n 0, 1) := by decide +kernel
theorem dX12_takeRead_25 : decode cX12_takeRead 25 = .ok (.invokevirtual 72, 3) := by decide +kernel
theorem dX12_takeRead_28 : decode cX12_takeRead 28 = .ok (.iconst 0, 1) := by decide +kernel
theorem dX12_takeRead_29 : decode cX12_takeRead 29 = .ok (.istore_n 1, 1) := by decide +kernel
theorem dX12_takeRead_30 : decode cX12_takeRead 30 = .ok (.iload_n 1, 1) := by decide +kernel
theorem dX12_takeRead_31 : decode cX12_takeRead 31 = .ok (.aload_n 0, 1) := by decide +kernel
theorem dX12_takeRead_32 : decode cX12_takeRead 32 = .ok (.getfield 75, 3) := by decide +kernel
theorem dX12_takeRead_35 : decode cX12_takeRead 35 = .ok (.if_icmp .ge 21, 3) := by decide +kernel
theorem dX12_takeRead_38 : decode cX12_takeRead 38 = .ok (.aload_n 0, 1) := by decide +kernel
theorem dX12_takeRead_39 : decode cX12_takeRead 39 = .ok (.getfield 22, 3) := by decide +kernel
theorem dX12_takeRead_42 : decode cX12_takeRead 42 = .ok (.iload_n 1, 1) := by decide +kernel
theorem dX12_takeRead_43 : decode cX12_takeRead 43 = .ok (.aload_n 0, 1) := by decide +kernel
theorem dX12_takeRead_44 : decode cX12_takeRead 44 = .ok (.getfield 32, 3) := by decide +kernel
theorem dX12_takeRead_47 : decode cX12_takeRead 47 = .ok (.iload_n 1, 1) := by decide +kernel
theorem dX12_takeRead_48 : decode cX12_takeRead 48 = .ok (.iaload, 1) := by decide +kernel
theorem dX12_takeRead_49 : decode cX12_takeRead 49 = .ok (.iastore, 1) := by decide +kernel
theorem dX12_takeRead_50 : decode cX12_takeRead 50 = .ok (.iinc 1 1, 3) := by decide +kernel
theorem dX12_takeRead_53 : decode cX12_takeRead 53 = .ok (.goto (-23), 3) := by decide +kernel
theorem dX12_takeRead_56 : decode cX12_takeRead 56 = .ok (.aload_n 0, 1) := by decide +kernel
theorem dX12_takeRead_57 : decode cX12_takeRead 57 = .ok (.getfield 22, 3) := by decide +kernel
theorem dX12_takeRead_60 : decode cX12_takeRead 60 = .ok (.bipush 8, 2) := by decide +kernel
theorem dX12_takeRead_62 : decode cX12_takeRead 62 = .ok (.aload_n 0, 1) := by decide +kernel
theorem dX12_takeRead_63 : decode cX12_takeRead 63 = .ok (.getfield 129, 3) := by decide +kernel
theorem dX12_takeRead_66 : decode cX12_takeRead 66 = .ok (.ifCond .ge 8, 3) := by decide +kernel
theorem dX12_takeRead_69 : decode cX12_takeRead 69 = .ok (.bipush 9, 2) := by decide +kernel
theorem dX12_takeRead_71 : decode cX12_takeRead 71 = .ok (.goto 7, 3) := by decide +kernel
theorem dX12_takeRead_74 : decode cX12_takeRead 74 = .ok (.aload_n 0, 1) := by decide +kernel
theorem dX12_takeRead_75 : decode cX12_takeRead 75 = .ok (.getfield 129, 3) := by decide +kernel
theorem dX12_takeRead_78 : decode cX12_takeRead 78 = .ok (.iastore, 1) := by decide +kernel
theorem dX12_takeRead_79 : decode cX12_takeRead 79 = .ok (.iconst 0, 1) := by decide +kernel
theorem dX12_takeRead_80 : decode cX12_takeRead 80 = .ok (.istore_n 1, 1) := by decide +kernel
theorem dX12_takeRead_81 : decode cX12_takeRead 81 = .ok (.iload_n 1, 1) := by decide +kernel
theorem dX12_takeRead_82 : decode cX12_takeRead 82 = .ok (.aload_n 0, 1) := by decide +kernel
theorem dX12_takeRead_83 : decode cX12_takeRead 83 = .ok (.getfield 86, 3) := by decide +kernel
theorem dX12_takeRead_86 : decode cX12_takeRead 86 = .ok (.if_icmp .ge 33, 3) := by decide +kernel
theorem dX12_takeRead_89 : decode cX12_takeRead 89 = .ok (.aload_n 0, 1) := by decide +kernel
theorem dX12_takeRead_90 : decode cX12_takeRead 90 = .ok (.getfield 7, 3) := by decide +kernel
theorem dX12_takeRead_93 : decode cX12_takeRead 93 = .ok (.iload_n 1, 1) := by decide +kernel
theorem dX12_takeRead_94 : decode cX12_takeRead 94 = .ok (.aload_n 0, 1) := by decide +kernel
theorem dX12_takeRead_95 : decode cX12_takeRead 95 = .ok (.getfield 35, 3) := by decide +kernel
theorem dX12_takeRead_98 : decode cX12_takeRead 98 = .ok (.iload_n 1, 1) := by decide +kernel
theorem dX12_takeRead_99 : decode cX12_takeRead 99 = .ok (.iaload, 1) := by decide +kernel
theorem dX12_takeRead_100 : decode cX12_takeRead 100 = .ok (.iastore, 1) := by decide +kernel
theorem dX12_takeRead_101 : decode cX12_takeRead 101 = .ok (.aload_n 0, 1) := by decide +kernel
theorem dX12_takeRead_102 : decode cX12_takeRead 102 = .ok (.getfield 13, 3) := by decide +kernel
theorem dX12_takeRead_105 : decode cX12_takeRead 105 = .ok (.iload_n 1, 1) := by decide +kernel
theorem dX12_takeRead_106 : decode cX12_takeRead 106 = .ok (.aload_n 0, 1) := by decide +kernel
theorem dX12_takeRead_107 : decode cX12_takeRead 107 = .ok (.getfield 38, 3) := by decide +kernel
theorem dX12_takeRead_110 : decode cX12_takeRead 110 = .ok (.iload_n 1, 1) := by decide +kernel
theorem dX12_takeRead_111 : decode cX12_takeRead 111 = .ok (.iaload, 1) := by decide +kernel
theorem dX12_takeRead_112 : decode cX12_takeRead 112 = .ok (.iastore, 1) := by decide +kernel
theorem dX12_takeRead_113 : decode cX12_takeRead 113 = .ok (.iinc 1 1, 3) := by decide +kernel
theorem dX12_takeRead_116 : decode cX12_takeRead 116 = .ok (.goto (-35), 3) := by decide +kernel
theorem dX12_takeRead_119 : decode cX12_takeRead 119 = .ok (.iconst 0, 1) := by decide +kernel
theorem dX12_takeRead_120 : decode cX12_takeRead 120 = .ok (.istore_n 1, 1) := by decide +kernel
theorem dX12_takeRead_121 : decode cX12_takeRead 121 = .ok (.iload_n 1, 1) := by decide +kernel
theorem dX12_takeRead_122 : decode cX12_takeRead 122 = .ok (.aload_n 0, 1) := by decide +kernel
theorem dX12_takeRead_123 : decode cX12_takeRead 123 = .ok (.getfield 89, 3) := by decide +kernel
theorem dX12_takeRead_126 : decode cX12_takeRead 126 = .ok (.if_icmp .ge 48, 3) := by decide +kernel
theorem dX12_takeRead_129 : decode cX12_takeRead 129 = .ok (.aload_n 0, 1) := by decide +kernel
theorem dX12_takeRead_130 : decode cX12_takeRead 130 = .ok (.getfield 22, 3) := by decide +kernel
theorem dX12_takeRead_133 : decode cX12_takeRead 133 = .ok (.bipush 9, 2) := by decide +kernel
theorem dX12_takeRead_135 : decode cX12_takeRead 135 = .ok (.iload_n 1, 1) := by decide +kernel
theorem dX12_takeRead_136 : decode cX12_takeRead 136 = .ok (.iadd, 1) := by decide +kernel
theorem dX12_takeRead_137 : decode cX12_takeRead 137 = .ok (.aload_n 0, 1) := by decide +kernel
theorem dX12_takeRead_138 : decode cX12_takeRead 138 = .ok (.getfield 41, 3) := by decide +kernel
theorem dX12_takeRead_141 : decode cX12_takeRead 141 = .ok (.iload_n 1, 1) := by decide +kernel
theorem dX12_takeRead_142 : decode cX12_takeRead 142 = .ok (.iaload, 1) := by decide +kernel
theorem dX12_takeRead_143 : decode cX12_takeRead 143 = .ok (.iastore, 1) := by decide +kernel
theorem dX12_takeRead_144 : decode cX12_takeRead 144 = .ok (.aload_n 0, 1) := by decide +kernel
theorem dX12_takeRead_145 : decode cX12_takeRead 145 = .ok (.getfield 16, 3) := by decide +kernel
theorem dX12_takeRead_148 : decode cX12_takeRead 148 = .ok (.iload_n 1, 1) := by decide +kernel
theorem dX12_takeRead_149 : decode cX12_takeRead 149 = .ok (.aload_n 0, 1) := by decide +kernel
theorem dX12_takeRead_150 : decode cX12_takeRead 150 = .ok (.getfield 44, 3) := by decide +kernel
theorem dX12_takeRead_153 : decode cX12_takeRead 153 = .ok (.iload_n 1, 1) := by decide +kernel
theorem dX12_takeRead_154 : decode cX12_takeRead 154 = .ok (.iaload, 1) := by decide +kernel
theorem dX12_takeRead_155 : decode cX12_takeRead 155 = .ok (.iastore, 1) := by decide +kernel
theorem dX12_takeRead_156 : decode cX12_takeRead 156 = .ok (.aload_n 0, 1) := by decide +kernel
theorem dX12_takeRead_157 : decode cX12_takeRead 157 = .ok (.getfield 19, 3) := by decide +kernel
theorem dX12_takeRead_160 : decode cX12_takeRead 160 = .ok (.iload_n 1, 1) := by decide +kernel
theorem dX12_takeRead_161 : decode cX12_takeRead 161 = .ok (.aload_n 0, 1) := by decide +kernel
theorem dX12_takeRead_162 : decode cX12_takeRead 162 = .ok (.getfield 47, 3) := by decide +kernel
theorem dX12_takeRead_165 : decode cX12_takeRead 165 = .ok (.iload_n 1, 1) := by decide +kernel
theorem dX12_takeRead_166 : decode cX12_takeRead 166 = .ok (.iaload, 1) := by decide +kernel
theorem dX12_takeRead_167 : decode cX12_takeRead 167 = .ok (.iastore, 1) := by decide +kernel
theorem dX12_takeRead_168 : decode cX12_takeRead 168 = .ok (.iinc 1 1, 3) := by decide +kernel
theorem dX12_takeRead_171 : decode cX12_takeRead 171 = .ok (.goto (-50), 3) := by decide +kernel
theorem dX12_takeRead_174 : decode cX12_takeRead 174 = .ok (.return_, 1) := by decide +kernel
set_option maxRecDepth 20000 in
theorem ggX12_house_X12_here : GoodIn wsX12_house wsX12_here := goodIn_r _ [16, 2, 7, 17, 83, 84, 85, 86, 87, 88, 89, 90, 91, 92, 93, 94, 95, 96, 97, 98, 99, 100, 101, 102, 103, 104, 105, 106, 107, 108, 109, 110, 111, 112, 113, 114, 115, 116, 117] (by decide +kernel) (by decide +kernel)
set_option maxRecDepth 20000 in
theorem gX12_house_X12_here : GoodIn wsX12_house (wsV RX12 102 RX12 yX12_here wsX12_here) := goodIn_app (goodIn_of _ (by decide +kernel)) ggX12_house_X12_here
set_option maxRecDepth 20000 in
theorem ggX12_house_X12_takeClause : GoodIn wsX12_house wsX12_takeClause := goodIn_r _ [21, 3, 2, 4, 5, 6, 12, 13, 14, 15, 16, 7, 17, 22, 23, 24, 25, 1, 26, 27, 28, 29, 30, 31, 32, 33, 34, 35, 36, 37, 38, 39, 40, 41, 42, 43, 44, 45, 46, 47, 48, 49, 50, 51, 52, 53, 54, 55, 56, 57, 58, 59, 60, 61, 62, 83, 84, 85, 86, 87, 88, 89, 90, 91, 92, 93, 94, 95, 96, 97, 98, 99, 100, 101, 102, 103, 104, 105, 106, 107, 108, 109, 110, 111, 112, 113, 114, 115, 116, 117] (by decide +kernel) (by decide +kernel)
set_option maxRecDepth 20000 in
theorem gX12_house_X12_takeClause : GoodIn wsX12_house (wsV RX12 150 RX12 yX12_takeClause wsX12_takeClause) := goodIn_app (goodIn_of _ (by decide +kernel)) ggX12_house_X12_takeClause
set_option maxRecDepth 20000 in
theorem ggX12_house_X12_takeRead : GoodIn wsX12_house wsX12_takeRead := goodIn_r _ [66, 3, 67, 5, 68, 6, 69, 70, 30, 4, 71, 54, 72, 55, 60, 73, 61, 74, 62, 75, 76, 77, 15, 78, 83, 84, 85, 86, 87, 88, 89, 90, 91, 92, 93, 94, 95, 96, 97, 98, 99, 100, 101, 102, 103, 104, 105, 106, 107, 108, 109, 110, 111, 112, 113, 114, 115, 116, 117] (by decide +kernel) (by decide +kernel)
set_option maxRecDepth 20000 in
theorem gX12_house_X12_takeRead : GoodIn wsX12_house (wsV RX12 153 RX12 yX12_takeRead wsX12_takeRead) := goodIn_app (goodIn_of _ (by decide +kernel)) ggX12_house_X12_takeRead
set_option maxRecDepth 20000 in
theorem ggX12_house_X12_places : GoodIn wsX12_house wsX12_places := goodIn_r _ [82, 67, 83, 84, 85, 86, 87, 88, 89, 90, 91, 92, 93, 94, 95, 96, 97, 98, 99, 100, 101, 102, 103, 104, 105, 106, 107, 108, 109, 110, 111, 112, 113, 114, 115, 116, 117] (by decide +kernel) (by decide +kernel)
set_option maxRecDepth 20000 in
theorem gX12_house_X12_places : GoodIn wsX12_house (wsV RX12 78 RX12 yX12_places wsX12_places) := goodIn_app (goodIn_of _ (by decide +kernel)) ggX12_house_X12_places
theorem dX12_house_0 : decode cX12_house 0 = .ok (.aload_n 0, 1) := by decide +kernel
theorem dX12_house_1 : decode cX12_house 1 = .ok (.iconst (-1), 1) := by decide +kernel
theorem dX12_house_2 : decode cX12_house 2 = .ok (.putfield 28, 3) := by decide +kernel
theorem dX12_house_5 : decode cX12_house 5 = .ok (.aload_n 0, 1) := by decide +kernel
theorem dX12_house_6 : decode cX12_house 6 = .ok (.iconst 0, 1) := by decide +kernel
theorem dX12_house_7 : decode cX12_house 7 = .ok (.putfield 99, 3) := by decide +kernel
theorem dX12_house_10 : decode cX12_house 10 = .ok (.aload_n 0, 1) := by decide +kernel
theorem dX12_house_11 : decode cX12_house 11 = .ok (.iconst 0, 1) := by decide +kernel
theorem dX12_house_12 : decode cX12_house 12 = .ok (.putfield 126, 3) := by decide +kernel
theorem dX12_house_15 : decode cX12_house 15 = .ok (.aload_n 0, 1) := by decide +kernel
theorem dX12_house_16 : decode cX12_house 16 = .ok (.iconst (-1), 1) := by decide +kernel
theorem dX12_house_17 : decode cX12_house 17 = .ok (.putfield 129, 3) := by decide +kernel
theorem dX12_house_20 : decode cX12_house 20 = .ok (.aload_n 0, 1) := by decide +kernel
theorem dX12_house_21 : decode cX12_house 21 = .ok (.iconst 0, 1) := by decide +kernel
theorem dX12_house_22 : decode cX12_house 22 = .ok (.putfield 132, 3) := by decide +kernel
theorem dX12_house_25 : decode cX12_house 25 = .ok (.aload_n 0, 1) := by decide +kernel
theorem dX12_house_26 : decode cX12_house 26 = .ok (.iconst 0, 1) := by decide +kernel
theorem dX12_house_27 : decode cX12_house 27 = .ok (.putfield 135, 3) := by decide +kernel
theorem dX12_house_30 : decode cX12_house 30 = .ok (.iconst 0, 1) := by decide +kernel
theorem dX12_house_31 : decode cX12_house 31 = .ok (.istore_n 1, 1) := by decide +kernel
theorem dX12_house_32 : decode cX12_house 32 = .ok (.iload_n 1, 1) := by decide +kernel
theorem dX12_house_33 : decode cX12_house 33 = .ok (.ifCond .ne 18, 3) := by decide +kernel
theorem dX12_house_36 : decode cX12_house 36 = .ok (.aload_n 0, 1) := by decide +kernel
theorem dX12_house_37 : decode cX12_house 37 = .ok (.invokevirtual 102, 3) := by decide +kernel
theorem dX12_house_40 : decode cX12_house 40 = .ok (.ifCond .lt 11, 3) := by decide +kernel
theorem dX12_house_43 : decode cX12_house 43 = .ok (.aload_n 0, 1) := by decide +kernel
theorem dX12_house_44 : decode cX12_house 44 = .ok (.invokevirtual 150, 3) := by decide +kernel
theorem dX12_house_47 : decode cX12_house 47 = .ok (.istore_n 1, 1) := by decide +kernel
theorem dX12_house_48 : decode cX12_house 48 = .ok (.goto (-16), 3) := by decide +kernel
theorem dX12_house_51 : decode cX12_house 51 = .ok (.aload_n 0, 1) := by decide +kernel
theorem dX12_house_52 : decode cX12_house 52 = .ok (.iconst 0, 1) := by decide +kernel
theorem dX12_house_53 : decode cX12_house 53 = .ok (.putfield 95, 3) := by decide +kernel
theorem dX12_house_56 : decode cX12_house 56 = .ok (.iload_n 1, 1) := by decide +kernel
theorem dX12_house_57 : decode cX12_house 57 = .ok (.ifCond .le 8, 3) := by decide +kernel
theorem dX12_house_60 : decode cX12_house 60 = .ok (.bipush (-10), 2) := by decide +kernel
theorem dX12_house_62 : decode cX12_house 62 = .ok (.iload_n 1, 1) := by decide +kernel
theorem dX12_house_63 : decode cX12_house 63 = .ok (.isub, 1) := by decide +kernel
theorem dX12_house_64 : decode cX12_house 64 = .ok (.ireturn, 1) := by decide +kernel
theorem dX12_house_65 : decode cX12_house 65 = .ok (.aload_n 0, 1) := by decide +kernel
theorem dX12_house_66 : decode cX12_house 66 = .ok (.invokevirtual 153, 3) := by decide +kernel
theorem dX12_house_69 : decode cX12_house 69 = .ok (.aload_n 0, 1) := by decide +kernel
theorem dX12_house_70 : decode cX12_house 70 = .ok (.iconst 0, 1) := by decide +kernel
theorem dX12_house_71 : decode cX12_house 71 = .ok (.putfield 156, 3) := by decide +kernel
theorem dX12_house_74 : decode cX12_house 74 = .ok (.aload_n 0, 1) := by decide +kernel
theorem dX12_house_75 : decode cX12_house 75 = .ok (.iconst 0, 1) := by decide +kernel
theorem dX12_house_76 : decode cX12_house 76 = .ok (.putfield 159, 3) := by decide +kernel
theorem dX12_house_79 : decode cX12_house 79 = .ok (.aload_n 0, 1) := by decide +kernel
theorem dX12_house_80 : decode cX12_house 80 = .ok (.iconst 0, 1) := by decide +kernel
theorem dX12_house_81 : decode cX12_house 81 = .ok (.putfield 162, 3) := by decide +kernel
theorem dX12_house_84 : decode cX12_house 84 = .ok (.aload_n 0, 1) := by decide +kernel
theorem dX12_house_85 : decode cX12_house 85 = .ok (.getfield 68, 3) := by decide +kernel
theorem dX12_house_88 : decode cX12_house 88 = .ok (.iconst 0, 1) := by decide +kernel
theorem dX12_house_89 : decode cX12_house 89 = .ok (.iconst 0, 1) := by decide +kernel
theorem dX12_house_90 : decode cX12_house 90 = .ok (.bastore, 1) := by decide +kernel
theorem dX12_house_91 : decode cX12_house 91 = .ok (.aload_n 0, 1) := by decide +kernel
theorem dX12_house_92 : decode cX12_house 92 = .ok (.getfield 68, 3) := by decide +kernel
theorem dX12_house_95 : decode cX12_house 95 = .ok (.iconst 1, 1) := by decide +kernel
theorem dX12_house_96 : decode cX12_house 96 = .ok (.iconst 0, 1) := by decide +kernel
theorem dX12_house_97 : decode cX12_house 97 = .ok (.bastore, 1) := by decide +kernel
theorem dX12_house_98 : decode cX12_house 98 = .ok (.aload_n 0, 1) := by decide +kernel
theorem dX12_house_99 : decode cX12_house 99 = .ok (.invokevirtual 78, 3) := by decide +kernel
theorem dX12_house_102 : decode cX12_house 102 = .ok (.ireturn, 1) := by decide +kernel
theorem dX12_fault_0 : decode cX12_fault 0 = .ok (.aload_n 0, 1) := by decide +kernel
theorem dX12_fault_1 : decode cX12_fault 1 = .ok (.getfield 28, 3) := by decide +kernel
theorem dX12_fault_4 : decode cX12_fault 4 = .ok (.ireturn, 1) := by decide +kernel
set_option maxRecDepth 20000 in
theorem ggX12_told_X12_places : GoodIn wsX12_told wsX12_places := goodIn_r _ [13, 14, 15, 16, 17, 18, 19, 20, 21, 22, 23, 24, 25, 26, 27, 28, 29, 30, 31, 32, 33, 34, 35, 36, 37, 38, 39, 40, 41, 42, 43, 44, 45, 46, 47, 48, 49] (by decide +kernel) (by decide +kernel)
set_option maxRecDepth 20000 in
theorem gX12_told_X12_places : GoodIn wsX12_told (wsV RX12 78 RX12 yX12_places wsX12_places) := goodIn_app (goodIn_of _ (by decide +kernel)) ggX12_told_X12_places
theorem dX12_told_0 : decode cX12_told 0 = .ok (.iload_n 1, 1) := by decide +kernel
theorem dX12_told_1 : decode cX12_told 1 = .ok (.tableswitch 150 0 12 #[67, 72, 77, 82, 87, 95, 103, 111, 119, 127, 135, 140, 145], 67) := by decide +kernel
theorem dX12_told_68 : decode cX12_told 68 = .ok (.aload_n 0, 1) := by decide +kernel
theorem dX12_told_69 : decode cX12_told 69 = .ok (.invokevirtual 78, 3) := by decide +kernel
theorem dX12_told_72 : decode cX12_told 72 = .ok (.ireturn, 1) := by decide +kernel
theorem dX12_told_73 : decode cX12_told 73 = .ok (.aload_n 0, 1) := by decide +kernel
theorem dX12_told_74 : decode cX12_told 74 = .ok (.getfield 86, 3) := by decide +kernel
theorem dX12_told_77 : decode cX12_told 77 = .ok (.ireturn, 1) := by decide +kernel
theorem dX12_told_78 : decode cX12_told 78 = .ok (.aload_n 0, 1) := by decide +kernel
theorem dX12_told_79 : decode cX12_told 79 = .ok (.getfield 89, 3) := by decide +kernel
theorem dX12_told_82 : decode cX12_told 82 = .ok (.ireturn, 1) := by decide +kernel
theorem dX12_told_83 : decode cX12_told 83 = .ok (.aload_n 0, 1) := by decide +kernel
theorem dX12_told_84 : decode cX12_told 84 = .ok (.getfield 95, 3) := by decide +kernel
theorem dX12_told_87 : decode cX12_told 87 = .ok (.ireturn, 1) := by decide +kernel
theorem dX12_told_88 : decode cX12_told 88 = .ok (.aload_n 0, 1) := by decide +kernel
theorem dX12_told_89 : decode cX12_told 89 = .ok (.getfield 22, 3) := by decide +kernel
theorem dX12_told_92 : decode cX12_told 92 = .ok (.bipush 8, 2) := by decide +kernel
theorem dX12_told_94 : decode cX12_told 94 = .ok (.iaload, 1) := by decide +kernel
theorem dX12_told_95 : decode cX12_told 95 = .ok (.ireturn, 1) := by decide +kernel
theorem dX12_told_96 : decode cX12_told 96 = .ok (.aload_n 0, 1) := by decide +kernel
theorem dX12_told_97 : decode cX12_told 97 = .ok (.getfield 22, 3) := by decide +kernel
theorem dX12_told_100 : decode cX12_told 100 = .ok (.bipush 16, 2) := by decide +kernel
theorem dX12_told_102 : decode cX12_told 102 = .ok (.iaload, 1) := by decide +kernel
theorem dX12_told_103 : decode cX12_told 103 = .ok (.ireturn, 1) := by decide +kernel
theorem dX12_told_104 : decode cX12_told 104 = .ok (.aload_n 0, 1) := by decide +kernel
theorem dX12_told_105 : decode cX12_told 105 = .ok (.getfield 22, 3) := by decide +kernel
theorem dX12_told_108 : decode cX12_told 108 = .ok (.bipush 17, 2) := by decide +kernel
theorem dX12_told_110 : decode cX12_told 110 = .ok (.iaload, 1) := by decide +kernel
theorem dX12_told_111 : decode cX12_told 111 = .ok (.ireturn, 1) := by decide +kernel
theorem dX12_told_112 : decode cX12_told 112 = .ok (.aload_n 0, 1) := by decide +kernel
theorem dX12_told_113 : decode cX12_told 113 = .ok (.getfield 22, 3) := by decide +kernel
theorem dX12_told_116 : decode cX12_told 116 = .ok (.bipush 18, 2) := by decide +kernel
theorem dX12_told_118 : decode cX12_told 118 = .ok (.iaload, 1) := by decide +kernel
theorem dX12_told_119 : decode cX12_told 119 = .ok (.ireturn, 1) := by decide +kernel
theorem dX12_told_120 : decode cX12_told 120 = .ok (.aload_n 0, 1) := by decide +kernel
theorem dX12_told_121 : decode cX12_told 121 = .ok (.getfield 22, 3) := by decide +kernel
theorem dX12_told_124 : decode cX12_told 124 = .ok (.bipush 19, 2) := by decide +kernel
theorem dX12_told_126 : decode cX12_told 126 = .ok (.iaload, 1) := by decide +kernel
theorem dX12_told_127 : decode cX12_told 127 = .ok (.ireturn, 1) := by decide +kernel
theorem dX12_told_128 : decode cX12_told 128 = .ok (.aload_n 0, 1) := by decide +kernel
theorem dX12_told_129 : decode cX12_told 129 = .ok (.getfield 22, 3) := by decide +kernel
theorem dX12_told_132 : decode cX12_told 132 = .ok (.bipush 20, 2) := by decide +kernel
theorem dX12_told_134 : decode cX12_told 134 = .ok (.iaload, 1) := by decide +kernel
theorem dX12_told_135 : decode cX12_told 135 = .ok (.ireturn, 1) := by decide +kernel
theorem dX12_told_136 : decode cX12_told 136 = .ok (.aload_n 0, 1) := by decide +kernel
theorem dX12_told_137 : decode cX12_told 137 = .ok (.getfield 156, 3) := by decide +kernel
theorem dX12_told_140 : decode cX12_told 140 = .ok (.ireturn, 1) := by decide +kernel
theorem dX12_told_141 : decode cX12_told 141 = .ok (.aload_n 0, 1) := by decide +kernel
theorem dX12_told_142 : decode cX12_told 142 = .ok (.getfield 159, 3) := by decide +kernel
theorem dX12_told_145 : decode cX12_told 145 = .ok (.ireturn, 1) := by decide +kernel
theorem dX12_told_146 : decode cX12_told 146 = .ok (.aload_n 0, 1) := by decide +kernel
theorem dX12_told_147 : decode cX12_told 147 = .ok (.getfield 162, 3) := by decide +kernel
theorem dX12_told_150 : decode cX12_told 150 = .ok (.ireturn, 1) := by decide +kernel
theorem dX12_told_151 : decode cX12_told 151 = .ok (.ldc 94, 2) := by decide +kernel
theorem dX12_told_153 : decode cX12_told 153 = .ok (.ireturn, 1) := by decide +kernel
set_option maxRecDepth 20000 in
theorem ggX12_thick_X12_in : GoodIn wsX12_thick wsX12_in := goodIn_r _ [7] (by decide +kernel) (by decide +kernel)
set_option maxRecDepth 20000 in
theorem gX12_thick_X12_in : GoodIn wsX12_thick (va_wsS RX12 82 yX12_in wsX12_in) := goodIn_app (goodIn_of _ (by decide +kernel)) ggX12_thick_X12_in
theorem dX12_thick_0 : decode cX12_thick 0 = .ok (.iload_n 1, 1) := by decide +kernel
theorem dX12_thick_1 : decode cX12_thick 1 = .ok (.i2l, 1) := by decide +kernel
theorem dX12_thick_2 : decode cX12_thick 2 = .ok (.lconst 0, 1) := by decide +kernel
theorem dX12_thick_3 : decode cX12_thick 3 = .ok (.aload_n 0, 1) := by decide +kernel
theorem dX12_thick_4 : decode cX12_thick 4 = .ok (.getfield 75, 3) := by decide +kernel
theorem dX12_thick_7 : decode cX12_thick 7 = .ok (.iconst 1, 1) := by decide +kernel
theorem dX12_thick_8 : decode cX12_thick 8 = .ok (.isub, 1) := by decide +kernel
theorem dX12_thick_9 : decode cX12_thick 9 = .ok (.i2l, 1) := by decide +kernel
theorem dX12_thick_10 : decode cX12_thick 10 = .ok (.invokestatic 82, 3) := by decide +kernel
theorem dX12_thick_13 : decode cX12_thick 13 = .ok (.ifCond .eq 12, 3) := by decide +kernel
theorem dX12_thick_16 : decode cX12_thick 16 = .ok (.aload_n 0, 1) := by decide +kernel
theorem dX12_thick_17 : decode cX12_thick 17 = .ok (.getfield 22, 3) := by decide +kernel
theorem dX12_thick_20 : decode cX12_thick 20 = .ok (.iload_n 1, 1) := by decide +kernel
theorem dX12_thick_21 : decode cX12_thick 21 = .ok (.iaload, 1) := by decide +kernel
theorem dX12_thick_22 : decode cX12_thick 22 = .ok (.goto 5, 3) := by decide +kernel
theorem dX12_thick_25 : decode cX12_thick 25 = .ok (.ldc 165, 2) := by decide +kernel
theorem dX12_thick_27 : decode cX12_thick 27 = .ok (.ireturn, 1) := by decide +kernel
set_option maxRecDepth 20000 in
theorem ggX12_sound_X12_isSound : GoodIn wsX12_sound wsX12_isSound := goodIn_r _ [9, 10, 11, 12, 8, 13, 14, 15, 16, 17, 18, 19, 20, 21, 22, 23, 24, 25, 26, 27, 28, 29, 30, 31, 32, 33, 34, 35, 36, 37, 38, 39, 40, 41, 42, 43, 44, 45, 46, 47, 48] (by decide +kernel) (by decide +kernel)
set_option maxRecDepth 20000 in
theorem gX12_sound_X12_isSound : GoodIn wsX12_sound (wsV RX12 166 RX12 yX12_isSound wsX12_isSound) := goodIn_app (goodIn_of _ (by decide +kernel)) ggX12_sound_X12_isSound
theorem dX12_sound_0 : decode cX12_sound 0 = .ok (.aload_n 0, 1) := by decide +kernel
theorem dX12_sound_1 : decode cX12_sound 1 = .ok (.iload_n 1, 1) := by decide +kernel
theorem dX12_sound_2 : decode cX12_sound 2 = .ok (.invokevirtual 166, 3) := by decide +kernel
theorem dX12_sound_5 : decode cX12_sound 5 = .ok (.ifCond .ne 6, 3) := by decide +kernel
theorem dX12_sound_8 : decode cX12_sound 8 = .ok (.ldc 165, 2) := by decide +kernel
theorem dX12_sound_10 : decode cX12_sound 10 = .ok (.ireturn, 1) := by decide +kernel
theorem dX12_sound_11 : decode cX12_sound 11 = .ok (.iload_n 2, 1) := by decide +kernel
theorem dX12_sound_12 : decode cX12_sound 12 = .ok (.ifCond .ne 12, 3) := by decide +kernel
theorem dX12_sound_15 : decode cX12_sound 15 = .ok (.aload_n 0, 1) := by decide +kernel
theorem dX12_sound_16 : decode cX12_sound 16 = .ok (.getfield 7, 3) := by decide +kernel
theorem dX12_sound_19 : decode cX12_sound 19 = .ok (.iload_n 1, 1) := by decide +kernel
theorem dX12_sound_20 : decode cX12_sound 20 = .ok (.iaload, 1) := by decide +kernel
theorem dX12_sound_21 : decode cX12_sound 21 = .ok (.goto 19, 3) := by decide +kernel
theorem dX12_sound_24 : decode cX12_sound 24 = .ok (.iload_n 2, 1) := by decide +kernel
theorem dX12_sound_25 : decode cX12_sound 25 = .ok (.iconst 1, 1) := by decide +kernel
theorem dX12_sound_26 : decode cX12_sound 26 = .ok (.if_icmp .ne 12, 3) := by decide +kernel
theorem dX12_sound_29 : decode cX12_sound 29 = .ok (.aload_n 0, 1) := by decide +kernel
theorem dX12_sound_30 : decode cX12_sound 30 = .ok (.getfield 13, 3) := by decide +kernel
theorem dX12_sound_33 : decode cX12_sound 33 = .ok (.iload_n 1, 1) := by decide +kernel
theorem dX12_sound_34 : decode cX12_sound 34 = .ok (.iaload, 1) := by decide +kernel
theorem dX12_sound_35 : decode cX12_sound 35 = .ok (.goto 5, 3) := by decide +kernel
theorem dX12_sound_38 : decode cX12_sound 38 = .ok (.ldc 94, 2) := by decide +kernel
theorem dX12_sound_40 : decode cX12_sound 40 = .ok (.ireturn, 1) := by decide +kernel
set_option maxRecDepth 20000 in
theorem ggX12_witness_X12_isWitness : GoodIn wsX12_witness wsX12_isWitness := goodIn_r _ [10, 11, 12, 13, 9, 14, 15, 16, 17, 18, 19, 20, 21, 22, 23, 24, 25, 26, 27, 28, 29, 30, 31, 32, 33, 34, 35, 36, 37, 38, 39, 40, 41, 42, 43, 44, 45, 46, 47, 48, 49] (by decide +kernel) (by decide +kernel)
set_option maxRecDepth 20000 in
theorem gX12_witness_X12_isWitness : GoodIn wsX12_witness (wsV RX12 170 RX12 yX12_isWitness wsX12_isWitness) := goodIn_app (goodIn_of _ (by decide +kernel)) ggX12_witness_X12_isWitness
theorem dX12_witness_0 : decode cX12_witness 0 = .ok (.aload_n 0, 1) := by decide +kernel
theorem dX12_witness_1 : decode cX12_witness 1 = .ok (.iload_n 1, 1) := by decide +kernel
theorem dX12_witness_2 : decode cX12_witness 2 = .ok (.invokevirtual 170, 3) := by decide +kernel
theorem dX12_witness_5 : decode cX12_witness 5 = .ok (.ifCond .ne 6, 3) := by decide +kernel
theorem dX12_witness_8 : decode cX12_witness 8 = .ok (.ldc 165, 2) := by decide +kernel
theorem dX12_witness_10 : decode cX12_witness 10 = .ok (.ireturn, 1) := by decide +kernel
theorem dX12_witness_11 : decode cX12_witness 11 = .ok (.iload_n 2, 1) := by decide +kernel
theorem dX12_witness_12 : decode cX12_witness 12 = .ok (.tableswitch 66 0 3 #[32, 42, 49, 56], 32) := by decide +kernel
theorem dX12_witness_44 : decode cX12_witness 44 = .ok (.aload_n 0, 1) := by decide +kernel
theorem dX12_witness_45 : decode cX12_witness 45 = .ok (.getfield 22, 3) := by decide +kernel
theorem dX12_witness_48 : decode cX12_witness 48 = .ok (.bipush 9, 2) := by decide +kernel
theorem dX12_witness_50 : decode cX12_witness 50 = .ok (.iload_n 1, 1) := by decide +kernel
theorem dX12_witness_51 : decode cX12_witness 51 = .ok (.iadd, 1) := by decide +kernel
theorem dX12_witness_52 : decode cX12_witness 52 = .ok (.iaload, 1) := by decide +kernel
theorem dX12_witness_53 : decode cX12_witness 53 = .ok (.ireturn, 1) := by decide +kernel
theorem dX12_witness_54 : decode cX12_witness 54 = .ok (.aload_n 0, 1) := by decide +kernel
theorem dX12_witness_55 : decode cX12_witness 55 = .ok (.getfield 16, 3) := by decide +kernel
theorem dX12_witness_58 : decode cX12_witness 58 = .ok (.iload_n 1, 1) := by decide +kernel
theorem dX12_witness_59 : decode cX12_witness 59 = .ok (.iaload, 1) := by decide +kernel
theorem dX12_witness_60 : decode cX12_witness 60 = .ok (.ireturn, 1) := by decide +kernel
theorem dX12_witness_61 : decode cX12_witness 61 = .ok (.aload_n 0, 1) := by decide +kernel
theorem dX12_witness_62 : decode cX12_witness 62 = .ok (.getfield 19, 3) := by decide +kernel
theorem dX12_witness_65 : decode cX12_witness 65 = .ok (.iload_n 1, 1) := by decide +kernel
theorem dX12_witness_66 : decode cX12_witness 66 = .ok (.iaload, 1) := by decide +kernel
theorem dX12_witness_67 : decode cX12_witness 67 = .ok (.ireturn, 1) := by decide +kernel
theorem dX12_witness_68 : decode cX12_witness 68 = .ok (.aload_n 0, 1) := by decide +kernel
theorem dX12_witness_69 : decode cX12_witness 69 = .ok (.getfield 22, 3) := by decide +kernel
theorem dX12_witness_72 : decode cX12_witness 72 = .ok (.bipush 21, 2) := by decide +kernel
theorem dX12_witness_74 : decode cX12_witness 74 = .ok (.iload_n 1, 1) := by decide +kernel
theorem dX12_witness_75 : decode cX12_witness 75 = .ok (.iadd, 1) := by decide +kernel
theorem dX12_witness_76 : decode cX12_witness 76 = .ok (.iaload, 1) := by decide +kernel
theorem dX12_witness_77 : decode cX12_witness 77 = .ok (.ireturn, 1) := by decide +kernel
theorem dX12_witness_78 : decode cX12_witness 78 = .ok (.ldc 94, 2) := by decide +kernel
theorem dX12_witness_80 : decode cX12_witness 80 = .ok (.ireturn, 1) := by decide +kernel
theorem dX12_loudAt_0 : decode cX12_loudAt 0 = .ok (.iload_n 2, 1) := by decide +kernel
theorem dX12_loudAt_1 : decode cX12_loudAt 1 = .ok (.iload_n 3, 1) := by decide +kernel
theorem dX12_loudAt_2 : decode cX12_loudAt 2 = .ok (.if_icmp .ge 7, 3) := by decide +kernel
theorem dX12_loudAt_5 : decode cX12_loudAt 5 = .ok (.iload_n 2, 1) := by decide +kernel
theorem dX12_loudAt_6 : decode cX12_loudAt 6 = .ok (.goto 4, 3) := by decide +kernel
theorem dX12_loudAt_9 : decode cX12_loudAt 9 = .ok (.iload_n 3, 1) := by decide +kernel
theorem dX12_loudAt_10 : decode cX12_loudAt 10 = .ok (.istore 4, 2) := by decide +kernel
theorem dX12_loudAt_12 : decode cX12_loudAt 12 = .ok (.iload_n 2, 1) := by decide +kernel
theorem dX12_loudAt_13 : decode cX12_loudAt 13 = .ok (.iload_n 3, 1) := by decide +kernel
theorem dX12_loudAt_14 : decode cX12_loudAt 14 = .ok (.if_icmp .ge 7, 3) := by decide +kernel
theorem dX12_loudAt_17 : decode cX12_loudAt 17 = .ok (.iload_n 3, 1) := by decide +kernel
theorem dX12_loudAt_18 : decode cX12_loudAt 18 = .ok (.goto 4, 3) := by decide +kernel
theorem dX12_loudAt_21 : decode cX12_loudAt 21 = .ok (.iload_n 2, 1) := by decide +kernel
theorem dX12_loudAt_22 : decode cX12_loudAt 22 = .ok (.istore 5, 2) := by decide +kernel
theorem dX12_loudAt_24 : decode cX12_loudAt 24 = .ok (.aload_n 0, 1) := by decide +kernel
theorem dX12_loudAt_25 : decode cX12_loudAt 25 = .ok (.getfield 7, 3) := by decide +kernel
theorem dX12_loudAt_28 : decode cX12_loudAt 28 = .ok (.iload_n 1, 1) := by decide +kernel
theorem dX12_loudAt_29 : decode cX12_loudAt 29 = .ok (.iaload, 1) := by decide +kernel
theorem dX12_loudAt_30 : decode cX12_loudAt 30 = .ok (.iload 5, 2) := by decide +kernel
theorem dX12_loudAt_32 : decode cX12_loudAt 32 = .ok (.iload 4, 2) := by decide +kernel
theorem dX12_loudAt_34 : decode cX12_loudAt 34 = .ok (.isub, 1) := by decide +kernel
theorem dX12_loudAt_35 : decode cX12_loudAt 35 = .ok (.isub, 1) := by decide +kernel
theorem dX12_loudAt_36 : decode cX12_loudAt 36 = .ok (.aload_n 0, 1) := by decide +kernel
theorem dX12_loudAt_37 : decode cX12_loudAt 37 = .ok (.getfield 22, 3) := by decide +kernel
theorem dX12_loudAt_40 : decode cX12_loudAt 40 = .ok (.bipush 8, 2) := by decide +kernel
theorem dX12_loudAt_42 : decode cX12_loudAt 42 = .ok (.iaload, 1) := by decide +kernel
theorem dX12_loudAt_43 : decode cX12_loudAt 43 = .ok (.bipush 9, 2) := by decide +kernel
theorem dX12_loudAt_45 : decode cX12_loudAt 45 = .ok (.isub, 1) := by decide +kernel
theorem dX12_loudAt_46 : decode cX12_loudAt 46 = .ok (.iload_n 3, 1) := by decide +kernel
theorem dX12_loudAt_47 : decode cX12_loudAt 47 = .ok (.iload_n 2, 1) := by decide +kernel
theorem dX12_loudAt_48 : decode cX12_loudAt 48 = .ok (.isub, 1) := by decide +kernel
theorem dX12_loudAt_49 : decode cX12_loudAt 49 = .ok (.imul, 1) := by decide +kernel
theorem dX12_loudAt_50 : decode cX12_loudAt 50 = .ok (.iadd, 1) := by decide +kernel
theorem dX12_loudAt_51 : decode cX12_loudAt 51 = .ok (.istore 6, 2) := by decide +kernel
theorem dX12_loudAt_53 : decode cX12_loudAt 53 = .ok (.iload 4, 2) := by decide +kernel
theorem dX12_loudAt_55 : decode cX12_loudAt 55 = .ok (.istore 7, 2) := by decide +kernel
theorem dX12_loudAt_57 : decode cX12_loudAt 57 = .ok (.iload 7, 2) := by decide +kernel
theorem dX12_loudAt_59 : decode cX12_loudAt 59 = .ok (.iload 5, 2) := by decide +kernel
theorem dX12_loudAt_61 : decode cX12_loudAt 61 = .ok (.if_icmp .ge 21, 3) := by decide +kernel
theorem dX12_loudAt_64 : decode cX12_loudAt 64 = .ok (.iload 6, 2) := by decide +kernel
theorem dX12_loudAt_66 : decode cX12_loudAt 66 = .ok (.aload_n 0, 1) := by decide +kernel
theorem dX12_loudAt_67 : decode cX12_loudAt 67 = .ok (.getfield 22, 3) := by decide +kernel
theorem dX12_loudAt_70 : decode cX12_loudAt 70 = .ok (.iload 7, 2) := by decide +kernel
theorem dX12_loudAt_72 : decode cX12_loudAt 72 = .ok (.iaload, 1) := by decide +kernel
theorem dX12_loudAt_73 : decode cX12_loudAt 73 = .ok (.isub, 1) := by decide +kernel
theorem dX12_loudAt_74 : decode cX12_loudAt 74 = .ok (.istore 6, 2) := by decide +kernel
theorem dX12_loudAt_76 : decode cX12_loudAt 76 = .ok (.iinc 7 1, 3) := by decide +kernel
theorem dX12_loudAt_79 : decode cX12_loudAt 79 = .ok (.goto (-22), 3) := by decide +kernel
theorem dX12_loudAt_82 : decode cX12_loudAt 82 = .ok (.iload 6, 2) := by decide +kernel
theorem dX12_loudAt_84 : decode cX12_loudAt 84 = .ok (.ireturn, 1) := by decide +kernel
set_option maxRecDepth 20000 in
theorem ggX12_hears_X12_loudAt : GoodIn wsX12_hears wsX12_loudAt := goodIn_r _ [7, 8, 1, 9, 10, 11, 12, 13, 14, 15, 16, 17, 18, 19, 20, 21, 22, 23, 24, 25, 26, 27, 28, 29, 30, 31, 32, 33, 34, 35, 36, 37, 38, 39, 40, 41, 42, 43] (by decide +kernel) (by decide +kernel)
set_option maxRecDepth 20000 in
theorem gX12_hears_X12_loudAt : GoodIn wsX12_hears (wsV RX12 173 RX12 yX12_loudAt wsX12_loudAt) := goodIn_app (goodIn_of _ (by decide +kernel)) ggX12_hears_X12_loudAt
theorem dX12_hears_0 : decode cX12_hears 0 = .ok (.aload_n 0, 1) := by decide +kernel
theorem dX12_hears_1 : decode cX12_hears 1 = .ok (.iload_n 2, 1) := by decide +kernel
theorem dX12_hears_2 : decode cX12_hears 2 = .ok (.iload_n 3, 1) := by decide +kernel
theorem dX12_hears_3 : decode cX12_hears 3 = .ok (.aload_n 0, 1) := by decide +kernel
theorem dX12_hears_4 : decode cX12_hears 4 = .ok (.getfield 22, 3) := by decide +kernel
theorem dX12_hears_7 : decode cX12_hears 7 = .ok (.bipush 9, 2) := by decide +kernel
theorem dX12_hears_9 : decode cX12_hears 9 = .ok (.iload_n 1, 1) := by decide +kernel
theorem dX12_hears_10 : decode cX12_hears 10 = .ok (.iadd, 1) := by decide +kernel
theorem dX12_hears_11 : decode cX12_hears 11 = .ok (.iaload, 1) := by decide +kernel
theorem dX12_hears_12 : decode cX12_hears 12 = .ok (.invokevirtual 173, 3) := by decide +kernel
theorem dX12_hears_15 : decode cX12_hears 15 = .ok (.aload_n 0, 1) := by decide +kernel
theorem dX12_hears_16 : decode cX12_hears 16 = .ok (.getfield 16, 3) := by decide +kernel
theorem dX12_hears_19 : decode cX12_hears 19 = .ok (.iload_n 1, 1) := by decide +kernel
theorem dX12_hears_20 : decode cX12_hears 20 = .ok (.iaload, 1) := by decide +kernel
theorem dX12_hears_21 : decode cX12_hears 21 = .ok (.if_icmp .lt 7, 3) := by decide +kernel
theorem dX12_hears_24 : decode cX12_hears 24 = .ok (.iconst 1, 1) := by decide +kernel
theorem dX12_hears_25 : decode cX12_hears 25 = .ok (.goto 4, 3) := by decide +kernel
theorem dX12_hears_28 : decode cX12_hears 28 = .ok (.iconst 0, 1) := by decide +kernel
theorem dX12_hears_29 : decode cX12_hears 29 = .ok (.ireturn, 1) := by decide +kernel
set_option maxRecDepth 20000 in
theorem ggX12_hearsTone_X12_loudAt : GoodIn wsX12_hearsTone wsX12_loudAt := goodIn_r _ [7, 8, 1, 9, 10, 11, 12, 13, 14, 15, 16, 17, 18, 19, 20, 21, 22, 23, 24, 25, 26, 27, 28, 29, 30, 31, 32, 33, 34, 35, 36, 37, 38, 39, 40, 41, 42, 43] (by decide +kernel) (by decide +kernel)
set_option maxRecDepth 20000 in
theorem gX12_hearsTone_X12_loudAt : GoodIn wsX12_hearsTone (wsV RX12 173 RX12 yX12_loudAt wsX12_loudAt) := goodIn_app (goodIn_of _ (by decide +kernel)) ggX12_hearsTone_X12_loudAt
theorem dX12_hearsTone_0 : decode cX12_hearsTone 0 = .ok (.aload_n 0, 1) := by decide +kernel
theorem dX12_hearsTone_1 : decode cX12_hearsTone 1 = .ok (.iload_n 2, 1) := by decide +kernel
theorem dX12_hearsTone_2 : decode cX12_hearsTone 2 = .ok (.iload_n 3, 1) := by decide +kernel
theorem dX12_hearsTone_3 : decode cX12_hearsTone 3 = .ok (.aload_n 0, 1) := by decide +kernel
theorem dX12_hearsTone_4 : decode cX12_hearsTone 4 = .ok (.getfield 22, 3) := by decide +kernel
theorem dX12_hearsTone_7 : decode cX12_hearsTone 7 = .ok (.bipush 9, 2) := by decide +kernel
theorem dX12_hearsTone_9 : decode cX12_hearsTone 9 = .ok (.iload_n 1, 1) := by decide +kernel
theorem dX12_hearsTone_10 : decode cX12_hearsTone 10 = .ok (.iadd, 1) := by decide +kernel
theorem dX12_hearsTone_11 : decode cX12_hearsTone 11 = .ok (.iaload, 1) := by decide +kernel
theorem dX12_hearsTone_12 : decode cX12_hearsTone 12 = .ok (.invokevirtual 173, 3) := by decide +kernel
theorem dX12_hearsTone_15 : decode cX12_hearsTone 15 = .ok (.aload_n 0, 1) := by decide +kernel
theorem dX12_hearsTone_16 : decode cX12_hearsTone 16 = .ok (.getfield 16, 3) := by decide +kernel
theorem dX12_hearsTone_19 : decode cX12_hearsTone 19 = .ok (.iload_n 1, 1) := by decide +kernel
theorem dX12_hearsTone_20 : decode cX12_hearsTone 20 = .ok (.iaload, 1) := by decide +kernel
theorem dX12_hearsTone_21 : decode cX12_hearsTone 21 = .ok (.iconst 5, 1) := by decide +kernel
theorem dX12_hearsTone_22 : decode cX12_hearsTone 22 = .ok (.iadd, 1) := by decide +kernel
theorem dX12_hearsTone_23 : decode cX12_hearsTone 23 = .ok (.if_icmp .lt 7, 3) := by decide +kernel
theorem dX12_hearsTone_26 : decode cX12_hearsTone 26 = .ok (.iconst 1, 1) := by decide +kernel
theorem dX12_hearsTone_27 : decode cX12_hearsTone 27 = .ok (.goto 4, 3) := by decide +kernel
theorem dX12_hearsTone_30 : decode cX12_hearsTone 30 = .ok (.iconst 0, 1) := by decide +kernel
theorem dX12_hearsTone_31 : decode cX12_hearsTone 31 = .ok (.ireturn, 1) := by decide +kernel
theorem dX12_widowers_0 : decode cX12_widowers 0 = .ok (.aload_n 0, 1) := by decide +kernel
theorem dX12_widowers_1 : decode cX12_widowers 1 = .ok (.getfield 86, 3) := by decide +kernel
theorem dX12_widowers_4 : decode cX12_widowers 4 = .ok (.ifCond .ne 7, 3) := by decide +kernel
theorem dX12_widowers_7 : decode cX12_widowers 7 = .ok (.iconst 0, 1) := by decide +kernel
theorem dX12_widowers_8 : decode cX12_widowers 8 = .ok (.goto 11, 3) := by decide +kernel
theorem dX12_widowers_11 : decode cX12_widowers 11 = .ok (.iconst 2, 1) := by decide +kernel
theorem dX12_widowers_12 : decode cX12_widowers 12 = .ok (.aload_n 0, 1) := by decide +kernel
theorem dX12_widowers_13 : decode cX12_widowers 13 = .ok (.getfield 13, 3) := by decide +kernel
theorem dX12_widowers_16 : decode cX12_widowers 16 = .ok (.iconst 0, 1) := by decide +kernel
theorem dX12_widowers_17 : decode cX12_widowers 17 = .ok (.iaload, 1) := by decide +kernel
theorem dX12_widowers_18 : decode cX12_widowers 18 = .ok (.iadd, 1) := by decide +kernel
theorem dX12_widowers_19 : decode cX12_widowers 19 = .ok (.ireturn, 1) := by decide +kernel
set_option maxRecDepth 20000 in
theorem ggX12_sayingOf_X12_widowers : GoodIn wsX12_sayingOf wsX12_widowers := goodIn_r _ [7, 8, 2, 24, 25, 26, 27, 28, 29, 30, 31, 32, 33, 34, 35, 36, 37, 38, 39, 40, 41, 42, 43, 44, 45, 46, 47, 48, 49, 50, 51, 52, 53, 54, 55, 56, 57, 58] (by decide +kernel) (by decide +kernel)
set_option maxRecDepth 20000 in
theorem gX12_sayingOf_X12_widowers : GoodIn wsX12_sayingOf (wsV RX12 177 RX12 yX12_widowers wsX12_widowers) := goodIn_app (goodIn_of _ (by decide +kernel)) ggX12_sayingOf_X12_widowers
set_option maxRecDepth 20000 in
theorem ggX12_sayingOf_X12_hearsTone : GoodIn wsX12_sayingOf wsX12_hearsTone := goodIn_r _ [12, 13, 14, 15, 16, 17, 6, 18, 19, 24, 25, 26, 27, 28, 29, 30, 31, 32, 33, 34, 35, 36, 37, 38, 39, 40, 41, 42, 43, 44, 45, 46, 47, 48, 49, 50, 51, 52, 53, 54, 55, 56, 57, 58] (by decide +kernel) (by decide +kernel)
set_option maxRecDepth 20000 in
theorem gX12_sayingOf_X12_hearsTone : GoodIn wsX12_sayingOf (wsV RX12 180 RX12 yX12_hearsTone wsX12_hearsTone) := goodIn_app (goodIn_of _ (by decide +kernel)) ggX12_sayingOf_X12_hearsTone
set_option maxRecDepth 20000 in
theorem ggX12_sayingOf_X12_hears : GoodIn wsX12_sayingOf wsX12_hears := goodIn_r _ [23, 13, 14, 15, 16, 17, 6, 18, 19, 24, 25, 26, 27, 28, 29, 30, 31, 32, 33, 34, 35, 36, 37, 38, 39, 40, 41, 42, 43, 44, 45, 46, 47, 48, 49, 50, 51, 52, 53, 54, 55, 56, 57, 58] (by decide +kernel) (by decide +kernel)
set_option maxRecDepth 20000 in
theorem gX12_sayingOf_X12_hears : GoodIn wsX12_sayingOf (wsV RX12 184 RX12 yX12_hears wsX12_hears) := goodIn_app (goodIn_of _ (by decide +kernel)) ggX12_sayingOf_X12_hears
theorem dX12_sayingOf_0 : decode cX12_sayingOf 0 = .ok (.aload_n 0, 1) := by decide +kernel
theorem dX12_sayingOf_1 : decode cX12_sayingOf 1 = .ok (.getfield 19, 3) := by decide +kernel
theorem dX12_sayingOf_4 : decode cX12_sayingOf 4 = .ok (.iload_n 1, 1) := by decide +kernel
theorem dX12_sayingOf_5 : decode cX12_sayingOf 5 = .ok (.iaload, 1) := by decide +kernel
theorem dX12_sayingOf_6 : decode cX12_sayingOf 6 = .ok (.ifCond .eq 22, 3) := by decide +kernel
theorem dX12_sayingOf_9 : decode cX12_sayingOf 9 = .ok (.aload_n 0, 1) := by decide +kernel
theorem dX12_sayingOf_10 : decode cX12_sayingOf 10 = .ok (.getfield 19, 3) := by decide +kernel
theorem dX12_sayingOf_13 : decode cX12_sayingOf 13 = .ok (.iload_n 1, 1) := by decide +kernel
theorem dX12_sayingOf_14 : decode cX12_sayingOf 14 = .ok (.iaload, 1) := by decide +kernel
theorem dX12_sayingOf_15 : decode cX12_sayingOf 15 = .ok (.iconst 1, 1) := by decide +kernel
theorem dX12_sayingOf_16 : decode cX12_sayingOf 16 = .ok (.if_icmp .ne 10, 3) := by decide +kernel
theorem dX12_sayingOf_19 : decode cX12_sayingOf 19 = .ok (.aload_n 0, 1) := by decide +kernel
theorem dX12_sayingOf_20 : decode cX12_sayingOf 20 = .ok (.invokevirtual 177, 3) := by decide +kernel
theorem dX12_sayingOf_23 : decode cX12_sayingOf 23 = .ok (.goto 4, 3) := by decide +kernel
theorem dX12_sayingOf_26 : decode cX12_sayingOf 26 = .ok (.iconst 0, 1) := by decide +kernel
theorem dX12_sayingOf_27 : decode cX12_sayingOf 27 = .ok (.ireturn, 1) := by decide +kernel
theorem dX12_sayingOf_28 : decode cX12_sayingOf 28 = .ok (.aload_n 0, 1) := by decide +kernel
theorem dX12_sayingOf_29 : decode cX12_sayingOf 29 = .ok (.iload_n 1, 1) := by decide +kernel
theorem dX12_sayingOf_30 : decode cX12_sayingOf 30 = .ok (.iload_n 2, 1) := by decide +kernel
theorem dX12_sayingOf_31 : decode cX12_sayingOf 31 = .ok (.iload_n 3, 1) := by decide +kernel
theorem dX12_sayingOf_32 : decode cX12_sayingOf 32 = .ok (.invokevirtual 180, 3) := by decide +kernel
theorem dX12_sayingOf_35 : decode cX12_sayingOf 35 = .ok (.ifCond .eq 14, 3) := by decide +kernel
theorem dX12_sayingOf_38 : decode cX12_sayingOf 38 = .ok (.iconst 2, 1) := by decide +kernel
theorem dX12_sayingOf_39 : decode cX12_sayingOf 39 = .ok (.aload_n 0, 1) := by decide +kernel
theorem dX12_sayingOf_40 : decode cX12_sayingOf 40 = .ok (.getfield 13, 3) := by decide +kernel
theorem dX12_sayingOf_43 : decode cX12_sayingOf 43 = .ok (.iload_n 2, 1) := by decide +kernel
theorem dX12_sayingOf_44 : decode cX12_sayingOf 44 = .ok (.iaload, 1) := by decide +kernel
theorem dX12_sayingOf_45 : decode cX12_sayingOf 45 = .ok (.iadd, 1) := by decide +kernel
theorem dX12_sayingOf_46 : decode cX12_sayingOf 46 = .ok (.goto 18, 3) := by decide +kernel
theorem dX12_sayingOf_49 : decode cX12_sayingOf 49 = .ok (.aload_n 0, 1) := by decide +kernel
theorem dX12_sayingOf_50 : decode cX12_sayingOf 50 = .ok (.iload_n 1, 1) := by decide +kernel
theorem dX12_sayingOf_51 : decode cX12_sayingOf 51 = .ok (.iload_n 2, 1) := by decide +kernel
theorem dX12_sayingOf_52 : decode cX12_sayingOf 52 = .ok (.iload_n 3, 1) := by decide +kernel
theorem dX12_sayingOf_53 : decode cX12_sayingOf 53 = .ok (.invokevirtual 184, 3) := by decide +kernel
theorem dX12_sayingOf_56 : decode cX12_sayingOf 56 = .ok (.ifCond .eq 7, 3) := by decide +kernel
theorem dX12_sayingOf_59 : decode cX12_sayingOf 59 = .ok (.iconst 1, 1) := by decide +kernel
theorem dX12_sayingOf_60 : decode cX12_sayingOf 60 = .ok (.goto 4, 3) := by decide +kernel
theorem dX12_sayingOf_63 : decode cX12_sayingOf 63 = .ok (.iconst 0, 1) := by decide +kernel
theorem dX12_sayingOf_64 : decode cX12_sayingOf 64 = .ok (.ireturn, 1) := by decide +kernel
theorem dX12_remember_0 : decode cX12_remember 0 = .ok (.aload_n 0, 1) := by decide +kernel
theorem dX12_remember_1 : decode cX12_remember 1 = .ok (.getfield 162, 3) := by decide +kernel
theorem dX12_remember_4 : decode cX12_remember 4 = .ok (.bipush 20, 2) := by decide +kernel
theorem dX12_remember_6 : decode cX12_remember 6 = .ok (.if_icmp .ne 44, 3) := by decide +kernel
theorem dX12_remember_9 : decode cX12_remember 9 = .ok (.bipush 28, 2) := by decide +kernel
theorem dX12_remember_11 : decode cX12_remember 11 = .ok (.istore_n 1, 1) := by decide +kernel
theorem dX12_remember_12 : decode cX12_remember 12 = .ok (.iload_n 1, 1) := by decide +kernel
theorem dX12_remember_13 : decode cX12_remember 13 = .ok (.sipush 560, 3) := by decide +kernel
theorem dX12_remember_16 : decode cX12_remember 16 = .ok (.if_icmp .ge 24, 3) := by decide +kernel
theorem dX12_remember_19 : decode cX12_remember 19 = .ok (.aload_n 0, 1) := by decide +kernel
theorem dX12_remember_20 : decode cX12_remember 20 = .ok (.getfield 50, 3) := by decide +kernel
theorem dX12_remember_23 : decode cX12_remember 23 = .ok (.iload_n 1, 1) := by decide +kernel
theorem dX12_remember_24 : decode cX12_remember 24 = .ok (.bipush 28, 2) := by decide +kernel
theorem dX12_remember_26 : decode cX12_remember 26 = .ok (.isub, 1) := by decide +kernel
theorem dX12_remember_27 : decode cX12_remember 27 = .ok (.aload_n 0, 1) := by decide +kernel
theorem dX12_remember_28 : decode cX12_remember 28 = .ok (.getfield 50, 3) := by decide +kernel
theorem dX12_remember_31 : decode cX12_remember 31 = .ok (.iload_n 1, 1) := by decide +kernel
theorem dX12_remember_32 : decode cX12_remember 32 = .ok (.iaload, 1) := by decide +kernel
theorem dX12_remember_33 : decode cX12_remember 33 = .ok (.iastore, 1) := by decide +kernel
theorem dX12_remember_34 : decode cX12_remember 34 = .ok (.iinc 1 1, 3) := by decide +kernel
theorem dX12_remember_37 : decode cX12_remember 37 = .ok (.goto (-25), 3) := by decide +kernel
theorem dX12_remember_40 : decode cX12_remember 40 = .ok (.aload_n 0, 1) := by decide +kernel
theorem dX12_remember_41 : decode cX12_remember 41 = .ok (.dup, 1) := by decide +kernel
theorem dX12_remember_42 : decode cX12_remember 42 = .ok (.getfield 162, 3) := by decide +kernel
theorem dX12_remember_45 : decode cX12_remember 45 = .ok (.iconst 1, 1) := by decide +kernel
theorem dX12_remember_46 : decode cX12_remember 46 = .ok (.isub, 1) := by decide +kernel
theorem dX12_remember_47 : decode cX12_remember 47 = .ok (.putfield 162, 3) := by decide +kernel
theorem dX12_remember_50 : decode cX12_remember 50 = .ok (.iconst 0, 1) := by decide +kernel
theorem dX12_remember_51 : decode cX12_remember 51 = .ok (.istore_n 1, 1) := by decide +kernel
theorem dX12_remember_52 : decode cX12_remember 52 = .ok (.iload_n 1, 1) := by decide +kernel
theorem dX12_remember_53 : decode cX12_remember 53 = .ok (.bipush 28, 2) := by decide +kernel
theorem dX12_remember_55 : decode cX12_remember 55 = .ok (.if_icmp .ge 29, 3) := by decide +kernel
theorem dX12_remember_58 : decode cX12_remember 58 = .ok (.aload_n 0, 1) := by decide +kernel
theorem dX12_remember_59 : decode cX12_remember 59 = .ok (.getfield 50, 3) := by decide +kernel
theorem dX12_remember_62 : decode cX12_remember 62 = .ok (.bipush 28, 2) := by decide +kernel
theorem dX12_remember_64 : decode cX12_remember 64 = .ok (.aload_n 0, 1) := by decide +kernel
theorem dX12_remember_65 : decode cX12_remember 65 = .ok (.getfield 162, 3) := by decide +kernel
theorem dX12_remember_68 : decode cX12_remember 68 = .ok (.imul, 1) := by decide +kernel
theorem dX12_remember_69 : decode cX12_remember 69 = .ok (.iload_n 1, 1) := by decide +kernel
theorem dX12_remember_70 : decode cX12_remember 70 = .ok (.iadd, 1) := by decide +kernel
theorem dX12_remember_71 : decode cX12_remember 71 = .ok (.aload_n 0, 1) := by decide +kernel
theorem dX12_remember_72 : decode cX12_remember 72 = .ok (.getfield 22, 3) := by decide +kernel
theorem dX12_remember_75 : decode cX12_remember 75 = .ok (.iload_n 1, 1) := by decide +kernel
theorem dX12_remember_76 : decode cX12_remember 76 = .ok (.iaload, 1) := by decide +kernel
theorem dX12_remember_77 : decode cX12_remember 77 = .ok (.iastore, 1) := by decide +kernel
theorem dX12_remember_78 : decode cX12_remember 78 = .ok (.iinc 1 1, 3) := by decide +kernel
theorem dX12_remember_81 : decode cX12_remember 81 = .ok (.goto (-29), 3) := by decide +kernel
theorem dX12_remember_84 : decode cX12_remember 84 = .ok (.aload_n 0, 1) := by decide +kernel
theorem dX12_remember_85 : decode cX12_remember 85 = .ok (.dup, 1) := by decide +kernel
theorem dX12_remember_86 : decode cX12_remember 86 = .ok (.getfield 162, 3) := by decide +kernel
theorem dX12_remember_89 : decode cX12_remember 89 = .ok (.iconst 1, 1) := by decide +kernel
theorem dX12_remember_90 : decode cX12_remember 90 = .ok (.iadd, 1) := by decide +kernel
theorem dX12_remember_91 : decode cX12_remember 91 = .ok (.putfield 162, 3) := by decide +kernel
theorem dX12_remember_94 : decode cX12_remember 94 = .ok (.return_, 1) := by decide +kernel
set_option maxRecDepth 20000 in
theorem ggX12_morningOf_X12_hears : GoodIn wsX12_morningOf wsX12_hears := goodIn_r _ [7, 1, 8, 9, 10, 11, 6, 12, 13, 29, 30, 31, 32, 33, 34, 35, 36, 37, 38, 39, 40, 41, 42, 43, 44, 45, 46, 47, 48, 49, 50, 51, 52, 53, 54, 55, 56, 57, 58, 59, 60, 61, 62, 63] (by decide +kernel) (by decide +kernel)
set_option maxRecDepth 20000 in
theorem gX12_morningOf_X12_hears : GoodIn wsX12_morningOf (wsV RX12 184 RX12 yX12_hears wsX12_hears) := goodIn_app (goodIn_of _ (by decide +kernel)) ggX12_morningOf_X12_hears
set_option maxRecDepth 20000 in
theorem ggX12_morningOf_X12_hearsTone : GoodIn wsX12_morningOf wsX12_hearsTone := goodIn_r _ [17, 1, 8, 9, 10, 11, 6, 12, 13, 29, 30, 31, 32, 33, 34, 35, 36, 37, 38, 39, 40, 41, 42, 43, 44, 45, 46, 47, 48, 49, 50, 51, 52, 53, 54, 55, 56, 57, 58, 59, 60, 61, 62, 63] (by decide +kernel) (by decide +kernel)
set_option maxRecDepth 20000 in
theorem gX12_morningOf_X12_hearsTone : GoodIn wsX12_morningOf (wsV RX12 180 RX12 yX12_hearsTone wsX12_hearsTone) := goodIn_app (goodIn_of _ (by decide +kernel)) ggX12_morningOf_X12_hearsTone
set_option maxRecDepth 20000 in
theorem ggX12_morningOf_X12_sayingOf : GoodIn wsX12_morningOf wsX12_sayingOf := goodIn_r _ [21, 22, 23, 24, 25, 26, 6, 27, 28, 14, 15, 16, 17, 1, 8, 9, 10, 11, 12, 13, 3, 4, 5, 7, 29, 30, 31, 32, 33, 34, 35, 36, 37, 38, 39, 40, 41, 42, 43, 44, 45, 46, 47, 48, 49, 50, 51, 52, 53, 54, 55, 56, 57, 58, 59, 60, 61, 62, 63] (by decide +kernel) (by decide +kernel)
set_option maxRecDepth 20000 in
theorem gX12_morningOf_X12_sayingOf : GoodIn wsX12_morningOf (wsV RX12 187 RX12 yX12_sayingOf wsX12_sayingOf) := goodIn_app (goodIn_of _ (by decide +kernel)) ggX12_morningOf_X12_sayingOf
theorem dX12_morningOf_0 : decode cX12_morningOf 0 = .ok (.aload_n 0, 1) := by decide +kernel
theorem dX12_morningOf_1 : decode cX12_morningOf 1 = .ok (.getfield 22, 3) := by decide +kernel
theorem dX12_morningOf_4 : decode cX12_morningOf 4 = .ok (.bipush 16, 2) := by decide +kernel
theorem dX12_morningOf_6 : decode cX12_morningOf 6 = .ok (.dup2, 1) := by decide +kernel
theorem dX12_morningOf_7 : decode cX12_morningOf 7 = .ok (.iaload, 1) := by decide +kernel
theorem dX12_morningOf_8 : decode cX12_morningOf 8 = .ok (.iconst 1, 1) := by decide +kernel
theorem dX12_morningOf_9 : decode cX12_morningOf 9 = .ok (.iadd, 1) := by decide +kernel
theorem dX12_morningOf_10 : decode cX12_morningOf 10 = .ok (.iastore, 1) := by decide +kernel
theorem dX12_morningOf_11 : decode cX12_morningOf 11 = .ok (.aload_n 0, 1) := by decide +kernel
theorem dX12_morningOf_12 : decode cX12_morningOf 12 = .ok (.getfield 22, 3) := by decide +kernel
theorem dX12_morningOf_15 : decode cX12_morningOf 15 = .ok (.bipush 17, 2) := by decide +kernel
theorem dX12_morningOf_17 : decode cX12_morningOf 17 = .ok (.iload_n 1, 1) := by decide +kernel
theorem dX12_morningOf_18 : decode cX12_morningOf 18 = .ok (.iastore, 1) := by decide +kernel
theorem dX12_morningOf_19 : decode cX12_morningOf 19 = .ok (.aload_n 0, 1) := by decide +kernel
theorem dX12_morningOf_20 : decode cX12_morningOf 20 = .ok (.getfield 22, 3) := by decide +kernel
theorem dX12_morningOf_23 : decode cX12_morningOf 23 = .ok (.bipush 18, 2) := by decide +kernel
theorem dX12_morningOf_25 : decode cX12_morningOf 25 = .ok (.iload_n 2, 1) := by decide +kernel
theorem dX12_morningOf_26 : decode cX12_morningOf 26 = .ok (.iastore, 1) := by decide +kernel
theorem dX12_morningOf_27 : decode cX12_morningOf 27 = .ok (.aload_n 0, 1) := by decide +kernel
theorem dX12_morningOf_28 : decode cX12_morningOf 28 = .ok (.getfield 22, 3) := by decide +kernel
theorem dX12_morningOf_31 : decode cX12_morningOf 31 = .ok (.bipush 19, 2) := by decide +kernel
theorem dX12_morningOf_33 : decode cX12_morningOf 33 = .ok (.iconst 0, 1) := by decide +kernel
theorem dX12_morningOf_34 : decode cX12_morningOf 34 = .ok (.iastore, 1) := by decide +kernel
theorem dX12_morningOf_35 : decode cX12_morningOf 35 = .ok (.aload_n 0, 1) := by decide +kernel
theorem dX12_morningOf_36 : decode cX12_morningOf 36 = .ok (.getfield 22, 3) := by decide +kernel
theorem dX12_morningOf_39 : decode cX12_morningOf 39 = .ok (.bipush 20, 2) := by decide +kernel
theorem dX12_morningOf_41 : decode cX12_morningOf 41 = .ok (.iconst 0, 1) := by decide +kernel
theorem dX12_morningOf_42 : decode cX12_morningOf 42 = .ok (.iastore, 1) := by decide +kernel
theorem dX12_morningOf_43 : decode cX12_morningOf 43 = .ok (.iconst 0, 1) := by decide +kernel
theorem dX12_morningOf_44 : decode cX12_morningOf 44 = .ok (.istore_n 3, 1) := by decide +kernel
theorem dX12_morningOf_45 : decode cX12_morningOf 45 = .ok (.iload_n 3, 1) := by decide +kernel
theorem dX12_morningOf_46 : decode cX12_morningOf 46 = .ok (.aload_n 0, 1) := by decide +kernel
theorem dX12_morningOf_47 : decode cX12_morningOf 47 = .ok (.getfield 89, 3) := by decide +kernel
theorem dX12_morningOf_50 : decode cX12_morningOf 50 = .ok (.if_icmp .ge 79, 3) := by decide +kernel
theorem dX12_morningOf_53 : decode cX12_morningOf 53 = .ok (.aload_n 0, 1) := by decide +kernel
theorem dX12_morningOf_54 : decode cX12_morningOf 54 = .ok (.getfield 22, 3) := by decide +kernel
theorem dX12_morningOf_57 : decode cX12_morningOf 57 = .ok (.bipush 19, 2) := by decide +kernel
theorem dX12_morningOf_59 : decode cX12_morningOf 59 = .ok (.dup2, 1) := by decide +kernel
theorem dX12_morningOf_60 : decode cX12_morningOf 60 = .ok (.iaload, 1) := by decide +kernel
theorem dX12_morningOf_61 : decode cX12_morningOf 61 = .ok (.aload_n 0, 1) := by decide +kernel
theorem dX12_morningOf_62 : decode cX12_morningOf 62 = .ok (.iload_n 3, 1) := by decide +kernel
theorem dX12_morningOf_63 : decode cX12_morningOf 63 = .ok (.iload_n 1, 1) := by decide +kernel
theorem dX12_morningOf_64 : decode cX12_morningOf 64 = .ok (.iload_n 2, 1) := by decide +kernel
theorem dX12_morningOf_65 : decode cX12_morningOf 65 = .ok (.invokevirtual 184, 3) := by decide +kernel
theorem dX12_morningOf_68 : decode cX12_morningOf 68 = .ok (.ifCond .eq 9, 3) := by decide +kernel
theorem dX12_morningOf_71 : decode cX12_morningOf 71 = .ok (.iconst 1, 1) := by decide +kernel
theorem dX12_morningOf_72 : decode cX12_morningOf 72 = .ok (.iload_n 3, 1) := by decide +kernel
theorem dX12_morningOf_73 : decode cX12_morningOf 73 = .ok (.ishl, 1) := by decide +kernel
theorem dX12_morningOf_74 : decode cX12_morningOf 74 = .ok (.goto 4, 3) := by decide +kernel
theorem dX12_morningOf_77 : decode cX12_morningOf 77 = .ok (.iconst 0, 1) := by decide +kernel
theorem dX12_morningOf_78 : decode cX12_morningOf 78 = .ok (.ior, 1) := by decide +kernel
theorem dX12_morningOf_79 : decode cX12_morningOf 79 = .ok (.iastore, 1) := by decide +kernel
theorem dX12_morningOf_80 : decode cX12_morningOf 80 = .ok (.aload_n 0, 1) := by decide +kernel
theorem dX12_morningOf_81 : decode cX12_morningOf 81 = .ok (.getfield 22, 3) := by decide +kernel
theorem dX12_morningOf_84 : decode cX12_morningOf 84 = .ok (.bipush 20, 2) := by decide +kernel
theorem dX12_morningOf_86 : decode cX12_morningOf 86 = .ok (.dup2, 1) := by decide +kernel
theorem dX12_morningOf_87 : decode cX12_morningOf 87 = .ok (.iaload, 1) := by decide +kernel
theorem dX12_morningOf_88 : decode cX12_morningOf 88 = .ok (.aload_n 0, 1) := by decide +kernel
theorem dX12_morningOf_89 : decode cX12_morningOf 89 = .ok (.iload_n 3, 1) := by decide +kernel
theorem dX12_morningOf_90 : decode cX12_morningOf 90 = .ok (.iload_n 1, 1) := by decide +kernel
theorem dX12_morningOf_91 : decode cX12_morningOf 91 = .ok (.iload_n 2, 1) := by decide +kernel
theorem dX12_morningOf_92 : decode cX12_morningOf 92 = .ok (.invokevirtual 180, 3) := by decide +kernel
theorem dX12_morningOf_95 : decode cX12_morningOf 95 = .ok (.ifCond .eq 9, 3) := by decide +kernel
theorem dX12_morningOf_98 : decode cX12_morningOf 98 = .ok (.iconst 1, 1) := by decide +kernel
theorem dX12_morningOf_99 : decode cX12_morningOf 99 = .ok (.iload_n 3, 1) := by decide +kernel
theorem dX12_morningOf_100 : decode cX12_morningOf 100 = .ok (.ishl, 1) := by decide +kernel
theorem dX12_morningOf_101 : decode cX12_morningOf 101 = .ok (.goto 4, 3) := by decide +kernel
theorem dX12_morningOf_104 : decode cX12_morningOf 104 = .ok (.iconst 0, 1) := by decide +kernel
theorem dX12_morningOf_105 : decode cX12_morningOf 105 = .ok (.ior, 1) := by decide +kernel
theorem dX12_morningOf_106 : decode cX12_morningOf 106 = .ok (.iastore, 1) := by decide +kernel
theorem dX12_morningOf_107 : decode cX12_morningOf 107 = .ok (.aload_n 0, 1) := by decide +kernel
theorem dX12_morningOf_108 : decode cX12_morningOf 108 = .ok (.getfield 22, 3) := by decide +kernel
theorem dX12_morningOf_111 : decode cX12_morningOf 111 = .ok (.bipush 21, 2) := by decide +kernel
theorem dX12_morningOf_113 : decode cX12_morningOf 113 = .ok (.iload_n 3, 1) := by decide +kernel
theorem dX12_morningOf_114 : decode cX12_morningOf 114 = .ok (.iadd, 1) := by decide +kernel
theorem dX12_morningOf_115 : decode cX12_morningOf 115 = .ok (.aload_n 0, 1) := by decide +kernel
theorem dX12_morningOf_116 : decode cX12_morningOf 116 = .ok (.iload_n 3, 1) := by decide +kernel
theorem dX12_morningOf_117 : decode cX12_morningOf 117 = .ok (.iload_n 1, 1) := by decide +kernel
theorem dX12_morningOf_118 : decode cX12_morningOf 118 = .ok (.iload_n 2, 1) := by decide +kernel
theorem dX12_morningOf_119 : decode cX12_morningOf 119 = .ok (.invokevirtual 187, 3) := by decide +kernel
theorem dX12_morningOf_122 : decode cX12_morningOf 122 = .ok (.iastore, 1) := by decide +kernel
theorem dX12_morningOf_123 : decode cX12_morningOf 123 = .ok (.iinc 3 1, 3) := by decide +kernel
theorem dX12_morningOf_126 : decode cX12_morningOf 126 = .ok (.goto (-81), 3) := by decide +kernel
theorem dX12_morningOf_129 : decode cX12_morningOf 129 = .ok (.return_, 1) := by decide +kernel
set_option maxRecDepth 20000 in
theorem ggX12_morning_X12_isSound : GoodIn wsX12_morning wsX12_isSound := goodIn_r _ [8, 9, 10, 11, 7, 12, 57, 58, 59, 60, 61, 62, 63, 64, 65, 66, 67, 68, 69, 70, 71, 72, 73, 74, 75, 76, 77, 78, 79, 80, 81, 82, 83, 84, 85, 86, 87, 88, 89, 90, 91] (by decide +kernel) (by decide +kernel)
set_option maxRecDepth 20000 in
theorem gX12_morning_X12_isSound : GoodIn wsX12_morning (wsV RX12 166 RX12 yX12_isSound wsX12_isSound) := goodIn_app (goodIn_of _ (by decide +kernel)) ggX12_morning_X12_isSound
set_option maxRecDepth 20000 in
theorem ggX12_morning_X12_isPlace : GoodIn wsX12_morning wsX12_isPlace := goodIn_r _ [16, 17, 18, 19, 7, 20, 21, 10, 11, 12, 57, 58, 59, 60, 61, 62, 63, 64, 65, 66, 67, 68, 69, 70, 71, 72, 73, 74, 75, 76, 77, 78, 79, 80, 81, 82, 83, 84, 85, 86, 87, 88, 89, 90, 91] (by decide +kernel) (by decide +kernel)
set_option maxRecDepth 20000 in
theorem gX12_morning_X12_isPlace : GoodIn wsX12_morning (wsV RX12 190 RX12 yX12_isPlace wsX12_isPlace) := goodIn_app (goodIn_of _ (by decide +kernel)) ggX12_morning_X12_isPlace
set_option maxRecDepth 20000 in
theorem ggX12_morning_X12_remember : GoodIn wsX12_morning wsX12_remember := goodIn_r _ [25, 26, 27, 2, 57, 58, 59, 60, 61, 62, 63, 64, 65, 66, 67, 68, 69, 70, 71, 72, 73, 74, 75, 76, 77, 78, 79, 80, 81, 82, 83, 84, 85, 86, 87, 88, 89, 90, 91] (by decide +kernel) (by decide +kernel)
set_option maxRecDepth 20000 in
theorem gX12_morning_X12_remember : GoodIn wsX12_morning (wsV RX12 193 RX12 yX12_remember wsX12_remember) := goodIn_app (goodIn_of _ (by decide +kernel)) ggX12_morning_X12_remember
set_option maxRecDepth 20000 in
theorem ggX12_morning_X12_morningOf : GoodIn wsX12_morning wsX12_morningOf := goodIn_r _ [31, 2, 32, 33, 34, 35, 7, 36, 37, 38, 39, 40, 41, 42, 43, 44, 45, 46, 47, 48, 49, 50, 51, 52, 53, 54, 55, 56, 9, 57, 58, 59, 60, 61, 62, 63, 64, 65, 66, 67, 68, 69, 70, 71, 72, 73, 74, 75, 76, 77, 78, 79, 80, 81, 82, 83, 84, 85, 86, 87, 88, 89, 90, 91] (by decide +kernel) (by decide +kernel)
set_option maxRecDepth 20000 in
theorem gX12_morning_X12_morningOf : GoodIn wsX12_morning (wsV RX12 196 RX12 yX12_morningOf wsX12_morningOf) := goodIn_app (goodIn_of _ (by decide +kernel)) ggX12_morning_X12_morningOf
theorem dX12_morning_0 : decode cX12_morning 0 = .ok (.aload_n 0, 1) := by decide +kernel
theorem dX12_morning_1 : decode cX12_morning 1 = .ok (.iload_n 1, 1) := by decide +kernel
theorem dX12_morning_2 : decode cX12_morning 2 = .ok (.invokevirtual 166, 3) := by decide +kernel
theorem dX12_morning_5 : decode cX12_morning 5 = .ok (.ifCond .eq 11, 3) := by decide +kernel
theorem dX12_morning_8 : decode cX12_morning 8 = .ok (.aload_n 0, 1) := by decide +kernel
theorem dX12_morning_9 : decode cX12_morning 9 = .ok (.iload_n 2, 1) := by decide +kernel
theorem dX12_morning_10 : decode cX12_morning 10 = .ok (.invokevirtual 190, 3) := by decide +kernel
theorem dX12_morning_13 : decode cX12_morning 13 = .ok (.ifCond .ne 6, 3) := by decide +kernel
theorem dX12_morning_16 : decode cX12_morning 16 = .ok (.ldc 165, 2) := by decide +kernel
theorem dX12_morning_18 : decode cX12_morning 18 = .ok (.ireturn, 1) := by decide +kernel
theorem dX12_morning_19 : decode cX12_morning 19 = .ok (.aload_n 0, 1) := by decide +kernel
theorem dX12_morning_20 : decode cX12_morning 20 = .ok (.getfield 22, 3) := by decide +kernel
theorem dX12_morning_23 : decode cX12_morning 23 = .ok (.bipush 16, 2) := by decide +kernel
theorem dX12_morning_25 : decode cX12_morning 25 = .ok (.iaload, 1) := by decide +kernel
theorem dX12_morning_26 : decode cX12_morning 26 = .ok (.sipush 9000, 3) := by decide +kernel
theorem dX12_morning_29 : decode cX12_morning 29 = .ok (.if_icmp .le 6, 3) := by decide +kernel
theorem dX12_morning_32 : decode cX12_morning 32 = .ok (.ldc 98, 2) := by decide +kernel
theorem dX12_morning_34 : decode cX12_morning 34 = .ok (.ireturn, 1) := by decide +kernel
theorem dX12_morning_35 : decode cX12_morning 35 = .ok (.aload_n 0, 1) := by decide +kernel
theorem dX12_morning_36 : decode cX12_morning 36 = .ok (.invokevirtual 193, 3) := by decide +kernel
theorem dX12_morning_39 : decode cX12_morning 39 = .ok (.aload_n 0, 1) := by decide +kernel
theorem dX12_morning_40 : decode cX12_morning 40 = .ok (.iload_n 1, 1) := by decide +kernel
theorem dX12_morning_41 : decode cX12_morning 41 = .ok (.iload_n 2, 1) := by decide +kernel
theorem dX12_morning_42 : decode cX12_morning 42 = .ok (.invokevirtual 196, 3) := by decide +kernel
theorem dX12_morning_45 : decode cX12_morning 45 = .ok (.aload_n 0, 1) := by decide +kernel
theorem dX12_morning_46 : decode cX12_morning 46 = .ok (.getfield 22, 3) := by decide +kernel
theorem dX12_morning_49 : decode cX12_morning 49 = .ok (.bipush 19, 2) := by decide +kernel
theorem dX12_morning_51 : decode cX12_morning 51 = .ok (.iaload, 1) := by decide +kernel
theorem dX12_morning_52 : decode cX12_morning 52 = .ok (.ireturn, 1) := by decide +kernel
set_option maxRecDepth 20000 in
theorem ggX12_move_X12_isWitness : GoodIn wsX12_move wsX12_isWitness := goodIn_r _ [7, 8, 9, 10, 6, 11, 27, 28, 29, 30, 31, 32, 33, 34, 35, 36, 37, 38, 39, 40, 41, 42, 43, 44, 45, 46, 47, 48, 49, 50, 51, 52, 53, 54, 55, 56, 57, 58, 59, 60, 61] (by decide +kernel) (by decide +kernel)
set_option maxRecDepth 20000 in
theorem gX12_move_X12_isWitness : GoodIn wsX12_move (wsV RX12 170 RX12 yX12_isWitness wsX12_isWitness) := goodIn_app (goodIn_of _ (by decide +kernel)) ggX12_move_X12_isWitness
set_option maxRecDepth 20000 in
theorem ggX12_move_X12_isPlace : GoodIn wsX12_move wsX12_isPlace := goodIn_r _ [15, 16, 17, 18, 6, 19, 20, 9, 10, 11, 27, 28, 29, 30, 31, 32, 33, 34, 35, 36, 37, 38, 39, 40, 41, 42, 43, 44, 45, 46, 47, 48, 49, 50, 51, 52, 53, 54, 55, 56, 57, 58, 59, 60, 61] (by decide +kernel) (by decide +kernel)
set_option maxRecDepth 20000 in
theorem gX12_move_X12_isPlace : GoodIn wsX12_move (wsV RX12 190 RX12 yX12_isPlace wsX12_isPlace) := goodIn_app (goodIn_of _ (by decide +kernel)) ggX12_move_X12_isPlace
set_option maxRecDepth 20000 in
theorem ggX12_move_X12_remember : GoodIn wsX12_move wsX12_remember := goodIn_r _ [24, 25, 26, 2, 27, 28, 29, 30, 31, 32, 33, 34, 35, 36, 37, 38, 39, 40, 41, 42, 43, 44, 45, 46, 47, 48, 49, 50, 51, 52, 53, 54, 55, 56, 57, 58, 59, 60, 61] (by decide +kernel) (by decide +kernel)
set_option maxRecDepth 20000 in
theorem gX12_move_X12_remember : GoodIn wsX12_move (wsV RX12 193 RX12 yX12_remember wsX12_remember) := goodIn_app (goodIn_of _ (by decide +kernel)) ggX12_move_X12_remember
theorem dX12_move_0 : decode cX12_move 0 = .ok (.aload_n 0, 1) := by decide +kernel
theorem dX12_move_1 : decode cX12_move 1 = .ok (.iload_n 1, 1) := by decide +kernel
theorem dX12_move_2 : decode cX12_move 2 = .ok (.invokevirtual 170, 3) := by decide +kernel
theorem dX12_move_5 : decode cX12_move 5 = .ok (.ifCond .eq 11, 3) := by decide +kernel
theorem dX12_move_8 : decode cX12_move 8 = .ok (.aload_n 0, 1) := by decide +kernel
theorem dX12_move_9 : decode cX12_move 9 = .ok (.iload_n 2, 1) := by decide +kernel
theorem dX12_move_10 : decode cX12_move 10 = .ok (.invokevirtual 190, 3) := by decide +kernel
theorem dX12_move_13 : decode cX12_move 13 = .ok (.ifCond .ne 6, 3) := by decide +kernel
theorem dX12_move_16 : decode cX12_move 16 = .ok (.ldc 165, 2) := by decide +kernel
theorem dX12_move_18 : decode cX12_move 18 = .ok (.ireturn, 1) := by decide +kernel
theorem dX12_move_19 : decode cX12_move 19 = .ok (.aload_n 0, 1) := by decide +kernel
theorem dX12_move_20 : decode cX12_move 20 = .ok (.invokevirtual 193, 3) := by decide +kernel
theorem dX12_move_23 : decode cX12_move 23 = .ok (.aload_n 0, 1) := by decide +kernel
theorem dX12_move_24 : decode cX12_move 24 = .ok (.getfield 22, 3) := by decide +kernel
theorem dX12_move_27 : decode cX12_move 27 = .ok (.bipush 9, 2) := by decide +kernel
theorem dX12_move_29 : decode cX12_move 29 = .ok (.iload_n 1, 1) := by decide +kernel
theorem dX12_move_30 : decode cX12_move 30 = .ok (.iadd, 1) := by decide +kernel
theorem dX12_move_31 : decode cX12_move 31 = .ok (.iaload, 1) := by decide +kernel
theorem dX12_move_32 : decode cX12_move 32 = .ok (.istore_n 3, 1) := by decide +kernel
theorem dX12_move_33 : decode cX12_move 33 = .ok (.aload_n 0, 1) := by decide +kernel
theorem dX12_move_34 : decode cX12_move 34 = .ok (.getfield 22, 3) := by decide +kernel
theorem dX12_move_37 : decode cX12_move 37 = .ok (.bipush 9, 2) := by decide +kernel
theorem dX12_move_39 : decode cX12_move 39 = .ok (.iload_n 1, 1) := by decide +kernel
theorem dX12_move_40 : decode cX12_move 40 = .ok (.iadd, 1) := by decide +kernel
theorem dX12_move_41 : decode cX12_move 41 = .ok (.iload_n 2, 1) := by decide +kernel
theorem dX12_move_42 : decode cX12_move 42 = .ok (.iastore, 1) := by decide +kernel
theorem dX12_move_43 : decode cX12_move 43 = .ok (.iload_n 3, 1) := by decide +kernel
theorem dX12_move_44 : decode cX12_move 44 = .ok (.ireturn, 1) := by decide +kernel
set_option maxRecDepth 20000 in
theorem ggX12_wall_X12_in : GoodIn wsX12_wall wsX12_in := goodIn_r _ [9] (by decide +kernel) (by decide +kernel)
set_option maxRecDepth 20000 in
theorem gX12_wall_X12_in : GoodIn wsX12_wall (va_wsS RX12 82 yX12_in wsX12_in) := goodIn_app (goodIn_of _ (by decide +kernel)) ggX12_wall_X12_in
set_option maxRecDepth 20000 in
theorem ggX12_wall_X12_remember : GoodIn wsX12_wall wsX12_remember := goodIn_r _ [13, 14, 15, 5, 16, 17, 18, 19, 20, 21, 22, 23, 24, 25, 26, 27, 28, 29, 30, 31, 32, 33, 34, 35, 36, 37, 38, 39, 40, 41, 42, 43, 44, 45, 46, 47, 48, 49, 50] (by decide +kernel) (by decide +kernel)
set_option maxRecDepth 20000 in
theorem gX12_wall_X12_remember : GoodIn wsX12_wall (wsV RX12 193 RX12 yX12_remember wsX12_remember) := goodIn_app (goodIn_of _ (by decide +kernel)) ggX12_wall_X12_remember
theorem dX12_wall_0 : decode cX12_wall 0 = .ok (.iload_n 1, 1) := by decide +kernel
theorem dX12_wall_1 : decode cX12_wall 1 = .ok (.i2l, 1) := by decide +kernel
theorem dX12_wall_2 : decode cX12_wall 2 = .ok (.lconst 0, 1) := by decide +kernel
theorem dX12_wall_3 : decode cX12_wall 3 = .ok (.aload_n 0, 1) := by decide +kernel
theorem dX12_wall_4 : decode cX12_wall 4 = .ok (.getfield 75, 3) := by decide +kernel
theorem dX12_wall_7 : decode cX12_wall 7 = .ok (.iconst 1, 1) := by decide +kernel
theorem dX12_wall_8 : decode cX12_wall 8 = .ok (.isub, 1) := by decide +kernel
theorem dX12_wall_9 : decode cX12_wall 9 = .ok (.i2l, 1) := by decide +kernel
theorem dX12_wall_10 : decode cX12_wall 10 = .ok (.invokestatic 82, 3) := by decide +kernel
theorem dX12_wall_13 : decode cX12_wall 13 = .ok (.ifCond .ne 6, 3) := by decide +kernel
theorem dX12_wall_16 : decode cX12_wall 16 = .ok (.ldc 165, 2) := by decide +kernel
theorem dX12_wall_18 : decode cX12_wall 18 = .ok (.ireturn, 1) := by decide +kernel
theorem dX12_wall_19 : decode cX12_wall 19 = .ok (.iload_n 2, 1) := by decide +kernel
theorem dX12_wall_20 : decode cX12_wall 20 = .ok (.i2l, 1) := by decide +kernel
theorem dX12_wall_21 : decode cX12_wall 21 = .ok (.lconst 0, 1) := by decide +kernel
theorem dX12_wall_22 : decode cX12_wall 22 = .ok (.ldc2_w 200, 3) := by decide +kernel
theorem dX12_wall_25 : decode cX12_wall 25 = .ok (.invokestatic 82, 3) := by decide +kernel
theorem dX12_wall_28 : decode cX12_wall 28 = .ok (.ifCond .ne 6, 3) := by decide +kernel
theorem dX12_wall_31 : decode cX12_wall 31 = .ok (.ldc 94, 2) := by decide +kernel
theorem dX12_wall_33 : decode cX12_wall 33 = .ok (.ireturn, 1) := by decide +kernel
theorem dX12_wall_34 : decode cX12_wall 34 = .ok (.aload_n 0, 1) := by decide +kernel
theorem dX12_wall_35 : decode cX12_wall 35 = .ok (.invokevirtual 193, 3) := by decide +kernel
theorem dX12_wall_38 : decode cX12_wall 38 = .ok (.aload_n 0, 1) := by decide +kernel
theorem dX12_wall_39 : decode cX12_wall 39 = .ok (.getfield 22, 3) := by decide +kernel
theorem dX12_wall_42 : decode cX12_wall 42 = .ok (.iload_n 1, 1) := by decide +kernel
theorem dX12_wall_43 : decode cX12_wall 43 = .ok (.iaload, 1) := by decide +kernel
theorem dX12_wall_44 : decode cX12_wall 44 = .ok (.istore_n 3, 1) := by decide +kernel
theorem dX12_wall_45 : decode cX12_wall 45 = .ok (.aload_n 0, 1) := by decide +kernel
theorem dX12_wall_46 : decode cX12_wall 46 = .ok (.getfield 22, 3) := by decide +kernel
theorem dX12_wall_49 : decode cX12_wall 49 = .ok (.iload_n 1, 1) := by decide +kernel
theorem dX12_wall_50 : decode cX12_wall 50 = .ok (.iload_n 2, 1) := by decide +kernel
theorem dX12_wall_51 : decode cX12_wall 51 = .ok (.iastore, 1) := by decide +kernel
theorem dX12_wall_52 : decode cX12_wall 52 = .ok (.iload_n 3, 1) := by decide +kernel
theorem dX12_wall_53 : decode cX12_wall 53 = .ok (.ireturn, 1) := by decide +kernel
set_option maxRecDepth 20000 in
theorem ggX12_wind_X12_in : GoodIn wsX12_wind wsX12_in := goodIn_r _ [9] (by decide +kernel) (by decide +kernel)
set_option maxRecDepth 20000 in
theorem gX12_wind_X12_in : GoodIn wsX12_wind (va_wsS RX12 82 yX12_in wsX12_in) := goodIn_app (goodIn_of _ (by decide +kernel)) ggX12_wind_X12_in
set_option maxRecDepth 20000 in
theorem ggX12_wind_X12_remember : GoodIn wsX12_wind wsX12_remember := goodIn_r _ [13, 14, 15, 5, 16, 17, 18, 19, 20, 21, 22, 23, 24, 25, 26, 27, 28, 29, 30, 31, 32, 33, 34, 35, 36, 37, 38, 39, 40, 41, 42, 43, 44, 45, 46, 47, 48, 49, 50] (by decide +kernel) (by decide +kernel)
set_option maxRecDepth 20000 in
theorem gX12_wind_X12_remember : GoodIn wsX12_wind (wsV RX12 193 RX12 yX12_remember wsX12_remember) := goodIn_app (goodIn_of _ (by decide +kernel)) ggX12_wind_X12_remember
theorem dX12_wind_0 : decode cX12_wind 0 = .ok (.iload_n 1, 1) := by decide +kernel
theorem dX12_wind_1 : decode cX12_wind 1 = .ok (.i2l, 1) := by decide +kernel
theorem dX12_wind_2 : decode cX12_wind 2 = .ok (.lconst 0, 1) := by decide +kernel
theorem dX12_wind_3 : decode cX12_wind 3 = .ok (.ldc2_w 202, 3) := by decide +kernel
theorem dX12_wind_6 : decode cX12_wind 6 = .ok (.invokestatic 82, 3) := by decide +kernel
theorem dX12_wind_9 : decode cX12_wind 9 = .ok (.ifCond .ne 6, 3) := by decide +kernel
theorem dX12_wind_12 : decode cX12_wind 12 = .ok (.ldc 94, 2) := by decide +kernel
theorem dX12_wind_14 : decode cX12_wind 14 = .ok (.ireturn, 1) := by decide +kernel
theorem dX12_wind_15 : decode cX12_wind 15 = .ok (.aload_n 0, 1) := by decide +kernel
theorem dX12_wind_16 : decode cX12_wind 16 = .ok (.getfield 75, 3) := by decide +kernel
theorem dX12_wind_19 : decode cX12_wind 19 = .ok (.ifCond .ne 6, 3) := by decide +kernel
theorem dX12_wind_22 : decode cX12_wind 22 = .ok (.ldc 204, 2) := by decide +kernel
theorem dX12_wind_24 : decode cX12_wind 24 = .ok (.ireturn, 1) := by decide +kernel
theorem dX12_wind_25 : decode cX12_wind 25 = .ok (.aload_n 0, 1) := by decide +kernel
theorem dX12_wind_26 : decode cX12_wind 26 = .ok (.invokevirtual 193, 3) := by decide +kernel
theorem dX12_wind_29 : decode cX12_wind 29 = .ok (.aload_n 0, 1) := by decide +kernel
theorem dX12_wind_30 : decode cX12_wind 30 = .ok (.getfield 22, 3) := by decide +kernel
theorem dX12_wind_33 : decode cX12_wind 33 = .ok (.bipush 8, 2) := by decide +kernel
theorem dX12_wind_35 : decode cX12_wind 35 = .ok (.iaload, 1) := by decide +kernel
theorem dX12_wind_36 : decode cX12_wind 36 = .ok (.istore_n 2, 1) := by decide +kernel
theorem dX12_wind_37 : decode cX12_wind 37 = .ok (.aload_n 0, 1) := by decide +kernel
theorem dX12_wind_38 : decode cX12_wind 38 = .ok (.getfield 22, 3) := by decide +kernel
theorem dX12_wind_41 : decode cX12_wind 41 = .ok (.bipush 8, 2) := by decide +kernel
theorem dX12_wind_43 : decode cX12_wind 43 = .ok (.iload_n 1, 1) := by decide +kernel
theorem dX12_wind_44 : decode cX12_wind 44 = .ok (.iastore, 1) := by decide +kernel
theorem dX12_wind_45 : decode cX12_wind 45 = .ok (.iload_n 2, 1) := by decide +kernel
theorem dX12_wind_46 : decode cX12_wind 46 = .ok (.ireturn, 1) := by decide +kernel
theorem dX12_draw_0 : decode cX12_draw 0 = .ok (.aload_n 0, 1) := by decide +kernel
theorem dX12_draw_1 : decode cX12_draw 1 = .ok (.aload_n 0, 1) := by decide +kernel
theorem dX12_draw_2 : decode cX12_draw 2 = .ok (.getfield 205, 3) := by decide +kernel
theorem dX12_draw_5 : decode cX12_draw 5 = .ok (.i2l, 1) := by decide +kernel
theorem dX12_draw_6 : decode cX12_draw 6 = .ok (.ldc2_w 208, 3) := by decide +kernel
theorem dX12_draw_9 : decode cX12_draw 9 = .ok (.lmul, 1) := by decide +kernel
theorem dX12_draw_10 : decode cX12_draw 10 = .ok (.ldc2_w 210, 3) := by decide +kernel
theorem dX12_draw_13 : decode cX12_draw 13 = .ok (.ladd, 1) := by decide +kernel
theorem dX12_draw_14 : decode cX12_draw 14 = .ok (.ldc2_w 212, 3) := by decide +kernel
theorem dX12_draw_17 : decode cX12_draw 17 = .ok (.lrem, 1) := by decide +kernel
theorem dX12_draw_18 : decode cX12_draw 18 = .ok (.l2i, 1) := by decide +kernel
theorem dX12_draw_19 : decode cX12_draw 19 = .ok (.putfield 205, 3) := by decide +kernel
theorem dX12_draw_22 : decode cX12_draw 22 = .ok (.aload_n 0, 1) := by decide +kernel
theorem dX12_draw_23 : decode cX12_draw 23 = .ok (.getfield 205, 3) := by decide +kernel
theorem dX12_draw_26 : decode cX12_draw 26 = .ok (.ldc 214, 2) := by decide +kernel
theorem dX12_draw_28 : decode cX12_draw 28 = .ok (.idiv, 1) := by decide +kernel
theorem dX12_draw_29 : decode cX12_draw 29 = .ok (.iload_n 1, 1) := by decide +kernel
theorem dX12_draw_30 : decode cX12_draw 30 = .ok (.irem, 1) := by decide +kernel
theorem dX12_draw_31 : decode cX12_draw 31 = .ok (.ireturn, 1) := by decide +kernel
set_option maxRecDepth 20000 in
theorem ggX12_drift_X12_in : GoodIn wsX12_drift wsX12_in := goodIn_r _ [11] (by decide +kernel) (by decide +kernel)
set_option maxRecDepth 20000 in
theorem gX12_drift_X12_in : GoodIn wsX12_drift (va_wsS RX12 82 yX12_in wsX12_in) := goodIn_app (goodIn_of _ (by decide +kernel)) ggX12_drift_X12_in
set_option maxRecDepth 20000 in
theorem ggX12_drift_X12_remember : GoodIn wsX12_drift wsX12_remember := goodIn_r _ [15, 16, 17, 5, 60, 61, 62, 63, 64, 65, 66, 67, 68, 69, 70, 71, 72, 73, 74, 75, 76, 77, 78, 79, 80, 81, 82, 83, 84, 85, 86, 87, 88, 89, 90, 91, 92, 93, 94] (by decide +kernel) (by decide +kernel)
set_option maxRecDepth 20000 in
theorem gX12_drift_X12_remember : GoodIn wsX12_drift (wsV RX12 193 RX12 yX12_remember wsX12_remember) := goodIn_app (goodIn_of _ (by decide +kernel)) ggX12_drift_X12_remember
set_option maxRecDepth 20000 in
theorem ggX12_drift_X12_draw : GoodIn wsX12_drift wsX12_draw := goodIn_r _ [21, 22, 23, 24, 25, 26, 60, 61, 62, 63, 64, 65, 66, 67, 68, 69, 70, 71, 72, 73, 74, 75, 76, 77, 78, 79, 80, 81, 82, 83, 84, 85, 86, 87, 88, 89, 90, 91, 92, 93, 94] (by decide +kernel) (by decide +kernel)
set_option maxRecDepth 20000 in
theorem gX12_drift_X12_draw : GoodIn wsX12_drift (wsV RX12 217 RX12 yX12_draw wsX12_draw) := goodIn_app (goodIn_of _ (by decide +kernel)) ggX12_drift_X12_draw
set_option maxRecDepth 20000 in
theorem ggX12_drift_X12_places : GoodIn wsX12_drift wsX12_places := goodIn_r _ [30, 3, 60, 61, 62, 63, 64, 65, 66, 67, 68, 69, 70, 71, 72, 73, 74, 75, 76, 77, 78, 79, 80, 81, 82, 83, 84, 85, 86, 87, 88, 89, 90, 91, 92, 93, 94] (by decide +kernel) (by decide +kernel)
set_option maxRecDepth 20000 in
theorem gX12_drift_X12_places : GoodIn wsX12_drift (wsV RX12 78 RX12 yX12_places wsX12_places) := goodIn_app (goodIn_of _ (by decide +kernel)) ggX12_drift_X12_places
set_option maxRecDepth 20000 in
theorem ggX12_drift_X12_morningOf : GoodIn wsX12_drift wsX12_morningOf := goodIn_r _ [34, 5, 35, 36, 37, 38, 10, 39, 40, 41, 42, 43, 44, 45, 46, 47, 48, 49, 50, 51, 52, 53, 54, 55, 56, 57, 58, 59, 7, 60, 61, 62, 63, 64, 65, 66, 67, 68, 69, 70, 71, 72, 73, 74, 75, 76, 77, 78, 79, 80, 81, 82, 83, 84, 85, 86, 87, 88, 89, 90, 91, 92, 93, 94] (by decide +kernel) (by decide +kernel)
set_option maxRecDepth 20000 in
theorem gX12_drift_X12_morningOf : GoodIn wsX12_drift (wsV RX12 196 RX12 yX12_morningOf wsX12_morningOf) := goodIn_app (goodIn_of _ (by decide +kernel)) ggX12_drift_X12_morningOf
theorem dX12_drift_0 : decode cX12_drift 0 = .ok (.iload_n 1, 1) := by decide +kernel
theorem dX12_drift_1 : decode cX12_drift 1 = .ok (.i2l, 1) := by decide +kernel
theorem dX12_drift_2 : decode cX12_drift 2 = .ok (.lconst 1, 1) := by decide +kernel
theorem dX12_drift_3 : decode cX12_drift 3 = .ok (.ldc2_w 215, 3) := by decide +kernel
theorem dX12_drift_6 : decode cX12_drift 6 = .ok (.invokestatic 82, 3) := by decide +kernel
theorem dX12_drift_9 : decode cX12_drift 9 = .ok (.ifCond .ne 6, 3) := by decide +kernel
theorem dX12_drift_12 : decode cX12_drift 12 = .ok (.ldc 94, 2) := by decide +kernel
theorem dX12_drift_14 : decode cX12_drift 14 = .ok (.ireturn, 1) := by decide +kernel
theorem dX12_drift_15 : decode cX12_drift 15 = .ok (.aload_n 0, 1) := by decide +kernel
theorem dX12_drift_16 : decode cX12_drift 16 = .ok (.getfield 75, 3) := by decide +kernel
theorem dX12_drift_19 : decode cX12_drift 19 = .ok (.ifCond .ne 6, 3) := by decide +kernel
theorem dX12_drift_22 : decode cX12_drift 22 = .ok (.ldc 204, 2) := by decide +kernel
theorem dX12_drift_24 : decode cX12_drift 24 = .ok (.ireturn, 1) := by decide +kernel
theorem dX12_drift_25 : decode cX12_drift 25 = .ok (.aload_n 0, 1) := by decide +kernel
theorem dX12_drift_26 : decode cX12_drift 26 = .ok (.getfield 22, 3) := by decide +kernel
theorem dX12_drift_29 : decode cX12_drift 29 = .ok (.bipush 16, 2) := by decide +kernel
theorem dX12_drift_31 : decode cX12_drift 31 = .ok (.iaload, 1) := by decide +kernel
theorem dX12_drift_32 : decode cX12_drift 32 = .ok (.sipush 9000, 3) := by decide +kernel
theorem dX12_drift_35 : decode cX12_drift 35 = .ok (.if_icmp .le 6, 3) := by decide +kernel
theorem dX12_drift_38 : decode cX12_drift 38 = .ok (.ldc 98, 2) := by decide +kernel
theorem dX12_drift_40 : decode cX12_drift 40 = .ok (.ireturn, 1) := by decide +kernel
theorem dX12_drift_41 : decode cX12_drift 41 = .ok (.aload_n 0, 1) := by decide +kernel
theorem dX12_drift_42 : decode cX12_drift 42 = .ok (.invokevirtual 193, 3) := by decide +kernel
theorem dX12_drift_45 : decode cX12_drift 45 = .ok (.iconst 0, 1) := by decide +kernel
theorem dX12_drift_46 : decode cX12_drift 46 = .ok (.istore_n 2, 1) := by decide +kernel
theorem dX12_drift_47 : decode cX12_drift 47 = .ok (.iload_n 2, 1) := by decide +kernel
theorem dX12_drift_48 : decode cX12_drift 48 = .ok (.iload_n 1, 1) := by decide +kernel
theorem dX12_drift_49 : decode cX12_drift 49 = .ok (.if_icmp .ge 55, 3) := by decide +kernel
theorem dX12_drift_52 : decode cX12_drift 52 = .ok (.aload_n 0, 1) := by decide +kernel
theorem dX12_drift_53 : decode cX12_drift 53 = .ok (.getfield 86, 3) := by decide +kernel
theorem dX12_drift_56 : decode cX12_drift 56 = .ok (.ifCond .le 48, 3) := by decide +kernel
theorem dX12_drift_59 : decode cX12_drift 59 = .ok (.aload_n 0, 1) := by decide +kernel
theorem dX12_drift_60 : decode cX12_drift 60 = .ok (.aload_n 0, 1) := by decide +kernel
theorem dX12_drift_61 : decode cX12_drift 61 = .ok (.getfield 86, 3) := by decide +kernel
theorem dX12_drift_64 : decode cX12_drift 64 = .ok (.invokevirtual 217, 3) := by decide +kernel
theorem dX12_drift_67 : decode cX12_drift 67 = .ok (.istore_n 3, 1) := by decide +kernel
theorem dX12_drift_68 : decode cX12_drift 68 = .ok (.aload_n 0, 1) := by decide +kernel
theorem dX12_drift_69 : decode cX12_drift 69 = .ok (.iload_n 3, 1) := by decide +kernel
theorem dX12_drift_70 : decode cX12_drift 70 = .ok (.aload_n 0, 1) := by decide +kernel
theorem dX12_drift_71 : decode cX12_drift 71 = .ok (.aload_n 0, 1) := by decide +kernel
theorem dX12_drift_72 : decode cX12_drift 72 = .ok (.invokevirtual 78, 3) := by decide +kernel
theorem dX12_drift_75 : decode cX12_drift 75 = .ok (.invokevirtual 217, 3) := by decide +kernel
theorem dX12_drift_78 : decode cX12_drift 78 = .ok (.invokevirtual 196, 3) := by decide +kernel
theorem dX12_drift_81 : decode cX12_drift 81 = .ok (.aload_n 0, 1) := by decide +kernel
theorem dX12_drift_82 : decode cX12_drift 82 = .ok (.getfield 22, 3) := by decide +kernel
theorem dX12_drift_85 : decode cX12_drift 85 = .ok (.bipush 8, 2) := by decide +kernel
theorem dX12_drift_87 : decode cX12_drift 87 = .ok (.aload_n 0, 1) := by decide +kernel
theorem dX12_drift_88 : decode cX12_drift 88 = .ok (.iconst 5, 1) := by decide +kernel
theorem dX12_drift_89 : decode cX12_drift 89 = .ok (.invokevirtual 217, 3) := by decide +kernel
theorem dX12_drift_92 : decode cX12_drift 92 = .ok (.iconst 2, 1) := by decide +kernel
theorem dX12_drift_93 : decode cX12_drift 93 = .ok (.isub, 1) := by decide +kernel
theorem dX12_drift_94 : decode cX12_drift 94 = .ok (.bipush 9, 2) := by decide +kernel
theorem dX12_drift_96 : decode cX12_drift 96 = .ok (.iadd, 1) := by decide +kernel
theorem dX12_drift_97 : decode cX12_drift 97 = .ok (.iastore, 1) := by decide +kernel
theorem dX12_drift_98 : decode cX12_drift 98 = .ok (.iinc 2 1, 3) := by decide +kernel
theorem dX12_drift_101 : decode cX12_drift 101 = .ok (.goto (-54), 3) := by decide +kernel
theorem dX12_drift_104 : decode cX12_drift 104 = .ok (.aload_n 0, 1) := by decide +kernel
theorem dX12_drift_105 : decode cX12_drift 105 = .ok (.getfield 22, 3) := by decide +kernel
theorem dX12_drift_108 : decode cX12_drift 108 = .ok (.bipush 19, 2) := by decide +kernel
theorem dX12_drift_110 : decode cX12_drift 110 = .ok (.iaload, 1) := by decide +kernel
theorem dX12_drift_111 : decode cX12_drift 111 = .ok (.ireturn, 1) := by decide +kernel
theorem dX12_undo_0 : decode cX12_undo 0 = .ok (.aload_n 0, 1) := by decide +kernel
theorem dX12_undo_1 : decode cX12_undo 1 = .ok (.getfield 162, 3) := by decide +kernel
theorem dX12_undo_4 : decode cX12_undo 4 = .ok (.ifCond .ne 6, 3) := by decide +kernel
theorem dX12_undo_7 : decode cX12_undo 7 = .ok (.ldc 204, 2) := by decide +kernel
theorem dX12_undo_9 : decode cX12_undo 9 = .ok (.ireturn, 1) := by decide +kernel
theorem dX12_undo_10 : decode cX12_undo 10 = .ok (.aload_n 0, 1) := by decide +kernel
theorem dX12_undo_11 : decode cX12_undo 11 = .ok (.dup, 1) := by decide +kernel
theorem dX12_undo_12 : decode cX12_undo 12 = .ok (.getfield 162, 3) := by decide +kernel
theorem dX12_undo_15 : decode cX12_undo 15 = .ok (.iconst 1, 1) := by decide +kernel
theorem dX12_undo_16 : decode cX12_undo 16 = .ok (.isub, 1) := by decide +kernel
theorem dX12_undo_17 : decode cX12_undo 17 = .ok (.putfield 162, 3) := by decide +kernel
theorem dX12_undo_20 : decode cX12_undo 20 = .ok (.iconst 0, 1) := by decide +kernel
theorem dX12_undo_21 : decode cX12_undo 21 = .ok (.istore_n 1, 1) := by decide +kernel
theorem dX12_undo_22 : decode cX12_undo 22 = .ok (.iload_n 1, 1) := by decide +kernel
theorem dX12_undo_23 : decode cX12_undo 23 = .ok (.bipush 28, 2) := by decide +kernel
theorem dX12_undo_25 : decode cX12_undo 25 = .ok (.if_icmp .ge 29, 3) := by decide +kernel
theorem dX12_undo_28 : decode cX12_undo 28 = .ok (.aload_n 0, 1) := by decide +kernel
theorem dX12_undo_29 : decode cX12_undo 29 = .ok (.getfield 22, 3) := by decide +kernel
theorem dX12_undo_32 : decode cX12_undo 32 = .ok (.iload_n 1, 1) := by decide +kernel
theorem dX12_undo_33 : decode cX12_undo 33 = .ok (.aload_n 0, 1) := by decide +kernel
theorem dX12_undo_34 : decode cX12_undo 34 = .ok (.getfield 50, 3) := by decide +kernel
theorem dX12_undo_37 : decode cX12_undo 37 = .ok (.bipush 28, 2) := by decide +kernel
theorem dX12_undo_39 : decode cX12_undo 39 = .ok (.aload_n 0, 1) := by decide +kernel
theorem dX12_undo_40 : decode cX12_undo 40 = .ok (.getfield 162, 3) := by decide +kernel
theorem dX12_undo_43 : decode cX12_undo 43 = .ok (.imul, 1) := by decide +kernel
theorem dX12_undo_44 : decode cX12_undo 44 = .ok (.iload_n 1, 1) := by decide +kernel
theorem dX12_undo_45 : decode cX12_undo 45 = .ok (.iadd, 1) := by decide +kernel
theorem dX12_undo_46 : decode cX12_undo 46 = .ok (.iaload, 1) := by decide +kernel
theorem dX12_undo_47 : decode cX12_undo 47 = .ok (.iastore, 1) := by decide +kernel
theorem dX12_undo_48 : decode cX12_undo 48 = .ok (.iinc 1 1, 3) := by decide +kernel
theorem dX12_undo_51 : decode cX12_undo 51 = .ok (.goto (-29), 3) := by decide +kernel
theorem dX12_undo_54 : decode cX12_undo 54 = .ok (.aload_n 0, 1) := by decide +kernel
theorem dX12_undo_55 : decode cX12_undo 55 = .ok (.getfield 162, 3) := by decide +kernel
theorem dX12_undo_58 : decode cX12_undo 58 = .ok (.ireturn, 1) := by decide +kernel
set_option maxRecDepth 20000 in
theorem ggX12_comes_X12_isSound : GoodIn wsX12_comes wsX12_isSound := goodIn_r _ [6, 7, 8, 9, 5, 10, 26, 27, 28, 29, 30, 31, 32, 33, 34, 35, 36, 37, 38, 39, 40, 41, 42, 43, 44, 45, 46, 47, 48, 49, 50, 51, 52, 53, 54, 55, 56, 57, 58, 59, 60] (by decide +kernel) (by decide +kernel)
set_option maxRecDepth 20000 in
theorem gX12_comes_X12_isSound : GoodIn wsX12_comes (wsV RX12 166 RX12 yX12_isSound wsX12_isSound) := goodIn_app (goodIn_of _ (by decide +kernel)) ggX12_comes_X12_isSound
set_option maxRecDepth 20000 in
theorem ggX12_comes_X12_isPlace : GoodIn wsX12_comes wsX12_isPlace := goodIn_r _ [14, 15, 16, 17, 5, 18, 19, 8, 9, 10, 26, 27, 28, 29, 30, 31, 32, 33, 34, 35, 36, 37, 38, 39, 40, 41, 42, 43, 44, 45, 46, 47, 48, 49, 50, 51, 52, 53, 54, 55, 56, 57, 58, 59, 60] (by decide +kernel) (by decide +kernel)
set_option maxRecDepth 20000 in
theorem gX12_comes_X12_isPlace : GoodIn wsX12_comes (wsV RX12 190 RX12 yX12_isPlace wsX12_isPlace) := goodIn_app (goodIn_of _ (by decide +kernel)) ggX12_comes_X12_isPlace
set_option maxRecDepth 20000 in
theorem ggX12_comes_X12_loudAt : GoodIn wsX12_comes wsX12_loudAt := goodIn_r _ [23, 24, 25, 26, 27, 28, 29, 30, 31, 32, 33, 34, 35, 36, 37, 38, 39, 40, 41, 42, 43, 44, 45, 46, 47, 48, 49, 50, 51, 52, 53, 54, 55, 56, 57, 58, 59, 60] (by decide +kernel) (by decide +kernel)
set_option maxRecDepth 20000 in
theorem gX12_comes_X12_loudAt : GoodIn wsX12_comes (wsV RX12 173 RX12 yX12_loudAt wsX12_loudAt) := goodIn_app (goodIn_of _ (by decide +kernel)) ggX12_comes_X12_loudAt
theorem dX12_comes_0 : decode cX12_comes 0 = .ok (.aload_n 0, 1) := by decide +kernel
theorem dX12_comes_1 : decode cX12_comes 1 = .ok (.iload_n 1, 1) := by decide +kernel
theorem dX12_comes_2 : decode cX12_comes 2 = .ok (.invokevirtual 166, 3) := by decide +kernel
theorem dX12_comes_5 : decode cX12_comes 5 = .ok (.ifCond .eq 33, 3) := by decide +kernel
theorem dX12_comes_8 : decode cX12_comes 8 = .ok (.aload_n 0, 1) := by decide +kernel
theorem dX12_comes_9 : decode cX12_comes 9 = .ok (.iload_n 2, 1) := by decide +kernel
theorem dX12_comes_10 : decode cX12_comes 10 = .ok (.invokevirtual 190, 3) := by decide +kernel
theorem dX12_comes_13 : decode cX12_comes 13 = .ok (.ifCond .eq 25, 3) := by decide +kernel
theorem dX12_comes_16 : decode cX12_comes 16 = .ok (.aload_n 0, 1) := by decide +kernel
theorem dX12_comes_17 : decode cX12_comes 17 = .ok (.iload_n 3, 1) := by decide +kernel
theorem dX12_comes_18 : decode cX12_comes 18 = .ok (.invokevirtual 190, 3) := by decide +kernel
theorem dX12_comes_21 : decode cX12_comes 21 = .ok (.ifCond .eq 17, 3) := by decide +kernel
theorem dX12_comes_24 : decode cX12_comes 24 = .ok (.aload_n 0, 1) := by decide +kernel
theorem dX12_comes_25 : decode cX12_comes 25 = .ok (.iload_n 1, 1) := by decide +kernel
theorem dX12_comes_26 : decode cX12_comes 26 = .ok (.iload_n 2, 1) := by decide +kernel
theorem dX12_comes_27 : decode cX12_comes 27 = .ok (.iload_n 3, 1) := by decide +kernel
theorem dX12_comes_28 : decode cX12_comes 28 = .ok (.invokevirtual 173, 3) := by decide +kernel
theorem dX12_comes_31 : decode cX12_comes 31 = .ok (.sipush 1000, 3) := by decide +kernel
theorem dX12_comes_34 : decode cX12_comes 34 = .ok (.iadd, 1) := by decide +kernel
theorem dX12_comes_35 : decode cX12_comes 35 = .ok (.goto 5, 3) := by decide +kernel
theorem dX12_comes_38 : decode cX12_comes 38 = .ok (.ldc 165, 2) := by decide +kernel
theorem dX12_comes_40 : decode cX12_comes 40 = .ok (.ireturn, 1) := by decide +kernel
set_option maxRecDepth 20000 in
theorem ggX12_says_X12_isWitness : GoodIn wsX12_says wsX12_isWitness := goodIn_r _ [6, 7, 8, 9, 5, 10, 50, 51, 52, 53, 54, 55, 56, 57, 58, 59, 60, 61, 62, 63, 64, 65, 66, 67, 68, 69, 70, 71, 72, 73, 74, 75, 76, 77, 78, 79, 80, 81, 82, 83, 84] (by decide +kernel) (by decide +kernel)
set_option maxRecDepth 20000 in
theorem gX12_says_X12_isWitness : GoodIn wsX12_says (wsV RX12 170 RX12 yX12_isWitness wsX12_isWitness) := goodIn_app (goodIn_of _ (by decide +kernel)) ggX12_says_X12_isWitness
set_option maxRecDepth 20000 in
theorem ggX12_says_X12_isSound : GoodIn wsX12_says wsX12_isSound := goodIn_r _ [14, 15, 8, 9, 5, 10, 50, 51, 52, 53, 54, 55, 56, 57, 58, 59, 60, 61, 62, 63, 64, 65, 66, 67, 68, 69, 70, 71, 72, 73, 74, 75, 76, 77, 78, 79, 80, 81, 82, 83, 84] (by decide +kernel) (by decide +kernel)
set_option maxRecDepth 20000 in
theorem gX12_says_X12_isSound : GoodIn wsX12_says (wsV RX12 166 RX12 yX12_isSound wsX12_isSound) := goodIn_app (goodIn_of _ (by decide +kernel)) ggX12_says_X12_isSound
set_option maxRecDepth 20000 in
theorem ggX12_says_X12_isPlace : GoodIn wsX12_says wsX12_isPlace := goodIn_r _ [19, 20, 21, 22, 5, 23, 24, 8, 9, 10, 50, 51, 52, 53, 54, 55, 56, 57, 58, 59, 60, 61, 62, 63, 64, 65, 66, 67, 68, 69, 70, 71, 72, 73, 74, 75, 76, 77, 78, 79, 80, 81, 82, 83, 84] (by decide +kernel) (by decide +kernel)
set_option maxRecDepth 20000 in
theorem gX12_says_X12_isPlace : GoodIn wsX12_says (wsV RX12 190 RX12 yX12_isPlace wsX12_isPlace) := goodIn_app (goodIn_of _ (by decide +kernel)) ggX12_says_X12_isPlace
set_option maxRecDepth 20000 in
theorem ggX12_says_X12_sayingOf : GoodIn wsX12_says wsX12_sayingOf := goodIn_r _ [28, 29, 30, 31, 32, 33, 5, 34, 15, 35, 36, 37, 38, 39, 40, 41, 42, 43, 44, 45, 46, 47, 48, 49, 50, 51, 52, 53, 54, 55, 56, 57, 58, 59, 60, 61, 62, 63, 64, 65, 66, 67, 68, 69, 70, 71, 72, 73, 74, 75, 76, 77, 78, 79, 80, 81, 82, 83, 84] (by decide +kernel) (by decide +kernel)
set_option maxRecDepth 20000 in
theorem gX12_says_X12_sayingOf : GoodIn wsX12_says (wsV RX12 187 RX12 yX12_sayingOf wsX12_sayingOf) := goodIn_app (goodIn_of _ (by decide +kernel)) ggX12_says_X12_sayingOf
theorem dX12_says_0 : decode cX12_says 0 = .ok (.aload_n 0, 1) := by decide +kernel
theorem dX12_says_1 : decode cX12_says 1 = .ok (.iload_n 1, 1) := by decide +kernel
theorem dX12_says_2 : decode cX12_says 2 = .ok (.invokevirtual 170, 3) := by decide +kernel
theorem dX12_says_5 : decode cX12_says 5 = .ok (.ifCond .eq 29, 3) := by decide +kernel
theorem dX12_says_8 : decode cX12_says 8 = .ok (.aload_n 0, 1) := by decide +kernel
theorem dX12_says_9 : decode cX12_says 9 = .ok (.iload_n 2, 1) := by decide +kernel
theorem dX12_says_10 : decode cX12_says 10 = .ok (.invokevirtual 166, 3) := by decide +kernel
theorem dX12_says_13 : decode cX12_says 13 = .ok (.ifCond .eq 21, 3) := by decide +kernel
theorem dX12_says_16 : decode cX12_says 16 = .ok (.aload_n 0, 1) := by decide +kernel
theorem dX12_says_17 : decode cX12_says 17 = .ok (.iload_n 3, 1) := by decide +kernel
theorem dX12_says_18 : decode cX12_says 18 = .ok (.invokevirtual 190, 3) := by decide +kernel
theorem dX12_says_21 : decode cX12_says 21 = .ok (.ifCond .eq 13, 3) := by decide +kernel
theorem dX12_says_24 : decode cX12_says 24 = .ok (.aload_n 0, 1) := by decide +kernel
theorem dX12_says_25 : decode cX12_says 25 = .ok (.iload_n 1, 1) := by decide +kernel
theorem dX12_says_26 : decode cX12_says 26 = .ok (.iload_n 2, 1) := by decide +kernel
theorem dX12_says_27 : decode cX12_says 27 = .ok (.iload_n 3, 1) := by decide +kernel
theorem dX12_says_28 : decode cX12_says 28 = .ok (.invokevirtual 187, 3) := by decide +kernel
theorem dX12_says_31 : decode cX12_says 31 = .ok (.goto 5, 3) := by decide +kernel
theorem dX12_says_34 : decode cX12_says 34 = .ok (.ldc 165, 2) := by decide +kernel
theorem dX12_says_36 : decode cX12_says 36 = .ok (.ireturn, 1) := by decide +kernel
set_option maxRecDepth 20000 in
theorem ggX12_listenTo_X12_places : GoodIn wsX12_listenTo wsX12_places := goodIn_r _ [5, 6, 13, 14, 15, 16, 17, 18, 19, 20, 21, 22, 23, 24, 25, 26, 27, 28, 29, 30, 31, 32, 33, 34, 35, 36, 37, 38, 39, 40, 41, 42, 43, 44, 45, 46, 47] (by decide +kernel) (by decide +kernel)
set_option maxRecDepth 20000 in
theorem gX12_listenTo_X12_places : GoodIn wsX12_listenTo (wsV RX12 78 RX12 yX12_places wsX12_places) := goodIn_app (goodIn_of _ (by decide +kernel)) ggX12_listenTo_X12_places
set_option maxRecDepth 20000 in
theorem ggX12_listenTo_X12_loudAt : GoodIn wsX12_listenTo wsX12_loudAt := goodIn_r _ [10, 11, 12, 13, 14, 15, 16, 17, 18, 19, 20, 21, 22, 23, 24, 25, 26, 27, 28, 29, 30, 31, 32, 33, 34, 35, 36, 37, 38, 39, 40, 41, 42, 43, 44, 45, 46, 47] (by decide +kernel) (by decide +kernel)
set_option maxRecDepth 20000 in
theorem gX12_listenTo_X12_loudAt : GoodIn wsX12_listenTo (wsV RX12 173 RX12 yX12_loudAt wsX12_loudAt) := goodIn_app (goodIn_of _ (by decide +kernel)) ggX12_listenTo_X12_loudAt
theorem dX12_listenTo_0 : decode cX12_listenTo 0 = .ok (.iconst 0, 1) := by decide +kernel
theorem dX12_listenTo_1 : decode cX12_listenTo 1 = .ok (.istore 4, 2) := by decide +kernel
theorem dX12_listenTo_3 : decode cX12_listenTo 3 = .ok (.iconst 0, 1) := by decide +kernel
theorem dX12_listenTo_4 : decode cX12_listenTo 4 = .ok (.istore 5, 2) := by decide +kernel
theorem dX12_listenTo_6 : decode cX12_listenTo 6 = .ok (.iload 5, 2) := by decide +kernel
theorem dX12_listenTo_8 : decode cX12_listenTo 8 = .ok (.aload_n 0, 1) := by decide +kernel
theorem dX12_listenTo_9 : decode cX12_listenTo 9 = .ok (.invokevirtual 78, 3) := by decide +kernel
theorem dX12_listenTo_12 : decode cX12_listenTo 12 = .ok (.if_icmp .ge 34, 3) := by decide +kernel
theorem dX12_listenTo_15 : decode cX12_listenTo 15 = .ok (.iload 4, 2) := by decide +kernel
theorem dX12_listenTo_17 : decode cX12_listenTo 17 = .ok (.aload_n 0, 1) := by decide +kernel
theorem dX12_listenTo_18 : decode cX12_listenTo 18 = .ok (.iload_n 1, 1) := by decide +kernel
theorem dX12_listenTo_19 : decode cX12_listenTo 19 = .ok (.iload_n 2, 1) := by decide +kernel
theorem dX12_listenTo_20 : decode cX12_listenTo 20 = .ok (.iload 5, 2) := by decide +kernel
theorem dX12_listenTo_22 : decode cX12_listenTo 22 = .ok (.invokevirtual 173, 3) := by decide +kernel
theorem dX12_listenTo_25 : decode cX12_listenTo 25 = .ok (.iload_n 3, 1) := by decide +kernel
theorem dX12_listenTo_26 : decode cX12_listenTo 26 = .ok (.if_icmp .lt 10, 3) := by decide +kernel
theorem dX12_listenTo_29 : decode cX12_listenTo 29 = .ok (.iconst 1, 1) := by decide +kernel
theorem dX12_listenTo_30 : decode cX12_listenTo 30 = .ok (.iload 5, 2) := by decide +kernel
theorem dX12_listenTo_32 : decode cX12_listenTo 32 = .ok (.ishl, 1) := by decide +kernel
theorem dX12_listenTo_33 : decode cX12_listenTo 33 = .ok (.goto 4, 3) := by decide +kernel
theorem dX12_listenTo_36 : decode cX12_listenTo 36 = .ok (.iconst 0, 1) := by decide +kernel
theorem dX12_listenTo_37 : decode cX12_listenTo 37 = .ok (.ior, 1) := by decide +kernel
theorem dX12_listenTo_38 : decode cX12_listenTo 38 = .ok (.istore 4, 2) := by decide +kernel
theorem dX12_listenTo_40 : decode cX12_listenTo 40 = .ok (.iinc 5 1, 3) := by decide +kernel
theorem dX12_listenTo_43 : decode cX12_listenTo 43 = .ok (.goto (-37), 3) := by decide +kernel
theorem dX12_listenTo_46 : decode cX12_listenTo 46 = .ok (.iload 4, 2) := by decide +kernel
theorem dX12_listenTo_48 : decode cX12_listenTo 48 = .ok (.ireturn, 1) := by decide +kernel
set_option maxRecDepth 20000 in
theorem ggX12_listen_X12_isSound : GoodIn wsX12_listen wsX12_isSound := goodIn_r _ [8, 9, 10, 11, 7, 12, 32, 33, 34, 35, 36, 37, 38, 39, 40, 41, 42, 43, 44, 45, 46, 47, 48, 49, 50, 51, 52, 53, 54, 55, 56, 57, 58, 59, 60, 61, 62, 63, 64, 65, 66] (by decide +kernel) (by decide +kernel)
set_option maxRecDepth 20000 in
theorem gX12_listen_X12_isSound : GoodIn wsX12_listen (wsV RX12 166 RX12 yX12_isSound wsX12_isSound) := goodIn_app (goodIn_of _ (by decide +kernel)) ggX12_listen_X12_isSound
set_option maxRecDepth 20000 in
theorem ggX12_listen_X12_isPlace : GoodIn wsX12_listen wsX12_isPlace := goodIn_r _ [16, 17, 18, 19, 7, 20, 21, 10, 11, 12, 32, 33, 34, 35, 36, 37, 38, 39, 40, 41, 42, 43, 44, 45, 46, 47, 48, 49, 50, 51, 52, 53, 54, 55, 56, 57, 58, 59, 60, 61, 62, 63, 64, 65, 66] (by decide +kernel) (by decide +kernel)
set_option maxRecDepth 20000 in
theorem gX12_listen_X12_isPlace : GoodIn wsX12_listen (wsV RX12 190 RX12 yX12_isPlace wsX12_isPlace) := goodIn_app (goodIn_of _ (by decide +kernel)) ggX12_listen_X12_isPlace
set_option maxRecDepth 20000 in
theorem ggX12_listen_X12_in : GoodIn wsX12_listen wsX12_in := goodIn_r _ [12] (by decide +kernel) (by decide +kernel)
set_option maxRecDepth 20000 in
theorem gX12_listen_X12_in : GoodIn wsX12_listen (va_wsS RX12 82 yX12_in wsX12_in) := goodIn_app (goodIn_of _ (by decide +kernel)) ggX12_listen_X12_in
set_option maxRecDepth 20000 in
theorem ggX12_listen_X12_listenTo : GoodIn wsX12_listen wsX12_listenTo := goodIn_r _ [25, 17, 18, 19, 7, 20, 21, 26, 27, 28, 29, 30, 31, 32, 33, 34, 35, 36, 37, 38, 39, 40, 41, 42, 43, 44, 45, 46, 47, 48, 49, 50, 51, 52, 53, 54, 55, 56, 57, 58, 59, 60, 61, 62, 63, 64, 65, 66] (by decide +kernel) (by decide +kernel)
set_option maxRecDepth 20000 in
theorem gX12_listen_X12_listenTo : GoodIn wsX12_listen (wsV RX12 223 RX12 yX12_listenTo wsX12_listenTo) := goodIn_app (goodIn_of _ (by decide +kernel)) ggX12_listen_X12_listenTo
theorem dX12_listen_0 : decode cX12_listen 0 = .ok (.aload_n 0, 1) := by decide +kernel
theorem dX12_listen_1 : decode cX12_listen 1 = .ok (.iload_n 1, 1) := by decide +kernel
theorem dX12_listen_2 : decode cX12_listen 2 = .ok (.invokevirtual 166, 3) := by decide +kernel
theorem dX12_listen_5 : decode cX12_listen 5 = .ok (.ifCond .eq 11, 3) := by decide +kernel
theorem dX12_listen_8 : decode cX12_listen 8 = .ok (.aload_n 0, 1) := by decide +kernel
theorem dX12_listen_9 : decode cX12_listen 9 = .ok (.iload_n 2, 1) := by decide +kernel
theorem dX12_listen_10 : decode cX12_listen 10 = .ok (.invokevirtual 190, 3) := by decide +kernel
theorem dX12_listen_13 : decode cX12_listen 13 = .ok (.ifCond .ne 6, 3) := by decide +kernel
theorem dX12_listen_16 : decode cX12_listen 16 = .ok (.ldc 165, 2) := by decide +kernel
theorem dX12_listen_18 : decode cX12_listen 18 = .ok (.ireturn, 1) := by decide +kernel
theorem dX12_listen_19 : decode cX12_listen 19 = .ok (.iload_n 3, 1) := by decide +kernel
theorem dX12_listen_20 : decode cX12_listen 20 = .ok (.i2l, 1) := by decide +kernel
theorem dX12_listen_21 : decode cX12_listen 21 = .ok (.lconst 0, 1) := by decide +kernel
theorem dX12_listen_22 : decode cX12_listen 22 = .ok (.ldc2_w 221, 3) := by decide +kernel
theorem dX12_listen_25 : decode cX12_listen 25 = .ok (.invokestatic 82, 3) := by decide +kernel
theorem dX12_listen_28 : decode cX12_listen 28 = .ok (.ifCond .eq 13, 3) := by decide +kernel
theorem dX12_listen_31 : decode cX12_listen 31 = .ok (.aload_n 0, 1) := by decide +kernel
theorem dX12_listen_32 : decode cX12_listen 32 = .ok (.iload_n 1, 1) := by decide +kernel
theorem dX12_listen_33 : decode cX12_listen 33 = .ok (.iload_n 2, 1) := by decide +kernel
theorem dX12_listen_34 : decode cX12_listen 34 = .ok (.iload_n 3, 1) := by decide +kernel
theorem dX12_listen_35 : decode cX12_listen 35 = .ok (.invokevirtual 223, 3) := by decide +kernel
theorem dX12_listen_38 : decode cX12_listen 38 = .ok (.goto 5, 3) := by decide +kernel
theorem dX12_listen_41 : decode cX12_listen 41 = .ok (.ldc 94, 2) := by decide +kernel
theorem dX12_listen_43 : decode cX12_listen 43 = .ok (.ireturn, 1) := by decide +kernel
set_option maxRecDepth 20000 in
theorem ggX12_isHeard_X12_hears : GoodIn wsX12_isHeard wsX12_hears := goodIn_r _ [6, 7, 8, 9, 10, 11, 5, 12, 13, 14, 15, 16, 17, 18, 19, 20, 21, 22, 23, 24, 25, 26, 27, 28, 29, 30, 31, 32, 33, 34, 35, 36, 37, 38, 39, 40, 41, 42, 43, 44, 45, 46, 47, 48] (by decide +kernel) (by decide +kernel)
set_option maxRecDepth 20000 in
theorem gX12_isHeard_X12_hears : GoodIn wsX12_isHeard (wsV RX12 184 RX12 yX12_hears wsX12_hears) := goodIn_app (goodIn_of _ (by decide +kernel)) ggX12_isHeard_X12_hears
theorem dX12_isHeard_0 : decode cX12_isHeard 0 = .ok (.iconst 0, 1) := by decide +kernel
theorem dX12_isHeard_1 : decode cX12_isHeard 1 = .ok (.istore_n 3, 1) := by decide +kernel
theorem dX12_isHeard_2 : decode cX12_isHeard 2 = .ok (.iconst 0, 1) := by decide +kernel
theorem dX12_isHeard_3 : decode cX12_isHeard 3 = .ok (.istore 4, 2) := by decide +kernel
theorem dX12_isHeard_5 : decode cX12_isHeard 5 = .ok (.iload 4, 2) := by decide +kernel
theorem dX12_isHeard_7 : decode cX12_isHeard 7 = .ok (.aload_n 0, 1) := by decide +kernel
theorem dX12_isHeard_8 : decode cX12_isHeard 8 = .ok (.getfield 89, 3) := by decide +kernel
theorem dX12_isHeard_11 : decode cX12_isHeard 11 = .ok (.if_icmp .ge 30, 3) := by decide +kernel
theorem dX12_isHeard_14 : decode cX12_isHeard 14 = .ok (.iload_n 3, 1) := by decide +kernel
theorem dX12_isHeard_15 : decode cX12_isHeard 15 = .ok (.ifCond .ne 14, 3) := by decide +kernel
theorem dX12_isHeard_18 : decode cX12_isHeard 18 = .ok (.aload_n 0, 1) := by decide +kernel
theorem dX12_isHeard_19 : decode cX12_isHeard 19 = .ok (.iload 4, 2) := by decide +kernel
theorem dX12_isHeard_21 : decode cX12_isHeard 21 = .ok (.iload_n 1, 1) := by decide +kernel
theorem dX12_isHeard_22 : decode cX12_isHeard 22 = .ok (.iload_n 2, 1) := by decide +kernel
theorem dX12_isHeard_23 : decode cX12_isHeard 23 = .ok (.invokevirtual 184, 3) := by decide +kernel
theorem dX12_isHeard_26 : decode cX12_isHeard 26 = .ok (.ifCond .eq 7, 3) := by decide +kernel
theorem dX12_isHeard_29 : decode cX12_isHeard 29 = .ok (.iconst 1, 1) := by decide +kernel
theorem dX12_isHeard_30 : decode cX12_isHeard 30 = .ok (.goto 4, 3) := by decide +kernel
theorem dX12_isHeard_33 : decode cX12_isHeard 33 = .ok (.iconst 0, 1) := by decide +kernel
theorem dX12_isHeard_34 : decode cX12_isHeard 34 = .ok (.istore_n 3, 1) := by decide +kernel
theorem dX12_isHeard_35 : decode cX12_isHeard 35 = .ok (.iinc 4 1, 3) := by decide +kernel
theorem dX12_isHeard_38 : decode cX12_isHeard 38 = .ok (.goto (-33), 3) := by decide +kernel
theorem dX12_isHeard_41 : decode cX12_isHeard 41 = .ok (.iload_n 3, 1) := by decide +kernel
theorem dX12_isHeard_42 : decode cX12_isHeard 42 = .ok (.ireturn, 1) := by decide +kernel
set_option maxRecDepth 20000 in
theorem ggX12_deaf_X12_isSound : GoodIn wsX12_deaf wsX12_isSound := goodIn_r _ [6, 7, 8, 9, 5, 10, 32, 33, 34, 35, 36, 37, 38, 39, 40, 41, 42, 43, 44, 45, 46, 47, 48, 49, 50, 51, 52, 53, 54, 55, 56, 57, 58, 59, 60, 61, 62, 63, 64, 65, 66] (by decide +kernel) (by decide +kernel)
set_option maxRecDepth 20000 in
theorem gX12_deaf_X12_isSound : GoodIn wsX12_deaf (wsV RX12 166 RX12 yX12_isSound wsX12_isSound) := goodIn_app (goodIn_of _ (by decide +kernel)) ggX12_deaf_X12_isSound
set_option maxRecDepth 20000 in
theorem ggX12_deaf_X12_places : GoodIn wsX12_deaf wsX12_places := goodIn_r _ [14, 15, 32, 33, 34, 35, 36, 37, 38, 39, 40, 41, 42, 43, 44, 45, 46, 47, 48, 49, 50, 51, 52, 53, 54, 55, 56, 57, 58, 59, 60, 61, 62, 63, 64, 65, 66] (by decide +kernel) (by decide +kernel)
set_option maxRecDepth 20000 in
theorem gX12_deaf_X12_places : GoodIn wsX12_deaf (wsV RX12 78 RX12 yX12_places wsX12_places) := goodIn_app (goodIn_of _ (by decide +kernel)) ggX12_deaf_X12_places
set_option maxRecDepth 20000 in
theorem ggX12_deaf_X12_isHeard : GoodIn wsX12_deaf wsX12_isHeard := goodIn_r _ [19, 20, 21, 22, 23, 5, 24, 25, 26, 27, 28, 29, 30, 31, 32, 33, 34, 35, 36, 37, 38, 39, 40, 41, 42, 43, 44, 45, 46, 47, 48, 49, 50, 51, 52, 53, 54, 55, 56, 57, 58, 59, 60, 61, 62, 63, 64, 65, 66] (by decide +kernel) (by decide +kernel)
set_option maxRecDepth 20000 in
theorem gX12_deaf_X12_isHeard : GoodIn wsX12_deaf (wsV RX12 226 RX12 yX12_isHeard wsX12_isHeard) := goodIn_app (goodIn_of _ (by decide +kernel)) ggX12_deaf_X12_isHeard
theorem dX12_deaf_0 : decode cX12_deaf 0 = .ok (.aload_n 0, 1) := by decide +kernel
theorem dX12_deaf_1 : decode cX12_deaf 1 = .ok (.iload_n 1, 1) := by decide +kernel
theorem dX12_deaf_2 : decode cX12_deaf 2 = .ok (.invokevirtual 166, 3) := by decide +kernel
theorem dX12_deaf_5 : decode cX12_deaf 5 = .ok (.ifCond .ne 6, 3) := by decide +kernel
theorem dX12_deaf_8 : decode cX12_deaf 8 = .ok (.ldc 165, 2) := by decide +kernel
theorem dX12_deaf_10 : decode cX12_deaf 10 = .ok (.ireturn, 1) := by decide +kernel
theorem dX12_deaf_11 : decode cX12_deaf 11 = .ok (.iconst 0, 1) := by decide +kernel
theorem dX12_deaf_12 : decode cX12_deaf 12 = .ok (.istore_n 2, 1) := by decide +kernel
theorem dX12_deaf_13 : decode cX12_deaf 13 = .ok (.iconst 0, 1) := by decide +kernel
theorem dX12_deaf_14 : decode cX12_deaf 14 = .ok (.istore_n 3, 1) := by decide +kernel
theorem dX12_deaf_15 : decode cX12_deaf 15 = .ok (.iload_n 3, 1) := by decide +kernel
theorem dX12_deaf_16 : decode cX12_deaf 16 = .ok (.aload_n 0, 1) := by decide +kernel
theorem dX12_deaf_17 : decode cX12_deaf 17 = .ok (.invokevirtual 78, 3) := by decide +kernel
theorem dX12_deaf_20 : decode cX12_deaf 20 = .ok (.if_icmp .ge 28, 3) := by decide +kernel
theorem dX12_deaf_23 : decode cX12_deaf 23 = .ok (.iload_n 2, 1) := by decide +kernel
theorem dX12_deaf_24 : decode cX12_deaf 24 = .ok (.aload_n 0, 1) := by decide +kernel
theorem dX12_deaf_25 : decode cX12_deaf 25 = .ok (.iload_n 1, 1) := by decide +kernel
theorem dX12_deaf_26 : decode cX12_deaf 26 = .ok (.iload_n 3, 1) := by decide +kernel
theorem dX12_deaf_27 : decode cX12_deaf 27 = .ok (.invokevirtual 226, 3) := by decide +kernel
theorem dX12_deaf_30 : decode cX12_deaf 30 = .ok (.ifCond .eq 7, 3) := by decide +kernel
theorem dX12_deaf_33 : decode cX12_deaf 33 = .ok (.iconst 0, 1) := by decide +kernel
theorem dX12_deaf_34 : decode cX12_deaf 34 = .ok (.goto 6, 3) := by decide +kernel
theorem dX12_deaf_37 : decode cX12_deaf 37 = .ok (.iconst 1, 1) := by decide +kernel
theorem dX12_deaf_38 : decode cX12_deaf 38 = .ok (.iload_n 3, 1) := by decide +kernel
theorem dX12_deaf_39 : decode cX12_deaf 39 = .ok (.ishl, 1) := by decide +kernel
theorem dX12_deaf_40 : decode cX12_deaf 40 = .ok (.ior, 1) := by decide +kernel
theorem dX12_deaf_41 : decode cX12_deaf 41 = .ok (.istore_n 2, 1) := by decide +kernel
theorem dX12_deaf_42 : decode cX12_deaf 42 = .ok (.iinc 3 1, 3) := by decide +kernel
theorem dX12_deaf_45 : decode cX12_deaf 45 = .ok (.goto (-30), 3) := by decide +kernel
theorem dX12_deaf_48 : decode cX12_deaf 48 = .ok (.iload_n 2, 1) := by decide +kernel
theorem dX12_deaf_49 : decode cX12_deaf 49 = .ok (.ireturn, 1) := by decide +kernel
set_option maxRecDepth 20000 in
theorem ggX12_allHeard_X12_places : GoodIn wsX12_allHeard wsX12_places := goodIn_r _ [5, 6, 20, 21, 22, 23, 24, 25, 26, 27, 28, 29, 30, 31, 32, 33, 34, 35, 36, 37, 38, 39, 40, 41, 42, 43, 44, 45, 46, 47, 48, 49, 50, 51, 52, 53, 54] (by decide +kernel) (by decide +kernel)
set_option maxRecDepth 20000 in
theorem gX12_allHeard_X12_places : GoodIn wsX12_allHeard (wsV RX12 78 RX12 yX12_places wsX12_places) := goodIn_app (goodIn_of _ (by decide +kernel)) ggX12_allHeard_X12_places
set_option maxRecDepth 20000 in
theorem ggX12_allHeard_X12_has : GoodIn wsX12_allHeard wsX12_has := goodIn_r _ [9] (by decide +kernel) (by decide +kernel)
set_option maxRecDepth 20000 in
theorem gX12_allHeard_X12_has : GoodIn wsX12_allHeard (va_wsS RX12 230 yX12_has wsX12_has) := goodIn_app (goodIn_of _ (by decide +kernel)) ggX12_allHeard_X12_has
set_option maxRecDepth 20000 in
theorem ggX12_allHeard_X12_listenTo : GoodIn wsX12_allHeard wsX12_listenTo := goodIn_r _ [13, 1, 2, 3, 4, 5, 6, 14, 15, 16, 17, 18, 19, 20, 21, 22, 23, 24, 25, 26, 27, 28, 29, 30, 31, 32, 33, 34, 35, 36, 37, 38, 39, 40, 41, 42, 43, 44, 45, 46, 47, 48, 49, 50, 51, 52, 53, 54] (by decide +kernel) (by decide +kernel)
set_option maxRecDepth 20000 in
theorem gX12_allHeard_X12_listenTo : GoodIn wsX12_allHeard (wsV RX12 223 RX12 yX12_listenTo wsX12_listenTo) := goodIn_app (goodIn_of _ (by decide +kernel)) ggX12_allHeard_X12_listenTo
theorem dX12_allHeard_0 : decode cX12_allHeard 0 = .ok (.iconst 1, 1) := by decide +kernel
theorem dX12_allHeard_1 : decode cX12_allHeard 1 = .ok (.istore 5, 2) := by decide +kernel
theorem dX12_allHeard_3 : decode cX12_allHeard 3 = .ok (.iconst 0, 1) := by decide +kernel
theorem dX12_allHeard_4 : decode cX12_allHeard 4 = .ok (.istore 6, 2) := by decide +kernel
theorem dX12_allHeard_6 : decode cX12_allHeard 6 = .ok (.iload 6, 2) := by decide +kernel
theorem dX12_allHeard_8 : decode cX12_allHeard 8 = .ok (.aload_n 0, 1) := by decide +kernel
theorem dX12_allHeard_9 : decode cX12_allHeard 9 = .ok (.invokevirtual 78, 3) := by decide +kernel
theorem dX12_allHeard_12 : decode cX12_allHeard 12 = .ok (.if_icmp .ge 44, 3) := by decide +kernel
theorem dX12_allHeard_15 : decode cX12_allHeard 15 = .ok (.iload 5, 2) := by decide +kernel
theorem dX12_allHeard_17 : decode cX12_allHeard 17 = .ok (.ifCond .eq 30, 3) := by decide +kernel
theorem dX12_allHeard_20 : decode cX12_allHeard 20 = .ok (.iload_n 2, 1) := by decide +kernel
theorem dX12_allHeard_21 : decode cX12_allHeard 21 = .ok (.iload 6, 2) := by decide +kernel
theorem dX12_allHeard_23 : decode cX12_allHeard 23 = .ok (.invokestatic 230, 3) := by decide +kernel
theorem dX12_allHeard_26 : decode cX12_allHeard 26 = .ok (.ifCond .eq 17, 3) := by decide +kernel
theorem dX12_allHeard_29 : decode cX12_allHeard 29 = .ok (.aload_n 0, 1) := by decide +kernel
theorem dX12_allHeard_30 : decode cX12_allHeard 30 = .ok (.iload_n 1, 1) := by decide +kernel
theorem dX12_allHeard_31 : decode cX12_allHeard 31 = .ok (.iload 6, 2) := by decide +kernel
theorem dX12_allHeard_33 : decode cX12_allHeard 33 = .ok (.iload_n 3, 1) := by decide +kernel
theorem dX12_allHeard_34 : decode cX12_allHeard 34 = .ok (.invokevirtual 223, 3) := by decide +kernel
theorem dX12_allHeard_37 : decode cX12_allHeard 37 = .ok (.iload 4, 2) := by decide +kernel
theorem dX12_allHeard_39 : decode cX12_allHeard 39 = .ok (.iand, 1) := by decide +kernel
theorem dX12_allHeard_40 : decode cX12_allHeard 40 = .ok (.ifCond .eq 7, 3) := by decide +kernel
theorem dX12_allHeard_43 : decode cX12_allHeard 43 = .ok (.iconst 1, 1) := by decide +kernel
theorem dX12_allHeard_44 : decode cX12_allHeard 44 = .ok (.goto 4, 3) := by decide +kernel
theorem dX12_allHeard_47 : decode cX12_allHeard 47 = .ok (.iconst 0, 1) := by decide +kernel
theorem dX12_allHeard_48 : decode cX12_allHeard 48 = .ok (.istore 5, 2) := by decide +kernel
theorem dX12_allHeard_50 : decode cX12_allHeard 50 = .ok (.iinc 6 1, 3) := by decide +kernel
theorem dX12_allHeard_53 : decode cX12_allHeard 53 = .ok (.goto (-47), 3) := by decide +kernel
theorem dX12_allHeard_56 : decode cX12_allHeard 56 = .ok (.iload 5, 2) := by decide +kernel
theorem dX12_allHeard_58 : decode cX12_allHeard 58 = .ok (.ireturn, 1) := by decide +kernel
set_option maxRecDepth 20000 in
theorem ggX12_ears_X12_isSound : GoodIn wsX12_ears wsX12_isSound := goodIn_r _ [8, 9, 10, 11, 7, 12, 42, 43, 44, 45, 46, 47, 48, 49, 50, 51, 52, 53, 54, 55, 56, 57, 58, 59, 60, 61, 62, 63, 64, 65, 66, 67, 68, 69, 70, 71, 72, 73, 74, 75, 76] (by decide +kernel) (by decide +kernel)
set_option maxRecDepth 20000 in
theorem gX12_ears_X12_isSound : GoodIn wsX12_ears (wsV RX12 166 RX12 yX12_isSound wsX12_isSound) := goodIn_app (goodIn_of _ (by decide +kernel)) ggX12_ears_X12_isSound
set_option maxRecDepth 20000 in
theorem ggX12_ears_X12_isPlaces : GoodIn wsX12_ears wsX12_isPlaces := goodIn_r _ [16, 17, 18, 19, 7, 20, 21, 10, 11, 12, 42, 43, 44, 45, 46, 47, 48, 49, 50, 51, 52, 53, 54, 55, 56, 57, 58, 59, 60, 61, 62, 63, 64, 65, 66, 67, 68, 69, 70, 71, 72, 73, 74, 75, 76] (by decide +kernel) (by decide +kernel)
set_option maxRecDepth 20000 in
theorem gX12_ears_X12_isPlaces : GoodIn wsX12_ears (wsV RX12 233 RX12 yX12_isPlaces wsX12_isPlaces) := goodIn_app (goodIn_of _ (by decide +kernel)) ggX12_ears_X12_isPlaces
set_option maxRecDepth 20000 in
theorem ggX12_ears_X12_in : GoodIn wsX12_ears wsX12_in := goodIn_r _ [12] (by decide +kernel) (by decide +kernel)
set_option maxRecDepth 20000 in
theorem gX12_ears_X12_in : GoodIn wsX12_ears (va_wsS RX12 82 yX12_in wsX12_in) := goodIn_app (goodIn_of _ (by decide +kernel)) ggX12_ears_X12_in
set_option maxRecDepth 20000 in
theorem ggX12_ears_X12_places : GoodIn wsX12_ears wsX12_places := goodIn_r _ [20, 21, 42, 43, 44, 45, 46, 47, 48, 49, 50, 51, 52, 53, 54, 55, 56, 57, 58, 59, 60, 61, 62, 63, 64, 65, 66, 67, 68, 69, 70, 71, 72, 73, 74, 75, 76] (by decide +kernel) (by decide +kernel)
set_option maxRecDepth 20000 in
theorem gX12_ears_X12_places : GoodIn wsX12_ears (wsV RX12 78 RX12 yX12_places wsX12_places) := goodIn_app (goodIn_of _ (by decide +kernel)) ggX12_ears_X12_places
set_option maxRecDepth 20000 in
theorem ggX12_ears_X12_bits : GoodIn wsX12_ears wsX12_bits := goodIn_r _ [24] (by decide +kernel) (by decide +kernel)
set_option maxRecDepth 20000 in
theorem gX12_ears_X12_bits : GoodIn wsX12_ears (va_wsS RX12 236 yX12_bits wsX12_bits) := goodIn_app (goodIn_of _ (by decide +kernel)) ggX12_ears_X12_bits
set_option maxRecDepth 20000 in
theorem ggX12_ears_X12_allHeard : GoodIn wsX12_ears wsX12_allHeard := goodIn_r _ [28, 17, 18, 19, 7, 20, 21, 29, 30, 31, 32, 33, 34, 35, 36, 37, 38, 39, 40, 41, 42, 43, 44, 45, 46, 47, 48, 49, 50, 51, 52, 53, 54, 55, 56, 57, 58, 59, 60, 61, 62, 63, 64, 65, 66, 67, 68, 69, 70, 71, 72, 73, 74, 75, 76] (by decide +kernel) (by decide +kernel)
set_option maxRecDepth 20000 in
theorem gX12_ears_X12_allHeard : GoodIn wsX12_ears (wsV RX12 239 RX12 yX12_allHeard wsX12_allHeard) := goodIn_app (goodIn_of _ (by decide +kernel)) ggX12_ears_X12_allHeard
theorem dX12_ears_0 : decode cX12_ears 0 = .ok (.aload_n 0, 1) := by decide +kernel
theorem dX12_ears_1 : decode cX12_ears 1 = .ok (.iload_n 1, 1) := by decide +kernel
theorem dX12_ears_2 : decode cX12_ears 2 = .ok (.invokevirtual 166, 3) := by decide +kernel
theorem dX12_ears_5 : decode cX12_ears 5 = .ok (.ifCond .eq 11, 3) := by decide +kernel
theorem dX12_ears_8 : decode cX12_ears 8 = .ok (.aload_n 0, 1) := by decide +kernel
theorem dX12_ears_9 : decode cX12_ears 9 = .ok (.iload_n 2, 1) := by decide +kernel
theorem dX12_ears_10 : decode cX12_ears 10 = .ok (.invokevirtual 233, 3) := by decide +kernel
theorem dX12_ears_13 : decode cX12_ears 13 = .ok (.ifCond .ne 6, 3) := by decide +kernel
theorem dX12_ears_16 : decode cX12_ears 16 = .ok (.ldc 165, 2) := by decide +kernel
theorem dX12_ears_18 : decode cX12_ears 18 = .ok (.ireturn, 1) := by decide +kernel
theorem dX12_ears_19 : decode cX12_ears 19 = .ok (.iload_n 3, 1) := by decide +kernel
theorem dX12_ears_20 : decode cX12_ears 20 = .ok (.i2l, 1) := by decide +kernel
theorem dX12_ears_21 : decode cX12_ears 21 = .ok (.lconst 0, 1) := by decide +kernel
theorem dX12_ears_22 : decode cX12_ears 22 = .ok (.ldc2_w 221, 3) := by decide +kernel
theorem dX12_ears_25 : decode cX12_ears 25 = .ok (.invokestatic 82, 3) := by decide +kernel
theorem dX12_ears_28 : decode cX12_ears 28 = .ok (.ifCond .ne 6, 3) := by decide +kernel
theorem dX12_ears_31 : decode cX12_ears 31 = .ok (.ldc 94, 2) := by decide +kernel
theorem dX12_ears_33 : decode cX12_ears 33 = .ok (.ireturn, 1) := by decide +kernel
theorem dX12_ears_34 : decode cX12_ears 34 = .ok (.iconst (-1), 1) := by decide +kernel
theorem dX12_ears_35 : decode cX12_ears 35 = .ok (.istore 4, 2) := by decide +kernel
theorem dX12_ears_37 : decode cX12_ears 37 = .ok (.iconst 0, 1) := by decide +kernel
theorem dX12_ears_38 : decode cX12_ears 38 = .ok (.istore 5, 2) := by decide +kernel
theorem dX12_ears_40 : decode cX12_ears 40 = .ok (.iload 5, 2) := by decide +kernel
theorem dX12_ears_42 : decode cX12_ears 42 = .ok (.iconst 1, 1) := by decide +kernel
theorem dX12_ears_43 : decode cX12_ears 43 = .ok (.aload_n 0, 1) := by decide +kernel
theorem dX12_ears_44 : decode cX12_ears 44 = .ok (.invokevirtual 78, 3) := by decide +kernel
theorem dX12_ears_47 : decode cX12_ears 47 = .ok (.ishl, 1) := by decide +kernel
theorem dX12_ears_48 : decode cX12_ears 48 = .ok (.if_icmp .ge 60, 3) := by decide +kernel
theorem dX12_ears_51 : decode cX12_ears 51 = .ok (.iload 4, 2) := by decide +kernel
theorem dX12_ears_53 : decode cX12_ears 53 = .ok (.ifCond .lt 16, 3) := by decide +kernel
theorem dX12_ears_56 : decode cX12_ears 56 = .ok (.iload 5, 2) := by decide +kernel
theorem dX12_ears_58 : decode cX12_ears 58 = .ok (.invokestatic 236, 3) := by decide +kernel
theorem dX12_ears_61 : decode cX12_ears 61 = .ok (.iload 4, 2) := by decide +kernel
theorem dX12_ears_63 : decode cX12_ears 63 = .ok (.invokestatic 236, 3) := by decide +kernel
theorem dX12_ears_66 : decode cX12_ears 66 = .ok (.if_icmp .ge 7, 3) := by decide +kernel
theorem dX12_ears_69 : decode cX12_ears 69 = .ok (.iconst 1, 1) := by decide +kernel
theorem dX12_ears_70 : decode cX12_ears 70 = .ok (.goto 4, 3) := by decide +kernel
theorem dX12_ears_73 : decode cX12_ears 73 = .ok (.iconst 0, 1) := by decide +kernel
theorem dX12_ears_74 : decode cX12_ears 74 = .ok (.istore 6, 2) := by decide +kernel
theorem dX12_ears_76 : decode cX12_ears 76 = .ok (.iload 6, 2) := by decide +kernel
theorem dX12_ears_78 : decode cX12_ears 78 = .ok (.ifCond .eq 20, 3) := by decide +kernel
theorem dX12_ears_81 : decode cX12_ears 81 = .ok (.aload_n 0, 1) := by decide +kernel
theorem dX12_ears_82 : decode cX12_ears 82 = .ok (.iload_n 1, 1) := by decide +kernel
theorem dX12_ears_83 : decode cX12_ears 83 = .ok (.iload_n 2, 1) := by decide +kernel
theorem dX12_ears_84 : decode cX12_ears 84 = .ok (.iload_n 3, 1) := by decide +kernel
theorem dX12_ears_85 : decode cX12_ears 85 = .ok (.iload 5, 2) := by decide +kernel
theorem dX12_ears_87 : decode cX12_ears 87 = .ok (.invokevirtual 239, 3) := by decide +kernel
theorem dX12_ears_90 : decode cX12_ears 90 = .ok (.ifCond .eq 8, 3) := by decide +kernel
theorem dX12_ears_93 : decode cX12_ears 93 = .ok (.iload 5, 2) := by decide +kernel
theorem dX12_ears_95 : decode cX12_ears 95 = .ok (.goto 5, 3) := by decide +kernel
theorem dX12_ears_98 : decode cX12_ears 98 = .ok (.iload 4, 2) := by decide +kernel
theorem dX12_ears_100 : decode cX12_ears 100 = .ok (.istore 4, 2) := by decide +kernel
theorem dX12_ears_102 : decode cX12_ears 102 = .ok (.iinc 5 1, 3) := by decide +kernel
theorem dX12_ears_105 : decode cX12_ears 105 = .ok (.goto (-65), 3) := by decide +kernel
theorem dX12_ears_108 : decode cX12_ears 108 = .ok (.iload 4, 2) := by decide +kernel
theorem dX12_ears_110 : decode cX12_ears 110 = .ok (.ireturn, 1) := by decide +kernel
set_option maxRecDepth 20000 in
theorem ggX12_areAlike_X12_sayingOf : GoodIn wsX12_areAlike wsX12_sayingOf := goodIn_r _ [6, 7, 8, 9, 10, 11, 5, 12, 13, 14, 15, 16, 17, 18, 19, 20, 21, 22, 23, 24, 25, 26, 27, 28, 29, 30, 31, 32, 33, 34, 35, 36, 37, 38, 39, 40, 41, 42, 43, 44, 45, 46, 47, 48, 49, 50, 51, 52, 53, 54, 55, 56, 57, 58, 59, 60, 61, 62, 63] (by decide +kernel) (by decide +kernel)
set_option maxRecDepth 20000 in
theorem gX12_areAlike_X12_sayingOf : GoodIn wsX12_areAlike (wsV RX12 187 RX12 yX12_sayingOf wsX12_sayingOf) := goodIn_app (goodIn_of _ (by decide +kernel)) ggX12_areAlike_X12_sayingOf
theorem dX12_areAlike_0 : decode cX12_areAlike 0 = .ok (.iconst 1, 1) := by decide +kernel
theorem dX12_areAlike_1 : decode cX12_areAlike 1 = .ok (.istore 4, 2) := by decide +kernel
theorem dX12_areAlike_3 : decode cX12_areAlike 3 = .ok (.iconst 0, 1) := by decide +kernel
theorem dX12_areAlike_4 : decode cX12_areAlike 4 = .ok (.istore 5, 2) := by decide +kernel
theorem dX12_areAlike_6 : decode cX12_areAlike 6 = .ok (.iload 5, 2) := by decide +kernel
theorem dX12_areAlike_8 : decode cX12_areAlike 8 = .ok (.aload_n 0, 1) := by decide +kernel
theorem dX12_areAlike_9 : decode cX12_areAlike 9 = .ok (.getfield 89, 3) := by decide +kernel
theorem dX12_areAlike_12 : decode cX12_areAlike 12 = .ok (.if_icmp .ge 40, 3) := by decide +kernel
theorem dX12_areAlike_15 : decode cX12_areAlike 15 = .ok (.iload 4, 2) := by decide +kernel
theorem dX12_areAlike_17 : decode cX12_areAlike 17 = .ok (.ifCond .eq 26, 3) := by decide +kernel
theorem dX12_areAlike_20 : decode cX12_areAlike 20 = .ok (.aload_n 0, 1) := by decide +kernel
theorem dX12_areAlike_21 : decode cX12_areAlike 21 = .ok (.iload 5, 2) := by decide +kernel
theorem dX12_areAlike_23 : decode cX12_areAlike 23 = .ok (.iload_n 1, 1) := by decide +kernel
theorem dX12_areAlike_24 : decode cX12_areAlike 24 = .ok (.iload_n 3, 1) := by decide +kernel
theorem dX12_areAlike_25 : decode cX12_areAlike 25 = .ok (.invokevirtual 187, 3) := by decide +kernel
theorem dX12_areAlike_28 : decode cX12_areAlike 28 = .ok (.aload_n 0, 1) := by decide +kernel
theorem dX12_areAlike_29 : decode cX12_areAlike 29 = .ok (.iload 5, 2) := by decide +kernel
theorem dX12_areAlike_31 : decode cX12_areAlike 31 = .ok (.iload_n 2, 1) := by decide +kernel
theorem dX12_areAlike_32 : decode cX12_areAlike 32 = .ok (.iload_n 3, 1) := by decide +kernel
theorem dX12_areAlike_33 : decode cX12_areAlike 33 = .ok (.invokevirtual 187, 3) := by decide +kernel
theorem dX12_areAlike_36 : decode cX12_areAlike 36 = .ok (.if_icmp .ne 7, 3) := by decide +kernel
theorem dX12_areAlike_39 : decode cX12_areAlike 39 = .ok (.iconst 1, 1) := by decide +kernel
theorem dX12_areAlike_40 : decode cX12_areAlike 40 = .ok (.goto 4, 3) := by decide +kernel
theorem dX12_areAlike_43 : decode cX12_areAlike 43 = .ok (.iconst 0, 1) := by decide +kernel
theorem dX12_areAlike_44 : decode cX12_areAlike 44 = .ok (.istore 4, 2) := by decide +kernel
theorem dX12_areAlike_46 : decode cX12_areAlike 46 = .ok (.iinc 5 1, 3) := by decide +kernel
theorem dX12_areAlike_49 : decode cX12_areAlike 49 = .ok (.goto (-43), 3) := by decide +kernel
theorem dX12_areAlike_52 : decode cX12_areAlike 52 = .ok (.iload 4, 2) := by decide +kernel
theorem dX12_areAlike_54 : decode cX12_areAlike 54 = .ok (.ireturn, 1) := by decide +kernel
set_option maxRecDepth 20000 in
theorem ggX12_alike_X12_isPlace : GoodIn wsX12_alike wsX12_isPlace := goodIn_r _ [7, 8, 9, 10, 6, 11, 12, 13, 14, 15, 46, 47, 48, 49, 50, 51, 52, 53, 54, 55, 56, 57, 58, 59, 60, 61, 62, 63, 64, 65, 66, 67, 68, 69, 70, 71, 72, 73, 74, 75, 76, 77, 78, 79, 80] (by decide +kernel) (by decide +kernel)
set_option maxRecDepth 20000 in
theorem gX12_alike_X12_isPlace : GoodIn wsX12_alike (wsV RX12 190 RX12 yX12_isPlace wsX12_isPlace) := goodIn_app (goodIn_of _ (by decide +kernel)) ggX12_alike_X12_isPlace
set_option maxRecDepth 20000 in
theorem ggX12_alike_X12_areAlike : GoodIn wsX12_alike wsX12_areAlike := goodIn_r _ [19, 20, 21, 22, 23, 6, 24, 25, 26, 27, 28, 29, 30, 2, 31, 32, 33, 34, 35, 36, 37, 38, 39, 40, 41, 42, 43, 44, 45, 46, 47, 48, 49, 50, 51, 52, 53, 54, 55, 56, 57, 58, 59, 60, 61, 62, 63, 64, 65, 66, 67, 68, 69, 70, 71, 72, 73, 74, 75, 76, 77, 78, 79, 80] (by decide +kernel) (by decide +kernel)
set_option maxRecDepth 20000 in
theorem gX12_alike_X12_areAlike : GoodIn wsX12_alike (wsV RX12 243 RX12 yX12_areAlike wsX12_areAlike) := goodIn_app (goodIn_of _ (by decide +kernel)) ggX12_alike_X12_areAlike
theorem dX12_alike_0 : decode cX12_alike 0 = .ok (.aload_n 0, 1) := by decide +kernel
theorem dX12_alike_1 : decode cX12_alike 1 = .ok (.iload_n 1, 1) := by decide +kernel
theorem dX12_alike_2 : decode cX12_alike 2 = .ok (.invokevirtual 190, 3) := by decide +kernel
theorem dX12_alike_5 : decode cX12_alike 5 = .ok (.ifCond .ne 6, 3) := by decide +kernel
theorem dX12_alike_8 : decode cX12_alike 8 = .ok (.ldc 165, 2) := by decide +kernel
theorem dX12_alike_10 : decode cX12_alike 10 = .ok (.ireturn, 1) := by decide +kernel
theorem dX12_alike_11 : decode cX12_alike 11 = .ok (.iconst 0, 1) := by decide +kernel
theorem dX12_alike_12 : decode cX12_alike 12 = .ok (.istore_n 3, 1) := by decide +kernel
theorem dX12_alike_13 : decode cX12_alike 13 = .ok (.iconst 0, 1) := by decide +kernel
theorem dX12_alike_14 : decode cX12_alike 14 = .ok (.istore 4, 2) := by decide +kernel
theorem dX12_alike_16 : decode cX12_alike 16 = .ok (.iload 4, 2) := by decide +kernel
theorem dX12_alike_18 : decode cX12_alike 18 = .ok (.bipush 36, 2) := by decide +kernel
theorem dX12_alike_20 : decode cX12_alike 20 = .ok (.if_icmp .ge 68, 3) := by decide +kernel
theorem dX12_alike_23 : decode cX12_alike 23 = .ok (.iload 4, 2) := by decide +kernel
theorem dX12_alike_25 : decode cX12_alike 25 = .ok (.bipush 6, 2) := by decide +kernel
theorem dX12_alike_27 : decode cX12_alike 27 = .ok (.idiv, 1) := by decide +kernel
theorem dX12_alike_28 : decode cX12_alike 28 = .ok (.istore 5, 2) := by decide +kernel
theorem dX12_alike_30 : decode cX12_alike 30 = .ok (.iload 4, 2) := by decide +kernel
theorem dX12_alike_32 : decode cX12_alike 32 = .ok (.bipush 6, 2) := by decide +kernel
theorem dX12_alike_34 : decode cX12_alike 34 = .ok (.irem, 1) := by decide +kernel
theorem dX12_alike_35 : decode cX12_alike 35 = .ok (.istore 6, 2) := by decide +kernel
theorem dX12_alike_37 : decode cX12_alike 37 = .ok (.iload 5, 2) := by decide +kernel
theorem dX12_alike_39 : decode cX12_alike 39 = .ok (.iload 6, 2) := by decide +kernel
theorem dX12_alike_41 : decode cX12_alike 41 = .ok (.if_icmp .ge 41, 3) := by decide +kernel
theorem dX12_alike_44 : decode cX12_alike 44 = .ok (.iload 6, 2) := by decide +kernel
theorem dX12_alike_46 : decode cX12_alike 46 = .ok (.aload_n 0, 1) := by decide +kernel
theorem dX12_alike_47 : decode cX12_alike 47 = .ok (.getfield 86, 3) := by decide +kernel
theorem dX12_alike_50 : decode cX12_alike 50 = .ok (.if_icmp .ge 32, 3) := by decide +kernel
theorem dX12_alike_53 : decode cX12_alike 53 = .ok (.aload_n 0, 1) := by decide +kernel
theorem dX12_alike_54 : decode cX12_alike 54 = .ok (.iload 5, 2) := by decide +kernel
theorem dX12_alike_56 : decode cX12_alike 56 = .ok (.iload 6, 2) := by decide +kernel
theorem dX12_alike_58 : decode cX12_alike 58 = .ok (.iload_n 1, 1) := by decide +kernel
theorem dX12_alike_59 : decode cX12_alike 59 = .ok (.invokevirtual 243, 3) := by decide +kernel
theorem dX12_alike_62 : decode cX12_alike 62 = .ok (.ifCond .eq 20, 3) := by decide +kernel
theorem dX12_alike_65 : decode cX12_alike 65 = .ok (.iload_n 3, 1) := by decide +kernel
theorem dX12_alike_66 : decode cX12_alike 66 = .ok (.iload_n 2, 1) := by decide +kernel
theorem dX12_alike_67 : decode cX12_alike 67 = .ok (.if_icmp .ne 12, 3) := by decide +kernel
theorem dX12_alike_70 : decode cX12_alike 70 = .ok (.bipush 10, 2) := by decide +kernel
theorem dX12_alike_72 : decode cX12_alike 72 = .ok (.iload 5, 2) := by decide +kernel
theorem dX12_alike_74 : decode cX12_alike 74 = .ok (.imul, 1) := by decide +kernel
theorem dX12_alike_75 : decode cX12_alike 75 = .ok (.iload 6, 2) := by decide +kernel
theorem dX12_alike_77 : decode cX12_alike 77 = .ok (.iadd, 1) := by decide +kernel
theorem dX12_alike_78 : decode cX12_alike 78 = .ok (.ireturn, 1) := by decide +kernel
theorem dX12_alike_79 : decode cX12_alike 79 = .ok (.iinc 3 1, 3) := by decide +kernel
theorem dX12_alike_82 : decode cX12_alike 82 = .ok (.iinc 4 1, 3) := by decide +kernel
theorem dX12_alike_85 : decode cX12_alike 85 = .ok (.goto (-69), 3) := by decide +kernel
theorem dX12_alike_88 : decode cX12_alike 88 = .ok (.iload_n 2, 1) := by decide +kernel
theorem dX12_alike_89 : decode cX12_alike 89 = .ok (.iconst (-1), 1) := by decide +kernel
theorem dX12_alike_90 : decode cX12_alike 90 = .ok (.if_icmp .ne 7, 3) := by decide +kernel
theorem dX12_alike_93 : decode cX12_alike 93 = .ok (.iload_n 3, 1) := by decide +kernel
theorem dX12_alike_94 : decode cX12_alike 94 = .ok (.goto 4, 3) := by decide +kernel
theorem dX12_alike_97 : decode cX12_alike 97 = .ok (.iconst (-1), 1) := by decide +kernel
theorem dX12_alike_98 : decode cX12_alike 98 = .ok (.ireturn, 1) := by decide +kernel
set_option maxRecDepth 20000 in
theorem ggX12_hides_X12_in : GoodIn wsX12_hides wsX12_in := goodIn_r _ [7] (by decide +kernel) (by decide +kernel)
set_option maxRecDepth 20000 in
theorem gX12_hides_X12_in : GoodIn wsX12_hides (va_wsS RX12 82 yX12_in wsX12_in) := goodIn_app (goodIn_of _ (by decide +kernel)) ggX12_hides_X12_in
set_option maxRecDepth 20000 in
theorem ggX12_hides_X12_isSound : GoodIn wsX12_hides wsX12_isSound := goodIn_r _ [11, 12, 4, 5, 6, 7, 36, 37, 38, 39, 40, 41, 42, 43, 44, 45, 46, 47, 48, 49, 50, 51, 52, 53, 54, 55, 56, 57, 58, 59, 60, 61, 62, 63, 64, 65, 66, 67, 68, 69, 70] (by decide +kernel) (by decide +kernel)
set_option maxRecDepth 20000 in
theorem gX12_hides_X12_isSound : GoodIn wsX12_hides (wsV RX12 166 RX12 yX12_isSound wsX12_isSound) := goodIn_app (goodIn_of _ (by decide +kernel)) ggX12_hides_X12_isSound
set_option maxRecDepth 20000 in
theorem ggX12_hides_X12_isPlace : GoodIn wsX12_hides wsX12_isPlace := goodIn_r _ [16, 17, 18, 19, 6, 20, 1, 4, 5, 7, 36, 37, 38, 39, 40, 41, 42, 43, 44, 45, 46, 47, 48, 49, 50, 51, 52, 53, 54, 55, 56, 57, 58, 59, 60, 61, 62, 63, 64, 65, 66, 67, 68, 69, 70] (by decide +kernel) (by decide +kernel)
set_option maxRecDepth 20000 in
theorem gX12_hides_X12_isPlace : GoodIn wsX12_hides (wsV RX12 190 RX12 yX12_isPlace wsX12_isPlace) := goodIn_app (goodIn_of _ (by decide +kernel)) ggX12_hides_X12_isPlace
set_option maxRecDepth 20000 in
theorem ggX12_hides_X12_isHeard : GoodIn wsX12_hides wsX12_isHeard := goodIn_r _ [24, 25, 26, 27, 28, 6, 29, 3, 30, 31, 32, 33, 34, 35, 36, 37, 38, 39, 40, 41, 42, 43, 44, 45, 46, 47, 48, 49, 50, 51, 52, 53, 54, 55, 56, 57, 58, 59, 60, 61, 62, 63, 64, 65, 66, 67, 68, 69, 70] (by decide +kernel) (by decide +kernel)
set_option maxRecDepth 20000 in
theorem gX12_hides_X12_isHeard : GoodIn wsX12_hides (wsV RX12 226 RX12 yX12_isHeard wsX12_isHeard) := goodIn_app (goodIn_of _ (by decide +kernel)) ggX12_hides_X12_isHeard
theorem dX12_hides_0 : decode cX12_hides 0 = .ok (.iload_n 1, 1) := by decide +kernel
theorem dX12_hides_1 : decode cX12_hides 1 = .ok (.i2l, 1) := by decide +kernel
theorem dX12_hides_2 : decode cX12_hides 2 = .ok (.lconst 0, 1) := by decide +kernel
theorem dX12_hides_3 : decode cX12_hides 3 = .ok (.aload_n 0, 1) := by decide +kernel
theorem dX12_hides_4 : decode cX12_hides 4 = .ok (.getfield 75, 3) := by decide +kernel
theorem dX12_hides_7 : decode cX12_hides 7 = .ok (.iconst 1, 1) := by decide +kernel
theorem dX12_hides_8 : decode cX12_hides 8 = .ok (.isub, 1) := by decide +kernel
theorem dX12_hides_9 : decode cX12_hides 9 = .ok (.i2l, 1) := by decide +kernel
theorem dX12_hides_10 : decode cX12_hides 10 = .ok (.invokestatic 82, 3) := by decide +kernel
theorem dX12_hides_13 : decode cX12_hides 13 = .ok (.ifCond .eq 19, 3) := by decide +kernel
theorem dX12_hides_16 : decode cX12_hides 16 = .ok (.aload_n 0, 1) := by decide +kernel
theorem dX12_hides_17 : decode cX12_hides 17 = .ok (.iload_n 2, 1) := by decide +kernel
theorem dX12_hides_18 : decode cX12_hides 18 = .ok (.invokevirtual 166, 3) := by decide +kernel
theorem dX12_hides_21 : decode cX12_hides 21 = .ok (.ifCond .eq 11, 3) := by decide +kernel
theorem dX12_hides_24 : decode cX12_hides 24 = .ok (.aload_n 0, 1) := by decide +kernel
theorem dX12_hides_25 : decode cX12_hides 25 = .ok (.iload_n 3, 1) := by decide +kernel
theorem dX12_hides_26 : decode cX12_hides 26 = .ok (.invokevirtual 190, 3) := by decide +kernel
theorem dX12_hides_29 : decode cX12_hides 29 = .ok (.ifCond .ne 6, 3) := by decide +kernel
theorem dX12_hides_32 : decode cX12_hides 32 = .ok (.ldc 165, 2) := by decide +kernel
theorem dX12_hides_34 : decode cX12_hides 34 = .ok (.ireturn, 1) := by decide +kernel
theorem dX12_hides_35 : decode cX12_hides 35 = .ok (.aload_n 0, 1) := by decide +kernel
theorem dX12_hides_36 : decode cX12_hides 36 = .ok (.getfield 22, 3) := by decide +kernel
theorem dX12_hides_39 : decode cX12_hides 39 = .ok (.iload_n 1, 1) := by decide +kernel
theorem dX12_hides_40 : decode cX12_hides 40 = .ok (.iaload, 1) := by decide +kernel
theorem dX12_hides_41 : decode cX12_hides 41 = .ok (.istore 4, 2) := by decide +kernel
theorem dX12_hides_43 : decode cX12_hides 43 = .ok (.iconst (-1), 1) := by decide +kernel
theorem dX12_hides_44 : decode cX12_hides 44 = .ok (.istore 5, 2) := by decide +kernel
theorem dX12_hides_46 : decode cX12_hides 46 = .ok (.bipush 99, 2) := by decide +kernel
theorem dX12_hides_48 : decode cX12_hides 48 = .ok (.istore 6, 2) := by decide +kernel
theorem dX12_hides_50 : decode cX12_hides 50 = .ok (.iload 6, 2) := by decide +kernel
theorem dX12_hides_52 : decode cX12_hides 52 = .ok (.ifCond .lt 35, 3) := by decide +kernel
theorem dX12_hides_55 : decode cX12_hides 55 = .ok (.aload_n 0, 1) := by decide +kernel
theorem dX12_hides_56 : decode cX12_hides 56 = .ok (.getfield 22, 3) := by decide +kernel
theorem dX12_hides_59 : decode cX12_hides 59 = .ok (.iload_n 1, 1) := by decide +kernel
theorem dX12_hides_60 : decode cX12_hides 60 = .ok (.iload 6, 2) := by decide +kernel
theorem dX12_hides_62 : decode cX12_hides 62 = .ok (.iastore, 1) := by decide +kernel
theorem dX12_hides_63 : decode cX12_hides 63 = .ok (.aload_n 0, 1) := by decide +kernel
theorem dX12_hides_64 : decode cX12_hides 64 = .ok (.iload_n 2, 1) := by decide +kernel
theorem dX12_hides_65 : decode cX12_hides 65 = .ok (.iload_n 3, 1) := by decide +kernel
theorem dX12_hides_66 : decode cX12_hides 66 = .ok (.invokevirtual 226, 3) := by decide +kernel
theorem dX12_hides_69 : decode cX12_hides 69 = .ok (.ifCond .eq 8, 3) := by decide +kernel
theorem dX12_hides_72 : decode cX12_hides 72 = .ok (.iload 5, 2) := by decide +kernel
theorem dX12_hides_74 : decode cX12_hides 74 = .ok (.goto 5, 3) := by decide +kernel
theorem dX12_hides_77 : decode cX12_hides 77 = .ok (.iload 6, 2) := by decide +kernel
theorem dX12_hides_79 : decode cX12_hides 79 = .ok (.istore 5, 2) := by decide +kernel
theorem dX12_hides_81 : decode cX12_hides 81 = .ok (.iinc 6 (-1), 3) := by decide +kernel
theorem dX12_hides_84 : decode cX12_hides 84 = .ok (.goto (-34), 3) := by decide +kernel
theorem dX12_hides_87 : decode cX12_hides 87 = .ok (.aload_n 0, 1) := by decide +kernel
theorem dX12_hides_88 : decode cX12_hides 88 = .ok (.getfield 22, 3) := by decide +kernel
theorem dX12_hides_91 : decode cX12_hides 91 = .ok (.iload_n 1, 1) := by decide +kernel
theorem dX12_hides_92 : decode cX12_hides 92 = .ok (.iload 4, 2) := by decide +kernel
theorem dX12_hides_94 : decode cX12_hides 94 = .ok (.iastore, 1) := by decide +kernel
theorem dX12_hides_95 : decode cX12_hides 95 = .ok (.iload 5, 2) := by decide +kernel
theorem dX12_hides_97 : decode cX12_hides 97 = .ok (.ireturn, 1) := by decide +kernel
set_option maxRecDepth 20000 in
theorem ggX12_midwife_X12_in : GoodIn wsX12_midwife wsX12_in := goodIn_r _ [7] (by decide +kernel) (by decide +kernel)
set_option maxRecDepth 20000 in
theorem gX12_midwife_X12_in : GoodIn wsX12_midwife (va_wsS RX12 82 yX12_in wsX12_in) := goodIn_app (goodIn_of _ (by decide +kernel)) ggX12_midwife_X12_in
theorem dX12_midwife_0 : decode cX12_midwife 0 = .ok (.iload_n 2, 1) := by decide +kernel
theorem dX12_midwife_1 : decode cX12_midwife 1 = .ok (.i2l, 1) := by decide +kernel
theorem dX12_midwife_2 : decode cX12_midwife 2 = .ok (.lconst 0, 1) := by decide +kernel
theorem dX12_midwife_3 : decode cX12_midwife 3 = .ok (.ldc2_w 246, 3) := by decide +kernel
theorem dX12_midwife_6 : decode cX12_midwife 6 = .ok (.invokestatic 82, 3) := by decide +kernel
theorem dX12_midwife_9 : decode cX12_midwife 9 = .ok (.ifCond .eq 41, 3) := by decide +kernel
theorem dX12_midwife_12 : decode cX12_midwife 12 = .ok (.iload_n 3, 1) := by decide +kernel
theorem dX12_midwife_13 : decode cX12_midwife 13 = .ok (.i2l, 1) := by decide +kernel
theorem dX12_midwife_14 : decode cX12_midwife 14 = .ok (.lconst 0, 1) := by decide +kernel
theorem dX12_midwife_15 : decode cX12_midwife 15 = .ok (.ldc2_w 246, 3) := by decide +kernel
theorem dX12_midwife_18 : decode cX12_midwife 18 = .ok (.invokestatic 82, 3) := by decide +kernel
theorem dX12_midwife_21 : decode cX12_midwife 21 = .ok (.ifCond .eq 29, 3) := by decide +kernel
theorem dX12_midwife_24 : decode cX12_midwife 24 = .ok (.iload 4, 2) := by decide +kernel
theorem dX12_midwife_26 : decode cX12_midwife 26 = .ok (.i2l, 1) := by decide +kernel
theorem dX12_midwife_27 : decode cX12_midwife 27 = .ok (.lconst 0, 1) := by decide +kernel
theorem dX12_midwife_28 : decode cX12_midwife 28 = .ok (.ldc2_w 246, 3) := by decide +kernel
theorem dX12_midwife_31 : decode cX12_midwife 31 = .ok (.invokestatic 82, 3) := by decide +kernel
theorem dX12_midwife_34 : decode cX12_midwife 34 = .ok (.ifCond .eq 16, 3) := by decide +kernel
theorem dX12_midwife_37 : decode cX12_midwife 37 = .ok (.iload 5, 2) := by decide +kernel
theorem dX12_midwife_39 : decode cX12_midwife 39 = .ok (.i2l, 1) := by decide +kernel
theorem dX12_midwife_40 : decode cX12_midwife 40 = .ok (.lconst 0, 1) := by decide +kernel
theorem dX12_midwife_41 : decode cX12_midwife 41 = .ok (.ldc2_w 248, 3) := by decide +kernel
theorem dX12_midwife_44 : decode cX12_midwife 44 = .ok (.invokestatic 82, 3) := by decide +kernel
theorem dX12_midwife_47 : decode cX12_midwife 47 = .ok (.ifCond .ne 6, 3) := by decide +kernel
theorem dX12_midwife_50 : decode cX12_midwife 50 = .ok (.ldc 94, 2) := by decide +kernel
theorem dX12_midwife_52 : decode cX12_midwife 52 = .ok (.ireturn, 1) := by decide +kernel
theorem dX12_midwife_53 : decode cX12_midwife 53 = .ok (.iload 4, 2) := by decide +kernel
theorem dX12_midwife_55 : decode cX12_midwife 55 = .ok (.iload 5, 2) := by decide +kernel
theorem dX12_midwife_57 : decode cX12_midwife 57 = .ok (.imul, 1) := by decide +kernel
theorem dX12_midwife_58 : decode cX12_midwife 58 = .ok (.bipush 100, 2) := by decide +kernel
theorem dX12_midwife_60 : decode cX12_midwife 60 = .ok (.idiv, 1) := by decide +kernel
theorem dX12_midwife_61 : decode cX12_midwife 61 = .ok (.istore 6, 2) := by decide +kernel
theorem dX12_midwife_63 : decode cX12_midwife 63 = .ok (.iload_n 1, 1) := by decide +kernel
theorem dX12_midwife_64 : decode cX12_midwife 64 = .ok (.ifCond .eq 7, 3) := by decide +kernel
theorem dX12_midwife_67 : decode cX12_midwife 67 = .ok (.iload_n 2, 1) := by decide +kernel
theorem dX12_midwife_68 : decode cX12_midwife 68 = .ok (.goto 4, 3) := by decide +kernel
theorem dX12_midwife_71 : decode cX12_midwife 71 = .ok (.iload_n 3, 1) := by decide +kernel
theorem dX12_midwife_72 : decode cX12_midwife 72 = .ok (.istore 7, 2) := by decide +kernel
theorem dX12_midwife_74 : decode cX12_midwife 74 = .ok (.iload_n 1, 1) := by decide +kernel
theorem dX12_midwife_75 : decode cX12_midwife 75 = .ok (.ifCond .eq 7, 3) := by decide +kernel
theorem dX12_midwife_78 : decode cX12_midwife 78 = .ok (.iload_n 3, 1) := by decide +kernel
theorem dX12_midwife_79 : decode cX12_midwife 79 = .ok (.goto 4, 3) := by decide +kernel
theorem dX12_midwife_82 : decode cX12_midwife 82 = .ok (.iload_n 2, 1) := by decide +kernel
theorem dX12_midwife_83 : decode cX12_midwife 83 = .ok (.iload 6, 2) := by decide +kernel
theorem dX12_midwife_85 : decode cX12_midwife 85 = .ok (.isub, 1) := by decide +kernel
theorem dX12_midwife_86 : decode cX12_midwife 86 = .ok (.istore 8, 2) := by decide +kernel
theorem dX12_midwife_88 : decode cX12_midwife 88 = .ok (.iload 8, 2) := by decide +kernel
theorem dX12_midwife_90 : decode cX12_midwife 90 = .ok (.iload 7, 2) := by decide +kernel
theorem dX12_midwife_92 : decode cX12_midwife 92 = .ok (.if_icmp .le 7, 3) := by decide +kernel
theorem dX12_midwife_95 : decode cX12_midwife 95 = .ok (.iconst 1, 1) := by decide +kernel
theorem dX12_midwife_96 : decode cX12_midwife 96 = .ok (.goto 4, 3) := by decide +kernel
theorem dX12_midwife_99 : decode cX12_midwife 99 = .ok (.iconst 0, 1) := by decide +kernel
theorem dX12_midwife_100 : decode cX12_midwife 100 = .ok (.istore 9, 2) := by decide +kernel
theorem dX12_midwife_102 : decode cX12_midwife 102 = .ok (.iload_n 1, 1) := by decide +kernel
theorem dX12_midwife_103 : decode cX12_midwife 103 = .ok (.iload 9, 2) := by decide +kernel
theorem dX12_midwife_105 : decode cX12_midwife 105 = .ok (.if_icmp .ne 7, 3) := by decide +kernel
theorem dX12_midwife_108 : decode cX12_midwife 108 = .ok (.iconst 0, 1) := by decide +kernel
theorem dX12_midwife_109 : decode cX12_midwife 109 = .ok (.goto 4, 3) := by decide +kernel
theorem dX12_midwife_112 : decode cX12_midwife 112 = .ok (.iconst 1, 1) := by decide +kernel
theorem dX12_midwife_113 : decode cX12_midwife 113 = .ok (.ireturn, 1) := by decide +kernel
set_option maxRecDepth 20000 in
theorem ggX12_bargain_X12_in : GoodIn wsX12_bargain wsX12_in := goodIn_r _ [8] (by decide +kernel) (by decide +kernel)
set_option maxRecDepth 20000 in
theorem gX12_bargain_X12_in : GoodIn wsX12_bargain (va_wsS RX12 82 yX12_in wsX12_in) := goodIn_app (goodIn_of _ (by decide +kernel)) ggX12_bargain_X12_in
theorem dX12_bargain_0 : decode cX12_bargain 0 = .ok (.iload_n 1, 1) := by decide +kernel
theorem dX12_bargain_1 : decode cX12_bargain 1 = .ok (.i2l, 1) := by decide +kernel
theorem dX12_bargain_2 : decode cX12_bargain 2 = .ok (.lconst 0, 1) := by decide +kernel
theorem dX12_bargain_3 : decode cX12_bargain 3 = .ok (.ldc2_w 246, 3) := by decide +kernel
theorem dX12_bargain_6 : decode cX12_bargain 6 = .ok (.invokestatic 82, 3) := by decide +kernel
theorem dX12_bargain_9 : decode cX12_bargain 9 = .ok (.ifCond .eq 38, 3) := by decide +kernel
theorem dX12_bargain_12 : decode cX12_bargain 12 = .ok (.iload_n 2, 1) := by decide +kernel
theorem dX12_bargain_13 : decode cX12_bargain 13 = .ok (.i2l, 1) := by decide +kernel
theorem dX12_bargain_14 : decode cX12_bargain 14 = .ok (.lconst 0, 1) := by decide +kernel
theorem dX12_bargain_15 : decode cX12_bargain 15 = .ok (.ldc2_w 250, 3) := by decide +kernel
theorem dX12_bargain_18 : decode cX12_bargain 18 = .ok (.invokestatic 82, 3) := by decide +kernel
theorem dX12_bargain_21 : decode cX12_bargain 21 = .ok (.ifCond .eq 26, 3) := by decide +kernel
theorem dX12_bargain_24 : decode cX12_bargain 24 = .ok (.iload_n 3, 1) := by decide +kernel
theorem dX12_bargain_25 : decode cX12_bargain 25 = .ok (.i2l, 1) := by decide +kernel
theorem dX12_bargain_26 : decode cX12_bargain 26 = .ok (.lconst 0, 1) := by decide +kernel
theorem dX12_bargain_27 : decode cX12_bargain 27 = .ok (.ldc2_w 252, 3) := by decide +kernel
theorem dX12_bargain_30 : decode cX12_bargain 30 = .ok (.invokestatic 82, 3) := by decide +kernel
theorem dX12_bargain_33 : decode cX12_bargain 33 = .ok (.ifCond .eq 14, 3) := by decide +kernel
theorem dX12_bargain_36 : decode cX12_bargain 36 = .ok (.iload 4, 2) := by decide +kernel
theorem dX12_bargain_38 : decode cX12_bargain 38 = .ok (.i2l, 1) := by decide +kernel
theorem dX12_bargain_39 : decode cX12_bargain 39 = .ok (.lconst 0, 1) := by decide +kernel
theorem dX12_bargain_40 : decode cX12_bargain 40 = .ok (.lconst 1, 1) := by decide +kernel
theorem dX12_bargain_41 : decode cX12_bargain 41 = .ok (.invokestatic 82, 3) := by decide +kernel
theorem dX12_bargain_44 : decode cX12_bargain 44 = .ok (.ifCond .ne 6, 3) := by decide +kernel
theorem dX12_bargain_47 : decode cX12_bargain 47 = .ok (.ldc 94, 2) := by decide +kernel
theorem dX12_bargain_49 : decode cX12_bargain 49 = .ok (.ireturn, 1) := by decide +kernel
theorem dX12_bargain_50 : decode cX12_bargain 50 = .ok (.iload_n 1, 1) := by decide +kernel
theorem dX12_bargain_51 : decode cX12_bargain 51 = .ok (.i2l, 1) := by decide +kernel
theorem dX12_bargain_52 : decode cX12_bargain 52 = .ok (.iload_n 2, 1) := by decide +kernel
theorem dX12_bargain_53 : decode cX12_bargain 53 = .ok (.i2l, 1) := by decide +kernel
theorem dX12_bargain_54 : decode cX12_bargain 54 = .ok (.lmul, 1) := by decide +kernel
theorem dX12_bargain_55 : decode cX12_bargain 55 = .ok (.ldc2_w 250, 3) := by decide +kernel
theorem dX12_bargain_58 : decode cX12_bargain 58 = .ok (.ldiv, 1) := by decide +kernel
theorem dX12_bargain_59 : decode cX12_bargain 59 = .ok (.l2i, 1) := by decide +kernel
theorem dX12_bargain_60 : decode cX12_bargain 60 = .ok (.iload_n 3, 1) := by decide +kernel
theorem dX12_bargain_61 : decode cX12_bargain 61 = .ok (.isub, 1) := by decide +kernel
theorem dX12_bargain_62 : decode cX12_bargain 62 = .ok (.istore 5, 2) := by decide +kernel
theorem dX12_bargain_64 : decode cX12_bargain 64 = .ok (.iload 5, 2) := by decide +kernel
theorem dX12_bargain_66 : decode cX12_bargain 66 = .ok (.ifCond .le 8, 3) := by decide +kernel
theorem dX12_bargain_69 : decode cX12_bargain 69 = .ok (.iload 5, 2) := by decide +kernel
theorem dX12_bargain_71 : decode cX12_bargain 71 = .ok (.goto 4, 3) := by decide +kernel
theorem dX12_bargain_74 : decode cX12_bargain 74 = .ok (.iconst 0, 1) := by decide +kernel
theorem dX12_bargain_75 : decode cX12_bargain 75 = .ok (.istore 5, 2) := by decide +kernel
theorem dX12_bargain_77 : decode cX12_bargain 77 = .ok (.iload 5, 2) := by decide +kernel
theorem dX12_bargain_79 : decode cX12_bargain 79 = .ok (.iconst 2, 1) := by decide +kernel
theorem dX12_bargain_80 : decode cX12_bargain 80 = .ok (.iload_n 3, 1) := by decide +kernel
theorem dX12_bargain_81 : decode cX12_bargain 81 = .ok (.imul, 1) := by decide +kernel
theorem dX12_bargain_82 : decode cX12_bargain 82 = .ok (.iadd, 1) := by decide +kernel
theorem dX12_bargain_83 : decode cX12_bargain 83 = .ok (.iload_n 1, 1) := by decide +kernel
theorem dX12_bargain_84 : decode cX12_bargain 84 = .ok (.if_icmp .ge 12, 3) := by decide +kernel
theorem dX12_bargain_87 : decode cX12_bargain 87 = .ok (.iload 5, 2) := by decide +kernel
theorem dX12_bargain_89 : decode cX12_bargain 89 = .ok (.iconst 2, 1) := by decide +kernel
theorem dX12_bargain_90 : decode cX12_bargain 90 = .ok (.iload_n 3, 1) := by decide +kernel
theorem dX12_bargain_91 : decode cX12_bargain 91 = .ok (.imul, 1) := by decide +kernel
theorem dX12_bargain_92 : decode cX12_bargain 92 = .ok (.iadd, 1) := by decide +kernel
theorem dX12_bargain_93 : decode cX12_bargain 93 = .ok (.goto 4, 3) := by decide +kernel
theorem dX12_bargain_96 : decode cX12_bargain 96 = .ok (.iload_n 1, 1) := by decide +kernel
theorem dX12_bargain_97 : decode cX12_bargain 97 = .ok (.istore 6, 2) := by decide +kernel
theorem dX12_bargain_99 : decode cX12_bargain 99 = .ok (.iload 4, 2) := by decide +kernel
theorem dX12_bargain_101 : decode cX12_bargain 101 = .ok (.ifCond .ne 8, 3) := by decide +kernel
theorem dX12_bargain_104 : decode cX12_bargain 104 = .ok (.iload 5, 2) := by decide +kernel
theorem dX12_bargain_106 : decode cX12_bargain 106 = .ok (.goto 5, 3) := by decide +kernel
theorem dX12_bargain_109 : decode cX12_bargain 109 = .ok (.iload 6, 2) := by decide +kernel
theorem dX12_bargain_111 : decode cX12_bargain 111 = .ok (.ireturn, 1) := by decide +kernel
set_option maxRecDepth 20000 in
theorem ggX12_found_X12_isPlaces : GoodIn wsX12_found wsX12_isPlaces := goodIn_r _ [8, 9, 10, 11, 7, 12, 13, 14, 15, 16, 36, 37, 38, 39, 40, 41, 42, 43, 44, 45, 46, 47, 48, 49, 50, 51, 52, 53, 54, 55, 56, 57, 58, 59, 60, 61, 62, 63, 64, 65, 66, 67, 68, 69, 70] (by decide +kernel) (by decide +kernel)
set_option maxRecDepth 20000 in
theorem gX12_found_X12_isPlaces : GoodIn wsX12_found (wsV RX12 233 RX12 yX12_isPlaces wsX12_isPlaces) := goodIn_app (goodIn_of _ (by decide +kernel)) ggX12_found_X12_isPlaces
set_option maxRecDepth 20000 in
theorem ggX12_found_X12_places : GoodIn wsX12_found wsX12_places := goodIn_r _ [12, 13, 36, 37, 38, 39, 40, 41, 42, 43, 44, 45, 46, 47, 48, 49, 50, 51, 52, 53, 54, 55, 56, 57, 58, 59, 60, 61, 62, 63, 64, 65, 66, 67, 68, 69, 70] (by decide +kernel) (by decide +kernel)
set_option maxRecDepth 20000 in
theorem gX12_found_X12_places : GoodIn wsX12_found (wsV RX12 78 RX12 yX12_places wsX12_places) := goodIn_app (goodIn_of _ (by decide +kernel)) ggX12_found_X12_places
set_option maxRecDepth 20000 in
theorem ggX12_found_X12_has : GoodIn wsX12_found wsX12_has := goodIn_r _ [19] (by decide +kernel) (by decide +kernel)
set_option maxRecDepth 20000 in
theorem gX12_found_X12_has : GoodIn wsX12_found (va_wsS RX12 230 yX12_has wsX12_has) := goodIn_app (goodIn_of _ (by decide +kernel)) ggX12_found_X12_has
set_option maxRecDepth 20000 in
theorem ggX12_found_X12_isHeard : GoodIn wsX12_found wsX12_isHeard := goodIn_r _ [23, 24, 25, 26, 27, 7, 28, 29, 30, 31, 32, 33, 34, 35, 36, 37, 38, 39, 40, 41, 42, 43, 44, 45, 46, 47, 48, 49, 50, 51, 52, 53, 54, 55, 56, 57, 58, 59, 60, 61, 62, 63, 64, 65, 66, 67, 68, 69, 70] (by decide +kernel) (by decide +kernel)
set_option maxRecDepth 20000 in
theorem gX12_found_X12_isHeard : GoodIn wsX12_found (wsV RX12 226 RX12 yX12_isHeard wsX12_isHeard) := goodIn_app (goodIn_of _ (by decide +kernel)) ggX12_found_X12_isHeard
theorem dX12_found_0 : decode cX12_found 0 = .ok (.aload_n 0, 1) := by decide +kernel
theorem dX12_found_1 : decode cX12_found 1 = .ok (.iload_n 1, 1) := by decide +kernel
theorem dX12_found_2 : decode cX12_found 2 = .ok (.invokevirtual 233, 3) := by decide +kernel
theorem dX12_found_5 : decode cX12_found 5 = .ok (.ifCond .ne 6, 3) := by decide +kernel
theorem dX12_found_8 : decode cX12_found 8 = .ok (.ldc 165, 2) := by decide +kernel
theorem dX12_found_10 : decode cX12_found 10 = .ok (.ireturn, 1) := by decide +kernel
theorem dX12_found_11 : decode cX12_found 11 = .ok (.iconst 0, 1) := by decide +kernel
theorem dX12_found_12 : decode cX12_found 12 = .ok (.istore_n 2, 1) := by decide +kernel
theorem dX12_found_13 : decode cX12_found 13 = .ok (.iconst 0, 1) := by decide +kernel
theorem dX12_found_14 : decode cX12_found 14 = .ok (.istore_n 3, 1) := by decide +kernel
theorem dX12_found_15 : decode cX12_found 15 = .ok (.iconst 0, 1) := by decide +kernel
theorem dX12_found_16 : decode cX12_found 16 = .ok (.istore 4, 2) := by decide +kernel
theorem dX12_found_18 : decode cX12_found 18 = .ok (.iload 4, 2) := by decide +kernel
theorem dX12_found_20 : decode cX12_found 20 = .ok (.aload_n 0, 1) := by decide +kernel
theorem dX12_found_21 : decode cX12_found 21 = .ok (.getfield 86, 3) := by decide +kernel
theorem dX12_found_24 : decode cX12_found 24 = .ok (.if_icmp .ge 64, 3) := by decide +kernel
theorem dX12_found_27 : decode cX12_found 27 = .ok (.iconst 0, 1) := by decide +kernel
theorem dX12_found_28 : decode cX12_found 28 = .ok (.istore 5, 2) := by decide +kernel
theorem dX12_found_30 : decode cX12_found 30 = .ok (.iload 5, 2) := by decide +kernel
theorem dX12_found_32 : decode cX12_found 32 = .ok (.aload_n 0, 1) := by decide +kernel
theorem dX12_found_33 : decode cX12_found 33 = .ok (.invokevirtual 78, 3) := by decide +kernel
theorem dX12_found_36 : decode cX12_found 36 = .ok (.if_icmp .ge 46, 3) := by decide +kernel
theorem dX12_found_39 : decode cX12_found 39 = .ok (.iload_n 2, 1) := by decide +kernel
theorem dX12_found_40 : decode cX12_found 40 = .ok (.iload_n 1, 1) := by decide +kernel
theorem dX12_found_41 : decode cX12_found 41 = .ok (.iload 5, 2) := by decide +kernel
theorem dX12_found_43 : decode cX12_found 43 = .ok (.ishr, 1) := by decide +kernel
theorem dX12_found_44 : decode cX12_found 44 = .ok (.iconst 1, 1) := by decide +kernel
theorem dX12_found_45 : decode cX12_found 45 = .ok (.iand, 1) := by decide +kernel
theorem dX12_found_46 : decode cX12_found 46 = .ok (.iadd, 1) := by decide +kernel
theorem dX12_found_47 : decode cX12_found 47 = .ok (.istore_n 2, 1) := by decide +kernel
theorem dX12_found_48 : decode cX12_found 48 = .ok (.iload_n 3, 1) := by decide +kernel
theorem dX12_found_49 : decode cX12_found 49 = .ok (.iload_n 1, 1) := by decide +kernel
theorem dX12_found_50 : decode cX12_found 50 = .ok (.iload 5, 2) := by decide +kernel
theorem dX12_found_52 : decode cX12_found 52 = .ok (.invokestatic 230, 3) := by decide +kernel
theorem dX12_found_55 : decode cX12_found 55 = .ok (.ifCond .eq 18, 3) := by decide +kernel
theorem dX12_found_58 : decode cX12_found 58 = .ok (.aload_n 0, 1) := by decide +kernel
theorem dX12_found_59 : decode cX12_found 59 = .ok (.iload 4, 2) := by decide +kernel
theorem dX12_found_61 : decode cX12_found 61 = .ok (.iload 5, 2) := by decide +kernel
theorem dX12_found_63 : decode cX12_found 63 = .ok (.invokevirtual 226, 3) := by decide +kernel
theorem dX12_found_66 : decode cX12_found 66 = .ok (.ifCond .eq 7, 3) := by decide +kernel
theorem dX12_found_69 : decode cX12_found 69 = .ok (.iconst 1, 1) := by decide +kernel
theorem dX12_found_70 : decode cX12_found 70 = .ok (.goto 4, 3) := by decide +kernel
theorem dX12_found_73 : decode cX12_found 73 = .ok (.iconst 0, 1) := by decide +kernel
theorem dX12_found_74 : decode cX12_found 74 = .ok (.iadd, 1) := by decide +kernel
theorem dX12_found_75 : decode cX12_found 75 = .ok (.istore_n 3, 1) := by decide +kernel
theorem dX12_found_76 : decode cX12_found 76 = .ok (.iinc 5 1, 3) := by decide +kernel
theorem dX12_found_79 : decode cX12_found 79 = .ok (.goto (-49), 3) := by decide +kernel
theorem dX12_found_82 : decode cX12_found 82 = .ok (.iinc 4 1, 3) := by decide +kernel
theorem dX12_found_85 : decode cX12_found 85 = .ok (.goto (-67), 3) := by decide +kernel
theorem dX12_found_88 : decode cX12_found 88 = .ok (.iload_n 2, 1) := by decide +kernel
theorem dX12_found_89 : decode cX12_found 89 = .ok (.ifCond .ne 7, 3) := by decide +kernel
theorem dX12_found_92 : decode cX12_found 92 = .ok (.iconst 0, 1) := by decide +kernel
theorem dX12_found_93 : decode cX12_found 93 = .ok (.goto 13, 3) := by decide +kernel
theorem dX12_found_96 : decode cX12_found 96 = .ok (.iload_n 3, 1) := by decide +kernel
theorem dX12_found_97 : decode cX12_found 97 = .ok (.i2l, 1) := by decide +kernel
theorem dX12_found_98 : decode cX12_found 98 = .ok (.ldc2_w 250, 3) := by decide +kernel
theorem dX12_found_101 : decode cX12_found 101 = .ok (.lmul, 1) := by decide +kernel
theorem dX12_found_102 : decode cX12_found 102 = .ok (.iload_n 2, 1) := by decide +kernel
theorem dX12_found_103 : decode cX12_found 103 = .ok (.i2l, 1) := by decide +kernel
theorem dX12_found_104 : decode cX12_found 104 = .ok (.ldiv, 1) := by decide +kernel
theorem dX12_found_105 : decode cX12_found 105 = .ok (.l2i, 1) := by decide +kernel
theorem dX12_found_106 : decode cX12_found 106 = .ok (.ireturn, 1) := by decide +kernel
set_option maxRecDepth 20000 in
theorem ggX12_say_X12_isWitness : GoodIn wsX12_say wsX12_isWitness := goodIn_r _ [12, 13, 14, 15, 11, 16, 17, 18, 19, 20, 21, 22, 23, 24, 25, 26, 27, 28, 29, 30, 31, 32, 33, 34, 35, 36, 37, 38, 39, 40, 41, 42, 43, 44, 45, 46, 47, 48, 49, 50, 51] (by decide +kernel) (by decide +kernel)
set_option maxRecDepth 20000 in
theorem gX12_say_X12_isWitness : GoodIn wsX12_say (wsV RX12 170 RX12 yX12_isWitness wsX12_isWitness) := goodIn_app (goodIn_of _ (by decide +kernel)) ggX12_say_X12_isWitness
set_option maxRecDepth 20000 in
theorem ggX12_say_X12_in : GoodIn wsX12_say wsX12_in := goodIn_r _ [16] (by decide +kernel) (by decide +kernel)
set_option maxRecDepth 20000 in
theorem gX12_say_X12_in : GoodIn wsX12_say (va_wsS RX12 82 yX12_in wsX12_in) := goodIn_app (goodIn_of _ (by decide +kernel)) ggX12_say_X12_in
theorem dX12_say_0 : decode cX12_say 0 = .ok (.aload_n 0, 1) := by decide +kernel
theorem dX12_say_1 : decode cX12_say 1 = .ok (.iload_n 1, 1) := by decide +kernel
theorem dX12_say_2 : decode cX12_say 2 = .ok (.invokevirtual 170, 3) := by decide +kernel
theorem dX12_say_5 : decode cX12_say 5 = .ok (.ifCond .ne 6, 3) := by decide +kernel
theorem dX12_say_8 : decode cX12_say 8 = .ok (.ldc 165, 2) := by decide +kernel
theorem dX12_say_10 : decode cX12_say 10 = .ok (.ireturn, 1) := by decide +kernel
theorem dX12_say_11 : decode cX12_say 11 = .ok (.iload_n 2, 1) := by decide +kernel
theorem dX12_say_12 : decode cX12_say 12 = .ok (.i2l, 1) := by decide +kernel
theorem dX12_say_13 : decode cX12_say 13 = .ok (.lconst 0, 1) := by decide +kernel
theorem dX12_say_14 : decode cX12_say 14 = .ok (.ldc2_w 254, 3) := by decide +kernel
theorem dX12_say_17 : decode cX12_say 17 = .ok (.invokestatic 82, 3) := by decide +kernel
theorem dX12_say_20 : decode cX12_say 20 = .ok (.ifCond .ne 6, 3) := by decide +kernel
theorem dX12_say_23 : decode cX12_say 23 = .ok (.ldc 94, 2) := by decide +kernel
theorem dX12_say_25 : decode cX12_say 25 = .ok (.ireturn, 1) := by decide +kernel
theorem dX12_say_26 : decode cX12_say 26 = .ok (.aload_n 0, 1) := by decide +kernel
theorem dX12_say_27 : decode cX12_say 27 = .ok (.getfield 156, 3) := by decide +kernel
theorem dX12_say_30 : decode cX12_say 30 = .ok (.bipush 8, 2) := by decide +kernel
theorem dX12_say_32 : decode cX12_say 32 = .ok (.if_icmp .ne 6, 3) := by decide +kernel
theorem dX12_say_35 : decode cX12_say 35 = .ok (.ldc 98, 2) := by decide +kernel
theorem dX12_say_37 : decode cX12_say 37 = .ok (.ireturn, 1) := by decide +kernel
theorem dX12_say_38 : decode cX12_say 38 = .ok (.aload_n 0, 1) := by decide +kernel
theorem dX12_say_39 : decode cX12_say 39 = .ok (.getfield 53, 3) := by decide +kernel
theorem dX12_say_42 : decode cX12_say 42 = .ok (.aload_n 0, 1) := by decide +kernel
theorem dX12_say_43 : decode cX12_say 43 = .ok (.getfield 156, 3) := by decide +kernel
theorem dX12_say_46 : decode cX12_say 46 = .ok (.iload_n 1, 1) := by decide +kernel
theorem dX12_say_47 : decode cX12_say 47 = .ok (.iastore, 1) := by decide +kernel
theorem dX12_say_48 : decode cX12_say 48 = .ok (.aload_n 0, 1) := by decide +kernel
theorem dX12_say_49 : decode cX12_say 49 = .ok (.getfield 56, 3) := by decide +kernel
theorem dX12_say_52 : decode cX12_say 52 = .ok (.aload_n 0, 1) := by decide +kernel
theorem dX12_say_53 : decode cX12_say 53 = .ok (.getfield 156, 3) := by decide +kernel
theorem dX12_say_56 : decode cX12_say 56 = .ok (.iload_n 2, 1) := by decide +kernel
theorem dX12_say_57 : decode cX12_say 57 = .ok (.iastore, 1) := by decide +kernel
theorem dX12_say_58 : decode cX12_say 58 = .ok (.aload_n 0, 1) := by decide +kernel
theorem dX12_say_59 : decode cX12_say 59 = .ok (.dup, 1) := by decide +kernel
theorem dX12_say_60 : decode cX12_say 60 = .ok (.getfield 156, 3) := by decide +kernel
theorem dX12_say_63 : decode cX12_say 63 = .ok (.iconst 1, 1) := by decide +kernel
theorem dX12_say_64 : decode cX12_say 64 = .ok (.iadd, 1) := by decide +kernel
theorem dX12_say_65 : decode cX12_say 65 = .ok (.putfield 156, 3) := by decide +kernel
theorem dX12_say_68 : decode cX12_say 68 = .ok (.aload_n 0, 1) := by decide +kernel
theorem dX12_say_69 : decode cX12_say 69 = .ok (.getfield 156, 3) := by decide +kernel
theorem dX12_say_72 : decode cX12_say 72 = .ok (.ireturn, 1) := by decide +kernel
set_option maxRecDepth 20000 in
theorem ggX12_isPair_X12_isSound : GoodIn wsX12_isPair wsX12_isSound := goodIn_r _ [5, 6, 7, 8, 4, 9, 19, 20, 21, 22, 23, 24, 25, 26, 27, 28, 29, 30, 31, 32, 33, 34, 35, 36, 37, 38, 39, 40, 41, 42, 43, 44, 45, 46, 47, 48, 49, 50, 51, 52, 53] (by decide +kernel) (by decide +kernel)
set_option maxRecDepth 20000 in
theorem gX12_isPair_X12_isSound : GoodIn wsX12_isPair (wsV RX12 166 RX12 yX12_isSound wsX12_isSound) := goodIn_app (goodIn_of _ (by decide +kernel)) ggX12_isPair_X12_isSound
set_option maxRecDepth 20000 in
theorem ggX12_isPair_X12_isPlace : GoodIn wsX12_isPair wsX12_isPlace := goodIn_r _ [13, 14, 15, 16, 4, 17, 18, 7, 8, 9, 19, 20, 21, 22, 23, 24, 25, 26, 27, 28, 29, 30, 31, 32, 33, 34, 35, 36, 37, 38, 39, 40, 41, 42, 43, 44, 45, 46, 47, 48, 49, 50, 51, 52, 53] (by decide +kernel) (by decide +kernel)
set_option maxRecDepth 20000 in
theorem gX12_isPair_X12_isPlace : GoodIn wsX12_isPair (wsV RX12 190 RX12 yX12_isPlace wsX12_isPlace) := goodIn_app (goodIn_of _ (by decide +kernel)) ggX12_isPair_X12_isPlace
theorem dX12_isPair_0 : decode cX12_isPair 0 = .ok (.iload_n 1, 1) := by decide +kernel
theorem dX12_isPair_1 : decode cX12_isPair 1 = .ok (.bipush 100, 2) := by decide +kernel
theorem dX12_isPair_3 : decode cX12_isPair 3 = .ok (.if_icmp .eq 29, 3) := by decide +kernel
theorem dX12_isPair_6 : decode cX12_isPair 6 = .ok (.iload_n 1, 1) := by decide +kernel
theorem dX12_isPair_7 : decode cX12_isPair 7 = .ok (.ifCond .lt 29, 3) := by decide +kernel
theorem dX12_isPair_10 : decode cX12_isPair 10 = .ok (.aload_n 0, 1) := by decide +kernel
theorem dX12_isPair_11 : decode cX12_isPair 11 = .ok (.iload_n 1, 1) := by decide +kernel
theorem dX12_isPair_12 : decode cX12_isPair 12 = .ok (.bipush 10, 2) := by decide +kernel
theorem dX12_isPair_14 : decode cX12_isPair 14 = .ok (.idiv, 1) := by decide +kernel
theorem dX12_isPair_15 : decode cX12_isPair 15 = .ok (.invokevirtual 166, 3) := by decide +kernel
theorem dX12_isPair_18 : decode cX12_isPair 18 = .ok (.ifCond .eq 18, 3) := by decide +kernel
theorem dX12_isPair_21 : decode cX12_isPair 21 = .ok (.aload_n 0, 1) := by decide +kernel
theorem dX12_isPair_22 : decode cX12_isPair 22 = .ok (.iload_n 1, 1) := by decide +kernel
theorem dX12_isPair_23 : decode cX12_isPair 23 = .ok (.bipush 10, 2) := by decide +kernel
theorem dX12_isPair_25 : decode cX12_isPair 25 = .ok (.irem, 1) := by decide +kernel
theorem dX12_isPair_26 : decode cX12_isPair 26 = .ok (.invokevirtual 190, 3) := by decide +kernel
theorem dX12_isPair_29 : decode cX12_isPair 29 = .ok (.ifCond .eq 7, 3) := by decide +kernel
theorem dX12_isPair_32 : decode cX12_isPair 32 = .ok (.iconst 1, 1) := by decide +kernel
theorem dX12_isPair_33 : decode cX12_isPair 33 = .ok (.goto 4, 3) := by decide +kernel
theorem dX12_isPair_36 : decode cX12_isPair 36 = .ok (.iconst 0, 1) := by decide +kernel
theorem dX12_isPair_37 : decode cX12_isPair 37 = .ok (.ireturn, 1) := by decide +kernel
set_option maxRecDepth 20000 in
theorem ggX12_sayingFor_X12_sayingOf : GoodIn wsX12_sayingFor wsX12_sayingOf := goodIn_r _ [6, 1, 7, 8, 9, 10, 5, 11, 12, 13, 14, 15, 16, 17, 18, 19, 20, 21, 22, 23, 24, 25, 26, 27, 28, 29, 30, 31, 32, 33, 34, 35, 36, 37, 38, 39, 40, 41, 42, 43, 44, 45, 46, 47, 48, 49, 50, 51, 52, 53, 54, 55, 56, 57, 58, 59, 60, 61, 62] (by decide +kernel) (by decide +kernel)
set_option maxRecDepth 20000 in
theorem gX12_sayingFor_X12_sayingOf : GoodIn wsX12_sayingFor (wsV RX12 187 RX12 yX12_sayingOf wsX12_sayingOf) := goodIn_app (goodIn_of _ (by decide +kernel)) ggX12_sayingFor_X12_sayingOf
set_option maxRecDepth 20000 in
theorem ggX12_sayingFor_X12_widowers : GoodIn wsX12_sayingFor wsX12_widowers := goodIn_r _ [11, 12, 7, 28, 29, 30, 31, 32, 33, 34, 35, 36, 37, 38, 39, 40, 41, 42, 43, 44, 45, 46, 47, 48, 49, 50, 51, 52, 53, 54, 55, 56, 57, 58, 59, 60, 61, 62] (by decide +kernel) (by decide +kernel)
set_option maxRecDepth 20000 in
theorem gX12_sayingFor_X12_widowers : GoodIn wsX12_sayingFor (wsV RX12 177 RX12 yX12_widowers wsX12_widowers) := goodIn_app (goodIn_of _ (by decide +kernel)) ggX12_sayingFor_X12_widowers
theorem dX12_sayingFor_0 : decode cX12_sayingFor 0 = .ok (.iload_n 2, 1) := by decide +kernel
theorem dX12_sayingFor_1 : decode cX12_sayingFor 1 = .ok (.bipush 100, 2) := by decide +kernel
theorem dX12_sayingFor_3 : decode cX12_sayingFor 3 = .ok (.if_icmp .eq 19, 3) := by decide +kernel
theorem dX12_sayingFor_6 : decode cX12_sayingFor 6 = .ok (.aload_n 0, 1) := by decide +kernel
theorem dX12_sayingFor_7 : decode cX12_sayingFor 7 = .ok (.iload_n 1, 1) := by decide +kernel
theorem dX12_sayingFor_8 : decode cX12_sayingFor 8 = .ok (.iload_n 2, 1) := by decide +kernel
theorem dX12_sayingFor_9 : decode cX12_sayingFor 9 = .ok (.bipush 10, 2) := by decide +kernel
theorem dX12_sayingFor_11 : decode cX12_sayingFor 11 = .ok (.idiv, 1) := by decide +kernel
theorem dX12_sayingFor_12 : decode cX12_sayingFor 12 = .ok (.iload_n 2, 1) := by decide +kernel
theorem dX12_sayingFor_13 : decode cX12_sayingFor 13 = .ok (.bipush 10, 2) := by decide +kernel
theorem dX12_sayingFor_15 : decode cX12_sayingFor 15 = .ok (.irem, 1) := by decide +kernel
theorem dX12_sayingFor_16 : decode cX12_sayingFor 16 = .ok (.invokevirtual 187, 3) := by decide +kernel
theorem dX12_sayingFor_19 : decode cX12_sayingFor 19 = .ok (.goto 21, 3) := by decide +kernel
theorem dX12_sayingFor_22 : decode cX12_sayingFor 22 = .ok (.aload_n 0, 1) := by decide +kernel
theorem dX12_sayingFor_23 : decode cX12_sayingFor 23 = .ok (.getfield 19, 3) := by decide +kernel
theorem dX12_sayingFor_26 : decode cX12_sayingFor 26 = .ok (.iload_n 1, 1) := by decide +kernel
theorem dX12_sayingFor_27 : decode cX12_sayingFor 27 = .ok (.iaload, 1) := by decide +kernel
theorem dX12_sayingFor_28 : decode cX12_sayingFor 28 = .ok (.iconst 1, 1) := by decide +kernel
theorem dX12_sayingFor_29 : decode cX12_sayingFor 29 = .ok (.if_icmp .ne 10, 3) := by decide +kernel
theorem dX12_sayingFor_32 : decode cX12_sayingFor 32 = .ok (.aload_n 0, 1) := by decide +kernel
theorem dX12_sayingFor_33 : decode cX12_sayingFor 33 = .ok (.invokevirtual 177, 3) := by decide +kernel
theorem dX12_sayingFor_36 : decode cX12_sayingFor 36 = .ok (.goto 4, 3) := by decide +kernel
theorem dX12_sayingFor_39 : decode cX12_sayingFor 39 = .ok (.iconst 0, 1) := by decide +kernel
theorem dX12_sayingFor_40 : decode cX12_sayingFor 40 = .ok (.ireturn, 1) := by decide +kernel
set_option maxRecDepth 20000 in
theorem ggX12_liarsOf_X12_sayingFor : GoodIn wsX12_liarsOf wsX12_sayingFor := goodIn_r _ [8, 9, 10, 11, 12, 7, 13, 14, 15, 16, 17, 18, 19, 20, 21, 22, 23, 24, 25, 26, 27, 28, 29, 30, 31, 32, 33, 34, 35, 36, 37, 38, 39, 40, 41, 42, 43, 44, 45, 46, 47, 48, 49, 50, 51, 52, 53, 54, 55, 56, 57, 58, 59, 60, 61, 62, 63, 64, 65, 66, 67, 68, 69] (by decide +kernel) (by decide +kernel)
set_option maxRecDepth 20000 in
theorem gX12_liarsOf_X12_sayingFor : GoodIn wsX12_liarsOf (wsV RX12 256 RX12 yX12_sayingFor wsX12_sayingFor) := goodIn_app (goodIn_of _ (by decide +kernel)) ggX12_liarsOf_X12_sayingFor
theorem dX12_liarsOf_0 : decode cX12_liarsOf 0 = .ok (.iconst 0, 1) := by decide +kernel
theorem dX12_liarsOf_1 : decode cX12_liarsOf 1 = .ok (.istore_n 2, 1) := by decide +kernel
theorem dX12_liarsOf_2 : decode cX12_liarsOf 2 = .ok (.iconst 0, 1) := by decide +kernel
theorem dX12_liarsOf_3 : decode cX12_liarsOf 3 = .ok (.istore_n 3, 1) := by decide +kernel
theorem dX12_liarsOf_4 : decode cX12_liarsOf 4 = .ok (.iload_n 3, 1) := by decide +kernel
theorem dX12_liarsOf_5 : decode cX12_liarsOf 5 = .ok (.aload_n 0, 1) := by decide +kernel
theorem dX12_liarsOf_6 : decode cX12_liarsOf 6 = .ok (.getfield 156, 3) := by decide +kernel
theorem dX12_liarsOf_9 : decode cX12_liarsOf 9 = .ok (.if_icmp .ge 37, 3) := by decide +kernel
theorem dX12_liarsOf_12 : decode cX12_liarsOf 12 = .ok (.iload_n 2, 1) := by decide +kernel
theorem dX12_liarsOf_13 : decode cX12_liarsOf 13 = .ok (.aload_n 0, 1) := by decide +kernel
theorem dX12_liarsOf_14 : decode cX12_liarsOf 14 = .ok (.aload_n 0, 1) := by decide +kernel
theorem dX12_liarsOf_15 : decode cX12_liarsOf 15 = .ok (.getfield 53, 3) := by decide +kernel
theorem dX12_liarsOf_18 : decode cX12_liarsOf 18 = .ok (.iload_n 3, 1) := by decide +kernel
theorem dX12_liarsOf_19 : decode cX12_liarsOf 19 = .ok (.iaload, 1) := by decide +kernel
theorem dX12_liarsOf_20 : decode cX12_liarsOf 20 = .ok (.iload_n 1, 1) := by decide +kernel
theorem dX12_liarsOf_21 : decode cX12_liarsOf 21 = .ok (.invokevirtual 256, 3) := by decide +kernel
theorem dX12_liarsOf_24 : decode cX12_liarsOf 24 = .ok (.aload_n 0, 1) := by decide +kernel
theorem dX12_liarsOf_25 : decode cX12_liarsOf 25 = .ok (.getfield 56, 3) := by decide +kernel
theorem dX12_liarsOf_28 : decode cX12_liarsOf 28 = .ok (.iload_n 3, 1) := by decide +kernel
theorem dX12_liarsOf_29 : decode cX12_liarsOf 29 = .ok (.iaload, 1) := by decide +kernel
theorem dX12_liarsOf_30 : decode cX12_liarsOf 30 = .ok (.if_icmp .eq 7, 3) := by decide +kernel
theorem dX12_liarsOf_33 : decode cX12_liarsOf 33 = .ok (.iconst 1, 1) := by decide +kernel
theorem dX12_liarsOf_34 : decode cX12_liarsOf 34 = .ok (.goto 4, 3) := by decide +kernel
theorem dX12_liarsOf_37 : decode cX12_liarsOf 37 = .ok (.iconst 0, 1) := by decide +kernel
theorem dX12_liarsOf_38 : decode cX12_liarsOf 38 = .ok (.iadd, 1) := by decide +kernel
theorem dX12_liarsOf_39 : decode cX12_liarsOf 39 = .ok (.istore_n 2, 1) := by decide +kernel
theorem dX12_liarsOf_40 : decode cX12_liarsOf 40 = .ok (.iinc 3 1, 3) := by decide +kernel
theorem dX12_liarsOf_43 : decode cX12_liarsOf 43 = .ok (.goto (-39), 3) := by decide +kernel
theorem dX12_liarsOf_46 : decode cX12_liarsOf 46 = .ok (.iload_n 2, 1) := by decide +kernel
theorem dX12_liarsOf_47 : decode cX12_liarsOf 47 = .ok (.ireturn, 1) := by decide +kernel
set_option maxRecDepth 20000 in
theorem ggX12_births_X12_isPair : GoodIn wsX12_births wsX12_isPair := goodIn_r _ [7, 8, 9, 10, 6, 11, 12, 13, 14, 15, 16, 17, 18, 19, 20, 21, 22, 23, 1, 60, 61, 62, 63, 64, 65, 66, 67, 68, 69, 70, 71, 72, 73, 74, 75, 76, 77, 78, 79, 80, 81, 82, 83, 84, 85, 86, 87, 88, 89, 90, 91, 92, 93, 94] (by decide +kernel) (by decide +kernel)
set_option maxRecDepth 20000 in
theorem gX12_births_X12_isPair : GoodIn wsX12_births (wsV RX12 259 RX12 yX12_isPair wsX12_isPair) := goodIn_app (goodIn_of _ (by decide +kernel)) ggX12_births_X12_isPair
set_option maxRecDepth 20000 in
theorem ggX12_births_X12_liarsOf : GoodIn wsX12_births wsX12_liarsOf := goodIn_r _ [27, 28, 29, 30, 31, 32, 33, 6, 34, 35, 36, 37, 38, 39, 40, 41, 42, 43, 44, 12, 45, 46, 47, 48, 49, 50, 51, 52, 53, 54, 55, 56, 57, 58, 59, 60, 61, 62, 63, 64, 65, 66, 67, 68, 69, 70, 71, 72, 73, 74, 75, 76, 77, 78, 79, 80, 81, 82, 83, 84, 85, 86, 87, 88, 89, 90, 91, 92, 93, 94] (by decide +kernel) (by decide +kernel)
set_option maxRecDepth 20000 in
theorem gX12_births_X12_liarsOf : GoodIn wsX12_births (wsV RX12 262 RX12 yX12_liarsOf wsX12_liarsOf) := goodIn_app (goodIn_of _ (by decide +kernel)) ggX12_births_X12_liarsOf
theorem dX12_births_0 : decode cX12_births 0 = .ok (.aload_n 0, 1) := by decide +kernel
theorem dX12_births_1 : decode cX12_births 1 = .ok (.getfield 75, 3) := by decide +kernel
theorem dX12_births_4 : decode cX12_births 4 = .ok (.ifCond .ne 6, 3) := by decide +kernel
theorem dX12_births_7 : decode cX12_births 7 = .ok (.ldc 204, 2) := by decide +kernel
theorem dX12_births_9 : decode cX12_births 9 = .ok (.ireturn, 1) := by decide +kernel
theorem dX12_births_10 : decode cX12_births 10 = .ok (.iconst 0, 1) := by decide +kernel
theorem dX12_births_11 : decode cX12_births 11 = .ok (.istore_n 2, 1) := by decide +kernel
theorem dX12_births_12 : decode cX12_births 12 = .ok (.iconst 0, 1) := by decide +kernel
theorem dX12_births_13 : decode cX12_births 13 = .ok (.istore_n 3, 1) := by decide +kernel
theorem dX12_births_14 : decode cX12_births 14 = .ok (.iload_n 3, 1) := by decide +kernel
theorem dX12_births_15 : decode cX12_births 15 = .ok (.bipush 100, 2) := by decide +kernel
theorem dX12_births_17 : decode cX12_births 17 = .ok (.if_icmp .gt 35, 3) := by decide +kernel
theorem dX12_births_20 : decode cX12_births 20 = .ok (.aload_n 0, 1) := by decide +kernel
theorem dX12_births_21 : decode cX12_births 21 = .ok (.iload_n 3, 1) := by decide +kernel
theorem dX12_births_22 : decode cX12_births 22 = .ok (.invokevirtual 259, 3) := by decide +kernel
theorem dX12_births_25 : decode cX12_births 25 = .ok (.ifCond .eq 21, 3) := by decide +kernel
theorem dX12_births_28 : decode cX12_births 28 = .ok (.aload_n 0, 1) := by decide +kernel
theorem dX12_births_29 : decode cX12_births 29 = .ok (.iload_n 3, 1) := by decide +kernel
theorem dX12_births_30 : decode cX12_births 30 = .ok (.invokevirtual 262, 3) := by decide +kernel
theorem dX12_births_33 : decode cX12_births 33 = .ok (.ifCond .ne 13, 3) := by decide +kernel
theorem dX12_births_36 : decode cX12_births 36 = .ok (.iload_n 2, 1) := by decide +kernel
theorem dX12_births_37 : decode cX12_births 37 = .ok (.iload_n 1, 1) := by decide +kernel
theorem dX12_births_38 : decode cX12_births 38 = .ok (.if_icmp .ne 5, 3) := by decide +kernel
theorem dX12_births_41 : decode cX12_births 41 = .ok (.iload_n 3, 1) := by decide +kernel
theorem dX12_births_42 : decode cX12_births 42 = .ok (.ireturn, 1) := by decide +kernel
theorem dX12_births_43 : decode cX12_births 43 = .ok (.iinc 2 1, 3) := by decide +kernel
theorem dX12_births_46 : decode cX12_births 46 = .ok (.iinc 3 1, 3) := by decide +kernel
theorem dX12_births_49 : decode cX12_births 49 = .ok (.goto (-35), 3) := by decide +kernel
theorem dX12_births_52 : decode cX12_births 52 = .ok (.iload_n 1, 1) := by decide +kernel
theorem dX12_births_53 : decode cX12_births 53 = .ok (.iconst (-1), 1) := by decide +kernel
theorem dX12_births_54 : decode cX12_births 54 = .ok (.if_icmp .ne 7, 3) := by decide +kernel
theorem dX12_births_57 : decode cX12_births 57 = .ok (.iload_n 2, 1) := by decide +kernel
theorem dX12_births_58 : decode cX12_births 58 = .ok (.goto 4, 3) := by decide +kernel
theorem dX12_births_61 : decode cX12_births 61 = .ok (.iconst (-1), 1) := by decide +kernel
theorem dX12_births_62 : decode cX12_births 62 = .ok (.ireturn, 1) := by decide +kernel
set_option maxRecDepth 20000 in
theorem ggX12_liars_X12_isPair : GoodIn wsX12_liars wsX12_isPair := goodIn_r _ [8, 9, 10, 11, 7, 12, 13, 14, 15, 16, 17, 18, 19, 20, 21, 22, 23, 24, 2, 61, 62, 63, 64, 65, 66, 67, 68, 69, 70, 71, 72, 73, 74, 75, 76, 77, 78, 79, 80, 81, 82, 83, 84, 85, 86, 87, 88, 89, 90, 91, 92, 93, 94, 95] (by decide +kernel) (by decide +kernel)
set_option maxRecDepth 20000 in
theorem gX12_liars_X12_isPair : GoodIn wsX12_liars (wsV RX12 259 RX12 yX12_isPair wsX12_isPair) := goodIn_app (goodIn_of _ (by decide +kernel)) ggX12_liars_X12_isPair
set_option maxRecDepth 20000 in
theorem ggX12_liars_X12_liarsOf : GoodIn wsX12_liars wsX12_liarsOf := goodIn_r _ [28, 29, 30, 31, 32, 33, 34, 7, 35, 36, 37, 38, 39, 40, 41, 42, 43, 44, 45, 13, 46, 47, 48, 49, 50, 51, 52, 53, 54, 55, 56, 57, 58, 59, 60, 61, 62, 63, 64, 65, 66, 67, 68, 69, 70, 71, 72, 73, 74, 75, 76, 77, 78, 79, 80, 81, 82, 83, 84, 85, 86, 87, 88, 89, 90, 91, 92, 93, 94, 95] (by decide +kernel) (by decide +kernel)
set_option maxRecDepth 20000 in
theorem gX12_liars_X12_liarsOf : GoodIn wsX12_liars (wsV RX12 262 RX12 yX12_liarsOf wsX12_liarsOf) := goodIn_app (goodIn_of _ (by decide +kernel)) ggX12_liars_X12_liarsOf
theorem dX12_liars_0 : decode cX12_liars 0 = .ok (.aload_n 0, 1) := by decide +kernel
theorem dX12_liars_1 : decode cX12_liars 1 = .ok (.iload_n 1, 1) := by decide +kernel
theorem dX12_liars_2 : decode cX12_liars 2 = .ok (.invokevirtual 259, 3) := by decide +kernel
theorem dX12_liars_5 : decode cX12_liars 5 = .ok (.ifCond .ne 6, 3) := by decide +kernel
theorem dX12_liars_8 : decode cX12_liars 8 = .ok (.ldc 165, 2) := by decide +kernel
theorem dX12_liars_10 : decode cX12_liars 10 = .ok (.ireturn, 1) := by decide +kernel
theorem dX12_liars_11 : decode cX12_liars 11 = .ok (.aload_n 0, 1) := by decide +kernel
theorem dX12_liars_12 : decode cX12_liars 12 = .ok (.getfield 75, 3) := by decide +kernel
theorem dX12_liars_15 : decode cX12_liars 15 = .ok (.ifCond .ne 8, 3) := by decide +kernel
theorem dX12_liars_18 : decode cX12_liars 18 = .ok (.ldc 204, 2) := by decide +kernel
theorem dX12_liars_20 : decode cX12_liars 20 = .ok (.goto 8, 3) := by decide +kernel
theorem dX12_liars_23 : decode cX12_liars 23 = .ok (.aload_n 0, 1) := by decide +kernel
theorem dX12_liars_24 : decode cX12_liars 24 = .ok (.iload_n 1, 1) := by decide +kernel
theorem dX12_liars_25 : decode cX12_liars 25 = .ok (.invokevirtual 262, 3) := by decide +kernel
theorem dX12_liars_28 : decode cX12_liars 28 = .ok (.ireturn, 1) := by decide +kernel
set_option maxRecDepth 20000 in
theorem ggX12_leastLiars_X12_in : GoodIn wsX12_leastLiars wsX12_in := goodIn_r _ [7] (by decide +kernel) (by decide +kernel)
set_option maxRecDepth 20000 in
theorem gX12_leastLiars_X12_in : GoodIn wsX12_leastLiars (va_wsS RX12 82 yX12_in wsX12_in) := goodIn_app (goodIn_of _ (by decide +kernel)) ggX12_leastLiars_X12_in
set_option maxRecDepth 20000 in
theorem ggX12_leastLiars_X12_isPair : GoodIn wsX12_leastLiars wsX12_isPair := goodIn_r _ [11, 12, 13, 14, 6, 15, 16, 4, 5, 7, 17, 18, 19, 20, 21, 22, 23, 24, 2, 61, 62, 63, 64, 65, 66, 67, 68, 69, 70, 71, 72, 73, 74, 75, 76, 77, 78, 79, 80, 81, 82, 83, 84, 85, 86, 87, 88, 89, 90, 91, 92, 93, 94, 95] (by decide +kernel) (by decide +kernel)
set_option maxRecDepth 20000 in
theorem gX12_leastLiars_X12_isPair : GoodIn wsX12_leastLiars (wsV RX12 259 RX12 yX12_isPair wsX12_isPair) := goodIn_app (goodIn_of _ (by decide +kernel)) ggX12_leastLiars_X12_isPair
set_option maxRecDepth 20000 in
theorem ggX12_leastLiars_X12_liarsOf : GoodIn wsX12_leastLiars wsX12_liarsOf := goodIn_r _ [28, 29, 30, 31, 32, 33, 34, 6, 35, 36, 37, 38, 39, 40, 41, 42, 43, 44, 45, 16, 46, 47, 48, 49, 50, 51, 52, 53, 54, 55, 56, 57, 58, 59, 60, 61, 62, 63, 64, 65, 66, 67, 68, 69, 70, 71, 72, 73, 74, 75, 76, 77, 78, 79, 80, 81, 82, 83, 84, 85, 86, 87, 88, 89, 90, 91, 92, 93, 94, 95] (by decide +kernel) (by decide +kernel)
set_option maxRecDepth 20000 in
theorem gX12_leastLiars_X12_liarsOf : GoodIn wsX12_leastLiars (wsV RX12 262 RX12 yX12_liarsOf wsX12_liarsOf) := goodIn_app (goodIn_of _ (by decide +kernel)) ggX12_leastLiars_X12_liarsOf
theorem dX12_leastLiars_0 : decode cX12_leastLiars 0 = .ok (.iload_n 1, 1) := by decide +kernel
theorem dX12_leastLiars_1 : decode cX12_leastLiars 1 = .ok (.i2l, 1) := by decide +kernel
theorem dX12_leastLiars_2 : decode cX12_leastLiars 2 = .ok (.lconst 0, 1) := by decide +kernel
theorem dX12_leastLiars_3 : decode cX12_leastLiars 3 = .ok (.lconst 1, 1) := by decide +kernel
theorem dX12_leastLiars_4 : decode cX12_leastLiars 4 = .ok (.invokestatic 82, 3) := by decide +kernel
theorem dX12_leastLiars_7 : decode cX12_leastLiars 7 = .ok (.ifCond .ne 6, 3) := by decide +kernel
theorem dX12_leastLiars_10 : decode cX12_leastLiars 10 = .ok (.ldc 94, 2) := by decide +kernel
theorem dX12_leastLiars_12 : decode cX12_leastLiars 12 = .ok (.ireturn, 1) := by decide +kernel
theorem dX12_leastLiars_13 : decode cX12_leastLiars 13 = .ok (.aload_n 0, 1) := by decide +kernel
theorem dX12_leastLiars_14 : decode cX12_leastLiars 14 = .ok (.getfield 75, 3) := by decide +kernel
theorem dX12_leastLiars_17 : decode cX12_leastLiars 17 = .ok (.ifCond .ne 6, 3) := by decide +kernel
theorem dX12_leastLiars_20 : decode cX12_leastLiars 20 = .ok (.ldc 204, 2) := by decide +kernel
theorem dX12_leastLiars_22 : decode cX12_leastLiars 22 = .ok (.ireturn, 1) := by decide +kernel
theorem dX12_leastLiars_23 : decode cX12_leastLiars 23 = .ok (.bipush 100, 2) := by decide +kernel
theorem dX12_leastLiars_25 : decode cX12_leastLiars 25 = .ok (.istore_n 2, 1) := by decide +kernel
theorem dX12_leastLiars_26 : decode cX12_leastLiars 26 = .ok (.bipush 100, 2) := by decide +kernel
theorem dX12_leastLiars_28 : decode cX12_leastLiars 28 = .ok (.istore_n 3, 1) := by decide +kernel
theorem dX12_leastLiars_29 : decode cX12_leastLiars 29 = .ok (.iload_n 3, 1) := by decide +kernel
theorem dX12_leastLiars_30 : decode cX12_leastLiars 30 = .ok (.ifCond .lt 36, 3) := by decide +kernel
theorem dX12_leastLiars_33 : decode cX12_leastLiars 33 = .ok (.aload_n 0, 1) := by decide +kernel
theorem dX12_leastLiars_34 : decode cX12_leastLiars 34 = .ok (.iload_n 3, 1) := by decide +kernel
theorem dX12_leastLiars_35 : decode cX12_leastLiars 35 = .ok (.invokevirtual 259, 3) := by decide +kernel
theorem dX12_leastLiars_38 : decode cX12_leastLiars 38 = .ok (.ifCond .eq 20, 3) := by decide +kernel
theorem dX12_leastLiars_41 : decode cX12_leastLiars 41 = .ok (.aload_n 0, 1) := by decide +kernel
theorem dX12_leastLiars_42 : decode cX12_leastLiars 42 = .ok (.iload_n 3, 1) := by decide +kernel
theorem dX12_leastLiars_43 : decode cX12_leastLiars 43 = .ok (.invokevirtual 262, 3) := by decide +kernel
theorem dX12_leastLiars_46 : decode cX12_leastLiars 46 = .ok (.aload_n 0, 1) := by decide +kernel
theorem dX12_leastLiars_47 : decode cX12_leastLiars 47 = .ok (.iload_n 2, 1) := by decide +kernel
theorem dX12_leastLiars_48 : decode cX12_leastLiars 48 = .ok (.invokevirtual 262, 3) := by decide +kernel
theorem dX12_leastLiars_51 : decode cX12_leastLiars 51 = .ok (.if_icmp .gt 7, 3) := by decide +kernel
theorem dX12_leastLiars_54 : decode cX12_leastLiars 54 = .ok (.iload_n 3, 1) := by decide +kernel
theorem dX12_leastLiars_55 : decode cX12_leastLiars 55 = .ok (.goto 4, 3) := by decide +kernel
theorem dX12_leastLiars_58 : decode cX12_leastLiars 58 = .ok (.iload_n 2, 1) := by decide +kernel
theorem dX12_leastLiars_59 : decode cX12_leastLiars 59 = .ok (.istore_n 2, 1) := by decide +kernel
theorem dX12_leastLiars_60 : decode cX12_leastLiars 60 = .ok (.iinc 3 (-1), 3) := by decide +kernel
theorem dX12_leastLiars_63 : decode cX12_leastLiars 63 = .ok (.goto (-34), 3) := by decide +kernel
theorem dX12_leastLiars_66 : decode cX12_leastLiars 66 = .ok (.iload_n 1, 1) := by decide +kernel
theorem dX12_leastLiars_67 : decode cX12_leastLiars 67 = .ok (.ifCond .ne 7, 3) := by decide +kernel
theorem dX12_leastLiars_70 : decode cX12_leastLiars 70 = .ok (.iload_n 2, 1) := by decide +kernel
theorem dX12_leastLiars_71 : decode cX12_leastLiars 71 = .ok (.goto 8, 3) := by decide +kernel
theorem dX12_leastLiars_74 : decode cX12_leastLiars 74 = .ok (.aload_n 0, 1) := by decide +kernel
theorem dX12_leastLiars_75 : decode cX12_leastLiars 75 = .ok (.iload_n 2, 1) := by decide +kernel
theorem dX12_leastLiars_76 : decode cX12_leastLiars 76 = .ok (.invokevirtual 262, 3) := by decide +kernel
theorem dX12_leastLiars_79 : decode cX12_leastLiars 79 = .ok (.ireturn, 1) := by decide +kernel
set_option maxRecDepth 20000 in
theorem ggX12_greatestPart_X12_isPair : GoodIn wsX12_greatestPart wsX12_isPair := goodIn_r _ [6, 7, 8, 9, 5, 10, 11, 12, 13, 14, 15, 16, 17, 18, 19, 20, 21, 22, 23, 60, 61, 62, 63, 64, 65, 66, 67, 68, 69, 70, 71, 72, 73, 74, 75, 76, 77, 78, 79, 80, 81, 82, 83, 84, 85, 86, 87, 88, 89, 90, 91, 92, 93, 94] (by decide +kernel) (by decide +kernel)
set_option maxRecDepth 20000 in
theorem gX12_greatestPart_X12_isPair : GoodIn wsX12_greatestPart (wsV RX12 259 RX12 yX12_isPair wsX12_isPair) := goodIn_app (goodIn_of _ (by decide +kernel)) ggX12_greatestPart_X12_isPair
set_option maxRecDepth 20000 in
theorem ggX12_greatestPart_X12_liarsOf : GoodIn wsX12_greatestPart wsX12_liarsOf := goodIn_r _ [27, 28, 29, 30, 31, 32, 33, 5, 34, 35, 36, 37, 38, 39, 40, 41, 42, 43, 44, 11, 45, 46, 47, 48, 49, 50, 51, 52, 53, 54, 55, 56, 57, 58, 59, 60, 61, 62, 63, 64, 65, 66, 67, 68, 69, 70, 71, 72, 73, 74, 75, 76, 77, 78, 79, 80, 81, 82, 83, 84, 85, 86, 87, 88, 89, 90, 91, 92, 93, 94] (by decide +kernel) (by decide +kernel)
set_option maxRecDepth 20000 in
theorem gX12_greatestPart_X12_liarsOf : GoodIn wsX12_greatestPart (wsV RX12 262 RX12 yX12_liarsOf wsX12_liarsOf) := goodIn_app (goodIn_of _ (by decide +kernel)) ggX12_greatestPart_X12_liarsOf
set_option maxRecDepth 20000 in
theorem ggX12_greatestPart_X12_sayingFor : GoodIn wsX12_greatestPart wsX12_sayingFor := goodIn_r _ [34, 35, 36, 37, 38, 5, 39, 40, 41, 42, 43, 44, 11, 45, 46, 47, 48, 49, 50, 51, 52, 53, 54, 55, 56, 57, 58, 59, 60, 61, 62, 63, 64, 65, 66, 67, 68, 69, 70, 71, 72, 73, 74, 75, 76, 77, 78, 79, 80, 81, 82, 83, 84, 85, 86, 87, 88, 89, 90, 91, 92, 93, 94] (by decide +kernel) (by decide +kernel)
set_option maxRecDepth 20000 in
theorem gX12_greatestPart_X12_sayingFor : GoodIn wsX12_greatestPart (wsV RX12 256 RX12 yX12_sayingFor wsX12_sayingFor) := goodIn_app (goodIn_of _ (by decide +kernel)) ggX12_greatestPart_X12_sayingFor
theorem dX12_greatestPart_0 : decode cX12_greatestPart 0 = .ok (.iconst 0, 1) := by decide +kernel
theorem dX12_greatestPart_1 : decode cX12_greatestPart 1 = .ok (.istore_n 2, 1) := by decide +kernel
theorem dX12_greatestPart_2 : decode cX12_greatestPart 2 = .ok (.iload_n 2, 1) := by decide +kernel
theorem dX12_greatestPart_3 : decode cX12_greatestPart 3 = .ok (.bipush 12, 2) := by decide +kernel
theorem dX12_greatestPart_5 : decode cX12_greatestPart 5 = .ok (.if_icmp .ge 16, 3) := by decide +kernel
theorem dX12_greatestPart_8 : decode cX12_greatestPart 8 = .ok (.aload_n 0, 1) := by decide +kernel
theorem dX12_greatestPart_9 : decode cX12_greatestPart 9 = .ok (.getfield 59, 3) := by decide +kernel
theorem dX12_greatestPart_12 : decode cX12_greatestPart 12 = .ok (.iload_n 2, 1) := by decide +kernel
theorem dX12_greatestPart_13 : decode cX12_greatestPart 13 = .ok (.iconst 0, 1) := by decide +kernel
theorem dX12_greatestPart_14 : decode cX12_greatestPart 14 = .ok (.iastore, 1) := by decide +kernel
theorem dX12_greatestPart_15 : decode cX12_greatestPart 15 = .ok (.iinc 2 1, 3) := by decide +kernel
theorem dX12_greatestPart_18 : decode cX12_greatestPart 18 = .ok (.goto (-16), 3) := by decide +kernel
theorem dX12_greatestPart_21 : decode cX12_greatestPart 21 = .ok (.iconst 0, 1) := by decide +kernel
theorem dX12_greatestPart_22 : decode cX12_greatestPart 22 = .ok (.istore_n 2, 1) := by decide +kernel
theorem dX12_greatestPart_23 : decode cX12_greatestPart 23 = .ok (.iconst 0, 1) := by decide +kernel
theorem dX12_greatestPart_24 : decode cX12_greatestPart 24 = .ok (.istore_n 3, 1) := by decide +kernel
theorem dX12_greatestPart_25 : decode cX12_greatestPart 25 = .ok (.iload_n 3, 1) := by decide +kernel
theorem dX12_greatestPart_26 : decode cX12_greatestPart 26 = .ok (.bipush 100, 2) := by decide +kernel
theorem dX12_greatestPart_28 : decode cX12_greatestPart 28 = .ok (.if_icmp .gt 67, 3) := by decide +kernel
theorem dX12_greatestPart_31 : decode cX12_greatestPart 31 = .ok (.aload_n 0, 1) := by decide +kernel
theorem dX12_greatestPart_32 : decode cX12_greatestPart 32 = .ok (.iload_n 3, 1) := by decide +kernel
theorem dX12_greatestPart_33 : decode cX12_greatestPart 33 = .ok (.invokevirtual 259, 3) := by decide +kernel
theorem dX12_greatestPart_36 : decode cX12_greatestPart 36 = .ok (.ifCond .eq 53, 3) := by decide +kernel
theorem dX12_greatestPart_39 : decode cX12_greatestPart 39 = .ok (.aload_n 0, 1) := by decide +kernel
theorem dX12_greatestPart_40 : decode cX12_greatestPart 40 = .ok (.iload_n 3, 1) := by decide +kernel
theorem dX12_greatestPart_41 : decode cX12_greatestPart 41 = .ok (.invokevirtual 262, 3) := by decide +kernel
theorem dX12_greatestPart_44 : decode cX12_greatestPart 44 = .ok (.ifCond .ne 45, 3) := by decide +kernel
theorem dX12_greatestPart_47 : decode cX12_greatestPart 47 = .ok (.aload_n 0, 1) := by decide +kernel
theorem dX12_greatestPart_48 : decode cX12_greatestPart 48 = .ok (.iload_n 1, 1) := by decide +kernel
theorem dX12_greatestPart_49 : decode cX12_greatestPart 49 = .ok (.iload_n 3, 1) := by decide +kernel
theorem dX12_greatestPart_50 : decode cX12_greatestPart 50 = .ok (.invokevirtual 256, 3) := by decide +kernel
theorem dX12_greatestPart_53 : decode cX12_greatestPart 53 = .ok (.istore 4, 2) := by decide +kernel
theorem dX12_greatestPart_55 : decode cX12_greatestPart 55 = .ok (.aload_n 0, 1) := by decide +kernel
theorem dX12_greatestPart_56 : decode cX12_greatestPart 56 = .ok (.getfield 59, 3) := by decide +kernel
theorem dX12_greatestPart_59 : decode cX12_greatestPart 59 = .ok (.iload 4, 2) := by decide +kernel
theorem dX12_greatestPart_61 : decode cX12_greatestPart 61 = .ok (.dup2, 1) := by decide +kernel
theorem dX12_greatestPart_62 : decode cX12_greatestPart 62 = .ok (.iaload, 1) := by decide +kernel
theorem dX12_greatestPart_63 : decode cX12_greatestPart 63 = .ok (.iconst 1, 1) := by decide +kernel
theorem dX12_greatestPart_64 : decode cX12_greatestPart 64 = .ok (.iadd, 1) := by decide +kernel
theorem dX12_greatestPart_65 : decode cX12_greatestPart 65 = .ok (.iastore, 1) := by decide +kernel
theorem dX12_greatestPart_66 : decode cX12_greatestPart 66 = .ok (.aload_n 0, 1) := by decide +kernel
theorem dX12_greatestPart_67 : decode cX12_greatestPart 67 = .ok (.getfield 59, 3) := by decide +kernel
theorem dX12_greatestPart_70 : decode cX12_greatestPart 70 = .ok (.iload 4, 2) := by decide +kernel
theorem dX12_greatestPart_72 : decode cX12_greatestPart 72 = .ok (.iaload, 1) := by decide +kernel
theorem dX12_greatestPart_73 : decode cX12_greatestPart 73 = .ok (.iload_n 2, 1) := by decide +kernel
theorem dX12_greatestPart_74 : decode cX12_greatestPart 74 = .ok (.if_icmp .le 13, 3) := by decide +kernel
theorem dX12_greatestPart_77 : decode cX12_greatestPart 77 = .ok (.aload_n 0, 1) := by decide +kernel
theorem dX12_greatestPart_78 : decode cX12_greatestPart 78 = .ok (.getfield 59, 3) := by decide +kernel
theorem dX12_greatestPart_81 : decode cX12_greatestPart 81 = .ok (.iload 4, 2) := by decide +kernel
theorem dX12_greatestPart_83 : decode cX12_greatestPart 83 = .ok (.iaload, 1) := by decide +kernel
theorem dX12_greatestPart_84 : decode cX12_greatestPart 84 = .ok (.goto 4, 3) := by decide +kernel
theorem dX12_greatestPart_87 : decode cX12_greatestPart 87 = .ok (.iload_n 2, 1) := by decide +kernel
theorem dX12_greatestPart_88 : decode cX12_greatestPart 88 = .ok (.istore_n 2, 1) := by decide +kernel
theorem dX12_greatestPart_89 : decode cX12_greatestPart 89 = .ok (.iinc 3 1, 3) := by decide +kernel
theorem dX12_greatestPart_92 : decode cX12_greatestPart 92 = .ok (.goto (-67), 3) := by decide +kernel
theorem dX12_greatestPart_95 : decode cX12_greatestPart 95 = .ok (.iload_n 2, 1) := by decide +kernel
theorem dX12_greatestPart_96 : decode cX12_greatestPart 96 = .ok (.ireturn, 1) := by decide +kernel
set_option maxRecDepth 20000 in
theorem ggX12_ask_X12_births : GoodIn wsX12_ask wsX12_births := goodIn_r _ [8, 1, 2, 9, 10, 11, 7, 12, 13, 14, 15, 16, 17, 18, 19, 20, 21, 22, 23, 24, 25, 26, 27, 28, 29, 30, 31, 32, 33, 34, 35, 36, 37, 38, 39, 40, 41, 42, 43, 44, 45, 46, 47, 48, 49, 50, 51, 52, 53, 54, 55, 56, 57, 58, 59, 60, 61, 62, 63, 64, 70, 71, 72, 73, 74, 75, 76, 77, 78, 79, 80, 81, 82, 83, 84, 85, 86, 87, 88, 89, 90, 91, 92, 93, 94, 95, 96, 97, 98, 99, 100, 101, 102, 103, 104] (by decide +kernel) (by decide +kernel)
set_option maxRecDepth 20000 in
theorem gX12_ask_X12_births : GoodIn wsX12_ask (wsV RX12 265 RX12 yX12_births wsX12_births) := goodIn_app (goodIn_of _ (by decide +kernel)) ggX12_ask_X12_births
set_option maxRecDepth 20000 in
theorem ggX12_ask_X12_greatestPart : GoodIn wsX12_ask wsX12_greatestPart := goodIn_r _ [68, 69, 9, 10, 11, 7, 12, 13, 14, 15, 16, 17, 18, 19, 20, 21, 22, 23, 24, 25, 26, 27, 28, 1, 29, 30, 31, 32, 33, 34, 35, 36, 37, 38, 39, 40, 41, 42, 43, 44, 45, 46, 47, 48, 49, 50, 51, 52, 53, 54, 55, 56, 57, 58, 59, 60, 61, 62, 63, 64, 70, 71, 72, 73, 74, 75, 76, 77, 78, 79, 80, 81, 82, 83, 84, 85, 86, 87, 88, 89, 90, 91, 92, 93, 94, 95, 96, 97, 98, 99, 100, 101, 102, 103, 104] (by decide +kernel) (by decide +kernel)
set_option maxRecDepth 20000 in
theorem gX12_ask_X12_greatestPart : GoodIn wsX12_ask (wsV RX12 268 RX12 yX12_greatestPart wsX12_greatestPart) := goodIn_app (goodIn_of _ (by decide +kernel)) ggX12_ask_X12_greatestPart
theorem dX12_ask_0 : decode cX12_ask 0 = .ok (.aload_n 0, 1) := by decide +kernel
theorem dX12_ask_1 : decode cX12_ask 1 = .ok (.getfield 75, 3) := by decide +kernel
theorem dX12_ask_4 : decode cX12_ask 4 = .ok (.ifCond .ne 6, 3) := by decide +kernel
theorem dX12_ask_7 : decode cX12_ask 7 = .ok (.ldc 204, 2) := by decide +kernel
theorem dX12_ask_9 : decode cX12_ask 9 = .ok (.ireturn, 1) := by decide +kernel
theorem dX12_ask_10 : decode cX12_ask 10 = .ok (.iconst (-1), 1) := by decide +kernel
theorem dX12_ask_11 : decode cX12_ask 11 = .ok (.istore_n 1, 1) := by decide +kernel
theorem dX12_ask_12 : decode cX12_ask 12 = .ok (.aload_n 0, 1) := by decide +kernel
theorem dX12_ask_13 : decode cX12_ask 13 = .ok (.iconst (-1), 1) := by decide +kernel
theorem dX12_ask_14 : decode cX12_ask 14 = .ok (.invokevirtual 265, 3) := by decide +kernel
theorem dX12_ask_17 : decode cX12_ask 17 = .ok (.istore_n 2, 1) := by decide +kernel
theorem dX12_ask_18 : decode cX12_ask 18 = .ok (.iconst 0, 1) := by decide +kernel
theorem dX12_ask_19 : decode cX12_ask 19 = .ok (.istore_n 3, 1) := by decide +kernel
theorem dX12_ask_20 : decode cX12_ask 20 = .ok (.iload_n 3, 1) := by decide +kernel
theorem dX12_ask_21 : decode cX12_ask 21 = .ok (.aload_n 0, 1) := by decide +kernel
theorem dX12_ask_22 : decode cX12_ask 22 = .ok (.getfield 89, 3) := by decide +kernel
theorem dX12_ask_25 : decode cX12_ask 25 = .ok (.if_icmp .ge 41, 3) := by decide +kernel
theorem dX12_ask_28 : decode cX12_ask 28 = .ok (.aload_n 0, 1) := by decide +kernel
theorem dX12_ask_29 : decode cX12_ask 29 = .ok (.iload_n 3, 1) := by decide +kernel
theorem dX12_ask_30 : decode cX12_ask 30 = .ok (.invokevirtual 268, 3) := by decide +kernel
theorem dX12_ask_33 : decode cX12_ask 33 = .ok (.istore 4, 2) := by decide +kernel
theorem dX12_ask_35 : decode cX12_ask 35 = .ok (.iload 4, 2) := by decide +kernel
theorem dX12_ask_37 : decode cX12_ask 37 = .ok (.iload_n 2, 1) := by decide +kernel
theorem dX12_ask_38 : decode cX12_ask 38 = .ok (.if_icmp .ge 7, 3) := by decide +kernel
theorem dX12_ask_41 : decode cX12_ask 41 = .ok (.iload_n 3, 1) := by decide +kernel
theorem dX12_ask_42 : decode cX12_ask 42 = .ok (.goto 4, 3) := by decide +kernel
theorem dX12_ask_45 : decode cX12_ask 45 = .ok (.iload_n 1, 1) := by decide +kernel
theorem dX12_ask_46 : decode cX12_ask 46 = .ok (.istore_n 1, 1) := by decide +kernel
theorem dX12_ask_47 : decode cX12_ask 47 = .ok (.iload 4, 2) := by decide +kernel
theorem dX12_ask_49 : decode cX12_ask 49 = .ok (.iload_n 2, 1) := by decide +kernel
theorem dX12_ask_50 : decode cX12_ask 50 = .ok (.if_icmp .ge 8, 3) := by decide +kernel
theorem dX12_ask_53 : decode cX12_ask 53 = .ok (.iload 4, 2) := by decide +kernel
theorem dX12_ask_55 : decode cX12_ask 55 = .ok (.goto 4, 3) := by decide +kernel
theorem dX12_ask_58 : decode cX12_ask 58 = .ok (.iload_n 2, 1) := by decide +kernel
theorem dX12_ask_59 : decode cX12_ask 59 = .ok (.istore_n 2, 1) := by decide +kernel
theorem dX12_ask_60 : decode cX12_ask 60 = .ok (.iinc 3 1, 3) := by decide +kernel
theorem dX12_ask_63 : decode cX12_ask 63 = .ok (.goto (-43), 3) := by decide +kernel
theorem dX12_ask_66 : decode cX12_ask 66 = .ok (.iload_n 1, 1) := by decide +kernel
theorem dX12_ask_67 : decode cX12_ask 67 = .ok (.ireturn, 1) := by decide +kernel
set_option maxRecDepth 20000 in
theorem ggX12_write_X12_in : GoodIn wsX12_write wsX12_in := goodIn_r _ [9] (by decide +kernel) (by decide +kernel)
set_option maxRecDepth 20000 in
theorem gX12_write_X12_in : GoodIn wsX12_write (va_wsS RX12 82 yX12_in wsX12_in) := goodIn_app (goodIn_of _ (by decide +kernel)) ggX12_write_X12_in
theorem dX12_write_0 : decode cX12_write 0 = .ok (.iload_n 1, 1) := by decide +kernel
theorem dX12_write_1 : decode cX12_write 1 = .ok (.i2l, 1) := by decide +kernel
theorem dX12_write_2 : decode cX12_write 2 = .ok (.lconst 0, 1) := by decide +kernel
theorem dX12_write_3 : decode cX12_write 3 = .ok (.ldc2_w 271, 3) := by decide +kernel
theorem dX12_write_6 : decode cX12_write 6 = .ok (.invokestatic 82, 3) := by decide +kernel
theorem dX12_write_9 : decode cX12_write 9 = .ok (.ifCond .ne 6, 3) := by decide +kernel
theorem dX12_write_12 : decode cX12_write 12 = .ok (.ldc 94, 2) := by decide +kernel
theorem dX12_write_14 : decode cX12_write 14 = .ok (.ireturn, 1) := by decide +kernel
theorem dX12_write_15 : decode cX12_write 15 = .ok (.aload_n 0, 1) := by decide +kernel
theorem dX12_write_16 : decode cX12_write 16 = .ok (.getfield 159, 3) := by decide +kernel
theorem dX12_write_19 : decode cX12_write 19 = .ok (.bipush 15, 2) := by decide +kernel
theorem dX12_write_21 : decode cX12_write 21 = .ok (.if_icmp .ne 6, 3) := by decide +kernel
theorem dX12_write_24 : decode cX12_write 24 = .ok (.ldc 98, 2) := by decide +kernel
theorem dX12_write_26 : decode cX12_write 26 = .ok (.ireturn, 1) := by decide +kernel
theorem dX12_write_27 : decode cX12_write 27 = .ok (.aload_n 0, 1) := by decide +kernel
theorem dX12_write_28 : decode cX12_write 28 = .ok (.getfield 62, 3) := by decide +kernel
theorem dX12_write_31 : decode cX12_write 31 = .ok (.aload_n 0, 1) := by decide +kernel
theorem dX12_write_32 : decode cX12_write 32 = .ok (.getfield 159, 3) := by decide +kernel
theorem dX12_write_35 : decode cX12_write 35 = .ok (.iload_n 1, 1) := by decide +kernel
theorem dX12_write_36 : decode cX12_write 36 = .ok (.iastore, 1) := by decide +kernel
theorem dX12_write_37 : decode cX12_write 37 = .ok (.aload_n 0, 1) := by decide +kernel
theorem dX12_write_38 : decode cX12_write 38 = .ok (.dup, 1) := by decide +kernel
theorem dX12_write_39 : decode cX12_write 39 = .ok (.getfield 159, 3) := by decide +kernel
theorem dX12_write_42 : decode cX12_write 42 = .ok (.iconst 1, 1) := by decide +kernel
theorem dX12_write_43 : decode cX12_write 43 = .ok (.iadd, 1) := by decide +kernel
theorem dX12_write_44 : decode cX12_write 44 = .ok (.putfield 159, 3) := by decide +kernel
theorem dX12_write_47 : decode cX12_write 47 = .ok (.aload_n 0, 1) := by decide +kernel
theorem dX12_write_48 : decode cX12_write 48 = .ok (.getfield 159, 3) := by decide +kernel
theorem dX12_write_51 : decode cX12_write 51 = .ok (.ireturn, 1) := by decide +kernel
theorem dX12_tear_0 : decode cX12_tear 0 = .ok (.aload_n 0, 1) := by decide +kernel
theorem dX12_tear_1 : decode cX12_tear 1 = .ok (.getfield 156, 3) := by decide +kernel
theorem dX12_tear_4 : decode cX12_tear 4 = .ok (.aload_n 0, 1) := by decide +kernel
theorem dX12_tear_5 : decode cX12_tear 5 = .ok (.getfield 159, 3) := by decide +kernel
theorem dX12_tear_8 : decode cX12_tear 8 = .ok (.iadd, 1) := by decide +kernel
theorem dX12_tear_9 : decode cX12_tear 9 = .ok (.istore_n 1, 1) := by decide +kernel
theorem dX12_tear_10 : decode cX12_tear 10 = .ok (.aload_n 0, 1) := by decide +kernel
theorem dX12_tear_11 : decode cX12_tear 11 = .ok (.iconst 0, 1) := by decide +kernel
theorem dX12_tear_12 : decode cX12_tear 12 = .ok (.putfield 156, 3) := by decide +kernel
theorem dX12_tear_15 : decode cX12_tear 15 = .ok (.aload_n 0, 1) := by decide +kernel
theorem dX12_tear_16 : decode cX12_tear 16 = .ok (.iconst 0, 1) := by decide +kernel
theorem dX12_tear_17 : decode cX12_tear 17 = .ok (.putfield 159, 3) := by decide +kernel
theorem dX12_tear_20 : decode cX12_tear 20 = .ok (.iload_n 1, 1) := by decide +kernel
theorem dX12_tear_21 : decode cX12_tear 21 = .ok (.ireturn, 1) := by decide +kernel
set_option maxRecDepth 20000 in
theorem ggX12_judge_X12_bits : GoodIn wsX12_judge wsX12_bits := goodIn_r _ [7] (by decide +kernel) (by decide +kernel)
set_option maxRecDepth 20000 in
theorem gX12_judge_X12_bits : GoodIn wsX12_judge (va_wsS RX12 236 yX12_bits wsX12_bits) := goodIn_app (goodIn_of _ (by decide +kernel)) ggX12_judge_X12_bits
theorem dX12_judge_0 : decode cX12_judge 0 = .ok (.iconst 0, 1) := by decide +kernel
theorem dX12_judge_1 : decode cX12_judge 1 = .ok (.istore_n 1, 1) := by decide +kernel
theorem dX12_judge_2 : decode cX12_judge 2 = .ok (.iload_n 1, 1) := by decide +kernel
theorem dX12_judge_3 : decode cX12_judge 3 = .ok (.aload_n 0, 1) := by decide +kernel
theorem dX12_judge_4 : decode cX12_judge 4 = .ok (.getfield 159, 3) := by decide +kernel
theorem dX12_judge_7 : decode cX12_judge 7 = .ok (.if_icmp .ge 30, 3) := by decide +kernel
theorem dX12_judge_10 : decode cX12_judge 10 = .ok (.aload_n 0, 1) := by decide +kernel
theorem dX12_judge_11 : decode cX12_judge 11 = .ok (.getfield 22, 3) := by decide +kernel
theorem dX12_judge_14 : decode cX12_judge 14 = .ok (.bipush 19, 2) := by decide +kernel
theorem dX12_judge_16 : decode cX12_judge 16 = .ok (.iaload, 1) := by decide +kernel
theorem dX12_judge_17 : decode cX12_judge 17 = .ok (.invokestatic 236, 3) := by decide +kernel
theorem dX12_judge_20 : decode cX12_judge 20 = .ok (.aload_n 0, 1) := by decide +kernel
theorem dX12_judge_21 : decode cX12_judge 21 = .ok (.getfield 62, 3) := by decide +kernel
theorem dX12_judge_24 : decode cX12_judge 24 = .ok (.iload_n 1, 1) := by decide +kernel
theorem dX12_judge_25 : decode cX12_judge 25 = .ok (.iaload, 1) := by decide +kernel
theorem dX12_judge_26 : decode cX12_judge 26 = .ok (.if_icmp .eq 5, 3) := by decide +kernel
theorem dX12_judge_29 : decode cX12_judge 29 = .ok (.iload_n 1, 1) := by decide +kernel
theorem dX12_judge_30 : decode cX12_judge 30 = .ok (.ireturn, 1) := by decide +kernel
theorem dX12_judge_31 : decode cX12_judge 31 = .ok (.iinc 1 1, 3) := by decide +kernel
theorem dX12_judge_34 : decode cX12_judge 34 = .ok (.goto (-32), 3) := by decide +kernel
theorem dX12_judge_37 : decode cX12_judge 37 = .ok (.iconst (-1), 1) := by decide +kernel
theorem dX12_judge_38 : decode cX12_judge 38 = .ok (.ireturn, 1) := by decide +kernel
theorem dX12_seed_0 : decode cX12_seed 0 = .ok (.iload_n 1, 1) := by decide +kernel
theorem dX12_seed_1 : decode cX12_seed 1 = .ok (.ifCond .ge 6, 3) := by decide +kernel
theorem dX12_seed_4 : decode cX12_seed 4 = .ok (.ldc 94, 2) := by decide +kernel
theorem dX12_seed_6 : decode cX12_seed 6 = .ok (.ireturn, 1) := by decide +kernel
theorem dX12_seed_7 : decode cX12_seed 7 = .ok (.aload_n 0, 1) := by decide +kernel
theorem dX12_seed_8 : decode cX12_seed 8 = .ok (.getfield 205, 3) := by decide +kernel
theorem dX12_seed_11 : decode cX12_seed 11 = .ok (.istore_n 2, 1) := by decide +kernel
theorem dX12_seed_12 : decode cX12_seed 12 = .ok (.aload_n 0, 1) := by decide +kernel
theorem dX12_seed_13 : decode cX12_seed 13 = .ok (.iload_n 1, 1) := by decide +kernel
theorem dX12_seed_14 : decode cX12_seed 14 = .ok (.putfield 205, 3) := by decide +kernel
theorem dX12_seed_17 : decode cX12_seed 17 = .ok (.iload_n 2, 1) := by decide +kernel
theorem dX12_seed_18 : decode cX12_seed 18 = .ok (.ireturn, 1) := by decide +kernel
set_option maxRecDepth 20000 in
theorem ggX12_keep_X12_in : GoodIn wsX12_keep wsX12_in := goodIn_r _ [10] (by decide +kernel) (by decide +kernel)
set_option maxRecDepth 20000 in
theorem gX12_keep_X12_in : GoodIn wsX12_keep (va_wsS RX12 82 yX12_in wsX12_in) := goodIn_app (goodIn_of _ (by decide +kernel)) ggX12_keep_X12_in
theorem dX12_keep_0 : decode cX12_keep 0 = .ok (.iload_n 1, 1) := by decide +kernel
theorem dX12_keep_1 : decode cX12_keep 1 = .ok (.i2l, 1) := by decide +kernel
theorem dX12_keep_2 : decode cX12_keep 2 = .ok (.lconst 0, 1) := by decide +kernel
theorem dX12_keep_3 : decode cX12_keep 3 = .ok (.lconst 1, 1) := by decide +kernel
theorem dX12_keep_4 : decode cX12_keep 4 = .ok (.invokestatic 82, 3) := by decide +kernel
theorem dX12_keep_7 : decode cX12_keep 7 = .ok (.ifCond .ne 6, 3) := by decide +kernel
theorem dX12_keep_10 : decode cX12_keep 10 = .ok (.ldc 165, 2) := by decide +kernel
theorem dX12_keep_12 : decode cX12_keep 12 = .ok (.ireturn, 1) := by decide +kernel
theorem dX12_keep_13 : decode cX12_keep 13 = .ok (.iconst 0, 1) := by decide +kernel
theorem dX12_keep_14 : decode cX12_keep 14 = .ok (.istore_n 2, 1) := by decide +kernel
theorem dX12_keep_15 : decode cX12_keep 15 = .ok (.iload_n 2, 1) := by decide +kernel
theorem dX12_keep_16 : decode cX12_keep 16 = .ok (.bipush 28, 2) := by decide +kernel
theorem dX12_keep_18 : decode cX12_keep 18 = .ok (.if_icmp .ge 26, 3) := by decide +kernel
theorem dX12_keep_21 : decode cX12_keep 21 = .ok (.aload_n 0, 1) := by decide +kernel
theorem dX12_keep_22 : decode cX12_keep 22 = .ok (.getfield 65, 3) := by decide +kernel
theorem dX12_keep_25 : decode cX12_keep 25 = .ok (.bipush 29, 2) := by decide +kernel
theorem dX12_keep_27 : decode cX12_keep 27 = .ok (.iload_n 1, 1) := by decide +kernel
theorem dX12_keep_28 : decode cX12_keep 28 = .ok (.imul, 1) := by decide +kernel
theorem dX12_keep_29 : decode cX12_keep 29 = .ok (.iload_n 2, 1) := by decide +kernel
theorem dX12_keep_30 : decode cX12_keep 30 = .ok (.iadd, 1) := by decide +kernel
theorem dX12_keep_31 : decode cX12_keep 31 = .ok (.aload_n 0, 1) := by decide +kernel
theorem dX12_keep_32 : decode cX12_keep 32 = .ok (.getfield 22, 3) := by decide +kernel
theorem dX12_keep_35 : decode cX12_keep 35 = .ok (.iload_n 2, 1) := by decide +kernel
theorem dX12_keep_36 : decode cX12_keep 36 = .ok (.iaload, 1) := by decide +kernel
theorem dX12_keep_37 : decode cX12_keep 37 = .ok (.iastore, 1) := by decide +kernel
theorem dX12_keep_38 : decode cX12_keep 38 = .ok (.iinc 2 1, 3) := by decide +kernel
theorem dX12_keep_41 : decode cX12_keep 41 = .ok (.goto (-26), 3) := by decide +kernel
theorem dX12_keep_44 : decode cX12_keep 44 = .ok (.aload_n 0, 1) := by decide +kernel
theorem dX12_keep_45 : decode cX12_keep 45 = .ok (.getfield 65, 3) := by decide +kernel
theorem dX12_keep_48 : decode cX12_keep 48 = .ok (.bipush 29, 2) := by decide +kernel
theorem dX12_keep_50 : decode cX12_keep 50 = .ok (.iload_n 1, 1) := by decide +kernel
theorem dX12_keep_51 : decode cX12_keep 51 = .ok (.imul, 1) := by decide +kernel
theorem dX12_keep_52 : decode cX12_keep 52 = .ok (.bipush 28, 2) := by decide +kernel
theorem dX12_keep_54 : decode cX12_keep 54 = .ok (.iadd, 1) := by decide +kernel
theorem dX12_keep_55 : decode cX12_keep 55 = .ok (.aload_n 0, 1) := by decide +kernel
theorem dX12_keep_56 : decode cX12_keep 56 = .ok (.getfield 205, 3) := by decide +kernel
theorem dX12_keep_59 : decode cX12_keep 59 = .ok (.iastore, 1) := by decide +kernel
theorem dX12_keep_60 : decode cX12_keep 60 = .ok (.aload_n 0, 1) := by decide +kernel
theorem dX12_keep_61 : decode cX12_keep 61 = .ok (.getfield 68, 3) := by decide +kernel
theorem dX12_keep_64 : decode cX12_keep 64 = .ok (.iload_n 1, 1) := by decide +kernel
theorem dX12_keep_65 : decode cX12_keep 65 = .ok (.iconst 1, 1) := by decide +kernel
theorem dX12_keep_66 : decode cX12_keep 66 = .ok (.bastore, 1) := by decide +kernel
theorem dX12_keep_67 : decode cX12_keep 67 = .ok (.aload_n 0, 1) := by decide +kernel
theorem dX12_keep_68 : decode cX12_keep 68 = .ok (.iconst 0, 1) := by decide +kernel
theorem dX12_keep_69 : decode cX12_keep 69 = .ok (.putfield 162, 3) := by decide +kernel
theorem dX12_keep_72 : decode cX12_keep 72 = .ok (.iconst 1, 1) := by decide +kernel
theorem dX12_keep_73 : decode cX12_keep 73 = .ok (.ireturn, 1) := by decide +kernel
set_option maxRecDepth 20000 in
theorem ggX12_goBack_X12_in : GoodIn wsX12_goBack wsX12_in := goodIn_r _ [11] (by decide +kernel) (by decide +kernel)
set_option maxRecDepth 20000 in
theorem gX12_goBack_X12_in : GoodIn wsX12_goBack (va_wsS RX12 82 yX12_in wsX12_in) := goodIn_app (goodIn_of _ (by decide +kernel)) ggX12_goBack_X12_in
theorem dX12_goBack_0 : decode cX12_goBack 0 = .ok (.iload_n 1, 1) := by decide +kernel
theorem dX12_goBack_1 : decode cX12_goBack 1 = .ok (.i2l, 1) := by decide +kernel
theorem dX12_goBack_2 : decode cX12_goBack 2 = .ok (.lconst 0, 1) := by decide +kernel
theorem dX12_goBack_3 : decode cX12_goBack 3 = .ok (.lconst 1, 1) := by decide +kernel
theorem dX12_goBack_4 : decode cX12_goBack 4 = .ok (.invokestatic 82, 3) := by decide +kernel
theorem dX12_goBack_7 : decode cX12_goBack 7 = .ok (.ifCond .ne 6, 3) := by decide +kernel
theorem dX12_goBack_10 : decode cX12_goBack 10 = .ok (.ldc 165, 2) := by decide +kernel
theorem dX12_goBack_12 : decode cX12_goBack 12 = .ok (.ireturn, 1) := by decide +kernel
theorem dX12_goBack_13 : decode cX12_goBack 13 = .ok (.aload_n 0, 1) := by decide +kernel
theorem dX12_goBack_14 : decode cX12_goBack 14 = .ok (.getfield 68, 3) := by decide +kernel
theorem dX12_goBack_17 : decode cX12_goBack 17 = .ok (.iload_n 1, 1) := by decide +kernel
theorem dX12_goBack_18 : decode cX12_goBack 18 = .ok (.baload, 1) := by decide +kernel
theorem dX12_goBack_19 : decode cX12_goBack 19 = .ok (.ifCond .ne 6, 3) := by decide +kernel
theorem dX12_goBack_22 : decode cX12_goBack 22 = .ok (.ldc 204, 2) := by decide +kernel
theorem dX12_goBack_24 : decode cX12_goBack 24 = .ok (.ireturn, 1) := by decide +kernel
theorem dX12_goBack_25 : decode cX12_goBack 25 = .ok (.iconst 0, 1) := by decide +kernel
theorem dX12_goBack_26 : decode cX12_goBack 26 = .ok (.istore_n 2, 1) := by decide +kernel
theorem dX12_goBack_27 : decode cX12_goBack 27 = .ok (.iload_n 2, 1) := by decide +kernel
theorem dX12_goBack_28 : decode cX12_goBack 28 = .ok (.bipush 28, 2) := by decide +kernel
theorem dX12_goBack_30 : decode cX12_goBack 30 = .ok (.if_icmp .ge 26, 3) := by decide +kernel
theorem dX12_goBack_33 : decode cX12_goBack 33 = .ok (.aload_n 0, 1) := by decide +kernel
theorem dX12_goBack_34 : decode cX12_goBack 34 = .ok (.getfield 22, 3) := by decide +kernel
theorem dX12_goBack_37 : decode cX12_goBack 37 = .ok (.iload_n 2, 1) := by decide +kernel
theorem dX12_goBack_38 : decode cX12_goBack 38 = .ok (.aload_n 0, 1) := by decide +kernel
theorem dX12_goBack_39 : decode cX12_goBack 39 = .ok (.getfield 65, 3) := by decide +kernel
theorem dX12_goBack_42 : decode cX12_goBack 42 = .ok (.bipush 29, 2) := by decide +kernel
theorem dX12_goBack_44 : decode cX12_goBack 44 = .ok (.iload_n 1, 1) := by decide +kernel
theorem dX12_goBack_45 : decode cX12_goBack 45 = .ok (.imul, 1) := by decide +kernel
theorem dX12_goBack_46 : decode cX12_goBack 46 = .ok (.iload_n 2, 1) := by decide +kernel
theorem dX12_goBack_47 : decode cX12_goBack 47 = .ok (.iadd, 1) := by decide +kernel
theorem dX12_goBack_48 : decode cX12_goBack 48 = .ok (.iaload, 1) := by decide +kernel
theorem dX12_goBack_49 : decode cX12_goBack 49 = .ok (.iastore, 1) := by decide +kernel
theorem dX12_goBack_50 : decode cX12_goBack 50 = .ok (.iinc 2 1, 3) := by decide +kernel
theorem dX12_goBack_53 : decode cX12_goBack 53 = .ok (.goto (-26), 3) := by decide +kernel
theorem dX12_goBack_56 : decode cX12_goBack 56 = .ok (.aload_n 0, 1) := by decide +kernel
theorem dX12_goBack_57 : decode cX12_goBack 57 = .ok (.aload_n 0, 1) := by decide +kernel
theorem dX12_goBack_58 : decode cX12_goBack 58 = .ok (.getfield 65, 3) := by decide +kernel
theorem dX12_goBack_61 : decode cX12_goBack 61 = .ok (.bipush 29, 2) := by decide +kernel
theorem dX12_goBack_63 : decode cX12_goBack 63 = .ok (.iload_n 1, 1) := by decide +kernel
theorem dX12_goBack_64 : decode cX12_goBack 64 = .ok (.imul, 1) := by decide +kernel
theorem dX12_goBack_65 : decode cX12_goBack 65 = .ok (.bipush 28, 2) := by decide +kernel
theorem dX12_goBack_67 : decode cX12_goBack 67 = .ok (.iadd, 1) := by decide +kernel
theorem dX12_goBack_68 : decode cX12_goBack 68 = .ok (.iaload, 1) := by decide +kernel
theorem dX12_goBack_69 : decode cX12_goBack 69 = .ok (.putfield 205, 3) := by decide +kernel
theorem dX12_goBack_72 : decode cX12_goBack 72 = .ok (.aload_n 0, 1) := by decide +kernel
theorem dX12_goBack_73 : decode cX12_goBack 73 = .ok (.iconst 0, 1) := by decide +kernel
theorem dX12_goBack_74 : decode cX12_goBack 74 = .ok (.putfield 162, 3) := by decide +kernel
theorem dX12_goBack_77 : decode cX12_goBack 77 = .ok (.iconst 1, 1) := by decide +kernel
theorem dX12_goBack_78 : decode cX12_goBack 78 = .ok (.ireturn, 1) := by decide +kernel
theorem dJ6_bitCount_0f7a4_0 : decode cJ6_bitCount_0f7a4 0 = .ok (.iload_n 0, 1) := by decide +kernel
theorem dJ6_bitCount_0f7a4_1 : decode cJ6_bitCount_0f7a4 1 = .ok (.iload_n 0, 1) := by decide +kernel
theorem dJ6_bitCount_0f7a4_2 : decode cJ6_bitCount_0f7a4 2 = .ok (.iconst 1, 1) := by decide +kernel
theorem dJ6_bitCount_0f7a4_3 : decode cJ6_bitCount_0f7a4 3 = .ok (.iushr, 1) := by decide +kernel
theorem dJ6_bitCount_0f7a4_4 : decode cJ6_bitCount_0f7a4 4 = .ok (.ldc_w 265, 3) := by decide +kernel
theorem dJ6_bitCount_0f7a4_7 : decode cJ6_bitCount_0f7a4 7 = .ok (.iand, 1) := by decide +kernel
theorem dJ6_bitCount_0f7a4_8 : decode cJ6_bitCount_0f7a4 8 = .ok (.isub, 1) := by decide +kernel
theorem dJ6_bitCount_0f7a4_9 : decode cJ6_bitCount_0f7a4 9 = .ok (.istore_n 0, 1) := by decide +kernel
theorem dJ6_bitCount_0f7a4_10 : decode cJ6_bitCount_0f7a4 10 = .ok (.iload_n 0, 1) := by decide +kernel
theorem dJ6_bitCount_0f7a4_11 : decode cJ6_bitCount_0f7a4 11 = .ok (.ldc_w 266, 3) := by decide +kernel
theorem dJ6_bitCount_0f7a4_14 : decode cJ6_bitCount_0f7a4 14 = .ok (.iand, 1) := by decide +kernel
theorem dJ6_bitCount_0f7a4_15 : decode cJ6_bitCount_0f7a4 15 = .ok (.iload_n 0, 1) := by decide +kernel
theorem dJ6_bitCount_0f7a4_16 : decode cJ6_bitCount_0f7a4 16 = .ok (.iconst 2, 1) := by decide +kernel
theorem dJ6_bitCount_0f7a4_17 : decode cJ6_bitCount_0f7a4 17 = .ok (.iushr, 1) := by decide +kernel
theorem dJ6_bitCount_0f7a4_18 : decode cJ6_bitCount_0f7a4 18 = .ok (.ldc_w 266, 3) := by decide +kernel
theorem dJ6_bitCount_0f7a4_21 : decode cJ6_bitCount_0f7a4 21 = .ok (.iand, 1) := by decide +kernel
theorem dJ6_bitCount_0f7a4_22 : decode cJ6_bitCount_0f7a4 22 = .ok (.iadd, 1) := by decide +kernel
theorem dJ6_bitCount_0f7a4_23 : decode cJ6_bitCount_0f7a4 23 = .ok (.istore_n 0, 1) := by decide +kernel
theorem dJ6_bitCount_0f7a4_24 : decode cJ6_bitCount_0f7a4 24 = .ok (.iload_n 0, 1) := by decide +kernel
theorem dJ6_bitCount_0f7a4_25 : decode cJ6_bitCount_0f7a4 25 = .ok (.iload_n 0, 1) := by decide +kernel
theorem dJ6_bitCount_0f7a4_26 : decode cJ6_bitCount_0f7a4 26 = .ok (.iconst 4, 1) := by decide +kernel
theorem dJ6_bitCount_0f7a4_27 : decode cJ6_bitCount_0f7a4 27 = .ok (.iushr, 1) := by decide +kernel
theorem dJ6_bitCount_0f7a4_28 : decode cJ6_bitCount_0f7a4 28 = .ok (.iadd, 1) := by decide +kernel
theorem dJ6_bitCount_0f7a4_29 : decode cJ6_bitCount_0f7a4 29 = .ok (.ldc_w 267, 3) := by decide +kernel
theorem dJ6_bitCount_0f7a4_32 : decode cJ6_bitCount_0f7a4 32 = .ok (.iand, 1) := by decide +kernel
theorem dJ6_bitCount_0f7a4_33 : decode cJ6_bitCount_0f7a4 33 = .ok (.istore_n 0, 1) := by decide +kernel
theorem dJ6_bitCount_0f7a4_34 : decode cJ6_bitCount_0f7a4 34 = .ok (.iload_n 0, 1) := by decide +kernel
theorem dJ6_bitCount_0f7a4_35 : decode cJ6_bitCount_0f7a4 35 = .ok (.iload_n 0, 1) := by decide +kernel
theorem dJ6_bitCount_0f7a4_36 : decode cJ6_bitCount_0f7a4 36 = .ok (.bipush 8, 2) := by decide +kernel
theorem dJ6_bitCount_0f7a4_38 : decode cJ6_bitCount_0f7a4 38 = .ok (.iushr, 1) := by decide +kernel
theorem dJ6_bitCount_0f7a4_39 : decode cJ6_bitCount_0f7a4 39 = .ok (.iadd, 1) := by decide +kernel
theorem dJ6_bitCount_0f7a4_40 : decode cJ6_bitCount_0f7a4 40 = .ok (.istore_n 0, 1) := by decide +kernel
theorem dJ6_bitCount_0f7a4_41 : decode cJ6_bitCount_0f7a4 41 = .ok (.iload_n 0, 1) := by decide +kernel
theorem dJ6_bitCount_0f7a4_42 : decode cJ6_bitCount_0f7a4 42 = .ok (.iload_n 0, 1) := by decide +kernel
theorem dJ6_bitCount_0f7a4_43 : decode cJ6_bitCount_0f7a4 43 = .ok (.bipush 16, 2) := by decide +kernel
theorem dJ6_bitCount_0f7a4_45 : decode cJ6_bitCount_0f7a4 45 = .ok (.iushr, 1) := by decide +kernel
theorem dJ6_bitCount_0f7a4_46 : decode cJ6_bitCount_0f7a4 46 = .ok (.iadd, 1) := by decide +kernel
theorem dJ6_bitCount_0f7a4_47 : decode cJ6_bitCount_0f7a4 47 = .ok (.istore_n 0, 1) := by decide +kernel
theorem dJ6_bitCount_0f7a4_48 : decode cJ6_bitCount_0f7a4 48 = .ok (.iload_n 0, 1) := by decide +kernel
theorem dJ6_bitCount_0f7a4_49 : decode cJ6_bitCount_0f7a4 49 = .ok (.bipush 63, 2) := by decide +kernel
theorem dJ6_bitCount_0f7a4_51 : decode cJ6_bitCount_0f7a4 51 = .ok (.iand, 1) := by decide +kernel
theorem dJ6_bitCount_0f7a4_52 : decode cJ6_bitCount_0f7a4 52 = .ok (.ireturn, 1) := by decide +kernel
theorem dJ9_max_7cf53_0 : decode cJ9_max_7cf53 0 = .ok (.iload_n 0, 1) := by decide +kernel
theorem dJ9_max_7cf53_1 : decode cJ9_max_7cf53 1 = .ok (.iload_n 1, 1) := by decide +kernel
theorem dJ9_max_7cf53_2 : decode cJ9_max_7cf53 2 = .ok (.if_icmp .lt 7, 3) := by decide +kernel
theorem dJ9_max_7cf53_5 : decode cJ9_max_7cf53 5 = .ok (.iload_n 0, 1) := by decide +kernel
theorem dJ9_max_7cf53_6 : decode cJ9_max_7cf53 6 = .ok (.goto 4, 3) := by decide +kernel
theorem dJ9_max_7cf53_9 : decode cJ9_max_7cf53 9 = .ok (.iload_n 1, 1) := by decide +kernel
theorem dJ9_max_7cf53_10 : decode cJ9_max_7cf53 10 = .ok (.ireturn, 1) := by decide +kernel
theorem dJ9_min_7cf53_0 : decode cJ9_min_7cf53 0 = .ok (.iload_n 0, 1) := by decide +kernel
theorem dJ9_min_7cf53_1 : decode cJ9_min_7cf53 1 = .ok (.iload_n 1, 1) := by decide +kernel
theorem dJ9_min_7cf53_2 : decode cJ9_min_7cf53 2 = .ok (.if_icmp .gt 7, 3) := by decide +kernel
theorem dJ9_min_7cf53_5 : decode cJ9_min_7cf53 5 = .ok (.iload_n 0, 1) := by decide +kernel
theorem dJ9_min_7cf53_6 : decode cJ9_min_7cf53 6 = .ok (.goto 4, 3) := by decide +kernel
theorem dJ9_min_7cf53_9 : decode cJ9_min_7cf53 9 = .ok (.iload_n 1, 1) := by decide +kernel
theorem dJ9_min_7cf53_10 : decode cJ9_min_7cf53 10 = .ok (.ireturn, 1) := by decide +kernel
end
