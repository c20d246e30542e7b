section
-- ===== PART A: goes FIRST, ahead of the names: the tables' words, and 'selects' of the private methods out of them =====
/-- a private method of a class that the tables say can be made, by its rows of tables_1 -/
def lw_okq (q : MethodName × Nat) : Prop := (q.1.cls ≠ "java/lang/invoke/MethodHandle" ∧ q.1.cls ≠ "java/lang/invoke/VarHandle") ∧ Cond.instantiable q.1.cls q.2 ∈ tables_1 ∧ Cond.privateMethod q.1 ∈ tables_1 ∧ Cond.instanceMethod q.1 ∈ tables_1
theorem lw_p0 : lw_okq (⟨"LineCalls", "isJumperOrNobody", "(I)Z"⟩, 8) := ⟨⟨by decide +kernel, by decide +kernel⟩, List.mem_of_getElem? (i := 15) (by decide +kernel), List.mem_of_getElem? (i := 198) (by decide +kernel), List.mem_of_getElem? (i := 199) (by decide +kernel)⟩
theorem lw_p1 : lw_okq (⟨"LineCalls", "isJumper", "(I)Z"⟩, 8) := ⟨⟨by decide +kernel, by decide +kernel⟩, List.mem_of_getElem? (i := 15) (by decide +kernel), List.mem_of_getElem? (i := 202) (by decide +kernel), List.mem_of_getElem? (i := 203) (by decide +kernel)⟩
theorem lw_p2 : lw_okq (⟨"LineCalls", "finding", "(I)I"⟩, 8) := ⟨⟨by decide +kernel, by decide +kernel⟩, List.mem_of_getElem? (i := 15) (by decide +kernel), List.mem_of_getElem? (i := 206) (by decide +kernel), List.mem_of_getElem? (i := 207) (by decide +kernel)⟩
theorem lw_p3 : lw_okq (⟨"LineCalls$Line", "contest", "(II)V"⟩, 17) := ⟨⟨by decide +kernel, by decide +kernel⟩, List.mem_of_getElem? (i := 23) (by decide +kernel), List.mem_of_getElem? (i := 327) (by decide +kernel), List.mem_of_getElem? (i := 328) (by decide +kernel)⟩
theorem lw_p4 : lw_okq (⟨"LineCalls$Line", "restAllBut", "(I)V"⟩, 17) := ⟨⟨by decide +kernel, by decide +kernel⟩, List.mem_of_getElem? (i := 23) (by decide +kernel), List.mem_of_getElem? (i := 343) (by decide +kernel), List.mem_of_getElem? (i := 344) (by decide +kernel)⟩
theorem lw_p5 : lw_okq (⟨"LineCalls$Line", "learn", "(I)V"⟩, 17) := ⟨⟨by decide +kernel, by decide +kernel⟩, List.mem_of_getElem? (i := 23) (by decide +kernel), List.mem_of_getElem? (i := 347) (by decide +kernel), List.mem_of_getElem? (i := 348) (by decide +kernel)⟩
theorem lw_p6 : lw_okq (⟨"LineCalls", "lackOf", "(I)I"⟩, 8) := ⟨⟨by decide +kernel, by decide +kernel⟩, List.mem_of_getElem? (i := 15) (by decide +kernel), List.mem_of_getElem? (i := 426) (by decide +kernel), List.mem_of_getElem? (i := 427) (by decide +kernel)⟩
theorem lw_p7 : lw_okq (⟨"LineCalls", "goesAsTold", "(LLineCalls$Sheet;)Z"⟩, 8) := ⟨⟨by decide +kernel, by decide +kernel⟩, List.mem_of_getElem? (i := 15) (by decide +kernel), List.mem_of_getElem? (i := 437) (by decide +kernel), List.mem_of_getElem? (i := 438) (by decide +kernel)⟩
theorem lw_p8 : lw_okq (⟨"LineCalls", "fitsSoTall", "(LLineCalls$Sheet;II)Z"⟩, 8) := ⟨⟨by decide +kernel, by decide +kernel⟩, List.mem_of_getElem? (i := 15) (by decide +kernel), List.mem_of_getElem? (i := 445) (by decide +kernel), List.mem_of_getElem? (i := 446) (by decide +kernel)⟩
theorem lw_p9 : lw_okq (⟨"LineCalls$Tape", "isLetter", "(I)Z"⟩, 6) := ⟨⟨by decide +kernel, by decide +kernel⟩, List.mem_of_getElem? (i := 108) (by decide +kernel), List.mem_of_getElem? (i := 505) (by decide +kernel), List.mem_of_getElem? (i := 506) (by decide +kernel)⟩
theorem lw_p10 : lw_okq (⟨"LineCalls$Tape", "takeWord", "()V"⟩, 6) := ⟨⟨by decide +kernel, by decide +kernel⟩, List.mem_of_getElem? (i := 108) (by decide +kernel), List.mem_of_getElem? (i := 509) (by decide +kernel), List.mem_of_getElem? (i := 510) (by decide +kernel)⟩
theorem lw_p11 : lw_okq (⟨"LineCalls$Tape", "isSpelled", "(Ljava/lang/String;)Z"⟩, 6) := ⟨⟨by decide +kernel, by decide +kernel⟩, List.mem_of_getElem? (i := 108) (by decide +kernel), List.mem_of_getElem? (i := 530) (by decide +kernel), List.mem_of_getElem? (i := 531) (by decide +kernel)⟩
theorem lw_p12 : lw_okq (⟨"LineCalls$Tape", "isDigit", "(I)Z"⟩, 6) := ⟨⟨by decide +kernel, by decide +kernel⟩, List.mem_of_getElem? (i := 108) (by decide +kernel), List.mem_of_getElem? (i := 582) (by decide +kernel), List.mem_of_getElem? (i := 583) (by decide +kernel)⟩
theorem lw_p13 : lw_okq (⟨"LineCalls$Tape", "takeNumber", "()V"⟩, 6) := ⟨⟨by decide +kernel, by decide +kernel⟩, List.mem_of_getElem? (i := 108) (by decide +kernel), List.mem_of_getElem? (i := 586) (by decide +kernel), List.mem_of_getElem? (i := 587) (by decide +kernel)⟩
theorem lw_p14 : lw_okq (⟨"LineCalls$TextReader", "readItem", "(LLineCalls$Line;)Z"⟩, 1) := ⟨⟨by decide +kernel, by decide +kernel⟩, List.mem_of_getElem? (i := 102) (by decide +kernel), List.mem_of_getElem? (i := 591) (by decide +kernel), List.mem_of_getElem? (i := 592) (by decide +kernel)⟩
theorem lw_p15 : lw_okq (⟨"LineCalls$TextReader", "readPair", "([III)Z"⟩, 1) := ⟨⟨by decide +kernel, by decide +kernel⟩, List.mem_of_getElem? (i := 102) (by decide +kernel), List.mem_of_getElem? (i := 596) (by decide +kernel), List.mem_of_getElem? (i := 597) (by decide +kernel)⟩
def lw_privs_1 : List (MethodName × Nat) := [(⟨"LineCalls", "isJumperOrNobody", "(I)Z"⟩, 8), (⟨"LineCalls", "isJumper", "(I)Z"⟩, 8), (⟨"LineCalls", "finding", "(I)I"⟩, 8), (⟨"LineCalls$Line", "contest", "(II)V"⟩, 17), (⟨"LineCalls$Line", "restAllBut", "(I)V"⟩, 17), (⟨"LineCalls$Line", "learn", "(I)V"⟩, 17), (⟨"LineCalls", "lackOf", "(I)I"⟩, 8), (⟨"LineCalls", "goesAsTold", "(LLineCalls$Sheet;)Z"⟩, 8), (⟨"LineCalls", "fitsSoTall", "(LLineCalls$Sheet;II)Z"⟩, 8), (⟨"LineCalls$Tape", "isLetter", "(I)Z"⟩, 6), (⟨"LineCalls$Tape", "takeWord", "()V"⟩, 6), (⟨"LineCalls$Tape", "isSpelled", "(Ljava/lang/String;)Z"⟩, 6), (⟨"LineCalls$Tape", "isDigit", "(I)Z"⟩, 6), (⟨"LineCalls$Tape", "takeNumber", "()V"⟩, 6), (⟨"LineCalls$TextReader", "readItem", "(LLineCalls$Line;)Z"⟩, 1), (⟨"LineCalls$TextReader", "readPair", "([III)Z"⟩, 1)]
theorem lw_r1 : ∀ q ∈ lw_privs_1, lw_okq q := List.forall_mem_cons.mpr ⟨lw_p0, List.forall_mem_cons.mpr ⟨lw_p1, List.forall_mem_cons.mpr ⟨lw_p2, List.forall_mem_cons.mpr ⟨lw_p3, List.forall_mem_cons.mpr ⟨lw_p4, List.forall_mem_cons.mpr ⟨lw_p5, List.forall_mem_cons.mpr ⟨lw_p6, List.forall_mem_cons.mpr ⟨lw_p7, List.forall_mem_cons.mpr ⟨lw_p8, List.forall_mem_cons.mpr ⟨lw_p9, List.forall_mem_cons.mpr ⟨lw_p10, List.forall_mem_cons.mpr ⟨lw_p11, List.forall_mem_cons.mpr ⟨lw_p12, List.forall_mem_cons.mpr ⟨lw_p13, List.forall_mem_cons.mpr ⟨lw_p14, List.forall_mem_cons.mpr ⟨lw_p15, fun _ h => absurd h List.not_mem_nil⟩⟩⟩⟩⟩⟩⟩⟩⟩⟩⟩⟩⟩⟩⟩⟩
theorem lw_p16 : lw_okq (⟨"LineCalls$TextReader", "readSetting", "(LLineCalls$Line;I)Z"⟩, 1) := ⟨⟨by decide +kernel, by decide +kernel⟩, List.mem_of_getElem? (i := 102) (by decide +kernel), List.mem_of_getElem? (i := 605) (by decide +kernel), List.mem_of_getElem? (i := 606) (by decide +kernel)⟩
theorem lw_p17 : lw_okq (⟨"LineCalls$TextReader", "readJumper", "(LLineCalls$Line;I)Z"⟩, 1) := ⟨⟨by decide +kernel, by decide +kernel⟩, List.mem_of_getElem? (i := 102) (by decide +kernel), List.mem_of_getElem? (i := 611) (by decide +kernel), List.mem_of_getElem? (i := 612) (by decide +kernel)⟩
theorem lw_p18 : lw_okq (⟨"LineCallsModel", "isJumper", "(I)Z"⟩, 25) := ⟨⟨by decide +kernel, by decide +kernel⟩, List.mem_of_getElem? (i := 691) (by decide +kernel), List.mem_of_getElem? (i := 792) (by decide +kernel), List.mem_of_getElem? (i := 793) (by decide +kernel)⟩
theorem lw_p19 : lw_okq (⟨"LineCallsModel", "stands", "(II)I"⟩, 25) := ⟨⟨by decide +kernel, by decide +kernel⟩, List.mem_of_getElem? (i := 691) (by decide +kernel), List.mem_of_getElem? (i := 796) (by decide +kernel), List.mem_of_getElem? (i := 797) (by decide +kernel)⟩
theorem lw_p20 : lw_okq (⟨"LineCallsModel", "placeOf", "(I)I"⟩, 25) := ⟨⟨by decide +kernel, by decide +kernel⟩, List.mem_of_getElem? (i := 691) (by decide +kernel), List.mem_of_getElem? (i := 800) (by decide +kernel), List.mem_of_getElem? (i := 801) (by decide +kernel)⟩
theorem lw_p21 : lw_okq (⟨"LineCallsModel", "finding", "(I)I"⟩, 25) := ⟨⟨by decide +kernel, by decide +kernel⟩, List.mem_of_getElem? (i := 691) (by decide +kernel), List.mem_of_getElem? (i := 805) (by decide +kernel), List.mem_of_getElem? (i := 806) (by decide +kernel)⟩
theorem lw_p22 : lw_okq (⟨"LineCallsModel", "force", "(I)I"⟩, 25) := ⟨⟨by decide +kernel, by decide +kernel⟩, List.mem_of_getElem? (i := 691) (by decide +kernel), List.mem_of_getElem? (i := 813) (by decide +kernel), List.mem_of_getElem? (i := 814) (by decide +kernel)⟩
theorem lw_p23 : lw_okq (⟨"LineCallsModel", "become", "(II)I"⟩, 25) := ⟨⟨by decide +kernel, by decide +kernel⟩, List.mem_of_getElem? (i := 691) (by decide +kernel), List.mem_of_getElem? (i := 821) (by decide +kernel), List.mem_of_getElem? (i := 822) (by decide +kernel)⟩
theorem lw_p24 : lw_okq (⟨"LineCallsModel", "comes", "(II)I"⟩, 25) := ⟨⟨by decide +kernel, by decide +kernel⟩, List.mem_of_getElem? (i := 691) (by decide +kernel), List.mem_of_getElem? (i := 858) (by decide +kernel), List.mem_of_getElem? (i := 859) (by decide +kernel)⟩
theorem lw_p25 : lw_okq (⟨"LineCallsModel", "jumperIs", "(II)I"⟩, 25) := ⟨⟨by decide +kernel, by decide +kernel⟩, List.mem_of_getElem? (i := 691) (by decide +kernel), List.mem_of_getElem? (i := 869) (by decide +kernel), List.mem_of_getElem? (i := 870) (by decide +kernel)⟩
theorem lw_p26 : lw_okq (⟨"LineCallsModel", "high", "(I)I"⟩, 25) := ⟨⟨by decide +kernel, by decide +kernel⟩, List.mem_of_getElem? (i := 691) (by decide +kernel), List.mem_of_getElem? (i := 873) (by decide +kernel), List.mem_of_getElem? (i := 874) (by decide +kernel)⟩
theorem lw_p27 : lw_okq (⟨"LineCallsModel", "tires", "(I)I"⟩, 25) := ⟨⟨by decide +kernel, by decide +kernel⟩, List.mem_of_getElem? (i := 691) (by decide +kernel), List.mem_of_getElem? (i := 878) (by decide +kernel), List.mem_of_getElem? (i := 879) (by decide +kernel)⟩
theorem lw_p28 : lw_okq (⟨"LineCallsModel", "gainsIn", "(II)I"⟩, 25) := ⟨⟨by decide +kernel, by decide +kernel⟩, List.mem_of_getElem? (i := 691) (by decide +kernel), List.mem_of_getElem? (i := 893) (by decide +kernel), List.mem_of_getElem? (i := 894) (by decide +kernel)⟩
theorem lw_p29 : lw_okq (⟨"LineCallsModel", "throwsGo", "(I)V"⟩, 25) := ⟨⟨by decide +kernel, by decide +kernel⟩, List.mem_of_getElem? (i := 691) (by decide +kernel), List.mem_of_getElem? (i := 903) (by decide +kernel), List.mem_of_getElem? (i := 904) (by decide +kernel)⟩
theorem lw_p30 : lw_okq (⟨"LineCallsModel", "oneThrow", "()V"⟩, 25) := ⟨⟨by decide +kernel, by decide +kernel⟩, List.mem_of_getElem? (i := 691) (by decide +kernel), List.mem_of_getElem? (i := 907) (by decide +kernel), List.mem_of_getElem? (i := 908) (by decide +kernel)⟩
theorem lw_p31 : lw_okq (⟨"LineCallsModel", "placeNext", "()I"⟩, 25) := ⟨⟨by decide +kernel, by decide +kernel⟩, List.mem_of_getElem? (i := 691) (by decide +kernel), List.mem_of_getElem? (i := 911) (by decide +kernel), List.mem_of_getElem? (i := 912) (by decide +kernel)⟩
def lw_privs_2 : List (MethodName × Nat) := [(⟨"LineCalls$TextReader", "readSetting", "(LLineCalls$Line;I)Z"⟩, 1), (⟨"LineCalls$TextReader", "readJumper", "(LLineCalls$Line;I)Z"⟩, 1), (⟨"LineCallsModel", "isJumper", "(I)Z"⟩, 25), (⟨"LineCallsModel", "stands", "(II)I"⟩, 25), (⟨"LineCallsModel", "placeOf", "(I)I"⟩, 25), (⟨"LineCallsModel", "finding", "(I)I"⟩, 25), (⟨"LineCallsModel", "force", "(I)I"⟩, 25), (⟨"LineCallsModel", "become", "(II)I"⟩, 25), (⟨"LineCallsModel", "comes", "(II)I"⟩, 25), (⟨"LineCallsModel", "jumperIs", "(II)I"⟩, 25), (⟨"LineCallsModel", "high", "(I)I"⟩, 25), (⟨"LineCallsModel", "tires", "(I)I"⟩, 25), (⟨"LineCallsModel", "gainsIn", "(II)I"⟩, 25), (⟨"LineCallsModel", "throwsGo", "(I)V"⟩, 25), (⟨"LineCallsModel", "oneThrow", "()V"⟩, 25), (⟨"LineCallsModel", "placeNext", "()I"⟩, 25)]
theorem lw_r2 : ∀ q ∈ lw_privs_2, lw_okq q := List.forall_mem_cons.mpr ⟨lw_p16, List.forall_mem_cons.mpr ⟨lw_p17, List.forall_mem_cons.mpr ⟨lw_p18, List.forall_mem_cons.mpr ⟨lw_p19, List.forall_mem_cons.mpr ⟨lw_p20, List.forall_mem_cons.mpr ⟨lw_p21, List.forall_mem_cons.mpr ⟨lw_p22, List.forall_mem_cons.mpr ⟨lw_p23, List.forall_mem_cons.mpr ⟨lw_p24, List.forall_mem_cons.mpr ⟨lw_p25, List.forall_mem_cons.mpr ⟨lw_p26, List.forall_mem_cons.mpr ⟨lw_p27, List.forall_mem_cons.mpr ⟨lw_p28, List.forall_mem_cons.mpr ⟨lw_p29, List.forall_mem_cons.mpr ⟨lw_p30, List.forall_mem_cons.mpr ⟨lw_p31, fun _ h => absurd h List.not_mem_nil⟩⟩⟩⟩⟩⟩⟩⟩⟩⟩⟩⟩⟩⟩⟩⟩
theorem lw_p32 : lw_okq (⟨"LineCallsModel", "thrownTo", "(II)V"⟩, 25) := ⟨⟨by decide +kernel, by decide +kernel⟩, List.mem_of_getElem? (i := 691) (by decide +kernel), List.mem_of_getElem? (i := 915) (by decide +kernel), List.mem_of_getElem? (i := 916) (by decide +kernel)⟩
theorem lw_p33 : lw_okq (⟨"LineCallsModel", "isWonIn", "(I)Z"⟩, 25) := ⟨⟨by decide +kernel, by decide +kernel⟩, List.mem_of_getElem? (i := 691) (by decide +kernel), List.mem_of_getElem? (i := 919) (by decide +kernel), List.mem_of_getElem? (i := 920) (by decide +kernel)⟩
theorem lw_p34 : lw_okq (⟨"LineCallsModel", "sumOf", "(I)I"⟩, 25) := ⟨⟨by decide +kernel, by decide +kernel⟩, List.mem_of_getElem? (i := 691) (by decide +kernel), List.mem_of_getElem? (i := 928) (by decide +kernel), List.mem_of_getElem? (i := 929) (by decide +kernel)⟩
theorem lw_p35 : lw_okq (⟨"LineCallsModel", "placesWon", "()I"⟩, 25) := ⟨⟨by decide +kernel, by decide +kernel⟩, List.mem_of_getElem? (i := 691) (by decide +kernel), List.mem_of_getElem? (i := 932) (by decide +kernel), List.mem_of_getElem? (i := 933) (by decide +kernel)⟩
theorem lw_p36 : lw_okq (⟨"LineCallsModel", "placesSaid", "(I)I"⟩, 25) := ⟨⟨by decide +kernel, by decide +kernel⟩, List.mem_of_getElem? (i := 691) (by decide +kernel), List.mem_of_getElem? (i := 936) (by decide +kernel), List.mem_of_getElem? (i := 937) (by decide +kernel)⟩
theorem lw_p37 : lw_okq (⟨"LineCallsModel", "putBack", "(I)I"⟩, 25) := ⟨⟨by decide +kernel, by decide +kernel⟩, List.mem_of_getElem? (i := 691) (by decide +kernel), List.mem_of_getElem? (i := 950) (by decide +kernel), List.mem_of_getElem? (i := 951) (by decide +kernel)⟩
theorem lw_p38 : lw_okq (⟨"LineCallsModel", "behind", "(II)I"⟩, 25) := ⟨⟨by decide +kernel, by decide +kernel⟩, List.mem_of_getElem? (i := 691) (by decide +kernel), List.mem_of_getElem? (i := 958) (by decide +kernel), List.mem_of_getElem? (i := 959) (by decide +kernel)⟩
theorem lw_p39 : lw_okq (⟨"LineCallsModel", "orNone", "(I)I"⟩, 25) := ⟨⟨by decide +kernel, by decide +kernel⟩, List.mem_of_getElem? (i := 691) (by decide +kernel), List.mem_of_getElem? (i := 966) (by decide +kernel), List.mem_of_getElem? (i := 967) (by decide +kernel)⟩
theorem lw_p40 : lw_okq (⟨"LineCallsModel", "bestFor", "(IIII)I"⟩, 25) := ⟨⟨by decide +kernel, by decide +kernel⟩, List.mem_of_getElem? (i := 691) (by decide +kernel), List.mem_of_getElem? (i := 982) (by decide +kernel), List.mem_of_getElem? (i := 983) (by decide +kernel)⟩
theorem lw_p41 : lw_okq (⟨"LineCallsModel", "metresStanding", "(III)I"⟩, 25) := ⟨⟨by decide +kernel, by decide +kernel⟩, List.mem_of_getElem? (i := 691) (by decide +kernel), List.mem_of_getElem? (i := 994) (by decide +kernel), List.mem_of_getElem? (i := 995) (by decide +kernel)⟩
theorem lw_p42 : lw_okq (⟨"LineCallsModel", "lacks", "(IZ)I"⟩, 25) := ⟨⟨by decide +kernel, by decide +kernel⟩, List.mem_of_getElem? (i := 691) (by decide +kernel), List.mem_of_getElem? (i := 1014) (by decide +kernel), List.mem_of_getElem? (i := 1015) (by decide +kernel)⟩
theorem lw_p43 : lw_okq (⟨"LineCallsModel", "areMetresSo", "(I)Z"⟩, 25) := ⟨⟨by decide +kernel, by decide +kernel⟩, List.mem_of_getElem? (i := 691) (by decide +kernel), List.mem_of_getElem? (i := 1022) (by decide +kernel), List.mem_of_getElem? (i := 1023) (by decide +kernel)⟩
theorem lw_p44 : lw_okq (⟨"LineCallsModel", "fitTall", "(II)V"⟩, 25) := ⟨⟨by decide +kernel, by decide +kernel⟩, List.mem_of_getElem? (i := 691) (by decide +kernel), List.mem_of_getElem? (i := 1030) (by decide +kernel), List.mem_of_getElem? (i := 1031) (by decide +kernel)⟩
theorem lw_p45 : lw_okq (⟨"LineCallsModel", "drawn", "()I"⟩, 25) := ⟨⟨by decide +kernel, by decide +kernel⟩, List.mem_of_getElem? (i := 691) (by decide +kernel), List.mem_of_getElem? (i := 1046) (by decide +kernel), List.mem_of_getElem? (i := 1047) (by decide +kernel)⟩
theorem lw_p46 : lw_okq (⟨"LineCallsModel", "token", "()V"⟩, 25) := ⟨⟨by decide +kernel, by decide +kernel⟩, List.mem_of_getElem? (i := 691) (by decide +kernel), List.mem_of_getElem? (i := 1071) (by decide +kernel), List.mem_of_getElem? (i := 1072) (by decide +kernel)⟩
theorem lw_p47 : lw_okq (⟨"LineCallsModel", "byteAt", "(I)I"⟩, 25) := ⟨⟨by decide +kernel, by decide +kernel⟩, List.mem_of_getElem? (i := 691) (by decide +kernel), List.mem_of_getElem? (i := 1075) (by decide +kernel), List.mem_of_getElem? (i := 1076) (by decide +kernel)⟩
def lw_privs_3 : List (MethodName × Nat) := [(⟨"LineCallsModel", "thrownTo", "(II)V"⟩, 25), (⟨"LineCallsModel", "isWonIn", "(I)Z"⟩, 25), (⟨"LineCallsModel", "sumOf", "(I)I"⟩, 25), (⟨"LineCallsModel", "placesWon", "()I"⟩, 25), (⟨"LineCallsModel", "placesSaid", "(I)I"⟩, 25), (⟨"LineCallsModel", "putBack", "(I)I"⟩, 25), (⟨"LineCallsModel", "behind", "(II)I"⟩, 25), (⟨"LineCallsModel", "orNone", "(I)I"⟩, 25), (⟨"LineCallsModel", "bestFor", "(IIII)I"⟩, 25), (⟨"LineCallsModel", "metresStanding", "(III)I"⟩, 25), (⟨"LineCallsModel", "lacks", "(IZ)I"⟩, 25), (⟨"LineCallsModel", "areMetresSo", "(I)Z"⟩, 25), (⟨"LineCallsModel", "fitTall", "(II)V"⟩, 25), (⟨"LineCallsModel", "drawn", "()I"⟩, 25), (⟨"LineCallsModel", "token", "()V"⟩, 25), (⟨"LineCallsModel", "byteAt", "(I)I"⟩, 25)]
theorem lw_r3 : ∀ q ∈ lw_privs_3, lw_okq q := List.forall_mem_cons.mpr ⟨lw_p32, List.forall_mem_cons.mpr ⟨lw_p33, List.forall_mem_cons.mpr ⟨lw_p34, List.forall_mem_cons.mpr ⟨lw_p35, List.forall_mem_cons.mpr ⟨lw_p36, List.forall_mem_cons.mpr ⟨lw_p37, List.forall_mem_cons.mpr ⟨lw_p38, List.forall_mem_cons.mpr ⟨lw_p39, List.forall_mem_cons.mpr ⟨lw_p40, List.forall_mem_cons.mpr ⟨lw_p41, List.forall_mem_cons.mpr ⟨lw_p42, List.forall_mem_cons.mpr ⟨lw_p43, List.forall_mem_cons.mpr ⟨lw_p44, List.forall_mem_cons.mpr ⟨lw_p45, List.forall_mem_cons.mpr ⟨lw_p46, List.forall_mem_cons.mpr ⟨lw_p47, fun _ h => absurd h List.not_mem_nil⟩⟩⟩⟩⟩⟩⟩⟩⟩⟩⟩⟩⟩⟩⟩⟩
theorem lw_p48 : lw_okq (⟨"LineCallsModel", "readItem", "()V"⟩, 25) := ⟨⟨by decide +kernel, by decide +kernel⟩, List.mem_of_getElem? (i := 691) (by decide +kernel), List.mem_of_getElem? (i := 1079) (by decide +kernel), List.mem_of_getElem? (i := 1080) (by decide +kernel)⟩
theorem lw_p49 : lw_okq (⟨"LineCallsModel", "isWord", "(Ljava/lang/String;)Z"⟩, 25) := ⟨⟨by decide +kernel, by decide +kernel⟩, List.mem_of_getElem? (i := 691) (by decide +kernel), List.mem_of_getElem? (i := 1083) (by decide +kernel), List.mem_of_getElem? (i := 1084) (by decide +kernel)⟩
theorem lw_p50 : lw_okq (⟨"LineCallsModel", "readJumper", "(I)V"⟩, 25) := ⟨⟨by decide +kernel, by decide +kernel⟩, List.mem_of_getElem? (i := 691) (by decide +kernel), List.mem_of_getElem? (i := 1089) (by decide +kernel), List.mem_of_getElem? (i := 1090) (by decide +kernel)⟩
theorem lw_p51 : lw_okq (⟨"LineCallsModel", "must", "(Z)V"⟩, 25) := ⟨⟨by decide +kernel, by decide +kernel⟩, List.mem_of_getElem? (i := 691) (by decide +kernel), List.mem_of_getElem? (i := 1093) (by decide +kernel), List.mem_of_getElem? (i := 1094) (by decide +kernel)⟩
theorem lw_p52 : lw_okq (⟨"LineCallsModel", "takesWord", "(Ljava/lang/String;)Z"⟩, 25) := ⟨⟨by decide +kernel, by decide +kernel⟩, List.mem_of_getElem? (i := 691) (by decide +kernel), List.mem_of_getElem? (i := 1098) (by decide +kernel), List.mem_of_getElem? (i := 1099) (by decide +kernel)⟩
theorem lw_p53 : lw_okq (⟨"LineCallsModel", "freePlace", "()I"⟩, 25) := ⟨⟨by decide +kernel, by decide +kernel⟩, List.mem_of_getElem? (i := 691) (by decide +kernel), List.mem_of_getElem? (i := 1102) (by decide +kernel), List.mem_of_getElem? (i := 1103) (by decide +kernel)⟩
theorem lw_p54 : lw_okq (⟨"LineCallsModel", "number", "(II)I"⟩, 25) := ⟨⟨by decide +kernel, by decide +kernel⟩, List.mem_of_getElem? (i := 691) (by decide +kernel), List.mem_of_getElem? (i := 1107) (by decide +kernel), List.mem_of_getElem? (i := 1108) (by decide +kernel)⟩
theorem lw_p55 : lw_okq (⟨"LineCallsModel", "addItem", "(III)V"⟩, 25) := ⟨⟨by decide +kernel, by decide +kernel⟩, List.mem_of_getElem? (i := 691) (by decide +kernel), List.mem_of_getElem? (i := 1111) (by decide +kernel), List.mem_of_getElem? (i := 1112) (by decide +kernel)⟩
theorem lw_p56 : lw_okq (⟨"LineCallsModel", "isToldSo", "(I)V"⟩, 25) := ⟨⟨by decide +kernel, by decide +kernel⟩, List.mem_of_getElem? (i := 691) (by decide +kernel), List.mem_of_getElem? (i := 1120) (by decide +kernel), List.mem_of_getElem? (i := 1121) (by decide +kernel)⟩
def lw_privs_4 : List (MethodName × Nat) := [(⟨"LineCallsModel", "readItem", "()V"⟩, 25), (⟨"LineCallsModel", "isWord", "(Ljava/lang/String;)Z"⟩, 25), (⟨"LineCallsModel", "readJumper", "(I)V"⟩, 25), (⟨"LineCallsModel", "must", "(Z)V"⟩, 25), (⟨"LineCallsModel", "takesWord", "(Ljava/lang/String;)Z"⟩, 25), (⟨"LineCallsModel", "freePlace", "()I"⟩, 25), (⟨"LineCallsModel", "number", "(II)I"⟩, 25), (⟨"LineCallsModel", "addItem", "(III)V"⟩, 25), (⟨"LineCallsModel", "isToldSo", "(I)V"⟩, 25)]
theorem lw_r4 : ∀ q ∈ lw_privs_4, lw_okq q := List.forall_mem_cons.mpr ⟨lw_p48, List.forall_mem_cons.mpr ⟨lw_p49, List.forall_mem_cons.mpr ⟨lw_p50, List.forall_mem_cons.mpr ⟨lw_p51, List.forall_mem_cons.mpr ⟨lw_p52, List.forall_mem_cons.mpr ⟨lw_p53, List.forall_mem_cons.mpr ⟨lw_p54, List.forall_mem_cons.mpr ⟨lw_p55, List.forall_mem_cons.mpr ⟨lw_p56, fun _ h => absurd h List.not_mem_nil⟩⟩⟩⟩⟩⟩⟩⟩⟩
def lw_privs : List (MethodName × Nat) := lw_privs_1 ++ (lw_privs_2 ++ (lw_privs_3 ++ (lw_privs_4)))
def lw_tbl : List Cond := k2_sels lw_privs ++ tables_1
theorem lw_privs_ok : ∀ q ∈ lw_privs, lw_okq q := by
  show ∀ q ∈ lw_privs_1 ++ (lw_privs_2 ++ (lw_privs_3 ++ (lw_privs_4))), lw_okq q
  exact List.forall_mem_append.mpr ⟨lw_r1, List.forall_mem_append.mpr ⟨lw_r2, List.forall_mem_append.mpr ⟨lw_r3, lw_r4⟩⟩⟩
end
section
theorem goodIn_r {big : List Cond} (ws : List Cond) (ps : List Nat) (hp : ws = ps.filterMap (fun i => big[i]?)) (h : ws.all goodWord = true) : GoodIn big ws := by
  intro w hw
  have h1 := List.all_eq_true.mp h w hw
  rw [hp] at hw
  obtain ⟨i, -, hi⟩ := List.mem_filterMap.mp hw
  have hm : w ∈ big := by first | exact List.mem_of_getElem? hi | exact List.getElem?_mem hi
  exact ⟨hm, good_of_word h1⟩
theorem goodIn_app {big a b : List Cond} (ha : GoodIn big a) (hb : GoodIn big b) : GoodIn big (a ++ b) := fun w h => (List.mem_append.mp h).elim (ha w) (hb w)
theorem goodIn_ca {big a b : List Cond} {c : Cond} (ha : GoodIn big (c :: a)) (hb : GoodIn big b) : GoodIn big (c :: (a ++ b)) := fun w h => (List.mem_cons.mp h).elim (fun e => ha w (List.mem_cons.mpr (Or.inl e))) (fun h => (List.mem_append.mp h).elim (fun h => ha w (List.mem_cons.mpr (Or.inr h))) (hb w))
theorem goodIn_sub {big ws : List Cond} (hm : ∀ w ∈ ws, w ∈ big) (h : ws.all goodWord = true) : GoodIn big ws := fun w hw => ⟨hm w hw, good_of_word (List.all_eq_true.mp h w hw)⟩
/-! ===== END ===== -/

/-! ===== BEGIN printed: names, fields, word lists, decode rows ===== -/
def RX0 : String := "LineCalls$Line"
def TX0 : u_T := fun k => match k with
  | 0 => ("LineCalls$Line", "standing", "[I", true)
  | 1 => ("LineCalls$Line", "theirHigh", "[I", true)
  | 2 => ("LineCalls$Line", "theirRead", "[I", true)
  | 3 => ("LineCalls$Line", "list", "[I", true)
  | 4 => ("LineCalls$Line", "kind", "[I", true)
  | 5 => ("LineCalls$Line", "tall", "[I", true)
  | 6 => ("LineCalls$Line", "tired", "[I", true)
  | 7 => ("LineCalls$Line", "won", "[I", true)
  | 8 => ("LineCalls$Line", "lost", "[I", true)
  | 9 => ("LineCalls$Line", "spots", "[I", true)
  | 10 => ("LineCalls$Line", "jumpers", "I", false)
  | 11 => ("LineCalls$Line", "wind", "I", false)
  | 12 => ("LineCalls$Line", "wet", "I", false)
  | 13 => ("LineCalls$Line", "code", "I", false)
  | 14 => ("LineCalls$Line", "thrown", "I", false)
  | 15 => ("LineCalls$Line", "metres", "I", false)
  | _ => ("LineCalls$Line", "z", "I", false)
def tyX0 : Nat → FieldType := fun k => match k with
  | 0 => .array .int
  | 1 => .array .int
  | 2 => .array .int
  | 3 => .array .int
  | 4 => .array .int
  | 5 => .array .int
  | 6 => .array .int
  | 7 => .array .int
  | 8 => .array .int
  | 9 => .array .int
  | 10 => .int
  | 11 => .int
  | 12 => .int
  | 13 => .int
  | 14 => .int
  | 15 => .int
  | _ => .int
abbrev wsX00 : List Cond := u_ws RX0 TX0 17
theorem nmX0 : ∀ a, a < 17 → ∀ b, b < 17 → a ≠ b → (TX0 a).2.1 ≠ (TX0 b).2.1 := by decide +kernel
theorem tyX0_ok : ∀ k, k < 17 → parseFieldDescriptor (TX0 k).2.2.1 = some (tyX0 k) := by decide +kernel
abbrev cX0_init : ByteArray := prog_2_method_1_code
def yX0_init : MethodName := ⟨RX0, "<init>", "()V"⟩
abbrev cX0_become : ByteArray := prog_2_method_2_code
def yX0_become : MethodName := ⟨RX0, "become", "(LLineCalls$Line;)V"⟩
abbrev cX0_join : ByteArray := prog_2_method_3_code
def yX0_join : MethodName := ⟨RX0, "join", "(II)I"⟩
abbrev cX0_putSetting : ByteArray := prog_2_method_4_code
def yX0_putSetting : MethodName := ⟨RX0, "putSetting", "(II)I"⟩
abbrev cX0_rowOf : ByteArray := prog_2_method_5_code
def yX0_rowOf : MethodName := ⟨RX0, "rowOf", "(I)[I"⟩
abbrev cX0_whereIs : ByteArray := prog_2_method_6_code
def yX0_whereIs : MethodName := ⟨RX0, "whereIs", "(I)I"⟩
abbrev cX0_leave : ByteArray := prog_2_method_7_code
def yX0_leave : MethodName := ⟨RX0, "leave", "(I)V"⟩
abbrev cX0_swapInto : ByteArray := prog_2_method_8_code
def yX0_swapInto : MethodName := ⟨RX0, "swapInto", "(II)V"⟩
abbrev cX0_highOf : ByteArray := prog_2_method_9_code
def yX0_highOf : MethodName := ⟨RX0, "highOf", "(I)I"⟩
abbrev cX0_gainOf : ByteArray := prog_2_method_10_code
def yX0_gainOf : MethodName := ⟨RX0, "gainOf", "(II)I"⟩
abbrev cX0_tiringOf : ByteArray := prog_2_method_11_code
def yX0_tiringOf : MethodName := ⟨RX0, "tiringOf", "(I)I"⟩
abbrev cX0_forceIn : ByteArray := prog_2_method_12_code
def yX0_forceIn : MethodName := ⟨RX0, "forceIn", "(I)I"⟩
abbrev cX0_wouldWin : ByteArray := prog_2_method_13_code
def yX0_wouldWin : MethodName := ⟨RX0, "wouldWin", "(I)Z"⟩
abbrev cX0_winnable : ByteArray := prog_2_method_14_code
def yX0_winnable : MethodName := ⟨RX0, "winnable", "()I"⟩
abbrev cX0_placesListed : ByteArray := prog_2_method_15_code
def yX0_placesListed : MethodName := ⟨RX0, "placesListed", "()I"⟩
abbrev cX0_nextIndex : ByteArray := prog_2_method_16_code
def yX0_nextIndex : MethodName := ⟨RX0, "nextIndex", "()I"⟩
abbrev cX0_nextPlace : ByteArray := prog_2_method_17_code
def yX0_nextPlace : MethodName := ⟨RX0, "nextPlace", "()I"⟩
abbrev cX0_sum : ByteArray := prog_2_method_18_code
def yX0_sum : MethodName := ⟨RX0, "sum", "([I)I"⟩
abbrev cX0_spotsHolding : ByteArray := prog_2_method_19_code
def yX0_spotsHolding : MethodName := ⟨RX0, "spotsHolding", "()I"⟩
abbrev cX0_draw : ByteArray := prog_2_method_20_code
def yX0_draw : MethodName := ⟨RX0, "draw", "()I"⟩
abbrev cX0_throwMany : ByteArray := prog_2_method_21_code
def yX0_throwMany : MethodName := ⟨RX0, "throwMany", "(I)I"⟩
abbrev cX0_throwIn : ByteArray := prog_2_method_22_code
def yX0_throwIn : MethodName := ⟨RX0, "throwIn", "()V"⟩
abbrev cX0_contest : ByteArray := prog_2_method_23_code
def yX0_contest : MethodName := ⟨RX0, "contest", "(II)V"⟩
abbrev cX0_restAllBut : ByteArray := prog_2_method_24_code
def yX0_restAllBut : MethodName := ⟨RX0, "restAllBut", "(I)V"⟩
abbrev cX0_learn : ByteArray := prog_2_method_25_code
def yX0_learn : MethodName := ⟨RX0, "learn", "(I)V"⟩
def RX1 : String := "LineCalls$Sheet"
def TX1 : u_T := fun k => match k with
  | 0 => ("LineCalls$Sheet", "numbers", "[I", true)
  | 1 => ("LineCalls$Sheet", "bits", "I", false)
  | _ => ("LineCalls$Sheet", "size", "I", false)
def tyX1 : Nat → FieldType := fun k => match k with
  | 0 => .array .int
  | 1 => .int
  | _ => .int
abbrev wsX10 : List Cond := u_ws RX1 TX1 3
theorem nmX1 : ∀ a, a < 3 → ∀ b, b < 3 → a ≠ b → (TX1 a).2.1 ≠ (TX1 b).2.1 := by decide +kernel
theorem tyX1_ok : ∀ k, k < 3 → parseFieldDescriptor (TX1 k).2.2.1 = some (tyX1 k) := by decide +kernel
abbrev cX1_init : ByteArray := prog_3_method_1_code
def yX1_init : MethodName := ⟨RX1, "<init>", "()V"⟩
abbrev cX1_isMissing : ByteArray := prog_3_method_2_code
def yX1_isMissing : MethodName := ⟨RX1, "isMissing", "()Z"⟩
abbrev cX1_begin : ByteArray := prog_3_method_3_code
def yX1_begin : MethodName := ⟨RX1, "begin", "(II)V"⟩
abbrev cX1_put : ByteArray := prog_3_method_4_code
def yX1_put : MethodName := ⟨RX1, "put", "(II)V"⟩
abbrev cX1_has : ByteArray := prog_3_method_5_code
def yX1_has : MethodName := ⟨RX1, "has", "(II)Z"⟩
def RX2 : String := "LineCalls$Tape"
def TX2 : u_T := fun k => match k with
  | 0 => ("LineCalls$Tape", "bytes", "[B", true)
  | 1 => ("LineCalls$Tape", "size", "I", false)
  | 2 => ("LineCalls$Tape", "token", "I", false)
  | 3 => ("LineCalls$Tape", "start", "I", false)
  | 4 => ("LineCalls$Tape", "end", "I", false)
  | _ => ("LineCalls$Tape", "value", "I", false)
def tyX2 : Nat → FieldType := fun k => match k with
  | 0 => .array .byte
  | 1 => .int
  | 2 => .int
  | 3 => .int
  | 4 => .int
  | _ => .int
abbrev wsX20 : List Cond := u_ws RX2 TX2 6
theorem nmX2 : ∀ a, a < 6 → ∀ b, b < 6 → a ≠ b → (TX2 a).2.1 ≠ (TX2 b).2.1 := by decide +kernel
theorem tyX2_ok : ∀ k, k < 6 → parseFieldDescriptor (TX2 k).2.2.1 = some (tyX2 k) := by decide +kernel
abbrev cX2_init : ByteArray := prog_4_method_1_code
def yX2_init : MethodName := ⟨RX2, "<init>", "()V"⟩
abbrev cX2_put : ByteArray := prog_4_method_2_code
def yX2_put : MethodName := ⟨RX2, "put", "(B)V"⟩
abbrev cX2_rewind : ByteArray := prog_4_method_3_code
def yX2_rewind : MethodName := ⟨RX2, "rewind", "()V"⟩
abbrev cX2_step : ByteArray := prog_4_method_4_code
def yX2_step : MethodName := ⟨RX2, "step", "()V"⟩
abbrev cX2_isWord : ByteArray := prog_4_method_5_code
def yX2_isWord : MethodName := ⟨RX2, "isWord", "(I)Z"⟩
abbrev cX2_isNumber : ByteArray := prog_4_method_6_code
def yX2_isNumber : MethodName := ⟨RX2, "isNumber", "(I)Z"⟩
abbrev cX2_isLetter : ByteArray := prog_4_method_7_code
def yX2_isLetter : MethodName := ⟨RX2, "isLetter", "(I)Z"⟩
abbrev cX2_isDigit : ByteArray := prog_4_method_8_code
def yX2_isDigit : MethodName := ⟨RX2, "isDigit", "(I)Z"⟩
abbrev cX2_takeNumber : ByteArray := prog_4_method_9_code
def yX2_takeNumber : MethodName := ⟨RX2, "takeNumber", "()V"⟩
abbrev cX2_takeWord : ByteArray := prog_4_method_10_code
def yX2_takeWord : MethodName := ⟨RX2, "takeWord", "()V"⟩
abbrev cX2_isSpelled : ByteArray := prog_4_method_11_code
def yX2_isSpelled : MethodName := ⟨RX2, "isSpelled", "(Ljava/lang/String;)Z"⟩
abbrev cX2_spelling : ByteArray := prog_4_method_12_code
def yX2_spelling : MethodName := ⟨RX2, "spelling", "(I)Ljava/lang/String;"⟩
def RX3 : String := "LineCalls$TextReader"
def TX3 : u_T := fun k => match k with
  | _ => ("LineCalls$TextReader", "tape", "LLineCalls$Tape;", true)
def tyX3 : Nat → FieldType := fun k => match k with
  | _ => .object "LineCalls$Tape"
abbrev wsX30 : List Cond := u_ws RX3 TX3 1
theorem nmX3 : ∀ a, a < 1 → ∀ b, b < 1 → a ≠ b → (TX3 a).2.1 ≠ (TX3 b).2.1 := by decide +kernel
theorem tyX3_ok : ∀ k, k < 1 → parseFieldDescriptor (TX3 k).2.2.1 = some (tyX3 k) := by decide +kernel
abbrev cX3_init : ByteArray := prog_5_method_1_code
def yX3_init : MethodName := ⟨RX3, "<init>", "()V"⟩
abbrev cX3_readInto : ByteArray := prog_5_method_2_code
def yX3_readInto : MethodName := ⟨RX3, "readInto", "(LLineCalls$Line;)I"⟩
abbrev cX3_readItem : ByteArray := prog_5_method_3_code
def yX3_readItem : MethodName := ⟨RX3, "readItem", "(LLineCalls$Line;)Z"⟩
abbrev cX3_readPair : ByteArray := prog_5_method_4_code
def yX3_readPair : MethodName := ⟨RX3, "readPair", "([III)Z"⟩
abbrev cX3_readSetting : ByteArray := prog_5_method_5_code
def yX3_readSetting : MethodName := ⟨RX3, "readSetting", "(LLineCalls$Line;I)Z"⟩
abbrev cX3_readJumper : ByteArray := prog_5_method_6_code
def yX3_readJumper : MethodName := ⟨RX3, "readJumper", "(LLineCalls$Line;I)Z"⟩
def RX4 : String := "LineCalls"
def TX4 : u_T := fun k => match k with
  | 0 => ("LineCalls", "line", "LLineCalls$Line;", true)
  | 1 => ("LineCalls", "trial", "LLineCalls$Line;", true)
  | 2 => ("LineCalls", "kept", "LLineCalls$Line;", true)
  | 3 => ("LineCalls", "hasImage", "Z", false)
  | 4 => ("LineCalls", "reader", "LLineCalls$TextReader;", true)
  | 5 => ("LineCalls", "tape", "LLineCalls$Tape;", true)
  | 6 => ("LineCalls", "sheets", "[LLineCalls$Sheet;", true)
  | _ => ("LineCalls", "found", "[I", true)
def tyX4 : Nat → FieldType := fun k => match k with
  | 0 => .object "LineCalls$Line"
  | 1 => .object "LineCalls$Line"
  | 2 => .object "LineCalls$Line"
  | 3 => .boolean
  | 4 => .object "LineCalls$TextReader"
  | 5 => .object "LineCalls$Tape"
  | 6 => .array (.object "LineCalls$Sheet")
  | _ => .array .int
abbrev wsX40 : List Cond := u_ws RX4 TX4 8
theorem nmX4 : ∀ a, a < 8 → ∀ b, b < 8 → a ≠ b → (TX4 a).2.1 ≠ (TX4 b).2.1 := by decide +kernel
theorem tyX4_ok : ∀ k, k < 8 → parseFieldDescriptor (TX4 k).2.2.1 = some (tyX4 k) := by decide +kernel
abbrev cX4_init : ByteArray := prog_1_method_1_code
def yX4_init : MethodName := ⟨RX4, "<init>", "()V"⟩
abbrev cX4_stand : ByteArray := prog_1_method_2_code
def yX4_stand : MethodName := ⟨RX4, "stand", "(II)I"⟩
abbrev cX4_place : ByteArray := prog_1_method_3_code
def yX4_place : MethodName := ⟨RX4, "place", "(II)I"⟩
abbrev cX4_theirs : ByteArray := prog_1_method_4_code
def yX4_theirs : MethodName := ⟨RX4, "theirs", "(III)I"⟩
abbrev cX4_set : ByteArray := prog_1_method_5_code
def yX4_set : MethodName := ⟨RX4, "set", "(II)I"⟩
abbrev cX4_call : ByteArray := prog_1_method_6_code
def yX4_call : MethodName := ⟨RX4, "call", "(II)I"⟩
abbrev cX4_listed : ByteArray := prog_1_method_7_code
def yX4_listed : MethodName := ⟨RX4, "listed", "(I)I"⟩
abbrev cX4_says : ByteArray := prog_1_method_8_code
def yX4_says : MethodName := ⟨RX4, "says", "(II)I"⟩
abbrev cX4_jumper : ByteArray := prog_1_method_9_code
def yX4_jumper : MethodName := ⟨RX4, "jumper", "(II)I"⟩
abbrev cX4_of : ByteArray := prog_1_method_10_code
def yX4_of : MethodName := ⟨RX4, "of", "(II)I"⟩
abbrev cX4_change : ByteArray := prog_1_method_11_code
def yX4_change : MethodName := ⟨RX4, "change", "(III)I"⟩
abbrev cX4_gains : ByteArray := prog_1_method_12_code
def yX4_gains : MethodName := ⟨RX4, "gains", "(II)I"⟩
abbrev cX4_go : ByteArray := prog_1_method_13_code
def yX4_go : MethodName := ⟨RX4, "go", "(I)I"⟩
abbrev cX4_now : ByteArray := prog_1_method_14_code
def yX4_now : MethodName := ⟨RX4, "now", "(I)I"⟩
abbrev cX4_ahead : ByteArray := prog_1_method_15_code
def yX4_ahead : MethodName := ⟨RX4, "ahead", "(III)I"⟩
abbrev cX4_metres : ByteArray := prog_1_method_16_code
def yX4_metres : MethodName := ⟨RX4, "metres", "(I)I"⟩
abbrev cX4_when : ByteArray := prog_1_method_17_code
def yX4_when : MethodName := ⟨RX4, "when", "(II)I"⟩
abbrev cX4_known : ByteArray := prog_1_method_18_code
def yX4_known : MethodName := ⟨RX4, "known", "()I"⟩
abbrev cX4_codeFor : ByteArray := prog_1_method_19_code
def yX4_codeFor : MethodName := ⟨RX4, "codeFor", "(I)I"⟩
abbrev cX4_callFor : ByteArray := prog_1_method_20_code
def yX4_callFor : MethodName := ⟨RX4, "callFor", "(I)I"⟩
abbrev cX4_standFor : ByteArray := prog_1_method_21_code
def yX4_standFor : MethodName := ⟨RX4, "standFor", "(II)I"⟩
abbrev cX4_kindFor : ByteArray := prog_1_method_22_code
def yX4_kindFor : MethodName := ⟨RX4, "kindFor", "(II)I"⟩
abbrev cX4_tallFor : ByteArray := prog_1_method_23_code
def yX4_tallFor : MethodName := ⟨RX4, "tallFor", "(III)I"⟩
abbrev cX4_cover : ByteArray := prog_1_method_24_code
def yX4_cover : MethodName := ⟨RX4, "cover", "()I"⟩
abbrev cX4_codes : ByteArray := prog_1_method_25_code
def yX4_codes : MethodName := ⟨RX4, "codes", "(I)I"⟩
abbrev cX4_fits : ByteArray := prog_1_method_26_code
def yX4_fits : MethodName := ⟨RX4, "fits", "(II)I"⟩
abbrev cX4_tall : ByteArray := prog_1_method_27_code
def yX4_tall : MethodName := ⟨RX4, "tall", "(II)I"⟩
abbrev cX4_kinds : ByteArray := prog_1_method_28_code
def yX4_kinds : MethodName := ⟨RX4, "kinds", "(II)I"⟩
abbrev cX4_mix : ByteArray := prog_1_method_29_code
def yX4_mix : MethodName := ⟨RX4, "mix", "(I)I"⟩
abbrev cX4_odds : ByteArray := prog_1_method_30_code
def yX4_odds : MethodName := ⟨RX4, "odds", "(III)J"⟩
abbrev cX4_seed : ByteArray := prog_1_method_31_code
def yX4_seed : MethodName := ⟨RX4, "seed", "(I)I"⟩
abbrev cX4_feed : ByteArray := prog_1_method_32_code
def yX4_feed : MethodName := ⟨RX4, "feed", "(II)I"⟩
abbrev cX4_wipe : ByteArray := prog_1_method_33_code
def yX4_wipe : MethodName := ⟨RX4, "wipe", "()I"⟩
abbrev cX4_text : ByteArray := prog_1_method_34_code
def yX4_text : MethodName := ⟨RX4, "text", "()I"⟩
abbrev cX4_hold : ByteArray := prog_1_method_35_code
def yX4_hold : MethodName := ⟨RX4, "hold", "(II)I"⟩
abbrev cX4_as : ByteArray := prog_1_method_36_code
def yX4_as : MethodName := ⟨RX4, "as", "(II)I"⟩
abbrev cX4_sheet : ByteArray := prog_1_method_37_code
def yX4_sheet : MethodName := ⟨RX4, "sheet", "(III)I"⟩
abbrev cX4_write : ByteArray := prog_1_method_38_code
def yX4_write : MethodName := ⟨RX4, "write", "(III)I"⟩
abbrev cX4_copy : ByteArray := prog_1_method_39_code
def yX4_copy : MethodName := ⟨RX4, "copy", "(IIIII)I"⟩
abbrev cX4_load : ByteArray := prog_1_method_40_code
def yX4_load : MethodName := ⟨RX4, "load", "(I)I"⟩
abbrev cX4_judge : ByteArray := prog_1_method_41_code
def yX4_judge : MethodName := ⟨RX4, "judge", "(I)I"⟩
abbrev cX4_image : ByteArray := prog_1_method_42_code
def yX4_image : MethodName := ⟨RX4, "image", "()I"⟩
abbrev cX4_undo : ByteArray := prog_1_method_43_code
def yX4_undo : MethodName := ⟨RX4, "undo", "()I"⟩
abbrev cX4_tear : ByteArray := prog_1_method_44_code
def yX4_tear : MethodName := ⟨RX4, "tear", "()I"⟩
abbrev cX4_count : ByteArray := prog_1_method_45_code
def yX4_count : MethodName := ⟨RX4, "count", "(I)I"⟩
abbrev cX4_status : ByteArray := prog_1_method_46_code
def yX4_status : MethodName := ⟨RX4, "status", "(I)I"⟩
abbrev cX4_finding : ByteArray := prog_1_method_47_code
def yX4_finding : MethodName := ⟨RX4, "finding", "(I)I"⟩
abbrev cX4_within : ByteArray := prog_1_method_48_code
def yX4_within : MethodName := ⟨RX4, "within", "(III)Z"⟩
abbrev cX4_isPlace : ByteArray := prog_1_method_49_code
def yX4_isPlace : MethodName := ⟨RX4, "isPlace", "(I)Z"⟩
abbrev cX4_isJumper : ByteArray := prog_1_method_50_code
def yX4_isJumper : MethodName := ⟨RX4, "isJumper", "(I)Z"⟩
abbrev cX4_isJumperOrNobody : ByteArray := prog_1_method_51_code
def yX4_isJumperOrNobody : MethodName := ⟨RX4, "isJumperOrNobody", "(I)Z"⟩
abbrev cX4_isSheet : ByteArray := prog_1_method_52_code
def yX4_isSheet : MethodName := ⟨RX4, "isSheet", "(I)Z"⟩
abbrev cX4_lackOf : ByteArray := prog_1_method_53_code
def yX4_lackOf : MethodName := ⟨RX4, "lackOf", "(I)I"⟩
abbrev cX4_isKindOf : ByteArray := prog_1_method_54_code
def yX4_isKindOf : MethodName := ⟨RX4, "isKindOf", "(II)Z"⟩
abbrev cX4_mostOf : ByteArray := prog_1_method_55_code
def yX4_mostOf : MethodName := ⟨RX4, "mostOf", "(I)I"⟩
abbrev cX4_mostOfSetting : ByteArray := prog_1_method_56_code
def yX4_mostOfSetting : MethodName := ⟨RX4, "mostOfSetting", "(I)I"⟩
abbrev cX4_placeSaid : ByteArray := prog_1_method_57_code
def yX4_placeSaid : MethodName := ⟨RX4, "placeSaid", "(II)I"⟩
abbrev cX4_commonDivisor : ByteArray := prog_1_method_58_code
def yX4_commonDivisor : MethodName := ⟨RX4, "commonDivisor", "(II)I"⟩
abbrev cX4_fitsSoTall : ByteArray := prog_1_method_59_code
def yX4_fitsSoTall : MethodName := ⟨RX4, "fitsSoTall", "(LLineCalls$Sheet;II)Z"⟩
abbrev cX4_goesAsTold : ByteArray := prog_1_method_60_code
def yX4_goesAsTold : MethodName := ⟨RX4, "goesAsTold", "(LLineCalls$Sheet;)Z"⟩
def RX5 : String := "LineCallsModel"
def TX5 : u_T := fun k => match k with
  | 0 => ("LineCallsModel", "now", "[I", true)
  | 1 => ("LineCallsModel", "kept", "[I", true)
  | 2 => ("LineCallsModel", "aside", "[I", true)
  | 3 => ("LineCallsModel", "isKept", "Z", false)
  | 4 => ("LineCallsModel", "found", "[I", true)
  | 5 => ("LineCallsModel", "tallMany", "I", false)
  | 6 => ("LineCallsModel", "tallLeast", "I", false)
  | 7 => ("LineCallsModel", "tape", "[I", true)
  | 8 => ("LineCallsModel", "taped", "I", false)
  | 9 => ("LineCallsModel", "begins", "I", false)
  | 10 => ("LineCallsModel", "ends", "I", false)
  | 11 => ("LineCallsModel", "sort", "I", false)
  | 12 => ("LineCallsModel", "value", "I", false)
  | 13 => ("LineCallsModel", "isWrong", "Z", false)
  | 14 => ("LineCallsModel", "kindNames", "[Ljava/lang/String;", true)
  | 15 => ("LineCallsModel", "itemWhat", "[I", true)
  | 16 => ("LineCallsModel", "itemA", "[I", true)
  | 17 => ("LineCallsModel", "itemB", "[I", true)
  | 18 => ("LineCallsModel", "itemMany", "I", false)
  | 19 => ("LineCallsModel", "jumpersThen", "I", false)
  | 20 => ("LineCallsModel", "takenThen", "I", false)
  | 21 => ("LineCallsModel", "widths", "[I", true)
  | 22 => ("LineCallsModel", "sizes", "[I", true)
  | 23 => ("LineCallsModel", "numbers", "[I", true)
  | _ => ("LineCallsModel", "moved", "[I", true)
def tyX5 : Nat → FieldType := fun k => match k with
  | 0 => .array .int
  | 1 => .array .int
  | 2 => .array .int
  | 3 => .boolean
  | 4 => .array .int
  | 5 => .int
  | 6 => .int
  | 7 => .array .int
  | 8 => .int
  | 9 => .int
  | 10 => .int
  | 11 => .int
  | 12 => .int
  | 13 => .boolean
  | 14 => .array (.object "java/lang/String")
  | 15 => .array .int
  | 16 => .array .int
  | 17 => .array .int
  | 18 => .int
  | 19 => .int
  | 20 => .int
  | 21 => .array .int
  | 22 => .array .int
  | 23 => .array .int
  | _ => .array .int
abbrev wsX50 : List Cond := u_ws RX5 TX5 25
theorem nmX5 : ∀ a, a < 25 → ∀ b, b < 25 → a ≠ b → (TX5 a).2.1 ≠ (TX5 b).2.1 := by decide +kernel
theorem tyX5_ok : ∀ k, k < 25 → parseFieldDescriptor (TX5 k).2.2.1 = some (tyX5 k) := by decide +kernel
abbrev cX5_init : ByteArray := prog_7_method_1_code
def yX5_init : MethodName := ⟨RX5, "<init>", "()V"⟩
abbrev cX5_finding : ByteArray := prog_7_method_2_code
def yX5_finding : MethodName := ⟨RX5, "finding", "(I)I"⟩
abbrev cX5_within : ByteArray := prog_7_method_3_code
def yX5_within : MethodName := ⟨RX5, "within", "(III)Z"⟩
abbrev cX5_become : ByteArray := prog_7_method_4_code
def yX5_become : MethodName := ⟨RX5, "become", "(II)I"⟩
abbrev cX5_copyRow : ByteArray := prog_7_method_5_code
def yX5_copyRow : MethodName := ⟨RX5, "copyRow", "([I[I)V"⟩
abbrev cX5_putBack : ByteArray := prog_7_method_6_code
def yX5_putBack : MethodName := ⟨RX5, "putBack", "(I)I"⟩
abbrev cX5_orNone : ByteArray := prog_7_method_7_code
def yX5_orNone : MethodName := ⟨RX5, "orNone", "(I)I"⟩
abbrev cX5_bits : ByteArray := prog_7_method_8_code
def yX5_bits : MethodName := ⟨RX5, "bits", "(I)I"⟩
abbrev cX5_hasBit : ByteArray := prog_7_method_9_code
def yX5_hasBit : MethodName := ⟨RX5, "hasBit", "(II)Z"⟩
abbrev cX5_isPlace : ByteArray := prog_7_method_10_code
def yX5_isPlace : MethodName := ⟨RX5, "isPlace", "(I)Z"⟩
abbrev cX5_isJumper : ByteArray := prog_7_method_11_code
def yX5_isJumper : MethodName := ⟨RX5, "isJumper", "(I)Z"⟩
abbrev cX5_placeOf : ByteArray := prog_7_method_12_code
def yX5_placeOf : MethodName := ⟨RX5, "placeOf", "(I)I"⟩
abbrev cX5_stands : ByteArray := prog_7_method_13_code
def yX5_stands : MethodName := ⟨RX5, "stands", "(II)I"⟩
abbrev cX5_stand : ByteArray := prog_7_method_14_code
def yX5_stand : MethodName := ⟨RX5, "stand", "(II)I"⟩
abbrev cX5_force : ByteArray := prog_7_method_15_code
def yX5_force : MethodName := ⟨RX5, "force", "(I)I"⟩
abbrev cX5_place : ByteArray := prog_7_method_16_code
def yX5_place : MethodName := ⟨RX5, "place", "(II)I"⟩
abbrev cX5_theirs : ByteArray := prog_7_method_17_code
def yX5_theirs : MethodName := ⟨RX5, "theirs", "(III)I"⟩
abbrev cX5_set : ByteArray := prog_7_method_18_code
def yX5_set : MethodName := ⟨RX5, "set", "(II)I"⟩
abbrev cX5_isCall : ByteArray := prog_7_method_19_code
def yX5_isCall : MethodName := ⟨RX5, "isCall", "(I)Z"⟩
abbrev cX5_call : ByteArray := prog_7_method_20_code
def yX5_call : MethodName := ⟨RX5, "call", "(II)I"⟩
abbrev cX5_listed : ByteArray := prog_7_method_21_code
def yX5_listed : MethodName := ⟨RX5, "listed", "(I)I"⟩
abbrev cX5_saysBy : ByteArray := prog_7_method_22_code
def yX5_saysBy : MethodName := ⟨RX5, "saysBy", "(II)I"⟩
abbrev cX5_says : ByteArray := prog_7_method_23_code
def yX5_says : MethodName := ⟨RX5, "says", "(II)I"⟩
abbrev cX5_isKind : ByteArray := prog_7_method_24_code
def yX5_isKind : MethodName := ⟨RX5, "isKind", "(I)Z"⟩
abbrev cX5_jumperAt : ByteArray := prog_7_method_25_code
def yX5_jumperAt : MethodName := ⟨RX5, "jumperAt", "(II)I"⟩
abbrev cX5_jumperIs : ByteArray := prog_7_method_26_code
def yX5_jumperIs : MethodName := ⟨RX5, "jumperIs", "(II)I"⟩
abbrev cX5_comes : ByteArray := prog_7_method_27_code
def yX5_comes : MethodName := ⟨RX5, "comes", "(II)I"⟩
abbrev cX5_jumper : ByteArray := prog_7_method_28_code
def yX5_jumper : MethodName := ⟨RX5, "jumper", "(II)I"⟩
abbrev cX5_high : ByteArray := prog_7_method_29_code
def yX5_high : MethodName := ⟨RX5, "high", "(I)I"⟩
abbrev cX5_gainsIn : ByteArray := prog_7_method_30_code
def yX5_gainsIn : MethodName := ⟨RX5, "gainsIn", "(II)I"⟩
abbrev cX5_tires : ByteArray := prog_7_method_31_code
def yX5_tires : MethodName := ⟨RX5, "tires", "(I)I"⟩
abbrev cX5_of : ByteArray := prog_7_method_32_code
def yX5_of : MethodName := ⟨RX5, "of", "(II)I"⟩
abbrev cX5_isField : ByteArray := prog_7_method_33_code
def yX5_isField : MethodName := ⟨RX5, "isField", "(II)Z"⟩
abbrev cX5_change : ByteArray := prog_7_method_34_code
def yX5_change : MethodName := ⟨RX5, "change", "(III)I"⟩
abbrev cX5_gains : ByteArray := prog_7_method_35_code
def yX5_gains : MethodName := ⟨RX5, "gains", "(II)I"⟩
abbrev cX5_placeNext : ByteArray := prog_7_method_36_code
def yX5_placeNext : MethodName := ⟨RX5, "placeNext", "()I"⟩
abbrev cX5_isWonIn : ByteArray := prog_7_method_37_code
def yX5_isWonIn : MethodName := ⟨RX5, "isWonIn", "(I)Z"⟩
abbrev cX5_thrownTo : ByteArray := prog_7_method_38_code
def yX5_thrownTo : MethodName := ⟨RX5, "thrownTo", "(II)V"⟩
abbrev cX5_oneThrow : ByteArray := prog_7_method_39_code
def yX5_oneThrow : MethodName := ⟨RX5, "oneThrow", "()V"⟩
abbrev cX5_throwsGo : ByteArray := prog_7_method_40_code
def yX5_throwsGo : MethodName := ⟨RX5, "throwsGo", "(I)V"⟩
abbrev cX5_go : ByteArray := prog_7_method_41_code
def yX5_go : MethodName := ⟨RX5, "go", "(I)I"⟩
abbrev cX5_sumOf : ByteArray := prog_7_method_42_code
def yX5_sumOf : MethodName := ⟨RX5, "sumOf", "(I)I"⟩
abbrev cX5_placesWon : ByteArray := prog_7_method_43_code
def yX5_placesWon : MethodName := ⟨RX5, "placesWon", "()I"⟩
abbrev cX5_placesSaid : ByteArray := prog_7_method_44_code
def yX5_placesSaid : MethodName := ⟨RX5, "placesSaid", "(I)I"⟩
abbrev cX5_now : ByteArray := prog_7_method_45_code
def yX5_now : MethodName := ⟨RX5, "now", "(I)I"⟩
abbrev cX5_behind : ByteArray := prog_7_method_46_code
def yX5_behind : MethodName := ⟨RX5, "behind", "(II)I"⟩
abbrev cX5_ahead : ByteArray := prog_7_method_47_code
def yX5_ahead : MethodName := ⟨RX5, "ahead", "(III)I"⟩
abbrev cX5_metres : ByteArray := prog_7_method_48_code
def yX5_metres : MethodName := ⟨RX5, "metres", "(I)I"⟩
abbrev cX5_when : ByteArray := prog_7_method_49_code
def yX5_when : MethodName := ⟨RX5, "when", "(II)I"⟩
abbrev cX5_known : ByteArray := prog_7_method_50_code
def yX5_known : MethodName := ⟨RX5, "known", "()I"⟩
abbrev cX5_isThought : ByteArray := prog_7_method_51_code
def yX5_isThought : MethodName := ⟨RX5, "isThought", "(I)Z"⟩
abbrev cX5_bestFor : ByteArray := prog_7_method_52_code
def yX5_bestFor : MethodName := ⟨RX5, "bestFor", "(IIII)I"⟩
abbrev cX5_codeFor : ByteArray := prog_7_method_53_code
def yX5_codeFor : MethodName := ⟨RX5, "codeFor", "(I)I"⟩
abbrev cX5_callFor : ByteArray := prog_7_method_54_code
def yX5_callFor : MethodName := ⟨RX5, "callFor", "(I)I"⟩
abbrev cX5_metresStanding : ByteArray := prog_7_method_55_code
def yX5_metresStanding : MethodName := ⟨RX5, "metresStanding", "(III)I"⟩
abbrev cX5_standFor : ByteArray := prog_7_method_56_code
def yX5_standFor : MethodName := ⟨RX5, "standFor", "(II)I"⟩
abbrev cX5_kindFor : ByteArray := prog_7_method_57_code
def yX5_kindFor : MethodName := ⟨RX5, "kindFor", "(II)I"⟩
abbrev cX5_tallFor : ByteArray := prog_7_method_58_code
def yX5_tallFor : MethodName := ⟨RX5, "tallFor", "(III)I"⟩
abbrev cX5_cover : ByteArray := prog_7_method_59_code
def yX5_cover : MethodName := ⟨RX5, "cover", "()I"⟩
abbrev cX5_lacks : ByteArray := prog_7_method_60_code
def yX5_lacks : MethodName := ⟨RX5, "lacks", "(IZ)I"⟩
abbrev cX5_areMetresSo : ByteArray := prog_7_method_61_code
def yX5_areMetresSo : MethodName := ⟨RX5, "areMetresSo", "(I)Z"⟩
abbrev cX5_codes : ByteArray := prog_7_method_62_code
def yX5_codes : MethodName := ⟨RX5, "codes", "(I)I"⟩
abbrev cX5_fitTall : ByteArray := prog_7_method_63_code
def yX5_fitTall : MethodName := ⟨RX5, "fitTall", "(II)V"⟩
abbrev cX5_fits : ByteArray := prog_7_method_64_code
def yX5_fits : MethodName := ⟨RX5, "fits", "(II)I"⟩
abbrev cX5_tall : ByteArray := prog_7_method_65_code
def yX5_tall : MethodName := ⟨RX5, "tall", "(II)I"⟩
abbrev cX5_kinds : ByteArray := prog_7_method_66_code
def yX5_kinds : MethodName := ⟨RX5, "kinds", "(II)I"⟩
abbrev cX5_drawn : ByteArray := prog_7_method_67_code
def yX5_drawn : MethodName := ⟨RX5, "drawn", "()I"⟩
abbrev cX5_mix : ByteArray := prog_7_method_68_code
def yX5_mix : MethodName := ⟨RX5, "mix", "(I)I"⟩
abbrev cX5_odds : ByteArray := prog_7_method_69_code
def yX5_odds : MethodName := ⟨RX5, "odds", "(III)J"⟩
abbrev cX5_seed : ByteArray := prog_7_method_70_code
def yX5_seed : MethodName := ⟨RX5, "seed", "(I)I"⟩
abbrev cX5_feed : ByteArray := prog_7_method_71_code
def yX5_feed : MethodName := ⟨RX5, "feed", "(II)I"⟩
abbrev cX5_wipe : ByteArray := prog_7_method_72_code
def yX5_wipe : MethodName := ⟨RX5, "wipe", "()I"⟩
abbrev cX5_byteAt : ByteArray := prog_7_method_73_code
def yX5_byteAt : MethodName := ⟨RX5, "byteAt", "(I)I"⟩
abbrev cX5_token : ByteArray := prog_7_method_74_code
def yX5_token : MethodName := ⟨RX5, "token", "()V"⟩
abbrev cX5_isWord : ByteArray := prog_7_method_75_code
def yX5_isWord : MethodName := ⟨RX5, "isWord", "(Ljava/lang/String;)Z"⟩
abbrev cX5_must : ByteArray := prog_7_method_76_code
def yX5_must : MethodName := ⟨RX5, "must", "(Z)V"⟩
abbrev cX5_number : ByteArray := prog_7_method_77_code
def yX5_number : MethodName := ⟨RX5, "number", "(II)I"⟩
abbrev cX5_addItem : ByteArray := prog_7_method_78_code
def yX5_addItem : MethodName := ⟨RX5, "addItem", "(III)V"⟩
abbrev cX5_takesWord : ByteArray := prog_7_method_79_code
def yX5_takesWord : MethodName := ⟨RX5, "takesWord", "(Ljava/lang/String;)Z"⟩
abbrev cX5_freePlace : ByteArray := prog_7_method_80_code
def yX5_freePlace : MethodName := ⟨RX5, "freePlace", "()I"⟩
abbrev cX5_readJumper : ByteArray := prog_7_method_81_code
def yX5_readJumper : MethodName := ⟨RX5, "readJumper", "(I)V"⟩
abbrev cX5_readItem : ByteArray := prog_7_method_82_code
def yX5_readItem : MethodName := ⟨RX5, "readItem", "()V"⟩
abbrev cX5_isToldSo : ByteArray := prog_7_method_83_code
def yX5_isToldSo : MethodName := ⟨RX5, "isToldSo", "(I)V"⟩
abbrev cX5_text : ByteArray := prog_7_method_84_code
def yX5_text : MethodName := ⟨RX5, "text", "()I"⟩
abbrev cX5_isSpot : ByteArray := prog_7_method_85_code
def yX5_isSpot : MethodName := ⟨RX5, "isSpot", "(I)Z"⟩
abbrev cX5_hold : ByteArray := prog_7_method_86_code
def yX5_hold : MethodName := ⟨RX5, "hold", "(II)I"⟩
abbrev cX5_as : ByteArray := prog_7_method_87_code
def yX5_as : MethodName := ⟨RX5, "as", "(II)I"⟩
abbrev cX5_isSheet : ByteArray := prog_7_method_88_code
def yX5_isSheet : MethodName := ⟨RX5, "isSheet", "(I)Z"⟩
abbrev cX5_cutTo : ByteArray := prog_7_method_89_code
def yX5_cutTo : MethodName := ⟨RX5, "cutTo", "(II)I"⟩
abbrev cX5_sheet : ByteArray := prog_7_method_90_code
def yX5_sheet : MethodName := ⟨RX5, "sheet", "(III)I"⟩
abbrev cX5_write : ByteArray := prog_7_method_91_code
def yX5_write : MethodName := ⟨RX5, "write", "(III)I"⟩
abbrev cX5_copy : ByteArray := prog_7_method_92_code
def yX5_copy : MethodName := ⟨RX5, "copy", "(IIIII)I"⟩
abbrev cX5_above : ByteArray := prog_7_method_93_code
def yX5_above : MethodName := ⟨RX5, "above", "(I)I"⟩
abbrev cX5_isUnder : ByteArray := prog_7_method_94_code
def yX5_isUnder : MethodName := ⟨RX5, "isUnder", "(II)Z"⟩
abbrev cX5_load : ByteArray := prog_7_method_95_code
def yX5_load : MethodName := ⟨RX5, "load", "(I)I"⟩
abbrev cX5_judge : ByteArray := prog_7_method_96_code
def yX5_judge : MethodName := ⟨RX5, "judge", "(I)I"⟩
abbrev cX5_image : ByteArray := prog_7_method_97_code
def yX5_image : MethodName := ⟨RX5, "image", "()I"⟩
abbrev cX5_undo : ByteArray := prog_7_method_98_code
def yX5_undo : MethodName := ⟨RX5, "undo", "()I"⟩
abbrev cX5_tear : ByteArray := prog_7_method_99_code
def yX5_tear : MethodName := ⟨RX5, "tear", "()I"⟩
abbrev cX5_count : ByteArray := prog_7_method_100_code
def yX5_count : MethodName := ⟨RX5, "count", "(I)I"⟩
abbrev cX5_status : ByteArray := prog_7_method_101_code
def yX5_status : MethodName := ⟨RX5, "status", "(I)I"⟩
def RJ6 : String := "java/lang/Integer"
def TJ6 : u_T := fun k => match k with
  | _ => ("", "", "", false)
def tyJ6 : Nat → FieldType := fun k => match k with
  | _ => .int
abbrev wsJ60 : List Cond := u_ws RJ6 TJ6 0
theorem nmJ6 : ∀ a, a < 0 → ∀ b, b < 0 → a ≠ b → (TJ6 a).2.1 ≠ (TJ6 b).2.1 := by decide +kernel
theorem tyJ6_ok : ∀ k, k < 0 → parseFieldDescriptor (TJ6 k).2.2.1 = some (tyJ6 k) := by decide +kernel
abbrev cJ6_bitCount_0f7a4 : ByteArray := prog_8_method_49_code
def yJ6_bitCount_0f7a4 : MethodName := ⟨RJ6, "bitCount", "(I)I"⟩
def RJ9 : String := "java/lang/Math"
def TJ9 : u_T := fun k => match k with
  | _ => ("", "", "", false)
def tyJ9 : Nat → FieldType := fun k => match k with
  | _ => .int
abbrev wsJ90 : List Cond := u_ws RJ9 TJ9 0
theorem nmJ9 : ∀ a, a < 0 → ∀ b, b < 0 → a ≠ b → (TJ9 a).2.1 ≠ (TJ9 b).2.1 := by decide +kernel
theorem tyJ9_ok : ∀ k, k < 0 → parseFieldDescriptor (TJ9 k).2.2.1 = some (tyJ9 k) := by decide +kernel
abbrev cJ9_max_7cf53 : ByteArray := prog_9_method_65_code
def yJ9_max_7cf53 : MethodName := ⟨RJ9, "max", "(II)I"⟩
abbrev cJ9_min_7cf53 : ByteArray := prog_9_method_69_code
def yJ9_min_7cf53 : MethodName := ⟨RJ9, "min", "(II)I"⟩
def RJ0 : String := "java/lang/String"
def TJ0 : u_T := fun k => match k with
  | _ => ("", "", "", false)
def tyJ0 : Nat → FieldType := fun k => match k with
  | _ => .int
abbrev wsJ00 : List Cond := u_ws RJ0 TJ0 0
theorem nmJ0 : ∀ a, a < 0 → ∀ b, b < 0 → a ≠ b → (TJ0 a).2.1 ≠ (TJ0 b).2.1 := by decide +kernel
theorem tyJ0_ok : ∀ k, k < 0 → parseFieldDescriptor (TJ0 k).2.2.1 = some (tyJ0 k) := by decide +kernel
abbrev cJ0_length_8abf5 : ByteArray := prog_10_method_54_code
def yJ0_length_8abf5 : MethodName := ⟨RJ0, "length", "()I"⟩
abbrev cJ0_charAt_5068e : ByteArray := prog_10_method_56_code
def yJ0_charAt_5068e : MethodName := ⟨RJ0, "charAt", "(I)C"⟩
abbrev cJ0_coder_7d493 : ByteArray := prog_10_method_152_code
def yJ0_coder_7d493 : MethodName := ⟨RJ0, "coder", "()B"⟩
abbrev cJ0_isLatin1_aae02 : ByteArray := prog_10_method_154_code
def yJ0_isLatin1_aae02 : MethodName := ⟨RJ0, "isLatin1", "()Z"⟩
abbrev cJ0_checkIndex_df160 : ByteArray := prog_10_method_155_code
def yJ0_checkIndex_df160 : MethodName := ⟨RJ0, "checkIndex", "(II)V"⟩
def RJ1 : String := "java/lang/StringLatin1"
def TJ1 : u_T := fun k => match k with
  | _ => ("", "", "", false)
def tyJ1 : Nat → FieldType := fun k => match k with
  | _ => .int
abbrev wsJ10 : List Cond := u_ws RJ1 TJ1 0
theorem nmJ1 : ∀ a, a < 0 → ∀ b, b < 0 → a ≠ b → (TJ1 a).2.1 ≠ (TJ1 b).2.1 := by decide +kernel
theorem tyJ1_ok : ∀ k, k < 0 → parseFieldDescriptor (TJ1 k).2.2.1 = some (tyJ1 k) := by decide +kernel
abbrev cJ1_charAt_3b067 : ByteArray := prog_11_method_2_code
def yJ1_charAt_3b067 : MethodName := ⟨RJ1, "charAt", "([BI)C"⟩
def RJ2 : String := "java/lang/StringUTF16"
def TJ2 : u_T := fun k => match k with
  | _ => ("", "", "", false)
def tyJ2 : Nat → FieldType := fun k => match k with
  | _ => .int
abbrev wsJ20 : List Cond := u_ws RJ2 TJ2 0
theorem nmJ2 : ∀ a, a < 0 → ∀ b, b < 0 → a ≠ b → (TJ2 a).2.1 ≠ (TJ2 b).2.1 := by decide +kernel
theorem tyJ2_ok : ∀ k, k < 0 → parseFieldDescriptor (TJ2 k).2.2.1 = some (tyJ2 k) := by decide +kernel
abbrev cJ2_getChar_3b067 : ByteArray := prog_12_method_5_code
def yJ2_getChar_3b067 : MethodName := ⟨RJ2, "getChar", "([BI)C"⟩
abbrev cJ2_length_9d52b : ByteArray := prog_12_method_6_code
def yJ2_length_9d52b : MethodName := ⟨RJ2, "length", "([B)I"⟩
abbrev cJ2_charAt_3b067 : ByteArray := prog_12_method_83_code
def yJ2_charAt_3b067 : MethodName := ⟨RJ2, "charAt", "([BI)C"⟩
abbrev cJ2_checkIndex_2214a : ByteArray := prog_12_method_91_code
def yJ2_checkIndex_2214a : MethodName := ⟨RJ2, "checkIndex", "(I[B)V"⟩
def RJ10 : String := "java/lang/System"
def TJ10 : u_T := fun k => match k with
  | _ => ("", "", "", false)
def tyJ10 : Nat → FieldType := fun k => match k with
  | _ => .int
abbrev wsJ100 : List Cond := u_ws RJ10 TJ10 0
theorem nmJ10 : ∀ a, a < 0 → ∀ b, b < 0 → a ≠ b → (TJ10 a).2.1 ≠ (TJ10 b).2.1 := by decide +kernel
theorem tyJ10_ok : ∀ k, k < 0 → parseFieldDescriptor (TJ10 k).2.2.1 = some (tyJ10 k) := by decide +kernel
def RJ3 : String := "jdk/internal/util/Preconditions"
def TJ3 : u_T := fun k => match k with
  | _ => ("", "", "", false)
def tyJ3 : Nat → FieldType := fun k => match k with
  | _ => .int
abbrev wsJ30 : List Cond := u_ws RJ3 TJ3 0
theorem nmJ3 : ∀ a, a < 0 → ∀ b, b < 0 → a ≠ b → (TJ3 a).2.1 ≠ (TJ3 b).2.1 := by decide +kernel
theorem tyJ3_ok : ∀ k, k < 0 → parseFieldDescriptor (TJ3 k).2.2.1 = some (tyJ3 k) := by decide +kernel
abbrev cJ3_checkIndex_8e157 : ByteArray := prog_14_method_11_code
def yJ3_checkIndex_8e157 : MethodName := ⟨RJ3, "checkIndex", "(IILjava/util/function/BiFunction;)I"⟩
def RL : String := "LineCallsLaw"
abbrev cL_law : ByteArray := code
def yL_law : MethodName := ⟨RL, "law", "([I)Z"⟩
def wsL_law_r1 : List Cond := [Cond.classLink RL 7 RX4, Cond.instantiable RX4 8, Cond.initialized RX4, Cond.classLink RL 10 RX5, Cond.instantiable RX5 25, Cond.initialized RX5, Cond.methodLink RL 9 yX4_init, Cond.instanceMethod yX4_init, Cond.code yX4_init cX4_init 2 none, Cond.methodLink RX4 1 objectInit, Cond.instanceMethod objectInit, Cond.code objectInit ⟨#[0xb1]⟩ 1 none, Cond.classLink RX4 7 RX0, Cond.instantiable RX0 17, Cond.initialized RX0, Cond.fieldLink RX4 10 "LineCalls" "line" "LLineCalls$Line;", Cond.fieldLink RX4 16 "LineCalls" "trial" "LLineCalls$Line;", Cond.fieldLink RX4 19 "LineCalls" "kept" "LLineCalls$Line;", Cond.fieldLink RX4 22 "LineCalls" "hasImage" "Z", Cond.classLink RX4 26 RX3, Cond.instantiable RX3 1, Cond.initialized RX3, Cond.fieldLink RX4 29 "LineCalls" "reader" "LLineCalls$TextReader;", Cond.fieldLink RX4 33 "LineCalls$TextReader" "tape" "LLineCalls$Tape;"]
def wsL_law_r2 : List Cond := [Cond.fieldLink RX4 37 "LineCalls" "tape" "LLineCalls$Tape;", Cond.classLink RX4 38 RX1, Cond.fieldLink RX4 40 "LineCalls" "sheets" "[LLineCalls$Sheet;", Cond.arrayClass .int, Cond.fieldLink RX4 44 "LineCalls" "found" "[I", Cond.instantiable RX1 3, Cond.initialized RX1, Cond.methodLink RX4 9 yX0_init, Cond.instanceMethod yX0_init, Cond.code yX0_init cX0_init 2 none, Cond.methodLink RX0 3 objectInit, Cond.fieldLink RX0 9 "LineCalls$Line" "standing" "[I", Cond.fieldLink RX0 15 "LineCalls$Line" "theirHigh" "[I", Cond.fieldLink RX0 18 "LineCalls$Line" "theirRead" "[I", Cond.fieldLink RX0 21 "LineCalls$Line" "list" "[I", Cond.fieldLink RX0 24 "LineCalls$Line" "kind" "[I", Cond.fieldLink RX0 27 "LineCalls$Line" "tall" "[I", Cond.fieldLink RX0 30 "LineCalls$Line" "tired" "[I", Cond.fieldLink RX0 33 "LineCalls$Line" "won" "[I", Cond.fieldLink RX0 36 "LineCalls$Line" "lost" "[I", Cond.fieldLink RX0 39 "LineCalls$Line" "spots" "[I", Cond.fieldLink RX0 42 "LineCalls$Line" "jumpers" "I", Cond.fieldLink RX0 46 "LineCalls$Line" "wind" "I", Cond.fieldLink RX0 49 "LineCalls$Line" "wet" "I"]
def wsL_law_r3 : List Cond := [Cond.fieldLink RX0 52 "LineCalls$Line" "code" "I", Cond.fieldLink RX0 55 "LineCalls$Line" "thrown" "I", Cond.fieldLink RX0 58 "LineCalls$Line" "metres" "I", Cond.fieldLink RX0 61 "LineCalls$Line" "z" "I", Cond.instanceMethod yX3_init, Cond.code yX3_init cX3_init 1 none, Cond.methodLink RX3 5 objectInit, Cond.classLink RX3 11 RX2, Cond.instantiable RX2 6, Cond.initialized RX2, Cond.fieldLink RX3 14 "LineCalls$TextReader" "tape" "LLineCalls$Tape;", Cond.instanceMethod yX2_init, Cond.code yX2_init cX2_init 1 none, Cond.methodLink RX2 3 objectInit, Cond.arrayClass .byte, Cond.fieldLink RX2 9 "LineCalls$Tape" "bytes" "[B", Cond.fieldLink RX2 15 "LineCalls$Tape" "size" "I", Cond.fieldLink RX2 19 "LineCalls$Tape" "token" "I", Cond.fieldLink RX2 22 "LineCalls$Tape" "start" "I", Cond.fieldLink RX2 25 "LineCalls$Tape" "end" "I", Cond.fieldLink RX2 28 "LineCalls$Tape" "value" "I", Cond.instanceMethod yX1_init, Cond.code yX1_init cX1_init 1 none, Cond.methodLink RX1 3 objectInit]
def wsL_law_r4 : List Cond := [Cond.fieldLink RX1 9 "LineCalls$Sheet" "numbers" "[I", Cond.fieldLink RX1 15 "LineCalls$Sheet" "bits" "I", Cond.fieldLink RX1 19 "LineCalls$Sheet" "size" "I", Cond.methodLink RL 12 yX5_init, Cond.instanceMethod yX5_init, Cond.code yX5_init cX5_init 2 none, Cond.methodLink RX5 1 objectInit, Cond.fieldLink RX5 9 "LineCallsModel" "now" "[I", Cond.fieldLink RX5 13 "LineCallsModel" "kept" "[I", Cond.fieldLink RX5 16 "LineCallsModel" "aside" "[I", Cond.fieldLink RX5 19 "LineCallsModel" "found" "[I", Cond.fieldLink RX5 22 "LineCallsModel" "tape" "[I", Cond.classLink RX5 25 RJ0, Cond.fieldLink RX5 41 "LineCallsModel" "kindNames" "[Ljava/lang/String;", Cond.fieldLink RX5 45 "LineCallsModel" "itemWhat" "[I", Cond.fieldLink RX5 48 "LineCallsModel" "itemA" "[I", Cond.fieldLink RX5 51 "LineCallsModel" "itemB" "[I", Cond.fieldLink RX5 54 "LineCallsModel" "widths" "[I", Cond.fieldLink RX5 57 "LineCallsModel" "sizes" "[I", Cond.fieldLink RX5 60 "LineCallsModel" "numbers" "[I", Cond.fieldLink RX5 63 "LineCallsModel" "moved" "[I", Cond.methodLink RL 13 yX4_stand, Cond.instanceMethod yX4_stand, Cond.selects RX4 yX4_stand yX4_stand]
def wsL_law_r5 : List Cond := [Cond.code yX4_stand cX4_stand 4 (some .int), Cond.fieldLink RX4 60 "LineCalls$Line" "standing" "[I", Cond.methodLink RX4 49 yX4_isPlace, Cond.static yX4_isPlace, Cond.code yX4_isPlace cX4_isPlace 1 (some .boolean), Cond.methodLink RX4 76 yX4_within, Cond.static yX4_within, Cond.code yX4_within cX4_within 3 (some .boolean), Cond.methodLink RX4 53 yX4_isJumperOrNobody, Cond.instanceMethod yX4_isJumperOrNobody, Cond.selects RX4 yX4_isJumperOrNobody yX4_isJumperOrNobody, Cond.code yX4_isJumperOrNobody cX4_isJumperOrNobody 2 (some .boolean), Cond.methodLink RX4 100 yX4_isJumper, Cond.instanceMethod yX4_isJumper, Cond.selects RX4 yX4_isJumper yX4_isJumper, Cond.code yX4_isJumper cX4_isJumper 2 (some .boolean), Cond.fieldLink RX4 93 "LineCalls$Line" "jumpers" "I", Cond.methodLink RX4 56 yX4_finding, Cond.instanceMethod yX4_finding, Cond.selects RX4 yX4_finding yX4_finding, Cond.code yX4_finding cX4_finding 2 (some .int), Cond.constant RX4 254 (-1000001), Cond.methodLink RX4 63 yX0_leave, Cond.instanceMethod yX0_leave]
def wsL_law_r6 : List Cond := [Cond.selects RX0 yX0_leave yX0_leave, Cond.code yX0_leave cX0_leave 3 none, Cond.methodLink RL 17 yX5_stand, Cond.instanceMethod yX5_stand, Cond.selects RX5 yX5_stand yX5_stand, Cond.code yX5_stand cX5_stand 3 (some .int), Cond.constant RX5 66 (-1000001), Cond.methodLink RX5 83 yX5_isPlace, Cond.static yX5_isPlace, Cond.code yX5_isPlace cX5_isPlace 1 (some .boolean), Cond.methodLink RX5 76 yX5_within, Cond.static yX5_within, Cond.code yX5_within cX5_within 3 (some .boolean), Cond.methodLink RX5 87 yX5_isJumper, Cond.instanceMethod yX5_isJumper, Cond.selects RX5 yX5_isJumper yX5_isJumper, Cond.code yX5_isJumper cX5_isJumper 2 (some .boolean), Cond.methodLink RX5 90 yX5_stands, Cond.instanceMethod yX5_stands, Cond.selects RX5 yX5_stands yX5_stands, Cond.code yX5_stands cX5_stands 5 (some .int), Cond.methodLink RX5 80 yX5_placeOf, Cond.instanceMethod yX5_placeOf, Cond.selects RX5 yX5_placeOf yX5_placeOf]
def wsL_law_r7 : List Cond := [Cond.code yX5_placeOf cX5_placeOf 4 (some .int), Cond.methodLink RX5 72 yX5_finding, Cond.instanceMethod yX5_finding, Cond.selects RX5 yX5_finding yX5_finding, Cond.code yX5_finding cX5_finding 2 (some .int), Cond.methodLink RL 18 yX4_place, Cond.instanceMethod yX4_place, Cond.selects RX4 yX4_place yX4_place, Cond.code yX4_place cX4_place 3 (some .int), Cond.fieldLink RX4 67 "LineCalls$Line" "theirHigh" "[I", Cond.fieldLink RX4 70 "LineCalls$Line" "theirRead" "[I", Cond.methodLink RX4 73 yX0_forceIn, Cond.instanceMethod yX0_forceIn, Cond.selects RX0 yX0_forceIn yX0_forceIn, Cond.code yX0_forceIn cX0_forceIn 2 (some .int), Cond.methodLink RL 21 yX5_place, Cond.instanceMethod yX5_place, Cond.selects RX5 yX5_place yX5_place, Cond.code yX5_place cX5_place 3 (some .int), Cond.methodLink RX5 94 yX5_force, Cond.instanceMethod yX5_force, Cond.selects RX5 yX5_force yX5_force, Cond.code yX5_force cX5_force 2 (some .int), Cond.methodLink RL 22 yX4_theirs]
def wsL_law_r8 : List Cond := [Cond.instanceMethod yX4_theirs, Cond.selects RX4 yX4_theirs yX4_theirs, Cond.code yX4_theirs cX4_theirs 6 (some .int), Cond.methodLink RL 26 yX5_theirs, Cond.instanceMethod yX5_theirs, Cond.selects RX5 yX5_theirs yX5_theirs, Cond.code yX5_theirs cX5_theirs 4 (some .int), Cond.methodLink RX5 97 yX5_become, Cond.instanceMethod yX5_become, Cond.selects RX5 yX5_become yX5_become, Cond.code yX5_become cX5_become 4 (some .int), Cond.methodLink RL 27 yX4_set, Cond.instanceMethod yX4_set, Cond.selects RX4 yX4_set yX4_set, Cond.code yX4_set cX4_set 3 (some .int), Cond.methodLink RX4 80 yX4_mostOfSetting, Cond.static yX4_mostOfSetting, Cond.code yX4_mostOfSetting cX4_mostOfSetting 1 (some .int), Cond.methodLink RX4 83 yX0_putSetting, Cond.instanceMethod yX0_putSetting, Cond.selects RX0 yX0_putSetting yX0_putSetting, Cond.code yX0_putSetting cX0_putSetting 4 (some .int), Cond.methodLink RL 30 yX5_set, Cond.instanceMethod yX5_set]
def wsL_law_r9 : List Cond := [Cond.selects RX5 yX5_set yX5_set, Cond.code yX5_set cX5_set 3 (some .int), Cond.methodLink RL 31 yX4_call, Cond.instanceMethod yX4_call, Cond.selects RX4 yX4_call yX4_call, Cond.code yX4_call cX4_call 4 (some .int), Cond.fieldLink RX4 87 "LineCalls$Line" "list" "[I", Cond.methodLink RL 34 yX5_call, Cond.instanceMethod yX5_call, Cond.selects RX5 yX5_call yX5_call, Cond.code yX5_call cX5_call 3 (some .int), Cond.methodLink RX5 100 yX5_isCall, Cond.static yX5_isCall, Cond.code yX5_isCall cX5_isCall 1 (some .boolean), Cond.methodLink RL 35 yX4_listed, Cond.instanceMethod yX4_listed, Cond.selects RX4 yX4_listed yX4_listed, Cond.code yX4_listed cX4_listed 2 (some .int), Cond.methodLink RL 39 yX5_listed, Cond.instanceMethod yX5_listed, Cond.selects RX5 yX5_listed yX5_listed, Cond.code yX5_listed cX5_listed 2 (some .int), Cond.methodLink RL 40 yX4_says, Cond.instanceMethod yX4_says]
def wsL_law_r10 : List Cond := [Cond.selects RX4 yX4_says yX4_says, Cond.code yX4_says cX4_says 3 (some .int), Cond.methodLink RX4 90 yX4_placeSaid, Cond.static yX4_placeSaid, Cond.code yX4_placeSaid cX4_placeSaid 5 (some .int), Cond.methodLink RX4 258 yJ6_bitCount_0f7a4, Cond.static yJ6_bitCount_0f7a4, Cond.initialized RJ6, Cond.code yJ6_bitCount_0f7a4 cJ6_bitCount_0f7a4 1 (some .int), Cond.constant RJ6 265 (1431655765), Cond.constant RJ6 266 (858993459), Cond.constant RJ6 267 (252645135), Cond.methodLink RL 43 yX5_says, Cond.instanceMethod yX5_says, Cond.selects RX5 yX5_says yX5_says, Cond.code yX5_says cX5_says 3 (some .int), Cond.methodLink RX5 106 yX5_saysBy, Cond.static yX5_saysBy, Cond.code yX5_saysBy cX5_saysBy 4 (some .int), Cond.methodLink RX5 103 yX5_bits, Cond.static yX5_bits, Cond.code yX5_bits cX5_bits 3 (some .int), Cond.methodLink RL 44 yX4_jumper, Cond.instanceMethod yX4_jumper]
def wsL_law_r11 : List Cond := [Cond.selects RX4 yX4_jumper yX4_jumper, Cond.code yX4_jumper cX4_jumper 3 (some .int), Cond.methodLink RX4 97 yX0_join, Cond.instanceMethod yX0_join, Cond.selects RX0 yX0_join yX0_join, Cond.code yX0_join cX0_join 4 (some .int), Cond.methodLink RL 47 yX5_jumper, Cond.instanceMethod yX5_jumper, Cond.selects RX5 yX5_jumper yX5_jumper, Cond.code yX5_jumper cX5_jumper 3 (some .int), Cond.constant RX5 115 (-1000002), Cond.methodLink RX5 112 yX5_isKind, Cond.static yX5_isKind, Cond.code yX5_isKind cX5_isKind 1 (some .boolean), Cond.methodLink RX5 116 yX5_comes, Cond.instanceMethod yX5_comes, Cond.selects RX5 yX5_comes yX5_comes, Cond.code yX5_comes cX5_comes 5 (some .int), Cond.methodLink RX5 109 yX5_jumperAt, Cond.static yX5_jumperAt, Cond.code yX5_jumperAt cX5_jumperAt 2 (some .int), Cond.methodLink RL 48 yX4_of, Cond.instanceMethod yX4_of, Cond.selects RX4 yX4_of yX4_of]
def wsL_law_r12 : List Cond := [Cond.code yX4_of cX4_of 3 (some .int), Cond.methodLink RX4 103 yX0_highOf, Cond.instanceMethod yX0_highOf, Cond.selects RX0 yX0_highOf yX0_highOf, Cond.code yX0_highOf cX0_highOf 3 (some .int), Cond.methodLink RX0 74 Lib.Math.max.name, Cond.static Lib.Math.max.name, Cond.initialized "java/lang/Math", Cond.code Lib.Math.max.name Lib.Math.max.code 2 (some .int), Cond.methodLink RX4 106 yX0_tiringOf, Cond.instanceMethod yX0_tiringOf, Cond.selects RX0 yX0_tiringOf yX0_tiringOf, Cond.code yX0_tiringOf cX0_tiringOf 2 (some .int), Cond.methodLink RX4 109 yX0_whereIs, Cond.instanceMethod yX0_whereIs, Cond.selects RX0 yX0_whereIs yX0_whereIs, Cond.code yX0_whereIs cX0_whereIs 3 (some .int), Cond.methodLink RX4 112 yX0_rowOf, Cond.instanceMethod yX0_rowOf, Cond.selects RX0 yX0_rowOf yX0_rowOf, Cond.code yX0_rowOf cX0_rowOf 2 (some (.array .int)), Cond.methodLink RL 51 yX5_of, Cond.instanceMethod yX5_of, Cond.selects RX5 yX5_of yX5_of]
def wsL_law_r13 : List Cond := [Cond.code yX5_of cX5_of 3 (some .int), Cond.methodLink RX5 119 yX5_jumperIs, Cond.instanceMethod yX5_jumperIs, Cond.selects RX5 yX5_jumperIs yX5_jumperIs, Cond.code yX5_jumperIs cX5_jumperIs 3 (some .int), Cond.methodLink RX5 127 yX5_high, Cond.instanceMethod yX5_high, Cond.selects RX5 yX5_high yX5_high, Cond.code yX5_high cX5_high 4 (some .int), Cond.methodLink RX5 122 Lib.Math.max.name, Cond.methodLink RX5 130 yX5_tires, Cond.instanceMethod yX5_tires, Cond.selects RX5 yX5_tires yX5_tires, Cond.code yX5_tires cX5_tires 2 (some .int), Cond.methodLink RL 52 yX4_change, Cond.instanceMethod yX4_change, Cond.selects RX4 yX4_change yX4_change, Cond.code yX4_change cX4_change 6 (some .int), Cond.methodLink RX4 116 yX4_mostOf, Cond.static yX4_mostOf, Cond.code yX4_mostOf cX4_mostOf 1 (some .int), Cond.methodLink RL 55 yX5_change, Cond.instanceMethod yX5_change, Cond.selects RX5 yX5_change yX5_change]
def wsL_law_r14 : List Cond := [Cond.code yX5_change cX5_change 4 (some .int), Cond.methodLink RX5 133 yX5_isField, Cond.static yX5_isField, Cond.code yX5_isField cX5_isField 2 (some .boolean), Cond.methodLink RL 56 yX4_gains, Cond.instanceMethod yX4_gains, Cond.selects RX4 yX4_gains yX4_gains, Cond.code yX4_gains cX4_gains 3 (some .int), Cond.methodLink RX4 119 yX0_gainOf, Cond.instanceMethod yX0_gainOf, Cond.selects RX0 yX0_gainOf yX0_gainOf, Cond.code yX0_gainOf cX0_gainOf 3 (some .int), Cond.methodLink RL 59 yX5_gains, Cond.instanceMethod yX5_gains, Cond.selects RX5 yX5_gains yX5_gains, Cond.code yX5_gains cX5_gains 3 (some .int), Cond.methodLink RX5 137 yX5_gainsIn, Cond.instanceMethod yX5_gainsIn, Cond.selects RX5 yX5_gainsIn yX5_gainsIn, Cond.code yX5_gainsIn cX5_gainsIn 3 (some .int), Cond.methodLink RL 60 yX4_go, Cond.instanceMethod yX4_go, Cond.selects RX4 yX4_go yX4_go, Cond.code yX4_go cX4_go 2 (some .int)]
def wsL_law_r15 : List Cond := [Cond.fieldLink RX4 122 "LineCalls$Line" "thrown" "I", Cond.constant RX4 125 (99999), Cond.methodLink RX4 126 yX0_throwMany, Cond.instanceMethod yX0_throwMany, Cond.selects RX0 yX0_throwMany yX0_throwMany, Cond.code yX0_throwMany cX0_throwMany 3 (some .int), Cond.methodLink RX0 98 yX0_throwIn, Cond.instanceMethod yX0_throwIn, Cond.selects RX0 yX0_throwIn yX0_throwIn, Cond.code yX0_throwIn cX0_throwIn 3 none, Cond.methodLink RX0 111 Lib.Math.min.name, Cond.static Lib.Math.min.name, Cond.code Lib.Math.min.name Lib.Math.min.code 2 (some .int), Cond.constant RX0 121 (99999), Cond.methodLink RX0 101 yX0_nextPlace, Cond.instanceMethod yX0_nextPlace, Cond.selects RX0 yX0_nextPlace yX0_nextPlace, Cond.code yX0_nextPlace cX0_nextPlace 1 (some .int), Cond.methodLink RX0 93 yX0_nextIndex, Cond.instanceMethod yX0_nextIndex, Cond.selects RX0 yX0_nextIndex yX0_nextIndex, Cond.code yX0_nextIndex cX0_nextIndex 1 (some .int), Cond.methodLink RX0 104 yX0_contest, Cond.instanceMethod yX0_contest]
def wsL_law_r16 : List Cond := [Cond.selects RX0 yX0_contest yX0_contest, Cond.code yX0_contest cX0_contest 3 none, Cond.methodLink RX0 86 yX0_wouldWin, Cond.instanceMethod yX0_wouldWin, Cond.selects RX0 yX0_wouldWin yX0_wouldWin, Cond.code yX0_wouldWin cX0_wouldWin 3 (some .boolean), Cond.methodLink RX0 80 yX0_highOf, Cond.methodLink RX0 83 yX0_forceIn, Cond.methodLink RX0 122 yX0_gainOf, Cond.methodLink RX0 108 yX0_tiringOf, Cond.methodLink RX0 114 yX0_restAllBut, Cond.instanceMethod yX0_restAllBut, Cond.selects RX0 yX0_restAllBut yX0_restAllBut, Cond.code yX0_restAllBut cX0_restAllBut 3 none, Cond.methodLink RX0 118 yX0_learn, Cond.instanceMethod yX0_learn, Cond.selects RX0 yX0_learn yX0_learn, Cond.code yX0_learn cX0_learn 3 none, Cond.methodLink RL 63 yX5_go, Cond.instanceMethod yX5_go, Cond.selects RX5 yX5_go yX5_go, Cond.code yX5_go cX5_go 2 (some .int), Cond.constant RX5 143 (99999), Cond.constant RX5 158 (-1000005)]
def wsL_law_r17 : List Cond := [Cond.methodLink RX5 159 yX5_throwsGo, Cond.instanceMethod yX5_throwsGo, Cond.selects RX5 yX5_throwsGo yX5_throwsGo, Cond.code yX5_throwsGo cX5_throwsGo 3 none, Cond.methodLink RX5 155 yX5_oneThrow, Cond.instanceMethod yX5_oneThrow, Cond.selects RX5 yX5_oneThrow yX5_oneThrow, Cond.code yX5_oneThrow cX5_oneThrow 5 none, Cond.methodLink RX5 144 Lib.Math.min.name, Cond.methodLink RX5 147 yX5_placeNext, Cond.instanceMethod yX5_placeNext, Cond.selects RX5 yX5_placeNext yX5_placeNext, Cond.code yX5_placeNext cX5_placeNext 1 (some .int), Cond.methodLink RX5 151 yX5_thrownTo, Cond.instanceMethod yX5_thrownTo, Cond.selects RX5 yX5_thrownTo yX5_thrownTo, Cond.code yX5_thrownTo cX5_thrownTo 6 none, Cond.methodLink RX5 140 yX5_isWonIn, Cond.instanceMethod yX5_isWonIn, Cond.selects RX5 yX5_isWonIn yX5_isWonIn, Cond.code yX5_isWonIn cX5_isWonIn 2 (some .boolean), Cond.methodLink RL 64 yX4_now, Cond.instanceMethod yX4_now, Cond.selects RX4 yX4_now yX4_now]
def wsL_law_r18 : List Cond := [Cond.code yX4_now cX4_now 2 (some .int), Cond.fieldLink RX4 129 "LineCalls$Line" "metres" "I", Cond.fieldLink RX4 132 "LineCalls$Line" "won" "[I", Cond.fieldLink RX4 139 "LineCalls$Line" "lost" "[I", Cond.methodLink RX4 135 yX0_sum, Cond.instanceMethod yX0_sum, Cond.selects RX0 yX0_sum yX0_sum, Cond.code yX0_sum cX0_sum 4 (some .int), Cond.methodLink RX4 142 yX0_nextPlace, Cond.methodLink RX4 146 yX0_winnable, Cond.instanceMethod yX0_winnable, Cond.selects RX0 yX0_winnable yX0_winnable, Cond.code yX0_winnable cX0_winnable 3 (some .int), Cond.methodLink RX4 149 yX0_placesListed, Cond.instanceMethod yX0_placesListed, Cond.selects RX0 yX0_placesListed yX0_placesListed, Cond.code yX0_placesListed cX0_placesListed 3 (some .int), Cond.methodLink RL 67 yX5_now, Cond.instanceMethod yX5_now, Cond.selects RX5 yX5_now yX5_now, Cond.code yX5_now cX5_now 2 (some .int), Cond.methodLink RX5 166 yX5_sumOf, Cond.instanceMethod yX5_sumOf, Cond.selects RX5 yX5_sumOf yX5_sumOf]
def wsL_law_r19 : List Cond := [Cond.code yX5_sumOf cX5_sumOf 4 (some .int), Cond.methodLink RX5 169 yX5_placesWon, Cond.instanceMethod yX5_placesWon, Cond.selects RX5 yX5_placesWon yX5_placesWon, Cond.code yX5_placesWon cX5_placesWon 3 (some .int), Cond.methodLink RX5 172 yX5_placesSaid, Cond.instanceMethod yX5_placesSaid, Cond.selects RX5 yX5_placesSaid yX5_placesSaid, Cond.code yX5_placesSaid cX5_placesSaid 4 (some .int), Cond.methodLink RX5 163 yX5_hasBit, Cond.static yX5_hasBit, Cond.code yX5_hasBit cX5_hasBit 2 (some .boolean), Cond.methodLink RL 68 yX4_ahead, Cond.instanceMethod yX4_ahead, Cond.selects RX4 yX4_ahead yX4_ahead, Cond.code yX4_ahead cX4_ahead 4 (some .int), Cond.methodLink RX4 152 yX0_become, Cond.instanceMethod yX0_become, Cond.selects RX0 yX0_become yX0_become, Cond.code yX0_become cX0_become 2 none, Cond.methodLink RX0 64 arraycopyName, Cond.native arraycopyName, Cond.static arraycopyName, Cond.initialized "java/lang/System"]
def wsL_law_r20 : List Cond := [Cond.methodLink RL 71 yX5_ahead, Cond.instanceMethod yX5_ahead, Cond.selects RX5 yX5_ahead yX5_ahead, Cond.code yX5_ahead cX5_ahead 4 (some .int), Cond.methodLink RX5 67 yX5_copyRow, Cond.static yX5_copyRow, Cond.code yX5_copyRow cX5_copyRow 3 none, Cond.methodLink RX5 175 yX5_putBack, Cond.instanceMethod yX5_putBack, Cond.selects RX5 yX5_putBack yX5_putBack, Cond.code yX5_putBack cX5_putBack 2 (some .int), Cond.methodLink RL 72 yX4_metres, Cond.instanceMethod yX4_metres, Cond.selects RX4 yX4_metres yX4_metres, Cond.code yX4_metres cX4_metres 2 (some .int), Cond.methodLink RL 75 yX5_metres, Cond.instanceMethod yX5_metres, Cond.selects RX5 yX5_metres yX5_metres, Cond.code yX5_metres cX5_metres 2 (some .int), Cond.methodLink RX5 178 yX5_behind, Cond.instanceMethod yX5_behind, Cond.selects RX5 yX5_behind yX5_behind, Cond.code yX5_behind cX5_behind 3 (some .int), Cond.methodLink RL 76 yX4_when]
def wsL_law_r21 : List Cond := [Cond.instanceMethod yX4_when, Cond.selects RX4 yX4_when yX4_when, Cond.code yX4_when cX4_when 4 (some .int), Cond.methodLink RX4 156 yX0_throwIn, Cond.methodLink RL 79 yX5_when, Cond.instanceMethod yX5_when, Cond.selects RX5 yX5_when yX5_when, Cond.code yX5_when cX5_when 4 (some .int), Cond.methodLink RX5 181 yX5_orNone, Cond.instanceMethod yX5_orNone, Cond.selects RX5 yX5_orNone yX5_orNone, Cond.code yX5_orNone cX5_orNone 2 (some .int), Cond.constant RX5 71 (-1000004), Cond.methodLink RL 80 yX4_known, Cond.instanceMethod yX4_known, Cond.selects RX4 yX4_known yX4_known, Cond.code yX4_known cX4_known 2 (some .int), Cond.methodLink RL 84 yX5_known, Cond.instanceMethod yX5_known, Cond.selects RX5 yX5_known yX5_known, Cond.code yX5_known cX5_known 2 (some .int), Cond.methodLink RL 85 yX4_codeFor, Cond.instanceMethod yX4_codeFor, Cond.selects RX4 yX4_codeFor yX4_codeFor]
def wsL_law_r22 : List Cond := [Cond.code yX4_codeFor cX4_codeFor 6 (some .int), Cond.fieldLink RX4 159 "LineCalls$Line" "code" "I", Cond.methodLink RL 88 yX5_codeFor, Cond.instanceMethod yX5_codeFor, Cond.selects RX5 yX5_codeFor yX5_codeFor, Cond.code yX5_codeFor cX5_codeFor 2 (some .int), Cond.methodLink RX5 184 yX5_isThought, Cond.static yX5_isThought, Cond.code yX5_isThought cX5_isThought 1 (some .boolean), Cond.methodLink RX5 187 yX5_bestFor, Cond.instanceMethod yX5_bestFor, Cond.selects RX5 yX5_bestFor yX5_bestFor, Cond.code yX5_bestFor cX5_bestFor 10 (some .int), Cond.methodLink RL 89 yX4_callFor, Cond.instanceMethod yX4_callFor, Cond.selects RX4 yX4_callFor yX4_callFor, Cond.code yX4_callFor cX4_callFor 8 (some .int), Cond.methodLink RX4 162 yX0_nextIndex, Cond.methodLink RL 92 yX5_callFor, Cond.instanceMethod yX5_callFor, Cond.selects RX5 yX5_callFor yX5_callFor, Cond.code yX5_callFor cX5_callFor 2 (some .int), Cond.methodLink RL 93 yX4_standFor, Cond.instanceMethod yX4_standFor]
def wsL_law_r23 : List Cond := [Cond.selects RX4 yX4_standFor yX4_standFor, Cond.code yX4_standFor cX4_standFor 7 (some .int), Cond.methodLink RX4 165 yX0_swapInto, Cond.instanceMethod yX0_swapInto, Cond.selects RX0 yX0_swapInto yX0_swapInto, Cond.code yX0_swapInto cX0_swapInto 5 none, Cond.methodLink RX0 70 yX0_whereIs, Cond.methodLink RL 96 yX5_standFor, Cond.instanceMethod yX5_standFor, Cond.selects RX5 yX5_standFor yX5_standFor, Cond.code yX5_standFor cX5_standFor 7 (some .int), Cond.methodLink RX5 191 yX5_metresStanding, Cond.instanceMethod yX5_metresStanding, Cond.selects RX5 yX5_metresStanding yX5_metresStanding, Cond.code yX5_metresStanding cX5_metresStanding 6 (some .int), Cond.methodLink RL 97 yX4_kindFor, Cond.instanceMethod yX4_kindFor, Cond.selects RX4 yX4_kindFor yX4_kindFor, Cond.code yX4_kindFor cX4_kindFor 6 (some .int), Cond.fieldLink RX4 169 "LineCalls$Line" "kind" "[I", Cond.methodLink RL 100 yX5_kindFor, Cond.instanceMethod yX5_kindFor, Cond.selects RX5 yX5_kindFor yX5_kindFor, Cond.code yX5_kindFor cX5_kindFor 3 (some .int)]
def wsL_law_r24 : List Cond := [Cond.methodLink RL 101 yX4_tallFor, Cond.instanceMethod yX4_tallFor, Cond.selects RX4 yX4_tallFor yX4_tallFor, Cond.code yX4_tallFor cX4_tallFor 5 (some .int), Cond.fieldLink RX4 172 "LineCalls$Line" "tall" "[I", Cond.methodLink RL 104 yX5_tallFor, Cond.instanceMethod yX5_tallFor, Cond.selects RX5 yX5_tallFor yX5_tallFor, Cond.code yX5_tallFor cX5_tallFor 8 (some .int), Cond.methodLink RL 105 yX4_cover, Cond.instanceMethod yX4_cover, Cond.selects RX4 yX4_cover yX4_cover, Cond.code yX4_cover cX4_cover 5 (some .int), Cond.methodLink RL 108 yX5_cover, Cond.instanceMethod yX5_cover, Cond.selects RX5 yX5_cover yX5_cover, Cond.code yX5_cover cX5_cover 4 (some .int), Cond.methodLink RL 109 yX4_codes, Cond.instanceMethod yX4_codes, Cond.selects RX4 yX4_codes yX4_codes, Cond.code yX4_codes cX4_codes 5 (some .int), Cond.methodLink RX4 175 yX4_lackOf, Cond.instanceMethod yX4_lackOf, Cond.selects RX4 yX4_lackOf yX4_lackOf]
def wsL_law_r25 : List Cond := [Cond.code yX4_lackOf cX4_lackOf 2 (some .int), Cond.methodLink RX4 218 yX4_isSheet, Cond.static yX4_isSheet, Cond.code yX4_isSheet cX4_isSheet 1 (some .boolean), Cond.methodLink RX4 227 yX1_isMissing, Cond.instanceMethod yX1_isMissing, Cond.selects RX1 yX1_isMissing yX1_isMissing, Cond.code yX1_isMissing cX1_isMissing 1 (some .boolean), Cond.methodLink RX4 178 yX4_goesAsTold, Cond.instanceMethod yX4_goesAsTold, Cond.selects RX4 yX4_goesAsTold yX4_goesAsTold, Cond.code yX4_goesAsTold cX4_goesAsTold 3 (some .boolean), Cond.fieldLink RX4 224 "LineCalls$Sheet" "size" "I", Cond.fieldLink RX4 237 "LineCalls$Sheet" "numbers" "[I", Cond.methodLink RL 112 yX5_codes, Cond.instanceMethod yX5_codes, Cond.selects RX5 yX5_codes yX5_codes, Cond.code yX5_codes cX5_codes 6 (some .int), Cond.methodLink RX5 199 yX5_lacks, Cond.instanceMethod yX5_lacks, Cond.selects RX5 yX5_lacks yX5_lacks, Cond.code yX5_lacks cX5_lacks 3 (some .int), Cond.constant RX5 198 (-1000006), Cond.methodLink RX5 195 yX5_isSheet]
def wsL_law_r26 : List Cond := [Cond.static yX5_isSheet, Cond.code yX5_isSheet cX5_isSheet 1 (some .boolean), Cond.methodLink RX5 203 yX5_areMetresSo, Cond.instanceMethod yX5_areMetresSo, Cond.selects RX5 yX5_areMetresSo yX5_areMetresSo, Cond.code yX5_areMetresSo cX5_areMetresSo 5 (some .boolean), Cond.methodLink RL 113 yX4_fits, Cond.instanceMethod yX4_fits, Cond.selects RX4 yX4_fits yX4_fits, Cond.code yX4_fits cX4_fits 6 (some .int), Cond.methodLink RX4 182 yX4_fitsSoTall, Cond.instanceMethod yX4_fitsSoTall, Cond.selects RX4 yX4_fitsSoTall yX4_fitsSoTall, Cond.code yX4_fitsSoTall cX4_fitsSoTall 4 (some .boolean), Cond.methodLink RL 116 yX5_fits, Cond.instanceMethod yX5_fits, Cond.selects RX5 yX5_fits yX5_fits, Cond.code yX5_fits cX5_fits 4 (some .int), Cond.fieldLink RX5 206 "LineCallsModel" "tallMany" "I", Cond.methodLink RX5 213 yX5_fitTall, Cond.instanceMethod yX5_fitTall, Cond.selects RX5 yX5_fitTall yX5_fitTall, Cond.code yX5_fitTall cX5_fitTall 7 none, Cond.fieldLink RX5 210 "LineCallsModel" "tallLeast" "I"]
def wsL_law_r27 : List Cond := [Cond.methodLink RL 117 yX4_tall, Cond.instanceMethod yX4_tall, Cond.selects RX4 yX4_tall yX4_tall, Cond.code yX4_tall cX4_tall 5 (some .int), Cond.methodLink RL 120 yX5_tall, Cond.instanceMethod yX5_tall, Cond.selects RX5 yX5_tall yX5_tall, Cond.code yX5_tall cX5_tall 4 (some .int), Cond.methodLink RL 121 yX4_kinds, Cond.instanceMethod yX4_kinds, Cond.selects RX4 yX4_kinds yX4_kinds, Cond.code yX4_kinds cX4_kinds 6 (some .int), Cond.methodLink RL 124 yX5_kinds, Cond.instanceMethod yX5_kinds, Cond.selects RX5 yX5_kinds yX5_kinds, Cond.code yX5_kinds cX5_kinds 8 (some .int), Cond.methodLink RL 125 yX4_mix, Cond.instanceMethod yX4_mix, Cond.selects RX4 yX4_mix yX4_mix, Cond.code yX4_mix cX4_mix 3 (some .int), Cond.fieldLink RX4 189 "LineCalls$Line" "wind" "I", Cond.methodLink RX4 186 yX0_draw, Cond.instanceMethod yX0_draw, Cond.selects RX0 yX0_draw yX0_draw]
def wsL_law_r28 : List Cond := [Cond.code yX0_draw cX0_draw 1 (some .int), Cond.constant RX0 97 (1103515245), Cond.methodLink RL 128 yX5_mix, Cond.instanceMethod yX5_mix, Cond.selects RX5 yX5_mix yX5_mix, Cond.code yX5_mix cX5_mix 3 (some .int), Cond.methodLink RX5 217 yX5_drawn, Cond.instanceMethod yX5_drawn, Cond.selects RX5 yX5_drawn yX5_drawn, Cond.code yX5_drawn cX5_drawn 1 (some .int), Cond.constant RX5 216 (1103515245), Cond.methodLink RL 129 yX4_odds, Cond.instanceMethod yX4_odds, Cond.selects RX4 yX4_odds yX4_odds, Cond.code yX4_odds cX4_odds 10 (some .long), Cond.methodLink RX4 192 yX4_commonDivisor, Cond.static yX4_commonDivisor, Cond.code yX4_commonDivisor cX4_commonDivisor 6 (some .int), Cond.methodLink RL 133 yX5_odds, Cond.instanceMethod yX5_odds, Cond.selects RX5 yX5_odds yX5_odds, Cond.code yX5_odds cX5_odds 10 (some .long), Cond.methodLink RL 134 yX4_seed, Cond.instanceMethod yX4_seed]
def wsL_law_r29 : List Cond := [Cond.selects RX4 yX4_seed yX4_seed, Cond.code yX4_seed cX4_seed 3 (some .int), Cond.fieldLink RX4 195 "LineCalls$Line" "z" "I", Cond.methodLink RL 137 yX5_seed, Cond.instanceMethod yX5_seed, Cond.selects RX5 yX5_seed yX5_seed, Cond.code yX5_seed cX5_seed 2 (some .int), Cond.methodLink RL 138 yX4_feed, Cond.instanceMethod yX4_feed, Cond.selects RX4 yX4_feed yX4_feed, Cond.code yX4_feed cX4_feed 4 (some .int), Cond.fieldLink RX4 198 "LineCalls$Tape" "size" "I", Cond.methodLink RX4 203 yX2_put, Cond.instanceMethod yX2_put, Cond.selects RX2 yX2_put yX2_put, Cond.code yX2_put cX2_put 2 none, Cond.methodLink RL 141 yX5_feed, Cond.instanceMethod yX5_feed, Cond.selects RX5 yX5_feed yX5_feed, Cond.code yX5_feed cX5_feed 4 (some .int), Cond.fieldLink RX5 220 "LineCallsModel" "taped" "I", Cond.methodLink RL 142 yX4_wipe, Cond.instanceMethod yX4_wipe, Cond.selects RX4 yX4_wipe yX4_wipe]
def wsL_law_r30 : List Cond := [Cond.code yX4_wipe cX4_wipe 2 (some .int), Cond.methodLink RL 145 yX5_wipe, Cond.instanceMethod yX5_wipe, Cond.selects RX5 yX5_wipe yX5_wipe, Cond.code yX5_wipe cX5_wipe 2 (some .int), Cond.methodLink RL 146 yX4_text, Cond.instanceMethod yX4_text, Cond.selects RX4 yX4_text yX4_text, Cond.code yX4_text cX4_text 2 (some .int), Cond.methodLink RX4 207 yX3_readInto, Cond.instanceMethod yX3_readInto, Cond.selects RX3 yX3_readInto yX3_readInto, Cond.code yX3_readInto cX3_readInto 3 (some .int), Cond.fieldLink RX3 25 "LineCalls$Tape" "start" "I", Cond.fieldLink RX3 29 "LineCalls$Tape" "token" "I", Cond.methodLink RX3 18 yX2_rewind, Cond.instanceMethod yX2_rewind, Cond.selects RX2 yX2_rewind yX2_rewind, Cond.code yX2_rewind cX2_rewind 1 none, Cond.methodLink RX2 31 yX2_step, Cond.instanceMethod yX2_step, Cond.selects RX2 yX2_step yX2_step, Cond.code yX2_step cX2_step 1 none, Cond.methodLink RX2 34 yX2_isLetter]
def wsL_law_r31 : List Cond := [Cond.instanceMethod yX2_isLetter, Cond.selects RX2 yX2_isLetter yX2_isLetter, Cond.code yX2_isLetter cX2_isLetter 2 (some .boolean), Cond.methodLink RX2 38 yX2_takeWord, Cond.instanceMethod yX2_takeWord, Cond.selects RX2 yX2_takeWord yX2_takeWord, Cond.code yX2_takeWord cX2_takeWord 2 none, Cond.methodLink RX2 53 yX2_spelling, Cond.static yX2_spelling, Cond.code yX2_spelling cX2_spelling 1 (some (.object "java/lang/String")), Cond.methodLink RX2 57 yX2_isSpelled, Cond.instanceMethod yX2_isSpelled, Cond.selects RX2 yX2_isSpelled yX2_isSpelled, Cond.code yX2_isSpelled cX2_isSpelled 3 (some .boolean), Cond.methodLink RX2 61 yJ0_length_8abf5, Cond.instanceMethod yJ0_length_8abf5, Cond.selects RJ0 yJ0_length_8abf5 yJ0_length_8abf5, Cond.initialized RJ0, Cond.code yJ0_length_8abf5 cJ0_length_8abf5 1 (some .int), Cond.fieldLink RJ0 9 "java/lang/String" "value" "[B", Cond.methodLink RJ0 335 yJ0_coder_7d493, Cond.instanceMethod yJ0_coder_7d493, Cond.selects RJ0 yJ0_coder_7d493 yJ0_coder_7d493, Cond.code yJ0_coder_7d493 cJ0_coder_7d493 1 (some .byte)]
def wsL_law_r32 : List Cond := [Cond.fieldLink RJ0 38 "java/lang/String" "COMPACT_STRINGS" "Z", Cond.fieldLink RJ0 15 "java/lang/String" "coder" "B", Cond.methodLink RX2 67 yJ0_charAt_5068e, Cond.instanceMethod yJ0_charAt_5068e, Cond.selects RJ0 yJ0_charAt_5068e yJ0_charAt_5068e, Cond.code yJ0_charAt_5068e cJ0_charAt_5068e 2 (some .char), Cond.methodLink RJ0 492 yJ0_isLatin1_aae02, Cond.instanceMethod yJ0_isLatin1_aae02, Cond.selects RJ0 yJ0_isLatin1_aae02 yJ0_isLatin1_aae02, Cond.code yJ0_isLatin1_aae02 cJ0_isLatin1_aae02 1 (some .boolean), Cond.methodLink RJ0 495 yJ1_charAt_3b067, Cond.static yJ1_charAt_3b067, Cond.initialized RJ1, Cond.code yJ1_charAt_3b067 cJ1_charAt_3b067 2 (some .char), Cond.methodLink RJ1 9 yJ0_checkIndex_df160, Cond.static yJ0_checkIndex_df160, Cond.code yJ0_checkIndex_df160 cJ0_checkIndex_df160 2 none, Cond.fieldLink RJ0 1053 "jdk/internal/util/Preconditions" "SIOOBE_FORMATTER" "Ljava/util/function/BiFunction;", Cond.methodLink RJ0 1059 yJ3_checkIndex_8e157, Cond.static yJ3_checkIndex_8e157, Cond.initialized RJ3, Cond.code yJ3_checkIndex_8e157 cJ3_checkIndex_8e157 3 (some .int), Cond.methodLink RJ0 498 yJ2_charAt_3b067, Cond.static yJ2_charAt_3b067]
def wsL_law_r33 : List Cond := [Cond.initialized RJ2, Cond.code yJ2_charAt_3b067 cJ2_charAt_3b067 2 (some .char), Cond.methodLink RJ2 67 yJ2_checkIndex_2214a, Cond.static yJ2_checkIndex_2214a, Cond.code yJ2_checkIndex_2214a cJ2_checkIndex_2214a 2 none, Cond.methodLink RJ2 48 yJ2_length_9d52b, Cond.static yJ2_length_9d52b, Cond.code yJ2_length_9d52b cJ2_length_9d52b 1 (some .int), Cond.methodLink RJ2 414 yJ0_checkIndex_df160, Cond.methodLink RJ2 71 yJ2_getChar_3b067, Cond.static yJ2_getChar_3b067, Cond.code yJ2_getChar_3b067 cJ2_getChar_3b067 2 (some .char), Cond.fieldLink RJ2 44 "java/lang/StringUTF16" "$assertionsDisabled" "Z", Cond.fieldLink RJ2 59 "java/lang/StringUTF16" "HI_BYTE_SHIFT" "I", Cond.fieldLink RJ2 63 "java/lang/StringUTF16" "LO_BYTE_SHIFT" "I", Cond.methodLink RX2 41 yX2_isDigit, Cond.instanceMethod yX2_isDigit, Cond.selects RX2 yX2_isDigit yX2_isDigit, Cond.code yX2_isDigit cX2_isDigit 2 (some .boolean), Cond.methodLink RX2 44 yX2_takeNumber, Cond.instanceMethod yX2_takeNumber, Cond.selects RX2 yX2_takeNumber yX2_takeNumber, Cond.code yX2_takeNumber cX2_takeNumber 1 none, Cond.methodLink RX2 47 Lib.Math.min.name]
def wsL_law_r34 : List Cond := [Cond.methodLink RX3 21 yX3_readItem, Cond.instanceMethod yX3_readItem, Cond.selects RX3 yX3_readItem yX3_readItem, Cond.code yX3_readItem cX3_readItem 3 (some .boolean), Cond.fieldLink RX3 35 "LineCalls$Tape" "value" "I", Cond.fieldLink RX3 42 "LineCalls$Line" "theirHigh" "[I", Cond.fieldLink RX3 52 "LineCalls$Line" "list" "[I", Cond.methodLink RX3 48 yX3_readPair, Cond.instanceMethod yX3_readPair, Cond.selects RX3 yX3_readPair yX3_readPair, Cond.code yX3_readPair cX3_readPair 5 (some .boolean), Cond.methodLink RX3 32 yX2_step, Cond.methodLink RX3 62 yX2_isNumber, Cond.instanceMethod yX2_isNumber, Cond.selects RX2 yX2_isNumber yX2_isNumber, Cond.code yX2_isNumber cX2_isNumber 2 (some .boolean), Cond.methodLink RX3 55 yX3_readSetting, Cond.instanceMethod yX3_readSetting, Cond.selects RX3 yX3_readSetting yX3_readSetting, Cond.code yX3_readSetting cX3_readSetting 3 (some .boolean), Cond.methodLink RX3 70 yX0_putSetting, Cond.methodLink RX3 59 yX3_readJumper, Cond.instanceMethod yX3_readJumper, Cond.selects RX3 yX3_readJumper yX3_readJumper]
def wsL_law_r35 : List Cond := [Cond.code yX3_readJumper cX3_readJumper 4 (some .boolean), Cond.fieldLink RX3 74 "LineCalls$Line" "jumpers" "I", Cond.fieldLink RX3 83 "LineCalls$Line" "standing" "[I", Cond.fieldLink RX3 86 "LineCalls$Line" "tall" "[I", Cond.methodLink RX3 77 yX0_join, Cond.methodLink RX3 80 yX2_isWord, Cond.instanceMethod yX2_isWord, Cond.selects RX2 yX2_isWord yX2_isWord, Cond.code yX2_isWord cX2_isWord 2 (some .boolean), Cond.methodLink RL 149 yX5_text, Cond.instanceMethod yX5_text, Cond.selects RX5 yX5_text yX5_text, Cond.code yX5_text cX5_text 2 (some .int), Cond.fieldLink RX5 223 "LineCallsModel" "ends" "I", Cond.fieldLink RX5 245 "LineCallsModel" "isWrong" "Z", Cond.fieldLink RX5 256 "LineCallsModel" "itemMany" "I", Cond.fieldLink RX5 266 "LineCallsModel" "jumpersThen" "I", Cond.fieldLink RX5 263 "LineCallsModel" "takenThen" "I", Cond.fieldLink RX5 235 "LineCallsModel" "sort" "I", Cond.fieldLink RX5 226 "LineCallsModel" "begins" "I", Cond.methodLink RX5 249 yX5_token, Cond.instanceMethod yX5_token, Cond.selects RX5 yX5_token yX5_token, Cond.code yX5_token cX5_token 2 none]
def wsL_law_r36 : List Cond := [Cond.fieldLink RX5 232 "LineCallsModel" "value" "I", Cond.methodLink RX5 229 yX5_byteAt, Cond.instanceMethod yX5_byteAt, Cond.selects RX5 yX5_byteAt yX5_byteAt, Cond.code yX5_byteAt cX5_byteAt 2 (some .int), Cond.methodLink RX5 299 yX5_readItem, Cond.instanceMethod yX5_readItem, Cond.selects RX5 yX5_readItem yX5_readItem, Cond.code yX5_readItem cX5_readItem 3 none, Cond.methodLink RX5 259 yX5_isWord, Cond.instanceMethod yX5_isWord, Cond.selects RX5 yX5_isWord yX5_isWord, Cond.code yX5_isWord cX5_isWord 4 (some .boolean), Cond.methodLink RX5 238 yJ0_length_8abf5, Cond.methodLink RX5 241 yJ0_charAt_5068e, Cond.methodLink RX5 286 yX5_readJumper, Cond.instanceMethod yX5_readJumper, Cond.selects RX5 yX5_readJumper yX5_readJumper, Cond.code yX5_readJumper cX5_readJumper 4 none, Cond.methodLink RX5 252 yX5_must, Cond.instanceMethod yX5_must, Cond.selects RX5 yX5_must yX5_must, Cond.code yX5_must cX5_must 2 none, Cond.methodLink RX5 271 yX5_takesWord]
def wsL_law_r37 : List Cond := [Cond.instanceMethod yX5_takesWord, Cond.selects RX5 yX5_takesWord yX5_takesWord, Cond.code yX5_takesWord cX5_takesWord 3 (some .boolean), Cond.methodLink RX5 274 yX5_freePlace, Cond.instanceMethod yX5_freePlace, Cond.selects RX5 yX5_freePlace yX5_freePlace, Cond.code yX5_freePlace cX5_freePlace 2 (some .int), Cond.methodLink RX5 279 yX5_number, Cond.instanceMethod yX5_number, Cond.selects RX5 yX5_number yX5_number, Cond.code yX5_number cX5_number 4 (some .int), Cond.methodLink RX5 282 yX5_addItem, Cond.instanceMethod yX5_addItem, Cond.selects RX5 yX5_addItem yX5_addItem, Cond.code yX5_addItem cX5_addItem 4 none, Cond.methodLink RX5 302 yX5_isToldSo, Cond.instanceMethod yX5_isToldSo, Cond.selects RX5 yX5_isToldSo yX5_isToldSo, Cond.code yX5_isToldSo cX5_isToldSo 5 none, Cond.methodLink RL 150 yX4_hold, Cond.instanceMethod yX4_hold, Cond.selects RX4 yX4_hold yX4_hold, Cond.code yX4_hold cX4_hold 3 (some .int), Cond.fieldLink RX4 211 "LineCalls$Line" "spots" "[I"]
def wsL_law_r38 : List Cond := [Cond.methodLink RL 153 yX5_hold, Cond.instanceMethod yX5_hold, Cond.selects RX5 yX5_hold yX5_hold, Cond.code yX5_hold cX5_hold 3 (some .int), Cond.methodLink RX5 305 yX5_isSpot, Cond.static yX5_isSpot, Cond.code yX5_isSpot cX5_isSpot 1 (some .boolean), Cond.methodLink RL 154 yX4_as, Cond.instanceMethod yX4_as, Cond.selects RX4 yX4_as yX4_as, Cond.code yX4_as cX4_as 4 (some .int), Cond.methodLink RX4 214 yX4_isKindOf, Cond.static yX4_isKindOf, Cond.code yX4_isKindOf cX4_isKindOf 4 (some .boolean), Cond.fieldLink RX4 255 "LineCalls" "UNDER" "[I", Cond.methodLink RL 157 yX5_as, Cond.instanceMethod yX5_as, Cond.selects RX5 yX5_as yX5_as, Cond.code yX5_as cX5_as 4 (some .int), Cond.constant RX5 311 (-1000003), Cond.methodLink RX5 308 yX5_isUnder, Cond.static yX5_isUnder, Cond.code yX5_isUnder cX5_isUnder 3 (some .boolean), Cond.methodLink RX5 316 yX5_above]
def wsL_law_r39 : List Cond := [Cond.static yX5_above, Cond.code yX5_above cX5_above 1 (some .int), Cond.methodLink RL 158 yX4_sheet, Cond.instanceMethod yX4_sheet, Cond.selects RX4 yX4_sheet yX4_sheet, Cond.code yX4_sheet cX4_sheet 4 (some .int), Cond.methodLink RX4 221 yX1_begin, Cond.instanceMethod yX1_begin, Cond.selects RX1 yX1_begin yX1_begin, Cond.code yX1_begin cX1_begin 4 none, Cond.methodLink RL 161 yX5_sheet, Cond.instanceMethod yX5_sheet, Cond.selects RX5 yX5_sheet yX5_sheet, Cond.code yX5_sheet cX5_sheet 5 (some .int), Cond.constant RX5 312 (-1000007), Cond.methodLink RL 162 yX4_write, Cond.instanceMethod yX4_write, Cond.selects RX4 yX4_write yX4_write, Cond.code yX4_write cX4_write 5 (some .int), Cond.methodLink RX4 225 yX1_put, Cond.instanceMethod yX1_put, Cond.selects RX1 yX1_put yX1_put, Cond.code yX1_put cX1_put 3 none, Cond.methodLink RL 165 yX5_write]
def wsL_law_r40 : List Cond := [Cond.instanceMethod yX5_write, Cond.selects RX5 yX5_write yX5_write, Cond.code yX5_write cX5_write 4 (some .int), Cond.methodLink RX5 313 yX5_cutTo, Cond.static yX5_cutTo, Cond.code yX5_cutTo cX5_cutTo 2 (some .int), Cond.methodLink RL 166 yX4_copy, Cond.instanceMethod yX4_copy, Cond.selects RX4 yX4_copy yX4_copy, Cond.code yX4_copy cX4_copy 8 (some .int), Cond.fieldLink RX4 231 "LineCalls$Sheet" "bits" "I", Cond.methodLink RX4 240 arraycopyName, Cond.methodLink RX4 234 yX1_has, Cond.instanceMethod yX1_has, Cond.selects RX1 yX1_has yX1_has, Cond.code yX1_has cX1_has 3 (some .boolean), Cond.methodLink RL 170 yX5_copy, Cond.instanceMethod yX5_copy, Cond.selects RX5 yX5_copy yX5_copy, Cond.code yX5_copy cX5_copy 7 (some .int), Cond.methodLink RL 171 yX4_load, Cond.instanceMethod yX4_load, Cond.selects RX4 yX4_load yX4_load, Cond.code yX4_load cX4_load 6 (some .int)]
def wsL_law_r41 : List Cond := [Cond.methodLink RX4 246 Lib.Math.min.name, Cond.methodLink RL 174 yX5_load, Cond.instanceMethod yX5_load, Cond.selects RX5 yX5_load yX5_load, Cond.code yX5_load cX5_load 3 (some .int), Cond.methodLink RL 175 yX4_judge, Cond.instanceMethod yX4_judge, Cond.selects RX4 yX4_judge yX4_judge, Cond.code yX4_judge cX4_judge 4 (some .int), Cond.methodLink RL 178 yX5_judge, Cond.instanceMethod yX5_judge, Cond.selects RX5 yX5_judge yX5_judge, Cond.code yX5_judge cX5_judge 3 (some .int), Cond.methodLink RL 179 yX4_image, Cond.instanceMethod yX4_image, Cond.selects RX4 yX4_image yX4_image, Cond.code yX4_image cX4_image 1 (some .int), Cond.methodLink RL 182 yX5_image, Cond.instanceMethod yX5_image, Cond.selects RX5 yX5_image yX5_image, Cond.code yX5_image cX5_image 1 (some .int), Cond.fieldLink RX5 319 "LineCallsModel" "isKept" "Z", Cond.methodLink RL 183 yX4_undo, Cond.instanceMethod yX4_undo]
def wsL_law_r42 : List Cond := [Cond.selects RX4 yX4_undo yX4_undo, Cond.code yX4_undo cX4_undo 1 (some .int), Cond.methodLink RL 186 yX5_undo, Cond.instanceMethod yX5_undo, Cond.selects RX5 yX5_undo yX5_undo, Cond.code yX5_undo cX5_undo 1 (some .int), Cond.methodLink RL 187 yX4_tear, Cond.instanceMethod yX4_tear, Cond.selects RX4 yX4_tear yX4_tear, Cond.code yX4_tear cX4_tear 2 (some .int), Cond.methodLink RL 190 yX5_tear, Cond.instanceMethod yX5_tear, Cond.selects RX5 yX5_tear yX5_tear, Cond.code yX5_tear cX5_tear 2 (some .int), Cond.methodLink RL 191 yX4_count, Cond.instanceMethod yX4_count, Cond.selects RX4 yX4_count yX4_count, Cond.code yX4_count cX4_count 2 (some .int), Cond.methodLink RX4 251 yX0_spotsHolding, Cond.instanceMethod yX0_spotsHolding, Cond.selects RX0 yX0_spotsHolding yX0_spotsHolding, Cond.code yX0_spotsHolding cX0_spotsHolding 3 (some .int), Cond.methodLink RL 194 yX5_count, Cond.instanceMethod yX5_count]
def wsL_law_r43 : List Cond := [Cond.selects RX5 yX5_count yX5_count, Cond.code yX5_count cX5_count 4 (some .int), Cond.methodLink RL 195 yX4_status, Cond.instanceMethod yX4_status, Cond.selects RX4 yX4_status yX4_status, Cond.code yX4_status cX4_status 4 (some .int), Cond.methodLink RL 198 yX5_status, Cond.instanceMethod yX5_status, Cond.selects RX5 yX5_status yX5_status, Cond.code yX5_status cX5_status 2 (some .int)]
def wsL_law : List Cond := (wsL_law_r1 ++ (wsL_law_r2 ++ (wsL_law_r3 ++ (wsL_law_r4 ++ (wsL_law_r5 ++ (wsL_law_r6 ++ (wsL_law_r7 ++ (wsL_law_r8 ++ (wsL_law_r9 ++ (wsL_law_r10 ++ (wsL_law_r11 ++ (wsL_law_r12 ++ (wsL_law_r13 ++ (wsL_law_r14 ++ (wsL_law_r15 ++ (wsL_law_r16 ++ (wsL_law_r17 ++ (wsL_law_r18 ++ (wsL_law_r19 ++ (wsL_law_r20 ++ (wsL_law_r21 ++ (wsL_law_r22 ++ (wsL_law_r23 ++ (wsL_law_r24 ++ (wsL_law_r25 ++ (wsL_law_r26 ++ (wsL_law_r27 ++ (wsL_law_r28 ++ (wsL_law_r29 ++ (wsL_law_r30 ++ (wsL_law_r31 ++ (wsL_law_r32 ++ (wsL_law_r33 ++ (wsL_law_r34 ++ (wsL_law_r35 ++ (wsL_law_r36 ++ (wsL_law_r37 ++ (wsL_law_r38 ++ (wsL_law_r39 ++ (wsL_law_r40 ++ (wsL_law_r41 ++ (wsL_law_r42 ++ wsL_law_r43)))))))))))))))))))))))))))))))))))))))))) ++ wsX40 ++ wsX50 ++ wsX00 ++ wsX30 ++ wsX10 ++ wsX20 ++ ([] : List Cond)
theorem inlX0 : ∀ w ∈ wsX00, w ∈ wsL_law := fun _ h => List.mem_append_left _ (List.mem_append_left _ (List.mem_append_left _ (List.mem_append_left _ (List.mem_append_right _ h))))
theorem inlX1 : ∀ w ∈ wsX10, w ∈ wsL_law := fun _ h => List.mem_append_left _ (List.mem_append_left _ (List.mem_append_right _ h))
theorem inlX2 : ∀ w ∈ wsX20, w ∈ wsL_law := fun _ h => List.mem_append_left _ (List.mem_append_right _ h)
theorem inlX3 : ∀ w ∈ wsX30, w ∈ wsL_law := fun _ h => List.mem_append_left _ (List.mem_append_left _ (List.mem_append_left _ (List.mem_append_right _ h)))
theorem inlX4 : ∀ w ∈ wsX40, w ∈ wsL_law := fun _ h => List.mem_append_left _ (List.mem_append_left _ (List.mem_append_left _ (List.mem_append_left _ (List.mem_append_left _ (List.mem_append_left _ (List.mem_append_right _ h))))))
theorem inlX5 : ∀ w ∈ wsX50, w ∈ wsL_law := fun _ h => List.mem_append_left _ (List.mem_append_left _ (List.mem_append_left _ (List.mem_append_left _ (List.mem_append_left _ (List.mem_append_right _ h)))))
end
section
abbrev TT : List Cond := wsL_law
theorem wr_1 : ∀ w ∈ wsL_law_r1, w ∈ TT := fun _ h => (List.mem_append_left _ (List.mem_append_left _ (List.mem_append_left _ (List.mem_append_left _ (List.mem_append_left _ (List.mem_append_left _ (List.mem_append_left _ (List.mem_append_left _ h))))))))
theorem wr_2 : ∀ w ∈ wsL_law_r2, w ∈ TT := fun _ h => (List.mem_append_left _ (List.mem_append_left _ (List.mem_append_left _ (List.mem_append_left _ (List.mem_append_left _ (List.mem_append_left _ (List.mem_append_left _ (List.mem_append_right _ (List.mem_append_left _ h)))))))))
theorem wr_3 : ∀ w ∈ wsL_law_r3, w ∈ TT := fun _ h => (List.mem_append_left _ (List.mem_append_left _ (List.mem_append_left _ (List.mem_append_left _ (List.mem_append_left _ (List.mem_append_left _ (List.mem_append_left _ (List.mem_append_right _ (List.mem_append_right _ (List.mem_append_left _ h))))))))))
theorem wr_4 : ∀ w ∈ wsL_law_r4, w ∈ TT := fun _ h => (List.mem_append_left _ (List.mem_append_left _ (List.mem_append_left _ (List.mem_append_left _ (List.mem_append_left _ (List.mem_append_left _ (List.mem_append_left _ (List.mem_append_right _ (List.mem_append_right _ (List.mem_append_right _ (List.mem_append_left _ h)))))))))))
theorem wr_5 : ∀ w ∈ wsL_law_r5, w ∈ TT := fun _ h => (List.mem_append_left _ (List.mem_append_left _ (List.mem_append_left _ (List.mem_append_left _ (List.mem_append_left _ (List.mem_append_left _ (List.mem_append_left _ (List.mem_append_right _ (List.mem_append_right _ (List.mem_append_right _ (List.mem_append_right _ (List.mem_append_left _ h))))))))))))
theorem wr_6 : ∀ w ∈ wsL_law_r6, w ∈ TT := fun _ h => (List.mem_append_left _ (List.mem_append_left _ (List.mem_append_left _ (List.mem_append_left _ (List.mem_append_left _ (List.mem_append_left _ (List.mem_append_left _ (List.mem_append_right _ (List.mem_append_right _ (List.mem_append_right _ (List.mem_append_right _ (List.mem_append_right _ (List.mem_append_left _ h)))))))))))))
theorem wr_7 : ∀ w ∈ wsL_law_r7, w ∈ TT := fun _ h => (List.mem_append_left _ (List.mem_append_left _ (List.mem_append_left _ (List.mem_append_left _ (List.mem_append_left _ (List.mem_append_left _ (List.mem_append_left _ (List.mem_append_right _ (List.mem_append_right _ (List.mem_append_right _ (List.mem_append_right _ (List.mem_append_right _ (List.mem_append_right _ (List.mem_append_left _ h))))))))))))))
theorem wr_8 : ∀ w ∈ wsL_law_r8, w ∈ TT := fun _ h => (List.mem_append_left _ (List.mem_append_left _ (List.mem_append_left _ (List.mem_append_left _ (List.mem_append_left _ (List.mem_append_left _ (List.mem_append_left _ (List.mem_append_right _ (List.mem_append_right _ (List.mem_append_right _ (List.mem_append_right _ (List.mem_append_right _ (List.mem_append_right _ (List.mem_append_right _ (List.mem_append_left _ h)))))))))))))))
theorem wr_9 : ∀ w ∈ wsL_law_r9, w ∈ TT := fun _ h => (List.mem_append_left _ (List.mem_append_left _ (List.mem_append_left _ (List.mem_append_left _ (List.mem_append_left _ (List.mem_append_left _ (List.mem_append_left _ (List.mem_append_right _ (List.mem_append_right _ (List.mem_append_right _ (List.mem_append_right _ (List.mem_append_right _ (List.mem_append_right _ (List.mem_append_right _ (List.mem_append_right _ (List.mem_append_left _ h))))))))))))))))
theorem wr_10 : ∀ w ∈ wsL_law_r10, w ∈ TT := fun _ h => (List.mem_append_left _ (List.mem_append_left _ (List.mem_append_left _ (List.mem_append_left _ (List.mem_append_left _ (List.mem_append_left _ (List.mem_append_left _ (List.mem_append_right _ (List.mem_append_right _ (List.mem_append_right _ (List.mem_append_right _ (List.mem_append_right _ (List.mem_append_right _ (List.mem_append_right _ (List.mem_append_right _ (List.mem_append_right _ (List.mem_append_left _ h)))))))))))))))))
theorem wr_11 : ∀ w ∈ wsL_law_r11, w ∈ TT := fun _ h => (List.mem_append_left _ (List.mem_append_left _ (List.mem_append_left _ (List.mem_append_left _ (List.mem_append_left _ (List.mem_append_left _ (List.mem_append_left _ (List.mem_append_right _ (List.mem_append_right _ (List.mem_append_right _ (List.mem_append_right _ (List.mem_append_right _ (List.mem_append_right _ (List.mem_append_right _ (List.mem_append_right _ (List.mem_append_right _ (List.mem_append_right _ (List.mem_append_left _ h))))))))))))))))))
theorem wr_12 : ∀ w ∈ wsL_law_r12, w ∈ TT := fun _ h => (List.mem_append_left _ (List.mem_append_left _ (List.mem_append_left _ (List.mem_append_left _ (List.mem_append_left _ (List.mem_append_left _ (List.mem_append_left _ (List.mem_append_right _ (List.mem_append_right _ (List.mem_append_right _ (List.mem_append_right _ (List.mem_append_right _ (List.mem_append_right _ (List.mem_append_right _ (List.mem_append_right _ (List.mem_append_right _ (List.mem_append_right _ (List.mem_append_right _ (List.mem_append_left _ h)))))))))))))))))))
theorem wr_13 : ∀ w ∈ wsL_law_r13, w ∈ TT := fun _ h => (List.mem_append_left _ (List.mem_append_left _ (List.mem_append_left _ (List.mem_append_left _ (List.mem_append_left _ (List.mem_append_left _ (List.mem_append_left _ (List.mem_append_right _ (List.mem_append_right _ (List.mem_append_right _ (List.mem_append_right _ (List.mem_append_right _ (List.mem_append_right _ (List.mem_append_right _ (List.mem_append_right _ (List.mem_append_right _ (List.mem_append_right _ (List.mem_append_right _ (List.mem_append_right _ (List.mem_append_left _ h))))))))))))))))))))
theorem wr_14 : ∀ w ∈ wsL_law_r14, w ∈ TT := fun _ h => (List.mem_append_left _ (List.mem_append_left _ (List.mem_append_left _ (List.mem_append_left _ (List.mem_append_left _ (List.mem_append_left _ (List.mem_append_left _ (List.mem_append_right _ (List.mem_append_right _ (List.mem_append_right _ (List.mem_append_right _ (List.mem_append_right _ (List.mem_append_right _ (List.mem_append_right _ (List.mem_append_right _ (List.mem_append_right _ (List.mem_append_right _ (List.mem_append_right _ (List.mem_append_right _ (List.mem_append_right _ (List.mem_append_left _ h)))))))))))))))))))))
theorem wr_15 : ∀ w ∈ wsL_law_r15, w ∈ TT := fun _ h => (List.mem_append_left _ (List.mem_append_left _ (List.mem_append_left _ (List.mem_append_left _ (List.mem_append_left _ (List.mem_append_left _ (List.mem_append_left _ (List.mem_append_right _ (List.mem_append_right _ (List.mem_append_right _ (List.mem_append_right _ (List.mem_append_right _ (List.mem_append_right _ (List.mem_append_right _ (List.mem_append_right _ (List.mem_append_right _ (List.mem_append_right _ (List.mem_append_right _ (List.mem_append_right _ (List.mem_append_right _ (List.mem_append_right _ (List.mem_append_left _ h))))))))))))))))))))))
theorem wr_16 : ∀ w ∈ wsL_law_r16, w ∈ TT := fun _ h => (List.mem_append_left _ (List.mem_append_left _ (List.mem_append_left _ (List.mem_append_left _ (List.mem_append_left _ (List.mem_append_left _ (List.mem_append_left _ (List.mem_append_right _ (List.mem_append_right _ (List.mem_append_right _ (List.mem_append_right _ (List.mem_append_right _ (List.mem_append_right _ (List.mem_append_right _ (List.mem_append_right _ (List.mem_append_right _ (List.mem_append_right _ (List.mem_append_right _ (List.mem_append_right _ (List.mem_append_right _ (List.mem_append_right _ (List.mem_append_right _ (List.mem_append_left _ h)))))))))))))))))))))))
theorem wr_17 : ∀ w ∈ wsL_law_r17, w ∈ TT := fun _ h => (List.mem_append_left _ (List.mem_append_left _ (List.mem_append_left _ (List.mem_append_left _ (List.mem_append_left _ (List.mem_append_left _ (List.mem_append_left _ (List.mem_append_right _ (List.mem_append_right _ (List.mem_append_right _ (List.mem_append_right _ (List.mem_append_right _ (List.mem_append_right _ (List.mem_append_right _ (List.mem_append_right _ (List.mem_append_right _ (List.mem_append_right _ (List.mem_append_right _ (List.mem_append_right _ (List.mem_append_right _ (List.mem_append_right _ (List.mem_append_right _ (List.mem_append_right _ (List.mem_append_left _ h))))))))))))))))))))))))
theorem wr_18 : ∀ w ∈ wsL_law_r18, w ∈ TT := fun _ h => (List.mem_append_left _ (List.mem_append_left _ (List.mem_append_left _ (List.mem_append_left _ (List.mem_append_left _ (List.mem_append_left _ (List.mem_append_left _ (List.mem_append_right _ (List.mem_append_right _ (List.mem_append_right _ (List.mem_append_right _ (List.mem_append_right _ (List.mem_append_right _ (List.mem_append_right _ (List.mem_append_right _ (List.mem_append_right _ (List.mem_append_right _ (List.mem_append_right _ (List.mem_append_right _ (List.mem_append_right _ (List.mem_append_right _ (List.mem_append_right _ (List.mem_append_right _ (List.mem_append_right _ (List.mem_append_left _ h)))))))))))))))))))))))))
theorem wr_19 : ∀ w ∈ wsL_law_r19, w ∈ TT := fun _ h => (List.mem_append_left _ (List.mem_append_left _ (List.mem_append_left _ (List.mem_append_left _ (List.mem_append_left _ (List.mem_append_left _ (List.mem_append_left _ (List.mem_append_right _ (List.mem_append_right _ (List.mem_append_right _ (List.mem_append_right _ (List.mem_append_right _ (List.mem_append_right _ (List.mem_append_right _ (List.mem_append_right _ (List.mem_append_right _ (List.mem_append_right _ (List.mem_append_right _ (List.mem_append_right _ (List.mem_append_right _ (List.mem_append_right _ (List.mem_append_right _ (List.mem_append_right _ (List.mem_append_right _ (List.mem_append_right _ (List.mem_append_left _ h))))))))))))))))))))))))))
theorem wr_20 : ∀ w ∈ wsL_law_r20, w ∈ TT := fun _ h => (List.mem_append_left _ (List.mem_append_left _ (List.mem_append_left _ (List.mem_append_left _ (List.mem_append_left _ (List.mem_append_left _ (List.mem_append_left _ (List.mem_append_right _ (List.mem_append_right _ (List.mem_append_right _ (List.mem_append_right _ (List.mem_append_right _ (List.mem_append_right _ (List.mem_append_right _ (List.mem_append_right _ (List.mem_append_right _ (List.mem_append_right _ (List.mem_append_right _ (List.mem_append_right _ (List.mem_append_right _ (List.mem_append_right _ (List.mem_append_right _ (List.mem_append_right _ (List.mem_append_right _ (List.mem_append_right _ (List.mem_append_right _ (List.mem_append_left _ h)))))))))))))))))))))))))))
theorem wr_21 : ∀ w ∈ wsL_law_r21, w ∈ TT := fun _ h => (List.mem_append_left _ (List.mem_append_left _ (List.mem_append_left _ (List.mem_append_left _ (List.mem_append_left _ (List.mem_append_left _ (List.mem_append_left _ (List.mem_append_right _ (List.mem_append_right _ (List.mem_append_right _ (List.mem_append_right _ (List.mem_append_right _ (List.mem_append_right _ (List.mem_append_right _ (List.mem_append_right _ (List.mem_append_right _ (List.mem_append_right _ (List.mem_append_right _ (List.mem_append_right _ (List.mem_append_right _ (List.mem_append_right _ (List.mem_append_right _ (List.mem_append_right _ (List.mem_append_right _ (List.mem_append_right _ (List.mem_append_right _ (List.mem_append_right _ (List.mem_append_left _ h))))))))))))))))))))))))))))
theorem wr_22 : ∀ w ∈ wsL_law_r22, w ∈ TT := fun _ h => (List.mem_append_left _ (List.mem_append_left _ (List.mem_append_left _ (List.mem_append_left _ (List.mem_append_left _ (List.mem_append_left _ (List.mem_append_left _ (List.mem_append_right _ (List.mem_append_right _ (List.mem_append_right _ (List.mem_append_right _ (List.mem_append_right _ (List.mem_append_right _ (List.mem_append_right _ (List.mem_append_right _ (List.mem_append_right _ (List.mem_append_right _ (List.mem_append_right _ (List.mem_append_right _ (List.mem_append_right _ (List.mem_append_right _ (List.mem_append_right _ (List.mem_append_right _ (List.mem_append_right _ (List.mem_append_right _ (List.mem_append_right _ (List.mem_append_right _ (List.mem_append_right _ (List.mem_append_left _ h)))))))))))))))))))))))))))))
theorem wr_23 : ∀ w ∈ wsL_law_r23, w ∈ TT := fun _ h => (List.mem_append_left _ (List.mem_append_left _ (List.mem_append_left _ (List.mem_append_left _ (List.mem_append_left _ (List.mem_append_left _ (List.mem_append_left _ (List.mem_append_right _ (List.mem_append_right _ (List.mem_append_right _ (List.mem_append_right _ (List.mem_append_right _ (List.mem_append_right _ (List.mem_append_right _ (List.mem_append_right _ (List.mem_append_right _ (List.mem_append_right _ (List.mem_append_right _ (List.mem_append_right _ (List.mem_append_right _ (List.mem_append_right _ (List.mem_append_right _ (List.mem_append_right _ (List.mem_append_right _ (List.mem_append_right _ (List.mem_append_right _ (List.mem_append_right _ (List.mem_append_right _ (List.mem_append_right _ (List.mem_append_left _ h))))))))))))))))))))))))))))))
theorem wr_24 : ∀ w ∈ wsL_law_r24, w ∈ TT := fun _ h => (List.mem_append_left _ (List.mem_append_left _ (List.mem_append_left _ (List.mem_append_left _ (List.mem_append_left _ (List.mem_append_left _ (List.mem_append_left _ (List.mem_append_right _ (List.mem_append_right _ (List.mem_append_right _ (List.mem_append_right _ (List.mem_append_right _ (List.mem_append_right _ (List.mem_append_right _ (List.mem_append_right _ (List.mem_append_right _ (List.mem_append_right _ (List.mem_append_right _ (List.mem_append_right _ (List.mem_append_right _ (List.mem_append_right _ (List.mem_append_right _ (List.mem_append_right _ (List.mem_append_right _ (List.mem_append_right _ (List.mem_append_right _ (List.mem_append_right _ (List.mem_append_right _ (List.mem_append_right _ (List.mem_append_right _ (List.mem_append_left _ h)))))))))))))))))))))))))))))))
theorem wr_25 : ∀ w ∈ wsL_law_r25, w ∈ TT := fun _ h => (List.mem_append_left _ (List.mem_append_left _ (List.mem_append_left _ (List.mem_append_left _ (List.mem_append_left _ (List.mem_append_left _ (List.mem_append_left _ (List.mem_append_right _ (List.mem_append_right _ (List.mem_append_right _ (List.mem_append_right _ (List.mem_append_right _ (List.mem_append_right _ (List.mem_append_right _ (List.mem_append_right _ (List.mem_append_right _ (List.mem_append_right _ (List.mem_append_right _ (List.mem_append_right _ (List.mem_append_right _ (List.mem_append_right _ (List.mem_append_right _ (List.mem_append_right _ (List.mem_append_right _ (List.mem_append_right _ (List.mem_append_right _ (List.mem_append_right _ (List.mem_append_right _ (List.mem_append_right _ (List.mem_append_right _ (List.mem_append_right _ (List.mem_append_left _ h))))))))))))))))))))))))))))))))
theorem wr_26 : ∀ w ∈ wsL_law_r26, w ∈ TT := fun _ h => (List.mem_append_left _ (List.mem_append_left _ (List.mem_append_left _ (List.mem_append_left _ (List.mem_append_left _ (List.mem_append_left _ (List.mem_append_left _ (List.mem_append_right _ (List.mem_append_right _ (List.mem_append_right _ (List.mem_append_right _ (List.mem_append_right _ (List.mem_append_right _ (List.mem_append_right _ (List.mem_append_right _ (List.mem_append_right _ (List.mem_append_right _ (List.mem_append_right _ (List.mem_append_right _ (List.mem_append_right _ (List.mem_append_right _ (List.mem_append_right _ (List.mem_append_right _ (List.mem_append_right _ (List.mem_append_right _ (List.mem_append_right _ (List.mem_append_right _ (List.mem_append_right _ (List.mem_append_right _ (List.mem_append_right _ (List.mem_append_right _ (List.mem_append_right _ (List.mem_append_left _ h)))))))))))))))))))))))))))))))))
theorem wr_27 : ∀ w ∈ wsL_law_r27, w ∈ TT := fun _ h => (List.mem_append_left _ (List.mem_append_left _ (List.mem_append_left _ (List.mem_append_left _ (List.mem_append_left _ (List.mem_append_left _ (List.mem_append_left _ (List.mem_append_right _ (List.mem_append_right _ (List.mem_append_right _ (List.mem_append_right _ (List.mem_append_right _ (List.mem_append_right _ (List.mem_append_right _ (List.mem_append_right _ (List.mem_append_right _ (List.mem_append_right _ (List.mem_append_right _ (List.mem_append_right _ (List.mem_append_right _ (List.mem_append_right _ (List.mem_append_right _ (List.mem_append_right _ (List.mem_append_right _ (List.mem_append_right _ (List.mem_append_right _ (List.mem_append_right _ (List.mem_append_right _ (List.mem_append_right _ (List.mem_append_right _ (List.mem_append_right _ (List.mem_append_right _ (List.mem_append_right _ (List.mem_append_left _ h))))))))))))))))))))))))))))))))))
theorem wr_28 : ∀ w ∈ wsL_law_r28, w ∈ TT := fun _ h => (List.mem_append_left _ (List.mem_append_left _ (List.mem_append_left _ (List.mem_append_left _ (List.mem_append_left _ (List.mem_append_left _ (List.mem_append_left _ (List.mem_append_right _ (List.mem_append_right _ (List.mem_append_right _ (List.mem_append_right _ (List.mem_append_right _ (List.mem_append_right _ (List.mem_append_right _ (List.mem_append_right _ (List.mem_append_right _ (List.mem_append_right _ (List.mem_append_right _ (List.mem_append_right _ (List.mem_append_right _ (List.mem_append_right _ (List.mem_append_right _ (List.mem_append_right _ (List.mem_append_right _ (List.mem_append_right _ (List.mem_append_right _ (List.mem_append_right _ (List.mem_append_right _ (List.mem_append_right _ (List.mem_append_right _ (List.mem_append_right _ (List.mem_append_right _ (List.mem_append_right _ (List.mem_append_right _ (List.mem_append_left _ h)))))))))))))))))))))))))))))))))))
theorem wr_29 : ∀ w ∈ wsL_law_r29, w ∈ TT := fun _ h => (List.mem_append_left _ (List.mem_append_left _ (List.mem_append_left _ (List.mem_append_left _ (List.mem_append_left _ (List.mem_append_left _ (List.mem_append_left _ (List.mem_append_right _ (List.mem_append_right _ (List.mem_append_right _ (List.mem_append_right _ (List.mem_append_right _ (List.mem_append_right _ (List.mem_append_right _ (List.mem_append_right _ (List.mem_append_right _ (List.mem_append_right _ (List.mem_append_right _ (List.mem_append_right _ (List.mem_append_right _ (List.mem_append_right _ (List.mem_append_right _ (List.mem_append_right _ (List.mem_append_right _ (List.mem_append_right _ (List.mem_append_right _ (List.mem_append_right _ (List.mem_append_right _ (List.mem_append_right _ (List.mem_append_right _ (List.mem_append_right _ (List.mem_append_right _ (List.mem_append_right _ (List.mem_append_right _ (List.mem_append_right _ (List.mem_append_left _ h))))))))))))))))))))))))))))))))))))
theorem wr_30 : ∀ w ∈ wsL_law_r30, w ∈ TT := fun _ h => (List.mem_append_left _ (List.mem_append_left _ (List.mem_append_left _ (List.mem_append_left _ (List.mem_append_left _ (List.mem_append_left _ (List.mem_append_left _ (List.mem_append_right _ (List.mem_append_right _ (List.mem_append_right _ (List.mem_append_right _ (List.mem_append_right _ (List.mem_append_right _ (List.mem_append_right _ (List.mem_append_right _ (List.mem_append_right _ (List.mem_append_right _ (List.mem_append_right _ (List.mem_append_right _ (List.mem_append_right _ (List.mem_append_right _ (List.mem_append_right _ (List.mem_append_right _ (List.mem_append_right _ (List.mem_append_right _ (List.mem_append_right _ (List.mem_append_right _ (List.mem_append_right _ (List.mem_append_right _ (List.mem_append_right _ (List.mem_append_right _ (List.mem_append_right _ (List.mem_append_right _ (List.mem_append_right _ (List.mem_append_right _ (List.mem_append_right _ (List.mem_append_left _ h)))))))))))))))))))))))))))))))))))))
theorem wr_31 : ∀ w ∈ wsL_law_r31, w ∈ TT := fun _ h => (List.mem_append_left _ (List.mem_append_left _ (List.mem_append_left _ (List.mem_append_left _ (List.mem_append_left _ (List.mem_append_left _ (List.mem_append_left _ (List.mem_append_right _ (List.mem_append_right _ (List.mem_append_right _ (List.mem_append_right _ (List.mem_append_right _ (List.mem_append_right _ (List.mem_append_right _ (List.mem_append_right _ (List.mem_append_right _ (List.mem_append_right _ (List.mem_append_right _ (List.mem_append_right _ (List.mem_append_right _ (List.mem_append_right _ (List.mem_append_right _ (List.mem_append_right _ (List.mem_append_right _ (List.mem_append_right _ (List.mem_append_right _ (List.mem_append_right _ (List.mem_append_right _ (List.mem_append_right _ (List.mem_append_right _ (List.mem_append_right _ (List.mem_append_right _ (List.mem_append_right _ (List.mem_append_right _ (List.mem_append_right _ (List.mem_append_right _ (List.mem_append_right _ (List.mem_append_left _ h))))))))))))))))))))))))))))))))))))))
theorem wr_32 : ∀ w ∈ wsL_law_r32, w ∈ TT := fun _ h => (List.mem_append_left _ (List.mem_append_left _ (List.mem_append_left _ (List.mem_append_left _ (List.mem_append_left _ (List.mem_append_left _ (List.mem_append_left _ (List.mem_append_right _ (List.mem_append_right _ (List.mem_append_right _ (List.mem_append_right _ (List.mem_append_right _ (List.mem_append_right _ (List.mem_append_right _ (List.mem_append_right _ (List.mem_append_right _ (List.mem_append_right _ (List.mem_append_right _ (List.mem_append_right _ (List.mem_append_right _ (List.mem_append_right _ (List.mem_append_right _ (List.mem_append_right _ (List.mem_append_right _ (List.mem_append_right _ (List.mem_append_right _ (List.mem_append_right _ (List.mem_append_right _ (List.mem_append_right _ (List.mem_append_right _ (List.mem_append_right _ (List.mem_append_right _ (List.mem_append_right _ (List.mem_append_right _ (List.mem_append_right _ (List.mem_append_right _ (List.mem_append_right _ (List.mem_append_right _ (List.mem_append_left _ h)))))))))))))))))))))))))))))))))))))))
theorem wr_33 : ∀ w ∈ wsL_law_r33, w ∈ TT := fun _ h => (List.mem_append_left _ (List.mem_append_left _ (List.mem_append_left _ (List.mem_append_left _ (List.mem_append_left _ (List.mem_append_left _ (List.mem_append_left _ (List.mem_append_right _ (List.mem_append_right _ (List.mem_append_right _ (List.mem_append_right _ (List.mem_append_right _ (List.mem_append_right _ (List.mem_append_right _ (List.mem_append_right _ (List.mem_append_right _ (List.mem_append_right _ (List.mem_append_right _ (List.mem_append_right _ (List.mem_append_right _ (List.mem_append_right _ (List.mem_append_right _ (List.mem_append_right _ (List.mem_append_right _ (List.mem_append_right _ (List.mem_append_right _ (List.mem_append_right _ (List.mem_append_right _ (List.mem_append_right _ (List.mem_append_right _ (List.mem_append_right _ (List.mem_append_right _ (List.mem_append_right _ (List.mem_append_right _ (List.mem_append_right _ (List.mem_append_right _ (List.mem_append_right _ (List.mem_append_right _ (List.mem_append_right _ (List.mem_append_left _ h))))))))))))))))))))))))))))))))))))))))
theorem wr_34 : ∀ w ∈ wsL_law_r34, w ∈ TT := fun _ h => (List.mem_append_left _ (List.mem_append_left _ (List.mem_append_left _ (List.mem_append_left _ (List.mem_append_left _ (List.mem_append_left _ (List.mem_append_left _ (List.mem_append_right _ (List.mem_append_right _ (List.mem_append_right _ (List.mem_append_right _ (List.mem_append_right _ (List.mem_append_right _ (List.mem_append_right _ (List.mem_append_right _ (List.mem_append_right _ (List.mem_append_right _ (List.mem_append_right _ (List.mem_append_right _ (List.mem_append_right _ (List.mem_append_right _ (List.mem_append_right _ (List.mem_append_right _ (List.mem_append_right _ (List.mem_append_right _ (List.mem_append_right _ (List.mem_append_right _ (List.mem_append_right _ (List.mem_append_right _ (List.mem_append_right _ (List.mem_append_right _ (List.mem_append_right _ (List.mem_append_right _ (List.mem_append_right _ (List.mem_append_right _ (List.mem_append_right _ (List.mem_append_right _ (List.mem_append_right _ (List.mem_append_right _ (List.mem_append_right _ (List.mem_append_left _ h)))))))))))))))))))))))))))))))))))))))))
theorem wr_35 : ∀ w ∈ wsL_law_r35, w ∈ TT := fun _ h => (List.mem_append_left _ (List.mem_append_left _ (List.mem_append_left _ (List.mem_append_left _ (List.mem_append_left _ (List.mem_append_left _ (List.mem_append_left _ (List.mem_append_right _ (List.mem_append_right _ (List.mem_append_right _ (List.mem_append_right _ (List.mem_append_right _ (List.mem_append_right _ (List.mem_append_right _ (List.mem_append_right _ (List.mem_append_right _ (List.mem_append_right _ (List.mem_append_right _ (List.mem_append_right _ (List.mem_append_right _ (List.mem_append_right _ (List.mem_append_right _ (List.mem_append_right _ (List.mem_append_right _ (List.mem_append_right _ (List.mem_append_right _ (List.mem_append_right _ (List.mem_append_right _ (List.mem_append_right _ (List.mem_append_right _ (List.mem_append_right _ (List.mem_append_right _ (List.mem_append_right _ (List.mem_append_right _ (List.mem_append_right _ (List.mem_append_right _ (List.mem_append_right _ (List.mem_append_right _ (List.mem_append_right _ (List.mem_append_right _ (List.mem_append_right _ (List.mem_append_left _ h))))))))))))))))))))))))))))))))))))))))))
theorem wr_36 : ∀ w ∈ wsL_law_r36, w ∈ TT := fun _ h => (List.mem_append_left _ (List.mem_append_left _ (List.mem_append_left _ (List.mem_append_left _ (List.mem_append_left _ (List.mem_append_left _ (List.mem_append_left _ (List.mem_append_right _ (List.mem_append_right _ (List.mem_append_right _ (List.mem_append_right _ (List.mem_append_right _ (List.mem_append_right _ (List.mem_append_right _ (List.mem_append_right _ (List.mem_append_right _ (List.mem_append_right _ (List.mem_append_right _ (List.mem_append_right _ (List.mem_append_right _ (List.mem_append_right _ (List.mem_append_right _ (List.mem_append_right _ (List.mem_append_right _ (List.mem_append_right _ (List.mem_append_right _ (List.mem_append_right _ (List.mem_append_right _ (List.mem_append_right _ (List.mem_append_right _ (List.mem_append_right _ (List.mem_append_right _ (List.mem_append_right _ (List.mem_append_right _ (List.mem_append_right _ (List.mem_append_right _ (List.mem_append_right _ (List.mem_append_right _ (List.mem_append_right _ (List.mem_append_right _ (List.mem_append_right _ (List.mem_append_right _ (List.mem_append_left _ h)))))))))))))))))))))))))))))))))))))))))))
theorem wr_37 : ∀ w ∈ wsL_law_r37, w ∈ TT := fun _ h => (List.mem_append_left _ (List.mem_append_left _ (List.mem_append_left _ (List.mem_append_left _ (List.mem_append_left _ (List.mem_append_left _ (List.mem_append_left _ (List.mem_append_right _ (List.mem_append_right _ (List.mem_append_right _ (List.mem_append_right _ (List.mem_append_right _ (List.mem_append_right _ (List.mem_append_right _ (List.mem_append_right _ (List.mem_append_right _ (List.mem_append_right _ (List.mem_append_right _ (List.mem_append_right _ (List.mem_append_right _ (List.mem_append_right _ (List.mem_append_right _ (List.mem_append_right _ (List.mem_append_right _ (List.mem_append_right _ (List.mem_append_right _ (List.mem_append_right _ (List.mem_append_right _ (List.mem_append_right _ (List.mem_append_right _ (List.mem_append_right _ (List.mem_append_right _ (List.mem_append_right _ (List.mem_append_right _ (List.mem_append_right _ (List.mem_append_right _ (List.mem_append_right _ (List.mem_append_right _ (List.mem_append_right _ (List.mem_append_right _ (List.mem_append_right _ (List.mem_append_right _ (List.mem_append_right _ (List.mem_append_left _ h))))))))))))))))))))))))))))))))))))))))))))
theorem wr_38 : ∀ w ∈ wsL_law_r38, w ∈ TT := fun _ h => (List.mem_append_left _ (List.mem_append_left _ (List.mem_append_left _ (List.mem_append_left _ (List.mem_append_left _ (List.mem_append_left _ (List.mem_append_left _ (List.mem_append_right _ (List.mem_append_right _ (List.mem_append_right _ (List.mem_append_right _ (List.mem_append_right _ (List.mem_append_right _ (List.mem_append_right _ (List.mem_append_right _ (List.mem_append_right _ (List.mem_append_right _ (List.mem_append_right _ (List.mem_append_right _ (List.mem_append_right _ (List.mem_append_right _ (List.mem_append_right _ (List.mem_append_right _ (List.mem_append_right _ (List.mem_append_right _ (List.mem_append_right _ (List.mem_append_right _ (List.mem_append_right _ (List.mem_append_right _ (List.mem_append_right _ (List.mem_append_right _ (List.mem_append_right _ (List.mem_append_right _ (List.mem_append_right _ (List.mem_append_right _ (List.mem_append_right _ (List.mem_append_right _ (List.mem_append_right _ (List.mem_append_right _ (List.mem_append_right _ (List.mem_append_right _ (List.mem_append_right _ (List.mem_append_right _ (List.mem_append_right _ (List.mem_append_left _ h)))))))))))))))))))))))))))))))))))))))))))))
theorem wr_39 : ∀ w ∈ wsL_law_r39, w ∈ TT := fun _ h => (List.mem_append_left _ (List.mem_append_left _ (List.mem_append_left _ (List.mem_append_left _ (List.mem_append_left _ (List.mem_append_left _ (List.mem_append_left _ (List.mem_append_right _ (List.mem_append_right _ (List.mem_append_right _ (List.mem_append_right _ (List.mem_append_right _ (List.mem_append_right _ (List.mem_append_right _ (List.mem_append_right _ (List.mem_append_right _ (List.mem_append_right _ (List.mem_append_right _ (List.mem_append_right _ (List.mem_append_right _ (List.mem_append_right _ (List.mem_append_right _ (List.mem_append_right _ (List.mem_append_right _ (List.mem_append_right _ (List.mem_append_right _ (List.mem_append_right _ (List.mem_append_right _ (List.mem_append_right _ (List.mem_append_right _ (List.mem_append_right _ (List.mem_append_right _ (List.mem_append_right _ (List.mem_append_right _ (List.mem_append_right _ (List.mem_append_right _ (List.mem_append_right _ (List.mem_append_right _ (List.mem_append_right _ (List.mem_append_right _ (List.mem_append_right _ (List.mem_append_right _ (List.mem_append_right _ (List.mem_append_right _ (List.mem_append_right _ (List.mem_append_left _ h))))))))))))))))))))))))))))))))))))))))))))))
theorem wr_40 : ∀ w ∈ wsL_law_r40, w ∈ TT := fun _ h => (List.mem_append_left _ (List.mem_append_left _ (List.mem_append_left _ (List.mem_append_left _ (List.mem_append_left _ (List.mem_append_left _ (List.mem_append_left _ (List.mem_append_right _ (List.mem_append_right _ (List.mem_append_right _ (List.mem_append_right _ (List.mem_append_right _ (List.mem_append_right _ (List.mem_append_right _ (List.mem_append_right _ (List.mem_append_right _ (List.mem_append_right _ (List.mem_append_right _ (List.mem_append_right _ (List.mem_append_right _ (List.mem_append_right _ (List.mem_append_right _ (List.mem_append_right _ (List.mem_append_right _ (List.mem_append_right _ (List.mem_append_right _ (List.mem_append_right _ (List.mem_append_right _ (List.mem_append_right _ (List.mem_append_right _ (List.mem_append_right _ (List.mem_append_right _ (List.mem_append_right _ (List.mem_append_right _ (List.mem_append_right _ (List.mem_append_right _ (List.mem_append_right _ (List.mem_append_right _ (List.mem_append_right _ (List.mem_append_right _ (List.mem_append_right _ (List.mem_append_right _ (List.mem_append_right _ (List.mem_append_right _ (List.mem_append_right _ (List.mem_append_right _ (List.mem_append_left _ h)))))))))))))))))))))))))))))))))))))))))))))))
theorem wr_41 : ∀ w ∈ wsL_law_r41, w ∈ TT := fun _ h => (List.mem_append_left _ (List.mem_append_left _ (List.mem_append_left _ (List.mem_append_left _ (List.mem_append_left _ (List.mem_append_left _ (List.mem_append_left _ (List.mem_append_right _ (List.mem_append_right _ (List.mem_append_right _ (List.mem_append_right _ (List.mem_append_right _ (List.mem_append_right _ (List.mem_append_right _ (List.mem_append_right _ (List.mem_append_right _ (List.mem_append_right _ (List.mem_append_right _ (List.mem_append_right _ (List.mem_append_right _ (List.mem_append_right _ (List.mem_append_right _ (List.mem_append_right _ (List.mem_append_right _ (List.mem_append_right _ (List.mem_append_right _ (List.mem_append_right _ (List.mem_append_right _ (List.mem_append_right _ (List.mem_append_right _ (List.mem_append_right _ (List.mem_append_right _ (List.mem_append_right _ (List.mem_append_right _ (List.mem_append_right _ (List.mem_append_right _ (List.mem_append_right _ (List.mem_append_right _ (List.mem_append_right _ (List.mem_append_right _ (List.mem_append_right _ (List.mem_append_right _ (List.mem_append_right _ (List.mem_append_right _ (List.mem_append_right _ (List.mem_append_right _ (List.mem_append_right _ (List.mem_append_left _ h))))))))))))))))))))))))))))))))))))))))))))))))
theorem wr_42 : ∀ w ∈ wsL_law_r42, w ∈ TT := fun _ h => (List.mem_append_left _ (List.mem_append_left _ (List.mem_append_left _ (List.mem_append_left _ (List.mem_append_left _ (List.mem_append_left _ (List.mem_append_left _ (List.mem_append_right _ (List.mem_append_right _ (List.mem_append_right _ (List.mem_append_right _ (List.mem_append_right _ (List.mem_append_right _ (List.mem_append_right _ (List.mem_append_right _ (List.mem_append_right _ (List.mem_append_right _ (List.mem_append_right _ (List.mem_append_right _ (List.mem_append_right _ (List.mem_append_right _ (List.mem_append_right _ (List.mem_append_right _ (List.mem_append_right _ (List.mem_append_right _ (List.mem_append_right _ (List.mem_append_right _ (List.mem_append_right _ (List.mem_append_right _ (List.mem_append_right _ (List.mem_append_right _ (List.mem_append_right _ (List.mem_append_right _ (List.mem_append_right _ (List.mem_append_right _ (List.mem_append_right _ (List.mem_append_right _ (List.mem_append_right _ (List.mem_append_right _ (List.mem_append_right _ (List.mem_append_right _ (List.mem_append_right _ (List.mem_append_right _ (List.mem_append_right _ (List.mem_append_right _ (List.mem_append_right _ (List.mem_append_right _ (List.mem_append_right _ (List.mem_append_left _ h)))))))))))))))))))))))))))))))))))))))))))))))))
theorem wr_43 : ∀ w ∈ wsL_law_r43, w ∈ TT := fun _ h => (List.mem_append_left _ (List.mem_append_left _ (List.mem_append_left _ (List.mem_append_left _ (List.mem_append_left _ (List.mem_append_left _ (List.mem_append_left _ (List.mem_append_right _ (List.mem_append_right _ (List.mem_append_right _ (List.mem_append_right _ (List.mem_append_right _ (List.mem_append_right _ (List.mem_append_right _ (List.mem_append_right _ (List.mem_append_right _ (List.mem_append_right _ (List.mem_append_right _ (List.mem_append_right _ (List.mem_append_right _ (List.mem_append_right _ (List.mem_append_right _ (List.mem_append_right _ (List.mem_append_right _ (List.mem_append_right _ (List.mem_append_right _ (List.mem_append_right _ (List.mem_append_right _ (List.mem_append_right _ (List.mem_append_right _ (List.mem_append_right _ (List.mem_append_right _ (List.mem_append_right _ (List.mem_append_right _ (List.mem_append_right _ (List.mem_append_right _ (List.mem_append_right _ (List.mem_append_right _ (List.mem_append_right _ (List.mem_append_right _ (List.mem_append_right _ (List.mem_append_right _ (List.mem_append_right _ (List.mem_append_right _ (List.mem_append_right _ (List.mem_append_right _ (List.mem_append_right _ (List.mem_append_right _ (List.mem_append_right _ h)))))))))))))))))))))))))))))))))))))))))))))))))
theorem tw_1_0 : Cond.classLink RL 7 RX4 ∈ TT := wr_1 _ (List.mem_of_getElem? (i := 0) rfl)
theorem tw_1_1 : Cond.instantiable RX4 8 ∈ TT := wr_1 _ (List.mem_of_getElem? (i := 1) rfl)
theorem tw_1_2 : Cond.initialized RX4 ∈ TT := wr_1 _ (List.mem_of_getElem? (i := 2) rfl)
theorem tw_1_3 : Cond.classLink RL 10 RX5 ∈ TT := wr_1 _ (List.mem_of_getElem? (i := 3) rfl)
theorem tw_1_4 : Cond.instantiable RX5 25 ∈ TT := wr_1 _ (List.mem_of_getElem? (i := 4) rfl)
theorem tw_1_5 : Cond.initialized RX5 ∈ TT := wr_1 _ (List.mem_of_getElem? (i := 5) rfl)
theorem tw_1_6 : Cond.methodLink RL 9 yX4_init ∈ TT := wr_1 _ (List.mem_of_getElem? (i := 6) rfl)
theorem tw_1_7 : Cond.instanceMethod yX4_init ∈ TT := wr_1 _ (List.mem_of_getElem? (i := 7) rfl)
theorem tw_1_8 : Cond.code yX4_init cX4_init 2 none ∈ TT := wr_1 _ (List.mem_of_getElem? (i := 8) rfl)
theorem tw_1_9 : Cond.methodLink RX4 1 objectInit ∈ TT := wr_1 _ (List.mem_of_getElem? (i := 9) rfl)
theorem tw_1_10 : Cond.instanceMethod objectInit ∈ TT := wr_1 _ (List.mem_of_getElem? (i := 10) rfl)
theorem tw_1_11 : Cond.code objectInit ⟨#[0xb1]⟩ 1 none ∈ TT := wr_1 _ (List.mem_of_getElem? (i := 11) rfl)
theorem tw_1_12 : Cond.classLink RX4 7 RX0 ∈ TT := wr_1 _ (List.mem_of_getElem? (i := 12) rfl)
theorem tw_1_13 : Cond.instantiable RX0 17 ∈ TT := wr_1 _ (List.mem_of_getElem? (i := 13) rfl)
theorem tw_1_14 : Cond.initialized RX0 ∈ TT := wr_1 _ (List.mem_of_getElem? (i := 14) rfl)
theorem tw_1_15 : Cond.fieldLink RX4 10 "LineCalls" "line" "LLineCalls$Line;" ∈ TT := wr_1 _ (List.mem_of_getElem? (i := 15) rfl)
theorem tw_1_16 : Cond.fieldLink RX4 16 "LineCalls" "trial" "LLineCalls$Line;" ∈ TT := wr_1 _ (List.mem_of_getElem? (i := 16) rfl)
theorem tw_1_17 : Cond.fieldLink RX4 19 "LineCalls" "kept" "LLineCalls$Line;" ∈ TT := wr_1 _ (List.mem_of_getElem? (i := 17) rfl)
theorem tw_1_18 : Cond.fieldLink RX4 22 "LineCalls" "hasImage" "Z" ∈ TT := wr_1 _ (List.mem_of_getElem? (i := 18) rfl)
theorem tw_1_19 : Cond.classLink RX4 26 RX3 ∈ TT := wr_1 _ (List.mem_of_getElem? (i := 19) rfl)
theorem tw_1_20 : Cond.instantiable RX3 1 ∈ TT := wr_1 _ (List.mem_of_getElem? (i := 20) rfl)
theorem tw_1_21 : Cond.initialized RX3 ∈ TT := wr_1 _ (List.mem_of_getElem? (i := 21) rfl)
theorem tw_1_22 : Cond.fieldLink RX4 29 "LineCalls" "reader" "LLineCalls$TextReader;" ∈ TT := wr_1 _ (List.mem_of_getElem? (i := 22) rfl)
theorem tw_1_23 : Cond.fieldLink RX4 33 "LineCalls$TextReader" "tape" "LLineCalls$Tape;" ∈ TT := wr_1 _ (List.mem_of_getElem? (i := 23) rfl)
theorem tw_2_0 : Cond.fieldLink RX4 37 "LineCalls" "tape" "LLineCalls$Tape;" ∈ TT := wr_2 _ (List.mem_of_getElem? (i := 0) rfl)
theorem tw_2_1 : Cond.classLink RX4 38 RX1 ∈ TT := wr_2 _ (List.mem_of_getElem? (i := 1) rfl)
theorem tw_2_2 : Cond.fieldLink RX4 40 "LineCalls" "sheets" "[LLineCalls$Sheet;" ∈ TT := wr_2 _ (List.mem_of_getElem? (i := 2) rfl)
theorem tw_2_3 : Cond.arrayClass .int ∈ TT := wr_2 _ (List.mem_of_getElem? (i := 3) rfl)
theorem tw_2_4 : Cond.fieldLink RX4 44 "LineCalls" "found" "[I" ∈ TT := wr_2 _ (List.mem_of_getElem? (i := 4) rfl)
theorem tw_2_5 : Cond.instantiable RX1 3 ∈ TT := wr_2 _ (List.mem_of_getElem? (i := 5) rfl)
theorem tw_2_6 : Cond.initialized RX1 ∈ TT := wr_2 _ (List.mem_of_getElem? (i := 6) rfl)
theorem tw_2_7 : Cond.methodLink RX4 9 yX0_init ∈ TT := wr_2 _ (List.mem_of_getElem? (i := 7) rfl)
theorem tw_2_8 : Cond.instanceMethod yX0_init ∈ TT := wr_2 _ (List.mem_of_getElem? (i := 8) rfl)
theorem tw_2_9 : Cond.code yX0_init cX0_init 2 none ∈ TT := wr_2 _ (List.mem_of_getElem? (i := 9) rfl)
theorem tw_2_10 : Cond.methodLink RX0 3 objectInit ∈ TT := wr_2 _ (List.mem_of_getElem? (i := 10) rfl)
theorem tw_2_11 : Cond.fieldLink RX0 9 "LineCalls$Line" "standing" "[I" ∈ TT := wr_2 _ (List.mem_of_getElem? (i := 11) rfl)
theorem tw_2_12 : Cond.fieldLink RX0 15 "LineCalls$Line" "theirHigh" "[I" ∈ TT := wr_2 _ (List.mem_of_getElem? (i := 12) rfl)
theorem tw_2_13 : Cond.fieldLink RX0 18 "LineCalls$Line" "theirRead" "[I" ∈ TT := wr_2 _ (List.mem_of_getElem? (i := 13) rfl)
theorem tw_2_14 : Cond.fieldLink RX0 21 "LineCalls$Line" "list" "[I" ∈ TT := wr_2 _ (List.mem_of_getElem? (i := 14) rfl)
theorem tw_2_15 : Cond.fieldLink RX0 24 "LineCalls$Line" "kind" "[I" ∈ TT := wr_2 _ (List.mem_of_getElem? (i := 15) rfl)
theorem tw_2_16 : Cond.fieldLink RX0 27 "LineCalls$Line" "tall" "[I" ∈ TT := wr_2 _ (List.mem_of_getElem? (i := 16) rfl)
theorem tw_2_17 : Cond.fieldLink RX0 30 "LineCalls$Line" "tired" "[I" ∈ TT := wr_2 _ (List.mem_of_getElem? (i := 17) rfl)
theorem tw_2_18 : Cond.fieldLink RX0 33 "LineCalls$Line" "won" "[I" ∈ TT := wr_2 _ (List.mem_of_getElem? (i := 18) rfl)
theorem tw_2_19 : Cond.fieldLink RX0 36 "LineCalls$Line" "lost" "[I" ∈ TT := wr_2 _ (List.mem_of_getElem? (i := 19) rfl)
theorem tw_2_20 : Cond.fieldLink RX0 39 "LineCalls$Line" "spots" "[I" ∈ TT := wr_2 _ (List.mem_of_getElem? (i := 20) rfl)
theorem tw_2_21 : Cond.fieldLink RX0 42 "LineCalls$Line" "jumpers" "I" ∈ TT := wr_2 _ (List.mem_of_getElem? (i := 21) rfl)
theorem tw_2_22 : Cond.fieldLink RX0 46 "LineCalls$Line" "wind" "I" ∈ TT := wr_2 _ (List.mem_of_getElem? (i := 22) rfl)
theorem tw_2_23 : Cond.fieldLink RX0 49 "LineCalls$Line" "wet" "I" ∈ TT := wr_2 _ (List.mem_of_getElem? (i := 23) rfl)
theorem tw_3_0 : Cond.fieldLink RX0 52 "LineCalls$Line" "code" "I" ∈ TT := wr_3 _ (List.mem_of_getElem? (i := 0) rfl)
theorem tw_3_1 : Cond.fieldLink RX0 55 "LineCalls$Line" "thrown" "I" ∈ TT := wr_3 _ (List.mem_of_getElem? (i := 1) rfl)
theorem tw_3_2 : Cond.fieldLink RX0 58 "LineCalls$Line" "metres" "I" ∈ TT := wr_3 _ (List.mem_of_getElem? (i := 2) rfl)
theorem tw_3_3 : Cond.fieldLink RX0 61 "LineCalls$Line" "z" "I" ∈ TT := wr_3 _ (List.mem_of_getElem? (i := 3) rfl)
theorem tw_3_4 : Cond.instanceMethod yX3_init ∈ TT := wr_3 _ (List.mem_of_getElem? (i := 4) rfl)
theorem tw_3_5 : Cond.code yX3_init cX3_init 1 none ∈ TT := wr_3 _ (List.mem_of_getElem? (i := 5) rfl)
theorem tw_3_6 : Cond.methodLink RX3 5 objectInit ∈ TT := wr_3 _ (List.mem_of_getElem? (i := 6) rfl)
theorem tw_3_7 : Cond.classLink RX3 11 RX2 ∈ TT := wr_3 _ (List.mem_of_getElem? (i := 7) rfl)
theorem tw_3_8 : Cond.instantiable RX2 6 ∈ TT := wr_3 _ (List.mem_of_getElem? (i := 8) rfl)
theorem tw_3_9 : Cond.initialized RX2 ∈ TT := wr_3 _ (List.mem_of_getElem? (i := 9) rfl)
theorem tw_3_10 : Cond.fieldLink RX3 14 "LineCalls$TextReader" "tape" "LLineCalls$Tape;" ∈ TT := wr_3 _ (List.mem_of_getElem? (i := 10) rfl)
theorem tw_3_11 : Cond.instanceMethod yX2_init ∈ TT := wr_3 _ (List.mem_of_getElem? (i := 11) rfl)
theorem tw_3_12 : Cond.code yX2_init cX2_init 1 none ∈ TT := wr_3 _ (List.mem_of_getElem? (i := 12) rfl)
theorem tw_3_13 : Cond.methodLink RX2 3 objectInit ∈ TT := wr_3 _ (List.mem_of_getElem? (i := 13) rfl)
theorem tw_3_14 : Cond.arrayClass .byte ∈ TT := wr_3 _ (List.mem_of_getElem? (i := 14) rfl)
theorem tw_3_15 : Cond.fieldLink RX2 9 "LineCalls$Tape" "bytes" "[B" ∈ TT := wr_3 _ (List.mem_of_getElem? (i := 15) rfl)
theorem tw_3_16 : Cond.fieldLink RX2 15 "LineCalls$Tape" "size" "I" ∈ TT := wr_3 _ (List.mem_of_getElem? (i := 16) rfl)
theorem tw_3_17 : Cond.fieldLink RX2 19 "LineCalls$Tape" "token" "I" ∈ TT := wr_3 _ (List.mem_of_getElem? (i := 17) rfl)
theorem tw_3_18 : Cond.fieldLink RX2 22 "LineCalls$Tape" "start" "I" ∈ TT := wr_3 _ (List.mem_of_getElem? (i := 18) rfl)
theorem tw_3_19 : Cond.fieldLink RX2 25 "LineCalls$Tape" "end" "I" ∈ TT := wr_3 _ (List.mem_of_getElem? (i := 19) rfl)
theorem tw_3_20 : Cond.fieldLink RX2 28 "LineCalls$Tape" "value" "I" ∈ TT := wr_3 _ (List.mem_of_getElem? (i := 20) rfl)
theorem tw_3_21 : Cond.instanceMethod yX1_init ∈ TT := wr_3 _ (List.mem_of_getElem? (i := 21) rfl)
theorem tw_3_22 : Cond.code yX1_init cX1_init 1 none ∈ TT := wr_3 _ (List.mem_of_getElem? (i := 22) rfl)
theorem tw_3_23 : Cond.methodLink RX1 3 objectInit ∈ TT := wr_3 _ (List.mem_of_getElem? (i := 23) rfl)
theorem tw_4_0 : Cond.fieldLink RX1 9 "LineCalls$Sheet" "numbers" "[I" ∈ TT := wr_4 _ (List.mem_of_getElem? (i := 0) rfl)
theorem tw_4_1 : Cond.fieldLink RX1 15 "LineCalls$Sheet" "bits" "I" ∈ TT := wr_4 _ (List.mem_of_getElem? (i := 1) rfl)
theorem tw_4_2 : Cond.fieldLink RX1 19 "LineCalls$Sheet" "size" "I" ∈ TT := wr_4 _ (List.mem_of_getElem? (i := 2) rfl)
theorem tw_4_3 : Cond.methodLink RL 12 yX5_init ∈ TT := wr_4 _ (List.mem_of_getElem? (i := 3) rfl)
theorem tw_4_4 : Cond.instanceMethod yX5_init ∈ TT := wr_4 _ (List.mem_of_getElem? (i := 4) rfl)
theorem tw_4_5 : Cond.code yX5_init cX5_init 2 none ∈ TT := wr_4 _ (List.mem_of_getElem? (i := 5) rfl)
theorem tw_4_6 : Cond.methodLink RX5 1 objectInit ∈ TT := wr_4 _ (List.mem_of_getElem? (i := 6) rfl)
theorem tw_4_7 : Cond.fieldLink RX5 9 "LineCallsModel" "now" "[I" ∈ TT := wr_4 _ (List.mem_of_getElem? (i := 7) rfl)
theorem tw_4_8 : Cond.fieldLink RX5 13 "LineCallsModel" "kept" "[I" ∈ TT := wr_4 _ (List.mem_of_getElem? (i := 8) rfl)
theorem tw_4_9 : Cond.fieldLink RX5 16 "LineCallsModel" "aside" "[I" ∈ TT := wr_4 _ (List.mem_of_getElem? (i := 9) rfl)
theorem tw_4_10 : Cond.fieldLink RX5 19 "LineCallsModel" "found" "[I" ∈ TT := wr_4 _ (List.mem_of_getElem? (i := 10) rfl)
theorem tw_4_11 : Cond.fieldLink RX5 22 "LineCallsModel" "tape" "[I" ∈ TT := wr_4 _ (List.mem_of_getElem? (i := 11) rfl)
theorem tw_4_12 : Cond.classLink RX5 25 RJ0 ∈ TT := wr_4 _ (List.mem_of_getElem? (i := 12) rfl)
theorem tw_4_13 : Cond.fieldLink RX5 41 "LineCallsModel" "kindNames" "[Ljava/lang/String;" ∈ TT := wr_4 _ (List.mem_of_getElem? (i := 13) rfl)
theorem tw_4_14 : Cond.fieldLink RX5 45 "LineCallsModel" "itemWhat" "[I" ∈ TT := wr_4 _ (List.mem_of_getElem? (i := 14) rfl)
theorem tw_4_15 : Cond.fieldLink RX5 48 "LineCallsModel" "itemA" "[I" ∈ TT := wr_4 _ (List.mem_of_getElem? (i := 15) rfl)
theorem tw_4_16 : Cond.fieldLink RX5 51 "LineCallsModel" "itemB" "[I" ∈ TT := wr_4 _ (List.mem_of_getElem? (i := 16) rfl)
theorem tw_4_17 : Cond.fieldLink RX5 54 "LineCallsModel" "widths" "[I" ∈ TT := wr_4 _ (List.mem_of_getElem? (i := 17) rfl)
theorem tw_4_18 : Cond.fieldLink RX5 57 "LineCallsModel" "sizes" "[I" ∈ TT := wr_4 _ (List.mem_of_getElem? (i := 18) rfl)
theorem tw_4_19 : Cond.fieldLink RX5 60 "LineCallsModel" "numbers" "[I" ∈ TT := wr_4 _ (List.mem_of_getElem? (i := 19) rfl)
theorem tw_4_20 : Cond.fieldLink RX5 63 "LineCallsModel" "moved" "[I" ∈ TT := wr_4 _ (List.mem_of_getElem? (i := 20) rfl)
theorem tw_4_21 : Cond.methodLink RL 13 yX4_stand ∈ TT := wr_4 _ (List.mem_of_getElem? (i := 21) rfl)
theorem tw_4_22 : Cond.instanceMethod yX4_stand ∈ TT := wr_4 _ (List.mem_of_getElem? (i := 22) rfl)
theorem tw_4_23 : Cond.selects RX4 yX4_stand yX4_stand ∈ TT := wr_4 _ (List.mem_of_getElem? (i := 23) rfl)
theorem tw_5_0 : Cond.code yX4_stand cX4_stand 4 (some .int) ∈ TT := wr_5 _ (List.mem_of_getElem? (i := 0) rfl)
theorem tw_5_1 : Cond.fieldLink RX4 60 "LineCalls$Line" "standing" "[I" ∈ TT := wr_5 _ (List.mem_of_getElem? (i := 1) rfl)
theorem tw_5_2 : Cond.methodLink RX4 49 yX4_isPlace ∈ TT := wr_5 _ (List.mem_of_getElem? (i := 2) rfl)
theorem tw_5_3 : Cond.static yX4_isPlace ∈ TT := wr_5 _ (List.mem_of_getElem? (i := 3) rfl)
theorem tw_5_4 : Cond.code yX4_isPlace cX4_isPlace 1 (some .boolean) ∈ TT := wr_5 _ (List.mem_of_getElem? (i := 4) rfl)
theorem tw_5_5 : Cond.methodLink RX4 76 yX4_within ∈ TT := wr_5 _ (List.mem_of_getElem? (i := 5) rfl)
theorem tw_5_6 : Cond.static yX4_within ∈ TT := wr_5 _ (List.mem_of_getElem? (i := 6) rfl)
theorem tw_5_7 : Cond.code yX4_within cX4_within 3 (some .boolean) ∈ TT := wr_5 _ (List.mem_of_getElem? (i := 7) rfl)
theorem tw_5_8 : Cond.methodLink RX4 53 yX4_isJumperOrNobody ∈ TT := wr_5 _ (List.mem_of_getElem? (i := 8) rfl)
theorem tw_5_9 : Cond.instanceMethod yX4_isJumperOrNobody ∈ TT := wr_5 _ (List.mem_of_getElem? (i := 9) rfl)
theorem tw_5_10 : Cond.selects RX4 yX4_isJumperOrNobody yX4_isJumperOrNobody ∈ TT := wr_5 _ (List.mem_of_getElem? (i := 10) rfl)
theorem tw_5_11 : Cond.code yX4_isJumperOrNobody cX4_isJumperOrNobody 2 (some .boolean) ∈ TT := wr_5 _ (List.mem_of_getElem? (i := 11) rfl)
theorem tw_5_12 : Cond.methodLink RX4 100 yX4_isJumper ∈ TT := wr_5 _ (List.mem_of_getElem? (i := 12) rfl)
theorem tw_5_13 : Cond.instanceMethod yX4_isJumper ∈ TT := wr_5 _ (List.mem_of_getElem? (i := 13) rfl)
theorem tw_5_14 : Cond.selects RX4 yX4_isJumper yX4_isJumper ∈ TT := wr_5 _ (List.mem_of_getElem? (i := 14) rfl)
theorem tw_5_15 : Cond.code yX4_isJumper cX4_isJumper 2 (some .boolean) ∈ TT := wr_5 _ (List.mem_of_getElem? (i := 15) rfl)
theorem tw_5_16 : Cond.fieldLink RX4 93 "LineCalls$Line" "jumpers" "I" ∈ TT := wr_5 _ (List.mem_of_getElem? (i := 16) rfl)
theorem tw_5_17 : Cond.methodLink RX4 56 yX4_finding ∈ TT := wr_5 _ (List.mem_of_getElem? (i := 17) rfl)
theorem tw_5_18 : Cond.instanceMethod yX4_finding ∈ TT := wr_5 _ (List.mem_of_getElem? (i := 18) rfl)
theorem tw_5_19 : Cond.selects RX4 yX4_finding yX4_finding ∈ TT := wr_5 _ (List.mem_of_getElem? (i := 19) rfl)
theorem tw_5_20 : Cond.code yX4_finding cX4_finding 2 (some .int) ∈ TT := wr_5 _ (List.mem_of_getElem? (i := 20) rfl)
theorem tw_5_21 : Cond.constant RX4 254 (-1000001) ∈ TT := wr_5 _ (List.mem_of_getElem? (i := 21) rfl)
theorem tw_5_22 : Cond.methodLink RX4 63 yX0_leave ∈ TT := wr_5 _ (List.mem_of_getElem? (i := 22) rfl)
theorem tw_5_23 : Cond.instanceMethod yX0_leave ∈ TT := wr_5 _ (List.mem_of_getElem? (i := 23) rfl)
theorem tw_6_0 : Cond.selects RX0 yX0_leave yX0_leave ∈ TT := wr_6 _ (List.mem_of_getElem? (i := 0) rfl)
theorem tw_6_1 : Cond.code yX0_leave cX0_leave 3 none ∈ TT := wr_6 _ (List.mem_of_getElem? (i := 1) rfl)
theorem tw_6_2 : Cond.methodLink RL 17 yX5_stand ∈ TT := wr_6 _ (List.mem_of_getElem? (i := 2) rfl)
theorem tw_6_3 : Cond.instanceMethod yX5_stand ∈ TT := wr_6 _ (List.mem_of_getElem? (i := 3) rfl)
theorem tw_6_4 : Cond.selects RX5 yX5_stand yX5_stand ∈ TT := wr_6 _ (List.mem_of_getElem? (i := 4) rfl)
theorem tw_6_5 : Cond.code yX5_stand cX5_stand 3 (some .int) ∈ TT := wr_6 _ (List.mem_of_getElem? (i := 5) rfl)
theorem tw_6_6 : Cond.constant RX5 66 (-1000001) ∈ TT := wr_6 _ (List.mem_of_getElem? (i := 6) rfl)
theorem tw_6_7 : Cond.methodLink RX5 83 yX5_isPlace ∈ TT := wr_6 _ (List.mem_of_getElem? (i := 7) rfl)
theorem tw_6_8 : Cond.static yX5_isPlace ∈ TT := wr_6 _ (List.mem_of_getElem? (i := 8) rfl)
theorem tw_6_9 : Cond.code yX5_isPlace cX5_isPlace 1 (some .boolean) ∈ TT := wr_6 _ (List.mem_of_getElem? (i := 9) rfl)
theorem tw_6_10 : Cond.methodLink RX5 76 yX5_within ∈ TT := wr_6 _ (List.mem_of_getElem? (i := 10) rfl)
theorem tw_6_11 : Cond.static yX5_within ∈ TT := wr_6 _ (List.mem_of_getElem? (i := 11) rfl)
theorem tw_6_12 : Cond.code yX5_within cX5_within 3 (some .boolean) ∈ TT := wr_6 _ (List.mem_of_getElem? (i := 12) rfl)
theorem tw_6_13 : Cond.methodLink RX5 87 yX5_isJumper ∈ TT := wr_6 _ (List.mem_of_getElem? (i := 13) rfl)
theorem tw_6_14 : Cond.instanceMethod yX5_isJumper ∈ TT := wr_6 _ (List.mem_of_getElem? (i := 14) rfl)
theorem tw_6_15 : Cond.selects RX5 yX5_isJumper yX5_isJumper ∈ TT := wr_6 _ (List.mem_of_getElem? (i := 15) rfl)
theorem tw_6_16 : Cond.code yX5_isJumper cX5_isJumper 2 (some .boolean) ∈ TT := wr_6 _ (List.mem_of_getElem? (i := 16) rfl)
theorem tw_6_17 : Cond.methodLink RX5 90 yX5_stands ∈ TT := wr_6 _ (List.mem_of_getElem? (i := 17) rfl)
theorem tw_6_18 : Cond.instanceMethod yX5_stands ∈ TT := wr_6 _ (List.mem_of_getElem? (i := 18) rfl)
theorem tw_6_19 : Cond.selects RX5 yX5_stands yX5_stands ∈ TT := wr_6 _ (List.mem_of_getElem? (i := 19) rfl)
theorem tw_6_20 : Cond.code yX5_stands cX5_stands 5 (some .int) ∈ TT := wr_6 _ (List.mem_of_getElem? (i := 20) rfl)
theorem tw_6_21 : Cond.methodLink RX5 80 yX5_placeOf ∈ TT := wr_6 _ (List.mem_of_getElem? (i := 21) rfl)
theorem tw_6_22 : Cond.instanceMethod yX5_placeOf ∈ TT := wr_6 _ (List.mem_of_getElem? (i := 22) rfl)
theorem tw_6_23 : Cond.selects RX5 yX5_placeOf yX5_placeOf ∈ TT := wr_6 _ (List.mem_of_getElem? (i := 23) rfl)
theorem tw_7_0 : Cond.code yX5_placeOf cX5_placeOf 4 (some .int) ∈ TT := wr_7 _ (List.mem_of_getElem? (i := 0) rfl)
theorem tw_7_1 : Cond.methodLink RX5 72 yX5_finding ∈ TT := wr_7 _ (List.mem_of_getElem? (i := 1) rfl)
theorem tw_7_2 : Cond.instanceMethod yX5_finding ∈ TT := wr_7 _ (List.mem_of_getElem? (i := 2) rfl)
theorem tw_7_3 : Cond.selects RX5 yX5_finding yX5_finding ∈ TT := wr_7 _ (List.mem_of_getElem? (i := 3) rfl)
theorem tw_7_4 : Cond.code yX5_finding cX5_finding 2 (some .int) ∈ TT := wr_7 _ (List.mem_of_getElem? (i := 4) rfl)
theorem tw_7_5 : Cond.methodLink RL 18 yX4_place ∈ TT := wr_7 _ (List.mem_of_getElem? (i := 5) rfl)
theorem tw_7_6 : Cond.instanceMethod yX4_place ∈ TT := wr_7 _ (List.mem_of_getElem? (i := 6) rfl)
theorem tw_7_7 : Cond.selects RX4 yX4_place yX4_place ∈ TT := wr_7 _ (List.mem_of_getElem? (i := 7) rfl)
theorem tw_7_8 : Cond.code yX4_place cX4_place 3 (some .int) ∈ TT := wr_7 _ (List.mem_of_getElem? (i := 8) rfl)
theorem tw_7_9 : Cond.fieldLink RX4 67 "LineCalls$Line" "theirHigh" "[I" ∈ TT := wr_7 _ (List.mem_of_getElem? (i := 9) rfl)
theorem tw_7_10 : Cond.fieldLink RX4 70 "LineCalls$Line" "theirRead" "[I" ∈ TT := wr_7 _ (List.mem_of_getElem? (i := 10) rfl)
theorem tw_7_11 : Cond.methodLink RX4 73 yX0_forceIn ∈ TT := wr_7 _ (List.mem_of_getElem? (i := 11) rfl)
theorem tw_7_12 : Cond.instanceMethod yX0_forceIn ∈ TT := wr_7 _ (List.mem_of_getElem? (i := 12) rfl)
theorem tw_7_13 : Cond.selects RX0 yX0_forceIn yX0_forceIn ∈ TT := wr_7 _ (List.mem_of_getElem? (i := 13) rfl)
theorem tw_7_14 : Cond.code yX0_forceIn cX0_forceIn 2 (some .int) ∈ TT := wr_7 _ (List.mem_of_getElem? (i := 14) rfl)
theorem tw_7_15 : Cond.methodLink RL 21 yX5_place ∈ TT := wr_7 _ (List.mem_of_getElem? (i := 15) rfl)
theorem tw_7_16 : Cond.instanceMethod yX5_place ∈ TT := wr_7 _ (List.mem_of_getElem? (i := 16) rfl)
theorem tw_7_17 : Cond.selects RX5 yX5_place yX5_place ∈ TT := wr_7 _ (List.mem_of_getElem? (i := 17) rfl)
theorem tw_7_18 : Cond.code yX5_place cX5_place 3 (some .int) ∈ TT := wr_7 _ (List.mem_of_getElem? (i := 18) rfl)
theorem tw_7_19 : Cond.methodLink RX5 94 yX5_force ∈ TT := wr_7 _ (List.mem_of_getElem? (i := 19) rfl)
theorem tw_7_20 : Cond.instanceMethod yX5_force ∈ TT := wr_7 _ (List.mem_of_getElem? (i := 20) rfl)
theorem tw_7_21 : Cond.selects RX5 yX5_force yX5_force ∈ TT := wr_7 _ (List.mem_of_getElem? (i := 21) rfl)
theorem tw_7_22 : Cond.code yX5_force cX5_force 2 (some .int) ∈ TT := wr_7 _ (List.mem_of_getElem? (i := 22) rfl)
theorem tw_7_23 : Cond.methodLink RL 22 yX4_theirs ∈ TT := wr_7 _ (List.mem_of_getElem? (i := 23) rfl)
theorem tw_8_0 : Cond.instanceMethod yX4_theirs ∈ TT := wr_8 _ (List.mem_of_getElem? (i := 0) rfl)
theorem tw_8_1 : Cond.selects RX4 yX4_theirs yX4_theirs ∈ TT := wr_8 _ (List.mem_of_getElem? (i := 1) rfl)
theorem tw_8_2 : Cond.code yX4_theirs cX4_theirs 6 (some .int) ∈ TT := wr_8 _ (List.mem_of_getElem? (i := 2) rfl)
theorem tw_8_3 : Cond.methodLink RL 26 yX5_theirs ∈ TT := wr_8 _ (List.mem_of_getElem? (i := 3) rfl)
theorem tw_8_4 : Cond.instanceMethod yX5_theirs ∈ TT := wr_8 _ (List.mem_of_getElem? (i := 4) rfl)
theorem tw_8_5 : Cond.selects RX5 yX5_theirs yX5_theirs ∈ TT := wr_8 _ (List.mem_of_getElem? (i := 5) rfl)
theorem tw_8_6 : Cond.code yX5_theirs cX5_theirs 4 (some .int) ∈ TT := wr_8 _ (List.mem_of_getElem? (i := 6) rfl)
theorem tw_8_7 : Cond.methodLink RX5 97 yX5_become ∈ TT := wr_8 _ (List.mem_of_getElem? (i := 7) rfl)
theorem tw_8_8 : Cond.instanceMethod yX5_become ∈ TT := wr_8 _ (List.mem_of_getElem? (i := 8) rfl)
theorem tw_8_9 : Cond.selects RX5 yX5_become yX5_become ∈ TT := wr_8 _ (List.mem_of_getElem? (i := 9) rfl)
theorem tw_8_10 : Cond.code yX5_become cX5_become 4 (some .int) ∈ TT := wr_8 _ (List.mem_of_getElem? (i := 10) rfl)
theorem tw_8_11 : Cond.methodLink RL 27 yX4_set ∈ TT := wr_8 _ (List.mem_of_getElem? (i := 11) rfl)
theorem tw_8_12 : Cond.instanceMethod yX4_set ∈ TT := wr_8 _ (List.mem_of_getElem? (i := 12) rfl)
theorem tw_8_13 : Cond.selects RX4 yX4_set yX4_set ∈ TT := wr_8 _ (List.mem_of_getElem? (i := 13) rfl)
theorem tw_8_14 : Cond.code yX4_set cX4_set 3 (some .int) ∈ TT := wr_8 _ (List.mem_of_getElem? (i := 14) rfl)
theorem tw_8_15 : Cond.methodLink RX4 80 yX4_mostOfSetting ∈ TT := wr_8 _ (List.mem_of_getElem? (i := 15) rfl)
theorem tw_8_16 : Cond.static yX4_mostOfSetting ∈ TT := wr_8 _ (List.mem_of_getElem? (i := 16) rfl)
theorem tw_8_17 : Cond.code yX4_mostOfSetting cX4_mostOfSetting 1 (some .int) ∈ TT := wr_8 _ (List.mem_of_getElem? (i := 17) rfl)
theorem tw_8_18 : Cond.methodLink RX4 83 yX0_putSetting ∈ TT := wr_8 _ (List.mem_of_getElem? (i := 18) rfl)
theorem tw_8_19 : Cond.instanceMethod yX0_putSetting ∈ TT := wr_8 _ (List.mem_of_getElem? (i := 19) rfl)
theorem tw_8_20 : Cond.selects RX0 yX0_putSetting yX0_putSetting ∈ TT := wr_8 _ (List.mem_of_getElem? (i := 20) rfl)
theorem tw_8_21 : Cond.code yX0_putSetting cX0_putSetting 4 (some .int) ∈ TT := wr_8 _ (List.mem_of_getElem? (i := 21) rfl)
theorem tw_8_22 : Cond.methodLink RL 30 yX5_set ∈ TT := wr_8 _ (List.mem_of_getElem? (i := 22) rfl)
theorem tw_8_23 : Cond.instanceMethod yX5_set ∈ TT := wr_8 _ (List.mem_of_getElem? (i := 23) rfl)
theorem tw_9_0 : Cond.selects RX5 yX5_set yX5_set ∈ TT := wr_9 _ (List.mem_of_getElem? (i := 0) rfl)
theorem tw_9_1 : Cond.code yX5_set cX5_set 3 (some .int) ∈ TT := wr_9 _ (List.mem_of_getElem? (i := 1) rfl)
theorem tw_9_2 : Cond.methodLink RL 31 yX4_call ∈ TT := wr_9 _ (List.mem_of_getElem? (i := 2) rfl)
theorem tw_9_3 : Cond.instanceMethod yX4_call ∈ TT := wr_9 _ (List.mem_of_getElem? (i := 3) rfl)
theorem tw_9_4 : Cond.selects RX4 yX4_call yX4_call ∈ TT := wr_9 _ (List.mem_of_getElem? (i := 4) rfl)
theorem tw_9_5 : Cond.code yX4_call cX4_call 4 (some .int) ∈ TT := wr_9 _ (List.mem_of_getElem? (i := 5) rfl)
theorem tw_9_6 : Cond.fieldLink RX4 87 "LineCalls$Line" "list" "[I" ∈ TT := wr_9 _ (List.mem_of_getElem? (i := 6) rfl)
theorem tw_9_7 : Cond.methodLink RL 34 yX5_call ∈ TT := wr_9 _ (List.mem_of_getElem? (i := 7) rfl)
theorem tw_9_8 : Cond.instanceMethod yX5_call ∈ TT := wr_9 _ (List.mem_of_getElem? (i := 8) rfl)
theorem tw_9_9 : Cond.selects RX5 yX5_call yX5_call ∈ TT := wr_9 _ (List.mem_of_getElem? (i := 9) rfl)
theorem tw_9_10 : Cond.code yX5_call cX5_call 3 (some .int) ∈ TT := wr_9 _ (List.mem_of_getElem? (i := 10) rfl)
theorem tw_9_11 : Cond.methodLink RX5 100 yX5_isCall ∈ TT := wr_9 _ (List.mem_of_getElem? (i := 11) rfl)
theorem tw_9_12 : Cond.static yX5_isCall ∈ TT := wr_9 _ (List.mem_of_getElem? (i := 12) rfl)
theorem tw_9_13 : Cond.code yX5_isCall cX5_isCall 1 (some .boolean) ∈ TT := wr_9 _ (List.mem_of_getElem? (i := 13) rfl)
theorem tw_9_14 : Cond.methodLink RL 35 yX4_listed ∈ TT := wr_9 _ (List.mem_of_getElem? (i := 14) rfl)
theorem tw_9_15 : Cond.instanceMethod yX4_listed ∈ TT := wr_9 _ (List.mem_of_getElem? (i := 15) rfl)
theorem tw_9_16 : Cond.selects RX4 yX4_listed yX4_listed ∈ TT := wr_9 _ (List.mem_of_getElem? (i := 16) rfl)
theorem tw_9_17 : Cond.code yX4_listed cX4_listed 2 (some .int) ∈ TT := wr_9 _ (List.mem_of_getElem? (i := 17) rfl)
theorem tw_9_18 : Cond.methodLink RL 39 yX5_listed ∈ TT := wr_9 _ (List.mem_of_getElem? (i := 18) rfl)
theorem tw_9_19 : Cond.instanceMethod yX5_listed ∈ TT := wr_9 _ (List.mem_of_getElem? (i := 19) rfl)
theorem tw_9_20 : Cond.selects RX5 yX5_listed yX5_listed ∈ TT := wr_9 _ (List.mem_of_getElem? (i := 20) rfl)
theorem tw_9_21 : Cond.code yX5_listed cX5_listed 2 (some .int) ∈ TT := wr_9 _ (List.mem_of_getElem? (i := 21) rfl)
theorem tw_9_22 : Cond.methodLink RL 40 yX4_says ∈ TT := wr_9 _ (List.mem_of_getElem? (i := 22) rfl)
theorem tw_9_23 : Cond.instanceMethod yX4_says ∈ TT := wr_9 _ (List.mem_of_getElem? (i := 23) rfl)
theorem tw_10_0 : Cond.selects RX4 yX4_says yX4_says ∈ TT := wr_10 _ (List.mem_of_getElem? (i := 0) rfl)
theorem tw_10_1 : Cond.code yX4_says cX4_says 3 (some .int) ∈ TT := wr_10 _ (List.mem_of_getElem? (i := 1) rfl)
theorem tw_10_2 : Cond.methodLink RX4 90 yX4_placeSaid ∈ TT := wr_10 _ (List.mem_of_getElem? (i := 2) rfl)
theorem tw_10_3 : Cond.static yX4_placeSaid ∈ TT := wr_10 _ (List.mem_of_getElem? (i := 3) rfl)
theorem tw_10_4 : Cond.code yX4_placeSaid cX4_placeSaid 5 (some .int) ∈ TT := wr_10 _ (List.mem_of_getElem? (i := 4) rfl)
theorem tw_10_5 : Cond.methodLink RX4 258 yJ6_bitCount_0f7a4 ∈ TT := wr_10 _ (List.mem_of_getElem? (i := 5) rfl)
theorem tw_10_6 : Cond.static yJ6_bitCount_0f7a4 ∈ TT := wr_10 _ (List.mem_of_getElem? (i := 6) rfl)
theorem tw_10_7 : Cond.initialized RJ6 ∈ TT := wr_10 _ (List.mem_of_getElem? (i := 7) rfl)
theorem tw_10_8 : Cond.code yJ6_bitCount_0f7a4 cJ6_bitCount_0f7a4 1 (some .int) ∈ TT := wr_10 _ (List.mem_of_getElem? (i := 8) rfl)
theorem tw_10_9 : Cond.constant RJ6 265 (1431655765) ∈ TT := wr_10 _ (List.mem_of_getElem? (i := 9) rfl)
theorem tw_10_10 : Cond.constant RJ6 266 (858993459) ∈ TT := wr_10 _ (List.mem_of_getElem? (i := 10) rfl)
theorem tw_10_11 : Cond.constant RJ6 267 (252645135) ∈ TT := wr_10 _ (List.mem_of_getElem? (i := 11) rfl)
theorem tw_10_12 : Cond.methodLink RL 43 yX5_says ∈ TT := wr_10 _ (List.mem_of_getElem? (i := 12) rfl)
theorem tw_10_13 : Cond.instanceMethod yX5_says ∈ TT := wr_10 _ (List.mem_of_getElem? (i := 13) rfl)
theorem tw_10_14 : Cond.selects RX5 yX5_says yX5_says ∈ TT := wr_10 _ (List.mem_of_getElem? (i := 14) rfl)
theorem tw_10_15 : Cond.code yX5_says cX5_says 3 (some .int) ∈ TT := wr_10 _ (List.mem_of_getElem? (i := 15) rfl)
theorem tw_10_16 : Cond.methodLink RX5 106 yX5_saysBy ∈ TT := wr_10 _ (List.mem_of_getElem? (i := 16) rfl)
theorem tw_10_17 : Cond.static yX5_saysBy ∈ TT := wr_10 _ (List.mem_of_getElem? (i := 17) rfl)
theorem tw_10_18 : Cond.code yX5_saysBy cX5_saysBy 4 (some .int) ∈ TT := wr_10 _ (List.mem_of_getElem? (i := 18) rfl)
theorem tw_10_19 : Cond.methodLink RX5 103 yX5_bits ∈ TT := wr_10 _ (List.mem_of_getElem? (i := 19) rfl)
theorem tw_10_20 : Cond.static yX5_bits ∈ TT := wr_10 _ (List.mem_of_getElem? (i := 20) rfl)
theorem tw_10_21 : Cond.code yX5_bits cX5_bits 3 (some .int) ∈ TT := wr_10 _ (List.mem_of_getElem? (i := 21) rfl)
theorem tw_10_22 : Cond.methodLink RL 44 yX4_jumper ∈ TT := wr_10 _ (List.mem_of_getElem? (i := 22) rfl)
theorem tw_10_23 : Cond.instanceMethod yX4_jumper ∈ TT := wr_10 _ (List.mem_of_getElem? (i := 23) rfl)
theorem tw_11_0 : Cond.selects RX4 yX4_jumper yX4_jumper ∈ TT := wr_11 _ (List.mem_of_getElem? (i := 0) rfl)
theorem tw_11_1 : Cond.code yX4_jumper cX4_jumper 3 (some .int) ∈ TT := wr_11 _ (List.mem_of_getElem? (i := 1) rfl)
theorem tw_11_2 : Cond.methodLink RX4 97 yX0_join ∈ TT := wr_11 _ (List.mem_of_getElem? (i := 2) rfl)
theorem tw_11_3 : Cond.instanceMethod yX0_join ∈ TT := wr_11 _ (List.mem_of_getElem? (i := 3) rfl)
theorem tw_11_4 : Cond.selects RX0 yX0_join yX0_join ∈ TT := wr_11 _ (List.mem_of_getElem? (i := 4) rfl)
theorem tw_11_5 : Cond.code yX0_join cX0_join 4 (some .int) ∈ TT := wr_11 _ (List.mem_of_getElem? (i := 5) rfl)
theorem tw_11_6 : Cond.methodLink RL 47 yX5_jumper ∈ TT := wr_11 _ (List.mem_of_getElem? (i := 6) rfl)
theorem tw_11_7 : Cond.instanceMethod yX5_jumper ∈ TT := wr_11 _ (List.mem_of_getElem? (i := 7) rfl)
theorem tw_11_8 : Cond.selects RX5 yX5_jumper yX5_jumper ∈ TT := wr_11 _ (List.mem_of_getElem? (i := 8) rfl)
theorem tw_11_9 : Cond.code yX5_jumper cX5_jumper 3 (some .int) ∈ TT := wr_11 _ (List.mem_of_getElem? (i := 9) rfl)
theorem tw_11_10 : Cond.constant RX5 115 (-1000002) ∈ TT := wr_11 _ (List.mem_of_getElem? (i := 10) rfl)
theorem tw_11_11 : Cond.methodLink RX5 112 yX5_isKind ∈ TT := wr_11 _ (List.mem_of_getElem? (i := 11) rfl)
theorem tw_11_12 : Cond.static yX5_isKind ∈ TT := wr_11 _ (List.mem_of_getElem? (i := 12) rfl)
theorem tw_11_13 : Cond.code yX5_isKind cX5_isKind 1 (some .boolean) ∈ TT := wr_11 _ (List.mem_of_getElem? (i := 13) rfl)
theorem tw_11_14 : Cond.methodLink RX5 116 yX5_comes ∈ TT := wr_11 _ (List.mem_of_getElem? (i := 14) rfl)
theorem tw_11_15 : Cond.instanceMethod yX5_comes ∈ TT := wr_11 _ (List.mem_of_getElem? (i := 15) rfl)
theorem tw_11_16 : Cond.selects RX5 yX5_comes yX5_comes ∈ TT := wr_11 _ (List.mem_of_getElem? (i := 16) rfl)
theorem tw_11_17 : Cond.code yX5_comes cX5_comes 5 (some .int) ∈ TT := wr_11 _ (List.mem_of_getElem? (i := 17) rfl)
theorem tw_11_18 : Cond.methodLink RX5 109 yX5_jumperAt ∈ TT := wr_11 _ (List.mem_of_getElem? (i := 18) rfl)
theorem tw_11_19 : Cond.static yX5_jumperAt ∈ TT := wr_11 _ (List.mem_of_getElem? (i := 19) rfl)
theorem tw_11_20 : Cond.code yX5_jumperAt cX5_jumperAt 2 (some .int) ∈ TT := wr_11 _ (List.mem_of_getElem? (i := 20) rfl)
theorem tw_11_21 : Cond.methodLink RL 48 yX4_of ∈ TT := wr_11 _ (List.mem_of_getElem? (i := 21) rfl)
theorem tw_11_22 : Cond.instanceMethod yX4_of ∈ TT := wr_11 _ (List.mem_of_getElem? (i := 22) rfl)
theorem tw_11_23 : Cond.selects RX4 yX4_of yX4_of ∈ TT := wr_11 _ (List.mem_of_getElem? (i := 23) rfl)
theorem tw_12_0 : Cond.code yX4_of cX4_of 3 (some .int) ∈ TT := wr_12 _ (List.mem_of_getElem? (i := 0) rfl)
theorem tw_12_1 : Cond.methodLink RX4 103 yX0_highOf ∈ TT := wr_12 _ (List.mem_of_getElem? (i := 1) rfl)
theorem tw_12_2 : Cond.instanceMethod yX0_highOf ∈ TT := wr_12 _ (List.mem_of_getElem? (i := 2) rfl)
theorem tw_12_3 : Cond.selects RX0 yX0_highOf yX0_highOf ∈ TT := wr_12 _ (List.mem_of_getElem? (i := 3) rfl)
theorem tw_12_4 : Cond.code yX0_highOf cX0_highOf 3 (some .int) ∈ TT := wr_12 _ (List.mem_of_getElem? (i := 4) rfl)
theorem tw_12_5 : Cond.methodLink RX0 74 Lib.Math.max.name ∈ TT := wr_12 _ (List.mem_of_getElem? (i := 5) rfl)
theorem tw_12_6 : Cond.static Lib.Math.max.name ∈ TT := wr_12 _ (List.mem_of_getElem? (i := 6) rfl)
theorem tw_12_7 : Cond.initialized "java/lang/Math" ∈ TT := wr_12 _ (List.mem_of_getElem? (i := 7) rfl)
theorem tw_12_8 : Cond.code Lib.Math.max.name Lib.Math.max.code 2 (some .int) ∈ TT := wr_12 _ (List.mem_of_getElem? (i := 8) rfl)
theorem tw_12_9 : Cond.methodLink RX4 106 yX0_tiringOf ∈ TT := wr_12 _ (List.mem_of_getElem? (i := 9) rfl)
theorem tw_12_10 : Cond.instanceMethod yX0_tiringOf ∈ TT := wr_12 _ (List.mem_of_getElem? (i := 10) rfl)
theorem tw_12_11 : Cond.selects RX0 yX0_tiringOf yX0_tiringOf ∈ TT := wr_12 _ (List.mem_of_getElem? (i := 11) rfl)
theorem tw_12_12 : Cond.code yX0_tiringOf cX0_tiringOf 2 (some .int) ∈ TT := wr_12 _ (List.mem_of_getElem? (i := 12) rfl)
theorem tw_12_13 : Cond.methodLink RX4 109 yX0_whereIs ∈ TT := wr_12 _ (List.mem_of_getElem? (i := 13) rfl)
theorem tw_12_14 : Cond.instanceMethod yX0_whereIs ∈ TT := wr_12 _ (List.mem_of_getElem? (i := 14) rfl)
theorem tw_12_15 : Cond.selects RX0 yX0_whereIs yX0_whereIs ∈ TT := wr_12 _ (List.mem_of_getElem? (i := 15) rfl)
theorem tw_12_16 : Cond.code yX0_whereIs cX0_whereIs 3 (some .int) ∈ TT := wr_12 _ (List.mem_of_getElem? (i := 16) rfl)
theorem tw_12_17 : Cond.methodLink RX4 112 yX0_rowOf ∈ TT := wr_12 _ (List.mem_of_getElem? (i := 17) rfl)
theorem tw_12_18 : Cond.instanceMethod yX0_rowOf ∈ TT := wr_12 _ (List.mem_of_getElem? (i := 18) rfl)
theorem tw_12_19 : Cond.selects RX0 yX0_rowOf yX0_rowOf ∈ TT := wr_12 _ (List.mem_of_getElem? (i := 19) rfl)
theorem tw_12_20 : Cond.code yX0_rowOf cX0_rowOf 2 (some (.array .int)) ∈ TT := wr_12 _ (List.mem_of_getElem? (i := 20) rfl)
theorem tw_12_21 : Cond.methodLink RL 51 yX5_of ∈ TT := wr_12 _ (List.mem_of_getElem? (i := 21) rfl)
theorem tw_12_22 : Cond.instanceMethod yX5_of ∈ TT := wr_12 _ (List.mem_of_getElem? (i := 22) rfl)
theorem tw_12_23 : Cond.selects RX5 yX5_of yX5_of ∈ TT := wr_12 _ (List.mem_of_getElem? (i := 23) rfl)
theorem tw_13_0 : Cond.code yX5_of cX5_of 3 (some .int) ∈ TT := wr_13 _ (List.mem_of_getElem? (i := 0) rfl)
theorem tw_13_1 : Cond.methodLink RX5 119 yX5_jumperIs ∈ TT := wr_13 _ (List.mem_of_getElem? (i := 1) rfl)
theorem tw_13_2 : Cond.instanceMethod yX5_jumperIs ∈ TT := wr_13 _ (List.mem_of_getElem? (i := 2) rfl)
theorem tw_13_3 : Cond.selects RX5 yX5_jumperIs yX5_jumperIs ∈ TT := wr_13 _ (List.mem_of_getElem? (i := 3) rfl)
theorem tw_13_4 : Cond.code yX5_jumperIs cX5_jumperIs 3 (some .int) ∈ TT := wr_13 _ (List.mem_of_getElem? (i := 4) rfl)
theorem tw_13_5 : Cond.methodLink RX5 127 yX5_high ∈ TT := wr_13 _ (List.mem_of_getElem? (i := 5) rfl)
theorem tw_13_6 : Cond.instanceMethod yX5_high ∈ TT := wr_13 _ (List.mem_of_getElem? (i := 6) rfl)
theorem tw_13_7 : Cond.selects RX5 yX5_high yX5_high ∈ TT := wr_13 _ (List.mem_of_getElem? (i := 7) rfl)
theorem tw_13_8 : Cond.code yX5_high cX5_high 4 (some .int) ∈ TT := wr_13 _ (List.mem_of_getElem? (i := 8) rfl)
theorem tw_13_9 : Cond.methodLink RX5 122 Lib.Math.max.name ∈ TT := wr_13 _ (List.mem_of_getElem? (i := 9) rfl)
theorem tw_13_10 : Cond.methodLink RX5 130 yX5_tires ∈ TT := wr_13 _ (List.mem_of_getElem? (i := 10) rfl)
theorem tw_13_11 : Cond.instanceMethod yX5_tires ∈ TT := wr_13 _ (List.mem_of_getElem? (i := 11) rfl)
theorem tw_13_12 : Cond.selects RX5 yX5_tires yX5_tires ∈ TT := wr_13 _ (List.mem_of_getElem? (i := 12) rfl)
theorem tw_13_13 : Cond.code yX5_tires cX5_tires 2 (some .int) ∈ TT := wr_13 _ (List.mem_of_getElem? (i := 13) rfl)
theorem tw_13_14 : Cond.methodLink RL 52 yX4_change ∈ TT := wr_13 _ (List.mem_of_getElem? (i := 14) rfl)
theorem tw_13_15 : Cond.instanceMethod yX4_change ∈ TT := wr_13 _ (List.mem_of_getElem? (i := 15) rfl)
theorem tw_13_16 : Cond.selects RX4 yX4_change yX4_change ∈ TT := wr_13 _ (List.mem_of_getElem? (i := 16) rfl)
theorem tw_13_17 : Cond.code yX4_change cX4_change 6 (some .int) ∈ TT := wr_13 _ (List.mem_of_getElem? (i := 17) rfl)
theorem tw_13_18 : Cond.methodLink RX4 116 yX4_mostOf ∈ TT := wr_13 _ (List.mem_of_getElem? (i := 18) rfl)
theorem tw_13_19 : Cond.static yX4_mostOf ∈ TT := wr_13 _ (List.mem_of_getElem? (i := 19) rfl)
theorem tw_13_20 : Cond.code yX4_mostOf cX4_mostOf 1 (some .int) ∈ TT := wr_13 _ (List.mem_of_getElem? (i := 20) rfl)
theorem tw_13_21 : Cond.methodLink RL 55 yX5_change ∈ TT := wr_13 _ (List.mem_of_getElem? (i := 21) rfl)
theorem tw_13_22 : Cond.instanceMethod yX5_change ∈ TT := wr_13 _ (List.mem_of_getElem? (i := 22) rfl)
theorem tw_13_23 : Cond.selects RX5 yX5_change yX5_change ∈ TT := wr_13 _ (List.mem_of_getElem? (i := 23) rfl)
theorem tw_14_0 : Cond.code yX5_change cX5_change 4 (some .int) ∈ TT := wr_14 _ (List.mem_of_getElem? (i := 0) rfl)
theorem tw_14_1 : Cond.methodLink RX5 133 yX5_isField ∈ TT := wr_14 _ (List.mem_of_getElem? (i := 1) rfl)
theorem tw_14_2 : Cond.static yX5_isField ∈ TT := wr_14 _ (List.mem_of_getElem? (i := 2) rfl)
theorem tw_14_3 : Cond.code yX5_isField cX5_isField 2 (some .boolean) ∈ TT := wr_14 _ (List.mem_of_getElem? (i := 3) rfl)
theorem tw_14_4 : Cond.methodLink RL 56 yX4_gains ∈ TT := wr_14 _ (List.mem_of_getElem? (i := 4) rfl)
theorem tw_14_5 : Cond.instanceMethod yX4_gains ∈ TT := wr_14 _ (List.mem_of_getElem? (i := 5) rfl)
theorem tw_14_6 : Cond.selects RX4 yX4_gains yX4_gains ∈ TT := wr_14 _ (List.mem_of_getElem? (i := 6) rfl)
theorem tw_14_7 : Cond.code yX4_gains cX4_gains 3 (some .int) ∈ TT := wr_14 _ (List.mem_of_getElem? (i := 7) rfl)
theorem tw_14_8 : Cond.methodLink RX4 119 yX0_gainOf ∈ TT := wr_14 _ (List.mem_of_getElem? (i := 8) rfl)
theorem tw_14_9 : Cond.instanceMethod yX0_gainOf ∈ TT := wr_14 _ (List.mem_of_getElem? (i := 9) rfl)
theorem tw_14_10 : Cond.selects RX0 yX0_gainOf yX0_gainOf ∈ TT := wr_14 _ (List.mem_of_getElem? (i := 10) rfl)
theorem tw_14_11 : Cond.code yX0_gainOf cX0_gainOf 3 (some .int) ∈ TT := wr_14 _ (List.mem_of_getElem? (i := 11) rfl)
theorem tw_14_12 : Cond.methodLink RL 59 yX5_gains ∈ TT := wr_14 _ (List.mem_of_getElem? (i := 12) rfl)
theorem tw_14_13 : Cond.instanceMethod yX5_gains ∈ TT := wr_14 _ (List.mem_of_getElem? (i := 13) rfl)
theorem tw_14_14 : Cond.selects RX5 yX5_gains yX5_gains ∈ TT := wr_14 _ (List.mem_of_getElem? (i := 14) rfl)
theorem tw_14_15 : Cond.code yX5_gains cX5_gains 3 (some .int) ∈ TT := wr_14 _ (List.mem_of_getElem? (i := 15) rfl)
theorem tw_14_16 : Cond.methodLink RX5 137 yX5_gainsIn ∈ TT := wr_14 _ (List.mem_of_getElem? (i := 16) rfl)
theorem tw_14_17 : Cond.instanceMethod yX5_gainsIn ∈ TT := wr_14 _ (List.mem_of_getElem? (i := 17) rfl)
theorem tw_14_18 : Cond.selects RX5 yX5_gainsIn yX5_gainsIn ∈ TT := wr_14 _ (List.mem_of_getElem? (i := 18) rfl)
theorem tw_14_19 : Cond.code yX5_gainsIn cX5_gainsIn 3 (some .int) ∈ TT := wr_14 _ (List.mem_of_getElem? (i := 19) rfl)
theorem tw_14_20 : Cond.methodLink RL 60 yX4_go ∈ TT := wr_14 _ (List.mem_of_getElem? (i := 20) rfl)
theorem tw_14_21 : Cond.instanceMethod yX4_go ∈ TT := wr_14 _ (List.mem_of_getElem? (i := 21) rfl)
theorem tw_14_22 : Cond.selects RX4 yX4_go yX4_go ∈ TT := wr_14 _ (List.mem_of_getElem? (i := 22) rfl)
theorem tw_14_23 : Cond.code yX4_go cX4_go 2 (some .int) ∈ TT := wr_14 _ (List.mem_of_getElem? (i := 23) rfl)
theorem tw_15_0 : Cond.fieldLink RX4 122 "LineCalls$Line" "thrown" "I" ∈ TT := wr_15 _ (List.mem_of_getElem? (i := 0) rfl)
theorem tw_15_1 : Cond.constant RX4 125 (99999) ∈ TT := wr_15 _ (List.mem_of_getElem? (i := 1) rfl)
theorem tw_15_2 : Cond.methodLink RX4 126 yX0_throwMany ∈ TT := wr_15 _ (List.mem_of_getElem? (i := 2) rfl)
theorem tw_15_3 : Cond.instanceMethod yX0_throwMany ∈ TT := wr_15 _ (List.mem_of_getElem? (i := 3) rfl)
theorem tw_15_4 : Cond.selects RX0 yX0_throwMany yX0_throwMany ∈ TT := wr_15 _ (List.mem_of_getElem? (i := 4) rfl)
theorem tw_15_5 : Cond.code yX0_throwMany cX0_throwMany 3 (some .int) ∈ TT := wr_15 _ (List.mem_of_getElem? (i := 5) rfl)
theorem tw_15_6 : Cond.methodLink RX0 98 yX0_throwIn ∈ TT := wr_15 _ (List.mem_of_getElem? (i := 6) rfl)
theorem tw_15_7 : Cond.instanceMethod yX0_throwIn ∈ TT := wr_15 _ (List.mem_of_getElem? (i := 7) rfl)
theorem tw_15_8 : Cond.selects RX0 yX0_throwIn yX0_throwIn ∈ TT := wr_15 _ (List.mem_of_getElem? (i := 8) rfl)
theorem tw_15_9 : Cond.code yX0_throwIn cX0_throwIn 3 none ∈ TT := wr_15 _ (List.mem_of_getElem? (i := 9) rfl)
theorem tw_15_10 : Cond.methodLink RX0 111 Lib.Math.min.name ∈ TT := wr_15 _ (List.mem_of_getElem? (i := 10) rfl)
theorem tw_15_11 : Cond.static Lib.Math.min.name ∈ TT := wr_15 _ (List.mem_of_getElem? (i := 11) rfl)
theorem tw_15_12 : Cond.code Lib.Math.min.name Lib.Math.min.code 2 (some .int) ∈ TT := wr_15 _ (List.mem_of_getElem? (i := 12) rfl)
theorem tw_15_13 : Cond.constant RX0 121 (99999) ∈ TT := wr_15 _ (List.mem_of_getElem? (i := 13) rfl)
theorem tw_15_14 : Cond.methodLink RX0 101 yX0_nextPlace ∈ TT := wr_15 _ (List.mem_of_getElem? (i := 14) rfl)
theorem tw_15_15 : Cond.instanceMethod yX0_nextPlace ∈ TT := wr_15 _ (List.mem_of_getElem? (i := 15) rfl)
theorem tw_15_16 : Cond.selects RX0 yX0_nextPlace yX0_nextPlace ∈ TT := wr_15 _ (List.mem_of_getElem? (i := 16) rfl)
theorem tw_15_17 : Cond.code yX0_nextPlace cX0_nextPlace 1 (some .int) ∈ TT := wr_15 _ (List.mem_of_getElem? (i := 17) rfl)
theorem tw_15_18 : Cond.methodLink RX0 93 yX0_nextIndex ∈ TT := wr_15 _ (List.mem_of_getElem? (i := 18) rfl)
theorem tw_15_19 : Cond.instanceMethod yX0_nextIndex ∈ TT := wr_15 _ (List.mem_of_getElem? (i := 19) rfl)
theorem tw_15_20 : Cond.selects RX0 yX0_nextIndex yX0_nextIndex ∈ TT := wr_15 _ (List.mem_of_getElem? (i := 20) rfl)
theorem tw_15_21 : Cond.code yX0_nextIndex cX0_nextIndex 1 (some .int) ∈ TT := wr_15 _ (List.mem_of_getElem? (i := 21) rfl)
theorem tw_15_22 : Cond.methodLink RX0 104 yX0_contest ∈ TT := wr_15 _ (List.mem_of_getElem? (i := 22) rfl)
theorem tw_15_23 : Cond.instanceMethod yX0_contest ∈ TT := wr_15 _ (List.mem_of_getElem? (i := 23) rfl)
theorem tw_16_0 : Cond.selects RX0 yX0_contest yX0_contest ∈ TT := wr_16 _ (List.mem_of_getElem? (i := 0) rfl)
theorem tw_16_1 : Cond.code yX0_contest cX0_contest 3 none ∈ TT := wr_16 _ (List.mem_of_getElem? (i := 1) rfl)
theorem tw_16_2 : Cond.methodLink RX0 86 yX0_wouldWin ∈ TT := wr_16 _ (List.mem_of_getElem? (i := 2) rfl)
theorem tw_16_3 : Cond.instanceMethod yX0_wouldWin ∈ TT := wr_16 _ (List.mem_of_getElem? (i := 3) rfl)
theorem tw_16_4 : Cond.selects RX0 yX0_wouldWin yX0_wouldWin ∈ TT := wr_16 _ (List.mem_of_getElem? (i := 4) rfl)
theorem tw_16_5 : Cond.code yX0_wouldWin cX0_wouldWin 3 (some .boolean) ∈ TT := wr_16 _ (List.mem_of_getElem? (i := 5) rfl)
theorem tw_16_6 : Cond.methodLink RX0 80 yX0_highOf ∈ TT := wr_16 _ (List.mem_of_getElem? (i := 6) rfl)
theorem tw_16_7 : Cond.methodLink RX0 83 yX0_forceIn ∈ TT := wr_16 _ (List.mem_of_getElem? (i := 7) rfl)
theorem tw_16_8 : Cond.methodLink RX0 122 yX0_gainOf ∈ TT := wr_16 _ (List.mem_of_getElem? (i := 8) rfl)
theorem tw_16_9 : Cond.methodLink RX0 108 yX0_tiringOf ∈ TT := wr_16 _ (List.mem_of_getElem? (i := 9) rfl)
theorem tw_16_10 : Cond.methodLink RX0 114 yX0_restAllBut ∈ TT := wr_16 _ (List.mem_of_getElem? (i := 10) rfl)
theorem tw_16_11 : Cond.instanceMethod yX0_restAllBut ∈ TT := wr_16 _ (List.mem_of_getElem? (i := 11) rfl)
theorem tw_16_12 : Cond.selects RX0 yX0_restAllBut yX0_restAllBut ∈ TT := wr_16 _ (List.mem_of_getElem? (i := 12) rfl)
theorem tw_16_13 : Cond.code yX0_restAllBut cX0_restAllBut 3 none ∈ TT := wr_16 _ (List.mem_of_getElem? (i := 13) rfl)
theorem tw_16_14 : Cond.methodLink RX0 118 yX0_learn ∈ TT := wr_16 _ (List.mem_of_getElem? (i := 14) rfl)
theorem tw_16_15 : Cond.instanceMethod yX0_learn ∈ TT := wr_16 _ (List.mem_of_getElem? (i := 15) rfl)
theorem tw_16_16 : Cond.selects RX0 yX0_learn yX0_learn ∈ TT := wr_16 _ (List.mem_of_getElem? (i := 16) rfl)
theorem tw_16_17 : Cond.code yX0_learn cX0_learn 3 none ∈ TT := wr_16 _ (List.mem_of_getElem? (i := 17) rfl)
theorem tw_16_18 : Cond.methodLink RL 63 yX5_go ∈ TT := wr_16 _ (List.mem_of_getElem? (i := 18) rfl)
theorem tw_16_19 : Cond.instanceMethod yX5_go ∈ TT := wr_16 _ (List.mem_of_getElem? (i := 19) rfl)
theorem tw_16_20 : Cond.selects RX5 yX5_go yX5_go ∈ TT := wr_16 _ (List.mem_of_getElem? (i := 20) rfl)
theorem tw_16_21 : Cond.code yX5_go cX5_go 2 (some .int) ∈ TT := wr_16 _ (List.mem_of_getElem? (i := 21) rfl)
theorem tw_16_22 : Cond.constant RX5 143 (99999) ∈ TT := wr_16 _ (List.mem_of_getElem? (i := 22) rfl)
theorem tw_16_23 : Cond.constant RX5 158 (-1000005) ∈ TT := wr_16 _ (List.mem_of_getElem? (i := 23) rfl)
theorem tw_17_0 : Cond.methodLink RX5 159 yX5_throwsGo ∈ TT := wr_17 _ (List.mem_of_getElem? (i := 0) rfl)
theorem tw_17_1 : Cond.instanceMethod yX5_throwsGo ∈ TT := wr_17 _ (List.mem_of_getElem? (i := 1) rfl)
theorem tw_17_2 : Cond.selects RX5 yX5_throwsGo yX5_throwsGo ∈ TT := wr_17 _ (List.mem_of_getElem? (i := 2) rfl)
theorem tw_17_3 : Cond.code yX5_throwsGo cX5_throwsGo 3 none ∈ TT := wr_17 _ (List.mem_of_getElem? (i := 3) rfl)
theorem tw_17_4 : Cond.methodLink RX5 155 yX5_oneThrow ∈ TT := wr_17 _ (List.mem_of_getElem? (i := 4) rfl)
theorem tw_17_5 : Cond.instanceMethod yX5_oneThrow ∈ TT := wr_17 _ (List.mem_of_getElem? (i := 5) rfl)
theorem tw_17_6 : Cond.selects RX5 yX5_oneThrow yX5_oneThrow ∈ TT := wr_17 _ (List.mem_of_getElem? (i := 6) rfl)
theorem tw_17_7 : Cond.code yX5_oneThrow cX5_oneThrow 5 none ∈ TT := wr_17 _ (List.mem_of_getElem? (i := 7) rfl)
theorem tw_17_8 : Cond.methodLink RX5 144 Lib.Math.min.name ∈ TT := wr_17 _ (List.mem_of_getElem? (i := 8) rfl)
theorem tw_17_9 : Cond.methodLink RX5 147 yX5_placeNext ∈ TT := wr_17 _ (List.mem_of_getElem? (i := 9) rfl)
theorem tw_17_10 : Cond.instanceMethod yX5_placeNext ∈ TT := wr_17 _ (List.mem_of_getElem? (i := 10) rfl)
theorem tw_17_11 : Cond.selects RX5 yX5_placeNext yX5_placeNext ∈ TT := wr_17 _ (List.mem_of_getElem? (i := 11) rfl)
theorem tw_17_12 : Cond.code yX5_placeNext cX5_placeNext 1 (some .int) ∈ TT := wr_17 _ (List.mem_of_getElem? (i := 12) rfl)
theorem tw_17_13 : Cond.methodLink RX5 151 yX5_thrownTo ∈ TT := wr_17 _ (List.mem_of_getElem? (i := 13) rfl)
theorem tw_17_14 : Cond.instanceMethod yX5_thrownTo ∈ TT := wr_17 _ (List.mem_of_getElem? (i := 14) rfl)
theorem tw_17_15 : Cond.selects RX5 yX5_thrownTo yX5_thrownTo ∈ TT := wr_17 _ (List.mem_of_getElem? (i := 15) rfl)
theorem tw_17_16 : Cond.code yX5_thrownTo cX5_thrownTo 6 none ∈ TT := wr_17 _ (List.mem_of_getElem? (i := 16) rfl)
theorem tw_17_17 : Cond.methodLink RX5 140 yX5_isWonIn ∈ TT := wr_17 _ (List.mem_of_getElem? (i := 17) rfl)
theorem tw_17_18 : Cond.instanceMethod yX5_isWonIn ∈ TT := wr_17 _ (List.mem_of_getElem? (i := 18) rfl)
theorem tw_17_19 : Cond.selects RX5 yX5_isWonIn yX5_isWonIn ∈ TT := wr_17 _ (List.mem_of_getElem? (i := 19) rfl)
theorem tw_17_20 : Cond.code yX5_isWonIn cX5_isWonIn 2 (some .boolean) ∈ TT := wr_17 _ (List.mem_of_getElem? (i := 20) rfl)
theorem tw_17_21 : Cond.methodLink RL 64 yX4_now ∈ TT := wr_17 _ (List.mem_of_getElem? (i := 21) rfl)
theorem tw_17_22 : Cond.instanceMethod yX4_now ∈ TT := wr_17 _ (List.mem_of_getElem? (i := 22) rfl)
theorem tw_17_23 : Cond.selects RX4 yX4_now yX4_now ∈ TT := wr_17 _ (List.mem_of_getElem? (i := 23) rfl)
theorem tw_18_0 : Cond.code yX4_now cX4_now 2 (some .int) ∈ TT := wr_18 _ (List.mem_of_getElem? (i := 0) rfl)
theorem tw_18_1 : Cond.fieldLink RX4 129 "LineCalls$Line" "metres" "I" ∈ TT := wr_18 _ (List.mem_of_getElem? (i := 1) rfl)
theorem tw_18_2 : Cond.fieldLink RX4 132 "LineCalls$Line" "won" "[I" ∈ TT := wr_18 _ (List.mem_of_getElem? (i := 2) rfl)
theorem tw_18_3 : Cond.fieldLink RX4 139 "LineCalls$Line" "lost" "[I" ∈ TT := wr_18 _ (List.mem_of_getElem? (i := 3) rfl)
theorem tw_18_4 : Cond.methodLink RX4 135 yX0_sum ∈ TT := wr_18 _ (List.mem_of_getElem? (i := 4) rfl)
theorem tw_18_5 : Cond.instanceMethod yX0_sum ∈ TT := wr_18 _ (List.mem_of_getElem? (i := 5) rfl)
theorem tw_18_6 : Cond.selects RX0 yX0_sum yX0_sum ∈ TT := wr_18 _ (List.mem_of_getElem? (i := 6) rfl)
theorem tw_18_7 : Cond.code yX0_sum cX0_sum 4 (some .int) ∈ TT := wr_18 _ (List.mem_of_getElem? (i := 7) rfl)
theorem tw_18_8 : Cond.methodLink RX4 142 yX0_nextPlace ∈ TT := wr_18 _ (List.mem_of_getElem? (i := 8) rfl)
theorem tw_18_9 : Cond.methodLink RX4 146 yX0_winnable ∈ TT := wr_18 _ (List.mem_of_getElem? (i := 9) rfl)
theorem tw_18_10 : Cond.instanceMethod yX0_winnable ∈ TT := wr_18 _ (List.mem_of_getElem? (i := 10) rfl)
theorem tw_18_11 : Cond.selects RX0 yX0_winnable yX0_winnable ∈ TT := wr_18 _ (List.mem_of_getElem? (i := 11) rfl)
theorem tw_18_12 : Cond.code yX0_winnable cX0_winnable 3 (some .int) ∈ TT := wr_18 _ (List.mem_of_getElem? (i := 12) rfl)
theorem tw_18_13 : Cond.methodLink RX4 149 yX0_placesListed ∈ TT := wr_18 _ (List.mem_of_getElem? (i := 13) rfl)
theorem tw_18_14 : Cond.instanceMethod yX0_placesListed ∈ TT := wr_18 _ (List.mem_of_getElem? (i := 14) rfl)
theorem tw_18_15 : Cond.selects RX0 yX0_placesListed yX0_placesListed ∈ TT := wr_18 _ (List.mem_of_getElem? (i := 15) rfl)
theorem tw_18_16 : Cond.code yX0_placesListed cX0_placesListed 3 (some .int) ∈ TT := wr_18 _ (List.mem_of_getElem? (i := 16) rfl)
theorem tw_18_17 : Cond.methodLink RL 67 yX5_now ∈ TT := wr_18 _ (List.mem_of_getElem? (i := 17) rfl)
theorem tw_18_18 : Cond.instanceMethod yX5_now ∈ TT := wr_18 _ (List.mem_of_getElem? (i := 18) rfl)
theorem tw_18_19 : Cond.selects RX5 yX5_now yX5_now ∈ TT := wr_18 _ (List.mem_of_getElem? (i := 19) rfl)
theorem tw_18_20 : Cond.code yX5_now cX5_now 2 (some .int) ∈ TT := wr_18 _ (List.mem_of_getElem? (i := 20) rfl)
theorem tw_18_21 : Cond.methodLink RX5 166 yX5_sumOf ∈ TT := wr_18 _ (List.mem_of_getElem? (i := 21) rfl)
theorem tw_18_22 : Cond.instanceMethod yX5_sumOf ∈ TT := wr_18 _ (List.mem_of_getElem? (i := 22) rfl)
theorem tw_18_23 : Cond.selects RX5 yX5_sumOf yX5_sumOf ∈ TT := wr_18 _ (List.mem_of_getElem? (i := 23) rfl)
theorem tw_19_0 : Cond.code yX5_sumOf cX5_sumOf 4 (some .int) ∈ TT := wr_19 _ (List.mem_of_getElem? (i := 0) rfl)
theorem tw_19_1 : Cond.methodLink RX5 169 yX5_placesWon ∈ TT := wr_19 _ (List.mem_of_getElem? (i := 1) rfl)
theorem tw_19_2 : Cond.instanceMethod yX5_placesWon ∈ TT := wr_19 _ (List.mem_of_getElem? (i := 2) rfl)
theorem tw_19_3 : Cond.selects RX5 yX5_placesWon yX5_placesWon ∈ TT := wr_19 _ (List.mem_of_getElem? (i := 3) rfl)
theorem tw_19_4 : Cond.code yX5_placesWon cX5_placesWon 3 (some .int) ∈ TT := wr_19 _ (List.mem_of_getElem? (i := 4) rfl)
theorem tw_19_5 : Cond.methodLink RX5 172 yX5_placesSaid ∈ TT := wr_19 _ (List.mem_of_getElem? (i := 5) rfl)
theorem tw_19_6 : Cond.instanceMethod yX5_placesSaid ∈ TT := wr_19 _ (List.mem_of_getElem? (i := 6) rfl)
theorem tw_19_7 : Cond.selects RX5 yX5_placesSaid yX5_placesSaid ∈ TT := wr_19 _ (List.mem_of_getElem? (i := 7) rfl)
theorem tw_19_8 : Cond.code yX5_placesSaid cX5_placesSaid 4 (some .int) ∈ TT := wr_19 _ (List.mem_of_getElem? (i := 8) rfl)
theorem tw_19_9 : Cond.methodLink RX5 163 yX5_hasBit ∈ TT := wr_19 _ (List.mem_of_getElem? (i := 9) rfl)
theorem tw_19_10 : Cond.static yX5_hasBit ∈ TT := wr_19 _ (List.mem_of_getElem? (i := 10) rfl)
theorem tw_19_11 : Cond.code yX5_hasBit cX5_hasBit 2 (some .boolean) ∈ TT := wr_19 _ (List.mem_of_getElem? (i := 11) rfl)
theorem tw_19_12 : Cond.methodLink RL 68 yX4_ahead ∈ TT := wr_19 _ (List.mem_of_getElem? (i := 12) rfl)
theorem tw_19_13 : Cond.instanceMethod yX4_ahead ∈ TT := wr_19 _ (List.mem_of_getElem? (i := 13) rfl)
theorem tw_19_14 : Cond.selects RX4 yX4_ahead yX4_ahead ∈ TT := wr_19 _ (List.mem_of_getElem? (i := 14) rfl)
theorem tw_19_15 : Cond.code yX4_ahead cX4_ahead 4 (some .int) ∈ TT := wr_19 _ (List.mem_of_getElem? (i := 15) rfl)
theorem tw_19_16 : Cond.methodLink RX4 152 yX0_become ∈ TT := wr_19 _ (List.mem_of_getElem? (i := 16) rfl)
theorem tw_19_17 : Cond.instanceMethod yX0_become ∈ TT := wr_19 _ (List.mem_of_getElem? (i := 17) rfl)
theorem tw_19_18 : Cond.selects RX0 yX0_become yX0_become ∈ TT := wr_19 _ (List.mem_of_getElem? (i := 18) rfl)
theorem tw_19_19 : Cond.code yX0_become cX0_become 2 none ∈ TT := wr_19 _ (List.mem_of_getElem? (i := 19) rfl)
theorem tw_19_20 : Cond.methodLink RX0 64 arraycopyName ∈ TT := wr_19 _ (List.mem_of_getElem? (i := 20) rfl)
theorem tw_19_21 : Cond.native arraycopyName ∈ TT := wr_19 _ (List.mem_of_getElem? (i := 21) rfl)
theorem tw_19_22 : Cond.static arraycopyName ∈ TT := wr_19 _ (List.mem_of_getElem? (i := 22) rfl)
theorem tw_19_23 : Cond.initialized "java/lang/System" ∈ TT := wr_19 _ (List.mem_of_getElem? (i := 23) rfl)
theorem tw_20_0 : Cond.methodLink RL 71 yX5_ahead ∈ TT := wr_20 _ (List.mem_of_getElem? (i := 0) rfl)
theorem tw_20_1 : Cond.instanceMethod yX5_ahead ∈ TT := wr_20 _ (List.mem_of_getElem? (i := 1) rfl)
theorem tw_20_2 : Cond.selects RX5 yX5_ahead yX5_ahead ∈ TT := wr_20 _ (List.mem_of_getElem? (i := 2) rfl)
theorem tw_20_3 : Cond.code yX5_ahead cX5_ahead 4 (some .int) ∈ TT := wr_20 _ (List.mem_of_getElem? (i := 3) rfl)
theorem tw_20_4 : Cond.methodLink RX5 67 yX5_copyRow ∈ TT := wr_20 _ (List.mem_of_getElem? (i := 4) rfl)
theorem tw_20_5 : Cond.static yX5_copyRow ∈ TT := wr_20 _ (List.mem_of_getElem? (i := 5) rfl)
theorem tw_20_6 : Cond.code yX5_copyRow cX5_copyRow 3 none ∈ TT := wr_20 _ (List.mem_of_getElem? (i := 6) rfl)
theorem tw_20_7 : Cond.methodLink RX5 175 yX5_putBack ∈ TT := wr_20 _ (List.mem_of_getElem? (i := 7) rfl)
theorem tw_20_8 : Cond.instanceMethod yX5_putBack ∈ TT := wr_20 _ (List.mem_of_getElem? (i := 8) rfl)
theorem tw_20_9 : Cond.selects RX5 yX5_putBack yX5_putBack ∈ TT := wr_20 _ (List.mem_of_getElem? (i := 9) rfl)
theorem tw_20_10 : Cond.code yX5_putBack cX5_putBack 2 (some .int) ∈ TT := wr_20 _ (List.mem_of_getElem? (i := 10) rfl)
theorem tw_20_11 : Cond.methodLink RL 72 yX4_metres ∈ TT := wr_20 _ (List.mem_of_getElem? (i := 11) rfl)
theorem tw_20_12 : Cond.instanceMethod yX4_metres ∈ TT := wr_20 _ (List.mem_of_getElem? (i := 12) rfl)
theorem tw_20_13 : Cond.selects RX4 yX4_metres yX4_metres ∈ TT := wr_20 _ (List.mem_of_getElem? (i := 13) rfl)
theorem tw_20_14 : Cond.code yX4_metres cX4_metres 2 (some .int) ∈ TT := wr_20 _ (List.mem_of_getElem? (i := 14) rfl)
theorem tw_20_15 : Cond.methodLink RL 75 yX5_metres ∈ TT := wr_20 _ (List.mem_of_getElem? (i := 15) rfl)
theorem tw_20_16 : Cond.instanceMethod yX5_metres ∈ TT := wr_20 _ (List.mem_of_getElem? (i := 16) rfl)
theorem tw_20_17 : Cond.selects RX5 yX5_metres yX5_metres ∈ TT := wr_20 _ (List.mem_of_getElem? (i := 17) rfl)
theorem tw_20_18 : Cond.code yX5_metres cX5_metres 2 (some .int) ∈ TT := wr_20 _ (List.mem_of_getElem? (i := 18) rfl)
theorem tw_20_19 : Cond.methodLink RX5 178 yX5_behind ∈ TT := wr_20 _ (List.mem_of_getElem? (i := 19) rfl)
theorem tw_20_20 : Cond.instanceMethod yX5_behind ∈ TT := wr_20 _ (List.mem_of_getElem? (i := 20) rfl)
theorem tw_20_21 : Cond.selects RX5 yX5_behind yX5_behind ∈ TT := wr_20 _ (List.mem_of_getElem? (i := 21) rfl)
theorem tw_20_22 : Cond.code yX5_behind cX5_behind 3 (some .int) ∈ TT := wr_20 _ (List.mem_of_getElem? (i := 22) rfl)
theorem tw_20_23 : Cond.methodLink RL 76 yX4_when ∈ TT := wr_20 _ (List.mem_of_getElem? (i := 23) rfl)
theorem tw_21_0 : Cond.instanceMethod yX4_when ∈ TT := wr_21 _ (List.mem_of_getElem? (i := 0) rfl)
theorem tw_21_1 : Cond.selects RX4 yX4_when yX4_when ∈ TT := wr_21 _ (List.mem_of_getElem? (i := 1) rfl)
theorem tw_21_2 : Cond.code yX4_when cX4_when 4 (some .int) ∈ TT := wr_21 _ (List.mem_of_getElem? (i := 2) rfl)
theorem tw_21_3 : Cond.methodLink RX4 156 yX0_throwIn ∈ TT := wr_21 _ (List.mem_of_getElem? (i := 3) rfl)
theorem tw_21_4 : Cond.methodLink RL 79 yX5_when ∈ TT := wr_21 _ (List.mem_of_getElem? (i := 4) rfl)
theorem tw_21_5 : Cond.instanceMethod yX5_when ∈ TT := wr_21 _ (List.mem_of_getElem? (i := 5) rfl)
theorem tw_21_6 : Cond.selects RX5 yX5_when yX5_when ∈ TT := wr_21 _ (List.mem_of_getElem? (i := 6) rfl)
theorem tw_21_7 : Cond.code yX5_when cX5_when 4 (some .int) ∈ TT := wr_21 _ (List.mem_of_getElem? (i := 7) rfl)
theorem tw_21_8 : Cond.methodLink RX5 181 yX5_orNone ∈ TT := wr_21 _ (List.mem_of_getElem? (i := 8) rfl)
theorem tw_21_9 : Cond.instanceMethod yX5_orNone ∈ TT := wr_21 _ (List.mem_of_getElem? (i := 9) rfl)
theorem tw_21_10 : Cond.selects RX5 yX5_orNone yX5_orNone ∈ TT := wr_21 _ (List.mem_of_getElem? (i := 10) rfl)
theorem tw_21_11 : Cond.code yX5_orNone cX5_orNone 2 (some .int) ∈ TT := wr_21 _ (List.mem_of_getElem? (i := 11) rfl)
theorem tw_21_12 : Cond.constant RX5 71 (-1000004) ∈ TT := wr_21 _ (List.mem_of_getElem? (i := 12) rfl)
theorem tw_21_13 : Cond.methodLink RL 80 yX4_known ∈ TT := wr_21 _ (List.mem_of_getElem? (i := 13) rfl)
theorem tw_21_14 : Cond.instanceMethod yX4_known ∈ TT := wr_21 _ (List.mem_of_getElem? (i := 14) rfl)
theorem tw_21_15 : Cond.selects RX4 yX4_known yX4_known ∈ TT := wr_21 _ (List.mem_of_getElem? (i := 15) rfl)
theorem tw_21_16 : Cond.code yX4_known cX4_known 2 (some .int) ∈ TT := wr_21 _ (List.mem_of_getElem? (i := 16) rfl)
theorem tw_21_17 : Cond.methodLink RL 84 yX5_known ∈ TT := wr_21 _ (List.mem_of_getElem? (i := 17) rfl)
theorem tw_21_18 : Cond.instanceMethod yX5_known ∈ TT := wr_21 _ (List.mem_of_getElem? (i := 18) rfl)
theorem tw_21_19 : Cond.selects RX5 yX5_known yX5_known ∈ TT := wr_21 _ (List.mem_of_getElem? (i := 19) rfl)
theorem tw_21_20 : Cond.code yX5_known cX5_known 2 (some .int) ∈ TT := wr_21 _ (List.mem_of_getElem? (i := 20) rfl)
theorem tw_21_21 : Cond.methodLink RL 85 yX4_codeFor ∈ TT := wr_21 _ (List.mem_of_getElem? (i := 21) rfl)
theorem tw_21_22 : Cond.instanceMethod yX4_codeFor ∈ TT := wr_21 _ (List.mem_of_getElem? (i := 22) rfl)
theorem tw_21_23 : Cond.selects RX4 yX4_codeFor yX4_codeFor ∈ TT := wr_21 _ (List.mem_of_getElem? (i := 23) rfl)
theorem tw_22_0 : Cond.code yX4_codeFor cX4_codeFor 6 (some .int) ∈ TT := wr_22 _ (List.mem_of_getElem? (i := 0) rfl)
theorem tw_22_1 : Cond.fieldLink RX4 159 "LineCalls$Line" "code" "I" ∈ TT := wr_22 _ (List.mem_of_getElem? (i := 1) rfl)
theorem tw_22_2 : Cond.methodLink RL 88 yX5_codeFor ∈ TT := wr_22 _ (List.mem_of_getElem? (i := 2) rfl)
theorem tw_22_3 : Cond.instanceMethod yX5_codeFor ∈ TT := wr_22 _ (List.mem_of_getElem? (i := 3) rfl)
theorem tw_22_4 : Cond.selects RX5 yX5_codeFor yX5_codeFor ∈ TT := wr_22 _ (List.mem_of_getElem? (i := 4) rfl)
theorem tw_22_5 : Cond.code yX5_codeFor cX5_codeFor 2 (some .int) ∈ TT := wr_22 _ (List.mem_of_getElem? (i := 5) rfl)
theorem tw_22_6 : Cond.methodLink RX5 184 yX5_isThought ∈ TT := wr_22 _ (List.mem_of_getElem? (i := 6) rfl)
theorem tw_22_7 : Cond.static yX5_isThought ∈ TT := wr_22 _ (List.mem_of_getElem? (i := 7) rfl)
theorem tw_22_8 : Cond.code yX5_isThought cX5_isThought 1 (some .boolean) ∈ TT := wr_22 _ (List.mem_of_getElem? (i := 8) rfl)
theorem tw_22_9 : Cond.methodLink RX5 187 yX5_bestFor ∈ TT := wr_22 _ (List.mem_of_getElem? (i := 9) rfl)
theorem tw_22_10 : Cond.instanceMethod yX5_bestFor ∈ TT := wr_22 _ (List.mem_of_getElem? (i := 10) rfl)
theorem tw_22_11 : Cond.selects RX5 yX5_bestFor yX5_bestFor ∈ TT := wr_22 _ (List.mem_of_getElem? (i := 11) rfl)
theorem tw_22_12 : Cond.code yX5_bestFor cX5_bestFor 10 (some .int) ∈ TT := wr_22 _ (List.mem_of_getElem? (i := 12) rfl)
theorem tw_22_13 : Cond.methodLink RL 89 yX4_callFor ∈ TT := wr_22 _ (List.mem_of_getElem? (i := 13) rfl)
theorem tw_22_14 : Cond.instanceMethod yX4_callFor ∈ TT := wr_22 _ (List.mem_of_getElem? (i := 14) rfl)
theorem tw_22_15 : Cond.selects RX4 yX4_callFor yX4_callFor ∈ TT := wr_22 _ (List.mem_of_getElem? (i := 15) rfl)
theorem tw_22_16 : Cond.code yX4_callFor cX4_callFor 8 (some .int) ∈ TT := wr_22 _ (List.mem_of_getElem? (i := 16) rfl)
theorem tw_22_17 : Cond.methodLink RX4 162 yX0_nextIndex ∈ TT := wr_22 _ (List.mem_of_getElem? (i := 17) rfl)
theorem tw_22_18 : Cond.methodLink RL 92 yX5_callFor ∈ TT := wr_22 _ (List.mem_of_getElem? (i := 18) rfl)
theorem tw_22_19 : Cond.instanceMethod yX5_callFor ∈ TT := wr_22 _ (List.mem_of_getElem? (i := 19) rfl)
theorem tw_22_20 : Cond.selects RX5 yX5_callFor yX5_callFor ∈ TT := wr_22 _ (List.mem_of_getElem? (i := 20) rfl)
theorem tw_22_21 : Cond.code yX5_callFor cX5_callFor 2 (some .int) ∈ TT := wr_22 _ (List.mem_of_getElem? (i := 21) rfl)
theorem tw_22_22 : Cond.methodLink RL 93 yX4_standFor ∈ TT := wr_22 _ (List.mem_of_getElem? (i := 22) rfl)
theorem tw_22_23 : Cond.instanceMethod yX4_standFor ∈ TT := wr_22 _ (List.mem_of_getElem? (i := 23) rfl)
theorem tw_23_0 : Cond.selects RX4 yX4_standFor yX4_standFor ∈ TT := wr_23 _ (List.mem_of_getElem? (i := 0) rfl)
theorem tw_23_1 : Cond.code yX4_standFor cX4_standFor 7 (some .int) ∈ TT := wr_23 _ (List.mem_of_getElem? (i := 1) rfl)
theorem tw_23_2 : Cond.methodLink RX4 165 yX0_swapInto ∈ TT := wr_23 _ (List.mem_of_getElem? (i := 2) rfl)
theorem tw_23_3 : Cond.instanceMethod yX0_swapInto ∈ TT := wr_23 _ (List.mem_of_getElem? (i := 3) rfl)
theorem tw_23_4 : Cond.selects RX0 yX0_swapInto yX0_swapInto ∈ TT := wr_23 _ (List.mem_of_getElem? (i := 4) rfl)
theorem tw_23_5 : Cond.code yX0_swapInto cX0_swapInto 5 none ∈ TT := wr_23 _ (List.mem_of_getElem? (i := 5) rfl)
theorem tw_23_6 : Cond.methodLink RX0 70 yX0_whereIs ∈ TT := wr_23 _ (List.mem_of_getElem? (i := 6) rfl)
theorem tw_23_7 : Cond.methodLink RL 96 yX5_standFor ∈ TT := wr_23 _ (List.mem_of_getElem? (i := 7) rfl)
theorem tw_23_8 : Cond.instanceMethod yX5_standFor ∈ TT := wr_23 _ (List.mem_of_getElem? (i := 8) rfl)
theorem tw_23_9 : Cond.selects RX5 yX5_standFor yX5_standFor ∈ TT := wr_23 _ (List.mem_of_getElem? (i := 9) rfl)
theorem tw_23_10 : Cond.code yX5_standFor cX5_standFor 7 (some .int) ∈ TT := wr_23 _ (List.mem_of_getElem? (i := 10) rfl)
theorem tw_23_11 : Cond.methodLink RX5 191 yX5_metresStanding ∈ TT := wr_23 _ (List.mem_of_getElem? (i := 11) rfl)
theorem tw_23_12 : Cond.instanceMethod yX5_metresStanding ∈ TT := wr_23 _ (List.mem_of_getElem? (i := 12) rfl)
theorem tw_23_13 : Cond.selects RX5 yX5_metresStanding yX5_metresStanding ∈ TT := wr_23 _ (List.mem_of_getElem? (i := 13) rfl)
theorem tw_23_14 : Cond.code yX5_metresStanding cX5_metresStanding 6 (some .int) ∈ TT := wr_23 _ (List.mem_of_getElem? (i := 14) rfl)
theorem tw_23_15 : Cond.methodLink RL 97 yX4_kindFor ∈ TT := wr_23 _ (List.mem_of_getElem? (i := 15) rfl)
theorem tw_23_16 : Cond.instanceMethod yX4_kindFor ∈ TT := wr_23 _ (List.mem_of_getElem? (i := 16) rfl)
theorem tw_23_17 : Cond.selects RX4 yX4_kindFor yX4_kindFor ∈ TT := wr_23 _ (List.mem_of_getElem? (i := 17) rfl)
theorem tw_23_18 : Cond.code yX4_kindFor cX4_kindFor 6 (some .int) ∈ TT := wr_23 _ (List.mem_of_getElem? (i := 18) rfl)
theorem tw_23_19 : Cond.fieldLink RX4 169 "LineCalls$Line" "kind" "[I" ∈ TT := wr_23 _ (List.mem_of_getElem? (i := 19) rfl)
theorem tw_23_20 : Cond.methodLink RL 100 yX5_kindFor ∈ TT := wr_23 _ (List.mem_of_getElem? (i := 20) rfl)
theorem tw_23_21 : Cond.instanceMethod yX5_kindFor ∈ TT := wr_23 _ (List.mem_of_getElem? (i := 21) rfl)
theorem tw_23_22 : Cond.selects RX5 yX5_kindFor yX5_kindFor ∈ TT := wr_23 _ (List.mem_of_getElem? (i := 22) rfl)
theorem tw_23_23 : Cond.code yX5_kindFor cX5_kindFor 3 (some .int) ∈ TT := wr_23 _ (List.mem_of_getElem? (i := 23) rfl)
theorem tw_24_0 : Cond.methodLink RL 101 yX4_tallFor ∈ TT := wr_24 _ (List.mem_of_getElem? (i := 0) rfl)
theorem tw_24_1 : Cond.instanceMethod yX4_tallFor ∈ TT := wr_24 _ (List.mem_of_getElem? (i := 1) rfl)
theorem tw_24_2 : Cond.selects RX4 yX4_tallFor yX4_tallFor ∈ TT := wr_24 _ (List.mem_of_getElem? (i := 2) rfl)
theorem tw_24_3 : Cond.code yX4_tallFor cX4_tallFor 5 (some .int) ∈ TT := wr_24 _ (List.mem_of_getElem? (i := 3) rfl)
theorem tw_24_4 : Cond.fieldLink RX4 172 "LineCalls$Line" "tall" "[I" ∈ TT := wr_24 _ (List.mem_of_getElem? (i := 4) rfl)
theorem tw_24_5 : Cond.methodLink RL 104 yX5_tallFor ∈ TT := wr_24 _ (List.mem_of_getElem? (i := 5) rfl)
theorem tw_24_6 : Cond.instanceMethod yX5_tallFor ∈ TT := wr_24 _ (List.mem_of_getElem? (i := 6) rfl)
theorem tw_24_7 : Cond.selects RX5 yX5_tallFor yX5_tallFor ∈ TT := wr_24 _ (List.mem_of_getElem? (i := 7) rfl)
theorem tw_24_8 : Cond.code yX5_tallFor cX5_tallFor 8 (some .int) ∈ TT := wr_24 _ (List.mem_of_getElem? (i := 8) rfl)
theorem tw_24_9 : Cond.methodLink RL 105 yX4_cover ∈ TT := wr_24 _ (List.mem_of_getElem? (i := 9) rfl)
theorem tw_24_10 : Cond.instanceMethod yX4_cover ∈ TT := wr_24 _ (List.mem_of_getElem? (i := 10) rfl)
theorem tw_24_11 : Cond.selects RX4 yX4_cover yX4_cover ∈ TT := wr_24 _ (List.mem_of_getElem? (i := 11) rfl)
theorem tw_24_12 : Cond.code yX4_cover cX4_cover 5 (some .int) ∈ TT := wr_24 _ (List.mem_of_getElem? (i := 12) rfl)
theorem tw_24_13 : Cond.methodLink RL 108 yX5_cover ∈ TT := wr_24 _ (List.mem_of_getElem? (i := 13) rfl)
theorem tw_24_14 : Cond.instanceMethod yX5_cover ∈ TT := wr_24 _ (List.mem_of_getElem? (i := 14) rfl)
theorem tw_24_15 : Cond.selects RX5 yX5_cover yX5_cover ∈ TT := wr_24 _ (List.mem_of_getElem? (i := 15) rfl)
theorem tw_24_16 : Cond.code yX5_cover cX5_cover 4 (some .int) ∈ TT := wr_24 _ (List.mem_of_getElem? (i := 16) rfl)
theorem tw_24_17 : Cond.methodLink RL 109 yX4_codes ∈ TT := wr_24 _ (List.mem_of_getElem? (i := 17) rfl)
theorem tw_24_18 : Cond.instanceMethod yX4_codes ∈ TT := wr_24 _ (List.mem_of_getElem? (i := 18) rfl)
theorem tw_24_19 : Cond.selects RX4 yX4_codes yX4_codes ∈ TT := wr_24 _ (List.mem_of_getElem? (i := 19) rfl)
theorem tw_24_20 : Cond.code yX4_codes cX4_codes 5 (some .int) ∈ TT := wr_24 _ (List.mem_of_getElem? (i := 20) rfl)
theorem tw_24_21 : Cond.methodLink RX4 175 yX4_lackOf ∈ TT := wr_24 _ (List.mem_of_getElem? (i := 21) rfl)
theorem tw_24_22 : Cond.instanceMethod yX4_lackOf ∈ TT := wr_24 _ (List.mem_of_getElem? (i := 22) rfl)
theorem tw_24_23 : Cond.selects RX4 yX4_lackOf yX4_lackOf ∈ TT := wr_24 _ (List.mem_of_getElem? (i := 23) rfl)
theorem tw_25_0 : Cond.code yX4_lackOf cX4_lackOf 2 (some .int) ∈ TT := wr_25 _ (List.mem_of_getElem? (i := 0) rfl)
theorem tw_25_1 : Cond.methodLink RX4 218 yX4_isSheet ∈ TT := wr_25 _ (List.mem_of_getElem? (i := 1) rfl)
theorem tw_25_2 : Cond.static yX4_isSheet ∈ TT := wr_25 _ (List.mem_of_getElem? (i := 2) rfl)
theorem tw_25_3 : Cond.code yX4_isSheet cX4_isSheet 1 (some .boolean) ∈ TT := wr_25 _ (List.mem_of_getElem? (i := 3) rfl)
theorem tw_25_4 : Cond.methodLink RX4 227 yX1_isMissing ∈ TT := wr_25 _ (List.mem_of_getElem? (i := 4) rfl)
theorem tw_25_5 : Cond.instanceMethod yX1_isMissing ∈ TT := wr_25 _ (List.mem_of_getElem? (i := 5) rfl)
theorem tw_25_6 : Cond.selects RX1 yX1_isMissing yX1_isMissing ∈ TT := wr_25 _ (List.mem_of_getElem? (i := 6) rfl)
theorem tw_25_7 : Cond.code yX1_isMissing cX1_isMissing 1 (some .boolean) ∈ TT := wr_25 _ (List.mem_of_getElem? (i := 7) rfl)
theorem tw_25_8 : Cond.methodLink RX4 178 yX4_goesAsTold ∈ TT := wr_25 _ (List.mem_of_getElem? (i := 8) rfl)
theorem tw_25_9 : Cond.instanceMethod yX4_goesAsTold ∈ TT := wr_25 _ (List.mem_of_getElem? (i := 9) rfl)
theorem tw_25_10 : Cond.selects RX4 yX4_goesAsTold yX4_goesAsTold ∈ TT := wr_25 _ (List.mem_of_getElem? (i := 10) rfl)
theorem tw_25_11 : Cond.code yX4_goesAsTold cX4_goesAsTold 3 (some .boolean) ∈ TT := wr_25 _ (List.mem_of_getElem? (i := 11) rfl)
theorem tw_25_12 : Cond.fieldLink RX4 224 "LineCalls$Sheet" "size" "I" ∈ TT := wr_25 _ (List.mem_of_getElem? (i := 12) rfl)
theorem tw_25_13 : Cond.fieldLink RX4 237 "LineCalls$Sheet" "numbers" "[I" ∈ TT := wr_25 _ (List.mem_of_getElem? (i := 13) rfl)
theorem tw_25_14 : Cond.methodLink RL 112 yX5_codes ∈ TT := wr_25 _ (List.mem_of_getElem? (i := 14) rfl)
theorem tw_25_15 : Cond.instanceMethod yX5_codes ∈ TT := wr_25 _ (List.mem_of_getElem? (i := 15) rfl)
theorem tw_25_16 : Cond.selects RX5 yX5_codes yX5_codes ∈ TT := wr_25 _ (List.mem_of_getElem? (i := 16) rfl)
theorem tw_25_17 : Cond.code yX5_codes cX5_codes 6 (some .int) ∈ TT := wr_25 _ (List.mem_of_getElem? (i := 17) rfl)
theorem tw_25_18 : Cond.methodLink RX5 199 yX5_lacks ∈ TT := wr_25 _ (List.mem_of_getElem? (i := 18) rfl)
theorem tw_25_19 : Cond.instanceMethod yX5_lacks ∈ TT := wr_25 _ (List.mem_of_getElem? (i := 19) rfl)
theorem tw_25_20 : Cond.selects RX5 yX5_lacks yX5_lacks ∈ TT := wr_25 _ (List.mem_of_getElem? (i := 20) rfl)
theorem tw_25_21 : Cond.code yX5_lacks cX5_lacks 3 (some .int) ∈ TT := wr_25 _ (List.mem_of_getElem? (i := 21) rfl)
theorem tw_25_22 : Cond.constant RX5 198 (-1000006) ∈ TT := wr_25 _ (List.mem_of_getElem? (i := 22) rfl)
theorem tw_25_23 : Cond.methodLink RX5 195 yX5_isSheet ∈ TT := wr_25 _ (List.mem_of_getElem? (i := 23) rfl)
theorem tw_26_0 : Cond.static yX5_isSheet ∈ TT := wr_26 _ (List.mem_of_getElem? (i := 0) rfl)
theorem tw_26_1 : Cond.code yX5_isSheet cX5_isSheet 1 (some .boolean) ∈ TT := wr_26 _ (List.mem_of_getElem? (i := 1) rfl)
theorem tw_26_2 : Cond.methodLink RX5 203 yX5_areMetresSo ∈ TT := wr_26 _ (List.mem_of_getElem? (i := 2) rfl)
theorem tw_26_3 : Cond.instanceMethod yX5_areMetresSo ∈ TT := wr_26 _ (List.mem_of_getElem? (i := 3) rfl)
theorem tw_26_4 : Cond.selects RX5 yX5_areMetresSo yX5_areMetresSo ∈ TT := wr_26 _ (List.mem_of_getElem? (i := 4) rfl)
theorem tw_26_5 : Cond.code yX5_areMetresSo cX5_areMetresSo 5 (some .boolean) ∈ TT := wr_26 _ (List.mem_of_getElem? (i := 5) rfl)
theorem tw_26_6 : Cond.methodLink RL 113 yX4_fits ∈ TT := wr_26 _ (List.mem_of_getElem? (i := 6) rfl)
theorem tw_26_7 : Cond.instanceMethod yX4_fits ∈ TT := wr_26 _ (List.mem_of_getElem? (i := 7) rfl)
theorem tw_26_8 : Cond.selects RX4 yX4_fits yX4_fits ∈ TT := wr_26 _ (List.mem_of_getElem? (i := 8) rfl)
theorem tw_26_9 : Cond.code yX4_fits cX4_fits 6 (some .int) ∈ TT := wr_26 _ (List.mem_of_getElem? (i := 9) rfl)
theorem tw_26_10 : Cond.methodLink RX4 182 yX4_fitsSoTall ∈ TT := wr_26 _ (List.mem_of_getElem? (i := 10) rfl)
theorem tw_26_11 : Cond.instanceMethod yX4_fitsSoTall ∈ TT := wr_26 _ (List.mem_of_getElem? (i := 11) rfl)
theorem tw_26_12 : Cond.selects RX4 yX4_fitsSoTall yX4_fitsSoTall ∈ TT := wr_26 _ (List.mem_of_getElem? (i := 12) rfl)
theorem tw_26_13 : Cond.code yX4_fitsSoTall cX4_fitsSoTall 4 (some .boolean) ∈ TT := wr_26 _ (List.mem_of_getElem? (i := 13) rfl)
theorem tw_26_14 : Cond.methodLink RL 116 yX5_fits ∈ TT := wr_26 _ (List.mem_of_getElem? (i := 14) rfl)
theorem tw_26_15 : Cond.instanceMethod yX5_fits ∈ TT := wr_26 _ (List.mem_of_getElem? (i := 15) rfl)
theorem tw_26_16 : Cond.selects RX5 yX5_fits yX5_fits ∈ TT := wr_26 _ (List.mem_of_getElem? (i := 16) rfl)
theorem tw_26_17 : Cond.code yX5_fits cX5_fits 4 (some .int) ∈ TT := wr_26 _ (List.mem_of_getElem? (i := 17) rfl)
theorem tw_26_18 : Cond.fieldLink RX5 206 "LineCallsModel" "tallMany" "I" ∈ TT := wr_26 _ (List.mem_of_getElem? (i := 18) rfl)
theorem tw_26_19 : Cond.methodLink RX5 213 yX5_fitTall ∈ TT := wr_26 _ (List.mem_of_getElem? (i := 19) rfl)
theorem tw_26_20 : Cond.instanceMethod yX5_fitTall ∈ TT := wr_26 _ (List.mem_of_getElem? (i := 20) rfl)
theorem tw_26_21 : Cond.selects RX5 yX5_fitTall yX5_fitTall ∈ TT := wr_26 _ (List.mem_of_getElem? (i := 21) rfl)
theorem tw_26_22 : Cond.code yX5_fitTall cX5_fitTall 7 none ∈ TT := wr_26 _ (List.mem_of_getElem? (i := 22) rfl)
theorem tw_26_23 : Cond.fieldLink RX5 210 "LineCallsModel" "tallLeast" "I" ∈ TT := wr_26 _ (List.mem_of_getElem? (i := 23) rfl)
theorem tw_27_0 : Cond.methodLink RL 117 yX4_tall ∈ TT := wr_27 _ (List.mem_of_getElem? (i := 0) rfl)
theorem tw_27_1 : Cond.instanceMethod yX4_tall ∈ TT := wr_27 _ (List.mem_of_getElem? (i := 1) rfl)
theorem tw_27_2 : Cond.selects RX4 yX4_tall yX4_tall ∈ TT := wr_27 _ (List.mem_of_getElem? (i := 2) rfl)
theorem tw_27_3 : Cond.code yX4_tall cX4_tall 5 (some .int) ∈ TT := wr_27 _ (List.mem_of_getElem? (i := 3) rfl)
theorem tw_27_4 : Cond.methodLink RL 120 yX5_tall ∈ TT := wr_27 _ (List.mem_of_getElem? (i := 4) rfl)
theorem tw_27_5 : Cond.instanceMethod yX5_tall ∈ TT := wr_27 _ (List.mem_of_getElem? (i := 5) rfl)
theorem tw_27_6 : Cond.selects RX5 yX5_tall yX5_tall ∈ TT := wr_27 _ (List.mem_of_getElem? (i := 6) rfl)
theorem tw_27_7 : Cond.code yX5_tall cX5_tall 4 (some .int) ∈ TT := wr_27 _ (List.mem_of_getElem? (i := 7) rfl)
theorem tw_27_8 : Cond.methodLink RL 121 yX4_kinds ∈ TT := wr_27 _ (List.mem_of_getElem? (i := 8) rfl)
theorem tw_27_9 : Cond.instanceMethod yX4_kinds ∈ TT := wr_27 _ (List.mem_of_getElem? (i := 9) rfl)
theorem tw_27_10 : Cond.selects RX4 yX4_kinds yX4_kinds ∈ TT := wr_27 _ (List.mem_of_getElem? (i := 10) rfl)
theorem tw_27_11 : Cond.code yX4_kinds cX4_kinds 6 (some .int) ∈ TT := wr_27 _ (List.mem_of_getElem? (i := 11) rfl)
theorem tw_27_12 : Cond.methodLink RL 124 yX5_kinds ∈ TT := wr_27 _ (List.mem_of_getElem? (i := 12) rfl)
theorem tw_27_13 : Cond.instanceMethod yX5_kinds ∈ TT := wr_27 _ (List.mem_of_getElem? (i := 13) rfl)
theorem tw_27_14 : Cond.selects RX5 yX5_kinds yX5_kinds ∈ TT := wr_27 _ (List.mem_of_getElem? (i := 14) rfl)
theorem tw_27_15 : Cond.code yX5_kinds cX5_kinds 8 (some .int) ∈ TT := wr_27 _ (List.mem_of_getElem? (i := 15) rfl)
theorem tw_27_16 : Cond.methodLink RL 125 yX4_mix ∈ TT := wr_27 _ (List.mem_of_getElem? (i := 16) rfl)
theorem tw_27_17 : Cond.instanceMethod yX4_mix ∈ TT := wr_27 _ (List.mem_of_getElem? (i := 17) rfl)
theorem tw_27_18 : Cond.selects RX4 yX4_mix yX4_mix ∈ TT := wr_27 _ (List.mem_of_getElem? (i := 18) rfl)
theorem tw_27_19 : Cond.code yX4_mix cX4_mix 3 (some .int) ∈ TT := wr_27 _ (List.mem_of_getElem? (i := 19) rfl)
theorem tw_27_20 : Cond.fieldLink RX4 189 "LineCalls$Line" "wind" "I" ∈ TT := wr_27 _ (List.mem_of_getElem? (i := 20) rfl)
theorem tw_27_21 : Cond.methodLink RX4 186 yX0_draw ∈ TT := wr_27 _ (List.mem_of_getElem? (i := 21) rfl)
theorem tw_27_22 : Cond.instanceMethod yX0_draw ∈ TT := wr_27 _ (List.mem_of_getElem? (i := 22) rfl)
theorem tw_27_23 : Cond.selects RX0 yX0_draw yX0_draw ∈ TT := wr_27 _ (List.mem_of_getElem? (i := 23) rfl)
theorem tw_28_0 : Cond.code yX0_draw cX0_draw 1 (some .int) ∈ TT := wr_28 _ (List.mem_of_getElem? (i := 0) rfl)
theorem tw_28_1 : Cond.constant RX0 97 (1103515245) ∈ TT := wr_28 _ (List.mem_of_getElem? (i := 1) rfl)
theorem tw_28_2 : Cond.methodLink RL 128 yX5_mix ∈ TT := wr_28 _ (List.mem_of_getElem? (i := 2) rfl)
theorem tw_28_3 : Cond.instanceMethod yX5_mix ∈ TT := wr_28 _ (List.mem_of_getElem? (i := 3) rfl)
theorem tw_28_4 : Cond.selects RX5 yX5_mix yX5_mix ∈ TT := wr_28 _ (List.mem_of_getElem? (i := 4) rfl)
theorem tw_28_5 : Cond.code yX5_mix cX5_mix 3 (some .int) ∈ TT := wr_28 _ (List.mem_of_getElem? (i := 5) rfl)
theorem tw_28_6 : Cond.methodLink RX5 217 yX5_drawn ∈ TT := wr_28 _ (List.mem_of_getElem? (i := 6) rfl)
theorem tw_28_7 : Cond.instanceMethod yX5_drawn ∈ TT := wr_28 _ (List.mem_of_getElem? (i := 7) rfl)
theorem tw_28_8 : Cond.selects RX5 yX5_drawn yX5_drawn ∈ TT := wr_28 _ (List.mem_of_getElem? (i := 8) rfl)
theorem tw_28_9 : Cond.code yX5_drawn cX5_drawn 1 (some .int) ∈ TT := wr_28 _ (List.mem_of_getElem? (i := 9) rfl)
theorem tw_28_10 : Cond.constant RX5 216 (1103515245) ∈ TT := wr_28 _ (List.mem_of_getElem? (i := 10) rfl)
theorem tw_28_11 : Cond.methodLink RL 129 yX4_odds ∈ TT := wr_28 _ (List.mem_of_getElem? (i := 11) rfl)
theorem tw_28_12 : Cond.instanceMethod yX4_odds ∈ TT := wr_28 _ (List.mem_of_getElem? (i := 12) rfl)
theorem tw_28_13 : Cond.selects RX4 yX4_odds yX4_odds ∈ TT := wr_28 _ (List.mem_of_getElem? (i := 13) rfl)
theorem tw_28_14 : Cond.code yX4_odds cX4_odds 10 (some .long) ∈ TT := wr_28 _ (List.mem_of_getElem? (i := 14) rfl)
theorem tw_28_15 : Cond.methodLink RX4 192 yX4_commonDivisor ∈ TT := wr_28 _ (List.mem_of_getElem? (i := 15) rfl)
theorem tw_28_16 : Cond.static yX4_commonDivisor ∈ TT := wr_28 _ (List.mem_of_getElem? (i := 16) rfl)
theorem tw_28_17 : Cond.code yX4_commonDivisor cX4_commonDivisor 6 (some .int) ∈ TT := wr_28 _ (List.mem_of_getElem? (i := 17) rfl)
theorem tw_28_18 : Cond.methodLink RL 133 yX5_odds ∈ TT := wr_28 _ (List.mem_of_getElem? (i := 18) rfl)
theorem tw_28_19 : Cond.instanceMethod yX5_odds ∈ TT := wr_28 _ (List.mem_of_getElem? (i := 19) rfl)
theorem tw_28_20 : Cond.selects RX5 yX5_odds yX5_odds ∈ TT := wr_28 _ (List.mem_of_getElem? (i := 20) rfl)
theorem tw_28_21 : Cond.code yX5_odds cX5_odds 10 (some .long) ∈ TT := wr_28 _ (List.mem_of_getElem? (i := 21) rfl)
theorem tw_28_22 : Cond.methodLink RL 134 yX4_seed ∈ TT := wr_28 _ (List.mem_of_getElem? (i := 22) rfl)
theorem tw_28_23 : Cond.instanceMethod yX4_seed ∈ TT := wr_28 _ (List.mem_of_getElem? (i := 23) rfl)
theorem tw_29_0 : Cond.selects RX4 yX4_seed yX4_seed ∈ TT := wr_29 _ (List.mem_of_getElem? (i := 0) rfl)
theorem tw_29_1 : Cond.code yX4_seed cX4_seed 3 (some .int) ∈ TT := wr_29 _ (List.mem_of_getElem? (i := 1) rfl)
theorem tw_29_2 : Cond.fieldLink RX4 195 "LineCalls$Line" "z" "I" ∈ TT := wr_29 _ (List.mem_of_getElem? (i := 2) rfl)
theorem tw_29_3 : Cond.methodLink RL 137 yX5_seed ∈ TT := wr_29 _ (List.mem_of_getElem? (i := 3) rfl)
theorem tw_29_4 : Cond.instanceMethod yX5_seed ∈ TT := wr_29 _ (List.mem_of_getElem? (i := 4) rfl)
theorem tw_29_5 : Cond.selects RX5 yX5_seed yX5_seed ∈ TT := wr_29 _ (List.mem_of_getElem? (i := 5) rfl)
theorem tw_29_6 : Cond.code yX5_seed cX5_seed 2 (some .int) ∈ TT := wr_29 _ (List.mem_of_getElem? (i := 6) rfl)
theorem tw_29_7 : Cond.methodLink RL 138 yX4_feed ∈ TT := wr_29 _ (List.mem_of_getElem? (i := 7) rfl)
theorem tw_29_8 : Cond.instanceMethod yX4_feed ∈ TT := wr_29 _ (List.mem_of_getElem? (i := 8) rfl)
theorem tw_29_9 : Cond.selects RX4 yX4_feed yX4_feed ∈ TT := wr_29 _ (List.mem_of_getElem? (i := 9) rfl)
theorem tw_29_10 : Cond.code yX4_feed cX4_feed 4 (some .int) ∈ TT := wr_29 _ (List.mem_of_getElem? (i := 10) rfl)
theorem tw_29_11 : Cond.fieldLink RX4 198 "LineCalls$Tape" "size" "I" ∈ TT := wr_29 _ (List.mem_of_getElem? (i := 11) rfl)
theorem tw_29_12 : Cond.methodLink RX4 203 yX2_put ∈ TT := wr_29 _ (List.mem_of_getElem? (i := 12) rfl)
theorem tw_29_13 : Cond.instanceMethod yX2_put ∈ TT := wr_29 _ (List.mem_of_getElem? (i := 13) rfl)
theorem tw_29_14 : Cond.selects RX2 yX2_put yX2_put ∈ TT := wr_29 _ (List.mem_of_getElem? (i := 14) rfl)
theorem tw_29_15 : Cond.code yX2_put cX2_put 2 none ∈ TT := wr_29 _ (List.mem_of_getElem? (i := 15) rfl)
theorem tw_29_16 : Cond.methodLink RL 141 yX5_feed ∈ TT := wr_29 _ (List.mem_of_getElem? (i := 16) rfl)
theorem tw_29_17 : Cond.instanceMethod yX5_feed ∈ TT := wr_29 _ (List.mem_of_getElem? (i := 17) rfl)
theorem tw_29_18 : Cond.selects RX5 yX5_feed yX5_feed ∈ TT := wr_29 _ (List.mem_of_getElem? (i := 18) rfl)
theorem tw_29_19 : Cond.code yX5_feed cX5_feed 4 (some .int) ∈ TT := wr_29 _ (List.mem_of_getElem? (i := 19) rfl)
theorem tw_29_20 : Cond.fieldLink RX5 220 "LineCallsModel" "taped" "I" ∈ TT := wr_29 _ (List.mem_of_getElem? (i := 20) rfl)
theorem tw_29_21 : Cond.methodLink RL 142 yX4_wipe ∈ TT := wr_29 _ (List.mem_of_getElem? (i := 21) rfl)
theorem tw_29_22 : Cond.instanceMethod yX4_wipe ∈ TT := wr_29 _ (List.mem_of_getElem? (i := 22) rfl)
theorem tw_29_23 : Cond.selects RX4 yX4_wipe yX4_wipe ∈ TT := wr_29 _ (List.mem_of_getElem? (i := 23) rfl)
theorem tw_30_0 : Cond.code yX4_wipe cX4_wipe 2 (some .int) ∈ TT := wr_30 _ (List.mem_of_getElem? (i := 0) rfl)
theorem tw_30_1 : Cond.methodLink RL 145 yX5_wipe ∈ TT := wr_30 _ (List.mem_of_getElem? (i := 1) rfl)
theorem tw_30_2 : Cond.instanceMethod yX5_wipe ∈ TT := wr_30 _ (List.mem_of_getElem? (i := 2) rfl)
theorem tw_30_3 : Cond.selects RX5 yX5_wipe yX5_wipe ∈ TT := wr_30 _ (List.mem_of_getElem? (i := 3) rfl)
theorem tw_30_4 : Cond.code yX5_wipe cX5_wipe 2 (some .int) ∈ TT := wr_30 _ (List.mem_of_getElem? (i := 4) rfl)
theorem tw_30_5 : Cond.methodLink RL 146 yX4_text ∈ TT := wr_30 _ (List.mem_of_getElem? (i := 5) rfl)
theorem tw_30_6 : Cond.instanceMethod yX4_text ∈ TT := wr_30 _ (List.mem_of_getElem? (i := 6) rfl)
theorem tw_30_7 : Cond.selects RX4 yX4_text yX4_text ∈ TT := wr_30 _ (List.mem_of_getElem? (i := 7) rfl)
theorem tw_30_8 : Cond.code yX4_text cX4_text 2 (some .int) ∈ TT := wr_30 _ (List.mem_of_getElem? (i := 8) rfl)
theorem tw_30_9 : Cond.methodLink RX4 207 yX3_readInto ∈ TT := wr_30 _ (List.mem_of_getElem? (i := 9) rfl)
theorem tw_30_10 : Cond.instanceMethod yX3_readInto ∈ TT := wr_30 _ (List.mem_of_getElem? (i := 10) rfl)
theorem tw_30_11 : Cond.selects RX3 yX3_readInto yX3_readInto ∈ TT := wr_30 _ (List.mem_of_getElem? (i := 11) rfl)
theorem tw_30_12 : Cond.code yX3_readInto cX3_readInto 3 (some .int) ∈ TT := wr_30 _ (List.mem_of_getElem? (i := 12) rfl)
theorem tw_30_13 : Cond.fieldLink RX3 25 "LineCalls$Tape" "start" "I" ∈ TT := wr_30 _ (List.mem_of_getElem? (i := 13) rfl)
theorem tw_30_14 : Cond.fieldLink RX3 29 "LineCalls$Tape" "token" "I" ∈ TT := wr_30 _ (List.mem_of_getElem? (i := 14) rfl)
theorem tw_30_15 : Cond.methodLink RX3 18 yX2_rewind ∈ TT := wr_30 _ (List.mem_of_getElem? (i := 15) rfl)
theorem tw_30_16 : Cond.instanceMethod yX2_rewind ∈ TT := wr_30 _ (List.mem_of_getElem? (i := 16) rfl)
theorem tw_30_17 : Cond.selects RX2 yX2_rewind yX2_rewind ∈ TT := wr_30 _ (List.mem_of_getElem? (i := 17) rfl)
theorem tw_30_18 : Cond.code yX2_rewind cX2_rewind 1 none ∈ TT := wr_30 _ (List.mem_of_getElem? (i := 18) rfl)
theorem tw_30_19 : Cond.methodLink RX2 31 yX2_step ∈ TT := wr_30 _ (List.mem_of_getElem? (i := 19) rfl)
theorem tw_30_20 : Cond.instanceMethod yX2_step ∈ TT := wr_30 _ (List.mem_of_getElem? (i := 20) rfl)
theorem tw_30_21 : Cond.selects RX2 yX2_step yX2_step ∈ TT := wr_30 _ (List.mem_of_getElem? (i := 21) rfl)
theorem tw_30_22 : Cond.code yX2_step cX2_step 1 none ∈ TT := wr_30 _ (List.mem_of_getElem? (i := 22) rfl)
theorem tw_30_23 : Cond.methodLink RX2 34 yX2_isLetter ∈ TT := wr_30 _ (List.mem_of_getElem? (i := 23) rfl)
theorem tw_31_0 : Cond.instanceMethod yX2_isLetter ∈ TT := wr_31 _ (List.mem_of_getElem? (i := 0) rfl)
theorem tw_31_1 : Cond.selects RX2 yX2_isLetter yX2_isLetter ∈ TT := wr_31 _ (List.mem_of_getElem? (i := 1) rfl)
theorem tw_31_2 : Cond.code yX2_isLetter cX2_isLetter 2 (some .boolean) ∈ TT := wr_31 _ (List.mem_of_getElem? (i := 2) rfl)
theorem tw_31_3 : Cond.methodLink RX2 38 yX2_takeWord ∈ TT := wr_31 _ (List.mem_of_getElem? (i := 3) rfl)
theorem tw_31_4 : Cond.instanceMethod yX2_takeWord ∈ TT := wr_31 _ (List.mem_of_getElem? (i := 4) rfl)
theorem tw_31_5 : Cond.selects RX2 yX2_takeWord yX2_takeWord ∈ TT := wr_31 _ (List.mem_of_getElem? (i := 5) rfl)
theorem tw_31_6 : Cond.code yX2_takeWord cX2_takeWord 2 none ∈ TT := wr_31 _ (List.mem_of_getElem? (i := 6) rfl)
theorem tw_31_7 : Cond.methodLink RX2 53 yX2_spelling ∈ TT := wr_31 _ (List.mem_of_getElem? (i := 7) rfl)
theorem tw_31_8 : Cond.static yX2_spelling ∈ TT := wr_31 _ (List.mem_of_getElem? (i := 8) rfl)
theorem tw_31_9 : Cond.code yX2_spelling cX2_spelling 1 (some (.object "java/lang/String")) ∈ TT := wr_31 _ (List.mem_of_getElem? (i := 9) rfl)
theorem tw_31_10 : Cond.methodLink RX2 57 yX2_isSpelled ∈ TT := wr_31 _ (List.mem_of_getElem? (i := 10) rfl)
theorem tw_31_11 : Cond.instanceMethod yX2_isSpelled ∈ TT := wr_31 _ (List.mem_of_getElem? (i := 11) rfl)
theorem tw_31_12 : Cond.selects RX2 yX2_isSpelled yX2_isSpelled ∈ TT := wr_31 _ (List.mem_of_getElem? (i := 12) rfl)
theorem tw_31_13 : Cond.code yX2_isSpelled cX2_isSpelled 3 (some .boolean) ∈ TT := wr_31 _ (List.mem_of_getElem? (i := 13) rfl)
theorem tw_31_14 : Cond.methodLink RX2 61 yJ0_length_8abf5 ∈ TT := wr_31 _ (List.mem_of_getElem? (i := 14) rfl)
theorem tw_31_15 : Cond.instanceMethod yJ0_length_8abf5 ∈ TT := wr_31 _ (List.mem_of_getElem? (i := 15) rfl)
theorem tw_31_16 : Cond.selects RJ0 yJ0_length_8abf5 yJ0_length_8abf5 ∈ TT := wr_31 _ (List.mem_of_getElem? (i := 16) rfl)
theorem tw_31_17 : Cond.initialized RJ0 ∈ TT := wr_31 _ (List.mem_of_getElem? (i := 17) rfl)
theorem tw_31_18 : Cond.code yJ0_length_8abf5 cJ0_length_8abf5 1 (some .int) ∈ TT := wr_31 _ (List.mem_of_getElem? (i := 18) rfl)
theorem tw_31_19 : Cond.fieldLink RJ0 9 "java/lang/String" "value" "[B" ∈ TT := wr_31 _ (List.mem_of_getElem? (i := 19) rfl)
theorem tw_31_20 : Cond.methodLink RJ0 335 yJ0_coder_7d493 ∈ TT := wr_31 _ (List.mem_of_getElem? (i := 20) rfl)
theorem tw_31_21 : Cond.instanceMethod yJ0_coder_7d493 ∈ TT := wr_31 _ (List.mem_of_getElem? (i := 21) rfl)
theorem tw_31_22 : Cond.selects RJ0 yJ0_coder_7d493 yJ0_coder_7d493 ∈ TT := wr_31 _ (List.mem_of_getElem? (i := 22) rfl)
theorem tw_31_23 : Cond.code yJ0_coder_7d493 cJ0_coder_7d493 1 (some .byte) ∈ TT := wr_31 _ (List.mem_of_getElem? (i := 23) rfl)
theorem tw_32_0 : Cond.fieldLink RJ0 38 "java/lang/String" "COMPACT_STRINGS" "Z" ∈ TT := wr_32 _ (List.mem_of_getElem? (i := 0) rfl)
theorem tw_32_1 : Cond.fieldLink RJ0 15 "java/lang/String" "coder" "B" ∈ TT := wr_32 _ (List.mem_of_getElem? (i := 1) rfl)
theorem tw_32_2 : Cond.methodLink RX2 67 yJ0_charAt_5068e ∈ TT := wr_32 _ (List.mem_of_getElem? (i := 2) rfl)
theorem tw_32_3 : Cond.instanceMethod yJ0_charAt_5068e ∈ TT := wr_32 _ (List.mem_of_getElem? (i := 3) rfl)
theorem tw_32_4 : Cond.selects RJ0 yJ0_charAt_5068e yJ0_charAt_5068e ∈ TT := wr_32 _ (List.mem_of_getElem? (i := 4) rfl)
theorem tw_32_5 : Cond.code yJ0_charAt_5068e cJ0_charAt_5068e 2 (some .char) ∈ TT := wr_32 _ (List.mem_of_getElem? (i := 5) rfl)
theorem tw_32_6 : Cond.methodLink RJ0 492 yJ0_isLatin1_aae02 ∈ TT := wr_32 _ (List.mem_of_getElem? (i := 6) rfl)
theorem tw_32_7 : Cond.instanceMethod yJ0_isLatin1_aae02 ∈ TT := wr_32 _ (List.mem_of_getElem? (i := 7) rfl)
theorem tw_32_8 : Cond.selects RJ0 yJ0_isLatin1_aae02 yJ0_isLatin1_aae02 ∈ TT := wr_32 _ (List.mem_of_getElem? (i := 8) rfl)
theorem tw_32_9 : Cond.code yJ0_isLatin1_aae02 cJ0_isLatin1_aae02 1 (some .boolean) ∈ TT := wr_32 _ (List.mem_of_getElem? (i := 9) rfl)
theorem tw_32_10 : Cond.methodLink RJ0 495 yJ1_charAt_3b067 ∈ TT := wr_32 _ (List.mem_of_getElem? (i := 10) rfl)
theorem tw_32_11 : Cond.static yJ1_charAt_3b067 ∈ TT := wr_32 _ (List.mem_of_getElem? (i := 11) rfl)
theorem tw_32_12 : Cond.initialized RJ1 ∈ TT := wr_32 _ (List.mem_of_getElem? (i := 12) rfl)
theorem tw_32_13 : Cond.code yJ1_charAt_3b067 cJ1_charAt_3b067 2 (some .char) ∈ TT := wr_32 _ (List.mem_of_getElem? (i := 13) rfl)
theorem tw_32_14 : Cond.methodLink RJ1 9 yJ0_checkIndex_df160 ∈ TT := wr_32 _ (List.mem_of_getElem? (i := 14) rfl)
theorem tw_32_15 : Cond.static yJ0_checkIndex_df160 ∈ TT := wr_32 _ (List.mem_of_getElem? (i := 15) rfl)
theorem tw_32_16 : Cond.code yJ0_checkIndex_df160 cJ0_checkIndex_df160 2 none ∈ TT := wr_32 _ (List.mem_of_getElem? (i := 16) rfl)
theorem tw_32_17 : Cond.fieldLink RJ0 1053 "jdk/internal/util/Preconditions" "SIOOBE_FORMATTER" "Ljava/util/function/BiFunction;" ∈ TT := wr_32 _ (List.mem_of_getElem? (i := 17) rfl)
theorem tw_32_18 : Cond.methodLink RJ0 1059 yJ3_checkIndex_8e157 ∈ TT := wr_32 _ (List.mem_of_getElem? (i := 18) rfl)
theorem tw_32_19 : Cond.static yJ3_checkIndex_8e157 ∈ TT := wr_32 _ (List.mem_of_getElem? (i := 19) rfl)
theorem tw_32_20 : Cond.initialized RJ3 ∈ TT := wr_32 _ (List.mem_of_getElem? (i := 20) rfl)
theorem tw_32_21 : Cond.code yJ3_checkIndex_8e157 cJ3_checkIndex_8e157 3 (some .int) ∈ TT := wr_32 _ (List.mem_of_getElem? (i := 21) rfl)
theorem tw_32_22 : Cond.methodLink RJ0 498 yJ2_charAt_3b067 ∈ TT := wr_32 _ (List.mem_of_getElem? (i := 22) rfl)
theorem tw_32_23 : Cond.static yJ2_charAt_3b067 ∈ TT := wr_32 _ (List.mem_of_getElem? (i := 23) rfl)
theorem tw_33_0 : Cond.initialized RJ2 ∈ TT := wr_33 _ (List.mem_of_getElem? (i := 0) rfl)
theorem tw_33_1 : Cond.code yJ2_charAt_3b067 cJ2_charAt_3b067 2 (some .char) ∈ TT := wr_33 _ (List.mem_of_getElem? (i := 1) rfl)
theorem tw_33_2 : Cond.methodLink RJ2 67 yJ2_checkIndex_2214a ∈ TT := wr_33 _ (List.mem_of_getElem? (i := 2) rfl)
theorem tw_33_3 : Cond.static yJ2_checkIndex_2214a ∈ TT := wr_33 _ (List.mem_of_getElem? (i := 3) rfl)
theorem tw_33_4 : Cond.code yJ2_checkIndex_2214a cJ2_checkIndex_2214a 2 none ∈ TT := wr_33 _ (List.mem_of_getElem? (i := 4) rfl)
theorem tw_33_5 : Cond.methodLink RJ2 48 yJ2_length_9d52b ∈ TT := wr_33 _ (List.mem_of_getElem? (i := 5) rfl)
theorem tw_33_6 : Cond.static yJ2_length_9d52b ∈ TT := wr_33 _ (List.mem_of_getElem? (i := 6) rfl)
theorem tw_33_7 : Cond.code yJ2_length_9d52b cJ2_length_9d52b 1 (some .int) ∈ TT := wr_33 _ (List.mem_of_getElem? (i := 7) rfl)
theorem tw_33_8 : Cond.methodLink RJ2 414 yJ0_checkIndex_df160 ∈ TT := wr_33 _ (List.mem_of_getElem? (i := 8) rfl)
theorem tw_33_9 : Cond.methodLink RJ2 71 yJ2_getChar_3b067 ∈ TT := wr_33 _ (List.mem_of_getElem? (i := 9) rfl)
theorem tw_33_10 : Cond.static yJ2_getChar_3b067 ∈ TT := wr_33 _ (List.mem_of_getElem? (i := 10) rfl)
theorem tw_33_11 : Cond.code yJ2_getChar_3b067 cJ2_getChar_3b067 2 (some .char) ∈ TT := wr_33 _ (List.mem_of_getElem? (i := 11) rfl)
theorem tw_33_12 : Cond.fieldLink RJ2 44 "java/lang/StringUTF16" "$assertionsDisabled" "Z" ∈ TT := wr_33 _ (List.mem_of_getElem? (i := 12) rfl)
theorem tw_33_13 : Cond.fieldLink RJ2 59 "java/lang/StringUTF16" "HI_BYTE_SHIFT" "I" ∈ TT := wr_33 _ (List.mem_of_getElem? (i := 13) rfl)
theorem tw_33_14 : Cond.fieldLink RJ2 63 "java/lang/StringUTF16" "LO_BYTE_SHIFT" "I" ∈ TT := wr_33 _ (List.mem_of_getElem? (i := 14) rfl)
theorem tw_33_15 : Cond.methodLink RX2 41 yX2_isDigit ∈ TT := wr_33 _ (List.mem_of_getElem? (i := 15) rfl)
theorem tw_33_16 : Cond.instanceMethod yX2_isDigit ∈ TT := wr_33 _ (List.mem_of_getElem? (i := 16) rfl)
theorem tw_33_17 : Cond.selects RX2 yX2_isDigit yX2_isDigit ∈ TT := wr_33 _ (List.mem_of_getElem? (i := 17) rfl)
theorem tw_33_18 : Cond.code yX2_isDigit cX2_isDigit 2 (some .boolean) ∈ TT := wr_33 _ (List.mem_of_getElem? (i := 18) rfl)
theorem tw_33_19 : Cond.methodLink RX2 44 yX2_takeNumber ∈ TT := wr_33 _ (List.mem_of_getElem? (i := 19) rfl)
theorem tw_33_20 : Cond.instanceMethod yX2_takeNumber ∈ TT := wr_33 _ (List.mem_of_getElem? (i := 20) rfl)
theorem tw_33_21 : Cond.selects RX2 yX2_takeNumber yX2_takeNumber ∈ TT := wr_33 _ (List.mem_of_getElem? (i := 21) rfl)
theorem tw_33_22 : Cond.code yX2_takeNumber cX2_takeNumber 1 none ∈ TT := wr_33 _ (List.mem_of_getElem? (i := 22) rfl)
theorem tw_33_23 : Cond.methodLink RX2 47 Lib.Math.min.name ∈ TT := wr_33 _ (List.mem_of_getElem? (i := 23) rfl)
theorem tw_34_0 : Cond.methodLink RX3 21 yX3_readItem ∈ TT := wr_34 _ (List.mem_of_getElem? (i := 0) rfl)
theorem tw_34_1 : Cond.instanceMethod yX3_readItem ∈ TT := wr_34 _ (List.mem_of_getElem? (i := 1) rfl)
theorem tw_34_2 : Cond.selects RX3 yX3_readItem yX3_readItem ∈ TT := wr_34 _ (List.mem_of_getElem? (i := 2) rfl)
theorem tw_34_3 : Cond.code yX3_readItem cX3_readItem 3 (some .boolean) ∈ TT := wr_34 _ (List.mem_of_getElem? (i := 3) rfl)
theorem tw_34_4 : Cond.fieldLink RX3 35 "LineCalls$Tape" "value" "I" ∈ TT := wr_34 _ (List.mem_of_getElem? (i := 4) rfl)
theorem tw_34_5 : Cond.fieldLink RX3 42 "LineCalls$Line" "theirHigh" "[I" ∈ TT := wr_34 _ (List.mem_of_getElem? (i := 5) rfl)
theorem tw_34_6 : Cond.fieldLink RX3 52 "LineCalls$Line" "list" "[I" ∈ TT := wr_34 _ (List.mem_of_getElem? (i := 6) rfl)
theorem tw_34_7 : Cond.methodLink RX3 48 yX3_readPair ∈ TT := wr_34 _ (List.mem_of_getElem? (i := 7) rfl)
theorem tw_34_8 : Cond.instanceMethod yX3_readPair ∈ TT := wr_34 _ (List.mem_of_getElem? (i := 8) rfl)
theorem tw_34_9 : Cond.selects RX3 yX3_readPair yX3_readPair ∈ TT := wr_34 _ (List.mem_of_getElem? (i := 9) rfl)
theorem tw_34_10 : Cond.code yX3_readPair cX3_readPair 5 (some .boolean) ∈ TT := wr_34 _ (List.mem_of_getElem? (i := 10) rfl)
theorem tw_34_11 : Cond.methodLink RX3 32 yX2_step ∈ TT := wr_34 _ (List.mem_of_getElem? (i := 11) rfl)
theorem tw_34_12 : Cond.methodLink RX3 62 yX2_isNumber ∈ TT := wr_34 _ (List.mem_of_getElem? (i := 12) rfl)
theorem tw_34_13 : Cond.instanceMethod yX2_isNumber ∈ TT := wr_34 _ (List.mem_of_getElem? (i := 13) rfl)
theorem tw_34_14 : Cond.selects RX2 yX2_isNumber yX2_isNumber ∈ TT := wr_34 _ (List.mem_of_getElem? (i := 14) rfl)
theorem tw_34_15 : Cond.code yX2_isNumber cX2_isNumber 2 (some .boolean) ∈ TT := wr_34 _ (List.mem_of_getElem? (i := 15) rfl)
theorem tw_34_16 : Cond.methodLink RX3 55 yX3_readSetting ∈ TT := wr_34 _ (List.mem_of_getElem? (i := 16) rfl)
theorem tw_34_17 : Cond.instanceMethod yX3_readSetting ∈ TT := wr_34 _ (List.mem_of_getElem? (i := 17) rfl)
theorem tw_34_18 : Cond.selects RX3 yX3_readSetting yX3_readSetting ∈ TT := wr_34 _ (List.mem_of_getElem? (i := 18) rfl)
theorem tw_34_19 : Cond.code yX3_readSetting cX3_readSetting 3 (some .boolean) ∈ TT := wr_34 _ (List.mem_of_getElem? (i := 19) rfl)
theorem tw_34_20 : Cond.methodLink RX3 70 yX0_putSetting ∈ TT := wr_34 _ (List.mem_of_getElem? (i := 20) rfl)
theorem tw_34_21 : Cond.methodLink RX3 59 yX3_readJumper ∈ TT := wr_34 _ (List.mem_of_getElem? (i := 21) rfl)
theorem tw_34_22 : Cond.instanceMethod yX3_readJumper ∈ TT := wr_34 _ (List.mem_of_getElem? (i := 22) rfl)
theorem tw_34_23 : Cond.selects RX3 yX3_readJumper yX3_readJumper ∈ TT := wr_34 _ (List.mem_of_getElem? (i := 23) rfl)
theorem tw_35_0 : Cond.code yX3_readJumper cX3_readJumper 4 (some .boolean) ∈ TT := wr_35 _ (List.mem_of_getElem? (i := 0) rfl)
theorem tw_35_1 : Cond.fieldLink RX3 74 "LineCalls$Line" "jumpers" "I" ∈ TT := wr_35 _ (List.mem_of_getElem? (i := 1) rfl)
theorem tw_35_2 : Cond.fieldLink RX3 83 "LineCalls$Line" "standing" "[I" ∈ TT := wr_35 _ (List.mem_of_getElem? (i := 2) rfl)
theorem tw_35_3 : Cond.fieldLink RX3 86 "LineCalls$Line" "tall" "[I" ∈ TT := wr_35 _ (List.mem_of_getElem? (i := 3) rfl)
theorem tw_35_4 : Cond.methodLink RX3 77 yX0_join ∈ TT := wr_35 _ (List.mem_of_getElem? (i := 4) rfl)
theorem tw_35_5 : Cond.methodLink RX3 80 yX2_isWord ∈ TT := wr_35 _ (List.mem_of_getElem? (i := 5) rfl)
theorem tw_35_6 : Cond.instanceMethod yX2_isWord ∈ TT := wr_35 _ (List.mem_of_getElem? (i := 6) rfl)
theorem tw_35_7 : Cond.selects RX2 yX2_isWord yX2_isWord ∈ TT := wr_35 _ (List.mem_of_getElem? (i := 7) rfl)
theorem tw_35_8 : Cond.code yX2_isWord cX2_isWord 2 (some .boolean) ∈ TT := wr_35 _ (List.mem_of_getElem? (i := 8) rfl)
theorem tw_35_9 : Cond.methodLink RL 149 yX5_text ∈ TT := wr_35 _ (List.mem_of_getElem? (i := 9) rfl)
theorem tw_35_10 : Cond.instanceMethod yX5_text ∈ TT := wr_35 _ (List.mem_of_getElem? (i := 10) rfl)
theorem tw_35_11 : Cond.selects RX5 yX5_text yX5_text ∈ TT := wr_35 _ (List.mem_of_getElem? (i := 11) rfl)
theorem tw_35_12 : Cond.code yX5_text cX5_text 2 (some .int) ∈ TT := wr_35 _ (List.mem_of_getElem? (i := 12) rfl)
theorem tw_35_13 : Cond.fieldLink RX5 223 "LineCallsModel" "ends" "I" ∈ TT := wr_35 _ (List.mem_of_getElem? (i := 13) rfl)
theorem tw_35_14 : Cond.fieldLink RX5 245 "LineCallsModel" "isWrong" "Z" ∈ TT := wr_35 _ (List.mem_of_getElem? (i := 14) rfl)
theorem tw_35_15 : Cond.fieldLink RX5 256 "LineCallsModel" "itemMany" "I" ∈ TT := wr_35 _ (List.mem_of_getElem? (i := 15) rfl)
theorem tw_35_16 : Cond.fieldLink RX5 266 "LineCallsModel" "jumpersThen" "I" ∈ TT := wr_35 _ (List.mem_of_getElem? (i := 16) rfl)
theorem tw_35_17 : Cond.fieldLink RX5 263 "LineCallsModel" "takenThen" "I" ∈ TT := wr_35 _ (List.mem_of_getElem? (i := 17) rfl)
theorem tw_35_18 : Cond.fieldLink RX5 235 "LineCallsModel" "sort" "I" ∈ TT := wr_35 _ (List.mem_of_getElem? (i := 18) rfl)
theorem tw_35_19 : Cond.fieldLink RX5 226 "LineCallsModel" "begins" "I" ∈ TT := wr_35 _ (List.mem_of_getElem? (i := 19) rfl)
theorem tw_35_20 : Cond.methodLink RX5 249 yX5_token ∈ TT := wr_35 _ (List.mem_of_getElem? (i := 20) rfl)
theorem tw_35_21 : Cond.instanceMethod yX5_token ∈ TT := wr_35 _ (List.mem_of_getElem? (i := 21) rfl)
theorem tw_35_22 : Cond.selects RX5 yX5_token yX5_token ∈ TT := wr_35 _ (List.mem_of_getElem? (i := 22) rfl)
theorem tw_35_23 : Cond.code yX5_token cX5_token 2 none ∈ TT := wr_35 _ (List.mem_of_getElem? (i := 23) rfl)
theorem tw_36_0 : Cond.fieldLink RX5 232 "LineCallsModel" "value" "I" ∈ TT := wr_36 _ (List.mem_of_getElem? (i := 0) rfl)
theorem tw_36_1 : Cond.methodLink RX5 229 yX5_byteAt ∈ TT := wr_36 _ (List.mem_of_getElem? (i := 1) rfl)
theorem tw_36_2 : Cond.instanceMethod yX5_byteAt ∈ TT := wr_36 _ (List.mem_of_getElem? (i := 2) rfl)
theorem tw_36_3 : Cond.selects RX5 yX5_byteAt yX5_byteAt ∈ TT := wr_36 _ (List.mem_of_getElem? (i := 3) rfl)
theorem tw_36_4 : Cond.code yX5_byteAt cX5_byteAt 2 (some .int) ∈ TT := wr_36 _ (List.mem_of_getElem? (i := 4) rfl)
theorem tw_36_5 : Cond.methodLink RX5 299 yX5_readItem ∈ TT := wr_36 _ (List.mem_of_getElem? (i := 5) rfl)
theorem tw_36_6 : Cond.instanceMethod yX5_readItem ∈ TT := wr_36 _ (List.mem_of_getElem? (i := 6) rfl)
theorem tw_36_7 : Cond.selects RX5 yX5_readItem yX5_readItem ∈ TT := wr_36 _ (List.mem_of_getElem? (i := 7) rfl)
theorem tw_36_8 : Cond.code yX5_readItem cX5_readItem 3 none ∈ TT := wr_36 _ (List.mem_of_getElem? (i := 8) rfl)
theorem tw_36_9 : Cond.methodLink RX5 259 yX5_isWord ∈ TT := wr_36 _ (List.mem_of_getElem? (i := 9) rfl)
theorem tw_36_10 : Cond.instanceMethod yX5_isWord ∈ TT := wr_36 _ (List.mem_of_getElem? (i := 10) rfl)
theorem tw_36_11 : Cond.selects RX5 yX5_isWord yX5_isWord ∈ TT := wr_36 _ (List.mem_of_getElem? (i := 11) rfl)
theorem tw_36_12 : Cond.code yX5_isWord cX5_isWord 4 (some .boolean) ∈ TT := wr_36 _ (List.mem_of_getElem? (i := 12) rfl)
theorem tw_36_13 : Cond.methodLink RX5 238 yJ0_length_8abf5 ∈ TT := wr_36 _ (List.mem_of_getElem? (i := 13) rfl)
theorem tw_36_14 : Cond.methodLink RX5 241 yJ0_charAt_5068e ∈ TT := wr_36 _ (List.mem_of_getElem? (i := 14) rfl)
theorem tw_36_15 : Cond.methodLink RX5 286 yX5_readJumper ∈ TT := wr_36 _ (List.mem_of_getElem? (i := 15) rfl)
theorem tw_36_16 : Cond.instanceMethod yX5_readJumper ∈ TT := wr_36 _ (List.mem_of_getElem? (i := 16) rfl)
theorem tw_36_17 : Cond.selects RX5 yX5_readJumper yX5_readJumper ∈ TT := wr_36 _ (List.mem_of_getElem? (i := 17) rfl)
theorem tw_36_18 : Cond.code yX5_readJumper cX5_readJumper 4 none ∈ TT := wr_36 _ (List.mem_of_getElem? (i := 18) rfl)
theorem tw_36_19 : Cond.methodLink RX5 252 yX5_must ∈ TT := wr_36 _ (List.mem_of_getElem? (i := 19) rfl)
theorem tw_36_20 : Cond.instanceMethod yX5_must ∈ TT := wr_36 _ (List.mem_of_getElem? (i := 20) rfl)
theorem tw_36_21 : Cond.selects RX5 yX5_must yX5_must ∈ TT := wr_36 _ (List.mem_of_getElem? (i := 21) rfl)
theorem tw_36_22 : Cond.code yX5_must cX5_must 2 none ∈ TT := wr_36 _ (List.mem_of_getElem? (i := 22) rfl)
theorem tw_36_23 : Cond.methodLink RX5 271 yX5_takesWord ∈ TT := wr_36 _ (List.mem_of_getElem? (i := 23) rfl)
theorem tw_37_0 : Cond.instanceMethod yX5_takesWord ∈ TT := wr_37 _ (List.mem_of_getElem? (i := 0) rfl)
theorem tw_37_1 : Cond.selects RX5 yX5_takesWord yX5_takesWord ∈ TT := wr_37 _ (List.mem_of_getElem? (i := 1) rfl)
theorem tw_37_2 : Cond.code yX5_takesWord cX5_takesWord 3 (some .boolean) ∈ TT := wr_37 _ (List.mem_of_getElem? (i := 2) rfl)
theorem tw_37_3 : Cond.methodLink RX5 274 yX5_freePlace ∈ TT := wr_37 _ (List.mem_of_getElem? (i := 3) rfl)
theorem tw_37_4 : Cond.instanceMethod yX5_freePlace ∈ TT := wr_37 _ (List.mem_of_getElem? (i := 4) rfl)
theorem tw_37_5 : Cond.selects RX5 yX5_freePlace yX5_freePlace ∈ TT := wr_37 _ (List.mem_of_getElem? (i := 5) rfl)
theorem tw_37_6 : Cond.code yX5_freePlace cX5_freePlace 2 (some .int) ∈ TT := wr_37 _ (List.mem_of_getElem? (i := 6) rfl)
theorem tw_37_7 : Cond.methodLink RX5 279 yX5_number ∈ TT := wr_37 _ (List.mem_of_getElem? (i := 7) rfl)
theorem tw_37_8 : Cond.instanceMethod yX5_number ∈ TT := wr_37 _ (List.mem_of_getElem? (i := 8) rfl)
theorem tw_37_9 : Cond.selects RX5 yX5_number yX5_number ∈ TT := wr_37 _ (List.mem_of_getElem? (i := 9) rfl)
theorem tw_37_10 : Cond.code yX5_number cX5_number 4 (some .int) ∈ TT := wr_37 _ (List.mem_of_getElem? (i := 10) rfl)
theorem tw_37_11 : Cond.methodLink RX5 282 yX5_addItem ∈ TT := wr_37 _ (List.mem_of_getElem? (i := 11) rfl)
theorem tw_37_12 : Cond.instanceMethod yX5_addItem ∈ TT := wr_37 _ (List.mem_of_getElem? (i := 12) rfl)
theorem tw_37_13 : Cond.selects RX5 yX5_addItem yX5_addItem ∈ TT := wr_37 _ (List.mem_of_getElem? (i := 13) rfl)
theorem tw_37_14 : Cond.code yX5_addItem cX5_addItem 4 none ∈ TT := wr_37 _ (List.mem_of_getElem? (i := 14) rfl)
theorem tw_37_15 : Cond.methodLink RX5 302 yX5_isToldSo ∈ TT := wr_37 _ (List.mem_of_getElem? (i := 15) rfl)
theorem tw_37_16 : Cond.instanceMethod yX5_isToldSo ∈ TT := wr_37 _ (List.mem_of_getElem? (i := 16) rfl)
theorem tw_37_17 : Cond.selects RX5 yX5_isToldSo yX5_isToldSo ∈ TT := wr_37 _ (List.mem_of_getElem? (i := 17) rfl)
theorem tw_37_18 : Cond.code yX5_isToldSo cX5_isToldSo 5 none ∈ TT := wr_37 _ (List.mem_of_getElem? (i := 18) rfl)
theorem tw_37_19 : Cond.methodLink RL 150 yX4_hold ∈ TT := wr_37 _ (List.mem_of_getElem? (i := 19) rfl)
theorem tw_37_20 : Cond.instanceMethod yX4_hold ∈ TT := wr_37 _ (List.mem_of_getElem? (i := 20) rfl)
theorem tw_37_21 : Cond.selects RX4 yX4_hold yX4_hold ∈ TT := wr_37 _ (List.mem_of_getElem? (i := 21) rfl)
theorem tw_37_22 : Cond.code yX4_hold cX4_hold 3 (some .int) ∈ TT := wr_37 _ (List.mem_of_getElem? (i := 22) rfl)
theorem tw_37_23 : Cond.fieldLink RX4 211 "LineCalls$Line" "spots" "[I" ∈ TT := wr_37 _ (List.mem_of_getElem? (i := 23) rfl)
theorem tw_38_0 : Cond.methodLink RL 153 yX5_hold ∈ TT := wr_38 _ (List.mem_of_getElem? (i := 0) rfl)
theorem tw_38_1 : Cond.instanceMethod yX5_hold ∈ TT := wr_38 _ (List.mem_of_getElem? (i := 1) rfl)
theorem tw_38_2 : Cond.selects RX5 yX5_hold yX5_hold ∈ TT := wr_38 _ (List.mem_of_getElem? (i := 2) rfl)
theorem tw_38_3 : Cond.code yX5_hold cX5_hold 3 (some .int) ∈ TT := wr_38 _ (List.mem_of_getElem? (i := 3) rfl)
theorem tw_38_4 : Cond.methodLink RX5 305 yX5_isSpot ∈ TT := wr_38 _ (List.mem_of_getElem? (i := 4) rfl)
theorem tw_38_5 : Cond.static yX5_isSpot ∈ TT := wr_38 _ (List.mem_of_getElem? (i := 5) rfl)
theorem tw_38_6 : Cond.code yX5_isSpot cX5_isSpot 1 (some .boolean) ∈ TT := wr_38 _ (List.mem_of_getElem? (i := 6) rfl)
theorem tw_38_7 : Cond.methodLink RL 154 yX4_as ∈ TT := wr_38 _ (List.mem_of_getElem? (i := 7) rfl)
theorem tw_38_8 : Cond.instanceMethod yX4_as ∈ TT := wr_38 _ (List.mem_of_getElem? (i := 8) rfl)
theorem tw_38_9 : Cond.selects RX4 yX4_as yX4_as ∈ TT := wr_38 _ (List.mem_of_getElem? (i := 9) rfl)
theorem tw_38_10 : Cond.code yX4_as cX4_as 4 (some .int) ∈ TT := wr_38 _ (List.mem_of_getElem? (i := 10) rfl)
theorem tw_38_11 : Cond.methodLink RX4 214 yX4_isKindOf ∈ TT := wr_38 _ (List.mem_of_getElem? (i := 11) rfl)
theorem tw_38_12 : Cond.static yX4_isKindOf ∈ TT := wr_38 _ (List.mem_of_getElem? (i := 12) rfl)
theorem tw_38_13 : Cond.code yX4_isKindOf cX4_isKindOf 4 (some .boolean) ∈ TT := wr_38 _ (List.mem_of_getElem? (i := 13) rfl)
theorem tw_38_14 : Cond.fieldLink RX4 255 "LineCalls" "UNDER" "[I" ∈ TT := wr_38 _ (List.mem_of_getElem? (i := 14) rfl)
theorem tw_38_15 : Cond.methodLink RL 157 yX5_as ∈ TT := wr_38 _ (List.mem_of_getElem? (i := 15) rfl)
theorem tw_38_16 : Cond.instanceMethod yX5_as ∈ TT := wr_38 _ (List.mem_of_getElem? (i := 16) rfl)
theorem tw_38_17 : Cond.selects RX5 yX5_as yX5_as ∈ TT := wr_38 _ (List.mem_of_getElem? (i := 17) rfl)
theorem tw_38_18 : Cond.code yX5_as cX5_as 4 (some .int) ∈ TT := wr_38 _ (List.mem_of_getElem? (i := 18) rfl)
theorem tw_38_19 : Cond.constant RX5 311 (-1000003) ∈ TT := wr_38 _ (List.mem_of_getElem? (i := 19) rfl)
theorem tw_38_20 : Cond.methodLink RX5 308 yX5_isUnder ∈ TT := wr_38 _ (List.mem_of_getElem? (i := 20) rfl)
theorem tw_38_21 : Cond.static yX5_isUnder ∈ TT := wr_38 _ (List.mem_of_getElem? (i := 21) rfl)
theorem tw_38_22 : Cond.code yX5_isUnder cX5_isUnder 3 (some .boolean) ∈ TT := wr_38 _ (List.mem_of_getElem? (i := 22) rfl)
theorem tw_38_23 : Cond.methodLink RX5 316 yX5_above ∈ TT := wr_38 _ (List.mem_of_getElem? (i := 23) rfl)
theorem tw_39_0 : Cond.static yX5_above ∈ TT := wr_39 _ (List.mem_of_getElem? (i := 0) rfl)
theorem tw_39_1 : Cond.code yX5_above cX5_above 1 (some .int) ∈ TT := wr_39 _ (List.mem_of_getElem? (i := 1) rfl)
theorem tw_39_2 : Cond.methodLink RL 158 yX4_sheet ∈ TT := wr_39 _ (List.mem_of_getElem? (i := 2) rfl)
theorem tw_39_3 : Cond.instanceMethod yX4_sheet ∈ TT := wr_39 _ (List.mem_of_getElem? (i := 3) rfl)
theorem tw_39_4 : Cond.selects RX4 yX4_sheet yX4_sheet ∈ TT := wr_39 _ (List.mem_of_getElem? (i := 4) rfl)
theorem tw_39_5 : Cond.code yX4_sheet cX4_sheet 4 (some .int) ∈ TT := wr_39 _ (List.mem_of_getElem? (i := 5) rfl)
theorem tw_39_6 : Cond.methodLink RX4 221 yX1_begin ∈ TT := wr_39 _ (List.mem_of_getElem? (i := 6) rfl)
theorem tw_39_7 : Cond.instanceMethod yX1_begin ∈ TT := wr_39 _ (List.mem_of_getElem? (i := 7) rfl)
theorem tw_39_8 : Cond.selects RX1 yX1_begin yX1_begin ∈ TT := wr_39 _ (List.mem_of_getElem? (i := 8) rfl)
theorem tw_39_9 : Cond.code yX1_begin cX1_begin 4 none ∈ TT := wr_39 _ (List.mem_of_getElem? (i := 9) rfl)
theorem tw_39_10 : Cond.methodLink RL 161 yX5_sheet ∈ TT := wr_39 _ (List.mem_of_getElem? (i := 10) rfl)
theorem tw_39_11 : Cond.instanceMethod yX5_sheet ∈ TT := wr_39 _ (List.mem_of_getElem? (i := 11) rfl)
theorem tw_39_12 : Cond.selects RX5 yX5_sheet yX5_sheet ∈ TT := wr_39 _ (List.mem_of_getElem? (i := 12) rfl)
theorem tw_39_13 : Cond.code yX5_sheet cX5_sheet 5 (some .int) ∈ TT := wr_39 _ (List.mem_of_getElem? (i := 13) rfl)
theorem tw_39_14 : Cond.constant RX5 312 (-1000007) ∈ TT := wr_39 _ (List.mem_of_getElem? (i := 14) rfl)
theorem tw_39_15 : Cond.methodLink RL 162 yX4_write ∈ TT := wr_39 _ (List.mem_of_getElem? (i := 15) rfl)
theorem tw_39_16 : Cond.instanceMethod yX4_write ∈ TT := wr_39 _ (List.mem_of_getElem? (i := 16) rfl)
theorem tw_39_17 : Cond.selects RX4 yX4_write yX4_write ∈ TT := wr_39 _ (List.mem_of_getElem? (i := 17) rfl)
theorem tw_39_18 : Cond.code yX4_write cX4_write 5 (some .int) ∈ TT := wr_39 _ (List.mem_of_getElem? (i := 18) rfl)
theorem tw_39_19 : Cond.methodLink RX4 225 yX1_put ∈ TT := wr_39 _ (List.mem_of_getElem? (i := 19) rfl)
theorem tw_39_20 : Cond.instanceMethod yX1_put ∈ TT := wr_39 _ (List.mem_of_getElem? (i := 20) rfl)
theorem tw_39_21 : Cond.selects RX1 yX1_put yX1_put ∈ TT := wr_39 _ (List.mem_of_getElem? (i := 21) rfl)
theorem tw_39_22 : Cond.code yX1_put cX1_put 3 none ∈ TT := wr_39 _ (List.mem_of_getElem? (i := 22) rfl)
theorem tw_39_23 : Cond.methodLink RL 165 yX5_write ∈ TT := wr_39 _ (List.mem_of_getElem? (i := 23) rfl)
theorem tw_40_0 : Cond.instanceMethod yX5_write ∈ TT := wr_40 _ (List.mem_of_getElem? (i := 0) rfl)
theorem tw_40_1 : Cond.selects RX5 yX5_write yX5_write ∈ TT := wr_40 _ (List.mem_of_getElem? (i := 1) rfl)
theorem tw_40_2 : Cond.code yX5_write cX5_write 4 (some .int) ∈ TT := wr_40 _ (List.mem_of_getElem? (i := 2) rfl)
theorem tw_40_3 : Cond.methodLink RX5 313 yX5_cutTo ∈ TT := wr_40 _ (List.mem_of_getElem? (i := 3) rfl)
theorem tw_40_4 : Cond.static yX5_cutTo ∈ TT := wr_40 _ (List.mem_of_getElem? (i := 4) rfl)
theorem tw_40_5 : Cond.code yX5_cutTo cX5_cutTo 2 (some .int) ∈ TT := wr_40 _ (List.mem_of_getElem? (i := 5) rfl)
theorem tw_40_6 : Cond.methodLink RL 166 yX4_copy ∈ TT := wr_40 _ (List.mem_of_getElem? (i := 6) rfl)
theorem tw_40_7 : Cond.instanceMethod yX4_copy ∈ TT := wr_40 _ (List.mem_of_getElem? (i := 7) rfl)
theorem tw_40_8 : Cond.selects RX4 yX4_copy yX4_copy ∈ TT := wr_40 _ (List.mem_of_getElem? (i := 8) rfl)
theorem tw_40_9 : Cond.code yX4_copy cX4_copy 8 (some .int) ∈ TT := wr_40 _ (List.mem_of_getElem? (i := 9) rfl)
theorem tw_40_10 : Cond.fieldLink RX4 231 "LineCalls$Sheet" "bits" "I" ∈ TT := wr_40 _ (List.mem_of_getElem? (i := 10) rfl)
theorem tw_40_11 : Cond.methodLink RX4 240 arraycopyName ∈ TT := wr_40 _ (List.mem_of_getElem? (i := 11) rfl)
theorem tw_40_12 : Cond.methodLink RX4 234 yX1_has ∈ TT := wr_40 _ (List.mem_of_getElem? (i := 12) rfl)
theorem tw_40_13 : Cond.instanceMethod yX1_has ∈ TT := wr_40 _ (List.mem_of_getElem? (i := 13) rfl)
theorem tw_40_14 : Cond.selects RX1 yX1_has yX1_has ∈ TT := wr_40 _ (List.mem_of_getElem? (i := 14) rfl)
theorem tw_40_15 : Cond.code yX1_has cX1_has 3 (some .boolean) ∈ TT := wr_40 _ (List.mem_of_getElem? (i := 15) rfl)
theorem tw_40_16 : Cond.methodLink RL 170 yX5_copy ∈ TT := wr_40 _ (List.mem_of_getElem? (i := 16) rfl)
theorem tw_40_17 : Cond.instanceMethod yX5_copy ∈ TT := wr_40 _ (List.mem_of_getElem? (i := 17) rfl)
theorem tw_40_18 : Cond.selects RX5 yX5_copy yX5_copy ∈ TT := wr_40 _ (List.mem_of_getElem? (i := 18) rfl)
theorem tw_40_19 : Cond.code yX5_copy cX5_copy 7 (some .int) ∈ TT := wr_40 _ (List.mem_of_getElem? (i := 19) rfl)
theorem tw_40_20 : Cond.methodLink RL 171 yX4_load ∈ TT := wr_40 _ (List.mem_of_getElem? (i := 20) rfl)
theorem tw_40_21 : Cond.instanceMethod yX4_load ∈ TT := wr_40 _ (List.mem_of_getElem? (i := 21) rfl)
theorem tw_40_22 : Cond.selects RX4 yX4_load yX4_load ∈ TT := wr_40 _ (List.mem_of_getElem? (i := 22) rfl)
theorem tw_40_23 : Cond.code yX4_load cX4_load 6 (some .int) ∈ TT := wr_40 _ (List.mem_of_getElem? (i := 23) rfl)
theorem tw_41_0 : Cond.methodLink RX4 246 Lib.Math.min.name ∈ TT := wr_41 _ (List.mem_of_getElem? (i := 0) rfl)
theorem tw_41_1 : Cond.methodLink RL 174 yX5_load ∈ TT := wr_41 _ (List.mem_of_getElem? (i := 1) rfl)
theorem tw_41_2 : Cond.instanceMethod yX5_load ∈ TT := wr_41 _ (List.mem_of_getElem? (i := 2) rfl)
theorem tw_41_3 : Cond.selects RX5 yX5_load yX5_load ∈ TT := wr_41 _ (List.mem_of_getElem? (i := 3) rfl)
theorem tw_41_4 : Cond.code yX5_load cX5_load 3 (some .int) ∈ TT := wr_41 _ (List.mem_of_getElem? (i := 4) rfl)
theorem tw_41_5 : Cond.methodLink RL 175 yX4_judge ∈ TT := wr_41 _ (List.mem_of_getElem? (i := 5) rfl)
theorem tw_41_6 : Cond.instanceMethod yX4_judge ∈ TT := wr_41 _ (List.mem_of_getElem? (i := 6) rfl)
theorem tw_41_7 : Cond.selects RX4 yX4_judge yX4_judge ∈ TT := wr_41 _ (List.mem_of_getElem? (i := 7) rfl)
theorem tw_41_8 : Cond.code yX4_judge cX4_judge 4 (some .int) ∈ TT := wr_41 _ (List.mem_of_getElem? (i := 8) rfl)
theorem tw_41_9 : Cond.methodLink RL 178 yX5_judge ∈ TT := wr_41 _ (List.mem_of_getElem? (i := 9) rfl)
theorem tw_41_10 : Cond.instanceMethod yX5_judge ∈ TT := wr_41 _ (List.mem_of_getElem? (i := 10) rfl)
theorem tw_41_11 : Cond.selects RX5 yX5_judge yX5_judge ∈ TT := wr_41 _ (List.mem_of_getElem? (i := 11) rfl)
theorem tw_41_12 : Cond.code yX5_judge cX5_judge 3 (some .int) ∈ TT := wr_41 _ (List.mem_of_getElem? (i := 12) rfl)
theorem tw_41_13 : Cond.methodLink RL 179 yX4_image ∈ TT := wr_41 _ (List.mem_of_getElem? (i := 13) rfl)
theorem tw_41_14 : Cond.instanceMethod yX4_image ∈ TT := wr_41 _ (List.mem_of_getElem? (i := 14) rfl)
theorem tw_41_15 : Cond.selects RX4 yX4_image yX4_image ∈ TT := wr_41 _ (List.mem_of_getElem? (i := 15) rfl)
theorem tw_41_16 : Cond.code yX4_image cX4_image 1 (some .int) ∈ TT := wr_41 _ (List.mem_of_getElem? (i := 16) rfl)
theorem tw_41_17 : Cond.methodLink RL 182 yX5_image ∈ TT := wr_41 _ (List.mem_of_getElem? (i := 17) rfl)
theorem tw_41_18 : Cond.instanceMethod yX5_image ∈ TT := wr_41 _ (List.mem_of_getElem? (i := 18) rfl)
theorem tw_41_19 : Cond.selects RX5 yX5_image yX5_image ∈ TT := wr_41 _ (List.mem_of_getElem? (i := 19) rfl)
theorem tw_41_20 : Cond.code yX5_image cX5_image 1 (some .int) ∈ TT := wr_41 _ (List.mem_of_getElem? (i := 20) rfl)
theorem tw_41_21 : Cond.fieldLink RX5 319 "LineCallsModel" "isKept" "Z" ∈ TT := wr_41 _ (List.mem_of_getElem? (i := 21) rfl)
theorem tw_41_22 : Cond.methodLink RL 183 yX4_undo ∈ TT := wr_41 _ (List.mem_of_getElem? (i := 22) rfl)
theorem tw_41_23 : Cond.instanceMethod yX4_undo ∈ TT := wr_41 _ (List.mem_of_getElem? (i := 23) rfl)
theorem tw_42_0 : Cond.selects RX4 yX4_undo yX4_undo ∈ TT := wr_42 _ (List.mem_of_getElem? (i := 0) rfl)
theorem tw_42_1 : Cond.code yX4_undo cX4_undo 1 (some .int) ∈ TT := wr_42 _ (List.mem_of_getElem? (i := 1) rfl)
theorem tw_42_2 : Cond.methodLink RL 186 yX5_undo ∈ TT := wr_42 _ (List.mem_of_getElem? (i := 2) rfl)
theorem tw_42_3 : Cond.instanceMethod yX5_undo ∈ TT := wr_42 _ (List.mem_of_getElem? (i := 3) rfl)
theorem tw_42_4 : Cond.selects RX5 yX5_undo yX5_undo ∈ TT := wr_42 _ (List.mem_of_getElem? (i := 4) rfl)
theorem tw_42_5 : Cond.code yX5_undo cX5_undo 1 (some .int) ∈ TT := wr_42 _ (List.mem_of_getElem? (i := 5) rfl)
theorem tw_42_6 : Cond.methodLink RL 187 yX4_tear ∈ TT := wr_42 _ (List.mem_of_getElem? (i := 6) rfl)
theorem tw_42_7 : Cond.instanceMethod yX4_tear ∈ TT := wr_42 _ (List.mem_of_getElem? (i := 7) rfl)
theorem tw_42_8 : Cond.selects RX4 yX4_tear yX4_tear ∈ TT := wr_42 _ (List.mem_of_getElem? (i := 8) rfl)
theorem tw_42_9 : Cond.code yX4_tear cX4_tear 2 (some .int) ∈ TT := wr_42 _ (List.mem_of_getElem? (i := 9) rfl)
theorem tw_42_10 : Cond.methodLink RL 190 yX5_tear ∈ TT := wr_42 _ (List.mem_of_getElem? (i := 10) rfl)
theorem tw_42_11 : Cond.instanceMethod yX5_tear ∈ TT := wr_42 _ (List.mem_of_getElem? (i := 11) rfl)
theorem tw_42_12 : Cond.selects RX5 yX5_tear yX5_tear ∈ TT := wr_42 _ (List.mem_of_getElem? (i := 12) rfl)
theorem tw_42_13 : Cond.code yX5_tear cX5_tear 2 (some .int) ∈ TT := wr_42 _ (List.mem_of_getElem? (i := 13) rfl)
theorem tw_42_14 : Cond.methodLink RL 191 yX4_count ∈ TT := wr_42 _ (List.mem_of_getElem? (i := 14) rfl)
theorem tw_42_15 : Cond.instanceMethod yX4_count ∈ TT := wr_42 _ (List.mem_of_getElem? (i := 15) rfl)
theorem tw_42_16 : Cond.selects RX4 yX4_count yX4_count ∈ TT := wr_42 _ (List.mem_of_getElem? (i := 16) rfl)
theorem tw_42_17 : Cond.code yX4_count cX4_count 2 (some .int) ∈ TT := wr_42 _ (List.mem_of_getElem? (i := 17) rfl)
theorem tw_42_18 : Cond.methodLink RX4 251 yX0_spotsHolding ∈ TT := wr_42 _ (List.mem_of_getElem? (i := 18) rfl)
theorem tw_42_19 : Cond.instanceMethod yX0_spotsHolding ∈ TT := wr_42 _ (List.mem_of_getElem? (i := 19) rfl)
theorem tw_42_20 : Cond.selects RX0 yX0_spotsHolding yX0_spotsHolding ∈ TT := wr_42 _ (List.mem_of_getElem? (i := 20) rfl)
theorem tw_42_21 : Cond.code yX0_spotsHolding cX0_spotsHolding 3 (some .int) ∈ TT := wr_42 _ (List.mem_of_getElem? (i := 21) rfl)
theorem tw_42_22 : Cond.methodLink RL 194 yX5_count ∈ TT := wr_42 _ (List.mem_of_getElem? (i := 22) rfl)
theorem tw_42_23 : Cond.instanceMethod yX5_count ∈ TT := wr_42 _ (List.mem_of_getElem? (i := 23) rfl)
theorem tw_43_0 : Cond.selects RX5 yX5_count yX5_count ∈ TT := wr_43 _ (List.mem_of_getElem? (i := 0) rfl)
theorem tw_43_1 : Cond.code yX5_count cX5_count 4 (some .int) ∈ TT := wr_43 _ (List.mem_of_getElem? (i := 1) rfl)
theorem tw_43_2 : Cond.methodLink RL 195 yX4_status ∈ TT := wr_43 _ (List.mem_of_getElem? (i := 2) rfl)
theorem tw_43_3 : Cond.instanceMethod yX4_status ∈ TT := wr_43 _ (List.mem_of_getElem? (i := 3) rfl)
theorem tw_43_4 : Cond.selects RX4 yX4_status yX4_status ∈ TT := wr_43 _ (List.mem_of_getElem? (i := 4) rfl)
theorem tw_43_5 : Cond.code yX4_status cX4_status 4 (some .int) ∈ TT := wr_43 _ (List.mem_of_getElem? (i := 5) rfl)
theorem tw_43_6 : Cond.methodLink RL 198 yX5_status ∈ TT := wr_43 _ (List.mem_of_getElem? (i := 6) rfl)
theorem tw_43_7 : Cond.instanceMethod yX5_status ∈ TT := wr_43 _ (List.mem_of_getElem? (i := 7) rfl)
theorem tw_43_8 : Cond.selects RX5 yX5_status yX5_status ∈ TT := wr_43 _ (List.mem_of_getElem? (i := 8) rfl)
theorem tw_43_9 : Cond.code yX5_status cX5_status 2 (some .int) ∈ TT := wr_43 _ (List.mem_of_getElem? (i := 9) rfl)
theorem TT_good : TT.all goodWord = true := by decide +kernel
end
section
abbrev classes : List vw_C := [(RX0, TX0, 17), (RX1, TX1, 3), (RX2, TX2, 6), (RX3, TX3, 1), (RX4, TX4, 8), (RX5, TX5, 25)]
/-- what is fixed in a run: numbers and slots of what is made; the rows of int, byte, Sheet, String; the static row; the texts' cells and rows -/
abbrev KX : Type := va_G × (ClassId × ClassId × ClassId × ClassId) × Nat × (Nat → Nat) × (Nat → Nat)
abbrev kI (κ : KX) : ClassId := κ.2.1.1
abbrev kB (κ : KX) : ClassId := κ.2.1.2.1
abbrev kS (κ : KX) : ClassId := κ.2.1.2.2.1
abbrev kT (κ : KX) : ClassId := κ.2.1.2.2.2
abbrev kU (κ : KX) : Nat := κ.2.2.1
abbrev kK (κ : KX) : Nat → Nat := κ.2.2.2.1
abbrev kV (κ : KX) : Nat → Nat := κ.2.2.2.2
abbrev ktys (κ : KX) : List (ClassId × FieldType) := [(kI κ, .int), (kB κ, .byte), (kS κ, .object RX1), (kT κ, .object "java/lang/String")]
/-- links between nest mates -/
def NW (U : State) : Prop := va_Nw (.methodLinkNest RX0 90 yX4_placeSaid RX4) U ∧ va_Nw (.methodLinkNest RX3 38 yX4_within RX4) U ∧ va_Nw (.methodLinkNest RX3 66 yX4_mostOfSetting RX4) U ∧ va_Nw (.methodLinkNest RX4 28 yX3_init RX4) U ∧ va_Nw (.methodLinkNest RX3 13 yX2_init RX4) U ∧ va_Nw (.methodLinkNest RX4 48 yX1_init RX4) U
/-- the texts: which entry of which file is which text -/
def tx_tab : List (String × Nat × String × Nat) := [(RX2, 71, "jumper", 0), (RX2, 73, "prop", 1), (RX2, 75, "lock", 2), (RX2, 77, "tower", 3), (RX2, 79, "giant", 4), (RX2, 81, "rookie", 5), (RX2, 83, "flanker", 6), (RX2, 85, "theirs", 7), (RX2, 87, "call", 8), (RX2, 89, "wind", 9), (RX2, 91, "wet", 10), (RX2, 93, "code", 11), (RX2, 95, "in", 12), (RX2, 97, "tall", 13), (RX5, 27, "jumper", 0), (RX5, 29, "prop", 1), (RX5, 31, "lock", 2), (RX5, 33, "tower", 3), (RX5, 35, "giant", 4), (RX5, 37, "rookie", 5), (RX5, 39, "flanker", 6), (RX5, 269, "in", 12), (RX5, 277, "tall", 13), (RX5, 289, "theirs", 7), (RX5, 291, "call", 8), (RX5, 293, "code", 11), (RX5, 295, "wind", 9), (RX5, 297, "wet", 10)]
def tx_len : List Nat := [6, 4, 4, 5, 5, 6, 7, 6, 4, 4, 3, 4, 2, 4]
def tx_byt : List (List Int32) := [[106, 117, 109, 112, 101, 114], [112, 114, 111, 112], [108, 111, 99, 107], [116, 111, 119, 101, 114], [103, 105, 97, 110, 116], [114, 111, 111, 107, 105, 101], [102, 108, 97, 110, 107, 101, 114], [116, 104, 101, 105, 114, 115], [99, 97, 108, 108], [119, 105, 110, 100], [119, 101, 116], [99, 111, 100, 101], [105, 110], [116, 97, 108, 108]]
def un_tab : List Int32 := [-1, 0, 0, 2, 3, 0, 1]
def KK (κ : KX) (U : State) : Prop := va_K κ.1 classes (ktys κ) U ∧ NW U ∧ ∀ q ∈ tx_tab, vk_R q.1 q.2.1 q.2.2.1 (kK κ q.2.2.2) U
/-- what lies outside of the worlds and is only read -/
def EV (κ : KX) (A : Nat → Prop) (U : State) (H : Heap) : Prop :=
  va_Z RX4 "UNDER" "[I" (.ref (kU κ)) A U H ∧ va_T .int (kU κ) 7 (fun j => .int (un_tab.getD j 0)) A U H ∧ vk_S 14 tx_len tx_byt (kK κ) (kV κ) A U H ∧ va_Z "java/lang/String" "COMPACT_STRINGS" "Z" (.int 1) A U H ∧ va_Zq "jdk/internal/util/Preconditions" "SIOOBE_FORMATTER" "Ljava/util/function/BiFunction;" A U H
theorem NW.warm {s U : State} (hW : s.WarmedH U.vm) (h : NW s) : NW U := ⟨h.1.warmM hW, h.2.1.warmM hW, h.2.2.1.warmM hW, h.2.2.2.1.warmM hW, h.2.2.2.2.1.warmM hW, h.2.2.2.2.2.warmM hW⟩
theorem NW.same {u U : State} (hv : u.vm = U.vm) (h : NW u) : NW U := ⟨va_Nw.same rfl hv h.1, va_Nw.same rfl hv h.2.1, va_Nw.same rfl hv h.2.2.1, va_Nw.same rfl hv h.2.2.2.1, va_Nw.same rfl hv h.2.2.2.2.1, va_Nw.same rfl hv h.2.2.2.2.2⟩
theorem KK.warm {κ : KX} {s U : State} (hW : s.WarmedH U.vm) (h : KK κ s) : KK κ U := ⟨va_K.moved hW.alike h.1, h.2.1.warm hW, fun q hq => (h.2.2 q hq).warm hW⟩
theorem KK.same {κ : KX} {u U : State} (hv : u.vm = U.vm) (h : KK κ u) : KK κ U := ⟨va_K.moved (by rw [hv]; exact Vm.Alike.refl _) h.1, h.2.1.same hv, fun q hq => (h.2.2 q hq).same hv.symm⟩
theorem EV.moved {κ : KX} {A : Nat → Prop} {u U : State} {H : Heap} (hvm : u.vm.Alike U.vm) (h : EV κ A u H) : EV κ A U H := ⟨h.1.moved hvm, h.2.1.moved hvm, h.2.2.1.moved hvm, h.2.2.2.1.moved hvm, h.2.2.2.2.moved hvm⟩
theorem EV.kept {κ : KX} {A : Nat → Prop} {U : State} {H H1 : Heap} (h : EV κ A U H) (hq : ∀ a : Nat, a < H.size → ¬ A a → H1[a]? = H[a]?) : EV κ A U H1 := ⟨h.1.kept hq, h.2.1.kept hq, h.2.2.1.kept hq, h.2.2.2.1.kept hq, h.2.2.2.2.kept hq⟩
theorem EV.narrow {κ : KX} {A B : Nat → Prop} {U : State} {H : Heap} (h : EV κ A U H) (hAB : ∀ q, B q → A q) : EV κ B U H := ⟨h.1.narrow hAB, h.2.1.narrow hAB, h.2.2.1.narrow hAB, h.2.2.2.1.narrow hAB, h.2.2.2.2.narrow hAB⟩
/-- contracts: a method that only reads, and one that writes its own cells -/
def PRo (κ : KX) (wc : va_W) : State → Prop := fun U => va_P κ.1 classes wc U.heap ∧ KK κ U ∧ EV κ (fun _ => False) U U.heap
def QRo (rv : Option Value) : Array Value → State → Outcome → State → Prop := fun _ st oc t => oc = .returned rv ∧ t.heap = st.heap
def PRw (κ : KX) (wc : va_W) (sz : Nat) : State → Prop := fun U => U.heap.size = sz ∧ va_P κ.1 classes wc U.heap ∧ va_D (fun _ => True) wc ∧ KK κ U ∧ EV κ (va_A wc sz) U U.heap
def QRw (κ : KX) (rv : Option Value) (wc' : va_W) (A : Nat → Prop) : Array Value → State → Outcome → State → Prop := fun _ st oc t => oc = .returned rv ∧ va_P κ.1 classes wc' t.heap ∧ va_F A st t
def MRo (l : Launch) (y : MethodName) (cc : ByteArray) (maxL : Nat) (ret : Option FieldType) (rm : Room) (κ : KX) (wc : va_W) (As : List Value) (rv : Option Value) : Prop :=
  Met l y (.code y cc maxL ret :: TT) rm (va_Pc As (PRo κ wc)) (QRo rv) 0 0 (fun _ => False)
def MRw (l : Launch) (y : MethodName) (cc : ByteArray) (maxL : Nat) (ret : Option FieldType) (rm : Room) (κ : KX) (wc : va_W) (As : List Value) (rv : Option Value) (wc' : va_W) : Prop :=
  ∀ sz : Nat, Met l y (.code y cc maxL ret :: TT) rm (va_Pc As (PRw κ wc sz)) (QRw κ rv wc' (va_A wc sz)) 0 0 (va_A wc sz)
theorem PRo.blind (κ : KX) (wc : va_W) (As : List Value) : FrameBlind (va_Pc As (PRo κ wc)) := fun a U g mk q => ⟨q.1, q.2.1, q.2.2.1.same rfl, q.2.2.2.moved (Vm.Alike.refl U.vm)⟩
theorem PRw.blind (κ : KX) (wc : va_W) (sz : Nat) (As : List Value) : FrameBlind (va_Pc As (PRw κ wc sz)) := fun a U g mk q => ⟨q.1, q.2.1, q.2.2.1, q.2.2.2.1, q.2.2.2.2.1.same rfl, q.2.2.2.2.2.moved (Vm.Alike.refl U.vm)⟩
/-- the context of a walk: the machine, the code, the words, what is fixed, what may change -/
def CT (p : Program) (s : State) (m : MethodId) (args : Array Value) (meth : Method) (c : Code) (κ : KX) (A : Nat → Prop) (HC : Heap → List Loc → Prop) (cc : ByteArray) (nL : Nat) (own : String) (ret : Option FieldType) : Prop :=
  p.tables.exec = Jvm.exec ∧ c.code = cc ∧ c.maxLocals = nL ∧ s.vm.findClass own = some m.cls ∧ (∀ w ∈ TT, w.before args s = true) ∧ KK κ s ∧ EV κ A s s.heap ∧ (∀ H locs, HC H locs → va_S A s.heap H locs) ∧ meth.sig.returnType = ret ∧ meth.locks = false
def HRo (s : State) : Heap → List Loc → Prop := fun H locs => H = s.heap ∧ locs = []
def HRw (A : Nat → Prop) (s : State) : Heap → List Loc → Prop := fun H locs => va_S A s.heap H locs
def WW (p : Program) (l : Launch) (e : Env) (R : Room) (s : State) (m : MethodId) (args : Array Value) (below : List Frame) (meth : Method) (c : Code) (κ : KX) (nL : Nat) (Q : State → Prop) (HC : Heap → List Loc → Prop) (ws : va_W) (lv : List (Nat × Value)) (pc : Nat) (st : List Value) : Prop :=
  ∀ (H : Heap) (locs : List Loc) (ls : Array Slot), HC H locs → va_P κ.1 classes ws H → lv_has ls nL lv → W p l e R s m args below meth c H locs 0 0 Q (F0 m pc ls st)
theorem dA {A : Nat → Prop} {ws ws0 : va_W} (h : va_D A ws0) (e : ws.map Prod.fst = ws0.map Prod.fst) : va_D A ws := by
  have tr : ∀ (k : Nat) (q : Nat × va_E), ws[k]? = some q → ∃ q0, ws0[k]? = some q0 ∧ q0.1 = q.1 := by
    intro k q hq
    have h1 : (ws.map Prod.fst)[k]? = some q.1 := by rw [List.getElem?_map, hq]; rfl
    rw [e, List.getElem?_map] at h1
    cases h2 : ws0[k]? with
    | none => rw [h2] at h1; cases h1
    | some q0 => rw [h2] at h1; exact ⟨q0, rfl, Option.some.inj h1⟩
  refine ⟨fun i j p q hp hq hpq => ?_, fun k q hk => ?_⟩
  · obtain ⟨p0, a1, a2⟩ := tr i p hp
    obtain ⟨q0, b1, b2⟩ := tr j q hq
    exact h.1 i j p0 q0 a1 b1 (by rw [a2, b2, hpq])
  · obtain ⟨q0, a1, a2⟩ := tr k q hk
    rw [← a2]; exact h.2 k q0 a1
/-- the addresses of a world are apart, and may be written -/
def DA (A : Nat → Prop) (ad : List Nat) : Prop := va_D A (ad.map fun a => (a, (.inr (0, []) : va_E)))
theorem DA.of {A : Nat → Prop} {ws : va_W} (h : va_D A ws) {ad : List Nat} (e : ws.map Prod.fst = ad) : DA A ad := dA h (by rw [← e, List.map_map, List.map_map]; rfl)
theorem DA.at {A : Nat → Prop} {ad : List Nat} (h : DA A ad) {ws : va_W} (e : ws.map Prod.fst = ad) : va_D A ws := dA h (by rw [e, List.map_map]; exact (List.map_id ad).symm)
/-- the cells at the places is become those of w1 -/
def putAt : va_W → List Nat → va_W → va_W
  | ws, i :: is, x :: xs => putAt (ws.set i x) is xs
  | ws, _, _ => ws
section MK
variable {p : Program} {l : Launch} {e : Env} {R : Room} {s : State} {m : MethodId} {args : Array Value} {below : List Frame} {meth : Method} {c : Code} {κ : KX} {A : Nat → Prop} {HC : Heap → List Loc → Prop} {cc : ByteArray} {nL : Nat} {own : String} {ret : Option FieldType} {Q : State → Prop} {ws : va_W} {lv : List (Nat × Value)} {pc : Nat} {st : List Value}
theorem r_nmi {x v : Int32} (h : x = v) (k : WW p l e R s m args below meth c κ nL Q HC ws lv pc (.int v :: st)) : WW p l e R s m args below meth c κ nL Q HC ws lv pc (.int x :: st) := by rw [h]; exact k
theorem r_nml {x v : Int64} (h : x = v) (k : WW p l e R s m args below meth c κ nL Q HC ws lv pc (.long v :: st)) : WW p l e R s m args below meth c κ nL Q HC ws lv pc (.long x :: st) := by rw [h]; exact k
theorem r_lvs {lv' : List (Nat × Value)} (ks : List Nat) (h : lv_pick lv ks = lv') (k : WW p l e R s m args below meth c κ nL Q HC ws lv' pc st) : WW p l e R s m args below meth c κ nL Q HC ws lv pc st := fun H locs ls hH hP hl => k H locs ls hH hP (lv_sub hl ks h)
theorem r_dup2 (C : CT p s m args meth c κ A HC cc nL own ret) {va vb : Value} (d : decode cc pc = .ok (.dup2, 1)) (hva : va.category = 1) (hvb : vb.category = 1) (k : WW p l e R s m args below meth c κ nL Q HC ws lv (pc + 1) (va :: vb :: va :: vb :: st)) : WW p l e R s m args below meth c κ nL Q HC ws lv pc (va :: vb :: st) := fun H locs ls hH hP hl => lv_dup2_11 C.1 C.2.1 d hva hvb (k H locs ls hH hP hl)
theorem r_lcmp (C : CT p s m args meth c κ A HC cc nL own ret) {x y : Int64} (d : decode cc pc = .ok (.lcmp, 1)) (k : WW p l e R s m args below meth c κ nL Q HC ws lv (pc + 1) (.int (lg_cmp x y) :: st)) : WW p l e R s m args below meth c κ nL Q HC ws lv pc (.long y :: .long x :: st) := fun H locs ls hH hP hl => W.lcmp C.1 C.2.1 d (k H locs ls hH hP hl)
theorem r_iconst (C : CT p s m args meth c κ A HC cc nL own ret) {n : Int} {v : Int32} (d : decode cc pc = .ok (.iconst n, 1)) (hv : Int32.ofInt n = v) (k : WW p l e R s m args below meth c κ nL Q HC ws lv (pc + 1) (.int v :: st)) : WW p l e R s m args below meth c κ nL Q HC ws lv pc st := fun H locs ls hH hP hl => lv_iconst C.1 C.2.1 d hv (k H locs ls hH hP hl)
theorem r_bipush (C : CT p s m args meth c κ A HC cc nL own ret) {n : Int} {v : Int32} (d : decode cc pc = .ok (.bipush n, 2)) (hv : (Int8.ofInt n).toInt32 = v) (k : WW p l e R s m args below meth c κ nL Q HC ws lv (pc + 2) (.int v :: st)) : WW p l e R s m args below meth c κ nL Q HC ws lv pc st := fun H locs ls hH hP hl => lv_bipush C.1 C.2.1 d hv (k H locs ls hH hP hl)
theorem r_sipush (C : CT p s m args meth c κ A HC cc nL own ret) {n : Int} {v : Int32} (d : decode cc pc = .ok (.sipush n, 3)) (hv : (Int16.ofInt n).toInt32 = v) (k : WW p l e R s m args below meth c κ nL Q HC ws lv (pc + 3) (.int v :: st)) : WW p l e R s m args below meth c κ nL Q HC ws lv pc st := fun H locs ls hH hP hl => lv_sipush C.1 C.2.1 d hv (k H locs ls hH hP hl)
theorem r_ldc (C : CT p s m args meth c κ A HC cc nL own ret) {index : Nat} {v : Int32} (d : decode cc pc = .ok (.ldc index, 2)) (hw : Cond.constant own index v ∈ TT) (k : WW p l e R s m args below meth c κ nL Q HC ws lv (pc + 2) (.int v :: st)) : WW p l e R s m args below meth c κ nL Q HC ws lv pc st := fun H locs ls hH hP hl => lv_ldc C.1 C.2.1 C.2.2.2.1 (C.2.2.2.2.1 _ hw) d (k H locs ls hH hP hl)
theorem r_ldcw (C : CT p s m args meth c κ A HC cc nL own ret) {index : Nat} {v : Int32} (d : decode cc pc = .ok (.ldc_w index, 3)) (hw : Cond.constant own index v ∈ TT) (k : WW p l e R s m args below meth c κ nL Q HC ws lv (pc + 3) (.int v :: st)) : WW p l e R s m args below meth c κ nL Q HC ws lv pc st := fun H locs ls hH hP hl => lv_ldcw C.1 C.2.1 C.2.2.2.1 (C.2.2.2.2.1 _ hw) d (k H locs ls hH hP hl)
theorem r_ldcS (C : CT p s m args meth c κ A HC cc nL own ret) {index i : Nat} {tx : String} (d : decode cc pc = .ok (.ldc index, 2)) (hw : (own, index, tx, i) ∈ tx_tab) (k : WW p l e R s m args below meth c κ nL Q HC ws lv (pc + 2) (.ref (kK κ i) :: st)) : WW p l e R s m args below meth c κ nL Q HC ws lv pc st := fun H locs ls hH hP hl => va_ldcS C.1 C.2.1 C.2.2.2.1 (C.2.2.2.2.2.1.2.2 _ hw) d (k H locs ls hH hP hl)
theorem r_iload_n (C : CT p s m args meth c κ A HC cc nL own ret) {n : Fin 4} {i : Nat} {x : Int32} (d : decode cc pc = .ok (.iload_n n, 1)) (hi : (n : Nat) = i) (q : Nat) (hq : lv[q]? = some (i, .int x)) (k : WW p l e R s m args below meth c κ nL Q HC ws lv (pc + 1) (.int x :: st)) : WW p l e R s m args below meth c κ nL Q HC ws lv pc st := fun H locs ls hH hP hl => lv_iload_n C.1 C.2.1 d hi (lv_at hl q hq) (k H locs ls hH hP hl)
theorem r_iload (C : CT p s m args meth c κ A HC cc nL own ret) {i : Nat} {x : Int32} (d : decode cc pc = .ok (.iload i, 2)) (q : Nat) (hq : lv[q]? = some (i, .int x)) (k : WW p l e R s m args below meth c κ nL Q HC ws lv (pc + 2) (.int x :: st)) : WW p l e R s m args below meth c κ nL Q HC ws lv pc st := fun H locs ls hH hP hl => lv_iload C.1 C.2.1 d (lv_at hl q hq) (k H locs ls hH hP hl)
theorem r_lload (C : CT p s m args meth c κ A HC cc nL own ret) {i : Nat} {x : Int64} (d : decode cc pc = .ok (.lload i, 2)) (q : Nat) (hq : lv[q]? = some (i, .long x)) (k : WW p l e R s m args below meth c κ nL Q HC ws lv (pc + 2) (.long x :: st)) : WW p l e R s m args below meth c κ nL Q HC ws lv pc st := fun H locs ls hH hP hl => lv_lload C.1 C.2.1 d (lv_at hl q hq) (k H locs ls hH hP hl)
theorem r_aload_n (C : CT p s m args meth c κ A HC cc nL own ret) {n : Fin 4} {i x : Nat} (d : decode cc pc = .ok (.aload_n n, 1)) (hi : (n : Nat) = i) (q : Nat) (hq : lv[q]? = some (i, .ref x)) (k : WW p l e R s m args below meth c κ nL Q HC ws lv (pc + 1) (.ref x :: st)) : WW p l e R s m args below meth c κ nL Q HC ws lv pc st := fun H locs ls hH hP hl => lv_aload_n C.1 C.2.1 d hi (lv_at hl q hq) (k H locs ls hH hP hl)
theorem r_aload (C : CT p s m args meth c κ A HC cc nL own ret) {i x : Nat} (d : decode cc pc = .ok (.aload i, 2)) (q : Nat) (hq : lv[q]? = some (i, .ref x)) (k : WW p l e R s m args below meth c κ nL Q HC ws lv (pc + 2) (.ref x :: st)) : WW p l e R s m args below meth c κ nL Q HC ws lv pc st := fun H locs ls hH hP hl => lv_aload C.1 C.2.1 d (lv_at hl q hq) (k H locs ls hH hP hl)
theorem r_istore_n (C : CT p s m args meth c κ A HC cc nL own ret) {n : Fin 4} {i : Nat} {x : Int32} {lv' : List (Nat × Value)} (d : decode cc pc = .ok (.istore_n n, 1)) (hi : (n : Nat) = i) (hn : i < nL) (hl' : (i, Value.int x) :: lv.filter (fun q => !(q.1 == i) && !(q.1 + 1 == i && q.2.category == 2)) = lv') (k : WW p l e R s m args below meth c κ nL Q HC ws lv' (pc + 1) st) : WW p l e R s m args below meth c κ nL Q HC ws lv pc (.int x :: st) := fun H locs ls hH hP hl => lv_istore_n C.1 C.2.1 d hi hl hn hl' (fun ls' h' => k H locs ls' hH hP h')
theorem r_istore (C : CT p s m args meth c κ A HC cc nL own ret) {i : Nat} {x : Int32} {lv' : List (Nat × Value)} (d : decode cc pc = .ok (.istore i, 2)) (hn : i < nL) (hl' : (i, Value.int x) :: lv.filter (fun q => !(q.1 == i) && !(q.1 + 1 == i && q.2.category == 2)) = lv') (k : WW p l e R s m args below meth c κ nL Q HC ws lv' (pc + 2) st) : WW p l e R s m args below meth c κ nL Q HC ws lv pc (.int x :: st) := fun H locs ls hH hP hl => lv_istore C.1 C.2.1 d hl hn hl' (fun ls' h' => k H locs ls' hH hP h')
theorem r_astore_n (C : CT p s m args meth c κ A HC cc nL own ret) {n : Fin 4} {i x : Nat} {lv' : List (Nat × Value)} (d : decode cc pc = .ok (.astore_n n, 1)) (hi : (n : Nat) = i) (hn : i < nL) (hl' : (i, Value.ref x) :: lv.filter (fun q => !(q.1 == i) && !(q.1 + 1 == i && q.2.category == 2)) = lv') (k : WW p l e R s m args below meth c κ nL Q HC ws lv' (pc + 1) st) : WW p l e R s m args below meth c κ nL Q HC ws lv pc (.ref x :: st) := fun H locs ls hH hP hl => lv_astore_n C.1 C.2.1 d hi hl hn hl' (fun ls' h' => k H locs ls' hH hP h')
theorem r_astore (C : CT p s m args meth c κ A HC cc nL own ret) {i x : Nat} {lv' : List (Nat × Value)} (d : decode cc pc = .ok (.astore i, 2)) (hn : i < nL) (hl' : (i, Value.ref x) :: lv.filter (fun q => !(q.1 == i) && !(q.1 + 1 == i && q.2.category == 2)) = lv') (k : WW p l e R s m args below meth c κ nL Q HC ws lv' (pc + 2) st) : WW p l e R s m args below meth c κ nL Q HC ws lv pc (.ref x :: st) := fun H locs ls hH hP hl => lv_astore C.1 C.2.1 d hl hn hl' (fun ls' h' => k H locs ls' hH hP h')
theorem r_lstore (C : CT p s m args meth c κ A HC cc nL own ret) {i : Nat} {x : Int64} {lv' : List (Nat × Value)} (d : decode cc pc = .ok (.lstore i, 2)) (hn : i + 1 < nL) (hl' : (i, Value.long x) :: lv.filter (fun q => !(q.1 == i) && (!(q.1 == i + 1) && !(q.1 + 1 == i && q.2.category == 2))) = lv') (k : WW p l e R s m args below meth c κ nL Q HC ws lv' (pc + 2) st) : WW p l e R s m args below meth c κ nL Q HC ws lv pc (.long x :: st) := fun H locs ls hH hP hl => lv_lstore C.1 C.2.1 d hl hn hl' (fun ls' h' => k H locs ls' hH hP h')
theorem r_iinc (C : CT p s m args meth c κ A HC cc nL own ret) {i : Nat} {n : Int} {x v : Int32} {lv' : List (Nat × Value)} (d : decode cc pc = .ok (.iinc i n, 3)) (q : Nat) (hq : lv[q]? = some (i, .int x)) (hv : x + Int32.ofInt n = v) (hn : i < nL) (hl' : (i, Value.int v) :: lv.filter (fun q => !(q.1 == i) && !(q.1 + 1 == i && q.2.category == 2)) = lv') (k : WW p l e R s m args below meth c κ nL Q HC ws lv' (pc + 3) st) : WW p l e R s m args below meth c κ nL Q HC ws lv pc st := fun H locs ls hH hP hl => lv_iinc C.1 C.2.1 d hl hq hv hn hl' (fun ls' h' => k H locs ls' hH hP h')
theorem r_iadd (C : CT p s m args meth c κ A HC cc nL own ret) {x y : Int32} (d : decode cc pc = .ok (.iadd, 1)) (k : WW p l e R s m args below meth c κ nL Q HC ws lv (pc + 1) (.int (x + y) :: st)) : WW p l e R s m args below meth c κ nL Q HC ws lv pc (.int y :: .int x :: st) := fun H locs ls hH hP hl => lv_iadd C.1 C.2.1 d (k H locs ls hH hP hl)
theorem r_isub (C : CT p s m args meth c κ A HC cc nL own ret) {x y : Int32} (d : decode cc pc = .ok (.isub, 1)) (k : WW p l e R s m args below meth c κ nL Q HC ws lv (pc + 1) (.int (x - y) :: st)) : WW p l e R s m args below meth c κ nL Q HC ws lv pc (.int y :: .int x :: st) := fun H locs ls hH hP hl => lv_isub C.1 C.2.1 d (k H locs ls hH hP hl)
theorem r_imul (C : CT p s m args meth c κ A HC cc nL own ret) {x y : Int32} (d : decode cc pc = .ok (.imul, 1)) (k : WW p l e R s m args below meth c κ nL Q HC ws lv (pc + 1) (.int (x * y) :: st)) : WW p l e R s m args below meth c κ nL Q HC ws lv pc (.int y :: .int x :: st) := fun H locs ls hH hP hl => lv_imul C.1 C.2.1 d (k H locs ls hH hP hl)
theorem r_iand (C : CT p s m args meth c κ A HC cc nL own ret) {x y : Int32} (d : decode cc pc = .ok (.iand, 1)) (k : WW p l e R s m args below meth c κ nL Q HC ws lv (pc + 1) (.int (x &&& y) :: st)) : WW p l e R s m args below meth c κ nL Q HC ws lv pc (.int y :: .int x :: st) := fun H locs ls hH hP hl => lv_iand C.1 C.2.1 d (k H locs ls hH hP hl)
theorem r_ior (C : CT p s m args meth c κ A HC cc nL own ret) {x y : Int32} (d : decode cc pc = .ok (.ior, 1)) (k : WW p l e R s m args below meth c κ nL Q HC ws lv (pc + 1) (.int (x ||| y) :: st)) : WW p l e R s m args below meth c κ nL Q HC ws lv pc (.int y :: .int x :: st) := fun H locs ls hH hP hl => lv_ior C.1 C.2.1 d (k H locs ls hH hP hl)
theorem r_ishl (C : CT p s m args meth c κ A HC cc nL own ret) {x y : Int32} (d : decode cc pc = .ok (.ishl, 1)) (k : WW p l e R s m args below meth c κ nL Q HC ws lv (pc + 1) (.int (x <<< (y &&& 31)) :: st)) : WW p l e R s m args below meth c κ nL Q HC ws lv pc (.int y :: .int x :: st) := fun H locs ls hH hP hl => lv_ishl C.1 C.2.1 d (k H locs ls hH hP hl)
theorem r_ishr (C : CT p s m args meth c κ A HC cc nL own ret) {x y : Int32} (d : decode cc pc = .ok (.ishr, 1)) (k : WW p l e R s m args below meth c κ nL Q HC ws lv (pc + 1) (.int (x >>> (y &&& 31)) :: st)) : WW p l e R s m args below meth c κ nL Q HC ws lv pc (.int y :: .int x :: st) := fun H locs ls hH hP hl => lv_ishr C.1 C.2.1 d (k H locs ls hH hP hl)
/-- x >>> y -/
def ushr (x y : Int32) : Int32 := (x.toUInt32 >>> (y.toUInt32 &&& Int32.toUInt32 31)).toInt32
theorem r_iushr (C : CT p s m args meth c κ A HC cc nL own ret) {x y : Int32} (d : decode cc pc = .ok (.iushr, 1)) (k : WW p l e R s m args below meth c κ nL Q HC ws lv (pc + 1) (.int (ushr x y) :: st)) : WW p l e R s m args below meth c κ nL Q HC ws lv pc (.int y :: .int x :: st) := fun H locs ls hH hP hl => lv_iushr C.1 C.2.1 d rfl (k H locs ls hH hP hl)
theorem r_idiv (C : CT p s m args meth c κ A HC cc nL own ret) {x y : Int32} (d : decode cc pc = .ok (.idiv, 1)) (hne : ¬ y = 0) (k : WW p l e R s m args below meth c κ nL Q HC ws lv (pc + 1) (.int (x / y) :: st)) : WW p l e R s m args below meth c κ nL Q HC ws lv pc (.int y :: .int x :: st) := fun H locs ls hH hP hl => lv_idiv C.1 C.2.1 d hne (k H locs ls hH hP hl)
/-- the rest of a division -/
def irem (x y : Int32) : Int32 := x - x / y * y
theorem r_irem (C : CT p s m args meth c κ A HC cc nL own ret) {x y : Int32} (d : decode cc pc = .ok (.irem, 1)) (hne : ¬ y = 0) (k : WW p l e R s m args below meth c κ nL Q HC ws lv (pc + 1) (.int (irem x y) :: st)) : WW p l e R s m args below meth c κ nL Q HC ws lv pc (.int y :: .int x :: st) := fun H locs ls hH hP hl => lv_irem C.1 C.2.1 d hne (k H locs ls hH hP hl)
theorem r_i2b (C : CT p s m args meth c κ A HC cc nL own ret) {x : Int32} (d : decode cc pc = .ok (.i2b, 1)) (k : WW p l e R s m args below meth c κ nL Q HC ws lv (pc + 1) (.int x.toInt8.toInt32 :: st)) : WW p l e R s m args below meth c κ nL Q HC ws lv pc (.int x :: st) := fun H locs ls hH hP hl => lv_i2b C.1 C.2.1 d rfl (k H locs ls hH hP hl)
theorem r_i2s (C : CT p s m args meth c κ A HC cc nL own ret) {x : Int32} (d : decode cc pc = .ok (.i2s, 1)) (k : WW p l e R s m args below meth c κ nL Q HC ws lv (pc + 1) (.int x.toInt16.toInt32 :: st)) : WW p l e R s m args below meth c κ nL Q HC ws lv pc (.int x :: st) := fun H locs ls hH hP hl => lv_i2s C.1 C.2.1 d rfl (k H locs ls hH hP hl)
theorem r_i2l (C : CT p s m args meth c κ A HC cc nL own ret) {x : Int32} (d : decode cc pc = .ok (.i2l, 1)) (k : WW p l e R s m args below meth c κ nL Q HC ws lv (pc + 1) (.long x.toInt64 :: st)) : WW p l e R s m args below meth c κ nL Q HC ws lv pc (.int x :: st) := fun H locs ls hH hP hl => lv_i2l C.1 C.2.1 d rfl (k H locs ls hH hP hl)
theorem r_lconst (C : CT p s m args meth c κ A HC cc nL own ret) {n : Fin 2} {v : Int64} (d : decode cc pc = .ok (.lconst n, 1)) (hv : Int64.ofNat (n : Nat) = v) (k : WW p l e R s m args below meth c κ nL Q HC ws lv (pc + 1) (.long v :: st)) : WW p l e R s m args below meth c κ nL Q HC ws lv pc st := fun H locs ls hH hP hl => lv_lconst C.1 C.2.1 d hv (k H locs ls hH hP hl)
theorem r_lmul (C : CT p s m args meth c κ A HC cc nL own ret) {x y : Int64} (d : decode cc pc = .ok (.lmul, 1)) (k : WW p l e R s m args below meth c κ nL Q HC ws lv (pc + 1) (.long (x * y) :: st)) : WW p l e R s m args below meth c κ nL Q HC ws lv pc (.long y :: .long x :: st) := fun H locs ls hH hP hl => lv_lmul C.1 C.2.1 d (k H locs ls hH hP hl)
theorem r_ladd (C : CT p s m args meth c κ A HC cc nL own ret) {x y : Int64} (d : decode cc pc = .ok (.ladd, 1)) (k : WW p l e R s m args below meth c κ nL Q HC ws lv (pc + 1) (.long (x + y) :: st)) : WW p l e R s m args below meth c κ nL Q HC ws lv pc (.long y :: .long x :: st) := fun H locs ls hH hP hl => lv_ladd C.1 C.2.1 d (k H locs ls hH hP hl)
theorem r_dup (C : CT p s m args meth c κ A HC cc nL own ret) {va : Value} (d : decode cc pc = .ok (.dup, 1)) (hva : va.category = 1) (k : WW p l e R s m args below meth c κ nL Q HC ws lv (pc + 1) (va :: va :: st)) : WW p l e R s m args below meth c κ nL Q HC ws lv pc (va :: st) := fun H locs ls hH hP hl => lv_dup C.1 C.2.1 d hva (k H locs ls hH hP hl)
theorem r_pop (C : CT p s m args meth c κ A HC cc nL own ret) {va : Value} (d : decode cc pc = .ok (.pop, 1)) (hva : va.category = 1) (k : WW p l e R s m args below meth c κ nL Q HC ws lv (pc + 1) st) : WW p l e R s m args below meth c κ nL Q HC ws lv pc (va :: st) := fun H locs ls hH hP hl => lv_pop C.1 C.2.1 d hva (k H locs ls hH hP hl)
theorem r_goto (C : CT p s m args meth c κ A HC cc nL own ret) {off : Int} {tgt : Nat} (d : decode cc pc = .ok (.goto off, 3)) (ht : (pc : Int) + off = (tgt : Int)) (k : WW p l e R s m args below meth c κ nL Q HC ws lv tgt st) : WW p l e R s m args below meth c κ nL Q HC ws lv pc st := fun H locs ls hH hP hl => lv_goto C.1 C.2.1 d ht (k H locs ls hH hP hl)
theorem r_if_eq (C : CT p s m args meth c κ A HC cc nL own ret) {x : Int32} {off : Int} {tgt : Nat} (d : decode cc pc = .ok (.ifCond .eq off, 3)) (ht : (pc : Int) + off = (tgt : Int)) (kt : x = 0 → WW p l e R s m args below meth c κ nL Q HC ws lv tgt st) (kf : ¬ (x = 0) → WW p l e R s m args below meth c κ nL Q HC ws lv (pc + 3) st) : WW p l e R s m args below meth c κ nL Q HC ws lv pc (.int x :: st) := fun H locs ls hH hP hl => lv_if_eq C.1 C.2.1 d ht (fun h => kt h H locs ls hH hP hl) (fun h => kf h H locs ls hH hP hl)
theorem r_if_ne (C : CT p s m args meth c κ A HC cc nL own ret) {x : Int32} {off : Int} {tgt : Nat} (d : decode cc pc = .ok (.ifCond .ne off, 3)) (ht : (pc : Int) + off = (tgt : Int)) (kt : ¬ (x = 0) → WW p l e R s m args below meth c κ nL Q HC ws lv tgt st) (kf : x = 0 → WW p l e R s m args below meth c κ nL Q HC ws lv (pc + 3) st) : WW p l e R s m args below meth c κ nL Q HC ws lv pc (.int x :: st) := fun H locs ls hH hP hl => lv_if_ne C.1 C.2.1 d ht (fun h => kt h H locs ls hH hP hl) (fun h => kf h H locs ls hH hP hl)
theorem r_if_lt (C : CT p s m args meth c κ A HC cc nL own ret) {x : Int32} {off : Int} {tgt : Nat} (d : decode cc pc = .ok (.ifCond .lt off, 3)) (ht : (pc : Int) + off = (tgt : Int)) (kt : x < 0 → WW p l e R s m args below meth c κ nL Q HC ws lv tgt st) (kf : ¬ (x < 0) → WW p l e R s m args below meth c κ nL Q HC ws lv (pc + 3) st) : WW p l e R s m args below meth c κ nL Q HC ws lv pc (.int x :: st) := fun H locs ls hH hP hl => lv_if_lt C.1 C.2.1 d ht (fun h => kt h H locs ls hH hP hl) (fun h => kf h H locs ls hH hP hl)
theorem r_if_ge (C : CT p s m args meth c κ A HC cc nL own ret) {x : Int32} {off : Int} {tgt : Nat} (d : decode cc pc = .ok (.ifCond .ge off, 3)) (ht : (pc : Int) + off = (tgt : Int)) (kt : 0 ≤ x → WW p l e R s m args below meth c κ nL Q HC ws lv tgt st) (kf : ¬ (0 ≤ x) → WW p l e R s m args below meth c κ nL Q HC ws lv (pc + 3) st) : WW p l e R s m args below meth c κ nL Q HC ws lv pc (.int x :: st) := fun H locs ls hH hP hl => lv_if_ge C.1 C.2.1 d ht (fun h => kt h H locs ls hH hP hl) (fun h => kf h H locs ls hH hP hl)
theorem r_if_gt (C : CT p s m args meth c κ A HC cc nL own ret) {x : Int32} {off : Int} {tgt : Nat} (d : decode cc pc = .ok (.ifCond .gt off, 3)) (ht : (pc : Int) + off = (tgt : Int)) (kt : 0 < x → WW p l e R s m args below meth c κ nL Q HC ws lv tgt st) (kf : ¬ (0 < x) → WW p l e R s m args below meth c κ nL Q HC ws lv (pc + 3) st) : WW p l e R s m args below meth c κ nL Q HC ws lv pc (.int x :: st) := fun H locs ls hH hP hl => lv_if_gt C.1 C.2.1 d ht (fun h => kt h H locs ls hH hP hl) (fun h => kf h H locs ls hH hP hl)
theorem r_if_le (C : CT p s m args meth c κ A HC cc nL own ret) {x : Int32} {off : Int} {tgt : Nat} (d : decode cc pc = .ok (.ifCond .le off, 3)) (ht : (pc : Int) + off = (tgt : Int)) (kt : x ≤ 0 → WW p l e R s m args below meth c κ nL Q HC ws lv tgt st) (kf : ¬ (x ≤ 0) → WW p l e R s m args below meth c κ nL Q HC ws lv (pc + 3) st) : WW p l e R s m args below meth c κ nL Q HC ws lv pc (.int x :: st) := fun H locs ls hH hP hl => lv_if_le C.1 C.2.1 d ht (fun h => kt h H locs ls hH hP hl) (fun h => kf h H locs ls hH hP hl)
theorem r_icmp_eq (C : CT p s m args meth c κ A HC cc nL own ret) {x y : Int32} {off : Int} {tgt : Nat} (d : decode cc pc = .ok (.if_icmp .eq off, 3)) (ht : (pc : Int) + off = (tgt : Int)) (kt : x = y → WW p l e R s m args below meth c κ nL Q HC ws lv tgt st) (kf : ¬ (x = y) → WW p l e R s m args below meth c κ nL Q HC ws lv (pc + 3) st) : WW p l e R s m args below meth c κ nL Q HC ws lv pc (.int y :: .int x :: st) := fun H locs ls hH hP hl => lv_icmp_eq C.1 C.2.1 d ht (fun h => kt h H locs ls hH hP hl) (fun h => kf h H locs ls hH hP hl)
theorem r_icmp_ne (C : CT p s m args meth c κ A HC cc nL own ret) {x y : Int32} {off : Int} {tgt : Nat} (d : decode cc pc = .ok (.if_icmp .ne off, 3)) (ht : (pc : Int) + off = (tgt : Int)) (kt : ¬ (x = y) → WW p l e R s m args below meth c κ nL Q HC ws lv tgt st) (kf : x = y → WW p l e R s m args below meth c κ nL Q HC ws lv (pc + 3) st) : WW p l e R s m args below meth c κ nL Q HC ws lv pc (.int y :: .int x :: st) := fun H locs ls hH hP hl => lv_icmp_ne C.1 C.2.1 d ht (fun h => kt h H locs ls hH hP hl) (fun h => kf h H locs ls hH hP hl)
theorem r_icmp_lt (C : CT p s m args meth c κ A HC cc nL own ret) {x y : Int32} {off : Int} {tgt : Nat} (d : decode cc pc = .ok (.if_icmp .lt off, 3)) (ht : (pc : Int) + off = (tgt : Int)) (kt : x < y → WW p l e R s m args below meth c κ nL Q HC ws lv tgt st) (kf : ¬ (x < y) → WW p l e R s m args below meth c κ nL Q HC ws lv (pc + 3) st) : WW p l e R s m args below meth c κ nL Q HC ws lv pc (.int y :: .int x :: st) := fun H locs ls hH hP hl => lv_icmp_lt C.1 C.2.1 d ht (fun h => kt h H locs ls hH hP hl) (fun h => kf h H locs ls hH hP hl)
theorem r_icmp_ge (C : CT p s m args meth c κ A HC cc nL own ret) {x y : Int32} {off : Int} {tgt : Nat} (d : decode cc pc = .ok (.if_icmp .ge off, 3)) (ht : (pc : Int) + off = (tgt : Int)) (kt : y ≤ x → WW p l e R s m args below meth c κ nL Q HC ws lv tgt st) (kf : ¬ (y ≤ x) → WW p l e R s m args below meth c κ nL Q HC ws lv (pc + 3) st) : WW p l e R s m args below meth c κ nL Q HC ws lv pc (.int y :: .int x :: st) := fun H locs ls hH hP hl => lv_icmp_ge C.1 C.2.1 d ht (fun h => kt h H locs ls hH hP hl) (fun h => kf h H locs ls hH hP hl)
theorem r_icmp_gt (C : CT p s m args meth c κ A HC cc nL own ret) {x y : Int32} {off : Int} {tgt : Nat} (d : decode cc pc = .ok (.if_icmp .gt off, 3)) (ht : (pc : Int) + off = (tgt : Int)) (kt : y < x → WW p l e R s m args below meth c κ nL Q HC ws lv tgt st) (kf : ¬ (y < x) → WW p l e R s m args below meth c κ nL Q HC ws lv (pc + 3) st) : WW p l e R s m args below meth c κ nL Q HC ws lv pc (.int y :: .int x :: st) := fun H locs ls hH hP hl => lv_icmp_gt C.1 C.2.1 d ht (fun h => kt h H locs ls hH hP hl) (fun h => kf h H locs ls hH hP hl)
theorem r_icmp_le (C : CT p s m args meth c κ A HC cc nL own ret) {x y : Int32} {off : Int} {tgt : Nat} (d : decode cc pc = .ok (.if_icmp .le off, 3)) (ht : (pc : Int) + off = (tgt : Int)) (kt : x ≤ y → WW p l e R s m args below meth c κ nL Q HC ws lv tgt st) (kf : ¬ (x ≤ y) → WW p l e R s m args below meth c κ nL Q HC ws lv (pc + 3) st) : WW p l e R s m args below meth c κ nL Q HC ws lv pc (.int y :: .int x :: st) := fun H locs ls hH hP hl => lv_icmp_le C.1 C.2.1 d ht (fun h => kt h H locs ls hH hP hl) (fun h => kf h H locs ls hH hP hl)
/-- a switch by a table: the number is one of the told ones or not -/
theorem r_tabIn (C : CT p s m args meth c κ A HC cc nL own ret) {dflt lo hi : Int} {offs : Array Int} {len : Nat} {x v : Int32} {off : Int} {tgt : Nat} (d : decode cc pc = .ok (.tableswitch dflt lo hi offs, len)) (hx : x = v) (h1 : ¬ v.toInt < lo) (h2 : ¬ hi < v.toInt) (ho : offs[(v.toInt - lo).toNat]? = some off) (ht : (pc : Int) + off = (tgt : Int)) (k : WW p l e R s m args below meth c κ nL Q HC ws lv tgt st) : WW p l e R s m args below meth c κ nL Q HC ws lv pc (.int x :: st) := fun H locs ls hH hP hl => lv_tableIn C.1 C.2.1 d (by rw [hx]; exact h1) (by rw [hx]; exact h2) (by rw [hx]; exact ho) ht (k H locs ls hH hP hl)
theorem r_tabOut (C : CT p s m args meth c κ A HC cc nL own ret) {dflt lo hi : Int} {offs : Array Int} {len : Nat} {x : Int32} {tgt : Nat} (d : decode cc pc = .ok (.tableswitch dflt lo hi offs, len)) (h : x.toInt < lo ∨ hi < x.toInt) (ht : (pc : Int) + dflt = (tgt : Int)) (k : WW p l e R s m args below meth c κ nL Q HC ws lv tgt st) : WW p l e R s m args below meth c κ nL Q HC ws lv pc (.int x :: st) := fun H locs ls hH hP hl => lv_tableOut C.1 C.2.1 d h ht (k H locs ls hH hP hl)
theorem r_lookup (C : CT p s m args meth c κ A HC cc nL own ret) {dflt : Int} {ps : Array (Int × Int)} {len : Nat} {x : Int32} {off : Int} {tgt : Nat} (d : decode cc pc = .ok (.lookupswitch dflt ps, len)) (hp : (ps.toList.zip (ps.toList.drop 1)).all (fun (a, next) => a.1 < next.1) = true) (ho : Op.lookupswitch.offset ps.toList dflt x.toInt = off) (ht : (pc : Int) + off = (tgt : Int)) (k : WW p l e R s m args below meth c κ nL Q HC ws lv tgt st) : WW p l e R s m args below meth c κ nL Q HC ws lv pc (.int x :: st) := fun H locs ls hH hP hl => lv_lookup C.1 C.2.1 d hp ho ht (k H locs ls hH hP hl)
/-- a field's link: own file, entry, number, place -/
def FL (own : String) (idx ci k : Nat) : Prop := ∃ (Cn : String) (T : u_T) (N : Nat), classes[ci]? = some (Cn, T, N) ∧ k < N ∧ (∀ w ∈ u_ws Cn T N, w ∈ TT) ∧ Cond.fieldLink own idx (T k).1 (T k).2.1 (T k).2.2.1 ∈ TT
/-- of one that may be written -/
def FP (own : String) (idx ci k : Nat) (ty : FieldType) : Prop := ∃ (Cn : String) (T : u_T) (N : Nat) (ty0 : Nat → FieldType), classes[ci]? = some (Cn, T, N) ∧ k < N ∧ (∀ w ∈ u_ws Cn T N, w ∈ TT) ∧ Cond.fieldLink own idx (T k).1 (T k).2.1 (T k).2.2.1 ∈ TT ∧ (∀ k, k < N → parseFieldDescriptor (T k).2.2.1 = some (ty0 k)) ∧ (∀ a, a < N → ∀ b, b < N → a ≠ b → (T a).2.1 ≠ (T b).2.1) ∧ (T k).2.2.2 = false ∧ parseFieldDescriptor (T k).2.2.1 = some ty
theorem r_get (C : CT p s m args meth c κ A HC cc nL own ret) {idx ci k : Nat} {a : Nat} {fs : List Value} {v : Value} (g : FL own idx ci k) (d : decode cc pc = .ok (.getfield idx, 3)) (q0 : Nat) (he : ws[q0]? = some (a, .inr (ci, fs))) (hv : fs[k]? = some v) (kk : WW p l e R s m args below meth c κ nL Q HC ws lv (pc + 3) (v :: st)) : WW p l e R s m args below meth c κ nL Q HC ws lv pc (.ref a :: st) := fun H locs ls hH hP hl => by
  obtain ⟨Cn, T, N, g1, g2, g3, g4⟩ := g
  exact va_get C.1 C.2.1 C.2.2.2.2.1 g3 C.2.2.2.1 C.2.2.2.2.2.1.1 hP q0 he g1 k g2 (C.2.2.2.2.1 _ g4) (fun _ h => h) hv d (kk H locs ls hH hP hl)
theorem r_put (C : CT p s m args meth c κ A (HRw A s) cc nL own ret) {idx ci k : Nat} {a : Nat} {fs : List Value} {v : Value} {ty : FieldType} {ws' : va_W} (g : FP own idx ci k ty) (d : decode cc pc = .ok (.putfield idx, 3)) (q0 : Nat) (he : ws[q0]? = some (a, .inr (ci, fs))) (hn : narrow ty v = v) (hf : fits ty v = true) (hlen : k < fs.length) (hD : va_D A ws) (hw : ws.set q0 (a, .inr (ci, fs.set k v)) = ws') (kk : WW p l e R s m args below meth c κ nL Q (HRw A s) ws' lv (pc + 3) st) : WW p l e R s m args below meth c κ nL Q (HRw A s) ws lv pc (v :: .ref a :: st) := fun H locs ls hH hP hl => by
  obtain ⟨Cn, T, N, ty0, g1, g2, g3, g4, g5, g6, g7, g8⟩ := g
  subst hw
  exact va_put C.1 C.2.1 C.2.2.2.2.1 g3 ty0 g5 g6 C.2.2.2.1 C.2.2.2.2.2.1.1 hP hD hH q0 he g1 k g2 (C.2.2.2.2.1 _ g4) (fun _ h => h) g7 g8 hn hf hlen d (fun H1 locs1 hP1 _ hS1 => kk H1 locs1 ls hS1 hP1 hl)
theorem r_iald (C : CT p s m args meth c κ A HC cc nL own ret) {a n j : Nat} {f : Nat → Int32} {i : Int32} (d : decode cc pc = .ok (.iaload, 1)) (q0 : Nat) (he : ws[q0]? = some (a, .inl (kI κ, n, .inl f))) (hin : vp_in i n) (hj : i.toNatClampNeg = j) (kk : WW p l e R s m args below meth c κ nL Q HC ws lv (pc + 1) (.int (f j) :: st)) : WW p l e R s m args below meth c κ nL Q HC ws lv pc (.int i :: .ref a :: st) := fun H locs ls hH hP hl => va_iald C.1 C.2.1 C.2.2.2.2.2.1.1 hP q0 0 he rfl hin d (by rw [hj]; exact kk H locs ls hH hP hl)
theorem r_bald (C : CT p s m args meth c κ A HC cc nL own ret) {a n j : Nat} {f : Nat → Int32} {i : Int32} (d : decode cc pc = .ok (.baload, 1)) (q0 : Nat) (he : ws[q0]? = some (a, .inl (kB κ, n, .inl f))) (hin : vp_in i n) (hj : i.toNatClampNeg = j) (kk : WW p l e R s m args below meth c κ nL Q HC ws lv (pc + 1) (.int (f j) :: st)) : WW p l e R s m args below meth c κ nL Q HC ws lv pc (.int i :: .ref a :: st) := fun H locs ls hH hP hl => va_bald C.1 C.2.1 C.2.2.2.2.2.1.1 hP q0 1 he rfl hin d (by rw [hj]; exact kk H locs ls hH hP hl)
theorem r_iast (C : CT p s m args meth c κ A (HRw A s) cc nL own ret) {a n j : Nat} {f : Nat → Int32} {i x : Int32} {ws' : va_W} (d : decode cc pc = .ok (.iastore, 1)) (q0 : Nat) (he : ws[q0]? = some (a, .inl (kI κ, n, .inl f))) (hin : vp_in i n) (hj : i.toNatClampNeg = j) (hD : va_D A ws) (hw : ws.set q0 (a, .inl (kI κ, n, .inl (upd f j x))) = ws') (kk : WW p l e R s m args below meth c κ nL Q (HRw A s) ws' lv (pc + 1) st) : WW p l e R s m args below meth c κ nL Q (HRw A s) ws lv pc (.int x :: .int i :: .ref a :: st) := fun H locs ls hH hP hl => by
  subst hw
  subst hj
  exact va_iast C.1 C.2.1 C.2.2.2.2.2.1.1 hP hD hH q0 0 he rfl hin d (fun H1 locs1 hP1 _ hS1 => kk H1 locs1 ls hS1 hP1 hl)
theorem r_bast (C : CT p s m args meth c κ A (HRw A s) cc nL own ret) {a n j : Nat} {f : Nat → Int32} {i x : Int32} {ws' : va_W} (d : decode cc pc = .ok (.bastore, 1)) (q0 : Nat) (he : ws[q0]? = some (a, .inl (kB κ, n, .inl f))) (hin : vp_in i n) (hj : i.toNatClampNeg = j) (hD : va_D A ws) (hw : ws.set q0 (a, .inl (kB κ, n, .inl (upd f j (vp_nar .byte x)))) = ws') (kk : WW p l e R s m args below meth c κ nL Q (HRw A s) ws' lv (pc + 1) st) : WW p l e R s m args below meth c κ nL Q (HRw A s) ws lv pc (.int x :: .int i :: .ref a :: st) := fun H locs ls hH hP hl => by
  subst hw
  subst hj
  exact va_bast C.1 C.2.1 C.2.2.2.2.2.1.1 hP hD hH q0 1 he rfl hin d (fun H1 locs1 hP1 _ hS1 => kk H1 locs1 ls hS1 hP1 hl)
/-- a cell out of a row of Sheets (t0 2) or of texts (t0 3) -/
theorem r_aald (C : CT p s m args meth c κ A HC cc nL own ret) {a n x : Nat} {f : Nat → Option Nat} {i : Int32} {cA : ClassId} {Cn : String} (d : decode cc pc = .ok (.aaload, 1)) (q0 t0 : Nat) (ht : (ktys κ)[t0]? = some (cA, .object Cn)) (he : ws[q0]? = some (a, .inl (cA, n, .inr (.inr (.inr (.inr f)))))) (hin : vp_in i n) (hx : f i.toNatClampNeg = some x) (kk : WW p l e R s m args below meth c κ nL Q HC ws lv (pc + 1) (.ref x :: st)) : WW p l e R s m args below meth c κ nL Q HC ws lv pc (.int i :: .ref a :: st) := fun H locs ls hH hP hl => va_aldq C.1 C.2.1 C.2.2.2.2.2.1.1 hP q0 t0 he ht hin d (by rw [hx]; exact kk H locs ls hH hP hl)
theorem r_alen (C : CT p s m args meth c κ A HC cc nL own ret) {a : Nat} {x : vp_A} {cA : ClassId} {ty : FieldType} {v : Int32} (d : decode cc pc = .ok (.arraylength, 1)) (q0 t0 : Nat) (ht : (ktys κ)[t0]? = some (cA, ty)) (he : ws[q0]? = some (a, .inl (cA, x))) (hv : Int32.ofNat x.1 = v) (kk : WW p l e R s m args below meth c κ nL Q HC ws lv (pc + 1) (.int v :: st)) : WW p l e R s m args below meth c κ nL Q HC ws lv pc (.ref a :: st) := fun H locs ls hH hP hl => va_alen C.1 C.2.1 C.2.2.2.2.2.1.1 hP q0 t0 he ht hv d (kk H locs ls hH hP hl)
/-- Math.max, Math.min -/
def imax (x y : Int32) : Int32 := if x < y then y else x
def imin (x y : Int32) : Int32 := if y < x then y else x
theorem r_max (C : CT p s m args meth c κ A HC cc nL own ret) {idx : Nat} {x y : Int32} (d : decode cc pc = .ok (.invokestatic idx, 3)) (h1 : Cond.methodLink own idx Lib.Math.max.name ∈ TT) (h2 : Cond.static Lib.Math.max.name ∈ TT) (h3 : Cond.initialized "java/lang/Math" ∈ TT) (h4 : Cond.code Lib.Math.max.name Lib.Math.max.code 2 (some .int) ∈ TT) (hf : 1 ≤ R.frames) (ho : (st.map fun v => v.category).sum + 13 ≤ R.locals) (kk : WW p l e R s m args below meth c κ nL Q HC ws lv (pc + 3) (.int (imax x y) :: st)) : WW p l e R s m args below meth c κ nL Q HC ws lv pc (.int y :: .int x :: st) := fun H locs ls hH hP hl => va_mmax C.1 C.2.1 (C.2.2.1.trans hl.1.symm) C.2.2.2.1 (C.2.2.2.2.1 _ h1) (C.2.2.2.2.1 _ h2) (C.2.2.2.2.1 _ h3) (C.2.2.2.2.1 _ h4) hf ho (Nat.zero_le _) (Nat.zero_le _) d (kk H locs ls hH hP hl)
theorem r_min (C : CT p s m args meth c κ A HC cc nL own ret) {idx : Nat} {x y : Int32} (d : decode cc pc = .ok (.invokestatic idx, 3)) (h1 : Cond.methodLink own idx Lib.Math.min.name ∈ TT) (h2 : Cond.static Lib.Math.min.name ∈ TT) (h3 : Cond.initialized "java/lang/Math" ∈ TT) (h4 : Cond.code Lib.Math.min.name Lib.Math.min.code 2 (some .int) ∈ TT) (hf : 1 ≤ R.frames) (ho : (st.map fun v => v.category).sum + 13 ≤ R.locals) (kk : WW p l e R s m args below meth c κ nL Q HC ws lv (pc + 3) (.int (imin x y) :: st)) : WW p l e R s m args below meth c κ nL Q HC ws lv pc (.int y :: .int x :: st) := fun H locs ls hH hP hl => va_mmin C.1 C.2.1 (C.2.2.1.trans hl.1.symm) C.2.2.2.1 (C.2.2.2.2.1 _ h1) (C.2.2.2.2.1 _ h2) (C.2.2.2.2.1 _ h3) (C.2.2.2.2.1 _ h4) hf ho (Nat.zero_le _) (Nat.zero_le _) d (kk H locs ls hH hP hl)
/-- System.arraycopy between two rows of ints (or one) -/
theorem r_copy (C : CT p s m args meth c κ A (HRw A s) cc nL own ret) {idx a0 a n0 n1 : Nat} {f g : Nat → Int32} {sp dp n : Int32} {ws' : va_W} (d : decode cc pc = .ok (.invokestatic idx, 3)) (h1 : Cond.methodLink own idx arraycopyName ∈ TT) (h2 : Cond.native arraycopyName ∈ TT) (h3 : Cond.static arraycopyName ∈ TT) (h4 : Cond.initialized "java/lang/System" ∈ TT) (q0 q1 : Nat) (he0 : ws[q0]? = some (a0, .inl (kI κ, n0, .inl f))) (he1 : ws[q1]? = some (a, .inl (kI κ, n1, .inl g))) (g1 : ¬ sp < 0) (g2 : ¬ dp < 0) (g3 : ¬ n < 0) (g4 : sp.toNatClampNeg + n.toNatClampNeg ≤ n0) (g5 : dp.toNatClampNeg + n.toNatClampNeg ≤ n1) (hf : 1 ≤ R.frames) (ho : (st.map fun v => v.category).sum + (nativeFrameWords "java/lang/System" "arraycopy" 5 + 11) ≤ R.locals) (hD : va_D A ws) (hw : ws.set q1 (a, .inl (kI κ, n1, .inl (va_cpy f g sp.toNatClampNeg dp.toNatClampNeg n.toNatClampNeg))) = ws') (kk : WW p l e R s m args below meth c κ nL Q (HRw A s) ws' lv (pc + 3) st) : WW p l e R s m args below meth c κ nL Q (HRw A s) ws lv pc (.int n :: .int dp :: .ref a :: .int sp :: .ref a0 :: st) := fun H locs ls hH hP hl => by
  subst hw
  exact va_copyi C.1 C.2.1 (C.2.2.1.trans hl.1.symm) C.2.2.2.1 (C.2.2.2.2.1 _ h1) (C.2.2.2.2.1 _ h2) (C.2.2.2.2.1 _ h3) (C.2.2.2.2.1 _ h4) C.2.2.2.2.2.1.1 hP hD hH q0 q1 0 0 he0 he1 rfl rfl rfl g1 g2 g3 g4 g5 (fun _ _ => rfl) hf ho d (fun H1 locs1 hP1 _ hS1 => kk H1 locs1 ls hS1 hP1 hl)
/-- the static row, and what it holds -/
theorem r_under (C : CT p s m args meth c κ A HC cc nL own ret) {idx : Nat} (d : decode cc pc = .ok (.getstatic idx, 3)) (h1 : Cond.fieldLink own idx RX4 "UNDER" "[I" ∈ TT) (kk : WW p l e R s m args below meth c κ nL Q HC ws lv (pc + 3) (.ref (kU κ) :: st)) : WW p l e R s m args below meth c κ nL Q HC ws lv pc st := fun H locs ls hH hP hl => va_gets C.1 C.2.1 C.2.2.2.2.2.2.1.1 (C.2.2.2.2.2.2.2.1 H locs hH) C.2.2.2.1 (C.2.2.2.2.1 _ h1) (fun _ h => h) d (kk H locs ls hH hP hl)
theorem r_undat (C : CT p s m args meth c κ A HC cc nL own ret) {i : Int32} {j : Nat} (d : decode cc pc = .ok (.iaload, 1)) (hin : vp_in i 7) (hj : i.toNatClampNeg = j) (kk : WW p l e R s m args below meth c κ nL Q HC ws lv (pc + 1) (.int (un_tab.getD j 0) :: st)) : WW p l e R s m args below meth c κ nL Q HC ws lv pc (.int i :: .ref (kU κ) :: st) := fun H locs ls hH hP hl => va_ti C.1 C.2.1 C.2.2.2.2.2.2.1.2.1 (C.2.2.2.2.2.2.2.1 H locs hH) hin rfl d (by rw [hj]; exact kk H locs ls hH hP hl)
/-- ends -/
theorem r_iretRo (C : CT p s m args meth c κ A (HRo s) cc nL own (some .int)) {v : Int32} (d : decode cc pc = .ok (.ireturn, 1)) : WW p l e R s m args below meth c κ nL (MQ below (QRo (some (.int v))) args s 0 0 (fun _ => False)) (HRo s) ws lv pc [.int v] := fun H locs ls hH hP hl => by
  obtain ⟨rfl, rfl⟩ := hH
  exact W.iret C.1 C.2.1 C.2.2.2.2.2.2.2.2.1 (fun t ht _ => ⟨rfl, ht⟩) (fun _ h => by cases h) d C.2.2.2.2.2.2.2.2.2
theorem r_zretRo {ty : FieldType} (C : CT p s m args meth c κ A (HRo s) cc nL own (some ty)) {v : Int32} (hn : narrow ty (.int v) = .int v) (d : decode cc pc = .ok (.ireturn, 1)) : WW p l e R s m args below meth c κ nL (MQ below (QRo (some (.int v))) args s 0 0 (fun _ => False)) (HRo s) ws lv pc [.int v] := fun H locs ls hH hP hl => by
  obtain ⟨rfl, rfl⟩ := hH
  exact W.zret C.1 C.2.1 C.2.2.2.2.2.2.2.2.1 hn (fun t ht _ => ⟨rfl, ht⟩) (fun _ h => by cases h) d C.2.2.2.2.2.2.2.2.2
theorem r_aretRo {ty : FieldType} (C : CT p s m args meth c κ A (HRo s) cc nL own (some ty)) (hrt : (∃ n, ty = .object n) ∨ ∃ t, ty = .array t) {v : Nat} (d : decode cc pc = .ok (.areturn, 1)) : WW p l e R s m args below meth c κ nL (MQ below (QRo (some (.ref v))) args s 0 0 (fun _ => False)) (HRo s) ws lv pc [.ref v] := fun H locs ls hH hP hl => by
  obtain ⟨rfl, rfl⟩ := hH
  exact W.aret C.1 C.2.1 C.2.2.2.2.2.2.2.2.1 hrt (Or.inr ⟨_, rfl⟩) (fun t ht _ => ⟨rfl, ht⟩) (fun _ h => by cases h) d C.2.2.2.2.2.2.2.2.2
theorem r_vretRo (C : CT p s m args meth c κ A (HRo s) cc nL own none) (d : decode cc pc = .ok (.return_, 1)) : WW p l e R s m args below meth c κ nL (MQ below (QRo none) args s 0 0 (fun _ => False)) (HRo s) ws lv pc [] := fun H locs ls hH hP hl => by
  obtain ⟨rfl, rfl⟩ := hH
  exact W.vret C.1 C.2.1 C.2.2.2.2.2.2.2.2.1 (fun t ht _ => ⟨rfl, ht⟩) (fun _ h => by cases h) d C.2.2.2.2.2.2.2.2.2
theorem r_iretRw (C : CT p s m args meth c κ A (HRw A s) cc nL own (some .int)) {v : Int32} (d : decode cc pc = .ok (.ireturn, 1)) : WW p l e R s m args below meth c κ nL (MQ below (QRw κ (some (.int v)) ws A) args s 0 0 A) (HRw A s) ws lv pc [.int v] := fun H locs ls hH hP hl =>
  W.iret C.1 C.2.1 C.2.2.2.2.2.2.2.2.1 (fun t ht _ => ⟨rfl, by rw [ht]; exact hP, hH.F ht⟩) hH.2.2 d C.2.2.2.2.2.2.2.2.2
theorem r_zretRw {ty : FieldType} (C : CT p s m args meth c κ A (HRw A s) cc nL own (some ty)) {v : Int32} (hn : narrow ty (.int v) = .int v) (d : decode cc pc = .ok (.ireturn, 1)) : WW p l e R s m args below meth c κ nL (MQ below (QRw κ (some (.int v)) ws A) args s 0 0 A) (HRw A s) ws lv pc [.int v] := fun H locs ls hH hP hl =>
  W.zret C.1 C.2.1 C.2.2.2.2.2.2.2.2.1 hn (fun t ht _ => ⟨rfl, by rw [ht]; exact hP, hH.F ht⟩) hH.2.2 d C.2.2.2.2.2.2.2.2.2
theorem r_lretRw (C : CT p s m args meth c κ A (HRw A s) cc nL own (some .long)) {v : Int64} (d : decode cc pc = .ok (.lreturn, 1)) : WW p l e R s m args below meth c κ nL (MQ below (QRw κ (some (.long v)) ws A) args s 0 0 A) (HRw A s) ws lv pc [.long v] := fun H locs ls hH hP hl =>
  W.lret C.1 C.2.1 C.2.2.2.2.2.2.2.2.1 (fun t ht _ => ⟨rfl, by rw [ht]; exact hP, hH.F ht⟩) hH.2.2 d C.2.2.2.2.2.2.2.2.2
theorem r_vretRw (C : CT p s m args meth c κ A (HRw A s) cc nL own none) (d : decode cc pc = .ok (.return_, 1)) : WW p l e R s m args below meth c κ nL (MQ below (QRw κ none ws A) args s 0 0 A) (HRw A s) ws lv pc [] := fun H locs ls hH hP hl =>
  W.vret C.1 C.2.1 C.2.2.2.2.2.2.2.2.1 (fun t ht _ => ⟨rfl, by rw [ht]; exact hP, hH.F ht⟩) hH.2.2 d C.2.2.2.2.2.2.2.2.2
/-- calls: the words of a link -/
def VL (own : String) (idx : Nat) (Cn : String) (y : MethodName) (cy : ByteArray) (mL : Nat) (ry : Option FieldType) (n : Nat) : Prop :=
  Cond.methodLink own idx y ∈ TT ∧ Cond.instanceMethod y ∈ TT ∧ Cond.selects Cn y y ∈ TT ∧ Cond.initialized Cn ∈ TT ∧ Cond.code y cy mL ry ∈ TT ∧ (y.cls = Cn ∧ y.cls ≠ "java/lang/invoke/MethodHandle" ∧ y.cls ≠ "java/lang/invoke/VarHandle" ∧ (parseMethodDescriptor y.desc).map (fun d => d.parameters.length) = some n)
def SL (own : String) (idx : Nat) (y : MethodName) (cy : ByteArray) (mL : Nat) (ry : Option FieldType) (n : Nat) : Prop :=
  Cond.methodLink own idx y ∈ TT ∧ Cond.static y ∈ TT ∧ Cond.initialized y.cls ∈ TT ∧ Cond.code y cy mL ry ∈ TT ∧ (y.cls ≠ "java/lang/invoke/MethodHandle" ∧ y.cls ≠ "java/lang/invoke/VarHandle" ∧ (parseMethodDescriptor y.desc).map (fun d => d.parameters.length) = some n)
/-- a static method of a nest mate -/
def NL (own : String) (idx : Nat) (y : MethodName) (cy : ByteArray) (mL : Nat) (ry : Option FieldType) (n : Nat) : Prop :=
  (∀ U : State, NW U → va_Nw (.methodLinkNest own idx y RX4) U) ∧ Cond.static y ∈ TT ∧ Cond.initialized y.cls ∈ TT ∧ Cond.code y cy mL ry ∈ TT ∧ (y.cls ≠ "java/lang/invoke/MethodHandle" ∧ y.cls ≠ "java/lang/invoke/VarHandle" ∧ (parseMethodDescriptor y.desc).map (fun d => d.parameters.length) = some n)
theorem good_call {y : MethodName} {cy : ByteArray} {mL : Nat} {ry : Option FieldType} (h : Cond.code y cy mL ry ∈ TT) : GoodIn TT (Cond.code y cy mL ry :: TT) := fun w hw => by
  have hm : w ∈ TT := (List.mem_cons.mp hw).elim (fun e => e ▸ h) id
  exact ⟨hm, good_of_word (List.all_eq_true.mp TT_good w hm)⟩
theorem callB_mk {idx : Nat} {y : MethodName} {cy : ByteArray} {mL : Nat} {ry : Option FieldType} {rm : Room} {n : Nat} (ht : ∀ w ∈ TT, w.before args s = true) (hl : Cond.methodLink own idx y ∈ TT) (hi : Cond.initialized y.cls ∈ TT) (hc : Cond.code y cy mL ry ∈ TT) (hd : y.cls ≠ "java/lang/invoke/MethodHandle" ∧ y.cls ≠ "java/lang/invoke/VarHandle" ∧ (parseMethodDescriptor y.desc).map (fun d => d.parameters.length) = some n) (hr0 : rm.cells = 0) (hr1 : rm.slots = 0) (hR : rm.frames + 1 ≤ R.frames ∧ 8 + (mL + 11) + rm.locals ≤ R.locals) : CallB R s args own idx y cy mL ry (Cond.code y cy mL ry :: TT) rm 0 0 n :=
  callB_of n ht (good_call hc) rfl hr0 hr1 (ht _ hi) (ht _ hl) hd hR
theorem after_ro {rest : List Value} {rv : Option Value} {H : Heap} {locs : List Loc} {ls : Array Slot} {a : Array Value} (hr : va_Run p l e R s m args below meth c H locs 0 0 0 0 (F0 m pc ls st) rest (QRo rv a) (fun _ => False)) (kk : W p l e R s m args below meth c H locs 0 0 Q (F0 m (pc + 3) ls (rv.toList ++ rest))) : W p l e R s m args below meth c H locs 0 0 Q (F0 m pc ls st) := by
  intro T hT X
  obtain ⟨v, st₀, t, T', L, h0, X', hL, e1, e2, ⟨hv, hh⟩, stp⟩ := hr T hT X
  cases hv
  obtain ⟨t2, a1, b1⟩ := kk T' (by rw [e1, hh, h0]) (Stand.forget X' (fun q h => (hL q h).elim))
  exact ⟨t2, stp t2 a1, b1⟩
theorem ro_pre {wc : va_W} {H : Heap} {locs : List Loc} {As : List Value} (C : CT p s m args meth c κ A HC cc nL own ret) (hH : HC H locs) (hP : va_P κ.1 classes wc H) : ∀ U : State, U.heap = H → s.WarmedH U.vm → va_Pc As (PRo κ wc) As.toArray U := fun U hU hW => by
  refine ⟨rfl, by rw [hU]; exact hP, C.2.2.2.2.2.1.warm hW, ?_⟩
  have hS := C.2.2.2.2.2.2.2.1 H locs hH
  rw [hU]
  exact ((C.2.2.2.2.2.2.1.kept (fun a h1 h2 => hS.2.1 a h1 h2)).narrow (fun _ h => h.elim)).moved hW.alike
theorem r_roV (C : CT p s m args meth c κ A HC cc nL own ret) {idx : Nat} {Cn : String} {y : MethodName} {cy : ByteArray} {mL : Nat} {ry : Option FieldType} {n : Nat} {rm : Room} {wc : va_W} {b : Nat} {As : List Value} {rv : Option Value} {rest st' : List Value} (d : decode cc pc = .ok (.invokevirtual idx, 3)) (g : VL own idx Cn y cy mL ry n) (hM : MRo l y cy mL ry rm κ wc (.ref b :: As) rv) (is : List Nat) (hs : is.filterMap (fun i => ws[i]?) = wc) (q0 : Nat) {ci : Nat} {fs : List Value} {T : u_T} {N : Nat} (hq : wc[q0]? = some (b, .inr (ci, fs))) (hc : classes[ci]? = some (Cn, T, N)) (hR : rm.cells = 0 ∧ rm.slots = 0 ∧ rm.frames + 1 ≤ R.frames ∧ 8 + (mL + 11) + rm.locals ≤ R.locals) (hn : As.length = n) (hst : st = As.reverse ++ .ref b :: rest) (hcat : (rest.map fun v => v.category).sum ≤ 8) (hst' : rv.toList ++ rest = st') (kk : WW p l e R s m args below meth c κ nL Q HC ws lv (pc + 3) st') : WW p l e R s m args below meth c κ nL Q HC ws lv pc st := fun H locs ls hH hP hl => by
  have hPc : va_P κ.1 classes wc H := hP.sub is hs
  refine after_ro (va_runV (As := As) (rest := rest) (nL := nL) ⟨C.1, C.2.1, C.2.2.1, C.2.2.2.1, C.2.2.2.2.1⟩ hM ⟨callB_mk C.2.2.2.2.1 g.1 (by rw [g.2.2.2.2.2.1]; exact g.2.2.2.1) g.2.2.2.2.1 g.2.2.2.2.2.2 hR.1 hR.2.1 hR.2.2, C.2.2.2.2.1 _ g.2.1, C.2.2.2.2.1 _ g.2.2.1⟩ ⟨PRo.blind κ wc _, va_recv C.2.2.2.2.2.1.1 hPc hc hq, ro_pre C hH hPc⟩ rfl hn hl.1 hst (lv_room hcat) d ⟨Nat.zero_le _, Nat.zero_le _⟩) (by rw [hst']; exact kk H locs ls hH hP hl)
theorem r_roS (C : CT p s m args meth c κ A HC cc nL own ret) {idx : Nat} {y : MethodName} {cy : ByteArray} {mL : Nat} {ry : Option FieldType} {n : Nat} {rm : Room} {wc : va_W} {As : List Value} {rv : Option Value} {rest st' : List Value} (d : decode cc pc = .ok (.invokestatic idx, 3)) (g : SL own idx y cy mL ry n) (hM : MRo l y cy mL ry rm κ wc As rv) (is : List Nat) (hs : is.filterMap (fun i => ws[i]?) = wc) (hR : rm.cells = 0 ∧ rm.slots = 0 ∧ rm.frames + 1 ≤ R.frames ∧ 8 + (mL + 11) + rm.locals ≤ R.locals) (hn : As.length = n) (hst : st = As.reverse ++ rest) (hcat : (rest.map fun v => v.category).sum ≤ 8) (hst' : rv.toList ++ rest = st') (kk : WW p l e R s m args below meth c κ nL Q HC ws lv (pc + 3) st') : WW p l e R s m args below meth c κ nL Q HC ws lv pc st := fun H locs ls hH hP hl => by
  have hPc : va_P κ.1 classes wc H := hP.sub is hs
  refine after_ro (va_runS (As := As) (rest := rest) (nL := nL) ⟨C.1, C.2.1, C.2.2.1, C.2.2.2.1, C.2.2.2.2.1⟩ hM ⟨callB_mk C.2.2.2.2.1 g.1 g.2.2.1 g.2.2.2.1 g.2.2.2.2 hR.1 hR.2.1 hR.2.2, C.2.2.2.2.1 _ g.2.1⟩ ⟨PRo.blind κ wc _, ro_pre C hH hPc⟩ rfl hn hl.1 hst (lv_room hcat) d ⟨Nat.zero_le _, Nat.zero_le _⟩) (by rw [hst']; exact kk H locs ls hH hP hl)
theorem r_roN (C : CT p s m args meth c κ A HC cc nL own ret) {idx : Nat} {y : MethodName} {cy : ByteArray} {mL : Nat} {ry : Option FieldType} {n : Nat} {rm : Room} {wc : va_W} {As : List Value} {rv : Option Value} {rest st' : List Value} (d : decode cc pc = .ok (.invokestatic idx, 3)) (g : NL own idx y cy mL ry n) (hM : MRo l y cy mL ry rm κ wc As rv) (is : List Nat) (hs : is.filterMap (fun i => ws[i]?) = wc) (hR : rm.cells = 0 ∧ rm.slots = 0 ∧ rm.frames + 1 ≤ R.frames ∧ 8 + (mL + 11) + rm.locals ≤ R.locals) (hn : As.length = n) (hst : st = As.reverse ++ rest) (hcat : (rest.map fun v => v.category).sum ≤ 8) (hst' : rv.toList ++ rest = st') (kk : WW p l e R s m args below meth c κ nL Q HC ws lv (pc + 3) st') : WW p l e R s m args below meth c κ nL Q HC ws lv pc st := fun H locs ls hH hP hl => by
  have hPc : va_P κ.1 classes wc H := hP.sub is hs
  have ht := C.2.2.2.2.1
  refine after_ro (va_runSN (As := As) (rest := rest) (nL := nL) (host := RX4) ⟨C.1, C.2.1, C.2.2.1, C.2.2.2.1, ht⟩ hM ⟨va_cnB n ht (good_call g.2.2.2.1) rfl hR.1 hR.2.1 (g.1 s C.2.2.2.2.2.1.2.1) (ht _ g.2.2.1) g.2.2.2.2 hR.2.2, ht _ g.2.1, trivial⟩ ⟨PRo.blind κ wc _, ro_pre C hH hPc⟩ rfl hn hl.1 hst (lv_room hcat) d ⟨Nat.zero_le _, Nat.zero_le _⟩) (by rw [hst']; exact kk H locs ls hH hP hl)
theorem fm_of {ws wc : va_W} {is : List Nat} (hs : is.map (fun i => ws[i]?) = wc.map some) : is.filterMap (fun i => ws[i]?) = wc := by
  have e : is.filterMap (fun i => ws[i]?) = (is.map (fun i => ws[i]?)).filterMap id := by rw [List.filterMap_map]; rfl
  rw [e, hs, List.filterMap_map]
  show List.filterMap some wc = wc
  exact List.filterMap_some
theorem va_P_putAt {D : va_G} {cl : List vw_C} {H1 : Heap} : ∀ (is : List Nat) (ws wc w1 : va_W), is.map (fun i => ws[i]?) = wc.map some → wc.map Prod.fst = w1.map Prod.fst → va_nd is = true → (∀ (k : Nat) (q : Nat × va_E), k ∉ is → ws[k]? = some q → va_at D cl q H1) → va_P D cl w1 H1 → va_P D cl (putAt ws is w1) H1 := by
  intro is
  induction is with
  | nil => intro ws wc w1 _ _ _ h _ k q hq; simp only [putAt] at hq; exact h k q (by simp) hq
  | cons i is ih =>
    intro ws wc w1 hC hf hn h h1
    cases w1 with
    | nil =>
      cases wc with
      | nil => simp at hC
      | cons x xs => simp at hf
    | cons y ys =>
      cases wc with
      | nil => simp at hf
      | cons x xs =>
        simp only [putAt]
        simp only [List.map_cons, List.cons.injEq] at hC hf
        have hni : i ∉ is := by
          intro hh; simp [va_nd, hh] at hn
        have hn2 : va_nd is = true := by
          simp [va_nd] at hn; exact hn.2
        refine ih (ws.set i y) xs ys ?_ hf.2 hn2 ?_ (fun k q hq => h1 (k + 1) q (by simpa using hq))
        · rw [← hC.2]
          apply List.map_congr_left
          intro j hj
          have hji : i ≠ j := fun e => hni (e ▸ hj)
          rw [List.getElem?_set_ne hji]
        · intro k q hk hq
          by_cases hki : i = k
          · subst hki
            have hlt : i < ws.length := by
              have := hC.1
              exact (List.getElem?_eq_some_iff.mp this).1
            rw [List.getElem?_set_self hlt] at hq
            cases hq
            exact h1 0 y rfl
          · rw [List.getElem?_set_ne hki] at hq
            exact h k q (by simp [hk, Ne.symm hki]) hq
theorem after_rw {rest : List Value} {rv : Option Value} {H : Heap} {locs : List Loc} {ls : Array Slot} {a : Array Value} {wc w1 ws' : va_W} (hr : va_Run p l e R s m args below meth c H locs 0 0 0 0 (F0 m pc ls st) rest (QRw κ rv w1 (va_A wc H.size) a) (va_A wc H.size)) (hH : va_S A s.heap H locs) (hP : va_P κ.1 classes ws H) (hD : va_D A ws) (hA : ∀ q, va_A wc H.size q → A q) (is : List Nat) (hs : is.map (fun i => ws[i]?) = wc.map some) (hf : wc.map Prod.fst = w1.map Prod.fst) (hnd : va_nd is = true) (hw : putAt ws is w1 = ws') (kk : ∀ (H1 : Heap) (locs1 : List Loc), va_S A s.heap H1 locs1 → va_P κ.1 classes ws' H1 → W p l e R s m args below meth c H1 locs1 0 0 Q (F0 m (pc + 3) ls (rv.toList ++ rest))) : W p l e R s m args below meth c H locs 0 0 Q (F0 m pc ls st) := by
  intro T hT X
  obtain ⟨v, st₀, t, T', L, h0, X', hL, e1, e2, ⟨hv, hP1, hz, hk⟩, stp⟩ := hr T hT X
  cases hv
  rw [h0] at hz hk
  rw [← e1] at hP1 hz hk
  have hfr : ∀ (k : Nat) (q : Nat × va_E), k ∉ is → ws[k]? = some q → va_at κ.1 classes q T'.heap := by
    intro k q hk1 hq
    refine (hP k q hq).kept (hk q.1 (hP k q hq).lt (fun hh => ?_))
    rcases hh with ⟨j, e, hj⟩ | hh
    · have h3 : (wc.map some)[j]? = some (some (q.1, e)) := by rw [List.getElem?_map, hj]; rfl
      rw [← hs, List.getElem?_map] at h3
      cases h4 : is[j]? with
      | none => rw [h4] at h3; cases h3
      | some i =>
        rw [h4] at h3
        have h5 : ws[i]? = some (q.1, e) := Option.some.inj h3
        have h6 := hD.1 k i q (q.1, e) hq h5 rfl
        exact hk1 (h6 ▸ List.mem_of_getElem? h4)
    · exact absurd (hP k q hq).lt (Nat.not_lt.mpr hh)
  have hP2 : va_P κ.1 classes ws' T'.heap := by
    rw [← hw]
    exact va_P_putAt is ws wc w1 hs hf hnd hfr hP1
  obtain ⟨t2, a1, b1⟩ := kk T'.heap (locs ++ L) ⟨Nat.le_trans hH.1 hz, fun q h1 h2 => by rw [hk q (Nat.lt_of_lt_of_le h1 hH.1) (fun z => h2 (hA q z))]; exact hH.2.1 q h1 h2, fun q hq => by
      rcases List.mem_append.mp hq with h | h
      · exact hH.2.2 q h
      · exact hA _ (hL q h)⟩ hP2 T' rfl X'
  exact ⟨t2, stp t2 a1, b1⟩
theorem rw_pre {wc : va_W} {H : Heap} {locs : List Loc} {As : List Value} (C : CT p s m args meth c κ A (HRw A s) cc nL own ret) (hH : va_S A s.heap H locs) (hP : va_P κ.1 classes wc H) (hD : va_D A wc) (hA : ∀ q, va_A wc H.size q → A q) : ∀ U : State, U.heap = H → s.WarmedH U.vm → va_Pc As (PRw κ wc H.size) As.toArray U := fun U hU hW => by
  refine ⟨rfl, by rw [hU], by rw [hU]; exact hP, hD.weaken (fun _ _ _ _ => trivial), C.2.2.2.2.2.1.warm hW, ?_⟩
  rw [hU]
  exact ((C.2.2.2.2.2.2.1.kept (fun a h1 h2 => hH.2.1 a h1 h2)).narrow hA).moved hW.alike
theorem r_rwV (C : CT p s m args meth c κ A (HRw A s) cc nL own ret) (hA : ∀ q, s.heap.size ≤ q → A q) {idx : Nat} {Cn : String} {y : MethodName} {cy : ByteArray} {mL : Nat} {ry : Option FieldType} {n : Nat} {rm : Room} {wc w1 ws' : va_W} {b : Nat} {As : List Value} {rv : Option Value} {rest st' : List Value} (d : decode cc pc = .ok (.invokevirtual idx, 3)) (g : VL own idx Cn y cy mL ry n) (hM : MRw l y cy mL ry rm κ wc (.ref b :: As) rv w1) (is : List Nat) (hs : is.map (fun i => ws[i]?) = wc.map some) (hf : wc.map Prod.fst = w1.map Prod.fst) (hnd : va_nd is = true) (q0 : Nat) {ci : Nat} {fs : List Value} {T : u_T} {N : Nat} (hq : wc[q0]? = some (b, .inr (ci, fs))) (hc : classes[ci]? = some (Cn, T, N)) (hR : rm.cells = 0 ∧ rm.slots = 0 ∧ rm.frames + 1 ≤ R.frames ∧ 8 + (mL + 11) + rm.locals ≤ R.locals) (hn : As.length = n) (hst : st = As.reverse ++ .ref b :: rest) (hcat : (rest.map fun v => v.category).sum ≤ 8) (hD : va_D A ws) (hw : putAt ws is w1 = ws') (hst' : rv.toList ++ rest = st') (kk : WW p l e R s m args below meth c κ nL Q (HRw A s) ws' lv (pc + 3) st') : WW p l e R s m args below meth c κ nL Q (HRw A s) ws lv pc st := fun H locs ls hH hP hl => by
  have hDc : va_D A wc := hD.sub is hnd hs
  have hPc : va_P κ.1 classes wc H := hP.sub is (fm_of hs)
  have hFc := va_free (wc := wc) hD hH hA is hs
  exact after_rw (va_runV (As := As) (rest := rest) (nL := nL) ⟨C.1, C.2.1, C.2.2.1, C.2.2.2.1, C.2.2.2.2.1⟩ (hM H.size) ⟨callB_mk C.2.2.2.2.1 g.1 (by rw [g.2.2.2.2.2.1]; exact g.2.2.2.1) g.2.2.2.2.1 g.2.2.2.2.2.2 hR.1 hR.2.1 hR.2.2, C.2.2.2.2.1 _ g.2.1, C.2.2.2.2.1 _ g.2.2.1⟩ ⟨PRw.blind κ wc _ _, va_recv C.2.2.2.2.2.1.1 hPc hc hq, rw_pre C hH hPc hDc hFc⟩ rfl hn hl.1 hst (lv_room hcat) d ⟨Nat.zero_le _, Nat.zero_le _⟩) hH hP hD hFc is hs hf hnd hw (fun H1 locs1 hS1 hP1 => by rw [hst']; exact kk H1 locs1 ls hS1 hP1 hl)
theorem r_rwS (C : CT p s m args meth c κ A (HRw A s) cc nL own ret) (hA : ∀ q, s.heap.size ≤ q → A q) {idx : Nat} {y : MethodName} {cy : ByteArray} {mL : Nat} {ry : Option FieldType} {n : Nat} {rm : Room} {wc w1 ws' : va_W} {As : List Value} {rv : Option Value} {rest st' : List Value} (d : decode cc pc = .ok (.invokestatic idx, 3)) (g : SL own idx y cy mL ry n) (hM : MRw l y cy mL ry rm κ wc As rv w1) (is : List Nat) (hs : is.map (fun i => ws[i]?) = wc.map some) (hf : wc.map Prod.fst = w1.map Prod.fst) (hnd : va_nd is = true) (hR : rm.cells = 0 ∧ rm.slots = 0 ∧ rm.frames + 1 ≤ R.frames ∧ 8 + (mL + 11) + rm.locals ≤ R.locals) (hn : As.length = n) (hst : st = As.reverse ++ rest) (hcat : (rest.map fun v => v.category).sum ≤ 8) (hD : va_D A ws) (hw : putAt ws is w1 = ws') (hst' : rv.toList ++ rest = st') (kk : WW p l e R s m args below meth c κ nL Q (HRw A s) ws' lv (pc + 3) st') : WW p l e R s m args below meth c κ nL Q (HRw A s) ws lv pc st := fun H locs ls hH hP hl => by
  have hDc : va_D A wc := hD.sub is hnd hs
  have hPc : va_P κ.1 classes wc H := hP.sub is (fm_of hs)
  have hFc := va_free (wc := wc) hD hH hA is hs
  exact after_rw (va_runS (As := As) (rest := rest) (nL := nL) ⟨C.1, C.2.1, C.2.2.1, C.2.2.2.1, C.2.2.2.2.1⟩ (hM H.size) ⟨callB_mk C.2.2.2.2.1 g.1 g.2.2.1 g.2.2.2.1 g.2.2.2.2 hR.1 hR.2.1 hR.2.2, C.2.2.2.2.1 _ g.2.1⟩ ⟨PRw.blind κ wc _ _, rw_pre C hH hPc hDc hFc⟩ rfl hn hl.1 hst (lv_room hcat) d ⟨Nat.zero_le _, Nat.zero_le _⟩) hH hP hD hFc is hs hf hnd hw (fun H1 locs1 hS1 hP1 => by rw [hst']; exact kk H1 locs1 ls hS1 hP1 hl)
theorem r_lv0 {lv' : List (Nat × Value)} (h : lv = lv') (k : WW p l e R s m args below meth c κ nL Q HC ws lv' pc st) : WW p l e R s m args below meth c κ nL Q HC ws lv pc st := h ▸ k
end MK
/-- a method that only reads, from its entry -/
theorem enterRo {l : Launch} {y : MethodName} {cc : ByteArray} {maxL : Nat} {ret : Option FieldType} {rm : Room} {κ : KX} {wc : va_W} {As : List Value} {rv : Option Value} (hy : plainName y.cls = true) (hn : (lg_sl As).length ≤ maxL) (body : ∀ (p : Program) (e : Env) (s : State) (m : MethodId) (below : List Frame) (meth : Method) (c : Code), CT p s m As.toArray meth c κ (fun _ => False) (HRo s) cc maxL y.cls ret → WW p l e rm s m As.toArray below meth c κ maxL (MQ below (QRo rv) As.toArray s 0 0 (fun _ => False)) (HRo s) wc (lv_args 0 As) 0 []) : MRo l y cc maxL ret rm κ wc As rv := by
  refine Met.ofW (cc := cc) (maxL := maxL) (ret := ret) hy rfl ?_
  intro p e s m args below meth c s₁ B hml hv
  obtain ⟨rfl, hP, hK, hE⟩ := hv
  have hts := atoms_spec (ws := .code y cc maxL ret :: TT) B.pre
  have hl := lv_entry As (n := maxL) hn
  rw [lg_entry_eq]
  exact body p e s m below meth c ⟨B.exec, B.bytes, hml, findClass_of_methodNamed B.named, fun w hw => hts w (List.mem_cons_of_mem _ hw), hK, hE, fun H locs h => by obtain ⟨rfl, rfl⟩ := h; exact va_S.rf, B.returns, B.notSynchronized⟩ s.heap [] _ ⟨rfl, rfl⟩ hP hl
theorem enterRw {l : Launch} {y : MethodName} {cc : ByteArray} {maxL : Nat} {ret : Option FieldType} {rm : Room} {κ : KX} {wc wc' : va_W} {As : List Value} {rv : Option Value} (hy : plainName y.cls = true) (hn : (lg_sl As).length ≤ maxL) (body : ∀ (p : Program) (e : Env) (s : State) (m : MethodId) (below : List Frame) (meth : Method) (c : Code) (A : Nat → Prop), CT p s m As.toArray meth c κ A (HRw A s) cc maxL y.cls ret → (∀ q, s.heap.size ≤ q → A q) → DA A (wc.map Prod.fst) → WW p l e rm s m As.toArray below meth c κ maxL (MQ below (QRw κ rv wc' A) As.toArray s 0 0 A) (HRw A s) wc (lv_args 0 As) 0 []) : MRw l y cc maxL ret rm κ wc As rv wc' := by
  intro sz
  refine Met.ofW (cc := cc) (maxL := maxL) (ret := ret) hy rfl ?_
  intro p e s m args below meth c s₁ B hml hv
  obtain ⟨rfl, hsz, hP, hD, hK, hE⟩ := hv
  subst hsz
  have hts := atoms_spec (ws := .code y cc maxL ret :: TT) B.pre
  have hl := lv_entry As (n := maxL) hn
  rw [lg_entry_eq]
  exact body p e s m below meth c (va_A wc s.heap.size) ⟨B.exec, B.bytes, hml, findClass_of_methodNamed B.named, fun w hw => hts w (List.mem_cons_of_mem _ hw), hK, hE, fun H locs h => h, B.returns, B.notSynchronized⟩ (fun q h => Or.inr h) (DA.of hD.self rfl) s.heap [] _ va_S.rf hP hl
/-- the steps of a told computation -/
theorem gt {α : Type} {c : Prop} [Decidable c] {a b : Option α} {r : α} (h : c) (e : (if c then a else b) = some r) : a = some r := by rw [if_pos h] at e; exact e
theorem gf {α : Type} {c : Prop} [Decidable c] {a b : Option α} {r : α} (h : ¬ c) (e : (if c then a else b) = some r) : b = some r := by rw [if_neg h] at e; exact e
/-- an index that must be in its row -/
def ck {α : Type} (i : Int32) (n : Nat) (x : Option α) : Option α := if i < 0 ∨ n ≤ i.toNatClampNeg then none else x
theorem ck_e {α : Type} {i : Int32} {n : Nat} {x : Option α} {r : α} (e : ck i n x = some r) : vp_in i n ∧ x = some r := by
  unfold ck at e
  by_cases h : i < 0 ∨ n ≤ i.toNatClampNeg
  · rw [if_pos h] at e; cases e
  · rw [if_neg h] at e; exact ⟨h, e⟩
/-- what must hold -/
def nd {α : Type} (c : Prop) [Decidable c] (x : Option α) : Option α := if c then x else none
theorem nd_e {α : Type} {c : Prop} [Decidable c] {x : Option α} {r : α} (e : nd c x = some r) : c ∧ x = some r := by
  unfold nd at e
  by_cases h : c
  · rw [if_pos h] at e; exact ⟨h, e⟩
  · rw [if_neg h] at e; cases e
theorem bd_e {α β : Type} {x : Option α} {f : α → Option β} {r : β} (e : x.bind f = some r) : ∃ a, x = some a ∧ f a = some r := by
  cases x with
  | none => cases e
  | some a => exact ⟨a, rfl, e⟩
theorem nb {v : Int32} (h : v = 0 ∨ v = 1) : narrow .boolean (.int v) = .int v := by
  rcases h with rfl | rfl <;> rfl
/-- a name for what was worked out -/
def nmd {α β : Type} (x : α) (f : α → Option β) : Option β := f x
theorem nmd_e {α β : Type} {x : α} {f : α → Option β} {r : β} (e : nmd x f = some r) : ∃ y, x = y ∧ f y = some r := ⟨x, rfl, e⟩
theorem vin {i : Int32} {n : Nat} (h : (!(decide (i < 0)) && decide (i.toNatClampNeg < n)) = true) : vp_in i n := by
  simp only [Bool.and_eq_true, Bool.not_eq_true', decide_eq_false_iff_not, decide_eq_true_eq] at h
  intro hh
  rcases hh with hh | hh
  · exact h.1 hh
  · exact absurd h.2 (Nat.not_lt.mpr hh)
/-- rows of rows -/
abbrev St2 : Type := Nat → Nat → Int32
def up2 (g : St2) (r k : Nat) (v : Int32) : St2 := fun r' => if r' = r then upd (g r) k v else g r'
/-- a whole row becomes another -/
def upr (g : St2) (r : Nat) (f : Nat → Int32) : St2 := fun r' => if r' = r then f else g r'
theorem nbf {v : Int32} (h : v = 0 ∨ v = 1) : fits .boolean (.int v) = true := by
  rcases h with rfl | rfl <;> rfl
/-- the pictures of the objects: a line, a sheet, the tape, the reader, the class's own object with its findings, the row of sheets, the reference -/
abbrev lnW (κ : KX) (a : Nat → Nat) (G : St2) : va_W := [(a 0, .inr (0, [.ref (a 1), .ref (a 2), .ref (a 3), .ref (a 4), .ref (a 5), .ref (a 6), .ref (a 7), .ref (a 8), .ref (a 9), .ref (a 10), .int (G 10 0), .int (G 10 1), .int (G 10 2), .int (G 10 3), .int (G 10 4), .int (G 10 5), .int (G 10 6)])), (a 1, .inl (kI κ, 7, .inl (G 0))), (a 2, .inl (kI κ, 7, .inl (G 1))), (a 3, .inl (kI κ, 7, .inl (G 2))), (a 4, .inl (kI κ, 6, .inl (G 3))), (a 5, .inl (kI κ, 8, .inl (G 4))), (a 6, .inl (kI κ, 8, .inl (G 5))), (a 7, .inl (kI κ, 8, .inl (G 6))), (a 8, .inl (kI κ, 8, .inl (G 7))), (a 9, .inl (kI κ, 8, .inl (G 8))), (a 10, .inl (kI κ, 10, .inl (G 9)))]
abbrev shW (κ : KX) (a : Nat → Nat) (G : St2) : va_W := [(a 0, .inr (1, [.ref (a 1), .int (G 1 0), .int (G 1 1)])), (a 1, .inl (kI κ, 40, .inl (G 0)))]
abbrev tpW (κ : KX) (a : Nat → Nat) (G : St2) : va_W := [(a 0, .inr (2, [.ref (a 1), .int (G 1 0), .int (G 1 1), .int (G 1 2), .int (G 1 3), .int (G 1 4)])), (a 1, .inl (kB κ, 120, .inl (G 0)))]
abbrev rdW (ra : Nat) (pa : Nat → Nat) : va_W := [(ra, .inr (3, [.ref (pa 0)]))]
abbrev lcW (κ : KX) (x : Nat) (la ta ka : Nat → Nat) (ra : Nat) (pa : Nat → Nat) (sa fa : Nat) (G : St2) : va_W := [(x, .inr (4, [.ref (la 0), .ref (ta 0), .ref (ka 0), .int (G 1 0), .ref ra, .ref (pa 0), .ref sa, .ref fa])), (fa, .inl (kI κ, 7, .inl (G 0)))]
abbrev ssW (κ : KX) (sa : Nat) (sf : Nat → Option Nat) : va_W := [(sa, .inl (kS κ, 4, .inr (.inr (.inr (.inr sf)))))]
abbrev mdW (κ : KX) (a : Nat → Nat) (G : St2) : va_W := [(a 0, .inr (5, [.ref (a 1), .ref (a 2), .ref (a 3), .int (G 12 0), .ref (a 4), .int (G 12 1), .int (G 12 2), .ref (a 5), .int (G 12 3), .int (G 12 4), .int (G 12 5), .int (G 12 6), .int (G 12 7), .int (G 12 8), .ref (a 13), .ref (a 6), .ref (a 7), .ref (a 8), .int (G 12 9), .int (G 12 10), .int (G 12 11), .ref (a 9), .ref (a 10), .ref (a 11), .ref (a 12)])), (a 1, .inl (kI κ, 84, .inl (G 0))), (a 2, .inl (kI κ, 84, .inl (G 1))), (a 3, .inl (kI κ, 84, .inl (G 2))), (a 4, .inl (kI κ, 8, .inl (G 3))), (a 5, .inl (kI κ, 120, .inl (G 4))), (a 6, .inl (kI κ, 120, .inl (G 5))), (a 7, .inl (kI κ, 120, .inl (G 6))), (a 8, .inl (kI κ, 120, .inl (G 7))), (a 9, .inl (kI κ, 4, .inl (G 8))), (a 10, .inl (kI κ, 4, .inl (G 9))), (a 11, .inl (kI κ, 160, .inl (G 10))), (a 12, .inl (kI κ, 40, .inl (G 11))), (a 13, .inl (kT κ, 7, .inr (.inr (.inr (.inr (fun i => some (kK κ i)))))))]
/-- how often a loop may go round: far above what any does -/
def FU : Nat := 5000
end
section
theorem dJ6_bitCount_0f7a4_0 : decode cJ6_bitCount_0f7a4 0 = .ok (.iload_n 0, 1) := by decide +kernel
theorem dJ6_bitCount_0f7a4_1 : decode cJ6_bitCount_0f7a4 1 = .ok (.iload_n 0, 1) := by decide +kernel
theorem dJ6_bitCount_0f7a4_2 : decode cJ6_bitCount_0f7a4 2 = .ok (.iconst 1, 1) := by decide +kernel
theorem dJ6_bitCount_0f7a4_3 : decode cJ6_bitCount_0f7a4 3 = .ok (.iushr, 1) := by decide +kernel
theorem dJ6_bitCount_0f7a4_4 : decode cJ6_bitCount_0f7a4 4 = .ok (.ldc_w 265, 3) := by decide +kernel
theorem dJ6_bitCount_0f7a4_7 : decode cJ6_bitCount_0f7a4 7 = .ok (.iand, 1) := by decide +kernel
theorem dJ6_bitCount_0f7a4_8 : decode cJ6_bitCount_0f7a4 8 = .ok (.isub, 1) := by decide +kernel
theorem dJ6_bitCount_0f7a4_9 : decode cJ6_bitCount_0f7a4 9 = .ok (.istore_n 0, 1) := by decide +kernel
theorem dJ6_bitCount_0f7a4_10 : decode cJ6_bitCount_0f7a4 10 = .ok (.iload_n 0, 1) := by decide +kernel
theorem dJ6_bitCount_0f7a4_11 : decode cJ6_bitCount_0f7a4 11 = .ok (.ldc_w 266, 3) := by decide +kernel
theorem dJ6_bitCount_0f7a4_14 : decode cJ6_bitCount_0f7a4 14 = .ok (.iand, 1) := by decide +kernel
theorem dJ6_bitCount_0f7a4_15 : decode cJ6_bitCount_0f7a4 15 = .ok (.iload_n 0, 1) := by decide +kernel
theorem dJ6_bitCount_0f7a4_16 : decode cJ6_bitCount_0f7a4 16 = .ok (.iconst 2, 1) := by decide +kernel
theorem dJ6_bitCount_0f7a4_17 : decode cJ6_bitCount_0f7a4 17 = .ok (.iushr, 1) := by decide +kernel
theorem dJ6_bitCount_0f7a4_18 : decode cJ6_bitCount_0f7a4 18 = .ok (.ldc_w 266, 3) := by decide +kernel
theorem dJ6_bitCount_0f7a4_21 : decode cJ6_bitCount_0f7a4 21 = .ok (.iand, 1) := by decide +kernel
theorem dJ6_bitCount_0f7a4_22 : decode cJ6_bitCount_0f7a4 22 = .ok (.iadd, 1) := by decide +kernel
theorem dJ6_bitCount_0f7a4_23 : decode cJ6_bitCount_0f7a4 23 = .ok (.istore_n 0, 1) := by decide +kernel
theorem dJ6_bitCount_0f7a4_24 : decode cJ6_bitCount_0f7a4 24 = .ok (.iload_n 0, 1) := by decide +kernel
theorem dJ6_bitCount_0f7a4_25 : decode cJ6_bitCount_0f7a4 25 = .ok (.iload_n 0, 1) := by decide +kernel
theorem dJ6_bitCount_0f7a4_26 : decode cJ6_bitCount_0f7a4 26 = .ok (.iconst 4, 1) := by decide +kernel
theorem dJ6_bitCount_0f7a4_27 : decode cJ6_bitCount_0f7a4 27 = .ok (.iushr, 1) := by decide +kernel
theorem dJ6_bitCount_0f7a4_28 : decode cJ6_bitCount_0f7a4 28 = .ok (.iadd, 1) := by decide +kernel
theorem dJ6_bitCount_0f7a4_29 : decode cJ6_bitCount_0f7a4 29 = .ok (.ldc_w 267, 3) := by decide +kernel
theorem dJ6_bitCount_0f7a4_32 : decode cJ6_bitCount_0f7a4 32 = .ok (.iand, 1) := by decide +kernel
theorem dJ6_bitCount_0f7a4_33 : decode cJ6_bitCount_0f7a4 33 = .ok (.istore_n 0, 1) := by decide +kernel
theorem dJ6_bitCount_0f7a4_34 : decode cJ6_bitCount_0f7a4 34 = .ok (.iload_n 0, 1) := by decide +kernel
theorem dJ6_bitCount_0f7a4_35 : decode cJ6_bitCount_0f7a4 35 = .ok (.iload_n 0, 1) := by decide +kernel
theorem dJ6_bitCount_0f7a4_36 : decode cJ6_bitCount_0f7a4 36 = .ok (.bipush 8, 2) := by decide +kernel
theorem dJ6_bitCount_0f7a4_38 : decode cJ6_bitCount_0f7a4 38 = .ok (.iushr, 1) := by decide +kernel
theorem dJ6_bitCount_0f7a4_39 : decode cJ6_bitCount_0f7a4 39 = .ok (.iadd, 1) := by decide +kernel
theorem dJ6_bitCount_0f7a4_40 : decode cJ6_bitCount_0f7a4 40 = .ok (.istore_n 0, 1) := by decide +kernel
theorem dJ6_bitCount_0f7a4_41 : decode cJ6_bitCount_0f7a4 41 = .ok (.iload_n 0, 1) := by decide +kernel
theorem dJ6_bitCount_0f7a4_42 : decode cJ6_bitCount_0f7a4 42 = .ok (.iload_n 0, 1) := by decide +kernel
theorem dJ6_bitCount_0f7a4_43 : decode cJ6_bitCount_0f7a4 43 = .ok (.bipush 16, 2) := by decide +kernel
theorem dJ6_bitCount_0f7a4_45 : decode cJ6_bitCount_0f7a4 45 = .ok (.iushr, 1) := by decide +kernel
theorem dJ6_bitCount_0f7a4_46 : decode cJ6_bitCount_0f7a4 46 = .ok (.iadd, 1) := by decide +kernel
theorem dJ6_bitCount_0f7a4_47 : decode cJ6_bitCount_0f7a4 47 = .ok (.istore_n 0, 1) := by decide +kernel
theorem dJ6_bitCount_0f7a4_48 : decode cJ6_bitCount_0f7a4 48 = .ok (.iload_n 0, 1) := by decide +kernel
theorem dJ6_bitCount_0f7a4_49 : decode cJ6_bitCount_0f7a4 49 = .ok (.bipush 63, 2) := by decide +kernel
theorem dJ6_bitCount_0f7a4_51 : decode cJ6_bitCount_0f7a4 51 = .ok (.iand, 1) := by decide +kernel
theorem dJ6_bitCount_0f7a4_52 : decode cJ6_bitCount_0f7a4 52 = .ok (.ireturn, 1) := by decide +kernel
theorem dX0_become_0 : decode cX0_become 0 = .ok (.aload_n 1, 1) := by decide +kernel
theorem dX0_become_1 : decode cX0_become 1 = .ok (.getfield 9, 3) := by decide +kernel
theorem dX0_become_4 : decode cX0_become 4 = .ok (.iconst 0, 1) := by decide +kernel
theorem dX0_become_5 : decode cX0_become 5 = .ok (.aload_n 0, 1) := by decide +kernel
theorem dX0_become_6 : decode cX0_become 6 = .ok (.getfield 9, 3) := by decide +kernel
theorem dX0_become_9 : decode cX0_become 9 = .ok (.iconst 0, 1) := by decide +kernel
theorem dX0_become_10 : decode cX0_become 10 = .ok (.bipush 7, 2) := by decide +kernel
theorem dX0_become_12 : decode cX0_become 12 = .ok (.invokestatic 64, 3) := by decide +kernel
theorem dX0_become_15 : decode cX0_become 15 = .ok (.aload_n 1, 1) := by decide +kernel
theorem dX0_become_16 : decode cX0_become 16 = .ok (.getfield 15, 3) := by decide +kernel
theorem dX0_become_19 : decode cX0_become 19 = .ok (.iconst 0, 1) := by decide +kernel
theorem dX0_become_20 : decode cX0_become 20 = .ok (.aload_n 0, 1) := by decide +kernel
theorem dX0_become_21 : decode cX0_become 21 = .ok (.getfield 15, 3) := by decide +kernel
theorem dX0_become_24 : decode cX0_become 24 = .ok (.iconst 0, 1) := by decide +kernel
theorem dX0_become_25 : decode cX0_become 25 = .ok (.bipush 7, 2) := by decide +kernel
theorem dX0_become_27 : decode cX0_become 27 = .ok (.invokestatic 64, 3) := by decide +kernel
theorem dX0_become_30 : decode cX0_become 30 = .ok (.aload_n 1, 1) := by decide +kernel
theorem dX0_become_31 : decode cX0_become 31 = .ok (.getfield 18, 3) := by decide +kernel
theorem dX0_become_34 : decode cX0_become 34 = .ok (.iconst 0, 1) := by decide +kernel
theorem dX0_become_35 : decode cX0_become 35 = .ok (.aload_n 0, 1) := by decide +kernel
theorem dX0_become_36 : decode cX0_become 36 = .ok (.getfield 18, 3) := by decide +kernel
theorem dX0_become_39 : decode cX0_become 39 = .ok (.iconst 0, 1) := by decide +kernel
theorem dX0_become_40 : decode cX0_become 40 = .ok (.bipush 7, 2) := by decide +kernel
theorem dX0_become_42 : decode cX0_become 42 = .ok (.invokestatic 64, 3) := by decide +kernel
theorem dX0_become_45 : decode cX0_become 45 = .ok (.aload_n 1, 1) := by decide +kernel
theorem dX0_become_46 : decode cX0_become 46 = .ok (.getfield 21, 3) := by decide +kernel
theorem dX0_become_49 : decode cX0_become 49 = .ok (.iconst 0, 1) := by decide +kernel
theorem dX0_become_50 : decode cX0_become 50 = .ok (.aload_n 0, 1) := by decide +kernel
theorem dX0_become_51 : decode cX0_become 51 = .ok (.getfield 21, 3) := by decide +kernel
theorem dX0_become_54 : decode cX0_become 54 = .ok (.iconst 0, 1) := by decide +kernel
theorem dX0_become_55 : decode cX0_become 55 = .ok (.bipush 6, 2) := by decide +kernel
theorem dX0_become_57 : decode cX0_become 57 = .ok (.invokestatic 64, 3) := by decide +kernel
theorem dX0_become_60 : decode cX0_become 60 = .ok (.aload_n 1, 1) := by decide +kernel
theorem dX0_become_61 : decode cX0_become 61 = .ok (.getfield 24, 3) := by decide +kernel
theorem dX0_become_64 : decode cX0_become 64 = .ok (.iconst 0, 1) := by decide +kernel
theorem dX0_become_65 : decode cX0_become 65 = .ok (.aload_n 0, 1) := by decide +kernel
theorem dX0_become_66 : decode cX0_become 66 = .ok (.getfield 24, 3) := by decide +kernel
theorem dX0_become_69 : decode cX0_become 69 = .ok (.iconst 0, 1) := by decide +kernel
theorem dX0_become_70 : decode cX0_become 70 = .ok (.bipush 8, 2) := by decide +kernel
theorem dX0_become_72 : decode cX0_become 72 = .ok (.invokestatic 64, 3) := by decide +kernel
theorem dX0_become_75 : decode cX0_become 75 = .ok (.aload_n 1, 1) := by decide +kernel
theorem dX0_become_76 : decode cX0_become 76 = .ok (.getfield 27, 3) := by decide +kernel
theorem dX0_become_79 : decode cX0_become 79 = .ok (.iconst 0, 1) := by decide +kernel
theorem dX0_become_80 : decode cX0_become 80 = .ok (.aload_n 0, 1) := by decide +kernel
theorem dX0_become_81 : decode cX0_become 81 = .ok (.getfield 27, 3) := by decide +kernel
theorem dX0_become_84 : decode cX0_become 84 = .ok (.iconst 0, 1) := by decide +kernel
theorem dX0_become_85 : decode cX0_become 85 = .ok (.bipush 8, 2) := by decide +kernel
theorem dX0_become_87 : decode cX0_become 87 = .ok (.invokestatic 64, 3) := by decide +kernel
theorem dX0_become_90 : decode cX0_become 90 = .ok (.aload_n 1, 1) := by decide +kernel
theorem dX0_become_91 : decode cX0_become 91 = .ok (.getfield 30, 3) := by decide +kernel
theorem dX0_become_94 : decode cX0_become 94 = .ok (.iconst 0, 1) := by decide +kernel
theorem dX0_become_95 : decode cX0_become 95 = .ok (.aload_n 0, 1) := by decide +kernel
theorem dX0_become_96 : decode cX0_become 96 = .ok (.getfield 30, 3) := by decide +kernel
theorem dX0_become_99 : decode cX0_become 99 = .ok (.iconst 0, 1) := by decide +kernel
theorem dX0_become_100 : decode cX0_become 100 = .ok (.bipush 8, 2) := by decide +kernel
theorem dX0_become_102 : decode cX0_become 102 = .ok (.invokestatic 64, 3) := by decide +kernel
theorem dX0_become_105 : decode cX0_become 105 = .ok (.aload_n 1, 1) := by decide +kernel
theorem dX0_become_106 : decode cX0_become 106 = .ok (.getfield 33, 3) := by decide +kernel
theorem dX0_become_109 : decode cX0_become 109 = .ok (.iconst 0, 1) := by decide +kernel
theorem dX0_become_110 : decode cX0_become 110 = .ok (.aload_n 0, 1) := by decide +kernel
theorem dX0_become_111 : decode cX0_become 111 = .ok (.getfield 33, 3) := by decide +kernel
theorem dX0_become_114 : decode cX0_become 114 = .ok (.iconst 0, 1) := by decide +kernel
theorem dX0_become_115 : decode cX0_become 115 = .ok (.bipush 8, 2) := by decide +kernel
theorem dX0_become_117 : decode cX0_become 117 = .ok (.invokestatic 64, 3) := by decide +kernel
theorem dX0_become_120 : decode cX0_become 120 = .ok (.aload_n 1, 1) := by decide +kernel
theorem dX0_become_121 : decode cX0_become 121 = .ok (.getfield 36, 3) := by decide +kernel
theorem dX0_become_124 : decode cX0_become 124 = .ok (.iconst 0, 1) := by decide +kernel
theorem dX0_become_125 : decode cX0_become 125 = .ok (.aload_n 0, 1) := by decide +kernel
theorem dX0_become_126 : decode cX0_become 126 = .ok (.getfield 36, 3) := by decide +kernel
theorem dX0_become_129 : decode cX0_become 129 = .ok (.iconst 0, 1) := by decide +kernel
theorem dX0_become_130 : decode cX0_become 130 = .ok (.bipush 8, 2) := by decide +kernel
theorem dX0_become_132 : decode cX0_become 132 = .ok (.invokestatic 64, 3) := by decide +kernel
theorem dX0_become_135 : decode cX0_become 135 = .ok (.aload_n 1, 1) := by decide +kernel
theorem dX0_become_136 : decode cX0_become 136 = .ok (.getfield 39, 3) := by decide +kernel
theorem dX0_become_139 : decode cX0_become 139 = .ok (.iconst 0, 1) := by decide +kernel
theorem dX0_become_140 : decode cX0_become 140 = .ok (.aload_n 0, 1) := by decide +kernel
theorem dX0_become_141 : decode cX0_become 141 = .ok (.getfield 39, 3) := by decide +kernel
theorem dX0_become_144 : decode cX0_become 144 = .ok (.iconst 0, 1) := by decide +kernel
theorem dX0_become_145 : decode cX0_become 145 = .ok (.bipush 10, 2) := by decide +kernel
theorem dX0_become_147 : decode cX0_become 147 = .ok (.invokestatic 64, 3) := by decide +kernel
theorem dX0_become_150 : decode cX0_become 150 = .ok (.aload_n 0, 1) := by decide +kernel
theorem dX0_become_151 : decode cX0_become 151 = .ok (.aload_n 1, 1) := by decide +kernel
theorem dX0_become_152 : decode cX0_become 152 = .ok (.getfield 42, 3) := by decide +kernel
theorem dX0_become_155 : decode cX0_become 155 = .ok (.putfield 42, 3) := by decide +kernel
theorem dX0_become_158 : decode cX0_become 158 = .ok (.aload_n 0, 1) := by decide +kernel
theorem dX0_become_159 : decode cX0_become 159 = .ok (.aload_n 1, 1) := by decide +kernel
theorem dX0_become_160 : decode cX0_become 160 = .ok (.getfield 46, 3) := by decide +kernel
theorem dX0_become_163 : decode cX0_become 163 = .ok (.putfield 46, 3) := by decide +kernel
theorem dX0_become_166 : decode cX0_become 166 = .ok (.aload_n 0, 1) := by decide +kernel
theorem dX0_become_167 : decode cX0_become 167 = .ok (.aload_n 1, 1) := by decide +kernel
theorem dX0_become_168 : decode cX0_become 168 = .ok (.getfield 49, 3) := by decide +kernel
theorem dX0_become_171 : decode cX0_become 171 = .ok (.putfield 49, 3) := by decide +kernel
theorem dX0_become_174 : decode cX0_become 174 = .ok (.aload_n 0, 1) := by decide +kernel
theorem dX0_become_175 : decode cX0_become 175 = .ok (.aload_n 1, 1) := by decide +kernel
theorem dX0_become_176 : decode cX0_become 176 = .ok (.getfield 52, 3) := by decide +kernel
theorem dX0_become_179 : decode cX0_become 179 = .ok (.putfield 52, 3) := by decide +kernel
theorem dX0_become_182 : decode cX0_become 182 = .ok (.aload_n 0, 1) := by decide +kernel
theorem dX0_become_183 : decode cX0_become 183 = .ok (.aload_n 1, 1) := by decide +kernel
theorem dX0_become_184 : decode cX0_become 184 = .ok (.getfield 55, 3) := by decide +kernel
theorem dX0_become_187 : decode cX0_become 187 = .ok (.putfield 55, 3) := by decide +kernel
theorem dX0_become_190 : decode cX0_become 190 = .ok (.aload_n 0, 1) := by decide +kernel
theorem dX0_become_191 : decode cX0_become 191 = .ok (.aload_n 1, 1) := by decide +kernel
theorem dX0_become_192 : decode cX0_become 192 = .ok (.getfield 58, 3) := by decide +kernel
theorem dX0_become_195 : decode cX0_become 195 = .ok (.putfield 58, 3) := by decide +kernel
theorem dX0_become_198 : decode cX0_become 198 = .ok (.aload_n 0, 1) := by decide +kernel
theorem dX0_become_199 : decode cX0_become 199 = .ok (.aload_n 1, 1) := by decide +kernel
theorem dX0_become_200 : decode cX0_become 200 = .ok (.getfield 61, 3) := by decide +kernel
theorem dX0_become_203 : decode cX0_become 203 = .ok (.putfield 61, 3) := by decide +kernel
theorem dX0_become_206 : decode cX0_become 206 = .ok (.return_, 1) := by decide +kernel
theorem dX0_contest_0 : decode cX0_contest 0 = .ok (.aload_n 0, 1) := by decide +kernel
theorem dX0_contest_1 : decode cX0_contest 1 = .ok (.iload_n 2, 1) := by decide +kernel
theorem dX0_contest_2 : decode cX0_contest 2 = .ok (.invokevirtual 86, 3) := by decide +kernel
theorem dX0_contest_5 : decode cX0_contest 5 = .ok (.ifCond .eq 46, 3) := by decide +kernel
theorem dX0_contest_8 : decode cX0_contest 8 = .ok (.aload_n 0, 1) := by decide +kernel
theorem dX0_contest_9 : decode cX0_contest 9 = .ok (.ldc 121, 2) := by decide +kernel
theorem dX0_contest_11 : decode cX0_contest 11 = .ok (.aload_n 0, 1) := by decide +kernel
theorem dX0_contest_12 : decode cX0_contest 12 = .ok (.getfield 58, 3) := by decide +kernel
theorem dX0_contest_15 : decode cX0_contest 15 = .ok (.aload_n 0, 1) := by decide +kernel
theorem dX0_contest_16 : decode cX0_contest 16 = .ok (.iload_n 1, 1) := by decide +kernel
theorem dX0_contest_17 : decode cX0_contest 17 = .ok (.iload_n 2, 1) := by decide +kernel
theorem dX0_contest_18 : decode cX0_contest 18 = .ok (.invokevirtual 122, 3) := by decide +kernel
theorem dX0_contest_21 : decode cX0_contest 21 = .ok (.iadd, 1) := by decide +kernel
theorem dX0_contest_22 : decode cX0_contest 22 = .ok (.invokestatic 111, 3) := by decide +kernel
theorem dX0_contest_25 : decode cX0_contest 25 = .ok (.putfield 58, 3) := by decide +kernel
theorem dX0_contest_28 : decode cX0_contest 28 = .ok (.aload_n 0, 1) := by decide +kernel
theorem dX0_contest_29 : decode cX0_contest 29 = .ok (.getfield 33, 3) := by decide +kernel
theorem dX0_contest_32 : decode cX0_contest 32 = .ok (.iload_n 1, 1) := by decide +kernel
theorem dX0_contest_33 : decode cX0_contest 33 = .ok (.sipush 9999, 3) := by decide +kernel
theorem dX0_contest_36 : decode cX0_contest 36 = .ok (.aload_n 0, 1) := by decide +kernel
theorem dX0_contest_37 : decode cX0_contest 37 = .ok (.getfield 33, 3) := by decide +kernel
theorem dX0_contest_40 : decode cX0_contest 40 = .ok (.iload_n 1, 1) := by decide +kernel
theorem dX0_contest_41 : decode cX0_contest 41 = .ok (.iaload, 1) := by decide +kernel
theorem dX0_contest_42 : decode cX0_contest 42 = .ok (.iconst 1, 1) := by decide +kernel
theorem dX0_contest_43 : decode cX0_contest 43 = .ok (.iadd, 1) := by decide +kernel
theorem dX0_contest_44 : decode cX0_contest 44 = .ok (.invokestatic 111, 3) := by decide +kernel
theorem dX0_contest_47 : decode cX0_contest 47 = .ok (.iastore, 1) := by decide +kernel
theorem dX0_contest_48 : decode cX0_contest 48 = .ok (.goto 37, 3) := by decide +kernel
theorem dX0_contest_51 : decode cX0_contest 51 = .ok (.aload_n 0, 1) := by decide +kernel
theorem dX0_contest_52 : decode cX0_contest 52 = .ok (.getfield 36, 3) := by decide +kernel
theorem dX0_contest_55 : decode cX0_contest 55 = .ok (.iload_n 1, 1) := by decide +kernel
theorem dX0_contest_56 : decode cX0_contest 56 = .ok (.sipush 9999, 3) := by decide +kernel
theorem dX0_contest_59 : decode cX0_contest 59 = .ok (.aload_n 0, 1) := by decide +kernel
theorem dX0_contest_60 : decode cX0_contest 60 = .ok (.getfield 36, 3) := by decide +kernel
theorem dX0_contest_63 : decode cX0_contest 63 = .ok (.iload_n 1, 1) := by decide +kernel
theorem dX0_contest_64 : decode cX0_contest 64 = .ok (.iaload, 1) := by decide +kernel
theorem dX0_contest_65 : decode cX0_contest 65 = .ok (.iconst 1, 1) := by decide +kernel
theorem dX0_contest_66 : decode cX0_contest 66 = .ok (.iadd, 1) := by decide +kernel
theorem dX0_contest_67 : decode cX0_contest 67 = .ok (.invokestatic 111, 3) := by decide +kernel
theorem dX0_contest_70 : decode cX0_contest 70 = .ok (.iastore, 1) := by decide +kernel
theorem dX0_contest_71 : decode cX0_contest 71 = .ok (.aload_n 0, 1) := by decide +kernel
theorem dX0_contest_72 : decode cX0_contest 72 = .ok (.iconst 0, 1) := by decide +kernel
theorem dX0_contest_73 : decode cX0_contest 73 = .ok (.aload_n 0, 1) := by decide +kernel
theorem dX0_contest_74 : decode cX0_contest 74 = .ok (.getfield 58, 3) := by decide +kernel
theorem dX0_contest_77 : decode cX0_contest 77 = .ok (.iconst 3, 1) := by decide +kernel
theorem dX0_contest_78 : decode cX0_contest 78 = .ok (.isub, 1) := by decide +kernel
theorem dX0_contest_79 : decode cX0_contest 79 = .ok (.invokestatic 74, 3) := by decide +kernel
theorem dX0_contest_82 : decode cX0_contest 82 = .ok (.putfield 58, 3) := by decide +kernel
theorem dX0_contest_85 : decode cX0_contest 85 = .ok (.return_, 1) := by decide +kernel
theorem dX0_draw_0 : decode cX0_draw 0 = .ok (.aload_n 0, 1) := by decide +kernel
theorem dX0_draw_1 : decode cX0_draw 1 = .ok (.aload_n 0, 1) := by decide +kernel
theorem dX0_draw_2 : decode cX0_draw 2 = .ok (.getfield 61, 3) := by decide +kernel
theorem dX0_draw_5 : decode cX0_draw 5 = .ok (.ldc 97, 2) := by decide +kernel
theorem dX0_draw_7 : decode cX0_draw 7 = .ok (.imul, 1) := by decide +kernel
theorem dX0_draw_8 : decode cX0_draw 8 = .ok (.sipush 12345, 3) := by decide +kernel
theorem dX0_draw_11 : decode cX0_draw 11 = .ok (.iadd, 1) := by decide +kernel
theorem dX0_draw_12 : decode cX0_draw 12 = .ok (.putfield 61, 3) := by decide +kernel
theorem dX0_draw_15 : decode cX0_draw 15 = .ok (.aload_n 0, 1) := by decide +kernel
theorem dX0_draw_16 : decode cX0_draw 16 = .ok (.getfield 61, 3) := by decide +kernel
theorem dX0_draw_19 : decode cX0_draw 19 = .ok (.bipush 8, 2) := by decide +kernel
theorem dX0_draw_21 : decode cX0_draw 21 = .ok (.iushr, 1) := by decide +kernel
theorem dX0_draw_22 : decode cX0_draw 22 = .ok (.ireturn, 1) := by decide +kernel
theorem dX0_forceIn_0 : decode cX0_forceIn 0 = .ok (.aload_n 0, 1) := by decide +kernel
theorem dX0_forceIn_1 : decode cX0_forceIn 1 = .ok (.getfield 15, 3) := by decide +kernel
theorem dX0_forceIn_4 : decode cX0_forceIn 4 = .ok (.iload_n 1, 1) := by decide +kernel
theorem dX0_forceIn_5 : decode cX0_forceIn 5 = .ok (.iaload, 1) := by decide +kernel
theorem dX0_forceIn_6 : decode cX0_forceIn 6 = .ok (.aload_n 0, 1) := by decide +kernel
theorem dX0_forceIn_7 : decode cX0_forceIn 7 = .ok (.getfield 18, 3) := by decide +kernel
theorem dX0_forceIn_10 : decode cX0_forceIn 10 = .ok (.iload_n 1, 1) := by decide +kernel
theorem dX0_forceIn_11 : decode cX0_forceIn 11 = .ok (.iaload, 1) := by decide +kernel
theorem dX0_forceIn_12 : decode cX0_forceIn 12 = .ok (.iconst 2, 1) := by decide +kernel
theorem dX0_forceIn_13 : decode cX0_forceIn 13 = .ok (.idiv, 1) := by decide +kernel
theorem dX0_forceIn_14 : decode cX0_forceIn 14 = .ok (.iadd, 1) := by decide +kernel
theorem dX0_forceIn_15 : decode cX0_forceIn 15 = .ok (.ireturn, 1) := by decide +kernel
theorem dX0_gainOf_0 : decode cX0_gainOf 0 = .ok (.aload_n 0, 1) := by decide +kernel
theorem dX0_gainOf_1 : decode cX0_gainOf 1 = .ok (.getfield 24, 3) := by decide +kernel
theorem dX0_gainOf_4 : decode cX0_gainOf 4 = .ok (.iload_n 1, 1) := by decide +kernel
theorem dX0_gainOf_5 : decode cX0_gainOf 5 = .ok (.iaload, 1) := by decide +kernel
theorem dX0_gainOf_6 : decode cX0_gainOf 6 = .ok (.tableswitch 63 1 6 #[38, 46, 46, 50, 63, 40], 38) := by decide +kernel
theorem dX0_gainOf_44 : decode cX0_gainOf 44 = .ok (.iconst 1, 1) := by decide +kernel
theorem dX0_gainOf_45 : decode cX0_gainOf 45 = .ok (.ireturn, 1) := by decide +kernel
theorem dX0_gainOf_46 : decode cX0_gainOf 46 = .ok (.iconst 1, 1) := by decide +kernel
theorem dX0_gainOf_47 : decode cX0_gainOf 47 = .ok (.iconst 2, 1) := by decide +kernel
theorem dX0_gainOf_48 : decode cX0_gainOf 48 = .ok (.iload_n 2, 1) := by decide +kernel
theorem dX0_gainOf_49 : decode cX0_gainOf 49 = .ok (.imul, 1) := by decide +kernel
theorem dX0_gainOf_50 : decode cX0_gainOf 50 = .ok (.iadd, 1) := by decide +kernel
theorem dX0_gainOf_51 : decode cX0_gainOf 51 = .ok (.ireturn, 1) := by decide +kernel
theorem dX0_gainOf_52 : decode cX0_gainOf 52 = .ok (.iload_n 2, 1) := by decide +kernel
theorem dX0_gainOf_53 : decode cX0_gainOf 53 = .ok (.iconst 2, 1) := by decide +kernel
theorem dX0_gainOf_54 : decode cX0_gainOf 54 = .ok (.iadd, 1) := by decide +kernel
theorem dX0_gainOf_55 : decode cX0_gainOf 55 = .ok (.ireturn, 1) := by decide +kernel
theorem dX0_gainOf_56 : decode cX0_gainOf 56 = .ok (.iconst 0, 1) := by decide +kernel
theorem dX0_gainOf_57 : decode cX0_gainOf 57 = .ok (.iload_n 2, 1) := by decide +kernel
theorem dX0_gainOf_58 : decode cX0_gainOf 58 = .ok (.iconst 2, 1) := by decide +kernel
theorem dX0_gainOf_59 : decode cX0_gainOf 59 = .ok (.iadd, 1) := by decide +kernel
theorem dX0_gainOf_60 : decode cX0_gainOf 60 = .ok (.aload_n 0, 1) := by decide +kernel
theorem dX0_gainOf_61 : decode cX0_gainOf 61 = .ok (.getfield 46, 3) := by decide +kernel
theorem dX0_gainOf_64 : decode cX0_gainOf 64 = .ok (.isub, 1) := by decide +kernel
theorem dX0_gainOf_65 : decode cX0_gainOf 65 = .ok (.invokestatic 74, 3) := by decide +kernel
theorem dX0_gainOf_68 : decode cX0_gainOf 68 = .ok (.ireturn, 1) := by decide +kernel
theorem dX0_gainOf_69 : decode cX0_gainOf 69 = .ok (.iload_n 2, 1) := by decide +kernel
theorem dX0_gainOf_70 : decode cX0_gainOf 70 = .ok (.ireturn, 1) := by decide +kernel
theorem dX0_highOf_0 : decode cX0_highOf 0 = .ok (.iconst 0, 1) := by decide +kernel
theorem dX0_highOf_1 : decode cX0_highOf 1 = .ok (.aload_n 0, 1) := by decide +kernel
theorem dX0_highOf_2 : decode cX0_highOf 2 = .ok (.getfield 27, 3) := by decide +kernel
theorem dX0_highOf_5 : decode cX0_highOf 5 = .ok (.iload_n 1, 1) := by decide +kernel
theorem dX0_highOf_6 : decode cX0_highOf 6 = .ok (.iaload, 1) := by decide +kernel
theorem dX0_highOf_7 : decode cX0_highOf 7 = .ok (.aload_n 0, 1) := by decide +kernel
theorem dX0_highOf_8 : decode cX0_highOf 8 = .ok (.getfield 30, 3) := by decide +kernel
theorem dX0_highOf_11 : decode cX0_highOf 11 = .ok (.iload_n 1, 1) := by decide +kernel
theorem dX0_highOf_12 : decode cX0_highOf 12 = .ok (.iaload, 1) := by decide +kernel
theorem dX0_highOf_13 : decode cX0_highOf 13 = .ok (.iconst 4, 1) := by decide +kernel
theorem dX0_highOf_14 : decode cX0_highOf 14 = .ok (.idiv, 1) := by decide +kernel
theorem dX0_highOf_15 : decode cX0_highOf 15 = .ok (.isub, 1) := by decide +kernel
theorem dX0_highOf_16 : decode cX0_highOf 16 = .ok (.invokestatic 74, 3) := by decide +kernel
theorem dX0_highOf_19 : decode cX0_highOf 19 = .ok (.istore_n 2, 1) := by decide +kernel
theorem dX0_highOf_20 : decode cX0_highOf 20 = .ok (.aload_n 0, 1) := by decide +kernel
theorem dX0_highOf_21 : decode cX0_highOf 21 = .ok (.getfield 24, 3) := by decide +kernel
theorem dX0_highOf_24 : decode cX0_highOf 24 = .ok (.iload_n 1, 1) := by decide +kernel
theorem dX0_highOf_25 : decode cX0_highOf 25 = .ok (.iaload, 1) := by decide +kernel
theorem dX0_highOf_26 : decode cX0_highOf 26 = .ok (.tableswitch 113 1 6 #[38, 54, 59, 69, 97, 42], 38) := by decide +kernel
theorem dX0_highOf_64 : decode cX0_highOf 64 = .ok (.iload_n 2, 1) := by decide +kernel
theorem dX0_highOf_65 : decode cX0_highOf 65 = .ok (.iconst 2, 1) := by decide +kernel
theorem dX0_highOf_66 : decode cX0_highOf 66 = .ok (.idiv, 1) := by decide +kernel
theorem dX0_highOf_67 : decode cX0_highOf 67 = .ok (.ireturn, 1) := by decide +kernel
theorem dX0_highOf_68 : decode cX0_highOf 68 = .ok (.iload_n 2, 1) := by decide +kernel
theorem dX0_highOf_69 : decode cX0_highOf 69 = .ok (.iconst 2, 1) := by decide +kernel
theorem dX0_highOf_70 : decode cX0_highOf 70 = .ok (.idiv, 1) := by decide +kernel
theorem dX0_highOf_71 : decode cX0_highOf 71 = .ok (.bipush 30, 2) := by decide +kernel
theorem dX0_highOf_73 : decode cX0_highOf 73 = .ok (.iadd, 1) := by decide +kernel
theorem dX0_highOf_74 : decode cX0_highOf 74 = .ok (.aload_n 0, 1) := by decide +kernel
theorem dX0_highOf_75 : decode cX0_highOf 75 = .ok (.getfield 49, 3) := by decide +kernel
theorem dX0_highOf_78 : decode cX0_highOf 78 = .ok (.isub, 1) := by decide +kernel
theorem dX0_highOf_79 : decode cX0_highOf 79 = .ok (.ireturn, 1) := by decide +kernel
theorem dX0_highOf_80 : decode cX0_highOf 80 = .ok (.iload_n 2, 1) := by decide +kernel
theorem dX0_highOf_81 : decode cX0_highOf 81 = .ok (.bipush 10, 2) := by decide +kernel
theorem dX0_highOf_83 : decode cX0_highOf 83 = .ok (.iadd, 1) := by decide +kernel
theorem dX0_highOf_84 : decode cX0_highOf 84 = .ok (.ireturn, 1) := by decide +kernel
theorem dX0_highOf_85 : decode cX0_highOf 85 = .ok (.iload_n 2, 1) := by decide +kernel
theorem dX0_highOf_86 : decode cX0_highOf 86 = .ok (.bipush 15, 2) := by decide +kernel
theorem dX0_highOf_88 : decode cX0_highOf 88 = .ok (.iadd, 1) := by decide +kernel
theorem dX0_highOf_89 : decode cX0_highOf 89 = .ok (.aload_n 0, 1) := by decide +kernel
theorem dX0_highOf_90 : decode cX0_highOf 90 = .ok (.getfield 46, 3) := by decide +kernel
theorem dX0_highOf_93 : decode cX0_highOf 93 = .ok (.isub, 1) := by decide +kernel
theorem dX0_highOf_94 : decode cX0_highOf 94 = .ok (.ireturn, 1) := by decide +kernel
theorem dX0_highOf_95 : decode cX0_highOf 95 = .ok (.iload_n 2, 1) := by decide +kernel
theorem dX0_highOf_96 : decode cX0_highOf 96 = .ok (.bipush 15, 2) := by decide +kernel
theorem dX0_highOf_98 : decode cX0_highOf 98 = .ok (.iadd, 1) := by decide +kernel
theorem dX0_highOf_99 : decode cX0_highOf 99 = .ok (.aload_n 0, 1) := by decide +kernel
theorem dX0_highOf_100 : decode cX0_highOf 100 = .ok (.getfield 46, 3) := by decide +kernel
theorem dX0_highOf_103 : decode cX0_highOf 103 = .ok (.isub, 1) := by decide +kernel
theorem dX0_highOf_104 : decode cX0_highOf 104 = .ok (.aload_n 0, 1) := by decide +kernel
theorem dX0_highOf_105 : decode cX0_highOf 105 = .ok (.getfield 30, 3) := by decide +kernel
theorem dX0_highOf_108 : decode cX0_highOf 108 = .ok (.iload_n 1, 1) := by decide +kernel
theorem dX0_highOf_109 : decode cX0_highOf 109 = .ok (.iaload, 1) := by decide +kernel
theorem dX0_highOf_110 : decode cX0_highOf 110 = .ok (.bipush 20, 2) := by decide +kernel
theorem dX0_highOf_112 : decode cX0_highOf 112 = .ok (.if_icmp .ge 8, 3) := by decide +kernel
theorem dX0_highOf_115 : decode cX0_highOf 115 = .ok (.bipush 10, 2) := by decide +kernel
theorem dX0_highOf_117 : decode cX0_highOf 117 = .ok (.goto 4, 3) := by decide +kernel
theorem dX0_highOf_120 : decode cX0_highOf 120 = .ok (.iconst 0, 1) := by decide +kernel
theorem dX0_highOf_121 : decode cX0_highOf 121 = .ok (.iadd, 1) := by decide +kernel
theorem dX0_highOf_122 : decode cX0_highOf 122 = .ok (.ireturn, 1) := by decide +kernel
theorem dX0_highOf_123 : decode cX0_highOf 123 = .ok (.aload_n 0, 1) := by decide +kernel
theorem dX0_highOf_124 : decode cX0_highOf 124 = .ok (.getfield 55, 3) := by decide +kernel
theorem dX0_highOf_127 : decode cX0_highOf 127 = .ok (.iconst 2, 1) := by decide +kernel
theorem dX0_highOf_128 : decode cX0_highOf 128 = .ok (.irem, 1) := by decide +kernel
theorem dX0_highOf_129 : decode cX0_highOf 129 = .ok (.iconst 1, 1) := by decide +kernel
theorem dX0_highOf_130 : decode cX0_highOf 130 = .ok (.if_icmp .ne 7, 3) := by decide +kernel
theorem dX0_highOf_133 : decode cX0_highOf 133 = .ok (.iconst 0, 1) := by decide +kernel
theorem dX0_highOf_134 : decode cX0_highOf 134 = .ok (.goto 4, 3) := by decide +kernel
theorem dX0_highOf_137 : decode cX0_highOf 137 = .ok (.iload_n 2, 1) := by decide +kernel
theorem dX0_highOf_138 : decode cX0_highOf 138 = .ok (.ireturn, 1) := by decide +kernel
theorem dX0_highOf_139 : decode cX0_highOf 139 = .ok (.iload_n 2, 1) := by decide +kernel
theorem dX0_highOf_140 : decode cX0_highOf 140 = .ok (.ireturn, 1) := by decide +kernel
theorem dX0_join_0 : decode cX0_join 0 = .ok (.aload_n 0, 1) := by decide +kernel
theorem dX0_join_1 : decode cX0_join 1 = .ok (.getfield 42, 3) := by decide +kernel
theorem dX0_join_4 : decode cX0_join 4 = .ok (.istore_n 3, 1) := by decide +kernel
theorem dX0_join_5 : decode cX0_join 5 = .ok (.aload_n 0, 1) := by decide +kernel
theorem dX0_join_6 : decode cX0_join 6 = .ok (.getfield 24, 3) := by decide +kernel
theorem dX0_join_9 : decode cX0_join 9 = .ok (.iload_n 3, 1) := by decide +kernel
theorem dX0_join_10 : decode cX0_join 10 = .ok (.iload_n 1, 1) := by decide +kernel
theorem dX0_join_11 : decode cX0_join 11 = .ok (.iastore, 1) := by decide +kernel
theorem dX0_join_12 : decode cX0_join 12 = .ok (.aload_n 0, 1) := by decide +kernel
theorem dX0_join_13 : decode cX0_join 13 = .ok (.getfield 27, 3) := by decide +kernel
theorem dX0_join_16 : decode cX0_join 16 = .ok (.iload_n 3, 1) := by decide +kernel
theorem dX0_join_17 : decode cX0_join 17 = .ok (.iload_n 2, 1) := by decide +kernel
theorem dX0_join_18 : decode cX0_join 18 = .ok (.iastore, 1) := by decide +kernel
theorem dX0_join_19 : decode cX0_join 19 = .ok (.aload_n 0, 1) := by decide +kernel
theorem dX0_join_20 : decode cX0_join 20 = .ok (.getfield 30, 3) := by decide +kernel
theorem dX0_join_23 : decode cX0_join 23 = .ok (.iload_n 3, 1) := by decide +kernel
theorem dX0_join_24 : decode cX0_join 24 = .ok (.iconst 0, 1) := by decide +kernel
theorem dX0_join_25 : decode cX0_join 25 = .ok (.iastore, 1) := by decide +kernel
theorem dX0_join_26 : decode cX0_join 26 = .ok (.aload_n 0, 1) := by decide +kernel
theorem dX0_join_27 : decode cX0_join 27 = .ok (.getfield 33, 3) := by decide +kernel
theorem dX0_join_30 : decode cX0_join 30 = .ok (.iload_n 3, 1) := by decide +kernel
theorem dX0_join_31 : decode cX0_join 31 = .ok (.iconst 0, 1) := by decide +kernel
theorem dX0_join_32 : decode cX0_join 32 = .ok (.iastore, 1) := by decide +kernel
theorem dX0_join_33 : decode cX0_join 33 = .ok (.aload_n 0, 1) := by decide +kernel
theorem dX0_join_34 : decode cX0_join 34 = .ok (.getfield 36, 3) := by decide +kernel
theorem dX0_join_37 : decode cX0_join 37 = .ok (.iload_n 3, 1) := by decide +kernel
theorem dX0_join_38 : decode cX0_join 38 = .ok (.iconst 0, 1) := by decide +kernel
theorem dX0_join_39 : decode cX0_join 39 = .ok (.iastore, 1) := by decide +kernel
theorem dX0_join_40 : decode cX0_join 40 = .ok (.aload_n 0, 1) := by decide +kernel
theorem dX0_join_41 : decode cX0_join 41 = .ok (.dup, 1) := by decide +kernel
theorem dX0_join_42 : decode cX0_join 42 = .ok (.getfield 42, 3) := by decide +kernel
theorem dX0_join_45 : decode cX0_join 45 = .ok (.iconst 1, 1) := by decide +kernel
theorem dX0_join_46 : decode cX0_join 46 = .ok (.iadd, 1) := by decide +kernel
theorem dX0_join_47 : decode cX0_join 47 = .ok (.putfield 42, 3) := by decide +kernel
theorem dX0_join_50 : decode cX0_join 50 = .ok (.iload_n 3, 1) := by decide +kernel
theorem dX0_join_51 : decode cX0_join 51 = .ok (.ireturn, 1) := by decide +kernel
theorem dX0_learn_0 : decode cX0_learn 0 = .ok (.iconst 0, 1) := by decide +kernel
theorem dX0_learn_1 : decode cX0_learn 1 = .ok (.istore_n 2, 1) := by decide +kernel
theorem dX0_learn_2 : decode cX0_learn 2 = .ok (.iload_n 2, 1) := by decide +kernel
theorem dX0_learn_3 : decode cX0_learn 3 = .ok (.bipush 7, 2) := by decide +kernel
theorem dX0_learn_5 : decode cX0_learn 5 = .ok (.if_icmp .ge 49, 3) := by decide +kernel
theorem dX0_learn_8 : decode cX0_learn 8 = .ok (.aload_n 0, 1) := by decide +kernel
theorem dX0_learn_9 : decode cX0_learn 9 = .ok (.getfield 18, 3) := by decide +kernel
theorem dX0_learn_12 : decode cX0_learn 12 = .ok (.iload_n 2, 1) := by decide +kernel
theorem dX0_learn_13 : decode cX0_learn 13 = .ok (.iload_n 2, 1) := by decide +kernel
theorem dX0_learn_14 : decode cX0_learn 14 = .ok (.iload_n 1, 1) := by decide +kernel
theorem dX0_learn_15 : decode cX0_learn 15 = .ok (.if_icmp .ne 20, 3) := by decide +kernel
theorem dX0_learn_18 : decode cX0_learn 18 = .ok (.bipush 99, 2) := by decide +kernel
theorem dX0_learn_20 : decode cX0_learn 20 = .ok (.aload_n 0, 1) := by decide +kernel
theorem dX0_learn_21 : decode cX0_learn 21 = .ok (.getfield 18, 3) := by decide +kernel
theorem dX0_learn_24 : decode cX0_learn 24 = .ok (.iload_n 2, 1) := by decide +kernel
theorem dX0_learn_25 : decode cX0_learn 25 = .ok (.iaload, 1) := by decide +kernel
theorem dX0_learn_26 : decode cX0_learn 26 = .ok (.bipush 6, 2) := by decide +kernel
theorem dX0_learn_28 : decode cX0_learn 28 = .ok (.iadd, 1) := by decide +kernel
theorem dX0_learn_29 : decode cX0_learn 29 = .ok (.invokestatic 111, 3) := by decide +kernel
theorem dX0_learn_32 : decode cX0_learn 32 = .ok (.goto 15, 3) := by decide +kernel
theorem dX0_learn_35 : decode cX0_learn 35 = .ok (.iconst 0, 1) := by decide +kernel
theorem dX0_learn_36 : decode cX0_learn 36 = .ok (.aload_n 0, 1) := by decide +kernel
theorem dX0_learn_37 : decode cX0_learn 37 = .ok (.getfield 18, 3) := by decide +kernel
theorem dX0_learn_40 : decode cX0_learn 40 = .ok (.iload_n 2, 1) := by decide +kernel
theorem dX0_learn_41 : decode cX0_learn 41 = .ok (.iaload, 1) := by decide +kernel
theorem dX0_learn_42 : decode cX0_learn 42 = .ok (.iconst 1, 1) := by decide +kernel
theorem dX0_learn_43 : decode cX0_learn 43 = .ok (.isub, 1) := by decide +kernel
theorem dX0_learn_44 : decode cX0_learn 44 = .ok (.invokestatic 74, 3) := by decide +kernel
theorem dX0_learn_47 : decode cX0_learn 47 = .ok (.iastore, 1) := by decide +kernel
theorem dX0_learn_48 : decode cX0_learn 48 = .ok (.iinc 2 1, 3) := by decide +kernel
theorem dX0_learn_51 : decode cX0_learn 51 = .ok (.goto (-49), 3) := by decide +kernel
theorem dX0_learn_54 : decode cX0_learn 54 = .ok (.return_, 1) := by decide +kernel
theorem dX0_leave_0 : decode cX0_leave 0 = .ok (.iconst 0, 1) := by decide +kernel
theorem dX0_leave_1 : decode cX0_leave 1 = .ok (.istore_n 2, 1) := by decide +kernel
theorem dX0_leave_2 : decode cX0_leave 2 = .ok (.iload_n 2, 1) := by decide +kernel
theorem dX0_leave_3 : decode cX0_leave 3 = .ok (.bipush 7, 2) := by decide +kernel
theorem dX0_leave_5 : decode cX0_leave 5 = .ok (.if_icmp .ge 26, 3) := by decide +kernel
theorem dX0_leave_8 : decode cX0_leave 8 = .ok (.aload_n 0, 1) := by decide +kernel
theorem dX0_leave_9 : decode cX0_leave 9 = .ok (.getfield 9, 3) := by decide +kernel
theorem dX0_leave_12 : decode cX0_leave 12 = .ok (.iload_n 2, 1) := by decide +kernel
theorem dX0_leave_13 : decode cX0_leave 13 = .ok (.iaload, 1) := by decide +kernel
theorem dX0_leave_14 : decode cX0_leave 14 = .ok (.iload_n 1, 1) := by decide +kernel
theorem dX0_leave_15 : decode cX0_leave 15 = .ok (.if_icmp .ne 10, 3) := by decide +kernel
theorem dX0_leave_18 : decode cX0_leave 18 = .ok (.aload_n 0, 1) := by decide +kernel
theorem dX0_leave_19 : decode cX0_leave 19 = .ok (.getfield 9, 3) := by decide +kernel
theorem dX0_leave_22 : decode cX0_leave 22 = .ok (.iload_n 2, 1) := by decide +kernel
theorem dX0_leave_23 : decode cX0_leave 23 = .ok (.iconst (-1), 1) := by decide +kernel
theorem dX0_leave_24 : decode cX0_leave 24 = .ok (.iastore, 1) := by decide +kernel
theorem dX0_leave_25 : decode cX0_leave 25 = .ok (.iinc 2 1, 3) := by decide +kernel
theorem dX0_leave_28 : decode cX0_leave 28 = .ok (.goto (-26), 3) := by decide +kernel
theorem dX0_leave_31 : decode cX0_leave 31 = .ok (.return_, 1) := by decide +kernel
theorem dX0_nextIndex_0 : decode cX0_nextIndex 0 = .ok (.aload_n 0, 1) := by decide +kernel
theorem dX0_nextIndex_1 : decode cX0_nextIndex 1 = .ok (.getfield 55, 3) := by decide +kernel
theorem dX0_nextIndex_4 : decode cX0_nextIndex 4 = .ok (.bipush 6, 2) := by decide +kernel
theorem dX0_nextIndex_6 : decode cX0_nextIndex 6 = .ok (.irem, 1) := by decide +kernel
theorem dX0_nextIndex_7 : decode cX0_nextIndex 7 = .ok (.ireturn, 1) := by decide +kernel
theorem dX0_nextPlace_0 : decode cX0_nextPlace 0 = .ok (.aload_n 0, 1) := by decide +kernel
theorem dX0_nextPlace_1 : decode cX0_nextPlace 1 = .ok (.getfield 21, 3) := by decide +kernel
theorem dX0_nextPlace_4 : decode cX0_nextPlace 4 = .ok (.aload_n 0, 1) := by decide +kernel
theorem dX0_nextPlace_5 : decode cX0_nextPlace 5 = .ok (.invokevirtual 93, 3) := by decide +kernel
theorem dX0_nextPlace_8 : decode cX0_nextPlace 8 = .ok (.iaload, 1) := by decide +kernel
theorem dX0_nextPlace_9 : decode cX0_nextPlace 9 = .ok (.aload_n 0, 1) := by decide +kernel
theorem dX0_nextPlace_10 : decode cX0_nextPlace 10 = .ok (.getfield 52, 3) := by decide +kernel
theorem dX0_nextPlace_13 : decode cX0_nextPlace 13 = .ok (.invokestatic 90, 3) := by decide +kernel
theorem dX0_nextPlace_16 : decode cX0_nextPlace 16 = .ok (.ireturn, 1) := by decide +kernel
theorem dX0_placesListed_0 : decode cX0_placesListed 0 = .ok (.iconst 0, 1) := by decide +kernel
theorem dX0_placesListed_1 : decode cX0_placesListed 1 = .ok (.istore_n 1, 1) := by decide +kernel
theorem dX0_placesListed_2 : decode cX0_placesListed 2 = .ok (.iconst 0, 1) := by decide +kernel
theorem dX0_placesListed_3 : decode cX0_placesListed 3 = .ok (.istore_n 2, 1) := by decide +kernel
theorem dX0_placesListed_4 : decode cX0_placesListed 4 = .ok (.iload_n 2, 1) := by decide +kernel
theorem dX0_placesListed_5 : decode cX0_placesListed 5 = .ok (.bipush 6, 2) := by decide +kernel
theorem dX0_placesListed_7 : decode cX0_placesListed 7 = .ok (.if_icmp .ge 27, 3) := by decide +kernel
theorem dX0_placesListed_10 : decode cX0_placesListed 10 = .ok (.iload_n 1, 1) := by decide +kernel
theorem dX0_placesListed_11 : decode cX0_placesListed 11 = .ok (.iconst 1, 1) := by decide +kernel
theorem dX0_placesListed_12 : decode cX0_placesListed 12 = .ok (.aload_n 0, 1) := by decide +kernel
theorem dX0_placesListed_13 : decode cX0_placesListed 13 = .ok (.getfield 21, 3) := by decide +kernel
theorem dX0_placesListed_16 : decode cX0_placesListed 16 = .ok (.iload_n 2, 1) := by decide +kernel
theorem dX0_placesListed_17 : decode cX0_placesListed 17 = .ok (.iaload, 1) := by decide +kernel
theorem dX0_placesListed_18 : decode cX0_placesListed 18 = .ok (.aload_n 0, 1) := by decide +kernel
theorem dX0_placesListed_19 : decode cX0_placesListed 19 = .ok (.getfield 52, 3) := by decide +kernel
theorem dX0_placesListed_22 : decode cX0_placesListed 22 = .ok (.invokestatic 90, 3) := by decide +kernel
theorem dX0_placesListed_25 : decode cX0_placesListed 25 = .ok (.ishl, 1) := by decide +kernel
theorem dX0_placesListed_26 : decode cX0_placesListed 26 = .ok (.ior, 1) := by decide +kernel
theorem dX0_placesListed_27 : decode cX0_placesListed 27 = .ok (.istore_n 1, 1) := by decide +kernel
theorem dX0_placesListed_28 : decode cX0_placesListed 28 = .ok (.iinc 2 1, 3) := by decide +kernel
theorem dX0_placesListed_31 : decode cX0_placesListed 31 = .ok (.goto (-27), 3) := by decide +kernel
theorem dX0_placesListed_34 : decode cX0_placesListed 34 = .ok (.iload_n 1, 1) := by decide +kernel
theorem dX0_placesListed_35 : decode cX0_placesListed 35 = .ok (.ireturn, 1) := by decide +kernel
theorem dX0_putSetting_0 : decode cX0_putSetting 0 = .ok (.iload_n 1, 1) := by decide +kernel
theorem dX0_putSetting_1 : decode cX0_putSetting 1 = .ok (.ifCond .ne 16, 3) := by decide +kernel
theorem dX0_putSetting_4 : decode cX0_putSetting 4 = .ok (.aload_n 0, 1) := by decide +kernel
theorem dX0_putSetting_5 : decode cX0_putSetting 5 = .ok (.getfield 46, 3) := by decide +kernel
theorem dX0_putSetting_8 : decode cX0_putSetting 8 = .ok (.istore_n 3, 1) := by decide +kernel
theorem dX0_putSetting_9 : decode cX0_putSetting 9 = .ok (.aload_n 0, 1) := by decide +kernel
theorem dX0_putSetting_10 : decode cX0_putSetting 10 = .ok (.iload_n 2, 1) := by decide +kernel
theorem dX0_putSetting_11 : decode cX0_putSetting 11 = .ok (.putfield 46, 3) := by decide +kernel
theorem dX0_putSetting_14 : decode cX0_putSetting 14 = .ok (.goto 31, 3) := by decide +kernel
theorem dX0_putSetting_17 : decode cX0_putSetting 17 = .ok (.iload_n 1, 1) := by decide +kernel
theorem dX0_putSetting_18 : decode cX0_putSetting 18 = .ok (.iconst 1, 1) := by decide +kernel
theorem dX0_putSetting_19 : decode cX0_putSetting 19 = .ok (.if_icmp .ne 16, 3) := by decide +kernel
theorem dX0_putSetting_22 : decode cX0_putSetting 22 = .ok (.aload_n 0, 1) := by decide +kernel
theorem dX0_putSetting_23 : decode cX0_putSetting 23 = .ok (.getfield 49, 3) := by decide +kernel
theorem dX0_putSetting_26 : decode cX0_putSetting 26 = .ok (.istore_n 3, 1) := by decide +kernel
theorem dX0_putSetting_27 : decode cX0_putSetting 27 = .ok (.aload_n 0, 1) := by decide +kernel
theorem dX0_putSetting_28 : decode cX0_putSetting 28 = .ok (.iload_n 2, 1) := by decide +kernel
theorem dX0_putSetting_29 : decode cX0_putSetting 29 = .ok (.putfield 49, 3) := by decide +kernel
theorem dX0_putSetting_32 : decode cX0_putSetting 32 = .ok (.goto 13, 3) := by decide +kernel
theorem dX0_putSetting_35 : decode cX0_putSetting 35 = .ok (.aload_n 0, 1) := by decide +kernel
theorem dX0_putSetting_36 : decode cX0_putSetting 36 = .ok (.getfield 52, 3) := by decide +kernel
theorem dX0_putSetting_39 : decode cX0_putSetting 39 = .ok (.istore_n 3, 1) := by decide +kernel
theorem dX0_putSetting_40 : decode cX0_putSetting 40 = .ok (.aload_n 0, 1) := by decide +kernel
theorem dX0_putSetting_41 : decode cX0_putSetting 41 = .ok (.iload_n 2, 1) := by decide +kernel
theorem dX0_putSetting_42 : decode cX0_putSetting 42 = .ok (.putfield 52, 3) := by decide +kernel
theorem dX0_putSetting_45 : decode cX0_putSetting 45 = .ok (.iload_n 3, 1) := by decide +kernel
theorem dX0_putSetting_46 : decode cX0_putSetting 46 = .ok (.ireturn, 1) := by decide +kernel
theorem dX0_restAllBut_0 : decode cX0_restAllBut 0 = .ok (.iconst 0, 1) := by decide +kernel
theorem dX0_restAllBut_1 : decode cX0_restAllBut 1 = .ok (.istore_n 2, 1) := by decide +kernel
theorem dX0_restAllBut_2 : decode cX0_restAllBut 2 = .ok (.iload_n 2, 1) := by decide +kernel
theorem dX0_restAllBut_3 : decode cX0_restAllBut 3 = .ok (.aload_n 0, 1) := by decide +kernel
theorem dX0_restAllBut_4 : decode cX0_restAllBut 4 = .ok (.getfield 42, 3) := by decide +kernel
theorem dX0_restAllBut_7 : decode cX0_restAllBut 7 = .ok (.if_icmp .ge 32, 3) := by decide +kernel
theorem dX0_restAllBut_10 : decode cX0_restAllBut 10 = .ok (.iload_n 2, 1) := by decide +kernel
theorem dX0_restAllBut_11 : decode cX0_restAllBut 11 = .ok (.iload_n 1, 1) := by decide +kernel
theorem dX0_restAllBut_12 : decode cX0_restAllBut 12 = .ok (.if_icmp .eq 21, 3) := by decide +kernel
theorem dX0_restAllBut_15 : decode cX0_restAllBut 15 = .ok (.aload_n 0, 1) := by decide +kernel
theorem dX0_restAllBut_16 : decode cX0_restAllBut 16 = .ok (.getfield 30, 3) := by decide +kernel
theorem dX0_restAllBut_19 : decode cX0_restAllBut 19 = .ok (.iload_n 2, 1) := by decide +kernel
theorem dX0_restAllBut_20 : decode cX0_restAllBut 20 = .ok (.iconst 0, 1) := by decide +kernel
theorem dX0_restAllBut_21 : decode cX0_restAllBut 21 = .ok (.aload_n 0, 1) := by decide +kernel
theorem dX0_restAllBut_22 : decode cX0_restAllBut 22 = .ok (.getfield 30, 3) := by decide +kernel
theorem dX0_restAllBut_25 : decode cX0_restAllBut 25 = .ok (.iload_n 2, 1) := by decide +kernel
theorem dX0_restAllBut_26 : decode cX0_restAllBut 26 = .ok (.iaload, 1) := by decide +kernel
theorem dX0_restAllBut_27 : decode cX0_restAllBut 27 = .ok (.iconst 2, 1) := by decide +kernel
theorem dX0_restAllBut_28 : decode cX0_restAllBut 28 = .ok (.isub, 1) := by decide +kernel
theorem dX0_restAllBut_29 : decode cX0_restAllBut 29 = .ok (.invokestatic 74, 3) := by decide +kernel
theorem dX0_restAllBut_32 : decode cX0_restAllBut 32 = .ok (.iastore, 1) := by decide +kernel
theorem dX0_restAllBut_33 : decode cX0_restAllBut 33 = .ok (.iinc 2 1, 3) := by decide +kernel
theorem dX0_restAllBut_36 : decode cX0_restAllBut 36 = .ok (.goto (-34), 3) := by decide +kernel
theorem dX0_restAllBut_39 : decode cX0_restAllBut 39 = .ok (.return_, 1) := by decide +kernel
theorem dX0_rowOf_0 : decode cX0_rowOf 0 = .ok (.iload_n 1, 1) := by decide +kernel
theorem dX0_rowOf_1 : decode cX0_rowOf 1 = .ok (.tableswitch 51 0 3 #[31, 36, 41, 46], 31) := by decide +kernel
theorem dX0_rowOf_32 : decode cX0_rowOf 32 = .ok (.aload_n 0, 1) := by decide +kernel
theorem dX0_rowOf_33 : decode cX0_rowOf 33 = .ok (.getfield 24, 3) := by decide +kernel
theorem dX0_rowOf_36 : decode cX0_rowOf 36 = .ok (.areturn, 1) := by decide +kernel
theorem dX0_rowOf_37 : decode cX0_rowOf 37 = .ok (.aload_n 0, 1) := by decide +kernel
theorem dX0_rowOf_38 : decode cX0_rowOf 38 = .ok (.getfield 27, 3) := by decide +kernel
theorem dX0_rowOf_41 : decode cX0_rowOf 41 = .ok (.areturn, 1) := by decide +kernel
theorem dX0_rowOf_42 : decode cX0_rowOf 42 = .ok (.aload_n 0, 1) := by decide +kernel
theorem dX0_rowOf_43 : decode cX0_rowOf 43 = .ok (.getfield 30, 3) := by decide +kernel
theorem dX0_rowOf_46 : decode cX0_rowOf 46 = .ok (.areturn, 1) := by decide +kernel
theorem dX0_rowOf_47 : decode cX0_rowOf 47 = .ok (.aload_n 0, 1) := by decide +kernel
theorem dX0_rowOf_48 : decode cX0_rowOf 48 = .ok (.getfield 33, 3) := by decide +kernel
theorem dX0_rowOf_51 : decode cX0_rowOf 51 = .ok (.areturn, 1) := by decide +kernel
theorem dX0_rowOf_52 : decode cX0_rowOf 52 = .ok (.aload_n 0, 1) := by decide +kernel
theorem dX0_rowOf_53 : decode cX0_rowOf 53 = .ok (.getfield 36, 3) := by decide +kernel
theorem dX0_rowOf_56 : decode cX0_rowOf 56 = .ok (.areturn, 1) := by decide +kernel
theorem dX0_spotsHolding_0 : decode cX0_spotsHolding 0 = .ok (.iconst 0, 1) := by decide +kernel
theorem dX0_spotsHolding_1 : decode cX0_spotsHolding 1 = .ok (.istore_n 1, 1) := by decide +kernel
theorem dX0_spotsHolding_2 : decode cX0_spotsHolding 2 = .ok (.iconst 0, 1) := by decide +kernel
theorem dX0_spotsHolding_3 : decode cX0_spotsHolding 3 = .ok (.istore_n 2, 1) := by decide +kernel
theorem dX0_spotsHolding_4 : decode cX0_spotsHolding 4 = .ok (.iload_n 2, 1) := by decide +kernel
theorem dX0_spotsHolding_5 : decode cX0_spotsHolding 5 = .ok (.bipush 10, 2) := by decide +kernel
theorem dX0_spotsHolding_7 : decode cX0_spotsHolding 7 = .ok (.if_icmp .ge 22, 3) := by decide +kernel
theorem dX0_spotsHolding_10 : decode cX0_spotsHolding 10 = .ok (.aload_n 0, 1) := by decide +kernel
theorem dX0_spotsHolding_11 : decode cX0_spotsHolding 11 = .ok (.getfield 39, 3) := by decide +kernel
theorem dX0_spotsHolding_14 : decode cX0_spotsHolding 14 = .ok (.iload_n 2, 1) := by decide +kernel
theorem dX0_spotsHolding_15 : decode cX0_spotsHolding 15 = .ok (.iaload, 1) := by decide +kernel
theorem dX0_spotsHolding_16 : decode cX0_spotsHolding 16 = .ok (.iconst (-1), 1) := by decide +kernel
theorem dX0_spotsHolding_17 : decode cX0_spotsHolding 17 = .ok (.if_icmp .eq 6, 3) := by decide +kernel
theorem dX0_spotsHolding_20 : decode cX0_spotsHolding 20 = .ok (.iinc 1 1, 3) := by decide +kernel
theorem dX0_spotsHolding_23 : decode cX0_spotsHolding 23 = .ok (.iinc 2 1, 3) := by decide +kernel
theorem dX0_spotsHolding_26 : decode cX0_spotsHolding 26 = .ok (.goto (-22), 3) := by decide +kernel
theorem dX0_spotsHolding_29 : decode cX0_spotsHolding 29 = .ok (.iload_n 1, 1) := by decide +kernel
theorem dX0_spotsHolding_30 : decode cX0_spotsHolding 30 = .ok (.ireturn, 1) := by decide +kernel
theorem dX0_sum_0 : decode cX0_sum 0 = .ok (.iconst 0, 1) := by decide +kernel
theorem dX0_sum_1 : decode cX0_sum 1 = .ok (.istore_n 2, 1) := by decide +kernel
theorem dX0_sum_2 : decode cX0_sum 2 = .ok (.iconst 0, 1) := by decide +kernel
theorem dX0_sum_3 : decode cX0_sum 3 = .ok (.istore_n 3, 1) := by decide +kernel
theorem dX0_sum_4 : decode cX0_sum 4 = .ok (.iload_n 3, 1) := by decide +kernel
theorem dX0_sum_5 : decode cX0_sum 5 = .ok (.aload_n 0, 1) := by decide +kernel
theorem dX0_sum_6 : decode cX0_sum 6 = .ok (.getfield 42, 3) := by decide +kernel
theorem dX0_sum_9 : decode cX0_sum 9 = .ok (.if_icmp .ge 15, 3) := by decide +kernel
theorem dX0_sum_12 : decode cX0_sum 12 = .ok (.iload_n 2, 1) := by decide +kernel
theorem dX0_sum_13 : decode cX0_sum 13 = .ok (.aload_n 1, 1) := by decide +kernel
theorem dX0_sum_14 : decode cX0_sum 14 = .ok (.iload_n 3, 1) := by decide +kernel
theorem dX0_sum_15 : decode cX0_sum 15 = .ok (.iaload, 1) := by decide +kernel
theorem dX0_sum_16 : decode cX0_sum 16 = .ok (.iadd, 1) := by decide +kernel
theorem dX0_sum_17 : decode cX0_sum 17 = .ok (.istore_n 2, 1) := by decide +kernel
theorem dX0_sum_18 : decode cX0_sum 18 = .ok (.iinc 3 1, 3) := by decide +kernel
theorem dX0_sum_21 : decode cX0_sum 21 = .ok (.goto (-17), 3) := by decide +kernel
theorem dX0_sum_24 : decode cX0_sum 24 = .ok (.iload_n 2, 1) := by decide +kernel
theorem dX0_sum_25 : decode cX0_sum 25 = .ok (.ireturn, 1) := by decide +kernel
theorem dX0_swapInto_0 : decode cX0_swapInto 0 = .ok (.aload_n 0, 1) := by decide +kernel
theorem dX0_swapInto_1 : decode cX0_swapInto 1 = .ok (.iload_n 1, 1) := by decide +kernel
theorem dX0_swapInto_2 : decode cX0_swapInto 2 = .ok (.invokevirtual 70, 3) := by decide +kernel
theorem dX0_swapInto_5 : decode cX0_swapInto 5 = .ok (.istore_n 3, 1) := by decide +kernel
theorem dX0_swapInto_6 : decode cX0_swapInto 6 = .ok (.aload_n 0, 1) := by decide +kernel
theorem dX0_swapInto_7 : decode cX0_swapInto 7 = .ok (.getfield 9, 3) := by decide +kernel
theorem dX0_swapInto_10 : decode cX0_swapInto 10 = .ok (.iload_n 2, 1) := by decide +kernel
theorem dX0_swapInto_11 : decode cX0_swapInto 11 = .ok (.iaload, 1) := by decide +kernel
theorem dX0_swapInto_12 : decode cX0_swapInto 12 = .ok (.istore 4, 2) := by decide +kernel
theorem dX0_swapInto_14 : decode cX0_swapInto 14 = .ok (.iload_n 3, 1) := by decide +kernel
theorem dX0_swapInto_15 : decode cX0_swapInto 15 = .ok (.ifCond .lt 11, 3) := by decide +kernel
theorem dX0_swapInto_18 : decode cX0_swapInto 18 = .ok (.aload_n 0, 1) := by decide +kernel
theorem dX0_swapInto_19 : decode cX0_swapInto 19 = .ok (.getfield 9, 3) := by decide +kernel
theorem dX0_swapInto_22 : decode cX0_swapInto 22 = .ok (.iload_n 3, 1) := by decide +kernel
theorem dX0_swapInto_23 : decode cX0_swapInto 23 = .ok (.iload 4, 2) := by decide +kernel
theorem dX0_swapInto_25 : decode cX0_swapInto 25 = .ok (.iastore, 1) := by decide +kernel
theorem dX0_swapInto_26 : decode cX0_swapInto 26 = .ok (.aload_n 0, 1) := by decide +kernel
theorem dX0_swapInto_27 : decode cX0_swapInto 27 = .ok (.getfield 9, 3) := by decide +kernel
theorem dX0_swapInto_30 : decode cX0_swapInto 30 = .ok (.iload_n 2, 1) := by decide +kernel
theorem dX0_swapInto_31 : decode cX0_swapInto 31 = .ok (.iload_n 1, 1) := by decide +kernel
theorem dX0_swapInto_32 : decode cX0_swapInto 32 = .ok (.iastore, 1) := by decide +kernel
theorem dX0_swapInto_33 : decode cX0_swapInto 33 = .ok (.return_, 1) := by decide +kernel
theorem dX0_throwIn_0 : decode cX0_throwIn 0 = .ok (.aload_n 0, 1) := by decide +kernel
theorem dX0_throwIn_1 : decode cX0_throwIn 1 = .ok (.invokevirtual 101, 3) := by decide +kernel
theorem dX0_throwIn_4 : decode cX0_throwIn 4 = .ok (.istore_n 1, 1) := by decide +kernel
theorem dX0_throwIn_5 : decode cX0_throwIn 5 = .ok (.aload_n 0, 1) := by decide +kernel
theorem dX0_throwIn_6 : decode cX0_throwIn 6 = .ok (.getfield 9, 3) := by decide +kernel
theorem dX0_throwIn_9 : decode cX0_throwIn 9 = .ok (.iload_n 1, 1) := by decide +kernel
theorem dX0_throwIn_10 : decode cX0_throwIn 10 = .ok (.iaload, 1) := by decide +kernel
theorem dX0_throwIn_11 : decode cX0_throwIn 11 = .ok (.istore_n 2, 1) := by decide +kernel
theorem dX0_throwIn_12 : decode cX0_throwIn 12 = .ok (.iload_n 2, 1) := by decide +kernel
theorem dX0_throwIn_13 : decode cX0_throwIn 13 = .ok (.iconst (-1), 1) := by decide +kernel
theorem dX0_throwIn_14 : decode cX0_throwIn 14 = .ok (.if_icmp .ne 20, 3) := by decide +kernel
theorem dX0_throwIn_17 : decode cX0_throwIn 17 = .ok (.aload_n 0, 1) := by decide +kernel
theorem dX0_throwIn_18 : decode cX0_throwIn 18 = .ok (.iconst 0, 1) := by decide +kernel
theorem dX0_throwIn_19 : decode cX0_throwIn 19 = .ok (.aload_n 0, 1) := by decide +kernel
theorem dX0_throwIn_20 : decode cX0_throwIn 20 = .ok (.getfield 58, 3) := by decide +kernel
theorem dX0_throwIn_23 : decode cX0_throwIn 23 = .ok (.iconst 5, 1) := by decide +kernel
theorem dX0_throwIn_24 : decode cX0_throwIn 24 = .ok (.isub, 1) := by decide +kernel
theorem dX0_throwIn_25 : decode cX0_throwIn 25 = .ok (.invokestatic 74, 3) := by decide +kernel
theorem dX0_throwIn_28 : decode cX0_throwIn 28 = .ok (.putfield 58, 3) := by decide +kernel
theorem dX0_throwIn_31 : decode cX0_throwIn 31 = .ok (.goto 32, 3) := by decide +kernel
theorem dX0_throwIn_34 : decode cX0_throwIn 34 = .ok (.aload_n 0, 1) := by decide +kernel
theorem dX0_throwIn_35 : decode cX0_throwIn 35 = .ok (.iload_n 2, 1) := by decide +kernel
theorem dX0_throwIn_36 : decode cX0_throwIn 36 = .ok (.iload_n 1, 1) := by decide +kernel
theorem dX0_throwIn_37 : decode cX0_throwIn 37 = .ok (.invokevirtual 104, 3) := by decide +kernel
theorem dX0_throwIn_40 : decode cX0_throwIn 40 = .ok (.aload_n 0, 1) := by decide +kernel
theorem dX0_throwIn_41 : decode cX0_throwIn 41 = .ok (.getfield 30, 3) := by decide +kernel
theorem dX0_throwIn_44 : decode cX0_throwIn 44 = .ok (.iload_n 2, 1) := by decide +kernel
theorem dX0_throwIn_45 : decode cX0_throwIn 45 = .ok (.bipush 99, 2) := by decide +kernel
theorem dX0_throwIn_47 : decode cX0_throwIn 47 = .ok (.aload_n 0, 1) := by decide +kernel
theorem dX0_throwIn_48 : decode cX0_throwIn 48 = .ok (.getfield 30, 3) := by decide +kernel
theorem dX0_throwIn_51 : decode cX0_throwIn 51 = .ok (.iload_n 2, 1) := by decide +kernel
theorem dX0_throwIn_52 : decode cX0_throwIn 52 = .ok (.iaload, 1) := by decide +kernel
theorem dX0_throwIn_53 : decode cX0_throwIn 53 = .ok (.aload_n 0, 1) := by decide +kernel
theorem dX0_throwIn_54 : decode cX0_throwIn 54 = .ok (.iload_n 2, 1) := by decide +kernel
theorem dX0_throwIn_55 : decode cX0_throwIn 55 = .ok (.invokevirtual 108, 3) := by decide +kernel
theorem dX0_throwIn_58 : decode cX0_throwIn 58 = .ok (.iadd, 1) := by decide +kernel
theorem dX0_throwIn_59 : decode cX0_throwIn 59 = .ok (.invokestatic 111, 3) := by decide +kernel
theorem dX0_throwIn_62 : decode cX0_throwIn 62 = .ok (.iastore, 1) := by decide +kernel
theorem dX0_throwIn_63 : decode cX0_throwIn 63 = .ok (.aload_n 0, 1) := by decide +kernel
theorem dX0_throwIn_64 : decode cX0_throwIn 64 = .ok (.iload_n 2, 1) := by decide +kernel
theorem dX0_throwIn_65 : decode cX0_throwIn 65 = .ok (.invokevirtual 114, 3) := by decide +kernel
theorem dX0_throwIn_68 : decode cX0_throwIn 68 = .ok (.aload_n 0, 1) := by decide +kernel
theorem dX0_throwIn_69 : decode cX0_throwIn 69 = .ok (.iload_n 1, 1) := by decide +kernel
theorem dX0_throwIn_70 : decode cX0_throwIn 70 = .ok (.invokevirtual 118, 3) := by decide +kernel
theorem dX0_throwIn_73 : decode cX0_throwIn 73 = .ok (.aload_n 0, 1) := by decide +kernel
theorem dX0_throwIn_74 : decode cX0_throwIn 74 = .ok (.ldc 121, 2) := by decide +kernel
theorem dX0_throwIn_76 : decode cX0_throwIn 76 = .ok (.aload_n 0, 1) := by decide +kernel
theorem dX0_throwIn_77 : decode cX0_throwIn 77 = .ok (.getfield 55, 3) := by decide +kernel
theorem dX0_throwIn_80 : decode cX0_throwIn 80 = .ok (.iconst 1, 1) := by decide +kernel
theorem dX0_throwIn_81 : decode cX0_throwIn 81 = .ok (.iadd, 1) := by decide +kernel
theorem dX0_throwIn_82 : decode cX0_throwIn 82 = .ok (.invokestatic 111, 3) := by decide +kernel
theorem dX0_throwIn_85 : decode cX0_throwIn 85 = .ok (.putfield 55, 3) := by decide +kernel
theorem dX0_throwIn_88 : decode cX0_throwIn 88 = .ok (.return_, 1) := by decide +kernel
theorem dX0_throwMany_0 : decode cX0_throwMany 0 = .ok (.iconst 0, 1) := by decide +kernel
theorem dX0_throwMany_1 : decode cX0_throwMany 1 = .ok (.istore_n 2, 1) := by decide +kernel
theorem dX0_throwMany_2 : decode cX0_throwMany 2 = .ok (.iload_n 2, 1) := by decide +kernel
theorem dX0_throwMany_3 : decode cX0_throwMany 3 = .ok (.iload_n 1, 1) := by decide +kernel
theorem dX0_throwMany_4 : decode cX0_throwMany 4 = .ok (.if_icmp .ge 13, 3) := by decide +kernel
theorem dX0_throwMany_7 : decode cX0_throwMany 7 = .ok (.aload_n 0, 1) := by decide +kernel
theorem dX0_throwMany_8 : decode cX0_throwMany 8 = .ok (.invokevirtual 98, 3) := by decide +kernel
theorem dX0_throwMany_11 : decode cX0_throwMany 11 = .ok (.iinc 2 1, 3) := by decide +kernel
theorem dX0_throwMany_14 : decode cX0_throwMany 14 = .ok (.goto (-12), 3) := by decide +kernel
theorem dX0_throwMany_17 : decode cX0_throwMany 17 = .ok (.aload_n 0, 1) := by decide +kernel
theorem dX0_throwMany_18 : decode cX0_throwMany 18 = .ok (.getfield 58, 3) := by decide +kernel
theorem dX0_throwMany_21 : decode cX0_throwMany 21 = .ok (.ireturn, 1) := by decide +kernel
theorem dX0_tiringOf_0 : decode cX0_tiringOf 0 = .ok (.aload_n 0, 1) := by decide +kernel
theorem dX0_tiringOf_1 : decode cX0_tiringOf 1 = .ok (.getfield 24, 3) := by decide +kernel
theorem dX0_tiringOf_4 : decode cX0_tiringOf 4 = .ok (.iload_n 1, 1) := by decide +kernel
theorem dX0_tiringOf_5 : decode cX0_tiringOf 5 = .ok (.iaload, 1) := by decide +kernel
theorem dX0_tiringOf_6 : decode cX0_tiringOf 6 = .ok (.tableswitch 55 1 6 #[38, 43, 43, 45, 48, 41], 38) := by decide +kernel
theorem dX0_tiringOf_44 : decode cX0_tiringOf 44 = .ok (.bipush 8, 2) := by decide +kernel
theorem dX0_tiringOf_46 : decode cX0_tiringOf 46 = .ok (.ireturn, 1) := by decide +kernel
theorem dX0_tiringOf_47 : decode cX0_tiringOf 47 = .ok (.iconst 2, 1) := by decide +kernel
theorem dX0_tiringOf_48 : decode cX0_tiringOf 48 = .ok (.ireturn, 1) := by decide +kernel
theorem dX0_tiringOf_49 : decode cX0_tiringOf 49 = .ok (.iconst 4, 1) := by decide +kernel
theorem dX0_tiringOf_50 : decode cX0_tiringOf 50 = .ok (.ireturn, 1) := by decide +kernel
theorem dX0_tiringOf_51 : decode cX0_tiringOf 51 = .ok (.bipush 8, 2) := by decide +kernel
theorem dX0_tiringOf_53 : decode cX0_tiringOf 53 = .ok (.ireturn, 1) := by decide +kernel
theorem dX0_tiringOf_54 : decode cX0_tiringOf 54 = .ok (.iconst 5, 1) := by decide +kernel
theorem dX0_tiringOf_55 : decode cX0_tiringOf 55 = .ok (.aload_n 0, 1) := by decide +kernel
theorem dX0_tiringOf_56 : decode cX0_tiringOf 56 = .ok (.getfield 49, 3) := by decide +kernel
theorem dX0_tiringOf_59 : decode cX0_tiringOf 59 = .ok (.iadd, 1) := by decide +kernel
theorem dX0_tiringOf_60 : decode cX0_tiringOf 60 = .ok (.ireturn, 1) := by decide +kernel
theorem dX0_tiringOf_61 : decode cX0_tiringOf 61 = .ok (.iconst 5, 1) := by decide +kernel
theorem dX0_tiringOf_62 : decode cX0_tiringOf 62 = .ok (.ireturn, 1) := by decide +kernel
theorem dX0_whereIs_0 : decode cX0_whereIs 0 = .ok (.iconst 0, 1) := by decide +kernel
theorem dX0_whereIs_1 : decode cX0_whereIs 1 = .ok (.istore_n 2, 1) := by decide +kernel
theorem dX0_whereIs_2 : decode cX0_whereIs 2 = .ok (.iload_n 2, 1) := by decide +kernel
theorem dX0_whereIs_3 : decode cX0_whereIs 3 = .ok (.bipush 7, 2) := by decide +kernel
theorem dX0_whereIs_5 : decode cX0_whereIs 5 = .ok (.if_icmp .ge 21, 3) := by decide +kernel
theorem dX0_whereIs_8 : decode cX0_whereIs 8 = .ok (.aload_n 0, 1) := by decide +kernel
theorem dX0_whereIs_9 : decode cX0_whereIs 9 = .ok (.getfield 9, 3) := by decide +kernel
theorem dX0_whereIs_12 : decode cX0_whereIs 12 = .ok (.iload_n 2, 1) := by decide +kernel
theorem dX0_whereIs_13 : decode cX0_whereIs 13 = .ok (.iaload, 1) := by decide +kernel
theorem dX0_whereIs_14 : decode cX0_whereIs 14 = .ok (.iload_n 1, 1) := by decide +kernel
theorem dX0_whereIs_15 : decode cX0_whereIs 15 = .ok (.if_icmp .ne 5, 3) := by decide +kernel
theorem dX0_whereIs_18 : decode cX0_whereIs 18 = .ok (.iload_n 2, 1) := by decide +kernel
theorem dX0_whereIs_19 : decode cX0_whereIs 19 = .ok (.ireturn, 1) := by decide +kernel
theorem dX0_whereIs_20 : decode cX0_whereIs 20 = .ok (.iinc 2 1, 3) := by decide +kernel
theorem dX0_whereIs_23 : decode cX0_whereIs 23 = .ok (.goto (-21), 3) := by decide +kernel
theorem dX0_whereIs_26 : decode cX0_whereIs 26 = .ok (.iconst (-1), 1) := by decide +kernel
theorem dX0_whereIs_27 : decode cX0_whereIs 27 = .ok (.ireturn, 1) := by decide +kernel
theorem dX0_winnable_0 : decode cX0_winnable 0 = .ok (.iconst 0, 1) := by decide +kernel
theorem dX0_winnable_1 : decode cX0_winnable 1 = .ok (.istore_n 1, 1) := by decide +kernel
theorem dX0_winnable_2 : decode cX0_winnable 2 = .ok (.iconst 0, 1) := by decide +kernel
theorem dX0_winnable_3 : decode cX0_winnable 3 = .ok (.istore_n 2, 1) := by decide +kernel
theorem dX0_winnable_4 : decode cX0_winnable 4 = .ok (.iload_n 2, 1) := by decide +kernel
theorem dX0_winnable_5 : decode cX0_winnable 5 = .ok (.bipush 7, 2) := by decide +kernel
theorem dX0_winnable_7 : decode cX0_winnable 7 = .ok (.if_icmp .ge 23, 3) := by decide +kernel
theorem dX0_winnable_10 : decode cX0_winnable 10 = .ok (.aload_n 0, 1) := by decide +kernel
theorem dX0_winnable_11 : decode cX0_winnable 11 = .ok (.iload_n 2, 1) := by decide +kernel
theorem dX0_winnable_12 : decode cX0_winnable 12 = .ok (.invokevirtual 86, 3) := by decide +kernel
theorem dX0_winnable_15 : decode cX0_winnable 15 = .ok (.ifCond .eq 9, 3) := by decide +kernel
theorem dX0_winnable_18 : decode cX0_winnable 18 = .ok (.iload_n 1, 1) := by decide +kernel
theorem dX0_winnable_19 : decode cX0_winnable 19 = .ok (.iconst 1, 1) := by decide +kernel
theorem dX0_winnable_20 : decode cX0_winnable 20 = .ok (.iload_n 2, 1) := by decide +kernel
theorem dX0_winnable_21 : decode cX0_winnable 21 = .ok (.ishl, 1) := by decide +kernel
theorem dX0_winnable_22 : decode cX0_winnable 22 = .ok (.ior, 1) := by decide +kernel
theorem dX0_winnable_23 : decode cX0_winnable 23 = .ok (.istore_n 1, 1) := by decide +kernel
theorem dX0_winnable_24 : decode cX0_winnable 24 = .ok (.iinc 2 1, 3) := by decide +kernel
theorem dX0_winnable_27 : decode cX0_winnable 27 = .ok (.goto (-23), 3) := by decide +kernel
theorem dX0_winnable_30 : decode cX0_winnable 30 = .ok (.iload_n 1, 1) := by decide +kernel
theorem dX0_winnable_31 : decode cX0_winnable 31 = .ok (.ireturn, 1) := by decide +kernel
theorem dX0_wouldWin_0 : decode cX0_wouldWin 0 = .ok (.aload_n 0, 1) := by decide +kernel
theorem dX0_wouldWin_1 : decode cX0_wouldWin 1 = .ok (.getfield 9, 3) := by decide +kernel
theorem dX0_wouldWin_4 : decode cX0_wouldWin 4 = .ok (.iload_n 1, 1) := by decide +kernel
theorem dX0_wouldWin_5 : decode cX0_wouldWin 5 = .ok (.iaload, 1) := by decide +kernel
theorem dX0_wouldWin_6 : decode cX0_wouldWin 6 = .ok (.istore_n 2, 1) := by decide +kernel
theorem dX0_wouldWin_7 : decode cX0_wouldWin 7 = .ok (.iload_n 2, 1) := by decide +kernel
theorem dX0_wouldWin_8 : decode cX0_wouldWin 8 = .ok (.iconst (-1), 1) := by decide +kernel
theorem dX0_wouldWin_9 : decode cX0_wouldWin 9 = .ok (.if_icmp .eq 20, 3) := by decide +kernel
theorem dX0_wouldWin_12 : decode cX0_wouldWin 12 = .ok (.aload_n 0, 1) := by decide +kernel
theorem dX0_wouldWin_13 : decode cX0_wouldWin 13 = .ok (.iload_n 2, 1) := by decide +kernel
theorem dX0_wouldWin_14 : decode cX0_wouldWin 14 = .ok (.invokevirtual 80, 3) := by decide +kernel
theorem dX0_wouldWin_17 : decode cX0_wouldWin 17 = .ok (.aload_n 0, 1) := by decide +kernel
theorem dX0_wouldWin_18 : decode cX0_wouldWin 18 = .ok (.iload_n 1, 1) := by decide +kernel
theorem dX0_wouldWin_19 : decode cX0_wouldWin 19 = .ok (.invokevirtual 83, 3) := by decide +kernel
theorem dX0_wouldWin_22 : decode cX0_wouldWin 22 = .ok (.if_icmp .le 7, 3) := by decide +kernel
theorem dX0_wouldWin_25 : decode cX0_wouldWin 25 = .ok (.iconst 1, 1) := by decide +kernel
theorem dX0_wouldWin_26 : decode cX0_wouldWin 26 = .ok (.goto 4, 3) := by decide +kernel
theorem dX0_wouldWin_29 : decode cX0_wouldWin 29 = .ok (.iconst 0, 1) := by decide +kernel
theorem dX0_wouldWin_30 : decode cX0_wouldWin 30 = .ok (.ireturn, 1) := by decide +kernel
theorem dX4_commonDivisor_0 : decode cX4_commonDivisor 0 = .ok (.iload_n 1, 1) := by decide +kernel
theorem dX4_commonDivisor_1 : decode cX4_commonDivisor 1 = .ok (.istore_n 2, 1) := by decide +kernel
theorem dX4_commonDivisor_2 : decode cX4_commonDivisor 2 = .ok (.iload_n 0, 1) := by decide +kernel
theorem dX4_commonDivisor_3 : decode cX4_commonDivisor 3 = .ok (.istore_n 3, 1) := by decide +kernel
theorem dX4_commonDivisor_4 : decode cX4_commonDivisor 4 = .ok (.iconst 0, 1) := by decide +kernel
theorem dX4_commonDivisor_5 : decode cX4_commonDivisor 5 = .ok (.istore 4, 2) := by decide +kernel
theorem dX4_commonDivisor_7 : decode cX4_commonDivisor 7 = .ok (.iload 4, 2) := by decide +kernel
theorem dX4_commonDivisor_9 : decode cX4_commonDivisor 9 = .ok (.bipush 64, 2) := by decide +kernel
theorem dX4_commonDivisor_11 : decode cX4_commonDivisor 11 = .ok (.if_icmp .ge 23, 3) := by decide +kernel
theorem dX4_commonDivisor_14 : decode cX4_commonDivisor 14 = .ok (.iload_n 3, 1) := by decide +kernel
theorem dX4_commonDivisor_15 : decode cX4_commonDivisor 15 = .ok (.ifCond .eq 19, 3) := by decide +kernel
theorem dX4_commonDivisor_18 : decode cX4_commonDivisor 18 = .ok (.iload_n 2, 1) := by decide +kernel
theorem dX4_commonDivisor_19 : decode cX4_commonDivisor 19 = .ok (.iload_n 3, 1) := by decide +kernel
theorem dX4_commonDivisor_20 : decode cX4_commonDivisor 20 = .ok (.irem, 1) := by decide +kernel
theorem dX4_commonDivisor_21 : decode cX4_commonDivisor 21 = .ok (.istore 5, 2) := by decide +kernel
theorem dX4_commonDivisor_23 : decode cX4_commonDivisor 23 = .ok (.iload_n 3, 1) := by decide +kernel
theorem dX4_commonDivisor_24 : decode cX4_commonDivisor 24 = .ok (.istore_n 2, 1) := by decide +kernel
theorem dX4_commonDivisor_25 : decode cX4_commonDivisor 25 = .ok (.iload 5, 2) := by decide +kernel
theorem dX4_commonDivisor_27 : decode cX4_commonDivisor 27 = .ok (.istore_n 3, 1) := by decide +kernel
theorem dX4_commonDivisor_28 : decode cX4_commonDivisor 28 = .ok (.iinc 4 1, 3) := by decide +kernel
theorem dX4_commonDivisor_31 : decode cX4_commonDivisor 31 = .ok (.goto (-24), 3) := by decide +kernel
theorem dX4_commonDivisor_34 : decode cX4_commonDivisor 34 = .ok (.iload_n 2, 1) := by decide +kernel
theorem dX4_commonDivisor_35 : decode cX4_commonDivisor 35 = .ok (.ireturn, 1) := by decide +kernel
theorem dX4_isKindOf_0 : decode cX4_isKindOf 0 = .ok (.iload_n 0, 1) := by decide +kernel
theorem dX4_isKindOf_1 : decode cX4_isKindOf 1 = .ok (.istore_n 2, 1) := by decide +kernel
theorem dX4_isKindOf_2 : decode cX4_isKindOf 2 = .ok (.iconst 0, 1) := by decide +kernel
theorem dX4_isKindOf_3 : decode cX4_isKindOf 3 = .ok (.istore_n 3, 1) := by decide +kernel
theorem dX4_isKindOf_4 : decode cX4_isKindOf 4 = .ok (.iload_n 3, 1) := by decide +kernel
theorem dX4_isKindOf_5 : decode cX4_isKindOf 5 = .ok (.bipush 7, 2) := by decide +kernel
theorem dX4_isKindOf_7 : decode cX4_isKindOf 7 = .ok (.if_icmp .ge 26, 3) := by decide +kernel
theorem dX4_isKindOf_10 : decode cX4_isKindOf 10 = .ok (.iload_n 2, 1) := by decide +kernel
theorem dX4_isKindOf_11 : decode cX4_isKindOf 11 = .ok (.ifCond .lt 22, 3) := by decide +kernel
theorem dX4_isKindOf_14 : decode cX4_isKindOf 14 = .ok (.iload_n 2, 1) := by decide +kernel
theorem dX4_isKindOf_15 : decode cX4_isKindOf 15 = .ok (.iload_n 1, 1) := by decide +kernel
theorem dX4_isKindOf_16 : decode cX4_isKindOf 16 = .ok (.if_icmp .ne 5, 3) := by decide +kernel
theorem dX4_isKindOf_19 : decode cX4_isKindOf 19 = .ok (.iconst 1, 1) := by decide +kernel
theorem dX4_isKindOf_20 : decode cX4_isKindOf 20 = .ok (.ireturn, 1) := by decide +kernel
theorem dX4_isKindOf_21 : decode cX4_isKindOf 21 = .ok (.getstatic 255, 3) := by decide +kernel
theorem dX4_isKindOf_24 : decode cX4_isKindOf 24 = .ok (.iload_n 2, 1) := by decide +kernel
theorem dX4_isKindOf_25 : decode cX4_isKindOf 25 = .ok (.iaload, 1) := by decide +kernel
theorem dX4_isKindOf_26 : decode cX4_isKindOf 26 = .ok (.istore_n 2, 1) := by decide +kernel
theorem dX4_isKindOf_27 : decode cX4_isKindOf 27 = .ok (.iinc 3 1, 3) := by decide +kernel
theorem dX4_isKindOf_30 : decode cX4_isKindOf 30 = .ok (.goto (-26), 3) := by decide +kernel
theorem dX4_isKindOf_33 : decode cX4_isKindOf 33 = .ok (.iconst 0, 1) := by decide +kernel
theorem dX4_isKindOf_34 : decode cX4_isKindOf 34 = .ok (.ireturn, 1) := by decide +kernel
theorem dX4_isPlace_0 : decode cX4_isPlace 0 = .ok (.iload_n 0, 1) := by decide +kernel
theorem dX4_isPlace_1 : decode cX4_isPlace 1 = .ok (.iconst 0, 1) := by decide +kernel
theorem dX4_isPlace_2 : decode cX4_isPlace 2 = .ok (.bipush 6, 2) := by decide +kernel
theorem dX4_isPlace_4 : decode cX4_isPlace 4 = .ok (.invokestatic 76, 3) := by decide +kernel
theorem dX4_isPlace_7 : decode cX4_isPlace 7 = .ok (.ireturn, 1) := by decide +kernel
theorem dX4_isSheet_0 : decode cX4_isSheet 0 = .ok (.iload_n 0, 1) := by decide +kernel
theorem dX4_isSheet_1 : decode cX4_isSheet 1 = .ok (.iconst 0, 1) := by decide +kernel
theorem dX4_isSheet_2 : decode cX4_isSheet 2 = .ok (.iconst 3, 1) := by decide +kernel
theorem dX4_isSheet_3 : decode cX4_isSheet 3 = .ok (.invokestatic 76, 3) := by decide +kernel
theorem dX4_isSheet_6 : decode cX4_isSheet 6 = .ok (.ireturn, 1) := by decide +kernel
theorem dX4_mostOf_0 : decode cX4_mostOf 0 = .ok (.iload_n 0, 1) := by decide +kernel
theorem dX4_mostOf_1 : decode cX4_mostOf 1 = .ok (.tableswitch 36 0 2 #[27, 30, 33], 27) := by decide +kernel
theorem dX4_mostOf_28 : decode cX4_mostOf 28 = .ok (.bipush 6, 2) := by decide +kernel
theorem dX4_mostOf_30 : decode cX4_mostOf 30 = .ok (.ireturn, 1) := by decide +kernel
theorem dX4_mostOf_31 : decode cX4_mostOf 31 = .ok (.bipush 99, 2) := by decide +kernel
theorem dX4_mostOf_33 : decode cX4_mostOf 33 = .ok (.ireturn, 1) := by decide +kernel
theorem dX4_mostOf_34 : decode cX4_mostOf 34 = .ok (.bipush 99, 2) := by decide +kernel
theorem dX4_mostOf_36 : decode cX4_mostOf 36 = .ok (.ireturn, 1) := by decide +kernel
theorem dX4_mostOf_37 : decode cX4_mostOf 37 = .ok (.sipush 9999, 3) := by decide +kernel
theorem dX4_mostOf_40 : decode cX4_mostOf 40 = .ok (.ireturn, 1) := by decide +kernel
theorem dX4_mostOfSetting_0 : decode cX4_mostOfSetting 0 = .ok (.iload_n 0, 1) := by decide +kernel
theorem dX4_mostOfSetting_1 : decode cX4_mostOfSetting 1 = .ok (.iconst 2, 1) := by decide +kernel
theorem dX4_mostOfSetting_2 : decode cX4_mostOfSetting 2 = .ok (.if_icmp .ne 7, 3) := by decide +kernel
theorem dX4_mostOfSetting_5 : decode cX4_mostOfSetting 5 = .ok (.iconst 4, 1) := by decide +kernel
theorem dX4_mostOfSetting_6 : decode cX4_mostOfSetting 6 = .ok (.goto 5, 3) := by decide +kernel
theorem dX4_mostOfSetting_9 : decode cX4_mostOfSetting 9 = .ok (.bipush 9, 2) := by decide +kernel
theorem dX4_mostOfSetting_11 : decode cX4_mostOfSetting 11 = .ok (.ireturn, 1) := by decide +kernel
theorem dX4_placeSaid_0 : decode cX4_placeSaid 0 = .ok (.iload_n 0, 1) := by decide +kernel
theorem dX4_placeSaid_1 : decode cX4_placeSaid 1 = .ok (.bipush 10, 2) := by decide +kernel
theorem dX4_placeSaid_3 : decode cX4_placeSaid 3 = .ok (.irem, 1) := by decide +kernel
theorem dX4_placeSaid_4 : decode cX4_placeSaid 4 = .ok (.istore_n 2, 1) := by decide +kernel
theorem dX4_placeSaid_5 : decode cX4_placeSaid 5 = .ok (.iload_n 0, 1) := by decide +kernel
theorem dX4_placeSaid_6 : decode cX4_placeSaid 6 = .ok (.bipush 10, 2) := by decide +kernel
theorem dX4_placeSaid_8 : decode cX4_placeSaid 8 = .ok (.idiv, 1) := by decide +kernel
theorem dX4_placeSaid_9 : decode cX4_placeSaid 9 = .ok (.bipush 10, 2) := by decide +kernel
theorem dX4_placeSaid_11 : decode cX4_placeSaid 11 = .ok (.irem, 1) := by decide +kernel
theorem dX4_placeSaid_12 : decode cX4_placeSaid 12 = .ok (.istore_n 3, 1) := by decide +kernel
theorem dX4_placeSaid_13 : decode cX4_placeSaid 13 = .ok (.iload_n 0, 1) := by decide +kernel
theorem dX4_placeSaid_14 : decode cX4_placeSaid 14 = .ok (.bipush 100, 2) := by decide +kernel
theorem dX4_placeSaid_16 : decode cX4_placeSaid 16 = .ok (.idiv, 1) := by decide +kernel
theorem dX4_placeSaid_17 : decode cX4_placeSaid 17 = .ok (.istore 4, 2) := by decide +kernel
theorem dX4_placeSaid_19 : decode cX4_placeSaid 19 = .ok (.iload_n 1, 1) := by decide +kernel
theorem dX4_placeSaid_20 : decode cX4_placeSaid 20 = .ok (.tableswitch 78 0 3 #[32, 37, 47, 53], 32) := by decide +kernel
theorem dX4_placeSaid_52 : decode cX4_placeSaid 52 = .ok (.iload_n 2, 1) := by decide +kernel
theorem dX4_placeSaid_53 : decode cX4_placeSaid 53 = .ok (.bipush 7, 2) := by decide +kernel
theorem dX4_placeSaid_55 : decode cX4_placeSaid 55 = .ok (.irem, 1) := by decide +kernel
theorem dX4_placeSaid_56 : decode cX4_placeSaid 56 = .ok (.ireturn, 1) := by decide +kernel
theorem dX4_placeSaid_57 : decode cX4_placeSaid 57 = .ok (.iload_n 2, 1) := by decide +kernel
theorem dX4_placeSaid_58 : decode cX4_placeSaid 58 = .ok (.iload_n 3, 1) := by decide +kernel
theorem dX4_placeSaid_59 : decode cX4_placeSaid 59 = .ok (.iadd, 1) := by decide +kernel
theorem dX4_placeSaid_60 : decode cX4_placeSaid 60 = .ok (.iload 4, 2) := by decide +kernel
theorem dX4_placeSaid_62 : decode cX4_placeSaid 62 = .ok (.iadd, 1) := by decide +kernel
theorem dX4_placeSaid_63 : decode cX4_placeSaid 63 = .ok (.bipush 7, 2) := by decide +kernel
theorem dX4_placeSaid_65 : decode cX4_placeSaid 65 = .ok (.irem, 1) := by decide +kernel
theorem dX4_placeSaid_66 : decode cX4_placeSaid 66 = .ok (.ireturn, 1) := by decide +kernel
theorem dX4_placeSaid_67 : decode cX4_placeSaid 67 = .ok (.iload 4, 2) := by decide +kernel
theorem dX4_placeSaid_69 : decode cX4_placeSaid 69 = .ok (.bipush 7, 2) := by decide +kernel
theorem dX4_placeSaid_71 : decode cX4_placeSaid 71 = .ok (.irem, 1) := by decide +kernel
theorem dX4_placeSaid_72 : decode cX4_placeSaid 72 = .ok (.ireturn, 1) := by decide +kernel
theorem dX4_placeSaid_73 : decode cX4_placeSaid 73 = .ok (.iload_n 2, 1) := by decide +kernel
theorem dX4_placeSaid_74 : decode cX4_placeSaid 74 = .ok (.iconst 2, 1) := by decide +kernel
theorem dX4_placeSaid_75 : decode cX4_placeSaid 75 = .ok (.irem, 1) := by decide +kernel
theorem dX4_placeSaid_76 : decode cX4_placeSaid 76 = .ok (.iconst 1, 1) := by decide +kernel
theorem dX4_placeSaid_77 : decode cX4_placeSaid 77 = .ok (.if_icmp .ne 7, 3) := by decide +kernel
theorem dX4_placeSaid_80 : decode cX4_placeSaid 80 = .ok (.iconst 0, 1) := by decide +kernel
theorem dX4_placeSaid_81 : decode cX4_placeSaid 81 = .ok (.goto 16, 3) := by decide +kernel
theorem dX4_placeSaid_84 : decode cX4_placeSaid 84 = .ok (.iload_n 3, 1) := by decide +kernel
theorem dX4_placeSaid_85 : decode cX4_placeSaid 85 = .ok (.iconst 2, 1) := by decide +kernel
theorem dX4_placeSaid_86 : decode cX4_placeSaid 86 = .ok (.irem, 1) := by decide +kernel
theorem dX4_placeSaid_87 : decode cX4_placeSaid 87 = .ok (.iconst 1, 1) := by decide +kernel
theorem dX4_placeSaid_88 : decode cX4_placeSaid 88 = .ok (.if_icmp .ne 7, 3) := by decide +kernel
theorem dX4_placeSaid_91 : decode cX4_placeSaid 91 = .ok (.iconst 3, 1) := by decide +kernel
theorem dX4_placeSaid_92 : decode cX4_placeSaid 92 = .ok (.goto 5, 3) := by decide +kernel
theorem dX4_placeSaid_95 : decode cX4_placeSaid 95 = .ok (.bipush 6, 2) := by decide +kernel
theorem dX4_placeSaid_97 : decode cX4_placeSaid 97 = .ok (.ireturn, 1) := by decide +kernel
theorem dX4_placeSaid_98 : decode cX4_placeSaid 98 = .ok (.iload_n 0, 1) := by decide +kernel
theorem dX4_placeSaid_99 : decode cX4_placeSaid 99 = .ok (.invokestatic 258, 3) := by decide +kernel
theorem dX4_placeSaid_102 : decode cX4_placeSaid 102 = .ok (.bipush 7, 2) := by decide +kernel
theorem dX4_placeSaid_104 : decode cX4_placeSaid 104 = .ok (.irem, 1) := by decide +kernel
theorem dX4_placeSaid_105 : decode cX4_placeSaid 105 = .ok (.ireturn, 1) := by decide +kernel
theorem dX4_within_0 : decode cX4_within 0 = .ok (.iload_n 0, 1) := by decide +kernel
theorem dX4_within_1 : decode cX4_within 1 = .ok (.iload_n 1, 1) := by decide +kernel
theorem dX4_within_2 : decode cX4_within 2 = .ok (.if_icmp .lt 12, 3) := by decide +kernel
theorem dX4_within_5 : decode cX4_within 5 = .ok (.iload_n 0, 1) := by decide +kernel
theorem dX4_within_6 : decode cX4_within 6 = .ok (.iload_n 2, 1) := by decide +kernel
theorem dX4_within_7 : decode cX4_within 7 = .ok (.if_icmp .gt 7, 3) := by decide +kernel
theorem dX4_within_10 : decode cX4_within 10 = .ok (.iconst 1, 1) := by decide +kernel
theorem dX4_within_11 : decode cX4_within 11 = .ok (.goto 4, 3) := by decide +kernel
theorem dX4_within_14 : decode cX4_within 14 = .ok (.iconst 0, 1) := by decide +kernel
theorem dX4_within_15 : decode cX4_within 15 = .ok (.ireturn, 1) := by decide +kernel
end
section
theorem fl_RX0_9 : FL RX0 9 0 0 := ⟨RX0, TX0, 17, rfl, by decide, inlX0, tw_2_11⟩
theorem fl_RX0_15 : FL RX0 15 0 1 := ⟨RX0, TX0, 17, rfl, by decide, inlX0, tw_2_12⟩
theorem fl_RX0_18 : FL RX0 18 0 2 := ⟨RX0, TX0, 17, rfl, by decide, inlX0, tw_2_13⟩
theorem fl_RX0_21 : FL RX0 21 0 3 := ⟨RX0, TX0, 17, rfl, by decide, inlX0, tw_2_14⟩
theorem fl_RX0_24 : FL RX0 24 0 4 := ⟨RX0, TX0, 17, rfl, by decide, inlX0, tw_2_15⟩
theorem fl_RX0_27 : FL RX0 27 0 5 := ⟨RX0, TX0, 17, rfl, by decide, inlX0, tw_2_16⟩
theorem fl_RX0_30 : FL RX0 30 0 6 := ⟨RX0, TX0, 17, rfl, by decide, inlX0, tw_2_17⟩
theorem fl_RX0_33 : FL RX0 33 0 7 := ⟨RX0, TX0, 17, rfl, by decide, inlX0, tw_2_18⟩
theorem fl_RX0_36 : FL RX0 36 0 8 := ⟨RX0, TX0, 17, rfl, by decide, inlX0, tw_2_19⟩
theorem fl_RX0_39 : FL RX0 39 0 9 := ⟨RX0, TX0, 17, rfl, by decide, inlX0, tw_2_20⟩
theorem fl_RX0_42 : FL RX0 42 0 10 := ⟨RX0, TX0, 17, rfl, by decide, inlX0, tw_2_21⟩
theorem fl_RX0_46 : FL RX0 46 0 11 := ⟨RX0, TX0, 17, rfl, by decide, inlX0, tw_2_22⟩
theorem fl_RX0_49 : FL RX0 49 0 12 := ⟨RX0, TX0, 17, rfl, by decide, inlX0, tw_2_23⟩
theorem fl_RX0_52 : FL RX0 52 0 13 := ⟨RX0, TX0, 17, rfl, by decide, inlX0, tw_3_0⟩
theorem fl_RX0_55 : FL RX0 55 0 14 := ⟨RX0, TX0, 17, rfl, by decide, inlX0, tw_3_1⟩
theorem fl_RX0_58 : FL RX0 58 0 15 := ⟨RX0, TX0, 17, rfl, by decide, inlX0, tw_3_2⟩
theorem fl_RX0_61 : FL RX0 61 0 16 := ⟨RX0, TX0, 17, rfl, by decide, inlX0, tw_3_3⟩
theorem fp_RX0_42 : FP RX0 42 0 10 .int := ⟨RX0, TX0, 17, tyX0, rfl, by decide, inlX0, tw_2_21, tyX0_ok, nmX0, rfl, by decide +kernel⟩
theorem fp_RX0_46 : FP RX0 46 0 11 .int := ⟨RX0, TX0, 17, tyX0, rfl, by decide, inlX0, tw_2_22, tyX0_ok, nmX0, rfl, by decide +kernel⟩
theorem fp_RX0_49 : FP RX0 49 0 12 .int := ⟨RX0, TX0, 17, tyX0, rfl, by decide, inlX0, tw_2_23, tyX0_ok, nmX0, rfl, by decide +kernel⟩
theorem fp_RX0_52 : FP RX0 52 0 13 .int := ⟨RX0, TX0, 17, tyX0, rfl, by decide, inlX0, tw_3_0, tyX0_ok, nmX0, rfl, by decide +kernel⟩
theorem fp_RX0_55 : FP RX0 55 0 14 .int := ⟨RX0, TX0, 17, tyX0, rfl, by decide, inlX0, tw_3_1, tyX0_ok, nmX0, rfl, by decide +kernel⟩
theorem fp_RX0_58 : FP RX0 58 0 15 .int := ⟨RX0, TX0, 17, tyX0, rfl, by decide, inlX0, tw_3_2, tyX0_ok, nmX0, rfl, by decide +kernel⟩
theorem fp_RX0_61 : FP RX0 61 0 16 .int := ⟨RX0, TX0, 17, tyX0, rfl, by decide, inlX0, tw_3_3, tyX0_ok, nmX0, rfl, by decide +kernel⟩
theorem vl_RX0_70 : VL RX0 70 RX0 yX0_whereIs cX0_whereIs 3 (some .int) 1 := ⟨tw_23_6, tw_12_14, tw_12_15, tw_1_14, tw_12_16, by decide +kernel⟩
theorem vl_RX0_80 : VL RX0 80 RX0 yX0_highOf cX0_highOf 3 (some .int) 1 := ⟨tw_16_6, tw_12_2, tw_12_3, tw_1_14, tw_12_4, by decide +kernel⟩
theorem vl_RX0_83 : VL RX0 83 RX0 yX0_forceIn cX0_forceIn 2 (some .int) 1 := ⟨tw_16_7, tw_7_12, tw_7_13, tw_1_14, tw_7_14, by decide +kernel⟩
theorem vl_RX0_86 : VL RX0 86 RX0 yX0_wouldWin cX0_wouldWin 3 (some .boolean) 1 := ⟨tw_16_2, tw_16_3, tw_16_4, tw_1_14, tw_16_5, by decide +kernel⟩
theorem vl_RX0_93 : VL RX0 93 RX0 yX0_nextIndex cX0_nextIndex 1 (some .int) 0 := ⟨tw_15_18, tw_15_19, tw_15_20, tw_1_14, tw_15_21, by decide +kernel⟩
theorem vl_RX0_98 : VL RX0 98 RX0 yX0_throwIn cX0_throwIn 3 none 0 := ⟨tw_15_6, tw_15_7, tw_15_8, tw_1_14, tw_15_9, by decide +kernel⟩
theorem vl_RX0_101 : VL RX0 101 RX0 yX0_nextPlace cX0_nextPlace 1 (some .int) 0 := ⟨tw_15_14, tw_15_15, tw_15_16, tw_1_14, tw_15_17, by decide +kernel⟩
theorem vl_RX0_104 : VL RX0 104 RX0 yX0_contest cX0_contest 3 none 2 := ⟨tw_15_22, tw_15_23, tw_16_0, tw_1_14, tw_16_1, by decide +kernel⟩
theorem vl_RX0_108 : VL RX0 108 RX0 yX0_tiringOf cX0_tiringOf 2 (some .int) 1 := ⟨tw_16_9, tw_12_10, tw_12_11, tw_1_14, tw_12_12, by decide +kernel⟩
theorem vl_RX0_114 : VL RX0 114 RX0 yX0_restAllBut cX0_restAllBut 3 none 1 := ⟨tw_16_10, tw_16_11, tw_16_12, tw_1_14, tw_16_13, by decide +kernel⟩
theorem vl_RX0_118 : VL RX0 118 RX0 yX0_learn cX0_learn 3 none 1 := ⟨tw_16_14, tw_16_15, tw_16_16, tw_1_14, tw_16_17, by decide +kernel⟩
theorem vl_RX0_122 : VL RX0 122 RX0 yX0_gainOf cX0_gainOf 3 (some .int) 2 := ⟨tw_16_8, tw_14_9, tw_14_10, tw_1_14, tw_14_11, by decide +kernel⟩
theorem sl_RX4_76 : SL RX4 76 yX4_within cX4_within 3 (some .boolean) 3 := ⟨tw_5_5, tw_5_6, tw_1_2, tw_5_7, by decide +kernel⟩
theorem sl_RX4_258 : SL RX4 258 yJ6_bitCount_0f7a4 cJ6_bitCount_0f7a4 1 (some .int) 1 := ⟨tw_10_5, tw_10_6, tw_10_7, tw_10_8, by decide +kernel⟩
theorem nl_RX0_90 : NL RX0 90 yX4_placeSaid cX4_placeSaid 5 (some .int) 2 := ⟨fun _ h => h.1, tw_10_3, tw_1_2, tw_10_4, by decide +kernel⟩
end
section
def SJ6_bitCount_0f7a4 (i : Int32) : Option (Int32) :=
  nmd ((i - ((ushr i ((1 : Int32))) &&& (1431655765 : Int32)))) fun v1 =>
 nmd (((v1 &&& (858993459 : Int32)) + ((ushr v1 ((2 : Int32))) &&& (858993459 : Int32)))) fun v3 =>
 nmd (((v3 + (ushr v3 ((4 : Int32)))) &&& (252645135 : Int32))) fun v5 =>
 nmd ((v5 + (ushr v5 ((8 : Int32))))) fun v7 =>
 nmd ((v7 + (ushr v7 ((16 : Int32))))) fun v9 =>
 some ((v9 &&& (63 : Int32)))
def SX4_within (v : Int32) (lo : Int32) (hi : Int32) : Option (Int32) :=
  (if v < lo then
 some ((0 : Int32))
 else
 (if hi < v then
 some ((0 : Int32))
 else
 some ((1 : Int32))))
def SX4_isPlace (v : Int32) : Option (Int32) :=
  (SX4_within v ((0 : Int32)) ((6 : Int32))).bind fun q1 =>
 nd (q1 = 0 ∨ q1 = 1) (some (q1))
def SX4_isSheet (v : Int32) : Option (Int32) :=
  (SX4_within v ((0 : Int32)) ((3 : Int32))).bind fun q1 =>
 nd (q1 = 0 ∨ q1 = 1) (some (q1))
def SX4_mostOf (v : Int32) : Option (Int32) :=
  (if v = (0 : Int32) then
 some ((6 : Int32))
 else
 (if v = (1 : Int32) then
 some ((99 : Int32))
 else
 (if v = (2 : Int32) then
 some ((99 : Int32))
 else
 some ((9999 : Int32)))))
def SX4_mostOfSetting (v : Int32) : Option (Int32) :=
  (if v = (2 : Int32) then
 some ((4 : Int32))
 else
 some ((9 : Int32)))
def SX4_placeSaid (cl : Int32) (cd : Int32) : Option (Int32) :=
  nmd ((irem cl ((10 : Int32)))) fun v1 =>
 nmd ((irem ((cl / (10 : Int32))) ((10 : Int32)))) fun v3 =>
 nmd ((cl / (100 : Int32))) fun v5 =>
 (if cd = (0 : Int32) then
 some ((irem v1 ((7 : Int32))))
 else
 (if cd = (1 : Int32) then
 some ((irem (((v1 + v3) + v5)) ((7 : Int32))))
 else
 (if cd = (2 : Int32) then
 some ((irem v5 ((7 : Int32))))
 else
 (if cd = (3 : Int32) then
 (if (irem v1 ((2 : Int32))) = (1 : Int32) then
 some ((0 : Int32))
 else
 (if (irem v3 ((2 : Int32))) = (1 : Int32) then
 some ((3 : Int32))
 else
 some ((6 : Int32))))
 else
 (SJ6_bitCount_0f7a4 cl).bind fun q13 =>
 some ((irem q13 ((7 : Int32))))))))
def BX4_commonDivisor_L1 (u : Int32) (v : Int32) (rec : Int32 → Int32 → Int32 → Option (Int32)) (w2 : Int32) (w3 : Int32) (w4 : Int32) : Option (Int32) :=
  (if (64 : Int32) ≤ w4 then
 some (w2)
 else
 (if w3 = 0 then
 some (w2)
 else
 nd (¬ w3 = 0) (
 nmd ((irem w2 w3)) fun v4 =>
 nmd (w4 + (1 : Int32)) fun v6 =>
 rec w3 v4 v6)))
def SX4_commonDivisor_L1 (u : Int32) (v : Int32) : Nat → Int32 → Int32 → Int32 → Option (Int32)
  | 0 => fun _ _ _ => none
  | nf + 1 => BX4_commonDivisor_L1 u v (SX4_commonDivisor_L1 u v nf)
def SX4_commonDivisor (u : Int32) (v : Int32) : Option (Int32) :=
  SX4_commonDivisor_L1 u v FU v u ((0 : Int32))
def BX4_isKindOf_L1 (kd : Int32) (as : Int32) (rec : Int32 → Int32 → Option (Int32)) (w2 : Int32) (w3 : Int32) : Option (Int32) :=
  (if (7 : Int32) ≤ w3 then
 some ((0 : Int32))
 else
 (if w2 < 0 then
 some ((0 : Int32))
 else
 (if w2 = as then
 some ((1 : Int32))
 else
 ck w2 7 (
 nmd ((un_tab.getD w2.toNatClampNeg 0)) fun v5 =>
 nmd (w3 + (1 : Int32)) fun v7 =>
 rec v5 v7))))
def SX4_isKindOf_L1 (kd : Int32) (as : Int32) : Nat → Int32 → Int32 → Option (Int32)
  | 0 => fun _ _ => none
  | nf + 1 => BX4_isKindOf_L1 kd as (SX4_isKindOf_L1 kd as nf)
def SX4_isKindOf (kd : Int32) (as : Int32) : Option (Int32) :=
  SX4_isKindOf_L1 kd as FU kd ((0 : Int32))
def SX0_highOf (j : Int32) (G : St2) : Option (Int32) :=
  ck j 8 (
 ck j 8 (
 nmd ((imax ((0 : Int32)) (((G 5 j.toNatClampNeg) - ((G 6 j.toNatClampNeg) / (4 : Int32)))))) fun v3 =>
 ck j 8 (
 (if (G 4 j.toNatClampNeg) = (1 : Int32) then
 some ((v3 / (2 : Int32)))
 else
 (if (G 4 j.toNatClampNeg) = (2 : Int32) then
 some ((v3 + (10 : Int32)))
 else
 (if (G 4 j.toNatClampNeg) = (3 : Int32) then
 some (((v3 + (15 : Int32)) - (G 10 1)))
 else
 (if (G 4 j.toNatClampNeg) = (4 : Int32) then
 ck j 8 (
 (if (20 : Int32) ≤ (G 6 j.toNatClampNeg) then
 some ((((v3 + (15 : Int32)) - (G 10 1)) + (0 : Int32)))
 else
 some ((((v3 + (15 : Int32)) - (G 10 1)) + (10 : Int32)))))
 else
 (if (G 4 j.toNatClampNeg) = (5 : Int32) then
 (if (irem ((G 10 4)) ((2 : Int32))) = (1 : Int32) then
 some ((0 : Int32))
 else
 some (v3))
 else
 (if (G 4 j.toNatClampNeg) = (6 : Int32) then
 some ((((v3 / (2 : Int32)) + (30 : Int32)) - (G 10 2)))
 else
 some (v3))))))))))
def SX0_gainOf (j : Int32) (pl : Int32) (G : St2) : Option (Int32) :=
  ck j 8 (
 (if (G 4 j.toNatClampNeg) = (1 : Int32) then
 some ((1 : Int32))
 else
 (if (G 4 j.toNatClampNeg) = (2 : Int32) then
 some ((pl + (2 : Int32)))
 else
 (if (G 4 j.toNatClampNeg) = (3 : Int32) then
 some ((pl + (2 : Int32)))
 else
 (if (G 4 j.toNatClampNeg) = (4 : Int32) then
 some ((imax ((0 : Int32)) (((pl + (2 : Int32)) - (G 10 1)))))
 else
 (if (G 4 j.toNatClampNeg) = (5 : Int32) then
 some (pl)
 else
 (if (G 4 j.toNatClampNeg) = (6 : Int32) then
 some (((1 : Int32) + ((2 : Int32) * pl)))
 else
 some (pl))))))))
def SX0_tiringOf (j : Int32) (G : St2) : Option (Int32) :=
  ck j 8 (
 (if (G 4 j.toNatClampNeg) = (1 : Int32) then
 some ((8 : Int32))
 else
 (if (G 4 j.toNatClampNeg) = (2 : Int32) then
 some ((4 : Int32))
 else
 (if (G 4 j.toNatClampNeg) = (3 : Int32) then
 some ((4 : Int32))
 else
 (if (G 4 j.toNatClampNeg) = (4 : Int32) then
 some ((8 : Int32))
 else
 (if (G 4 j.toNatClampNeg) = (5 : Int32) then
 some (((5 : Int32) + (G 10 2)))
 else
 (if (G 4 j.toNatClampNeg) = (6 : Int32) then
 some ((2 : Int32))
 else
 some ((5 : Int32)))))))))
def SX0_forceIn (pl : Int32) (G : St2) : Option (Int32) :=
  ck pl 7 (
 ck pl 7 (
 some (((G 1 pl.toNatClampNeg) + ((G 2 pl.toNatClampNeg) / (2 : Int32))))))
def SX0_wouldWin (pl : Int32) (G : St2) : Option (Int32) :=
  ck pl 7 (
 nmd ((G 0 pl.toNatClampNeg)) fun v2 =>
 (if v2 = (-1 : Int32) then
 some ((0 : Int32))
 else
 (SX0_highOf v2 G).bind fun q5 =>
 (SX0_forceIn pl G).bind fun q7 =>
 (if q5 ≤ q7 then
 some ((0 : Int32))
 else
 some ((1 : Int32)))))
def BX0_winnable_L1 (G : St2) (rec : Int32 → Int32 → Option (Int32)) (w1 : Int32) (w2 : Int32) : Option (Int32) :=
  (if (7 : Int32) ≤ w2 then
 some (w1)
 else
 (SX0_wouldWin w2 G).bind fun q2 =>
 (if q2 = 0 then
 nmd (w2 + (1 : Int32)) fun v5 =>
 rec w1 v5
 else
 nmd ((w1 ||| ((1 : Int32) <<< (w2 &&& 31)))) fun v7 =>
 nmd (w2 + (1 : Int32)) fun v9 =>
 rec v7 v9))
def SX0_winnable_L1 (G : St2) : Nat → Int32 → Int32 → Option (Int32)
  | 0 => fun _ _ => none
  | nf + 1 => BX0_winnable_L1 G (SX0_winnable_L1 G nf)
def SX0_winnable (G : St2) : Option (Int32) :=
  SX0_winnable_L1 G FU ((0 : Int32)) ((0 : Int32))
def BX0_placesListed_L1 (G : St2) (rec : Int32 → Int32 → Option (Int32)) (w1 : Int32) (w2 : Int32) : Option (Int32) :=
  (if (6 : Int32) ≤ w2 then
 some (w1)
 else
 ck w2 6 (
 (SX4_placeSaid ((G 3 w2.toNatClampNeg)) ((G 10 3))).bind fun q3 =>
 nmd ((w1 ||| ((1 : Int32) <<< (q3 &&& 31)))) fun v5 =>
 nmd (w2 + (1 : Int32)) fun v7 =>
 rec v5 v7))
def SX0_placesListed_L1 (G : St2) : Nat → Int32 → Int32 → Option (Int32)
  | 0 => fun _ _ => none
  | nf + 1 => BX0_placesListed_L1 G (SX0_placesListed_L1 G nf)
def SX0_placesListed (G : St2) : Option (Int32) :=
  SX0_placesListed_L1 G FU ((0 : Int32)) ((0 : Int32))
def SX0_nextIndex (G : St2) : Option (Int32) :=
  some ((irem ((G 10 4)) ((6 : Int32))))
def SX0_nextPlace (G : St2) : Option (Int32) :=
  (SX0_nextIndex G).bind fun q1 =>
 ck q1 6 (
 (SX4_placeSaid ((G 3 q1.toNatClampNeg)) ((G 10 3))).bind fun q4 =>
 some (q4))
def BX0_sum_won_L1 (G : St2) (rec : Int32 → Int32 → Option (Int32)) (w2 : Int32) (w3 : Int32) : Option (Int32) :=
  (if (G 10 0) ≤ w3 then
 some (w2)
 else
 ck w3 8 (
 nmd ((w2 + (G 7 w3.toNatClampNeg))) fun v3 =>
 nmd (w3 + (1 : Int32)) fun v5 =>
 rec v3 v5))
def SX0_sum_won_L1 (G : St2) : Nat → Int32 → Int32 → Option (Int32)
  | 0 => fun _ _ => none
  | nf + 1 => BX0_sum_won_L1 G (SX0_sum_won_L1 G nf)
def SX0_sum_won (G : St2) : Option (Int32) :=
  SX0_sum_won_L1 G FU ((0 : Int32)) ((0 : Int32))
def BX0_sum_lost_L1 (G : St2) (rec : Int32 → Int32 → Option (Int32)) (w2 : Int32) (w3 : Int32) : Option (Int32) :=
  (if (G 10 0) ≤ w3 then
 some (w2)
 else
 ck w3 8 (
 nmd ((w2 + (G 8 w3.toNatClampNeg))) fun v3 =>
 nmd (w3 + (1 : Int32)) fun v5 =>
 rec v3 v5))
def SX0_sum_lost_L1 (G : St2) : Nat → Int32 → Int32 → Option (Int32)
  | 0 => fun _ _ => none
  | nf + 1 => BX0_sum_lost_L1 G (SX0_sum_lost_L1 G nf)
def SX0_sum_lost (G : St2) : Option (Int32) :=
  SX0_sum_lost_L1 G FU ((0 : Int32)) ((0 : Int32))
def BX0_spotsHolding_L1 (G : St2) (rec : Int32 → Int32 → Option (Int32)) (w1 : Int32) (w2 : Int32) : Option (Int32) :=
  (if (10 : Int32) ≤ w2 then
 some (w1)
 else
 ck w2 10 (
 (if (G 9 w2.toNatClampNeg) = (-1 : Int32) then
 nmd (w2 + (1 : Int32)) fun v4 =>
 rec w1 v4
 else
 nmd (w1 + (1 : Int32)) fun v6 =>
 nmd (w2 + (1 : Int32)) fun v8 =>
 rec v6 v8)))
def SX0_spotsHolding_L1 (G : St2) : Nat → Int32 → Int32 → Option (Int32)
  | 0 => fun _ _ => none
  | nf + 1 => BX0_spotsHolding_L1 G (SX0_spotsHolding_L1 G nf)
def SX0_spotsHolding (G : St2) : Option (Int32) :=
  SX0_spotsHolding_L1 G FU ((0 : Int32)) ((0 : Int32))
def BX0_whereIs_L1 (j : Int32) (G : St2) (rec : Int32 → Option (Int32)) (w2 : Int32) : Option (Int32) :=
  (if (7 : Int32) ≤ w2 then
 some ((-1 : Int32))
 else
 ck w2 7 (
 (if (G 0 w2.toNatClampNeg) = j then
 some (w2)
 else
 nmd (w2 + (1 : Int32)) fun v4 =>
 rec v4)))
def SX0_whereIs_L1 (j : Int32) (G : St2) : Nat → Int32 → Option (Int32)
  | 0 => fun _ => none
  | nf + 1 => BX0_whereIs_L1 j G (SX0_whereIs_L1 j G nf)
def SX0_whereIs (j : Int32) (G : St2) : Option (Int32) :=
  SX0_whereIs_L1 j G FU ((0 : Int32))
def SX0_rowOf (wh : Int32) (G : St2) : Option (Nat) :=
  (if wh = (0 : Int32) then
 some (4)
 else
 (if wh = (1 : Int32) then
 some (5)
 else
 (if wh = (2 : Int32) then
 some (6)
 else
 (if wh = (3 : Int32) then
 some (7)
 else
 some (8)))))
set_option maxHeartbeats 4000000 in
set_option maxRecDepth 100000 in
theorem cJ6_bitCount_0f7a4_ok (l : Launch) (κ : KX)  (i : Int32)  (q : Int32) (hS : SJ6_bitCount_0f7a4 i = some q) : MRo l yJ6_bitCount_0f7a4 cJ6_bitCount_0f7a4 1 (some .int) { frames := 0, cells := 0, slots := 0, locals := 0 } κ (([] : va_W)) [.int i] (some (.int q)) := by
  unfold SJ6_bitCount_0f7a4 at hS
  refine enterRo (by decide) (Nat.le_of_ble_eq_true rfl) (fun p e s m below meth c C => ?_)
  refine r_lv0 (lv' := [(0, .int i)]) rfl ?_
  refine r_iload_n C dJ6_bitCount_0f7a4_0 rfl 0 rfl ?_
  refine r_iload_n C dJ6_bitCount_0f7a4_1 rfl 0 rfl ?_
  refine r_iconst C dJ6_bitCount_0f7a4_2 (v := (1 : Int32)) rfl ?_
  refine r_iushr C dJ6_bitCount_0f7a4_3 ?_
  refine r_ldcw C dJ6_bitCount_0f7a4_4 (v := (1431655765 : Int32)) tw_10_9 ?_
  refine r_iand C dJ6_bitCount_0f7a4_7 ?_
  refine r_isub C dJ6_bitCount_0f7a4_8 ?_
  obtain ⟨v1, e2, hS⟩ := nmd_e hS
  refine r_nmi e2 ?_
  refine r_istore_n C dJ6_bitCount_0f7a4_9 rfl (lv' := [(0, .int v1)]) (by decide) rfl ?_
  refine r_iload_n C dJ6_bitCount_0f7a4_10 rfl 0 rfl ?_
  refine r_ldcw C dJ6_bitCount_0f7a4_11 (v := (858993459 : Int32)) tw_10_10 ?_
  refine r_iand C dJ6_bitCount_0f7a4_14 ?_
  refine r_iload_n C dJ6_bitCount_0f7a4_15 rfl 0 rfl ?_
  refine r_iconst C dJ6_bitCount_0f7a4_16 (v := (2 : Int32)) rfl ?_
  refine r_iushr C dJ6_bitCount_0f7a4_17 ?_
  refine r_ldcw C dJ6_bitCount_0f7a4_18 (v := (858993459 : Int32)) tw_10_10 ?_
  refine r_iand C dJ6_bitCount_0f7a4_21 ?_
  refine r_iadd C dJ6_bitCount_0f7a4_22 ?_
  obtain ⟨v3, e4, hS⟩ := nmd_e hS
  refine r_nmi e4 ?_
  refine r_istore_n C dJ6_bitCount_0f7a4_23 rfl (lv' := [(0, .int v3)]) (by decide) rfl ?_
  refine r_iload_n C dJ6_bitCount_0f7a4_24 rfl 0 rfl ?_
  refine r_iload_n C dJ6_bitCount_0f7a4_25 rfl 0 rfl ?_
  refine r_iconst C dJ6_bitCount_0f7a4_26 (v := (4 : Int32)) rfl ?_
  refine r_iushr C dJ6_bitCount_0f7a4_27 ?_
  refine r_iadd C dJ6_bitCount_0f7a4_28 ?_
  refine r_ldcw C dJ6_bitCount_0f7a4_29 (v := (252645135 : Int32)) tw_10_11 ?_
  refine r_iand C dJ6_bitCount_0f7a4_32 ?_
  obtain ⟨v5, e6, hS⟩ := nmd_e hS
  refine r_nmi e6 ?_
  refine r_istore_n C dJ6_bitCount_0f7a4_33 rfl (lv' := [(0, .int v5)]) (by decide) rfl ?_
  refine r_iload_n C dJ6_bitCount_0f7a4_34 rfl 0 rfl ?_
  refine r_iload_n C dJ6_bitCount_0f7a4_35 rfl 0 rfl ?_
  refine r_bipush C dJ6_bitCount_0f7a4_36 (v := (8 : Int32)) (by decide) ?_
  refine r_iushr C dJ6_bitCount_0f7a4_38 ?_
  refine r_iadd C dJ6_bitCount_0f7a4_39 ?_
  obtain ⟨v7, e8, hS⟩ := nmd_e hS
  refine r_nmi e8 ?_
  refine r_istore_n C dJ6_bitCount_0f7a4_40 rfl (lv' := [(0, .int v7)]) (by decide) rfl ?_
  refine r_iload_n C dJ6_bitCount_0f7a4_41 rfl 0 rfl ?_
  refine r_iload_n C dJ6_bitCount_0f7a4_42 rfl 0 rfl ?_
  refine r_bipush C dJ6_bitCount_0f7a4_43 (v := (16 : Int32)) (by decide) ?_
  refine r_iushr C dJ6_bitCount_0f7a4_45 ?_
  refine r_iadd C dJ6_bitCount_0f7a4_46 ?_
  obtain ⟨v9, e10, hS⟩ := nmd_e hS
  refine r_nmi e10 ?_
  refine r_istore_n C dJ6_bitCount_0f7a4_47 rfl (lv' := [(0, .int v9)]) (by decide) rfl ?_
  refine r_iload_n C dJ6_bitCount_0f7a4_48 rfl 0 rfl ?_
  refine r_bipush C dJ6_bitCount_0f7a4_49 (v := (63 : Int32)) (by decide) ?_
  refine r_iand C dJ6_bitCount_0f7a4_51 ?_
  obtain rfl := Option.some.inj hS
  exact r_iretRo C dJ6_bitCount_0f7a4_52
set_option maxHeartbeats 4000000 in
set_option maxRecDepth 100000 in
theorem cX4_within_ok (l : Launch) (κ : KX)  (v : Int32) (lo : Int32) (hi : Int32)  (q : Int32) (hS : SX4_within v lo hi = some q) : MRo l yX4_within cX4_within 3 (some .boolean) { frames := 0, cells := 0, slots := 0, locals := 0 } κ (([] : va_W)) [.int v, .int lo, .int hi] (some (.int q)) := by
  unfold SX4_within at hS
  refine enterRo (by decide) (Nat.le_of_ble_eq_true rfl) (fun p e s m below meth c C => ?_)
  refine r_lv0 (lv' := [(0, .int v), (1, .int lo), (2, .int hi)]) rfl ?_
  refine r_iload_n C dX4_within_0 rfl 0 rfl ?_
  refine r_iload_n C dX4_within_1 rfl 1 rfl ?_
  refine r_icmp_lt C dX4_within_2 (tgt := 14) rfl (fun c1 => ?_) (fun c1 => ?_)
  · replace hS := gt c1 hS
    refine r_iconst C dX4_within_14 (v := (0 : Int32)) rfl ?_
    obtain rfl := Option.some.inj hS
    exact r_zretRo C rfl dX4_within_15
  · replace hS := gf c1 hS
    refine r_iload_n C dX4_within_5 rfl 0 rfl ?_
    refine r_iload_n C dX4_within_6 rfl 2 rfl ?_
    refine r_icmp_gt C dX4_within_7 (tgt := 14) rfl (fun c2 => ?_) (fun c2 => ?_)
    · replace hS := gt c2 hS
      refine r_iconst C dX4_within_14 (v := (0 : Int32)) rfl ?_
      obtain rfl := Option.some.inj hS
      exact r_zretRo C rfl dX4_within_15
    · replace hS := gf c2 hS
      refine r_iconst C dX4_within_10 (v := (1 : Int32)) rfl ?_
      refine r_goto C dX4_within_11 (tgt := 15) rfl ?_
      obtain rfl := Option.some.inj hS
      exact r_zretRo C rfl dX4_within_15
set_option maxHeartbeats 4000000 in
set_option maxRecDepth 100000 in
theorem cX4_isPlace_ok (l : Launch) (κ : KX)  (v : Int32)  (q : Int32) (hS : SX4_isPlace v = some q) : MRo l yX4_isPlace cX4_isPlace 1 (some .boolean) { frames := 1, cells := 0, slots := 0, locals := 22 } κ (([] : va_W)) [.int v] (some (.int q)) := by
  unfold SX4_isPlace at hS
  refine enterRo (by decide) (Nat.le_of_ble_eq_true rfl) (fun p e s m below meth c C => ?_)
  refine r_lv0 (lv' := [(0, .int v)]) rfl ?_
  refine r_iload_n C dX4_isPlace_0 rfl 0 rfl ?_
  refine r_iconst C dX4_isPlace_1 (v := (0 : Int32)) rfl ?_
  refine r_bipush C dX4_isPlace_2 (v := (6 : Int32)) (by decide) ?_
  obtain ⟨q1, e2, hS⟩ := bd_e hS
  refine r_roS C dX4_isPlace_4 (rest := []) (st' := [.int q1]) sl_RX4_76 (cX4_within_ok l κ v ((0 : Int32)) ((6 : Int32)) q1 e2) [] rfl ⟨rfl, rfl, Nat.le_of_ble_eq_true rfl, Nat.le_of_ble_eq_true rfl⟩ rfl rfl (Nat.le_of_ble_eq_true rfl) rfl ?_
  obtain ⟨h3, hS⟩ := nd_e hS
  obtain rfl := Option.some.inj hS
  exact r_zretRo C (nb h3) dX4_isPlace_7
set_option maxHeartbeats 4000000 in
set_option maxRecDepth 100000 in
theorem cX4_isSheet_ok (l : Launch) (κ : KX)  (v : Int32)  (q : Int32) (hS : SX4_isSheet v = some q) : MRo l yX4_isSheet cX4_isSheet 1 (some .boolean) { frames := 1, cells := 0, slots := 0, locals := 22 } κ (([] : va_W)) [.int v] (some (.int q)) := by
  unfold SX4_isSheet at hS
  refine enterRo (by decide) (Nat.le_of_ble_eq_true rfl) (fun p e s m below meth c C => ?_)
  refine r_lv0 (lv' := [(0, .int v)]) rfl ?_
  refine r_iload_n C dX4_isSheet_0 rfl 0 rfl ?_
  refine r_iconst C dX4_isSheet_1 (v := (0 : Int32)) rfl ?_
  refine r_iconst C dX4_isSheet_2 (v := (3 : Int32)) rfl ?_
  obtain ⟨q1, e2, hS⟩ := bd_e hS
  refine r_roS C dX4_isSheet_3 (rest := []) (st' := [.int q1]) sl_RX4_76 (cX4_within_ok l κ v ((0 : Int32)) ((3 : Int32)) q1 e2) [] rfl ⟨rfl, rfl, Nat.le_of_ble_eq_true rfl, Nat.le_of_ble_eq_true rfl⟩ rfl rfl (Nat.le_of_ble_eq_true rfl) rfl ?_
  obtain ⟨h3, hS⟩ := nd_e hS
  obtain rfl := Option.some.inj hS
  exact r_zretRo C (nb h3) dX4_isSheet_6
set_option maxHeartbeats 4000000 in
set_option maxRecDepth 100000 in
theorem cX4_mostOf_ok (l : Launch) (κ : KX)  (v : Int32)  (q : Int32) (hS : SX4_mostOf v = some q) : MRo l yX4_mostOf cX4_mostOf 1 (some .int) { frames := 0, cells := 0, slots := 0, locals := 0 } κ (([] : va_W)) [.int v] (some (.int q)) := by
  unfold SX4_mostOf at hS
  refine enterRo (by decide) (Nat.le_of_ble_eq_true rfl) (fun p e s m below meth c C => ?_)
  refine r_lv0 (lv' := [(0, .int v)]) rfl ?_
  refine r_iload_n C dX4_mostOf_0 rfl 0 rfl ?_
  by_cases c1 : v = (0 : Int32)
  · replace hS := gt c1 hS
    refine r_tabIn C dX4_mostOf_1 (v := (0 : Int32)) (off := 27) (tgt := 28) c1 (by decide) (by decide) (by decide) rfl ?_
    refine r_bipush C dX4_mostOf_28 (v := (6 : Int32)) (by decide) ?_
    obtain rfl := Option.some.inj hS
    exact r_iretRo C dX4_mostOf_30
  · replace hS := gf c1 hS
    by_cases c2 : v = (1 : Int32)
    · replace hS := gt c2 hS
      refine r_tabIn C dX4_mostOf_1 (v := (1 : Int32)) (off := 30) (tgt := 31) c2 (by decide) (by decide) (by decide) rfl ?_
      refine r_bipush C dX4_mostOf_31 (v := (99 : Int32)) (by decide) ?_
      obtain rfl := Option.some.inj hS
      exact r_iretRo C dX4_mostOf_33
    · replace hS := gf c2 hS
      by_cases c3 : v = (2 : Int32)
      · replace hS := gt c3 hS
        refine r_tabIn C dX4_mostOf_1 (v := (2 : Int32)) (off := 33) (tgt := 34) c3 (by decide) (by decide) (by decide) rfl ?_
        refine r_bipush C dX4_mostOf_34 (v := (99 : Int32)) (by decide) ?_
        obtain rfl := Option.some.inj hS
        exact r_iretRo C dX4_mostOf_36
      · replace hS := gf c3 hS
        refine r_tabOut C dX4_mostOf_1 (tgt := 37) (by have := lv_neT (a := 0) c1 (by decide); have := lv_neT (a := 1) c2 (by decide); have := lv_neT (a := 2) c3 (by decide); omega) rfl ?_
        refine r_sipush C dX4_mostOf_37 (v := (9999 : Int32)) (by decide) ?_
        obtain rfl := Option.some.inj hS
        exact r_iretRo C dX4_mostOf_40
set_option maxHeartbeats 4000000 in
set_option maxRecDepth 100000 in
theorem cX4_mostOfSetting_ok (l : Launch) (κ : KX)  (v : Int32)  (q : Int32) (hS : SX4_mostOfSetting v = some q) : MRo l yX4_mostOfSetting cX4_mostOfSetting 1 (some .int) { frames := 0, cells := 0, slots := 0, locals := 0 } κ (([] : va_W)) [.int v] (some (.int q)) := by
  unfold SX4_mostOfSetting at hS
  refine enterRo (by decide) (Nat.le_of_ble_eq_true rfl) (fun p e s m below meth c C => ?_)
  refine r_lv0 (lv' := [(0, .int v)]) rfl ?_
  refine r_iload_n C dX4_mostOfSetting_0 rfl 0 rfl ?_
  refine r_iconst C dX4_mostOfSetting_1 (v := (2 : Int32)) rfl ?_
  refine r_icmp_ne C dX4_mostOfSetting_2 (tgt := 9) rfl (fun c1 => ?_) (fun c1 => ?_)
  · replace hS := gf c1 hS
    refine r_bipush C dX4_mostOfSetting_9 (v := (9 : Int32)) (by decide) ?_
    obtain rfl := Option.some.inj hS
    exact r_iretRo C dX4_mostOfSetting_11
  · replace hS := gt c1 hS
    refine r_iconst C dX4_mostOfSetting_5 (v := (4 : Int32)) rfl ?_
    refine r_goto C dX4_mostOfSetting_6 (tgt := 11) rfl ?_
    obtain rfl := Option.some.inj hS
    exact r_iretRo C dX4_mostOfSetting_11
set_option maxHeartbeats 4000000 in
set_option maxRecDepth 100000 in
theorem cX4_placeSaid_ok (l : Launch) (κ : KX)  (cl : Int32) (cd : Int32)  (q : Int32) (hS : SX4_placeSaid cl cd = some q) : MRo l yX4_placeSaid cX4_placeSaid 5 (some .int) { frames := 1, cells := 0, slots := 0, locals := 20 } κ (([] : va_W)) [.int cl, .int cd] (some (.int q)) := by
  unfold SX4_placeSaid at hS
  refine enterRo (by decide) (Nat.le_of_ble_eq_true rfl) (fun p e s m below meth c C => ?_)
  refine r_lv0 (lv' := [(0, .int cl), (1, .int cd)]) rfl ?_
  refine r_iload_n C dX4_placeSaid_0 rfl 0 rfl ?_
  refine r_bipush C dX4_placeSaid_1 (v := (10 : Int32)) (by decide) ?_
  refine r_irem C dX4_placeSaid_3 (by decide) ?_
  obtain ⟨v1, e2, hS⟩ := nmd_e hS
  refine r_nmi e2 ?_
  refine r_istore_n C dX4_placeSaid_4 rfl (lv' := [(2, .int v1), (0, .int cl), (1, .int cd)]) (by decide) rfl ?_
  refine r_iload_n C dX4_placeSaid_5 rfl 1 rfl ?_
  refine r_bipush C dX4_placeSaid_6 (v := (10 : Int32)) (by decide) ?_
  refine r_idiv C dX4_placeSaid_8 (by decide) ?_
  refine r_bipush C dX4_placeSaid_9 (v := (10 : Int32)) (by decide) ?_
  refine r_irem C dX4_placeSaid_11 (by decide) ?_
  obtain ⟨v3, e4, hS⟩ := nmd_e hS
  refine r_nmi e4 ?_
  refine r_istore_n C dX4_placeSaid_12 rfl (lv' := [(3, .int v3), (2, .int v1), (0, .int cl), (1, .int cd)]) (by decide) rfl ?_
  refine r_iload_n C dX4_placeSaid_13 rfl 2 rfl ?_
  refine r_bipush C dX4_placeSaid_14 (v := (100 : Int32)) (by decide) ?_
  refine r_idiv C dX4_placeSaid_16 (by decide) ?_
  obtain ⟨v5, e6, hS⟩ := nmd_e hS
  refine r_nmi e6 ?_
  refine r_istore C dX4_placeSaid_17 (lv' := [(4, .int v5), (3, .int v3), (2, .int v1), (0, .int cl), (1, .int cd)]) (by decide) rfl ?_
  refine r_iload_n C dX4_placeSaid_19 rfl 4 rfl ?_
  by_cases c7 : cd = (0 : Int32)
  · replace hS := gt c7 hS
    refine r_tabIn C dX4_placeSaid_20 (v := (0 : Int32)) (off := 32) (tgt := 52) c7 (by decide) (by decide) (by decide) rfl ?_
    refine r_iload_n C dX4_placeSaid_52 rfl 2 rfl ?_
    refine r_bipush C dX4_placeSaid_53 (v := (7 : Int32)) (by decide) ?_
    refine r_irem C dX4_placeSaid_55 (by decide) ?_
    obtain rfl := Option.some.inj hS
    exact r_iretRo C dX4_placeSaid_56
  · replace hS := gf c7 hS
    by_cases c8 : cd = (1 : Int32)
    · replace hS := gt c8 hS
      refine r_tabIn C dX4_placeSaid_20 (v := (1 : Int32)) (off := 37) (tgt := 57) c8 (by decide) (by decide) (by decide) rfl ?_
      refine r_iload_n C dX4_placeSaid_57 rfl 2 rfl ?_
      refine r_iload_n C dX4_placeSaid_58 rfl 1 rfl ?_
      refine r_iadd C dX4_placeSaid_59 ?_
      refine r_iload C dX4_placeSaid_60 0 rfl ?_
      refine r_iadd C dX4_placeSaid_62 ?_
      refine r_bipush C dX4_placeSaid_63 (v := (7 : Int32)) (by decide) ?_
      refine r_irem C dX4_placeSaid_65 (by decide) ?_
      obtain rfl := Option.some.inj hS
      exact r_iretRo C dX4_placeSaid_66
    · replace hS := gf c8 hS
      by_cases c9 : cd = (2 : Int32)
      · replace hS := gt c9 hS
        refine r_tabIn C dX4_placeSaid_20 (v := (2 : Int32)) (off := 47) (tgt := 67) c9 (by decide) (by decide) (by decide) rfl ?_
        refine r_iload C dX4_placeSaid_67 0 rfl ?_
        refine r_bipush C dX4_placeSaid_69 (v := (7 : Int32)) (by decide) ?_
        refine r_irem C dX4_placeSaid_71 (by decide) ?_
        obtain rfl := Option.some.inj hS
        exact r_iretRo C dX4_placeSaid_72
      · replace hS := gf c9 hS
        by_cases c10 : cd = (3 : Int32)
        · replace hS := gt c10 hS
          refine r_tabIn C dX4_placeSaid_20 (v := (3 : Int32)) (off := 53) (tgt := 73) c10 (by decide) (by decide) (by decide) rfl ?_
          refine r_iload_n C dX4_placeSaid_73 rfl 2 rfl ?_
          refine r_iconst C dX4_placeSaid_74 (v := (2 : Int32)) rfl ?_
          refine r_irem C dX4_placeSaid_75 (by decide) ?_
          refine r_iconst C dX4_placeSaid_76 (v := (1 : Int32)) rfl ?_
          refine r_icmp_ne C dX4_placeSaid_77 (tgt := 84) rfl (fun c11 => ?_) (fun c11 => ?_)
          · replace hS := gf c11 hS
            refine r_iload_n C dX4_placeSaid_84 rfl 1 rfl ?_
            refine r_iconst C dX4_placeSaid_85 (v := (2 : Int32)) rfl ?_
            refine r_irem C dX4_placeSaid_86 (by decide) ?_
            refine r_iconst C dX4_placeSaid_87 (v := (1 : Int32)) rfl ?_
            refine r_icmp_ne C dX4_placeSaid_88 (tgt := 95) rfl (fun c12 => ?_) (fun c12 => ?_)
            · replace hS := gf c12 hS
              refine r_bipush C dX4_placeSaid_95 (v := (6 : Int32)) (by decide) ?_
              obtain rfl := Option.some.inj hS
              exact r_iretRo C dX4_placeSaid_97
            · replace hS := gt c12 hS
              refine r_iconst C dX4_placeSaid_91 (v := (3 : Int32)) rfl ?_
              refine r_goto C dX4_placeSaid_92 (tgt := 97) rfl ?_
              obtain rfl := Option.some.inj hS
              exact r_iretRo C dX4_placeSaid_97
          · replace hS := gt c11 hS
            refine r_iconst C dX4_placeSaid_80 (v := (0 : Int32)) rfl ?_
            refine r_goto C dX4_placeSaid_81 (tgt := 97) rfl ?_
            obtain rfl := Option.some.inj hS
            exact r_iretRo C dX4_placeSaid_97
        · replace hS := gf c10 hS
          refine r_tabOut C dX4_placeSaid_20 (tgt := 98) (by have := lv_neT (a := 0) c7 (by decide); have := lv_neT (a := 1) c8 (by decide); have := lv_neT (a := 2) c9 (by decide); have := lv_neT (a := 3) c10 (by decide); omega) rfl ?_
          refine r_iload_n C dX4_placeSaid_98 rfl 3 rfl ?_
          obtain ⟨q13, e14, hS⟩ := bd_e hS
          refine r_roS C dX4_placeSaid_99 (rest := []) (st' := [.int q13]) sl_RX4_258 (cJ6_bitCount_0f7a4_ok l κ cl q13 e14) [] rfl ⟨rfl, rfl, Nat.le_of_ble_eq_true rfl, Nat.le_of_ble_eq_true rfl⟩ rfl rfl (Nat.le_of_ble_eq_true rfl) rfl ?_
          refine r_bipush C dX4_placeSaid_102 (v := (7 : Int32)) (by decide) ?_
          refine r_irem C dX4_placeSaid_104 (by decide) ?_
          obtain rfl := Option.some.inj hS
          exact r_iretRo C dX4_placeSaid_105
set_option maxHeartbeats 4000000 in
set_option maxRecDepth 100000 in
theorem lpX4_commonDivisor_1 (l : Launch) (κ : KX)  (u : Int32) (v : Int32)  (q : Int32) {p : Program} {e : Env} {s : State} {m : MethodId} {args : Array Value} {below : List Frame} {meth : Method} {c : Code} (C : CT p s m args meth c κ (fun _ => False) (HRo s) cX4_commonDivisor 6 RX4 (some .int)) : ∀ (nf : Nat) (w2 : Int32) (w3 : Int32) (w4 : Int32), SX4_commonDivisor_L1 u v nf w2 w3 w4 = some q → WW p l e { frames := 0, cells := 0, slots := 0, locals := 0 } s m args below meth c κ 6 (MQ below (QRo (some (.int q))) args s 0 0 (fun _ => False)) (HRo s) (([] : va_W)) [(0, .int u), (1, .int v), (2, .int w2), (3, .int w3), (4, .int w4)] 7 [] := by
  intro nf
  induction nf with
  | zero => intro w2 w3 w4 hS; exact nomatch (show none = some q from hS)
  | succ nf ih =>
    intro w2 w3 w4 hS
    have hS : BX4_commonDivisor_L1 u v (SX4_commonDivisor_L1 u v nf) w2 w3 w4 = some q := hS
    unfold BX4_commonDivisor_L1 at hS
    refine r_iload C dX4_commonDivisor_7 4 rfl ?_
    refine r_bipush C dX4_commonDivisor_9 (v := (64 : Int32)) (by decide) ?_
    refine r_icmp_ge C dX4_commonDivisor_11 (tgt := 34) rfl (fun c1 => ?_) (fun c1 => ?_)
    · replace hS := gt c1 hS
      refine r_iload_n C dX4_commonDivisor_34 rfl 2 rfl ?_
      obtain rfl := Option.some.inj hS
      exact r_iretRo C dX4_commonDivisor_35
    · replace hS := gf c1 hS
      refine r_iload_n C dX4_commonDivisor_14 rfl 3 rfl ?_
      refine r_if_eq C dX4_commonDivisor_15 (tgt := 34) rfl (fun c2 => ?_) (fun c2 => ?_)
      · replace hS := gt c2 hS
        refine r_iload_n C dX4_commonDivisor_34 rfl 2 rfl ?_
        obtain rfl := Option.some.inj hS
        exact r_iretRo C dX4_commonDivisor_35
      · replace hS := gf c2 hS
        refine r_iload_n C dX4_commonDivisor_18 rfl 2 rfl ?_
        refine r_iload_n C dX4_commonDivisor_19 rfl 3 rfl ?_
        obtain ⟨h3, hS⟩ := nd_e hS
        refine r_irem C dX4_commonDivisor_20 h3 ?_
        obtain ⟨v4, e5, hS⟩ := nmd_e hS
        refine r_nmi e5 ?_
        refine r_istore C dX4_commonDivisor_21 (lv' := [(5, .int v4), (0, .int u), (1, .int v), (2, .int w2), (3, .int w3), (4, .int w4)]) (by decide) rfl ?_
        refine r_iload_n C dX4_commonDivisor_23 rfl 4 rfl ?_
        refine r_istore_n C dX4_commonDivisor_24 rfl (lv' := [(2, .int w3), (5, .int v4), (0, .int u), (1, .int v), (3, .int w3), (4, .int w4)]) (by decide) rfl ?_
        refine r_iload C dX4_commonDivisor_25 1 rfl ?_
        refine r_istore_n C dX4_commonDivisor_27 rfl (lv' := [(3, .int v4), (2, .int w3), (5, .int v4), (0, .int u), (1, .int v), (4, .int w4)]) (by decide) rfl ?_
        obtain ⟨v6, e7, hS⟩ := nmd_e hS
        refine r_iinc C dX4_commonDivisor_28 (v := v6) (lv' := [(4, .int v6), (3, .int v4), (2, .int w3), (5, .int v4), (0, .int u), (1, .int v)]) 5 rfl (by rw [← e7]; rfl) (by decide) rfl ?_
        refine r_goto C dX4_commonDivisor_31 (tgt := 7) rfl ?_
        refine r_lvs [4, 5, 2, 1, 0] rfl ?_
        exact ih w3 v4 v6 hS
set_option maxHeartbeats 4000000 in
set_option maxRecDepth 100000 in
theorem cX4_commonDivisor_ok (l : Launch) (κ : KX)  (u : Int32) (v : Int32)  (q : Int32) (hS : SX4_commonDivisor u v = some q) : MRo l yX4_commonDivisor cX4_commonDivisor 6 (some .int) { frames := 0, cells := 0, slots := 0, locals := 0 } κ (([] : va_W)) [.int u, .int v] (some (.int q)) := by
  unfold SX4_commonDivisor at hS
  refine enterRo (by decide) (Nat.le_of_ble_eq_true rfl) (fun p e s m below meth c C => ?_)
  refine r_lv0 (lv' := [(0, .int u), (1, .int v)]) rfl ?_
  refine r_iload_n C dX4_commonDivisor_0 rfl 1 rfl ?_
  refine r_istore_n C dX4_commonDivisor_1 rfl (lv' := [(2, .int v), (0, .int u), (1, .int v)]) (by decide) rfl ?_
  refine r_iload_n C dX4_commonDivisor_2 rfl 1 rfl ?_
  refine r_istore_n C dX4_commonDivisor_3 rfl (lv' := [(3, .int u), (2, .int v), (0, .int u), (1, .int v)]) (by decide) rfl ?_
  refine r_iconst C dX4_commonDivisor_4 (v := (0 : Int32)) rfl ?_
  refine r_istore C dX4_commonDivisor_5 (lv' := [(4, .int ((0 : Int32))), (3, .int u), (2, .int v), (0, .int u), (1, .int v)]) (by decide) rfl ?_
  refine r_lvs [3, 4, 2, 1, 0] rfl ?_
  exact lpX4_commonDivisor_1 l κ  u v  q C FU v u ((0 : Int32)) hS
set_option maxHeartbeats 4000000 in
set_option maxRecDepth 100000 in
theorem lpX4_isKindOf_1 (l : Launch) (κ : KX)  (kd : Int32) (as : Int32)  (q : Int32) {p : Program} {e : Env} {s : State} {m : MethodId} {args : Array Value} {below : List Frame} {meth : Method} {c : Code} (C : CT p s m args meth c κ (fun _ => False) (HRo s) cX4_isKindOf 4 RX4 (some .boolean)) : ∀ (nf : Nat) (w2 : Int32) (w3 : Int32), SX4_isKindOf_L1 kd as nf w2 w3 = some q → WW p l e { frames := 0, cells := 0, slots := 0, locals := 0 } s m args below meth c κ 4 (MQ below (QRo (some (.int q))) args s 0 0 (fun _ => False)) (HRo s) (([] : va_W)) [(0, .int kd), (1, .int as), (2, .int w2), (3, .int w3)] 4 [] := by
  intro nf
  induction nf with
  | zero => intro w2 w3 hS; exact nomatch (show none = some q from hS)
  | succ nf ih =>
    intro w2 w3 hS
    have hS : BX4_isKindOf_L1 kd as (SX4_isKindOf_L1 kd as nf) w2 w3 = some q := hS
    unfold BX4_isKindOf_L1 at hS
    refine r_iload_n C dX4_isKindOf_4 rfl 3 rfl ?_
    refine r_bipush C dX4_isKindOf_5 (v := (7 : Int32)) (by decide) ?_
    refine r_icmp_ge C dX4_isKindOf_7 (tgt := 33) rfl (fun c1 => ?_) (fun c1 => ?_)
    · replace hS := gt c1 hS
      refine r_iconst C dX4_isKindOf_33 (v := (0 : Int32)) rfl ?_
      obtain rfl := Option.some.inj hS
      exact r_zretRo C rfl dX4_isKindOf_34
    · replace hS := gf c1 hS
      refine r_iload_n C dX4_isKindOf_10 rfl 2 rfl ?_
      refine r_if_lt C dX4_isKindOf_11 (tgt := 33) rfl (fun c2 => ?_) (fun c2 => ?_)
      · replace hS := gt c2 hS
        refine r_iconst C dX4_isKindOf_33 (v := (0 : Int32)) rfl ?_
        obtain rfl := Option.some.inj hS
        exact r_zretRo C rfl dX4_isKindOf_34
      · replace hS := gf c2 hS
        refine r_iload_n C dX4_isKindOf_14 rfl 2 rfl ?_
        refine r_iload_n C dX4_isKindOf_15 rfl 1 rfl ?_
        refine r_icmp_ne C dX4_isKindOf_16 (tgt := 21) rfl (fun c3 => ?_) (fun c3 => ?_)
        · replace hS := gf c3 hS
          refine r_under C dX4_isKindOf_21 tw_38_14 ?_
          refine r_iload_n C dX4_isKindOf_24 rfl 2 rfl ?_
          obtain ⟨h4, hS⟩ := ck_e hS
          refine r_undat C dX4_isKindOf_25 h4 rfl ?_
          obtain ⟨v5, e6, hS⟩ := nmd_e hS
          refine r_nmi e6 ?_
          refine r_istore_n C dX4_isKindOf_26 rfl (lv' := [(2, .int v5), (0, .int kd), (1, .int as), (3, .int w3)]) (by decide) rfl ?_
          obtain ⟨v7, e8, hS⟩ := nmd_e hS
          refine r_iinc C dX4_isKindOf_27 (v := v7) (lv' := [(3, .int v7), (2, .int v5), (0, .int kd), (1, .int as)]) 3 rfl (by rw [← e8]; rfl) (by decide) rfl ?_
          refine r_goto C dX4_isKindOf_30 (tgt := 4) rfl ?_
          refine r_lvs [2, 3, 1, 0] rfl ?_
          exact ih v5 v7 hS
        · replace hS := gt c3 hS
          refine r_iconst C dX4_isKindOf_19 (v := (1 : Int32)) rfl ?_
          obtain rfl := Option.some.inj hS
          exact r_zretRo C rfl dX4_isKindOf_20
set_option maxHeartbeats 4000000 in
set_option maxRecDepth 100000 in
theorem cX4_isKindOf_ok (l : Launch) (κ : KX)  (kd : Int32) (as : Int32)  (q : Int32) (hS : SX4_isKindOf kd as = some q) : MRo l yX4_isKindOf cX4_isKindOf 4 (some .boolean) { frames := 0, cells := 0, slots := 0, locals := 0 } κ (([] : va_W)) [.int kd, .int as] (some (.int q)) := by
  unfold SX4_isKindOf at hS
  refine enterRo (by decide) (Nat.le_of_ble_eq_true rfl) (fun p e s m below meth c C => ?_)
  refine r_lv0 (lv' := [(0, .int kd), (1, .int as)]) rfl ?_
  refine r_iload_n C dX4_isKindOf_0 rfl 0 rfl ?_
  refine r_istore_n C dX4_isKindOf_1 rfl (lv' := [(2, .int kd), (0, .int kd), (1, .int as)]) (by decide) rfl ?_
  refine r_iconst C dX4_isKindOf_2 (v := (0 : Int32)) rfl ?_
  refine r_istore_n C dX4_isKindOf_3 rfl (lv' := [(3, .int ((0 : Int32))), (2, .int kd), (0, .int kd), (1, .int as)]) (by decide) rfl ?_
  refine r_lvs [2, 3, 1, 0] rfl ?_
  exact lpX4_isKindOf_1 l κ  kd as  q C FU kd ((0 : Int32)) hS
set_option maxHeartbeats 4000000 in
set_option maxRecDepth 100000 in
theorem cX0_highOf_ok (l : Launch) (κ : KX) (a : Nat → Nat) (j : Int32) (G : St2)  (q : Int32) (hS : SX0_highOf j G = some q) : MRo l yX0_highOf cX0_highOf 3 (some .int) { frames := 1, cells := 0, slots := 0, locals := 21 } κ (lnW κ a G) [.ref (a 0), .int j] (some (.int q)) := by
  unfold SX0_highOf at hS
  refine enterRo (by decide) (Nat.le_of_ble_eq_true rfl) (fun p e s m below meth c C => ?_)
  refine r_lv0 (lv' := [(0, .ref (a 0)), (1, .int j)]) rfl ?_
  refine r_iconst C dX0_highOf_0 (v := (0 : Int32)) rfl ?_
  refine r_aload_n C dX0_highOf_1 rfl 0 rfl ?_
  refine r_get C fl_RX0_27 dX0_highOf_2 0 rfl rfl ?_
  refine r_iload_n C dX0_highOf_5 rfl 1 rfl ?_
  obtain ⟨h1, hS⟩ := ck_e hS
  refine r_iald C dX0_highOf_6 6 rfl h1 rfl ?_
  refine r_aload_n C dX0_highOf_7 rfl 0 rfl ?_
  refine r_get C fl_RX0_30 dX0_highOf_8 0 rfl rfl ?_
  refine r_iload_n C dX0_highOf_11 rfl 1 rfl ?_
  obtain ⟨h2, hS⟩ := ck_e hS
  refine r_iald C dX0_highOf_12 7 rfl h2 rfl ?_
  refine r_iconst C dX0_highOf_13 (v := (4 : Int32)) rfl ?_
  refine r_idiv C dX0_highOf_14 (by decide) ?_
  refine r_isub C dX0_highOf_15 ?_
  refine r_max C dX0_highOf_16 tw_12_5 tw_12_6 tw_12_7 tw_12_8 (Nat.le_of_ble_eq_true rfl) (Nat.le_of_ble_eq_true rfl) ?_
  obtain ⟨v3, e4, hS⟩ := nmd_e hS
  refine r_nmi e4 ?_
  refine r_istore_n C dX0_highOf_19 rfl (lv' := [(2, .int v3), (0, .ref (a 0)), (1, .int j)]) (by decide) rfl ?_
  refine r_aload_n C dX0_highOf_20 rfl 1 rfl ?_
  refine r_get C fl_RX0_24 dX0_highOf_21 0 rfl rfl ?_
  refine r_iload_n C dX0_highOf_24 rfl 2 rfl ?_
  obtain ⟨h5, hS⟩ := ck_e hS
  refine r_iald C dX0_highOf_25 5 rfl h5 rfl ?_
  by_cases c6 : (G 4 j.toNatClampNeg) = (1 : Int32)
  · replace hS := gt c6 hS
    refine r_tabIn C dX0_highOf_26 (v := (1 : Int32)) (off := 38) (tgt := 64) c6 (by decide) (by decide) (by decide) rfl ?_
    refine r_iload_n C dX0_highOf_64 rfl 0 rfl ?_
    refine r_iconst C dX0_highOf_65 (v := (2 : Int32)) rfl ?_
    refine r_idiv C dX0_highOf_66 (by decide) ?_
    obtain rfl := Option.some.inj hS
    exact r_iretRo C dX0_highOf_67
  · replace hS := gf c6 hS
    by_cases c7 : (G 4 j.toNatClampNeg) = (2 : Int32)
    · replace hS := gt c7 hS
      refine r_tabIn C dX0_highOf_26 (v := (2 : Int32)) (off := 54) (tgt := 80) c7 (by decide) (by decide) (by decide) rfl ?_
      refine r_iload_n C dX0_highOf_80 rfl 0 rfl ?_
      refine r_bipush C dX0_highOf_81 (v := (10 : Int32)) (by decide) ?_
      refine r_iadd C dX0_highOf_83 ?_
      obtain rfl := Option.some.inj hS
      exact r_iretRo C dX0_highOf_84
    · replace hS := gf c7 hS
      by_cases c8 : (G 4 j.toNatClampNeg) = (3 : Int32)
      · replace hS := gt c8 hS
        refine r_tabIn C dX0_highOf_26 (v := (3 : Int32)) (off := 59) (tgt := 85) c8 (by decide) (by decide) (by decide) rfl ?_
        refine r_iload_n C dX0_highOf_85 rfl 0 rfl ?_
        refine r_bipush C dX0_highOf_86 (v := (15 : Int32)) (by decide) ?_
        refine r_iadd C dX0_highOf_88 ?_
        refine r_aload_n C dX0_highOf_89 rfl 1 rfl ?_
        refine r_get C fl_RX0_46 dX0_highOf_90 0 rfl rfl ?_
        refine r_isub C dX0_highOf_93 ?_
        obtain rfl := Option.some.inj hS
        exact r_iretRo C dX0_highOf_94
      · replace hS := gf c8 hS
        by_cases c9 : (G 4 j.toNatClampNeg) = (4 : Int32)
        · replace hS := gt c9 hS
          refine r_tabIn C dX0_highOf_26 (v := (4 : Int32)) (off := 69) (tgt := 95) c9 (by decide) (by decide) (by decide) rfl ?_
          refine r_iload_n C dX0_highOf_95 rfl 0 rfl ?_
          refine r_bipush C dX0_highOf_96 (v := (15 : Int32)) (by decide) ?_
          refine r_iadd C dX0_highOf_98 ?_
          refine r_aload_n C dX0_highOf_99 rfl 1 rfl ?_
          refine r_get C fl_RX0_46 dX0_highOf_100 0 rfl rfl ?_
          refine r_isub C dX0_highOf_103 ?_
          refine r_aload_n C dX0_highOf_104 rfl 1 rfl ?_
          refine r_get C fl_RX0_30 dX0_highOf_105 0 rfl rfl ?_
          refine r_iload_n C dX0_highOf_108 rfl 2 rfl ?_
          obtain ⟨h12, hS⟩ := ck_e hS
          refine r_iald C dX0_highOf_109 7 rfl h12 rfl ?_
          refine r_bipush C dX0_highOf_110 (v := (20 : Int32)) (by decide) ?_
          refine r_icmp_ge C dX0_highOf_112 (tgt := 120) rfl (fun c13 => ?_) (fun c13 => ?_)
          · replace hS := gt c13 hS
            refine r_iconst C dX0_highOf_120 (v := (0 : Int32)) rfl ?_
            refine r_iadd C dX0_highOf_121 ?_
            obtain rfl := Option.some.inj hS
            exact r_iretRo C dX0_highOf_122
          · replace hS := gf c13 hS
            refine r_bipush C dX0_highOf_115 (v := (10 : Int32)) (by decide) ?_
            refine r_goto C dX0_highOf_117 (tgt := 121) rfl ?_
            refine r_iadd C dX0_highOf_121 ?_
            obtain rfl := Option.some.inj hS
            exact r_iretRo C dX0_highOf_122
        · replace hS := gf c9 hS
          by_cases c10 : (G 4 j.toNatClampNeg) = (5 : Int32)
          · replace hS := gt c10 hS
            refine r_tabIn C dX0_highOf_26 (v := (5 : Int32)) (off := 97) (tgt := 123) c10 (by decide) (by decide) (by decide) rfl ?_
            refine r_aload_n C dX0_highOf_123 rfl 1 rfl ?_
            refine r_get C fl_RX0_55 dX0_highOf_124 0 rfl rfl ?_
            refine r_iconst C dX0_highOf_127 (v := (2 : Int32)) rfl ?_
            refine r_irem C dX0_highOf_128 (by decide) ?_
            refine r_iconst C dX0_highOf_129 (v := (1 : Int32)) rfl ?_
            refine r_icmp_ne C dX0_highOf_130 (tgt := 137) rfl (fun c14 => ?_) (fun c14 => ?_)
            · replace hS := gf c14 hS
              refine r_iload_n C dX0_highOf_137 rfl 0 rfl ?_
              obtain rfl := Option.some.inj hS
              exact r_iretRo C dX0_highOf_138
            · replace hS := gt c14 hS
              refine r_iconst C dX0_highOf_133 (v := (0 : Int32)) rfl ?_
              refine r_goto C dX0_highOf_134 (tgt := 138) rfl ?_
              obtain rfl := Option.some.inj hS
              exact r_iretRo C dX0_highOf_138
          · replace hS := gf c10 hS
            by_cases c11 : (G 4 j.toNatClampNeg) = (6 : Int32)
            · replace hS := gt c11 hS
              refine r_tabIn C dX0_highOf_26 (v := (6 : Int32)) (off := 42) (tgt := 68) c11 (by decide) (by decide) (by decide) rfl ?_
              refine r_iload_n C dX0_highOf_68 rfl 0 rfl ?_
              refine r_iconst C dX0_highOf_69 (v := (2 : Int32)) rfl ?_
              refine r_idiv C dX0_highOf_70 (by decide) ?_
              refine r_bipush C dX0_highOf_71 (v := (30 : Int32)) (by decide) ?_
              refine r_iadd C dX0_highOf_73 ?_
              refine r_aload_n C dX0_highOf_74 rfl 1 rfl ?_
              refine r_get C fl_RX0_49 dX0_highOf_75 0 rfl rfl ?_
              refine r_isub C dX0_highOf_78 ?_
              obtain rfl := Option.some.inj hS
              exact r_iretRo C dX0_highOf_79
            · replace hS := gf c11 hS
              refine r_tabOut C dX0_highOf_26 (tgt := 139) (by have := lv_neT (a := 1) c6 (by decide); have := lv_neT (a := 2) c7 (by decide); have := lv_neT (a := 3) c8 (by decide); have := lv_neT (a := 4) c9 (by decide); have := lv_neT (a := 5) c10 (by decide); have := lv_neT (a := 6) c11 (by decide); omega) rfl ?_
              refine r_iload_n C dX0_highOf_139 rfl 0 rfl ?_
              obtain rfl := Option.some.inj hS
              exact r_iretRo C dX0_highOf_140
set_option maxHeartbeats 4000000 in
set_option maxRecDepth 100000 in
theorem cX0_gainOf_ok (l : Launch) (κ : KX) (a : Nat → Nat) (j : Int32) (pl : Int32) (G : St2)  (q : Int32) (hS : SX0_gainOf j pl G = some q) : MRo l yX0_gainOf cX0_gainOf 3 (some .int) { frames := 1, cells := 0, slots := 0, locals := 21 } κ (lnW κ a G) [.ref (a 0), .int j, .int pl] (some (.int q)) := by
  unfold SX0_gainOf at hS
  refine enterRo (by decide) (Nat.le_of_ble_eq_true rfl) (fun p e s m below meth c C => ?_)
  refine r_lv0 (lv' := [(0, .ref (a 0)), (1, .int j), (2, .int pl)]) rfl ?_
  refine r_aload_n C dX0_gainOf_0 rfl 0 rfl ?_
  refine r_get C fl_RX0_24 dX0_gainOf_1 0 rfl rfl ?_
  refine r_iload_n C dX0_gainOf_4 rfl 1 rfl ?_
  obtain ⟨h1, hS⟩ := ck_e hS
  refine r_iald C dX0_gainOf_5 5 rfl h1 rfl ?_
  by_cases c2 : (G 4 j.toNatClampNeg) = (1 : Int32)
  · replace hS := gt c2 hS
    refine r_tabIn C dX0_gainOf_6 (v := (1 : Int32)) (off := 38) (tgt := 44) c2 (by decide) (by decide) (by decide) rfl ?_
    refine r_iconst C dX0_gainOf_44 (v := (1 : Int32)) rfl ?_
    obtain rfl := Option.some.inj hS
    exact r_iretRo C dX0_gainOf_45
  · replace hS := gf c2 hS
    by_cases c3 : (G 4 j.toNatClampNeg) = (2 : Int32)
    · replace hS := gt c3 hS
      refine r_tabIn C dX0_gainOf_6 (v := (2 : Int32)) (off := 46) (tgt := 52) c3 (by decide) (by decide) (by decide) rfl ?_
      refine r_iload_n C dX0_gainOf_52 rfl 2 rfl ?_
      refine r_iconst C dX0_gainOf_53 (v := (2 : Int32)) rfl ?_
      refine r_iadd C dX0_gainOf_54 ?_
      obtain rfl := Option.some.inj hS
      exact r_iretRo C dX0_gainOf_55
    · replace hS := gf c3 hS
      by_cases c4 : (G 4 j.toNatClampNeg) = (3 : Int32)
      · replace hS := gt c4 hS
        refine r_tabIn C dX0_gainOf_6 (v := (3 : Int32)) (off := 46) (tgt := 52) c4 (by decide) (by decide) (by decide) rfl ?_
        refine r_iload_n C dX0_gainOf_52 rfl 2 rfl ?_
        refine r_iconst C dX0_gainOf_53 (v := (2 : Int32)) rfl ?_
        refine r_iadd C dX0_gainOf_54 ?_
        obtain rfl := Option.some.inj hS
        exact r_iretRo C dX0_gainOf_55
      · replace hS := gf c4 hS
        by_cases c5 : (G 4 j.toNatClampNeg) = (4 : Int32)
        · replace hS := gt c5 hS
          refine r_tabIn C dX0_gainOf_6 (v := (4 : Int32)) (off := 50) (tgt := 56) c5 (by decide) (by decide) (by decide) rfl ?_
          refine r_iconst C dX0_gainOf_56 (v := (0 : Int32)) rfl ?_
          refine r_iload_n C dX0_gainOf_57 rfl 2 rfl ?_
          refine r_iconst C dX0_gainOf_58 (v := (2 : Int32)) rfl ?_
          refine r_iadd C dX0_gainOf_59 ?_
          refine r_aload_n C dX0_gainOf_60 rfl 0 rfl ?_
          refine r_get C fl_RX0_46 dX0_gainOf_61 0 rfl rfl ?_
          refine r_isub C dX0_gainOf_64 ?_
          refine r_max C dX0_gainOf_65 tw_12_5 tw_12_6 tw_12_7 tw_12_8 (Nat.le_of_ble_eq_true rfl) (Nat.le_of_ble_eq_true rfl) ?_
          obtain rfl := Option.some.inj hS
          exact r_iretRo C dX0_gainOf_68
        · replace hS := gf c5 hS
          by_cases c6 : (G 4 j.toNatClampNeg) = (5 : Int32)
          · replace hS := gt c6 hS
            refine r_tabIn C dX0_gainOf_6 (v := (5 : Int32)) (off := 63) (tgt := 69) c6 (by decide) (by decide) (by decide) rfl ?_
            refine r_iload_n C dX0_gainOf_69 rfl 2 rfl ?_
            obtain rfl := Option.some.inj hS
            exact r_iretRo C dX0_gainOf_70
          · replace hS := gf c6 hS
            by_cases c7 : (G 4 j.toNatClampNeg) = (6 : Int32)
            · replace hS := gt c7 hS
              refine r_tabIn C dX0_gainOf_6 (v := (6 : Int32)) (off := 40) (tgt := 46) c7 (by decide) (by decide) (by decide) rfl ?_
              refine r_iconst C dX0_gainOf_46 (v := (1 : Int32)) rfl ?_
              refine r_iconst C dX0_gainOf_47 (v := (2 : Int32)) rfl ?_
              refine r_iload_n C dX0_gainOf_48 rfl 2 rfl ?_
              refine r_imul C dX0_gainOf_49 ?_
              refine r_iadd C dX0_gainOf_50 ?_
              obtain rfl := Option.some.inj hS
              exact r_iretRo C dX0_gainOf_51
            · replace hS := gf c7 hS
              refine r_tabOut C dX0_gainOf_6 (tgt := 69) (by have := lv_neT (a := 1) c2 (by decide); have := lv_neT (a := 2) c3 (by decide); have := lv_neT (a := 3) c4 (by decide); have := lv_neT (a := 4) c5 (by decide); have := lv_neT (a := 5) c6 (by decide); have := lv_neT (a := 6) c7 (by decide); omega) rfl ?_
              refine r_iload_n C dX0_gainOf_69 rfl 2 rfl ?_
              obtain rfl := Option.some.inj hS
              exact r_iretRo C dX0_gainOf_70
set_option maxHeartbeats 4000000 in
set_option maxRecDepth 100000 in
theorem cX0_tiringOf_ok (l : Launch) (κ : KX) (a : Nat → Nat) (j : Int32) (G : St2)  (q : Int32) (hS : SX0_tiringOf j G = some q) : MRo l yX0_tiringOf cX0_tiringOf 2 (some .int) { frames := 0, cells := 0, slots := 0, locals := 0 } κ (lnW κ a G) [.ref (a 0), .int j] (some (.int q)) := by
  unfold SX0_tiringOf at hS
  refine enterRo (by decide) (Nat.le_of_ble_eq_true rfl) (fun p e s m below meth c C => ?_)
  refine r_lv0 (lv' := [(0, .ref (a 0)), (1, .int j)]) rfl ?_
  refine r_aload_n C dX0_tiringOf_0 rfl 0 rfl ?_
  refine r_get C fl_RX0_24 dX0_tiringOf_1 0 rfl rfl ?_
  refine r_iload_n C dX0_tiringOf_4 rfl 1 rfl ?_
  obtain ⟨h1, hS⟩ := ck_e hS
  refine r_iald C dX0_tiringOf_5 5 rfl h1 rfl ?_
  by_cases c2 : (G 4 j.toNatClampNeg) = (1 : Int32)
  · replace hS := gt c2 hS
    refine r_tabIn C dX0_tiringOf_6 (v := (1 : Int32)) (off := 38) (tgt := 44) c2 (by decide) (by decide) (by decide) rfl ?_
    refine r_bipush C dX0_tiringOf_44 (v := (8 : Int32)) (by decide) ?_
    obtain rfl := Option.some.inj hS
    exact r_iretRo C dX0_tiringOf_46
  · replace hS := gf c2 hS
    by_cases c3 : (G 4 j.toNatClampNeg) = (2 : Int32)
    · replace hS := gt c3 hS
      refine r_tabIn C dX0_tiringOf_6 (v := (2 : Int32)) (off := 43) (tgt := 49) c3 (by decide) (by decide) (by decide) rfl ?_
      refine r_iconst C dX0_tiringOf_49 (v := (4 : Int32)) rfl ?_
      obtain rfl := Option.some.inj hS
      exact r_iretRo C dX0_tiringOf_50
    · replace hS := gf c3 hS
      by_cases c4 : (G 4 j.toNatClampNeg) = (3 : Int32)
      · replace hS := gt c4 hS
        refine r_tabIn C dX0_tiringOf_6 (v := (3 : Int32)) (off := 43) (tgt := 49) c4 (by decide) (by decide) (by decide) rfl ?_
        refine r_iconst C dX0_tiringOf_49 (v := (4 : Int32)) rfl ?_
        obtain rfl := Option.some.inj hS
        exact r_iretRo C dX0_tiringOf_50
      · replace hS := gf c4 hS
        by_cases c5 : (G 4 j.toNatClampNeg) = (4 : Int32)
        · replace hS := gt c5 hS
          refine r_tabIn C dX0_tiringOf_6 (v := (4 : Int32)) (off := 45) (tgt := 51) c5 (by decide) (by decide) (by decide) rfl ?_
          refine r_bipush C dX0_tiringOf_51 (v := (8 : Int32)) (by decide) ?_
          obtain rfl := Option.some.inj hS
          exact r_iretRo C dX0_tiringOf_53
        · replace hS := gf c5 hS
          by_cases c6 : (G 4 j.toNatClampNeg) = (5 : Int32)
          · replace hS := gt c6 hS
            refine r_tabIn C dX0_tiringOf_6 (v := (5 : Int32)) (off := 48) (tgt := 54) c6 (by decide) (by decide) (by decide) rfl ?_
            refine r_iconst C dX0_tiringOf_54 (v := (5 : Int32)) rfl ?_
            refine r_aload_n C dX0_tiringOf_55 rfl 0 rfl ?_
            refine r_get C fl_RX0_49 dX0_tiringOf_56 0 rfl rfl ?_
            refine r_iadd C dX0_tiringOf_59 ?_
            obtain rfl := Option.some.inj hS
            exact r_iretRo C dX0_tiringOf_60
          · replace hS := gf c6 hS
            by_cases c7 : (G 4 j.toNatClampNeg) = (6 : Int32)
            · replace hS := gt c7 hS
              refine r_tabIn C dX0_tiringOf_6 (v := (6 : Int32)) (off := 41) (tgt := 47) c7 (by decide) (by decide) (by decide) rfl ?_
              refine r_iconst C dX0_tiringOf_47 (v := (2 : Int32)) rfl ?_
              obtain rfl := Option.some.inj hS
              exact r_iretRo C dX0_tiringOf_48
            · replace hS := gf c7 hS
              refine r_tabOut C dX0_tiringOf_6 (tgt := 61) (by have := lv_neT (a := 1) c2 (by decide); have := lv_neT (a := 2) c3 (by decide); have := lv_neT (a := 3) c4 (by decide); have := lv_neT (a := 4) c5 (by decide); have := lv_neT (a := 5) c6 (by decide); have := lv_neT (a := 6) c7 (by decide); omega) rfl ?_
              refine r_iconst C dX0_tiringOf_61 (v := (5 : Int32)) rfl ?_
              obtain rfl := Option.some.inj hS
              exact r_iretRo C dX0_tiringOf_62
set_option maxHeartbeats 4000000 in
set_option maxRecDepth 100000 in
theorem cX0_forceIn_ok (l : Launch) (κ : KX) (a : Nat → Nat) (pl : Int32) (G : St2)  (q : Int32) (hS : SX0_forceIn pl G = some q) : MRo l yX0_forceIn cX0_forceIn 2 (some .int) { frames := 0, cells := 0, slots := 0, locals := 0 } κ (lnW κ a G) [.ref (a 0), .int pl] (some (.int q)) := by
  unfold SX0_forceIn at hS
  refine enterRo (by decide) (Nat.le_of_ble_eq_true rfl) (fun p e s m below meth c C => ?_)
  refine r_lv0 (lv' := [(0, .ref (a 0)), (1, .int pl)]) rfl ?_
  refine r_aload_n C dX0_forceIn_0 rfl 0 rfl ?_
  refine r_get C fl_RX0_15 dX0_forceIn_1 0 rfl rfl ?_
  refine r_iload_n C dX0_forceIn_4 rfl 1 rfl ?_
  obtain ⟨h1, hS⟩ := ck_e hS
  refine r_iald C dX0_forceIn_5 2 rfl h1 rfl ?_
  refine r_aload_n C dX0_forceIn_6 rfl 0 rfl ?_
  refine r_get C fl_RX0_18 dX0_forceIn_7 0 rfl rfl ?_
  refine r_iload_n C dX0_forceIn_10 rfl 1 rfl ?_
  obtain ⟨h2, hS⟩ := ck_e hS
  refine r_iald C dX0_forceIn_11 3 rfl h2 rfl ?_
  refine r_iconst C dX0_forceIn_12 (v := (2 : Int32)) rfl ?_
  refine r_idiv C dX0_forceIn_13 (by decide) ?_
  refine r_iadd C dX0_forceIn_14 ?_
  obtain rfl := Option.some.inj hS
  exact r_iretRo C dX0_forceIn_15
set_option maxHeartbeats 4000000 in
set_option maxRecDepth 100000 in
theorem cX0_wouldWin_ok (l : Launch) (κ : KX) (a : Nat → Nat) (pl : Int32) (G : St2)  (q : Int32) (hS : SX0_wouldWin pl G = some q) : MRo l yX0_wouldWin cX0_wouldWin 3 (some .boolean) { frames := 2, cells := 0, slots := 0, locals := 43 } κ (lnW κ a G) [.ref (a 0), .int pl] (some (.int q)) := by
  unfold SX0_wouldWin at hS
  refine enterRo (by decide) (Nat.le_of_ble_eq_true rfl) (fun p e s m below meth c C => ?_)
  refine r_lv0 (lv' := [(0, .ref (a 0)), (1, .int pl)]) rfl ?_
  refine r_aload_n C dX0_wouldWin_0 rfl 0 rfl ?_
  refine r_get C fl_RX0_9 dX0_wouldWin_1 0 rfl rfl ?_
  refine r_iload_n C dX0_wouldWin_4 rfl 1 rfl ?_
  obtain ⟨h1, hS⟩ := ck_e hS
  refine r_iald C dX0_wouldWin_5 1 rfl h1 rfl ?_
  obtain ⟨v2, e3, hS⟩ := nmd_e hS
  refine r_nmi e3 ?_
  refine r_istore_n C dX0_wouldWin_6 rfl (lv' := [(2, .int v2), (0, .ref (a 0)), (1, .int pl)]) (by decide) rfl ?_
  refine r_iload_n C dX0_wouldWin_7 rfl 0 rfl ?_
  refine r_iconst C dX0_wouldWin_8 (v := (-1 : Int32)) rfl ?_
  refine r_icmp_eq C dX0_wouldWin_9 (tgt := 29) rfl (fun c4 => ?_) (fun c4 => ?_)
  · replace hS := gt c4 hS
    refine r_iconst C dX0_wouldWin_29 (v := (0 : Int32)) rfl ?_
    obtain rfl := Option.some.inj hS
    exact r_zretRo C rfl dX0_wouldWin_30
  · replace hS := gf c4 hS
    refine r_aload_n C dX0_wouldWin_12 rfl 1 rfl ?_
    refine r_iload_n C dX0_wouldWin_13 rfl 0 rfl ?_
    obtain ⟨q5, e6, hS⟩ := bd_e hS
    refine r_roV C dX0_wouldWin_14 (rest := []) (st' := [.int q5]) vl_RX0_80 (cX0_highOf_ok l κ a v2 G q5 e6) [0, 1, 2, 3, 4, 5, 6, 7, 8, 9, 10] rfl 0 rfl rfl ⟨rfl, rfl, Nat.le_of_ble_eq_true rfl, Nat.le_of_ble_eq_true rfl⟩ rfl rfl (Nat.le_of_ble_eq_true rfl) rfl ?_
    refine r_aload_n C dX0_wouldWin_17 rfl 1 rfl ?_
    refine r_iload_n C dX0_wouldWin_18 rfl 2 rfl ?_
    obtain ⟨q7, e8, hS⟩ := bd_e hS
    refine r_roV C dX0_wouldWin_19 (rest := [.int q5]) (st' := [.int q7, .int q5]) vl_RX0_83 (cX0_forceIn_ok l κ a pl G q7 e8) [0, 1, 2, 3, 4, 5, 6, 7, 8, 9, 10] rfl 0 rfl rfl ⟨rfl, rfl, Nat.le_of_ble_eq_true rfl, Nat.le_of_ble_eq_true rfl⟩ rfl rfl (Nat.le_of_ble_eq_true rfl) rfl ?_
    refine r_icmp_le C dX0_wouldWin_22 (tgt := 29) rfl (fun c9 => ?_) (fun c9 => ?_)
    · replace hS := gt c9 hS
      refine r_iconst C dX0_wouldWin_29 (v := (0 : Int32)) rfl ?_
      obtain rfl := Option.some.inj hS
      exact r_zretRo C rfl dX0_wouldWin_30
    · replace hS := gf c9 hS
      refine r_iconst C dX0_wouldWin_25 (v := (1 : Int32)) rfl ?_
      refine r_goto C dX0_wouldWin_26 (tgt := 30) rfl ?_
      obtain rfl := Option.some.inj hS
      exact r_zretRo C rfl dX0_wouldWin_30
set_option maxHeartbeats 4000000 in
set_option maxRecDepth 100000 in
theorem lpX0_winnable_1 (l : Launch) (κ : KX) (a : Nat → Nat) (G : St2)  (q : Int32) {p : Program} {e : Env} {s : State} {m : MethodId} {args : Array Value} {below : List Frame} {meth : Method} {c : Code} (C : CT p s m args meth c κ (fun _ => False) (HRo s) cX0_winnable 3 RX0 (some .int)) : ∀ (nf : Nat) (w1 : Int32) (w2 : Int32), SX0_winnable_L1 G nf w1 w2 = some q → WW p l e { frames := 3, cells := 0, slots := 0, locals := 65 } s m args below meth c κ 3 (MQ below (QRo (some (.int q))) args s 0 0 (fun _ => False)) (HRo s) (lnW κ a G) [(0, .ref (a 0)), (1, .int w1), (2, .int w2)] 4 [] := by
  intro nf
  induction nf with
  | zero => intro w1 w2 hS; exact nomatch (show none = some q from hS)
  | succ nf ih =>
    intro w1 w2 hS
    have hS : BX0_winnable_L1 G (SX0_winnable_L1 G nf) w1 w2 = some q := hS
    unfold BX0_winnable_L1 at hS
    refine r_iload_n C dX0_winnable_4 rfl 2 rfl ?_
    refine r_bipush C dX0_winnable_5 (v := (7 : Int32)) (by decide) ?_
    refine r_icmp_ge C dX0_winnable_7 (tgt := 30) rfl (fun c1 => ?_) (fun c1 => ?_)
    · replace hS := gt c1 hS
      refine r_iload_n C dX0_winnable_30 rfl 1 rfl ?_
      obtain rfl := Option.some.inj hS
      exact r_iretRo C dX0_winnable_31
    · replace hS := gf c1 hS
      refine r_aload_n C dX0_winnable_10 rfl 0 rfl ?_
      refine r_iload_n C dX0_winnable_11 rfl 2 rfl ?_
      obtain ⟨q2, e3, hS⟩ := bd_e hS
      refine r_roV C dX0_winnable_12 (rest := []) (st' := [.int q2]) vl_RX0_86 (cX0_wouldWin_ok l κ a w2 G q2 e3) [0, 1, 2, 3, 4, 5, 6, 7, 8, 9, 10] rfl 0 rfl rfl ⟨rfl, rfl, Nat.le_of_ble_eq_true rfl, Nat.le_of_ble_eq_true rfl⟩ rfl rfl (Nat.le_of_ble_eq_true rfl) rfl ?_
      refine r_if_eq C dX0_winnable_15 (tgt := 24) rfl (fun c4 => ?_) (fun c4 => ?_)
      · replace hS := gt c4 hS
        obtain ⟨v5, e6, hS⟩ := nmd_e hS
        refine r_iinc C dX0_winnable_24 (v := v5) (lv' := [(2, .int v5), (0, .ref (a 0)), (1, .int w1)]) 2 rfl (by rw [← e6]; rfl) (by decide) rfl ?_
        refine r_goto C dX0_winnable_27 (tgt := 4) rfl ?_
        refine r_lvs [1, 2, 0] rfl ?_
        exact ih w1 v5 hS
      · replace hS := gf c4 hS
        refine r_iload_n C dX0_winnable_18 rfl 1 rfl ?_
        refine r_iconst C dX0_winnable_19 (v := (1 : Int32)) rfl ?_
        refine r_iload_n C dX0_winnable_20 rfl 2 rfl ?_
        refine r_ishl C dX0_winnable_21 ?_
        refine r_ior C dX0_winnable_22 ?_
        obtain ⟨v7, e8, hS⟩ := nmd_e hS
        refine r_nmi e8 ?_
        refine r_istore_n C dX0_winnable_23 rfl (lv' := [(1, .int v7), (0, .ref (a 0)), (2, .int w2)]) (by decide) rfl ?_
        obtain ⟨v9, e10, hS⟩ := nmd_e hS
        refine r_iinc C dX0_winnable_24 (v := v9) (lv' := [(2, .int v9), (1, .int v7), (0, .ref (a 0))]) 2 rfl (by rw [← e10]; rfl) (by decide) rfl ?_
        refine r_goto C dX0_winnable_27 (tgt := 4) rfl ?_
        refine r_lvs [2, 1, 0] rfl ?_
        exact ih v7 v9 hS
set_option maxHeartbeats 4000000 in
set_option maxRecDepth 100000 in
theorem cX0_winnable_ok (l : Launch) (κ : KX) (a : Nat → Nat) (G : St2)  (q : Int32) (hS : SX0_winnable G = some q) : MRo l yX0_winnable cX0_winnable 3 (some .int) { frames := 3, cells := 0, slots := 0, locals := 65 } κ (lnW κ a G) [.ref (a 0)] (some (.int q)) := by
  unfold SX0_winnable at hS
  refine enterRo (by decide) (Nat.le_of_ble_eq_true rfl) (fun p e s m below meth c C => ?_)
  refine r_lv0 (lv' := [(0, .ref (a 0))]) rfl ?_
  refine r_iconst C dX0_winnable_0 (v := (0 : Int32)) rfl ?_
  refine r_istore_n C dX0_winnable_1 rfl (lv' := [(1, .int ((0 : Int32))), (0, .ref (a 0))]) (by decide) rfl ?_
  refine r_iconst C dX0_winnable_2 (v := (0 : Int32)) rfl ?_
  refine r_istore_n C dX0_winnable_3 rfl (lv' := [(2, .int ((0 : Int32))), (1, .int ((0 : Int32))), (0, .ref (a 0))]) (by decide) rfl ?_
  refine r_lvs [2, 1, 0] rfl ?_
  exact lpX0_winnable_1 l κ a G  q C FU ((0 : Int32)) ((0 : Int32)) hS
set_option maxHeartbeats 4000000 in
set_option maxRecDepth 100000 in
theorem lpX0_placesListed_1 (l : Launch) (κ : KX) (a : Nat → Nat) (G : St2)  (q : Int32) {p : Program} {e : Env} {s : State} {m : MethodId} {args : Array Value} {below : List Frame} {meth : Method} {c : Code} (C : CT p s m args meth c κ (fun _ => False) (HRo s) cX0_placesListed 3 RX0 (some .int)) : ∀ (nf : Nat) (w1 : Int32) (w2 : Int32), SX0_placesListed_L1 G nf w1 w2 = some q → WW p l e { frames := 2, cells := 0, slots := 0, locals := 44 } s m args below meth c κ 3 (MQ below (QRo (some (.int q))) args s 0 0 (fun _ => False)) (HRo s) (lnW κ a G) [(0, .ref (a 0)), (1, .int w1), (2, .int w2)] 4 [] := by
  intro nf
  induction nf with
  | zero => intro w1 w2 hS; exact nomatch (show none = some q from hS)
  | succ nf ih =>
    intro w1 w2 hS
    have hS : BX0_placesListed_L1 G (SX0_placesListed_L1 G nf) w1 w2 = some q := hS
    unfold BX0_placesListed_L1 at hS
    refine r_iload_n C dX0_placesListed_4 rfl 2 rfl ?_
    refine r_bipush C dX0_placesListed_5 (v := (6 : Int32)) (by decide) ?_
    refine r_icmp_ge C dX0_placesListed_7 (tgt := 34) rfl (fun c1 => ?_) (fun c1 => ?_)
    · replace hS := gt c1 hS
      refine r_iload_n C dX0_placesListed_34 rfl 1 rfl ?_
      obtain rfl := Option.some.inj hS
      exact r_iretRo C dX0_placesListed_35
    · replace hS := gf c1 hS
      refine r_iload_n C dX0_placesListed_10 rfl 1 rfl ?_
      refine r_iconst C dX0_placesListed_11 (v := (1 : Int32)) rfl ?_
      refine r_aload_n C dX0_placesListed_12 rfl 0 rfl ?_
      refine r_get C fl_RX0_21 dX0_placesListed_13 0 rfl rfl ?_
      refine r_iload_n C dX0_placesListed_16 rfl 2 rfl ?_
      obtain ⟨h2, hS⟩ := ck_e hS
      refine r_iald C dX0_placesListed_17 4 rfl h2 rfl ?_
      refine r_aload_n C dX0_placesListed_18 rfl 0 rfl ?_
      refine r_get C fl_RX0_52 dX0_placesListed_19 0 rfl rfl ?_
      obtain ⟨q3, e4, hS⟩ := bd_e hS
      refine r_roN C dX0_placesListed_22 (rest := [.int ((1 : Int32)), .int w1]) (st' := [.int q3, .int ((1 : Int32)), .int w1]) nl_RX0_90 (cX4_placeSaid_ok l κ ((G 3 w2.toNatClampNeg)) ((G 10 3)) q3 e4) [] rfl ⟨rfl, rfl, Nat.le_of_ble_eq_true rfl, Nat.le_of_ble_eq_true rfl⟩ rfl rfl (Nat.le_of_ble_eq_true rfl) rfl ?_
      refine r_ishl C dX0_placesListed_25 ?_
      refine r_ior C dX0_placesListed_26 ?_
      obtain ⟨v5, e6, hS⟩ := nmd_e hS
      refine r_nmi e6 ?_
      refine r_istore_n C dX0_placesListed_27 rfl (lv' := [(1, .int v5), (0, .ref (a 0)), (2, .int w2)]) (by decide) rfl ?_
      obtain ⟨v7, e8, hS⟩ := nmd_e hS
      refine r_iinc C dX0_placesListed_28 (v := v7) (lv' := [(2, .int v7), (1, .int v5), (0, .ref (a 0))]) 2 rfl (by rw [← e8]; rfl) (by decide) rfl ?_
      refine r_goto C dX0_placesListed_31 (tgt := 4) rfl ?_
      refine r_lvs [2, 1, 0] rfl ?_
      exact ih v5 v7 hS
set_option maxHeartbeats 4000000 in
set_option maxRecDepth 100000 in
theorem cX0_placesListed_ok (l : Launch) (κ : KX) (a : Nat → Nat) (G : St2)  (q : Int32) (hS : SX0_placesListed G = some q) : MRo l yX0_placesListed cX0_placesListed 3 (some .int) { frames := 2, cells := 0, slots := 0, locals := 44 } κ (lnW κ a G) [.ref (a 0)] (some (.int q)) := by
  unfold SX0_placesListed at hS
  refine enterRo (by decide) (Nat.le_of_ble_eq_true rfl) (fun p e s m below meth c C => ?_)
  refine r_lv0 (lv' := [(0, .ref (a 0))]) rfl ?_
  refine r_iconst C dX0_placesListed_0 (v := (0 : Int32)) rfl ?_
  refine r_istore_n C dX0_placesListed_1 rfl (lv' := [(1, .int ((0 : Int32))), (0, .ref (a 0))]) (by decide) rfl ?_
  refine r_iconst C dX0_placesListed_2 (v := (0 : Int32)) rfl ?_
  refine r_istore_n C dX0_placesListed_3 rfl (lv' := [(2, .int ((0 : Int32))), (1, .int ((0 : Int32))), (0, .ref (a 0))]) (by decide) rfl ?_
  refine r_lvs [2, 1, 0] rfl ?_
  exact lpX0_placesListed_1 l κ a G  q C FU ((0 : Int32)) ((0 : Int32)) hS
set_option maxHeartbeats 4000000 in
set_option maxRecDepth 100000 in
theorem cX0_nextIndex_ok (l : Launch) (κ : KX) (a : Nat → Nat) (G : St2)  (q : Int32) (hS : SX0_nextIndex G = some q) : MRo l yX0_nextIndex cX0_nextIndex 1 (some .int) { frames := 0, cells := 0, slots := 0, locals := 0 } κ (lnW κ a G) [.ref (a 0)] (some (.int q)) := by
  unfold SX0_nextIndex at hS
  refine enterRo (by decide) (Nat.le_of_ble_eq_true rfl) (fun p e s m below meth c C => ?_)
  refine r_lv0 (lv' := [(0, .ref (a 0))]) rfl ?_
  refine r_aload_n C dX0_nextIndex_0 rfl 0 rfl ?_
  refine r_get C fl_RX0_55 dX0_nextIndex_1 0 rfl rfl ?_
  refine r_bipush C dX0_nextIndex_4 (v := (6 : Int32)) (by decide) ?_
  refine r_irem C dX0_nextIndex_6 (by decide) ?_
  obtain rfl := Option.some.inj hS
  exact r_iretRo C dX0_nextIndex_7
set_option maxHeartbeats 4000000 in
set_option maxRecDepth 100000 in
theorem cX0_nextPlace_ok (l : Launch) (κ : KX) (a : Nat → Nat) (G : St2)  (q : Int32) (hS : SX0_nextPlace G = some q) : MRo l yX0_nextPlace cX0_nextPlace 1 (some .int) { frames := 2, cells := 0, slots := 0, locals := 44 } κ (lnW κ a G) [.ref (a 0)] (some (.int q)) := by
  unfold SX0_nextPlace at hS
  refine enterRo (by decide) (Nat.le_of_ble_eq_true rfl) (fun p e s m below meth c C => ?_)
  refine r_lv0 (lv' := [(0, .ref (a 0))]) rfl ?_
  refine r_aload_n C dX0_nextPlace_0 rfl 0 rfl ?_
  refine r_get C fl_RX0_21 dX0_nextPlace_1 0 rfl rfl ?_
  refine r_aload_n C dX0_nextPlace_4 rfl 0 rfl ?_
  obtain ⟨q1, e2, hS⟩ := bd_e hS
  refine r_roV C dX0_nextPlace_5 (rest := [.ref (a 4)]) (st' := [.int q1, .ref (a 4)]) vl_RX0_93 (cX0_nextIndex_ok l κ a G q1 e2) [0, 1, 2, 3, 4, 5, 6, 7, 8, 9, 10] rfl 0 rfl rfl ⟨rfl, rfl, Nat.le_of_ble_eq_true rfl, Nat.le_of_ble_eq_true rfl⟩ rfl rfl (Nat.le_of_ble_eq_true rfl) rfl ?_
  obtain ⟨h3, hS⟩ := ck_e hS
  refine r_iald C dX0_nextPlace_8 4 rfl h3 rfl ?_
  refine r_aload_n C dX0_nextPlace_9 rfl 0 rfl ?_
  refine r_get C fl_RX0_52 dX0_nextPlace_10 0 rfl rfl ?_
  obtain ⟨q4, e5, hS⟩ := bd_e hS
  refine r_roN C dX0_nextPlace_13 (rest := []) (st' := [.int q4]) nl_RX0_90 (cX4_placeSaid_ok l κ ((G 3 q1.toNatClampNeg)) ((G 10 3)) q4 e5) [] rfl ⟨rfl, rfl, Nat.le_of_ble_eq_true rfl, Nat.le_of_ble_eq_true rfl⟩ rfl rfl (Nat.le_of_ble_eq_true rfl) rfl ?_
  obtain rfl := Option.some.inj hS
  exact r_iretRo C dX0_nextPlace_16
set_option maxHeartbeats 4000000 in
set_option maxRecDepth 100000 in
theorem lpX0_sum_won_1 (l : Launch) (κ : KX) (a : Nat → Nat) (G : St2)  (q : Int32) {p : Program} {e : Env} {s : State} {m : MethodId} {args : Array Value} {below : List Frame} {meth : Method} {c : Code} (C : CT p s m args meth c κ (fun _ => False) (HRo s) cX0_sum 4 RX0 (some .int)) : ∀ (nf : Nat) (w2 : Int32) (w3 : Int32), SX0_sum_won_L1 G nf w2 w3 = some q → WW p l e { frames := 0, cells := 0, slots := 0, locals := 0 } s m args below meth c κ 4 (MQ below (QRo (some (.int q))) args s 0 0 (fun _ => False)) (HRo s) (lnW κ a G) [(0, .ref (a 0)), (1, .ref (a 8)), (2, .int w2), (3, .int w3)] 4 [] := by
  intro nf
  induction nf with
  | zero => intro w2 w3 hS; exact nomatch (show none = some q from hS)
  | succ nf ih =>
    intro w2 w3 hS
    have hS : BX0_sum_won_L1 G (SX0_sum_won_L1 G nf) w2 w3 = some q := hS
    unfold BX0_sum_won_L1 at hS
    refine r_iload_n C dX0_sum_4 rfl 3 rfl ?_
    refine r_aload_n C dX0_sum_5 rfl 0 rfl ?_
    refine r_get C fl_RX0_42 dX0_sum_6 0 rfl rfl ?_
    refine r_icmp_ge C dX0_sum_9 (tgt := 24) rfl (fun c1 => ?_) (fun c1 => ?_)
    · replace hS := gt c1 hS
      refine r_iload_n C dX0_sum_24 rfl 2 rfl ?_
      obtain rfl := Option.some.inj hS
      exact r_iretRo C dX0_sum_25
    · replace hS := gf c1 hS
      refine r_iload_n C dX0_sum_12 rfl 2 rfl ?_
      refine r_aload_n C dX0_sum_13 rfl 1 rfl ?_
      refine r_iload_n C dX0_sum_14 rfl 3 rfl ?_
      obtain ⟨h2, hS⟩ := ck_e hS
      refine r_iald C dX0_sum_15 8 rfl h2 rfl ?_
      refine r_iadd C dX0_sum_16 ?_
      obtain ⟨v3, e4, hS⟩ := nmd_e hS
      refine r_nmi e4 ?_
      refine r_istore_n C dX0_sum_17 rfl (lv' := [(2, .int v3), (0, .ref (a 0)), (1, .ref (a 8)), (3, .int w3)]) (by decide) rfl ?_
      obtain ⟨v5, e6, hS⟩ := nmd_e hS
      refine r_iinc C dX0_sum_18 (v := v5) (lv' := [(3, .int v5), (2, .int v3), (0, .ref (a 0)), (1, .ref (a 8))]) 3 rfl (by rw [← e6]; rfl) (by decide) rfl ?_
      refine r_goto C dX0_sum_21 (tgt := 4) rfl ?_
      refine r_lvs [2, 3, 1, 0] rfl ?_
      exact ih v3 v5 hS
set_option maxHeartbeats 4000000 in
set_option maxRecDepth 100000 in
theorem cX0_sum_won_ok (l : Launch) (κ : KX) (a : Nat → Nat) (G : St2)  (q : Int32) (hS : SX0_sum_won G = some q) : MRo l yX0_sum cX0_sum 4 (some .int) { frames := 0, cells := 0, slots := 0, locals := 0 } κ (lnW κ a G) [.ref (a 0), .ref (a 8)] (some (.int q)) := by
  unfold SX0_sum_won at hS
  refine enterRo (by decide) (Nat.le_of_ble_eq_true rfl) (fun p e s m below meth c C => ?_)
  refine r_lv0 (lv' := [(0, .ref (a 0)), (1, .ref (a 8))]) rfl ?_
  refine r_iconst C dX0_sum_0 (v := (0 : Int32)) rfl ?_
  refine r_istore_n C dX0_sum_1 rfl (lv' := [(2, .int ((0 : Int32))), (0, .ref (a 0)), (1, .ref (a 8))]) (by decide) rfl ?_
  refine r_iconst C dX0_sum_2 (v := (0 : Int32)) rfl ?_
  refine r_istore_n C dX0_sum_3 rfl (lv' := [(3, .int ((0 : Int32))), (2, .int ((0 : Int32))), (0, .ref (a 0)), (1, .ref (a 8))]) (by decide) rfl ?_
  refine r_lvs [2, 3, 1, 0] rfl ?_
  exact lpX0_sum_won_1 l κ a G  q C FU ((0 : Int32)) ((0 : Int32)) hS
set_option maxHeartbeats 4000000 in
set_option maxRecDepth 100000 in
theorem lpX0_sum_lost_1 (l : Launch) (κ : KX) (a : Nat → Nat) (G : St2)  (q : Int32) {p : Program} {e : Env} {s : State} {m : MethodId} {args : Array Value} {below : List Frame} {meth : Method} {c : Code} (C : CT p s m args meth c κ (fun _ => False) (HRo s) cX0_sum 4 RX0 (some .int)) : ∀ (nf : Nat) (w2 : Int32) (w3 : Int32), SX0_sum_lost_L1 G nf w2 w3 = some q → WW p l e { frames := 0, cells := 0, slots := 0, locals := 0 } s m args below meth c κ 4 (MQ below (QRo (some (.int q))) args s 0 0 (fun _ => False)) (HRo s) (lnW κ a G) [(0, .ref (a 0)), (1, .ref (a 9)), (2, .int w2), (3, .int w3)] 4 [] := by
  intro nf
  induction nf with
  | zero => intro w2 w3 hS; exact nomatch (show none = some q from hS)
  | succ nf ih =>
    intro w2 w3 hS
    have hS : BX0_sum_lost_L1 G (SX0_sum_lost_L1 G nf) w2 w3 = some q := hS
    unfold BX0_sum_lost_L1 at hS
    refine r_iload_n C dX0_sum_4 rfl 3 rfl ?_
    refine r_aload_n C dX0_sum_5 rfl 0 rfl ?_
    refine r_get C fl_RX0_42 dX0_sum_6 0 rfl rfl ?_
    refine r_icmp_ge C dX0_sum_9 (tgt := 24) rfl (fun c1 => ?_) (fun c1 => ?_)
    · replace hS := gt c1 hS
      refine r_iload_n C dX0_sum_24 rfl 2 rfl ?_
      obtain rfl := Option.some.inj hS
      exact r_iretRo C dX0_sum_25
    · replace hS := gf c1 hS
      refine r_iload_n C dX0_sum_12 rfl 2 rfl ?_
      refine r_aload_n C dX0_sum_13 rfl 1 rfl ?_
      refine r_iload_n C dX0_sum_14 rfl 3 rfl ?_
      obtain ⟨h2, hS⟩ := ck_e hS
      refine r_iald C dX0_sum_15 9 rfl h2 rfl ?_
      refine r_iadd C dX0_sum_16 ?_
      obtain ⟨v3, e4, hS⟩ := nmd_e hS
      refine r_nmi e4 ?_
      refine r_istore_n C dX0_sum_17 rfl (lv' := [(2, .int v3), (0, .ref (a 0)), (1, .ref (a 9)), (3, .int w3)]) (by decide) rfl ?_
      obtain ⟨v5, e6, hS⟩ := nmd_e hS
      refine r_iinc C dX0_sum_18 (v := v5) (lv' := [(3, .int v5), (2, .int v3), (0, .ref (a 0)), (1, .ref (a 9))]) 3 rfl (by rw [← e6]; rfl) (by decide) rfl ?_
      refine r_goto C dX0_sum_21 (tgt := 4) rfl ?_
      refine r_lvs [2, 3, 1, 0] rfl ?_
      exact ih v3 v5 hS
set_option maxHeartbeats 4000000 in
set_option maxRecDepth 100000 in
theorem cX0_sum_lost_ok (l : Launch) (κ : KX) (a : Nat → Nat) (G : St2)  (q : Int32) (hS : SX0_sum_lost G = some q) : MRo l yX0_sum cX0_sum 4 (some .int) { frames := 0, cells := 0, slots := 0, locals := 0 } κ (lnW κ a G) [.ref (a 0), .ref (a 9)] (some (.int q)) := by
  unfold SX0_sum_lost at hS
  refine enterRo (by decide) (Nat.le_of_ble_eq_true rfl) (fun p e s m below meth c C => ?_)
  refine r_lv0 (lv' := [(0, .ref (a 0)), (1, .ref (a 9))]) rfl ?_
  refine r_iconst C dX0_sum_0 (v := (0 : Int32)) rfl ?_
  refine r_istore_n C dX0_sum_1 rfl (lv' := [(2, .int ((0 : Int32))), (0, .ref (a 0)), (1, .ref (a 9))]) (by decide) rfl ?_
  refine r_iconst C dX0_sum_2 (v := (0 : Int32)) rfl ?_
  refine r_istore_n C dX0_sum_3 rfl (lv' := [(3, .int ((0 : Int32))), (2, .int ((0 : Int32))), (0, .ref (a 0)), (1, .ref (a 9))]) (by decide) rfl ?_
  refine r_lvs [2, 3, 1, 0] rfl ?_
  exact lpX0_sum_lost_1 l κ a G  q C FU ((0 : Int32)) ((0 : Int32)) hS
set_option maxHeartbeats 4000000 in
set_option maxRecDepth 100000 in
theorem lpX0_spotsHolding_1 (l : Launch) (κ : KX) (a : Nat → Nat) (G : St2)  (q : Int32) {p : Program} {e : Env} {s : State} {m : MethodId} {args : Array Value} {below : List Frame} {meth : Method} {c : Code} (C : CT p s m args meth c κ (fun _ => False) (HRo s) cX0_spotsHolding 3 RX0 (some .int)) : ∀ (nf : Nat) (w1 : Int32) (w2 : Int32), SX0_spotsHolding_L1 G nf w1 w2 = some q → WW p l e { frames := 0, cells := 0, slots := 0, locals := 0 } s m args below meth c κ 3 (MQ below (QRo (some (.int q))) args s 0 0 (fun _ => False)) (HRo s) (lnW κ a G) [(0, .ref (a 0)), (1, .int w1), (2, .int w2)] 4 [] := by
  intro nf
  induction nf with
  | zero => intro w1 w2 hS; exact nomatch (show none = some q from hS)
  | succ nf ih =>
    intro w1 w2 hS
    have hS : BX0_spotsHolding_L1 G (SX0_spotsHolding_L1 G nf) w1 w2 = some q := hS
    unfold BX0_spotsHolding_L1 at hS
    refine r_iload_n C dX0_spotsHolding_4 rfl 2 rfl ?_
    refine r_bipush C dX0_spotsHolding_5 (v := (10 : Int32)) (by decide) ?_
    refine r_icmp_ge C dX0_spotsHolding_7 (tgt := 29) rfl (fun c1 => ?_) (fun c1 => ?_)
    · replace hS := gt c1 hS
      refine r_iload_n C dX0_spotsHolding_29 rfl 1 rfl ?_
      obtain rfl := Option.some.inj hS
      exact r_iretRo C dX0_spotsHolding_30
    · replace hS := gf c1 hS
      refine r_aload_n C dX0_spotsHolding_10 rfl 0 rfl ?_
      refine r_get C fl_RX0_39 dX0_spotsHolding_11 0 rfl rfl ?_
      refine r_iload_n C dX0_spotsHolding_14 rfl 2 rfl ?_
      obtain ⟨h2, hS⟩ := ck_e hS
      refine r_iald C dX0_spotsHolding_15 10 rfl h2 rfl ?_
      refine r_iconst C dX0_spotsHolding_16 (v := (-1 : Int32)) rfl ?_
      refine r_icmp_eq C dX0_spotsHolding_17 (tgt := 23) rfl (fun c3 => ?_) (fun c3 => ?_)
      · replace hS := gt c3 hS
        obtain ⟨v4, e5, hS⟩ := nmd_e hS
        refine r_iinc C dX0_spotsHolding_23 (v := v4) (lv' := [(2, .int v4), (0, .ref (a 0)), (1, .int w1)]) 2 rfl (by rw [← e5]; rfl) (by decide) rfl ?_
        refine r_goto C dX0_spotsHolding_26 (tgt := 4) rfl ?_
        refine r_lvs [1, 2, 0] rfl ?_
        exact ih w1 v4 hS
      · replace hS := gf c3 hS
        obtain ⟨v6, e7, hS⟩ := nmd_e hS
        refine r_iinc C dX0_spotsHolding_20 (v := v6) (lv' := [(1, .int v6), (0, .ref (a 0)), (2, .int w2)]) 1 rfl (by rw [← e7]; rfl) (by decide) rfl ?_
        obtain ⟨v8, e9, hS⟩ := nmd_e hS
        refine r_iinc C dX0_spotsHolding_23 (v := v8) (lv' := [(2, .int v8), (1, .int v6), (0, .ref (a 0))]) 2 rfl (by rw [← e9]; rfl) (by decide) rfl ?_
        refine r_goto C dX0_spotsHolding_26 (tgt := 4) rfl ?_
        refine r_lvs [2, 1, 0] rfl ?_
        exact ih v6 v8 hS
set_option maxHeartbeats 4000000 in
set_option maxRecDepth 100000 in
theorem cX0_spotsHolding_ok (l : Launch) (κ : KX) (a : Nat → Nat) (G : St2)  (q : Int32) (hS : SX0_spotsHolding G = some q) : MRo l yX0_spotsHolding cX0_spotsHolding 3 (some .int) { frames := 0, cells := 0, slots := 0, locals := 0 } κ (lnW κ a G) [.ref (a 0)] (some (.int q)) := by
  unfold SX0_spotsHolding at hS
  refine enterRo (by decide) (Nat.le_of_ble_eq_true rfl) (fun p e s m below meth c C => ?_)
  refine r_lv0 (lv' := [(0, .ref (a 0))]) rfl ?_
  refine r_iconst C dX0_spotsHolding_0 (v := (0 : Int32)) rfl ?_
  refine r_istore_n C dX0_spotsHolding_1 rfl (lv' := [(1, .int ((0 : Int32))), (0, .ref (a 0))]) (by decide) rfl ?_
  refine r_iconst C dX0_spotsHolding_2 (v := (0 : Int32)) rfl ?_
  refine r_istore_n C dX0_spotsHolding_3 rfl (lv' := [(2, .int ((0 : Int32))), (1, .int ((0 : Int32))), (0, .ref (a 0))]) (by decide) rfl ?_
  refine r_lvs [2, 1, 0] rfl ?_
  exact lpX0_spotsHolding_1 l κ a G  q C FU ((0 : Int32)) ((0 : Int32)) hS
set_option maxHeartbeats 4000000 in
set_option maxRecDepth 100000 in
theorem lpX0_whereIs_1 (l : Launch) (κ : KX) (a : Nat → Nat) (j : Int32) (G : St2)  (q : Int32) {p : Program} {e : Env} {s : State} {m : MethodId} {args : Array Value} {below : List Frame} {meth : Method} {c : Code} (C : CT p s m args meth c κ (fun _ => False) (HRo s) cX0_whereIs 3 RX0 (some .int)) : ∀ (nf : Nat) (w2 : Int32), SX0_whereIs_L1 j G nf w2 = some q → WW p l e { frames := 0, cells := 0, slots := 0, locals := 0 } s m args below meth c κ 3 (MQ below (QRo (some (.int q))) args s 0 0 (fun _ => False)) (HRo s) (lnW κ a G) [(0, .ref (a 0)), (1, .int j), (2, .int w2)] 2 [] := by
  intro nf
  induction nf with
  | zero => intro w2 hS; exact nomatch (show none = some q from hS)
  | succ nf ih =>
    intro w2 hS
    have hS : BX0_whereIs_L1 j G (SX0_whereIs_L1 j G nf) w2 = some q := hS
    unfold BX0_whereIs_L1 at hS
    refine r_iload_n C dX0_whereIs_2 rfl 2 rfl ?_
    refine r_bipush C dX0_whereIs_3 (v := (7 : Int32)) (by decide) ?_
    refine r_icmp_ge C dX0_whereIs_5 (tgt := 26) rfl (fun c1 => ?_) (fun c1 => ?_)
    · replace hS := gt c1 hS
      refine r_iconst C dX0_whereIs_26 (v := (-1 : Int32)) rfl ?_
      obtain rfl := Option.some.inj hS
      exact r_iretRo C dX0_whereIs_27
    · replace hS := gf c1 hS
      refine r_aload_n C dX0_whereIs_8 rfl 0 rfl ?_
      refine r_get C fl_RX0_9 dX0_whereIs_9 0 rfl rfl ?_
      refine r_iload_n C dX0_whereIs_12 rfl 2 rfl ?_
      obtain ⟨h2, hS⟩ := ck_e hS
      refine r_iald C dX0_whereIs_13 1 rfl h2 rfl ?_
      refine r_iload_n C dX0_whereIs_14 rfl 1 rfl ?_
      refine r_icmp_ne C dX0_whereIs_15 (tgt := 20) rfl (fun c3 => ?_) (fun c3 => ?_)
      · replace hS := gf c3 hS
        obtain ⟨v4, e5, hS⟩ := nmd_e hS
        refine r_iinc C dX0_whereIs_20 (v := v4) (lv' := [(2, .int v4), (0, .ref (a 0)), (1, .int j)]) 2 rfl (by rw [← e5]; rfl) (by decide) rfl ?_
        refine r_goto C dX0_whereIs_23 (tgt := 2) rfl ?_
        refine r_lvs [1, 2, 0] rfl ?_
        exact ih v4 hS
      · replace hS := gt c3 hS
        refine r_iload_n C dX0_whereIs_18 rfl 2 rfl ?_
        obtain rfl := Option.some.inj hS
        exact r_iretRo C dX0_whereIs_19
set_option maxHeartbeats 4000000 in
set_option maxRecDepth 100000 in
theorem cX0_whereIs_ok (l : Launch) (κ : KX) (a : Nat → Nat) (j : Int32) (G : St2)  (q : Int32) (hS : SX0_whereIs j G = some q) : MRo l yX0_whereIs cX0_whereIs 3 (some .int) { frames := 0, cells := 0, slots := 0, locals := 0 } κ (lnW κ a G) [.ref (a 0), .int j] (some (.int q)) := by
  unfold SX0_whereIs at hS
  refine enterRo (by decide) (Nat.le_of_ble_eq_true rfl) (fun p e s m below meth c C => ?_)
  refine r_lv0 (lv' := [(0, .ref (a 0)), (1, .int j)]) rfl ?_
  refine r_iconst C dX0_whereIs_0 (v := (0 : Int32)) rfl ?_
  refine r_istore_n C dX0_whereIs_1 rfl (lv' := [(2, .int ((0 : Int32))), (0, .ref (a 0)), (1, .int j)]) (by decide) rfl ?_
  refine r_lvs [1, 2, 0] rfl ?_
  exact lpX0_whereIs_1 l κ a j G  q C FU ((0 : Int32)) hS
set_option maxHeartbeats 4000000 in
set_option maxRecDepth 100000 in
theorem cX0_rowOf_ok (l : Launch) (κ : KX) (a : Nat → Nat) (wh : Int32) (G : St2)  (q : Nat) (hS : SX0_rowOf wh G = some q) : MRo l yX0_rowOf cX0_rowOf 2 (some (.array .int)) { frames := 0, cells := 0, slots := 0, locals := 0 } κ (lnW κ a G) [.ref (a 0), .int wh] (some (.ref (a (q + 1)))) := by
  unfold SX0_rowOf at hS
  refine enterRo (by decide) (Nat.le_of_ble_eq_true rfl) (fun p e s m below meth c C => ?_)
  refine r_lv0 (lv' := [(0, .ref (a 0)), (1, .int wh)]) rfl ?_
  refine r_iload_n C dX0_rowOf_0 rfl 1 rfl ?_
  by_cases c1 : wh = (0 : Int32)
  · replace hS := gt c1 hS
    refine r_tabIn C dX0_rowOf_1 (v := (0 : Int32)) (off := 31) (tgt := 32) c1 (by decide) (by decide) (by decide) rfl ?_
    refine r_aload_n C dX0_rowOf_32 rfl 0 rfl ?_
    refine r_get C fl_RX0_24 dX0_rowOf_33 0 rfl rfl ?_
    obtain rfl := Option.some.inj hS
    exact r_aretRo C (Or.inr ⟨_, rfl⟩) dX0_rowOf_36
  · replace hS := gf c1 hS
    by_cases c2 : wh = (1 : Int32)
    · replace hS := gt c2 hS
      refine r_tabIn C dX0_rowOf_1 (v := (1 : Int32)) (off := 36) (tgt := 37) c2 (by decide) (by decide) (by decide) rfl ?_
      refine r_aload_n C dX0_rowOf_37 rfl 0 rfl ?_
      refine r_get C fl_RX0_27 dX0_rowOf_38 0 rfl rfl ?_
      obtain rfl := Option.some.inj hS
      exact r_aretRo C (Or.inr ⟨_, rfl⟩) dX0_rowOf_41
    · replace hS := gf c2 hS
      by_cases c3 : wh = (2 : Int32)
      · replace hS := gt c3 hS
        refine r_tabIn C dX0_rowOf_1 (v := (2 : Int32)) (off := 41) (tgt := 42) c3 (by decide) (by decide) (by decide) rfl ?_
        refine r_aload_n C dX0_rowOf_42 rfl 0 rfl ?_
        refine r_get C fl_RX0_30 dX0_rowOf_43 0 rfl rfl ?_
        obtain rfl := Option.some.inj hS
        exact r_aretRo C (Or.inr ⟨_, rfl⟩) dX0_rowOf_46
      · replace hS := gf c3 hS
        by_cases c4 : wh = (3 : Int32)
        · replace hS := gt c4 hS
          refine r_tabIn C dX0_rowOf_1 (v := (3 : Int32)) (off := 46) (tgt := 47) c4 (by decide) (by decide) (by decide) rfl ?_
          refine r_aload_n C dX0_rowOf_47 rfl 0 rfl ?_
          refine r_get C fl_RX0_33 dX0_rowOf_48 0 rfl rfl ?_
          obtain rfl := Option.some.inj hS
          exact r_aretRo C (Or.inr ⟨_, rfl⟩) dX0_rowOf_51
        · replace hS := gf c4 hS
          refine r_tabOut C dX0_rowOf_1 (tgt := 52) (by have := lv_neT (a := 0) c1 (by decide); have := lv_neT (a := 1) c2 (by decide); have := lv_neT (a := 2) c3 (by decide); have := lv_neT (a := 3) c4 (by decide); omega) rfl ?_
          refine r_aload_n C dX0_rowOf_52 rfl 0 rfl ?_
          refine r_get C fl_RX0_36 dX0_rowOf_53 0 rfl rfl ?_
          obtain rfl := Option.some.inj hS
          exact r_aretRo C (Or.inr ⟨_, rfl⟩) dX0_rowOf_56
end
section
def SX0_draw (G : St2) : Option (Int32 × St2) :=
  nmd (up2 G 10 6 ((((G 10 6) * (1103515245 : Int32)) + (12345 : Int32)))) fun G_1 =>
 some ((ushr ((G_1 10 6)) ((8 : Int32))), G_1)
def BX0_leave_L1 (j : Int32) (G : St2) (rec : Int32 → St2 → Option (St2)) (w2 : Int32) (Gw : St2) : Option (St2) :=
  (if (7 : Int32) ≤ w2 then
 some (Gw)
 else
 ck w2 7 (
 (if (Gw 0 w2.toNatClampNeg) = j then
 ck w2 7 (
 nmd (up2 Gw 0 w2.toNatClampNeg ((-1 : Int32))) fun G_7 =>
 nmd (w2 + (1 : Int32)) fun v9 =>
 rec v9 G_7)
 else
 nmd (w2 + (1 : Int32)) fun v4 =>
 rec v4 Gw)))
def SX0_leave_L1 (j : Int32) (G : St2) : Nat → Int32 → St2 → Option (St2)
  | 0 => fun _ _ => none
  | nf + 1 => BX0_leave_L1 j G (SX0_leave_L1 j G nf)
def SX0_leave (j : Int32) (G : St2) : Option (St2) :=
  SX0_leave_L1 j G FU ((0 : Int32)) G
def SX0_swapInto (j : Int32) (pl : Int32) (G : St2) : Option (St2) :=
  (SX0_whereIs j G).bind fun q1 =>
 ck pl 7 (
 nmd ((G 0 pl.toNatClampNeg)) fun v4 =>
 (if q1 < 0 then
 ck pl 7 (
 nmd (up2 G 0 pl.toNatClampNeg j) fun G_8 =>
 some (G_8))
 else
 ck q1 7 (
 nmd (up2 G 0 q1.toNatClampNeg v4) fun G_11 =>
 ck pl 7 (
 nmd (up2 G_11 0 pl.toNatClampNeg j) fun G_14 =>
 some (G_14)))))
def SX0_putSetting (wh : Int32) (v : Int32) (G : St2) : Option (Int32 × St2) :=
  (if wh = 0 then
 nmd ((G 10 1)) fun v11 =>
 nmd (up2 G 10 1 v) fun G_13 =>
 some (v11, G_13)
 else
 (if wh = (1 : Int32) then
 nmd ((G 10 2)) fun v7 =>
 nmd (up2 G 10 2 v) fun G_9 =>
 some (v7, G_9)
 else
 nmd ((G 10 3)) fun v3 =>
 nmd (up2 G 10 3 v) fun G_5 =>
 some (v3, G_5)))
def SX0_join (kd : Int32) (tl : Int32) (G : St2) : Option (Int32 × St2) :=
  nmd ((G 10 0)) fun v1 =>
 ck v1 8 (
 nmd (up2 G 4 v1.toNatClampNeg kd) fun G_4 =>
 ck v1 8 (
 nmd (up2 G_4 5 v1.toNatClampNeg tl) fun G_7 =>
 ck v1 8 (
 nmd (up2 G_7 6 v1.toNatClampNeg ((0 : Int32))) fun G_10 =>
 ck v1 8 (
 nmd (up2 G_10 7 v1.toNatClampNeg ((0 : Int32))) fun G_13 =>
 ck v1 8 (
 nmd (up2 G_13 8 v1.toNatClampNeg ((0 : Int32))) fun G_16 =>
 nmd (up2 G_16 10 0 (((G_16 10 0) + (1 : Int32)))) fun G_18 =>
 some (v1, G_18))))))
def SX0_become (G : St2) (O : St2) : Option (St2) :=
  nmd (upr G 0 (va_cpy (O 0) (G 0) 0 0 7)) fun G_1 =>
 nmd (upr G_1 1 (va_cpy (O 1) (G_1 1) 0 0 7)) fun G_3 =>
 nmd (upr G_3 2 (va_cpy (O 2) (G_3 2) 0 0 7)) fun G_5 =>
 nmd (upr G_5 3 (va_cpy (O 3) (G_5 3) 0 0 6)) fun G_7 =>
 nmd (upr G_7 4 (va_cpy (O 4) (G_7 4) 0 0 8)) fun G_9 =>
 nmd (upr G_9 5 (va_cpy (O 5) (G_9 5) 0 0 8)) fun G_11 =>
 nmd (upr G_11 6 (va_cpy (O 6) (G_11 6) 0 0 8)) fun G_13 =>
 nmd (upr G_13 7 (va_cpy (O 7) (G_13 7) 0 0 8)) fun G_15 =>
 nmd (upr G_15 8 (va_cpy (O 8) (G_15 8) 0 0 8)) fun G_17 =>
 nmd (upr G_17 9 (va_cpy (O 9) (G_17 9) 0 0 10)) fun G_19 =>
 nmd (up2 G_19 10 0 ((O 10 0))) fun G_21 =>
 nmd (up2 G_21 10 1 ((O 10 1))) fun G_23 =>
 nmd (up2 G_23 10 2 ((O 10 2))) fun G_25 =>
 nmd (up2 G_25 10 3 ((O 10 3))) fun G_27 =>
 nmd (up2 G_27 10 4 ((O 10 4))) fun G_29 =>
 nmd (up2 G_29 10 5 ((O 10 5))) fun G_31 =>
 nmd (up2 G_31 10 6 ((O 10 6))) fun G_33 =>
 some (G_33)
def BX0_learn_L1 (pl : Int32) (G : St2) (rec : Int32 → St2 → Option (St2)) (w2 : Int32) (Gw : St2) : Option (St2) :=
  (if (7 : Int32) ≤ w2 then
 some (Gw)
 else
 (if w2 = pl then
 ck w2 7 (
 ck w2 7 (
 nmd (up2 Gw 2 w2.toNatClampNeg ((imin ((99 : Int32)) (((Gw 2 w2.toNatClampNeg) + (6 : Int32)))))) fun G_11 =>
 nmd (w2 + (1 : Int32)) fun v13 =>
 rec v13 G_11))
 else
 ck w2 7 (
 ck w2 7 (
 nmd (up2 Gw 2 w2.toNatClampNeg ((imax ((0 : Int32)) (((Gw 2 w2.toNatClampNeg) - (1 : Int32)))))) fun G_5 =>
 nmd (w2 + (1 : Int32)) fun v7 =>
 rec v7 G_5))))
def SX0_learn_L1 (pl : Int32) (G : St2) : Nat → Int32 → St2 → Option (St2)
  | 0 => fun _ _ => none
  | nf + 1 => BX0_learn_L1 pl G (SX0_learn_L1 pl G nf)
def SX0_learn (pl : Int32) (G : St2) : Option (St2) :=
  SX0_learn_L1 pl G FU ((0 : Int32)) G
def BX0_restAllBut_L1 (j : Int32) (G : St2) (rec : Int32 → St2 → Option (St2)) (w2 : Int32) (Gw : St2) : Option (St2) :=
  (if (Gw 10 0) ≤ w2 then
 some (Gw)
 else
 (if w2 = j then
 nmd (w2 + (1 : Int32)) fun v3 =>
 rec v3 Gw
 else
 ck w2 8 (
 ck w2 8 (
 nmd (up2 Gw 6 w2.toNatClampNeg ((imax ((0 : Int32)) (((Gw 6 w2.toNatClampNeg) - (2 : Int32)))))) fun G_7 =>
 nmd (w2 + (1 : Int32)) fun v9 =>
 rec v9 G_7))))
def SX0_restAllBut_L1 (j : Int32) (G : St2) : Nat → Int32 → St2 → Option (St2)
  | 0 => fun _ _ => none
  | nf + 1 => BX0_restAllBut_L1 j G (SX0_restAllBut_L1 j G nf)
def SX0_restAllBut (j : Int32) (G : St2) : Option (St2) :=
  SX0_restAllBut_L1 j G FU ((0 : Int32)) G
def SX0_contest (j : Int32) (pl : Int32) (G : St2) : Option (St2) :=
  (SX0_wouldWin pl G).bind fun q1 =>
 (if q1 = 0 then
 ck j 8 (
 ck j 8 (
 nmd (up2 G 8 j.toNatClampNeg ((imin ((9999 : Int32)) (((G 8 j.toNatClampNeg) + (1 : Int32)))))) fun G_6 =>
 nmd (up2 G_6 10 5 ((imax ((0 : Int32)) (((G_6 10 5) - (3 : Int32)))))) fun G_8 =>
 some (G_8)))
 else
 (SX0_gainOf j pl G).bind fun q10 =>
 nmd (up2 G 10 5 ((imin ((99999 : Int32)) (((G 10 5) + q10))))) fun G_12 =>
 ck j 8 (
 ck j 8 (
 nmd (up2 G_12 7 j.toNatClampNeg ((imin ((9999 : Int32)) (((G_12 7 j.toNatClampNeg) + (1 : Int32)))))) fun G_16 =>
 some (G_16))))
def SX0_throwIn (G : St2) : Option (St2) :=
  (SX0_nextPlace G).bind fun q1 =>
 ck q1 7 (
 nmd ((G 0 q1.toNatClampNeg)) fun v4 =>
 (if v4 = (-1 : Int32) then
 nmd (up2 G 10 5 ((imax ((0 : Int32)) (((G 10 5) - (5 : Int32)))))) fun G_21 =>
 (SX0_restAllBut v4 G_21).bind fun q23 =>
 (SX0_learn q1 q23).bind fun q25 =>
 nmd (up2 q25 10 4 ((imin ((99999 : Int32)) (((q25 10 4) + (1 : Int32)))))) fun G_27 =>
 some (G_27)
 else
 (SX0_contest v4 q1 G).bind fun q7 =>
 ck v4 8 (
 (SX0_tiringOf v4 q7).bind fun q10 =>
 ck v4 8 (
 nmd (up2 q7 6 v4.toNatClampNeg ((imin ((99 : Int32)) (((q7 6 v4.toNatClampNeg) + q10))))) fun G_13 =>
 (SX0_restAllBut v4 G_13).bind fun q15 =>
 (SX0_learn q1 q15).bind fun q17 =>
 nmd (up2 q17 10 4 ((imin ((99999 : Int32)) (((q17 10 4) + (1 : Int32)))))) fun G_19 =>
 some (G_19)))))
def BX0_throwMany_L1 (n : Int32) (G : St2) (rec : Int32 → St2 → Option (Int32 × St2)) (w2 : Int32) (Gw : St2) : Option (Int32 × St2) :=
  (if n ≤ w2 then
 some ((Gw 10 5), Gw)
 else
 (SX0_throwIn Gw).bind fun q2 =>
 nmd (w2 + (1 : Int32)) fun v4 =>
 rec v4 q2)
def SX0_throwMany_L1 (n : Int32) (G : St2) : Nat → Int32 → St2 → Option (Int32 × St2)
  | 0 => fun _ _ => none
  | nf + 1 => BX0_throwMany_L1 n G (SX0_throwMany_L1 n G nf)
def SX0_throwMany (n : Int32) (G : St2) : Option (Int32 × St2) :=
  SX0_throwMany_L1 n G FU ((0 : Int32)) G
set_option maxHeartbeats 4000000 in
set_option maxRecDepth 100000 in
theorem cX0_draw_ok (l : Launch) (κ : KX) (a : Nat → Nat) (G : St2)  (q : Int32 × St2) (hS : SX0_draw G = some q) : MRw l yX0_draw cX0_draw 1 (some .int) { frames := 0, cells := 0, slots := 0, locals := 0 } κ (lnW κ a G) [.ref (a 0)] (some (.int q.1)) (lnW κ a q.2) := by
  unfold SX0_draw at hS
  refine enterRw (by decide) (Nat.le_of_ble_eq_true rfl) (fun p e s m below meth c A C hA hD => ?_)
  refine r_lv0 (lv' := [(0, .ref (a 0))]) rfl ?_
  refine r_aload_n C dX0_draw_0 rfl 0 rfl ?_
  refine r_aload_n C dX0_draw_1 rfl 0 rfl ?_
  refine r_get C fl_RX0_61 dX0_draw_2 0 rfl rfl ?_
  refine r_ldc C dX0_draw_5 (v := (1103515245 : Int32)) tw_28_1 ?_
  refine r_imul C dX0_draw_7 ?_
  refine r_sipush C dX0_draw_8 (v := (12345 : Int32)) (by decide) ?_
  refine r_iadd C dX0_draw_11 ?_
  obtain ⟨G_1, e2, hS⟩ := nmd_e hS
  refine r_put C fp_RX0_61 dX0_draw_12 (ws' := lnW κ a G_1) 0 rfl rfl rfl (Nat.le_of_ble_eq_true rfl) (hD.at rfl) (by subst e2; rfl) ?_
  refine r_aload_n C dX0_draw_15 rfl 0 rfl ?_
  refine r_get C fl_RX0_61 dX0_draw_16 0 rfl rfl ?_
  refine r_bipush C dX0_draw_19 (v := (8 : Int32)) (by decide) ?_
  refine r_iushr C dX0_draw_21 ?_
  obtain rfl := Option.some.inj hS
  exact r_iretRw C dX0_draw_22
set_option maxHeartbeats 4000000 in
set_option maxRecDepth 100000 in
theorem lpX0_leave_1 (l : Launch) (κ : KX) (a : Nat → Nat) (j : Int32) (G : St2)  (q : St2) {p : Program} {e : Env} {s : State} {m : MethodId} {args : Array Value} {below : List Frame} {meth : Method} {c : Code} {A : Nat → Prop} (C : CT p s m args meth c κ A (HRw A s) cX0_leave 3 RX0 none) (hA : ∀ q, s.heap.size ≤ q → A q) (hD : DA A ((lnW κ a G).map Prod.fst)) : ∀ (nf : Nat) (w2 : Int32) (Gw : St2), SX0_leave_L1 j G nf w2 Gw = some q → WW p l e { frames := 0, cells := 0, slots := 0, locals := 0 } s m args below meth c κ 3 (MQ below (QRw κ (none : Option Value) (lnW κ a q) A) args s 0 0 A) (HRw A s) (lnW κ a Gw) [(0, .ref (a 0)), (1, .int j), (2, .int w2)] 2 [] := by
  intro nf
  induction nf with
  | zero => intro w2 Gw hS; exact nomatch (show none = some q from hS)
  | succ nf ih =>
    intro w2 Gw hS
    have hS : BX0_leave_L1 j G (SX0_leave_L1 j G nf) w2 Gw = some q := hS
    unfold BX0_leave_L1 at hS
    refine r_iload_n C dX0_leave_2 rfl 2 rfl ?_
    refine r_bipush C dX0_leave_3 (v := (7 : Int32)) (by decide) ?_
    refine r_icmp_ge C dX0_leave_5 (tgt := 31) rfl (fun c1 => ?_) (fun c1 => ?_)
    · replace hS := gt c1 hS
      obtain rfl := Option.some.inj hS
      exact r_vretRw C dX0_leave_31
    · replace hS := gf c1 hS
      refine r_aload_n C dX0_leave_8 rfl 0 rfl ?_
      refine r_get C fl_RX0_9 dX0_leave_9 0 rfl rfl ?_
      refine r_iload_n C dX0_leave_12 rfl 2 rfl ?_
      obtain ⟨h2, hS⟩ := ck_e hS
      refine r_iald C dX0_leave_13 1 rfl h2 rfl ?_
      refine r_iload_n C dX0_leave_14 rfl 1 rfl ?_
      refine r_icmp_ne C dX0_leave_15 (tgt := 25) rfl (fun c3 => ?_) (fun c3 => ?_)
      · replace hS := gf c3 hS
        obtain ⟨v4, e5, hS⟩ := nmd_e hS
        refine r_iinc C dX0_leave_25 (v := v4) (lv' := [(2, .int v4), (0, .ref (a 0)), (1, .int j)]) 2 rfl (by rw [← e5]; rfl) (by decide) rfl ?_
        refine r_goto C dX0_leave_28 (tgt := 2) rfl ?_
        refine r_lvs [1, 2, 0] rfl ?_
        exact ih v4 Gw hS
      · replace hS := gt c3 hS
        refine r_aload_n C dX0_leave_18 rfl 0 rfl ?_
        refine r_get C fl_RX0_9 dX0_leave_19 0 rfl rfl ?_
        refine r_iload_n C dX0_leave_22 rfl 2 rfl ?_
        refine r_iconst C dX0_leave_23 (v := (-1 : Int32)) rfl ?_
        obtain ⟨h6, hS⟩ := ck_e hS
        obtain ⟨G_7, e8, hS⟩ := nmd_e hS
        refine r_iast C dX0_leave_24 (ws' := lnW κ a G_7) 1 rfl h6 rfl (hD.at rfl) (by subst e8; rfl) ?_
        obtain ⟨v9, e10, hS⟩ := nmd_e hS
        refine r_iinc C dX0_leave_25 (v := v9) (lv' := [(2, .int v9), (0, .ref (a 0)), (1, .int j)]) 2 rfl (by rw [← e10]; rfl) (by decide) rfl ?_
        refine r_goto C dX0_leave_28 (tgt := 2) rfl ?_
        refine r_lvs [1, 2, 0] rfl ?_
        exact ih v9 G_7 hS
set_option maxHeartbeats 4000000 in
set_option maxRecDepth 100000 in
theorem cX0_leave_ok (l : Launch) (κ : KX) (a : Nat → Nat) (j : Int32) (G : St2)  (q : St2) (hS : SX0_leave j G = some q) : MRw l yX0_leave cX0_leave 3 none { frames := 0, cells := 0, slots := 0, locals := 0 } κ (lnW κ a G) [.ref (a 0), .int j] (none : Option Value) (lnW κ a q) := by
  unfold SX0_leave at hS
  refine enterRw (by decide) (Nat.le_of_ble_eq_true rfl) (fun p e s m below meth c A C hA hD => ?_)
  refine r_lv0 (lv' := [(0, .ref (a 0)), (1, .int j)]) rfl ?_
  refine r_iconst C dX0_leave_0 (v := (0 : Int32)) rfl ?_
  refine r_istore_n C dX0_leave_1 rfl (lv' := [(2, .int ((0 : Int32))), (0, .ref (a 0)), (1, .int j)]) (by decide) rfl ?_
  refine r_lvs [1, 2, 0] rfl ?_
  exact lpX0_leave_1 l κ a j G  q C hA hD FU ((0 : Int32)) G hS
set_option maxHeartbeats 4000000 in
set_option maxRecDepth 100000 in
theorem cX0_swapInto_ok (l : Launch) (κ : KX) (a : Nat → Nat) (j : Int32) (pl : Int32) (G : St2)  (q : St2) (hS : SX0_swapInto j pl G = some q) : MRw l yX0_swapInto cX0_swapInto 5 none { frames := 1, cells := 0, slots := 0, locals := 22 } κ (lnW κ a G) [.ref (a 0), .int j, .int pl] (none : Option Value) (lnW κ a q) := by
  unfold SX0_swapInto at hS
  refine enterRw (by decide) (Nat.le_of_ble_eq_true rfl) (fun p e s m below meth c A C hA hD => ?_)
  refine r_lv0 (lv' := [(0, .ref (a 0)), (1, .int j), (2, .int pl)]) rfl ?_
  refine r_aload_n C dX0_swapInto_0 rfl 0 rfl ?_
  refine r_iload_n C dX0_swapInto_1 rfl 1 rfl ?_
  obtain ⟨q1, e2, hS⟩ := bd_e hS
  refine r_roV C dX0_swapInto_2 (rest := []) (st' := [.int q1]) vl_RX0_70 (cX0_whereIs_ok l κ a j G q1 e2) [0, 1, 2, 3, 4, 5, 6, 7, 8, 9, 10] rfl 0 rfl rfl ⟨rfl, rfl, Nat.le_of_ble_eq_true rfl, Nat.le_of_ble_eq_true rfl⟩ rfl rfl (Nat.le_of_ble_eq_true rfl) rfl ?_
  refine r_istore_n C dX0_swapInto_5 rfl (lv' := [(3, .int q1), (0, .ref (a 0)), (1, .int j), (2, .int pl)]) (by decide) rfl ?_
  refine r_aload_n C dX0_swapInto_6 rfl 1 rfl ?_
  refine r_get C fl_RX0_9 dX0_swapInto_7 0 rfl rfl ?_
  refine r_iload_n C dX0_swapInto_10 rfl 3 rfl ?_
  obtain ⟨h3, hS⟩ := ck_e hS
  refine r_iald C dX0_swapInto_11 1 rfl h3 rfl ?_
  obtain ⟨v4, e5, hS⟩ := nmd_e hS
  refine r_nmi e5 ?_
  refine r_istore C dX0_swapInto_12 (lv' := [(4, .int v4), (3, .int q1), (0, .ref (a 0)), (1, .int j), (2, .int pl)]) (by decide) rfl ?_
  refine r_iload_n C dX0_swapInto_14 rfl 1 rfl ?_
  refine r_if_lt C dX0_swapInto_15 (tgt := 26) rfl (fun c6 => ?_) (fun c6 => ?_)
  · replace hS := gt c6 hS
    refine r_aload_n C dX0_swapInto_26 rfl 2 rfl ?_
    refine r_get C fl_RX0_9 dX0_swapInto_27 0 rfl rfl ?_
    refine r_iload_n C dX0_swapInto_30 rfl 4 rfl ?_
    refine r_iload_n C dX0_swapInto_31 rfl 3 rfl ?_
    obtain ⟨h7, hS⟩ := ck_e hS
    obtain ⟨G_8, e9, hS⟩ := nmd_e hS
    refine r_iast C dX0_swapInto_32 (ws' := lnW κ a G_8) 1 rfl h7 rfl (hD.at rfl) (by subst e9; rfl) ?_
    obtain rfl := Option.some.inj hS
    exact r_vretRw C dX0_swapInto_33
  · replace hS := gf c6 hS
    refine r_aload_n C dX0_swapInto_18 rfl 2 rfl ?_
    refine r_get C fl_RX0_9 dX0_swapInto_19 0 rfl rfl ?_
    refine r_iload_n C dX0_swapInto_22 rfl 1 rfl ?_
    refine r_iload C dX0_swapInto_23 0 rfl ?_
    obtain ⟨h10, hS⟩ := ck_e hS
    obtain ⟨G_11, e12, hS⟩ := nmd_e hS
    refine r_iast C dX0_swapInto_25 (ws' := lnW κ a G_11) 1 rfl h10 rfl (hD.at rfl) (by subst e12; rfl) ?_
    refine r_aload_n C dX0_swapInto_26 rfl 2 rfl ?_
    refine r_get C fl_RX0_9 dX0_swapInto_27 0 rfl rfl ?_
    refine r_iload_n C dX0_swapInto_30 rfl 4 rfl ?_
    refine r_iload_n C dX0_swapInto_31 rfl 3 rfl ?_
    obtain ⟨h13, hS⟩ := ck_e hS
    obtain ⟨G_14, e15, hS⟩ := nmd_e hS
    refine r_iast C dX0_swapInto_32 (ws' := lnW κ a G_14) 1 rfl h13 rfl (hD.at rfl) (by subst e15; rfl) ?_
    obtain rfl := Option.some.inj hS
    exact r_vretRw C dX0_swapInto_33
set_option maxHeartbeats 4000000 in
set_option maxRecDepth 100000 in
theorem cX0_putSetting_ok (l : Launch) (κ : KX) (a : Nat → Nat) (wh : Int32) (v : Int32) (G : St2)  (q : Int32 × St2) (hS : SX0_putSetting wh v G = some q) : MRw l yX0_putSetting cX0_putSetting 4 (some .int) { frames := 0, cells := 0, slots := 0, locals := 0 } κ (lnW κ a G) [.ref (a 0), .int wh, .int v] (some (.int q.1)) (lnW κ a q.2) := by
  unfold SX0_putSetting at hS
  refine enterRw (by decide) (Nat.le_of_ble_eq_true rfl) (fun p e s m below meth c A C hA hD => ?_)
  refine r_lv0 (lv' := [(0, .ref (a 0)), (1, .int wh), (2, .int v)]) rfl ?_
  refine r_iload_n C dX0_putSetting_0 rfl 1 rfl ?_
  refine r_if_ne C dX0_putSetting_1 (tgt := 17) rfl (fun c1 => ?_) (fun c1 => ?_)
  · replace hS := gf c1 hS
    refine r_iload_n C dX0_putSetting_17 rfl 1 rfl ?_
    refine r_iconst C dX0_putSetting_18 (v := (1 : Int32)) rfl ?_
    refine r_icmp_ne C dX0_putSetting_19 (tgt := 35) rfl (fun c2 => ?_) (fun c2 => ?_)
    · replace hS := gf c2 hS
      refine r_aload_n C dX0_putSetting_35 rfl 0 rfl ?_
      refine r_get C fl_RX0_52 dX0_putSetting_36 0 rfl rfl ?_
      obtain ⟨v3, e4, hS⟩ := nmd_e hS
      refine r_nmi e4 ?_
      refine r_istore_n C dX0_putSetting_39 rfl (lv' := [(3, .int v3), (0, .ref (a 0)), (1, .int wh), (2, .int v)]) (by decide) rfl ?_
      refine r_aload_n C dX0_putSetting_40 rfl 1 rfl ?_
      refine r_iload_n C dX0_putSetting_41 rfl 3 rfl ?_
      obtain ⟨G_5, e6, hS⟩ := nmd_e hS
      refine r_put C fp_RX0_52 dX0_putSetting_42 (ws' := lnW κ a G_5) 0 rfl rfl rfl (Nat.le_of_ble_eq_true rfl) (hD.at rfl) (by subst e6; rfl) ?_
      refine r_iload_n C dX0_putSetting_45 rfl 0 rfl ?_
      obtain rfl := Option.some.inj hS
      exact r_iretRw C dX0_putSetting_46
    · replace hS := gt c2 hS
      refine r_aload_n C dX0_putSetting_22 rfl 0 rfl ?_
      refine r_get C fl_RX0_49 dX0_putSetting_23 0 rfl rfl ?_
      obtain ⟨v7, e8, hS⟩ := nmd_e hS
      refine r_nmi e8 ?_
      refine r_istore_n C dX0_putSetting_26 rfl (lv' := [(3, .int v7), (0, .ref (a 0)), (1, .int wh), (2, .int v)]) (by decide) rfl ?_
      refine r_aload_n C dX0_putSetting_27 rfl 1 rfl ?_
      refine r_iload_n C dX0_putSetting_28 rfl 3 rfl ?_
      obtain ⟨G_9, e10, hS⟩ := nmd_e hS
      refine r_put C fp_RX0_49 dX0_putSetting_29 (ws' := lnW κ a G_9) 0 rfl rfl rfl (Nat.le_of_ble_eq_true rfl) (hD.at rfl) (by subst e10; rfl) ?_
      refine r_goto C dX0_putSetting_32 (tgt := 45) rfl ?_
      refine r_iload_n C dX0_putSetting_45 rfl 0 rfl ?_
      obtain rfl := Option.some.inj hS
      exact r_iretRw C dX0_putSetting_46
  · replace hS := gt c1 hS
    refine r_aload_n C dX0_putSetting_4 rfl 0 rfl ?_
    refine r_get C fl_RX0_46 dX0_putSetting_5 0 rfl rfl ?_
    obtain ⟨v11, e12, hS⟩ := nmd_e hS
    refine r_nmi e12 ?_
    refine r_istore_n C dX0_putSetting_8 rfl (lv' := [(3, .int v11), (0, .ref (a 0)), (1, .int wh), (2, .int v)]) (by decide) rfl ?_
    refine r_aload_n C dX0_putSetting_9 rfl 1 rfl ?_
    refine r_iload_n C dX0_putSetting_10 rfl 3 rfl ?_
    obtain ⟨G_13, e14, hS⟩ := nmd_e hS
    refine r_put C fp_RX0_46 dX0_putSetting_11 (ws' := lnW κ a G_13) 0 rfl rfl rfl (Nat.le_of_ble_eq_true rfl) (hD.at rfl) (by subst e14; rfl) ?_
    refine r_goto C dX0_putSetting_14 (tgt := 45) rfl ?_
    refine r_iload_n C dX0_putSetting_45 rfl 0 rfl ?_
    obtain rfl := Option.some.inj hS
    exact r_iretRw C dX0_putSetting_46
set_option maxHeartbeats 4000000 in
set_option maxRecDepth 100000 in
theorem cX0_join_ok (l : Launch) (κ : KX) (a : Nat → Nat) (kd : Int32) (tl : Int32) (G : St2)  (q : Int32 × St2) (hS : SX0_join kd tl G = some q) : MRw l yX0_join cX0_join 4 (some .int) { frames := 0, cells := 0, slots := 0, locals := 0 } κ (lnW κ a G) [.ref (a 0), .int kd, .int tl] (some (.int q.1)) (lnW κ a q.2) := by
  unfold SX0_join at hS
  refine enterRw (by decide) (Nat.le_of_ble_eq_true rfl) (fun p e s m below meth c A C hA hD => ?_)
  refine r_lv0 (lv' := [(0, .ref (a 0)), (1, .int kd), (2, .int tl)]) rfl ?_
  refine r_aload_n C dX0_join_0 rfl 0 rfl ?_
  refine r_get C fl_RX0_42 dX0_join_1 0 rfl rfl ?_
  obtain ⟨v1, e2, hS⟩ := nmd_e hS
  refine r_nmi e2 ?_
  refine r_istore_n C dX0_join_4 rfl (lv' := [(3, .int v1), (0, .ref (a 0)), (1, .int kd), (2, .int tl)]) (by decide) rfl ?_
  refine r_aload_n C dX0_join_5 rfl 1 rfl ?_
  refine r_get C fl_RX0_24 dX0_join_6 0 rfl rfl ?_
  refine r_iload_n C dX0_join_9 rfl 0 rfl ?_
  refine r_iload_n C dX0_join_10 rfl 2 rfl ?_
  obtain ⟨h3, hS⟩ := ck_e hS
  obtain ⟨G_4, e5, hS⟩ := nmd_e hS
  refine r_iast C dX0_join_11 (ws' := lnW κ a G_4) 5 rfl h3 rfl (hD.at rfl) (by subst e5; rfl) ?_
  refine r_aload_n C dX0_join_12 rfl 1 rfl ?_
  refine r_get C fl_RX0_27 dX0_join_13 0 rfl rfl ?_
  refine r_iload_n C dX0_join_16 rfl 0 rfl ?_
  refine r_iload_n C dX0_join_17 rfl 3 rfl ?_
  obtain ⟨h6, hS⟩ := ck_e hS
  obtain ⟨G_7, e8, hS⟩ := nmd_e hS
  refine r_iast C dX0_join_18 (ws' := lnW κ a G_7) 6 rfl h6 rfl (hD.at rfl) (by subst e8; rfl) ?_
  refine r_aload_n C dX0_join_19 rfl 1 rfl ?_
  refine r_get C fl_RX0_30 dX0_join_20 0 rfl rfl ?_
  refine r_iload_n C dX0_join_23 rfl 0 rfl ?_
  refine r_iconst C dX0_join_24 (v := (0 : Int32)) rfl ?_
  obtain ⟨h9, hS⟩ := ck_e hS
  obtain ⟨G_10, e11, hS⟩ := nmd_e hS
  refine r_iast C dX0_join_25 (ws' := lnW κ a G_10) 7 rfl h9 rfl (hD.at rfl) (by subst e11; rfl) ?_
  refine r_aload_n C dX0_join_26 rfl 1 rfl ?_
  refine r_get C fl_RX0_33 dX0_join_27 0 rfl rfl ?_
  refine r_iload_n C dX0_join_30 rfl 0 rfl ?_
  refine r_iconst C dX0_join_31 (v := (0 : Int32)) rfl ?_
  obtain ⟨h12, hS⟩ := ck_e hS
  obtain ⟨G_13, e14, hS⟩ := nmd_e hS
  refine r_iast C dX0_join_32 (ws' := lnW κ a G_13) 8 rfl h12 rfl (hD.at rfl) (by subst e14; rfl) ?_
  refine r_aload_n C dX0_join_33 rfl 1 rfl ?_
  refine r_get C fl_RX0_36 dX0_join_34 0 rfl rfl ?_
  refine r_iload_n C dX0_join_37 rfl 0 rfl ?_
  refine r_iconst C dX0_join_38 (v := (0 : Int32)) rfl ?_
  obtain ⟨h15, hS⟩ := ck_e hS
  obtain ⟨G_16, e17, hS⟩ := nmd_e hS
  refine r_iast C dX0_join_39 (ws' := lnW κ a G_16) 9 rfl h15 rfl (hD.at rfl) (by subst e17; rfl) ?_
  refine r_aload_n C dX0_join_40 rfl 1 rfl ?_
  refine r_dup C dX0_join_41 rfl ?_
  refine r_get C fl_RX0_42 dX0_join_42 0 rfl rfl ?_
  refine r_iconst C dX0_join_45 (v := (1 : Int32)) rfl ?_
  refine r_iadd C dX0_join_46 ?_
  obtain ⟨G_18, e19, hS⟩ := nmd_e hS
  refine r_put C fp_RX0_42 dX0_join_47 (ws' := lnW κ a G_18) 0 rfl rfl rfl (Nat.le_of_ble_eq_true rfl) (hD.at rfl) (by subst e19; rfl) ?_
  refine r_iload_n C dX0_join_50 rfl 0 rfl ?_
  obtain rfl := Option.some.inj hS
  exact r_iretRw C dX0_join_51
set_option maxHeartbeats 4000000 in
set_option maxRecDepth 100000 in
theorem cX0_become_ok (l : Launch) (κ : KX) (a : Nat → Nat) (b : Nat → Nat) (G : St2) (O : St2)  (q : St2) (hS : SX0_become G O = some q) : MRw l yX0_become cX0_become 2 none { frames := 1, cells := 0, slots := 0, locals := 60 } κ (lnW κ a G ++ (lnW κ b O)) [.ref (a 0), .ref (b 0)] (none : Option Value) (lnW κ a q ++ (lnW κ b O)) := by
  unfold SX0_become at hS
  refine enterRw (by decide) (Nat.le_of_ble_eq_true rfl) (fun p e s m below meth c A C hA hD => ?_)
  refine r_lv0 (lv' := [(0, .ref (a 0)), (1, .ref (b 0))]) rfl ?_
  refine r_aload_n C dX0_become_0 rfl 1 rfl ?_
  refine r_get C fl_RX0_9 dX0_become_1 11 rfl rfl ?_
  refine r_iconst C dX0_become_4 (v := (0 : Int32)) rfl ?_
  refine r_aload_n C dX0_become_5 rfl 0 rfl ?_
  refine r_get C fl_RX0_9 dX0_become_6 0 rfl rfl ?_
  refine r_iconst C dX0_become_9 (v := (0 : Int32)) rfl ?_
  refine r_bipush C dX0_become_10 (v := (7 : Int32)) (by decide) ?_
  obtain ⟨G_1, e2, hS⟩ := nmd_e hS
  refine r_copy C dX0_become_12 (ws' := lnW κ a G_1 ++ (lnW κ b O)) tw_19_20 tw_19_21 tw_19_22 tw_19_23 12 1 rfl rfl (by decide) (by decide) (by decide) (by decide) (by decide) (Nat.le_of_ble_eq_true rfl) (Nat.le_of_ble_eq_true rfl) (hD.at rfl) (by subst e2; rfl) ?_
  refine r_aload_n C dX0_become_15 rfl 1 rfl ?_
  refine r_get C fl_RX0_15 dX0_become_16 11 rfl rfl ?_
  refine r_iconst C dX0_become_19 (v := (0 : Int32)) rfl ?_
  refine r_aload_n C dX0_become_20 rfl 0 rfl ?_
  refine r_get C fl_RX0_15 dX0_become_21 0 rfl rfl ?_
  refine r_iconst C dX0_become_24 (v := (0 : Int32)) rfl ?_
  refine r_bipush C dX0_become_25 (v := (7 : Int32)) (by decide) ?_
  obtain ⟨G_3, e4, hS⟩ := nmd_e hS
  refine r_copy C dX0_become_27 (ws' := lnW κ a G_3 ++ (lnW κ b O)) tw_19_20 tw_19_21 tw_19_22 tw_19_23 13 2 rfl rfl (by decide) (by decide) (by decide) (by decide) (by decide) (Nat.le_of_ble_eq_true rfl) (Nat.le_of_ble_eq_true rfl) (hD.at rfl) (by subst e4; rfl) ?_
  refine r_aload_n C dX0_become_30 rfl 1 rfl ?_
  refine r_get C fl_RX0_18 dX0_become_31 11 rfl rfl ?_
  refine r_iconst C dX0_become_34 (v := (0 : Int32)) rfl ?_
  refine r_aload_n C dX0_become_35 rfl 0 rfl ?_
  refine r_get C fl_RX0_18 dX0_become_36 0 rfl rfl ?_
  refine r_iconst C dX0_become_39 (v := (0 : Int32)) rfl ?_
  refine r_bipush C dX0_become_40 (v := (7 : Int32)) (by decide) ?_
  obtain ⟨G_5, e6, hS⟩ := nmd_e hS
  refine r_copy C dX0_become_42 (ws' := lnW κ a G_5 ++ (lnW κ b O)) tw_19_20 tw_19_21 tw_19_22 tw_19_23 14 3 rfl rfl (by decide) (by decide) (by decide) (by decide) (by decide) (Nat.le_of_ble_eq_true rfl) (Nat.le_of_ble_eq_true rfl) (hD.at rfl) (by subst e6; rfl) ?_
  refine r_aload_n C dX0_become_45 rfl 1 rfl ?_
  refine r_get C fl_RX0_21 dX0_become_46 11 rfl rfl ?_
  refine r_iconst C dX0_become_49 (v := (0 : Int32)) rfl ?_
  refine r_aload_n C dX0_become_50 rfl 0 rfl ?_
  refine r_get C fl_RX0_21 dX0_become_51 0 rfl rfl ?_
  refine r_iconst C dX0_become_54 (v := (0 : Int32)) rfl ?_
  refine r_bipush C dX0_become_55 (v := (6 : Int32)) (by decide) ?_
  obtain ⟨G_7, e8, hS⟩ := nmd_e hS
  refine r_copy C dX0_become_57 (ws' := lnW κ a G_7 ++ (lnW κ b O)) tw_19_20 tw_19_21 tw_19_22 tw_19_23 15 4 rfl rfl (by decide) (by decide) (by decide) (by decide) (by decide) (Nat.le_of_ble_eq_true rfl) (Nat.le_of_ble_eq_true rfl) (hD.at rfl) (by subst e8; rfl) ?_
  refine r_aload_n C dX0_become_60 rfl 1 rfl ?_
  refine r_get C fl_RX0_24 dX0_become_61 11 rfl rfl ?_
  refine r_iconst C dX0_become_64 (v := (0 : Int32)) rfl ?_
  refine r_aload_n C dX0_become_65 rfl 0 rfl ?_
  refine r_get C fl_RX0_24 dX0_become_66 0 rfl rfl ?_
  refine r_iconst C dX0_become_69 (v := (0 : Int32)) rfl ?_
  refine r_bipush C dX0_become_70 (v := (8 : Int32)) (by decide) ?_
  obtain ⟨G_9, e10, hS⟩ := nmd_e hS
  refine r_copy C dX0_become_72 (ws' := lnW κ a G_9 ++ (lnW κ b O)) tw_19_20 tw_19_21 tw_19_22 tw_19_23 16 5 rfl rfl (by decide) (by decide) (by decide) (by decide) (by decide) (Nat.le_of_ble_eq_true rfl) (Nat.le_of_ble_eq_true rfl) (hD.at rfl) (by subst e10; rfl) ?_
  refine r_aload_n C dX0_become_75 rfl 1 rfl ?_
  refine r_get C fl_RX0_27 dX0_become_76 11 rfl rfl ?_
  refine r_iconst C dX0_become_79 (v := (0 : Int32)) rfl ?_
  refine r_aload_n C dX0_become_80 rfl 0 rfl ?_
  refine r_get C fl_RX0_27 dX0_become_81 0 rfl rfl ?_
  refine r_iconst C dX0_become_84 (v := (0 : Int32)) rfl ?_
  refine r_bipush C dX0_become_85 (v := (8 : Int32)) (by decide) ?_
  obtain ⟨G_11, e12, hS⟩ := nmd_e hS
  refine r_copy C dX0_become_87 (ws' := lnW κ a G_11 ++ (lnW κ b O)) tw_19_20 tw_19_21 tw_19_22 tw_19_23 17 6 rfl rfl (by decide) (by decide) (by decide) (by decide) (by decide) (Nat.le_of_ble_eq_true rfl) (Nat.le_of_ble_eq_true rfl) (hD.at rfl) (by subst e12; rfl) ?_
  refine r_aload_n C dX0_become_90 rfl 1 rfl ?_
  refine r_get C fl_RX0_30 dX0_become_91 11 rfl rfl ?_
  refine r_iconst C dX0_become_94 (v := (0 : Int32)) rfl ?_
  refine r_aload_n C dX0_become_95 rfl 0 rfl ?_
  refine r_get C fl_RX0_30 dX0_become_96 0 rfl rfl ?_
  refine r_iconst C dX0_become_99 (v := (0 : Int32)) rfl ?_
  refine r_bipush C dX0_become_100 (v := (8 : Int32)) (by decide) ?_
  obtain ⟨G_13, e14, hS⟩ := nmd_e hS
  refine r_copy C dX0_become_102 (ws' := lnW κ a G_13 ++ (lnW κ b O)) tw_19_20 tw_19_21 tw_19_22 tw_19_23 18 7 rfl rfl (by decide) (by decide) (by decide) (by decide) (by decide) (Nat.le_of_ble_eq_true rfl) (Nat.le_of_ble_eq_true rfl) (hD.at rfl) (by subst e14; rfl) ?_
  refine r_aload_n C dX0_become_105 rfl 1 rfl ?_
  refine r_get C fl_RX0_33 dX0_become_106 11 rfl rfl ?_
  refine r_iconst C dX0_become_109 (v := (0 : Int32)) rfl ?_
  refine r_aload_n C dX0_become_110 rfl 0 rfl ?_
  refine r_get C fl_RX0_33 dX0_become_111 0 rfl rfl ?_
  refine r_iconst C dX0_become_114 (v := (0 : Int32)) rfl ?_
  refine r_bipush C dX0_become_115 (v := (8 : Int32)) (by decide) ?_
  obtain ⟨G_15, e16, hS⟩ := nmd_e hS
  refine r_copy C dX0_become_117 (ws' := lnW κ a G_15 ++ (lnW κ b O)) tw_19_20 tw_19_21 tw_19_22 tw_19_23 19 8 rfl rfl (by decide) (by decide) (by decide) (by decide) (by decide) (Nat.le_of_ble_eq_true rfl) (Nat.le_of_ble_eq_true rfl) (hD.at rfl) (by subst e16; rfl) ?_
  refine r_aload_n C dX0_become_120 rfl 1 rfl ?_
  refine r_get C fl_RX0_36 dX0_become_121 11 rfl rfl ?_
  refine r_iconst C dX0_become_124 (v := (0 : Int32)) rfl ?_
  refine r_aload_n C dX0_become_125 rfl 0 rfl ?_
  refine r_get C fl_RX0_36 dX0_become_126 0 rfl rfl ?_
  refine r_iconst C dX0_become_129 (v := (0 : Int32)) rfl ?_
  refine r_bipush C dX0_become_130 (v := (8 : Int32)) (by decide) ?_
  obtain ⟨G_17, e18, hS⟩ := nmd_e hS
  refine r_copy C dX0_become_132 (ws' := lnW κ a G_17 ++ (lnW κ b O)) tw_19_20 tw_19_21 tw_19_22 tw_19_23 20 9 rfl rfl (by decide) (by decide) (by decide) (by decide) (by decide) (Nat.le_of_ble_eq_true rfl) (Nat.le_of_ble_eq_true rfl) (hD.at rfl) (by subst e18; rfl) ?_
  refine r_aload_n C dX0_become_135 rfl 1 rfl ?_
  refine r_get C fl_RX0_39 dX0_become_136 11 rfl rfl ?_
  refine r_iconst C dX0_become_139 (v := (0 : Int32)) rfl ?_
  refine r_aload_n C dX0_become_140 rfl 0 rfl ?_
  refine r_get C fl_RX0_39 dX0_become_141 0 rfl rfl ?_
  refine r_iconst C dX0_become_144 (v := (0 : Int32)) rfl ?_
  refine r_bipush C dX0_become_145 (v := (10 : Int32)) (by decide) ?_
  obtain ⟨G_19, e20, hS⟩ := nmd_e hS
  refine r_copy C dX0_become_147 (ws' := lnW κ a G_19 ++ (lnW κ b O)) tw_19_20 tw_19_21 tw_19_22 tw_19_23 21 10 rfl rfl (by decide) (by decide) (by decide) (by decide) (by decide) (Nat.le_of_ble_eq_true rfl) (Nat.le_of_ble_eq_true rfl) (hD.at rfl) (by subst e20; rfl) ?_
  refine r_aload_n C dX0_become_150 rfl 0 rfl ?_
  refine r_aload_n C dX0_become_151 rfl 1 rfl ?_
  refine r_get C fl_RX0_42 dX0_become_152 11 rfl rfl ?_
  obtain ⟨G_21, e22, hS⟩ := nmd_e hS
  refine r_put C fp_RX0_42 dX0_become_155 (ws' := lnW κ a G_21 ++ (lnW κ b O)) 0 rfl rfl rfl (Nat.le_of_ble_eq_true rfl) (hD.at rfl) (by subst e22; rfl) ?_
  refine r_aload_n C dX0_become_158 rfl 0 rfl ?_
  refine r_aload_n C dX0_become_159 rfl 1 rfl ?_
  refine r_get C fl_RX0_46 dX0_become_160 11 rfl rfl ?_
  obtain ⟨G_23, e24, hS⟩ := nmd_e hS
  refine r_put C fp_RX0_46 dX0_become_163 (ws' := lnW κ a G_23 ++ (lnW κ b O)) 0 rfl rfl rfl (Nat.le_of_ble_eq_true rfl) (hD.at rfl) (by subst e24; rfl) ?_
  refine r_aload_n C dX0_become_166 rfl 0 rfl ?_
  refine r_aload_n C dX0_become_167 rfl 1 rfl ?_
  refine r_get C fl_RX0_49 dX0_become_168 11 rfl rfl ?_
  obtain ⟨G_25, e26, hS⟩ := nmd_e hS
  refine r_put C fp_RX0_49 dX0_become_171 (ws' := lnW κ a G_25 ++ (lnW κ b O)) 0 rfl rfl rfl (Nat.le_of_ble_eq_true rfl) (hD.at rfl) (by subst e26; rfl) ?_
  refine r_aload_n C dX0_become_174 rfl 0 rfl ?_
  refine r_aload_n C dX0_become_175 rfl 1 rfl ?_
  refine r_get C fl_RX0_52 dX0_become_176 11 rfl rfl ?_
  obtain ⟨G_27, e28, hS⟩ := nmd_e hS
  refine r_put C fp_RX0_52 dX0_become_179 (ws' := lnW κ a G_27 ++ (lnW κ b O)) 0 rfl rfl rfl (Nat.le_of_ble_eq_true rfl) (hD.at rfl) (by subst e28; rfl) ?_
  refine r_aload_n C dX0_become_182 rfl 0 rfl ?_
  refine r_aload_n C dX0_become_183 rfl 1 rfl ?_
  refine r_get C fl_RX0_55 dX0_become_184 11 rfl rfl ?_
  obtain ⟨G_29, e30, hS⟩ := nmd_e hS
  refine r_put C fp_RX0_55 dX0_become_187 (ws' := lnW κ a G_29 ++ (lnW κ b O)) 0 rfl rfl rfl (Nat.le_of_ble_eq_true rfl) (hD.at rfl) (by subst e30; rfl) ?_
  refine r_aload_n C dX0_become_190 rfl 0 rfl ?_
  refine r_aload_n C dX0_become_191 rfl 1 rfl ?_
  refine r_get C fl_RX0_58 dX0_become_192 11 rfl rfl ?_
  obtain ⟨G_31, e32, hS⟩ := nmd_e hS
  refine r_put C fp_RX0_58 dX0_become_195 (ws' := lnW κ a G_31 ++ (lnW κ b O)) 0 rfl rfl rfl (Nat.le_of_ble_eq_true rfl) (hD.at rfl) (by subst e32; rfl) ?_
  refine r_aload_n C dX0_become_198 rfl 0 rfl ?_
  refine r_aload_n C dX0_become_199 rfl 1 rfl ?_
  refine r_get C fl_RX0_61 dX0_become_200 11 rfl rfl ?_
  obtain ⟨G_33, e34, hS⟩ := nmd_e hS
  refine r_put C fp_RX0_61 dX0_become_203 (ws' := lnW κ a G_33 ++ (lnW κ b O)) 0 rfl rfl rfl (Nat.le_of_ble_eq_true rfl) (hD.at rfl) (by subst e34; rfl) ?_
  obtain rfl := Option.some.inj hS
  exact r_vretRw C dX0_become_206
set_option maxHeartbeats 4000000 in
set_option maxRecDepth 100000 in
theorem lpX0_learn_1 (l : Launch) (κ : KX) (a : Nat → Nat) (pl : Int32) (G : St2)  (q : St2) {p : Program} {e : Env} {s : State} {m : MethodId} {args : Array Value} {below : List Frame} {meth : Method} {c : Code} {A : Nat → Prop} (C : CT p s m args meth c κ A (HRw A s) cX0_learn 3 RX0 none) (hA : ∀ q, s.heap.size ≤ q → A q) (hD : DA A ((lnW κ a G).map Prod.fst)) : ∀ (nf : Nat) (w2 : Int32) (Gw : St2), SX0_learn_L1 pl G nf w2 Gw = some q → WW p l e { frames := 1, cells := 0, slots := 0, locals := 21 } s m args below meth c κ 3 (MQ below (QRw κ (none : Option Value) (lnW κ a q) A) args s 0 0 A) (HRw A s) (lnW κ a Gw) [(0, .ref (a 0)), (1, .int pl), (2, .int w2)] 2 [] := by
  intro nf
  induction nf with
  | zero => intro w2 Gw hS; exact nomatch (show none = some q from hS)
  | succ nf ih =>
    intro w2 Gw hS
    have hS : BX0_learn_L1 pl G (SX0_learn_L1 pl G nf) w2 Gw = some q := hS
    unfold BX0_learn_L1 at hS
    refine r_iload_n C dX0_learn_2 rfl 2 rfl ?_
    refine r_bipush C dX0_learn_3 (v := (7 : Int32)) (by decide) ?_
    refine r_icmp_ge C dX0_learn_5 (tgt := 54) rfl (fun c1 => ?_) (fun c1 => ?_)
    · replace hS := gt c1 hS
      obtain rfl := Option.some.inj hS
      exact r_vretRw C dX0_learn_54
    · replace hS := gf c1 hS
      refine r_aload_n C dX0_learn_8 rfl 0 rfl ?_
      refine r_get C fl_RX0_18 dX0_learn_9 0 rfl rfl ?_
      refine r_iload_n C dX0_learn_12 rfl 2 rfl ?_
      refine r_iload_n C dX0_learn_13 rfl 2 rfl ?_
      refine r_iload_n C dX0_learn_14 rfl 1 rfl ?_
      refine r_icmp_ne C dX0_learn_15 (tgt := 35) rfl (fun c2 => ?_) (fun c2 => ?_)
      · replace hS := gf c2 hS
        refine r_iconst C dX0_learn_35 (v := (0 : Int32)) rfl ?_
        refine r_aload_n C dX0_learn_36 rfl 0 rfl ?_
        refine r_get C fl_RX0_18 dX0_learn_37 0 rfl rfl ?_
        refine r_iload_n C dX0_learn_40 rfl 2 rfl ?_
        obtain ⟨h3, hS⟩ := ck_e hS
        refine r_iald C dX0_learn_41 3 rfl h3 rfl ?_
        refine r_iconst C dX0_learn_42 (v := (1 : Int32)) rfl ?_
        refine r_isub C dX0_learn_43 ?_
        refine r_max C dX0_learn_44 tw_12_5 tw_12_6 tw_12_7 tw_12_8 (Nat.le_of_ble_eq_true rfl) (Nat.le_of_ble_eq_true rfl) ?_
        obtain ⟨h4, hS⟩ := ck_e hS
        obtain ⟨G_5, e6, hS⟩ := nmd_e hS
        refine r_iast C dX0_learn_47 (ws' := lnW κ a G_5) 3 rfl h4 rfl (hD.at rfl) (by subst e6; rfl) ?_
        obtain ⟨v7, e8, hS⟩ := nmd_e hS
        refine r_iinc C dX0_learn_48 (v := v7) (lv' := [(2, .int v7), (0, .ref (a 0)), (1, .int pl)]) 2 rfl (by rw [← e8]; rfl) (by decide) rfl ?_
        refine r_goto C dX0_learn_51 (tgt := 2) rfl ?_
        refine r_lvs [1, 2, 0] rfl ?_
        exact ih v7 G_5 hS
      · replace hS := gt c2 hS
        refine r_bipush C dX0_learn_18 (v := (99 : Int32)) (by decide) ?_
        refine r_aload_n C dX0_learn_20 rfl 0 rfl ?_
        refine r_get C fl_RX0_18 dX0_learn_21 0 rfl rfl ?_
        refine r_iload_n C dX0_learn_24 rfl 2 rfl ?_
        obtain ⟨h9, hS⟩ := ck_e hS
        refine r_iald C dX0_learn_25 3 rfl h9 rfl ?_
        refine r_bipush C dX0_learn_26 (v := (6 : Int32)) (by decide) ?_
        refine r_iadd C dX0_learn_28 ?_
        refine r_min C dX0_learn_29 tw_15_10 tw_15_11 tw_12_7 tw_15_12 (Nat.le_of_ble_eq_true rfl) (Nat.le_of_ble_eq_true rfl) ?_
        refine r_goto C dX0_learn_32 (tgt := 47) rfl ?_
        obtain ⟨h10, hS⟩ := ck_e hS
        obtain ⟨G_11, e12, hS⟩ := nmd_e hS
        refine r_iast C dX0_learn_47 (ws' := lnW κ a G_11) 3 rfl h10 rfl (hD.at rfl) (by subst e12; rfl) ?_
        obtain ⟨v13, e14, hS⟩ := nmd_e hS
        refine r_iinc C dX0_learn_48 (v := v13) (lv' := [(2, .int v13), (0, .ref (a 0)), (1, .int pl)]) 2 rfl (by rw [← e14]; rfl) (by decide) rfl ?_
        refine r_goto C dX0_learn_51 (tgt := 2) rfl ?_
        refine r_lvs [1, 2, 0] rfl ?_
        exact ih v13 G_11 hS
set_option maxHeartbeats 4000000 in
set_option maxRecDepth 100000 in
theorem cX0_learn_ok (l : Launch) (κ : KX) (a : Nat → Nat) (pl : Int32) (G : St2)  (q : St2) (hS : SX0_learn pl G = some q) : MRw l yX0_learn cX0_learn 3 none { frames := 1, cells := 0, slots := 0, locals := 21 } κ (lnW κ a G) [.ref (a 0), .int pl] (none : Option Value) (lnW κ a q) := by
  unfold SX0_learn at hS
  refine enterRw (by decide) (Nat.le_of_ble_eq_true rfl) (fun p e s m below meth c A C hA hD => ?_)
  refine r_lv0 (lv' := [(0, .ref (a 0)), (1, .int pl)]) rfl ?_
  refine r_iconst C dX0_learn_0 (v := (0 : Int32)) rfl ?_
  refine r_istore_n C dX0_learn_1 rfl (lv' := [(2, .int ((0 : Int32))), (0, .ref (a 0)), (1, .int pl)]) (by decide) rfl ?_
  refine r_lvs [1, 2, 0] rfl ?_
  exact lpX0_learn_1 l κ a pl G  q C hA hD FU ((0 : Int32)) G hS
set_option maxHeartbeats 4000000 in
set_option maxRecDepth 100000 in
theorem lpX0_restAllBut_1 (l : Launch) (κ : KX) (a : Nat → Nat) (j : Int32) (G : St2)  (q : St2) {p : Program} {e : Env} {s : State} {m : MethodId} {args : Array Value} {below : List Frame} {meth : Method} {c : Code} {A : Nat → Prop} (C : CT p s m args meth c κ A (HRw A s) cX0_restAllBut 3 RX0 none) (hA : ∀ q, s.heap.size ≤ q → A q) (hD : DA A ((lnW κ a G).map Prod.fst)) : ∀ (nf : Nat) (w2 : Int32) (Gw : St2), SX0_restAllBut_L1 j G nf w2 Gw = some q → WW p l e { frames := 1, cells := 0, slots := 0, locals := 21 } s m args below meth c κ 3 (MQ below (QRw κ (none : Option Value) (lnW κ a q) A) args s 0 0 A) (HRw A s) (lnW κ a Gw) [(0, .ref (a 0)), (1, .int j), (2, .int w2)] 2 [] := by
  intro nf
  induction nf with
  | zero => intro w2 Gw hS; exact nomatch (show none = some q from hS)
  | succ nf ih =>
    intro w2 Gw hS
    have hS : BX0_restAllBut_L1 j G (SX0_restAllBut_L1 j G nf) w2 Gw = some q := hS
    unfold BX0_restAllBut_L1 at hS
    refine r_iload_n C dX0_restAllBut_2 rfl 2 rfl ?_
    refine r_aload_n C dX0_restAllBut_3 rfl 0 rfl ?_
    refine r_get C fl_RX0_42 dX0_restAllBut_4 0 rfl rfl ?_
    refine r_icmp_ge C dX0_restAllBut_7 (tgt := 39) rfl (fun c1 => ?_) (fun c1 => ?_)
    · replace hS := gt c1 hS
      obtain rfl := Option.some.inj hS
      exact r_vretRw C dX0_restAllBut_39
    · replace hS := gf c1 hS
      refine r_iload_n C dX0_restAllBut_10 rfl 2 rfl ?_
      refine r_iload_n C dX0_restAllBut_11 rfl 1 rfl ?_
      refine r_icmp_eq C dX0_restAllBut_12 (tgt := 33) rfl (fun c2 => ?_) (fun c2 => ?_)
      · replace hS := gt c2 hS
        obtain ⟨v3, e4, hS⟩ := nmd_e hS
        refine r_iinc C dX0_restAllBut_33 (v := v3) (lv' := [(2, .int v3), (0, .ref (a 0)), (1, .int j)]) 2 rfl (by rw [← e4]; rfl) (by decide) rfl ?_
        refine r_goto C dX0_restAllBut_36 (tgt := 2) rfl ?_
        refine r_lvs [1, 2, 0] rfl ?_
        exact ih v3 Gw hS
      · replace hS := gf c2 hS
        refine r_aload_n C dX0_restAllBut_15 rfl 0 rfl ?_
        refine r_get C fl_RX0_30 dX0_restAllBut_16 0 rfl rfl ?_
        refine r_iload_n C dX0_restAllBut_19 rfl 2 rfl ?_
        refine r_iconst C dX0_restAllBut_20 (v := (0 : Int32)) rfl ?_
        refine r_aload_n C dX0_restAllBut_21 rfl 0 rfl ?_
        refine r_get C fl_RX0_30 dX0_restAllBut_22 0 rfl rfl ?_
        refine r_iload_n C dX0_restAllBut_25 rfl 2 rfl ?_
        obtain ⟨h5, hS⟩ := ck_e hS
        refine r_iald C dX0_restAllBut_26 7 rfl h5 rfl ?_
        refine r_iconst C dX0_restAllBut_27 (v := (2 : Int32)) rfl ?_
        refine r_isub C dX0_restAllBut_28 ?_
        refine r_max C dX0_restAllBut_29 tw_12_5 tw_12_6 tw_12_7 tw_12_8 (Nat.le_of_ble_eq_true rfl) (Nat.le_of_ble_eq_true rfl) ?_
        obtain ⟨h6, hS⟩ := ck_e hS
        obtain ⟨G_7, e8, hS⟩ := nmd_e hS
        refine r_iast C dX0_restAllBut_32 (ws' := lnW κ a G_7) 7 rfl h6 rfl (hD.at rfl) (by subst e8; rfl) ?_
        obtain ⟨v9, e10, hS⟩ := nmd_e hS
        refine r_iinc C dX0_restAllBut_33 (v := v9) (lv' := [(2, .int v9), (0, .ref (a 0)), (1, .int j)]) 2 rfl (by rw [← e10]; rfl) (by decide) rfl ?_
        refine r_goto C dX0_restAllBut_36 (tgt := 2) rfl ?_
        refine r_lvs [1, 2, 0] rfl ?_
        exact ih v9 G_7 hS
set_option maxHeartbeats 4000000 in
set_option maxRecDepth 100000 in
theorem cX0_restAllBut_ok (l : Launch) (κ : KX) (a : Nat → Nat) (j : Int32) (G : St2)  (q : St2) (hS : SX0_restAllBut j G = some q) : MRw l yX0_restAllBut cX0_restAllBut 3 none { frames := 1, cells := 0, slots := 0, locals := 21 } κ (lnW κ a G) [.ref (a 0), .int j] (none : Option Value) (lnW κ a q) := by
  unfold SX0_restAllBut at hS
  refine enterRw (by decide) (Nat.le_of_ble_eq_true rfl) (fun p e s m below meth c A C hA hD => ?_)
  refine r_lv0 (lv' := [(0, .ref (a 0)), (1, .int j)]) rfl ?_
  refine r_iconst C dX0_restAllBut_0 (v := (0 : Int32)) rfl ?_
  refine r_istore_n C dX0_restAllBut_1 rfl (lv' := [(2, .int ((0 : Int32))), (0, .ref (a 0)), (1, .int j)]) (by decide) rfl ?_
  refine r_lvs [1, 2, 0] rfl ?_
  exact lpX0_restAllBut_1 l κ a j G  q C hA hD FU ((0 : Int32)) G hS
set_option maxHeartbeats 4000000 in
set_option maxRecDepth 100000 in
theorem cX0_contest_ok (l : Launch) (κ : KX) (a : Nat → Nat) (j : Int32) (pl : Int32) (G : St2)  (q : St2) (hS : SX0_contest j pl G = some q) : MRw l yX0_contest cX0_contest 3 none { frames := 3, cells := 0, slots := 0, locals := 65 } κ (lnW κ a G) [.ref (a 0), .int j, .int pl] (none : Option Value) (lnW κ a q) := by
  unfold SX0_contest at hS
  refine enterRw (by decide) (Nat.le_of_ble_eq_true rfl) (fun p e s m below meth c A C hA hD => ?_)
  refine r_lv0 (lv' := [(0, .ref (a 0)), (1, .int j), (2, .int pl)]) rfl ?_
  refine r_aload_n C dX0_contest_0 rfl 0 rfl ?_
  refine r_iload_n C dX0_contest_1 rfl 2 rfl ?_
  obtain ⟨q1, e2, hS⟩ := bd_e hS
  refine r_roV C dX0_contest_2 (rest := []) (st' := [.int q1]) vl_RX0_86 (cX0_wouldWin_ok l κ a pl G q1 e2) [0, 1, 2, 3, 4, 5, 6, 7, 8, 9, 10] rfl 0 rfl rfl ⟨rfl, rfl, Nat.le_of_ble_eq_true rfl, Nat.le_of_ble_eq_true rfl⟩ rfl rfl (Nat.le_of_ble_eq_true rfl) rfl ?_
  refine r_if_eq C dX0_contest_5 (tgt := 51) rfl (fun c3 => ?_) (fun c3 => ?_)
  · replace hS := gt c3 hS
    refine r_aload_n C dX0_contest_51 rfl 0 rfl ?_
    refine r_get C fl_RX0_36 dX0_contest_52 0 rfl rfl ?_
    refine r_iload_n C dX0_contest_55 rfl 1 rfl ?_
    refine r_sipush C dX0_contest_56 (v := (9999 : Int32)) (by decide) ?_
    refine r_aload_n C dX0_contest_59 rfl 0 rfl ?_
    refine r_get C fl_RX0_36 dX0_contest_60 0 rfl rfl ?_
    refine r_iload_n C dX0_contest_63 rfl 1 rfl ?_
    obtain ⟨h4, hS⟩ := ck_e hS
    refine r_iald C dX0_contest_64 9 rfl h4 rfl ?_
    refine r_iconst C dX0_contest_65 (v := (1 : Int32)) rfl ?_
    refine r_iadd C dX0_contest_66 ?_
    refine r_min C dX0_contest_67 tw_15_10 tw_15_11 tw_12_7 tw_15_12 (Nat.le_of_ble_eq_true rfl) (Nat.le_of_ble_eq_true rfl) ?_
    obtain ⟨h5, hS⟩ := ck_e hS
    obtain ⟨G_6, e7, hS⟩ := nmd_e hS
    refine r_iast C dX0_contest_70 (ws' := lnW κ a G_6) 9 rfl h5 rfl (hD.at rfl) (by subst e7; rfl) ?_
    refine r_aload_n C dX0_contest_71 rfl 0 rfl ?_
    refine r_iconst C dX0_contest_72 (v := (0 : Int32)) rfl ?_
    refine r_aload_n C dX0_contest_73 rfl 0 rfl ?_
    refine r_get C fl_RX0_58 dX0_contest_74 0 rfl rfl ?_
    refine r_iconst C dX0_contest_77 (v := (3 : Int32)) rfl ?_
    refine r_isub C dX0_contest_78 ?_
    refine r_max C dX0_contest_79 tw_12_5 tw_12_6 tw_12_7 tw_12_8 (Nat.le_of_ble_eq_true rfl) (Nat.le_of_ble_eq_true rfl) ?_
    obtain ⟨G_8, e9, hS⟩ := nmd_e hS
    refine r_put C fp_RX0_58 dX0_contest_82 (ws' := lnW κ a G_8) 0 rfl rfl rfl (Nat.le_of_ble_eq_true rfl) (hD.at rfl) (by subst e9; rfl) ?_
    obtain rfl := Option.some.inj hS
    exact r_vretRw C dX0_contest_85
  · replace hS := gf c3 hS
    refine r_aload_n C dX0_contest_8 rfl 0 rfl ?_
    refine r_ldc C dX0_contest_9 (v := (99999 : Int32)) tw_15_13 ?_
    refine r_aload_n C dX0_contest_11 rfl 0 rfl ?_
    refine r_get C fl_RX0_58 dX0_contest_12 0 rfl rfl ?_
    refine r_aload_n C dX0_contest_15 rfl 0 rfl ?_
    refine r_iload_n C dX0_contest_16 rfl 1 rfl ?_
    refine r_iload_n C dX0_contest_17 rfl 2 rfl ?_
    obtain ⟨q10, e11, hS⟩ := bd_e hS
    refine r_roV C dX0_contest_18 (rest := [.int ((G 10 5)), .int ((99999 : Int32)), .ref (a 0)]) (st' := [.int q10, .int ((G 10 5)), .int ((99999 : Int32)), .ref (a 0)]) vl_RX0_122 (cX0_gainOf_ok l κ a j pl G q10 e11) [0, 1, 2, 3, 4, 5, 6, 7, 8, 9, 10] rfl 0 rfl rfl ⟨rfl, rfl, Nat.le_of_ble_eq_true rfl, Nat.le_of_ble_eq_true rfl⟩ rfl rfl (Nat.le_of_ble_eq_true rfl) rfl ?_
    refine r_iadd C dX0_contest_21 ?_
    refine r_min C dX0_contest_22 tw_15_10 tw_15_11 tw_12_7 tw_15_12 (Nat.le_of_ble_eq_true rfl) (Nat.le_of_ble_eq_true rfl) ?_
    obtain ⟨G_12, e13, hS⟩ := nmd_e hS
    refine r_put C fp_RX0_58 dX0_contest_25 (ws' := lnW κ a G_12) 0 rfl rfl rfl (Nat.le_of_ble_eq_true rfl) (hD.at rfl) (by subst e13; rfl) ?_
    refine r_aload_n C dX0_contest_28 rfl 0 rfl ?_
    refine r_get C fl_RX0_33 dX0_contest_29 0 rfl rfl ?_
    refine r_iload_n C dX0_contest_32 rfl 1 rfl ?_
    refine r_sipush C dX0_contest_33 (v := (9999 : Int32)) (by decide) ?_
    refine r_aload_n C dX0_contest_36 rfl 0 rfl ?_
    refine r_get C fl_RX0_33 dX0_contest_37 0 rfl rfl ?_
    refine r_iload_n C dX0_contest_40 rfl 1 rfl ?_
    obtain ⟨h14, hS⟩ := ck_e hS
    refine r_iald C dX0_contest_41 8 rfl h14 rfl ?_
    refine r_iconst C dX0_contest_42 (v := (1 : Int32)) rfl ?_
    refine r_iadd C dX0_contest_43 ?_
    refine r_min C dX0_contest_44 tw_15_10 tw_15_11 tw_12_7 tw_15_12 (Nat.le_of_ble_eq_true rfl) (Nat.le_of_ble_eq_true rfl) ?_
    obtain ⟨h15, hS⟩ := ck_e hS
    obtain ⟨G_16, e17, hS⟩ := nmd_e hS
    refine r_iast C dX0_contest_47 (ws' := lnW κ a G_16) 8 rfl h15 rfl (hD.at rfl) (by subst e17; rfl) ?_
    refine r_goto C dX0_contest_48 (tgt := 85) rfl ?_
    obtain rfl := Option.some.inj hS
    exact r_vretRw C dX0_contest_85
set_option maxHeartbeats 4000000 in
set_option maxRecDepth 100000 in
theorem cX0_throwIn_ok (l : Launch) (κ : KX) (a : Nat → Nat) (G : St2)  (q : St2) (hS : SX0_throwIn G = some q) : MRw l yX0_throwIn cX0_throwIn 3 none { frames := 4, cells := 0, slots := 0, locals := 87 } κ (lnW κ a G) [.ref (a 0)] (none : Option Value) (lnW κ a q) := by
  unfold SX0_throwIn at hS
  refine enterRw (by decide) (Nat.le_of_ble_eq_true rfl) (fun p e s m below meth c A C hA hD => ?_)
  refine r_lv0 (lv' := [(0, .ref (a 0))]) rfl ?_
  refine r_aload_n C dX0_throwIn_0 rfl 0 rfl ?_
  obtain ⟨q1, e2, hS⟩ := bd_e hS
  refine r_roV C dX0_throwIn_1 (rest := []) (st' := [.int q1]) vl_RX0_101 (cX0_nextPlace_ok l κ a G q1 e2) [0, 1, 2, 3, 4, 5, 6, 7, 8, 9, 10] rfl 0 rfl rfl ⟨rfl, rfl, Nat.le_of_ble_eq_true rfl, Nat.le_of_ble_eq_true rfl⟩ rfl rfl (Nat.le_of_ble_eq_true rfl) rfl ?_
  refine r_istore_n C dX0_throwIn_4 rfl (lv' := [(1, .int q1), (0, .ref (a 0))]) (by decide) rfl ?_
  refine r_aload_n C dX0_throwIn_5 rfl 1 rfl ?_
  refine r_get C fl_RX0_9 dX0_throwIn_6 0 rfl rfl ?_
  refine r_iload_n C dX0_throwIn_9 rfl 0 rfl ?_
  obtain ⟨h3, hS⟩ := ck_e hS
  refine r_iald C dX0_throwIn_10 1 rfl h3 rfl ?_
  obtain ⟨v4, e5, hS⟩ := nmd_e hS
  refine r_nmi e5 ?_
  refine r_istore_n C dX0_throwIn_11 rfl (lv' := [(2, .int v4), (1, .int q1), (0, .ref (a 0))]) (by decide) rfl ?_
  refine r_iload_n C dX0_throwIn_12 rfl 0 rfl ?_
  refine r_iconst C dX0_throwIn_13 (v := (-1 : Int32)) rfl ?_
  refine r_icmp_ne C dX0_throwIn_14 (tgt := 34) rfl (fun c6 => ?_) (fun c6 => ?_)
  · replace hS := gf c6 hS
    refine r_aload_n C dX0_throwIn_34 rfl 2 rfl ?_
    refine r_iload_n C dX0_throwIn_35 rfl 0 rfl ?_
    refine r_iload_n C dX0_throwIn_36 rfl 1 rfl ?_
    obtain ⟨q7, e8, hS⟩ := bd_e hS
    refine r_rwV C hA dX0_throwIn_37 (rest := []) (st' := []) (ws' := lnW κ a q7) vl_RX0_104 (cX0_contest_ok l κ a v4 q1 G q7 e8) [0, 1, 2, 3, 4, 5, 6, 7, 8, 9, 10] rfl rfl rfl 0 rfl rfl ⟨rfl, rfl, Nat.le_of_ble_eq_true rfl, Nat.le_of_ble_eq_true rfl⟩ rfl rfl (Nat.le_of_ble_eq_true rfl) (hD.at rfl) rfl rfl ?_
    refine r_aload_n C dX0_throwIn_40 rfl 2 rfl ?_
    refine r_get C fl_RX0_30 dX0_throwIn_41 0 rfl rfl ?_
    refine r_iload_n C dX0_throwIn_44 rfl 0 rfl ?_
    refine r_bipush C dX0_throwIn_45 (v := (99 : Int32)) (by decide) ?_
    refine r_aload_n C dX0_throwIn_47 rfl 2 rfl ?_
    refine r_get C fl_RX0_30 dX0_throwIn_48 0 rfl rfl ?_
    refine r_iload_n C dX0_throwIn_51 rfl 0 rfl ?_
    obtain ⟨h9, hS⟩ := ck_e hS
    refine r_iald C dX0_throwIn_52 7 rfl h9 rfl ?_
    refine r_aload_n C dX0_throwIn_53 rfl 2 rfl ?_
    refine r_iload_n C dX0_throwIn_54 rfl 0 rfl ?_
    obtain ⟨q10, e11, hS⟩ := bd_e hS
    refine r_roV C dX0_throwIn_55 (rest := [.int ((q7 6 v4.toNatClampNeg)), .int ((99 : Int32)), .int v4, .ref (a 7)]) (st' := [.int q10, .int ((q7 6 v4.toNatClampNeg)), .int ((99 : Int32)), .int v4, .ref (a 7)]) vl_RX0_108 (cX0_tiringOf_ok l κ a v4 q7 q10 e11) [0, 1, 2, 3, 4, 5, 6, 7, 8, 9, 10] rfl 0 rfl rfl ⟨rfl, rfl, Nat.le_of_ble_eq_true rfl, Nat.le_of_ble_eq_true rfl⟩ rfl rfl (Nat.le_of_ble_eq_true rfl) rfl ?_
    refine r_iadd C dX0_throwIn_58 ?_
    refine r_min C dX0_throwIn_59 tw_15_10 tw_15_11 tw_12_7 tw_15_12 (Nat.le_of_ble_eq_true rfl) (Nat.le_of_ble_eq_true rfl) ?_
    obtain ⟨h12, hS⟩ := ck_e hS
    obtain ⟨G_13, e14, hS⟩ := nmd_e hS
    refine r_iast C dX0_throwIn_62 (ws' := lnW κ a G_13) 7 rfl h12 rfl (hD.at rfl) (by subst e14; rfl) ?_
    refine r_aload_n C dX0_throwIn_63 rfl 2 rfl ?_
    refine r_iload_n C dX0_throwIn_64 rfl 0 rfl ?_
    obtain ⟨q15, e16, hS⟩ := bd_e hS
    refine r_rwV C hA dX0_throwIn_65 (rest := []) (st' := []) (ws' := lnW κ a q15) vl_RX0_114 (cX0_restAllBut_ok l κ a v4 G_13 q15 e16) [0, 1, 2, 3, 4, 5, 6, 7, 8, 9, 10] rfl rfl rfl 0 rfl rfl ⟨rfl, rfl, Nat.le_of_ble_eq_true rfl, Nat.le_of_ble_eq_true rfl⟩ rfl rfl (Nat.le_of_ble_eq_true rfl) (hD.at rfl) rfl rfl ?_
    refine r_aload_n C dX0_throwIn_68 rfl 2 rfl ?_
    refine r_iload_n C dX0_throwIn_69 rfl 1 rfl ?_
    obtain ⟨q17, e18, hS⟩ := bd_e hS
    refine r_rwV C hA dX0_throwIn_70 (rest := []) (st' := []) (ws' := lnW κ a q17) vl_RX0_118 (cX0_learn_ok l κ a q1 q15 q17 e18) [0, 1, 2, 3, 4, 5, 6, 7, 8, 9, 10] rfl rfl rfl 0 rfl rfl ⟨rfl, rfl, Nat.le_of_ble_eq_true rfl, Nat.le_of_ble_eq_true rfl⟩ rfl rfl (Nat.le_of_ble_eq_true rfl) (hD.at rfl) rfl rfl ?_
    refine r_aload_n C dX0_throwIn_73 rfl 2 rfl ?_
    refine r_ldc C dX0_throwIn_74 (v := (99999 : Int32)) tw_15_13 ?_
    refine r_aload_n C dX0_throwIn_76 rfl 2 rfl ?_
    refine r_get C fl_RX0_55 dX0_throwIn_77 0 rfl rfl ?_
    refine r_iconst C dX0_throwIn_80 (v := (1 : Int32)) rfl ?_
    refine r_iadd C dX0_throwIn_81 ?_
    refine r_min C dX0_throwIn_82 tw_15_10 tw_15_11 tw_12_7 tw_15_12 (Nat.le_of_ble_eq_true rfl) (Nat.le_of_ble_eq_true rfl) ?_
    obtain ⟨G_19, e20, hS⟩ := nmd_e hS
    refine r_put C fp_RX0_55 dX0_throwIn_85 (ws' := lnW κ a G_19) 0 rfl rfl rfl (Nat.le_of_ble_eq_true rfl) (hD.at rfl) (by subst e20; rfl) ?_
    obtain rfl := Option.some.inj hS
    exact r_vretRw C dX0_throwIn_88
  · replace hS := gt c6 hS
    refine r_aload_n C dX0_throwIn_17 rfl 2 rfl ?_
    refine r_iconst C dX0_throwIn_18 (v := (0 : Int32)) rfl ?_
    refine r_aload_n C dX0_throwIn_19 rfl 2 rfl ?_
    refine r_get C fl_RX0_58 dX0_throwIn_20 0 rfl rfl ?_
    refine r_iconst C dX0_throwIn_23 (v := (5 : Int32)) rfl ?_
    refine r_isub C dX0_throwIn_24 ?_
    refine r_max C dX0_throwIn_25 tw_12_5 tw_12_6 tw_12_7 tw_12_8 (Nat.le_of_ble_eq_true rfl) (Nat.le_of_ble_eq_true rfl) ?_
    obtain ⟨G_21, e22, hS⟩ := nmd_e hS
    refine r_put C fp_RX0_58 dX0_throwIn_28 (ws' := lnW κ a G_21) 0 rfl rfl rfl (Nat.le_of_ble_eq_true rfl) (hD.at rfl) (by subst e22; rfl) ?_
    refine r_goto C dX0_throwIn_31 (tgt := 63) rfl ?_
    refine r_aload_n C dX0_throwIn_63 rfl 2 rfl ?_
    refine r_iload_n C dX0_throwIn_64 rfl 0 rfl ?_
    obtain ⟨q23, e24, hS⟩ := bd_e hS
    refine r_rwV C hA dX0_throwIn_65 (rest := []) (st' := []) (ws' := lnW κ a q23) vl_RX0_114 (cX0_restAllBut_ok l κ a v4 G_21 q23 e24) [0, 1, 2, 3, 4, 5, 6, 7, 8, 9, 10] rfl rfl rfl 0 rfl rfl ⟨rfl, rfl, Nat.le_of_ble_eq_true rfl, Nat.le_of_ble_eq_true rfl⟩ rfl rfl (Nat.le_of_ble_eq_true rfl) (hD.at rfl) rfl rfl ?_
    refine r_aload_n C dX0_throwIn_68 rfl 2 rfl ?_
    refine r_iload_n C dX0_throwIn_69 rfl 1 rfl ?_
    obtain ⟨q25, e26, hS⟩ := bd_e hS
    refine r_rwV C hA dX0_throwIn_70 (rest := []) (st' := []) (ws' := lnW κ a q25) vl_RX0_118 (cX0_learn_ok l κ a q1 q23 q25 e26) [0, 1, 2, 3, 4, 5, 6, 7, 8, 9, 10] rfl rfl rfl 0 rfl rfl ⟨rfl, rfl, Nat.le_of_ble_eq_true rfl, Nat.le_of_ble_eq_true rfl⟩ rfl rfl (Nat.le_of_ble_eq_true rfl) (hD.at rfl) rfl rfl ?_
    refine r_aload_n C dX0_throwIn_73 rfl 2 rfl ?_
    refine r_ldc C dX0_throwIn_74 (v := (99999 : Int32)) tw_15_13 ?_
    refine r_aload_n C dX0_throwIn_76 rfl 2 rfl ?_
    refine r_get C fl_RX0_55 dX0_throwIn_77 0 rfl rfl ?_
    refine r_iconst C dX0_throwIn_80 (v := (1 : Int32)) rfl ?_
    refine r_iadd C dX0_throwIn_81 ?_
    refine r_min C dX0_throwIn_82 tw_15_10 tw_15_11 tw_12_7 tw_15_12 (Nat.le_of_ble_eq_true rfl) (Nat.le_of_ble_eq_true rfl) ?_
    obtain ⟨G_27, e28, hS⟩ := nmd_e hS
    refine r_put C fp_RX0_55 dX0_throwIn_85 (ws' := lnW κ a G_27) 0 rfl rfl rfl (Nat.le_of_ble_eq_true rfl) (hD.at rfl) (by subst e28; rfl) ?_
    obtain rfl := Option.some.inj hS
    exact r_vretRw C dX0_throwIn_88
set_option maxHeartbeats 4000000 in
set_option maxRecDepth 100000 in
theorem lpX0_throwMany_1 (l : Launch) (κ : KX) (a : Nat → Nat) (n : Int32) (G : St2)  (q : Int32 × St2) {p : Program} {e : Env} {s : State} {m : MethodId} {args : Array Value} {below : List Frame} {meth : Method} {c : Code} {A : Nat → Prop} (C : CT p s m args meth c κ A (HRw A s) cX0_throwMany 3 RX0 (some .int)) (hA : ∀ q, s.heap.size ≤ q → A q) (hD : DA A ((lnW κ a G).map Prod.fst)) : ∀ (nf : Nat) (w2 : Int32) (Gw : St2), SX0_throwMany_L1 n G nf w2 Gw = some q → WW p l e { frames := 5, cells := 0, slots := 0, locals := 109 } s m args below meth c κ 3 (MQ below (QRw κ (some (.int q.1)) (lnW κ a q.2) A) args s 0 0 A) (HRw A s) (lnW κ a Gw) [(0, .ref (a 0)), (1, .int n), (2, .int w2)] 2 [] := by
  intro nf
  induction nf with
  | zero => intro w2 Gw hS; exact nomatch (show none = some q from hS)
  | succ nf ih =>
    intro w2 Gw hS
    have hS : BX0_throwMany_L1 n G (SX0_throwMany_L1 n G nf) w2 Gw = some q := hS
    unfold BX0_throwMany_L1 at hS
    refine r_iload_n C dX0_throwMany_2 rfl 2 rfl ?_
    refine r_iload_n C dX0_throwMany_3 rfl 1 rfl ?_
    refine r_icmp_ge C dX0_throwMany_4 (tgt := 17) rfl (fun c1 => ?_) (fun c1 => ?_)
    · replace hS := gt c1 hS
      refine r_aload_n C dX0_throwMany_17 rfl 0 rfl ?_
      refine r_get C fl_RX0_58 dX0_throwMany_18 0 rfl rfl ?_
      obtain rfl := Option.some.inj hS
      exact r_iretRw C dX0_throwMany_21
    · replace hS := gf c1 hS
      refine r_aload_n C dX0_throwMany_7 rfl 0 rfl ?_
      obtain ⟨q2, e3, hS⟩ := bd_e hS
      refine r_rwV C hA dX0_throwMany_8 (rest := []) (st' := []) (ws' := lnW κ a q2) vl_RX0_98 (cX0_throwIn_ok l κ a Gw q2 e3) [0, 1, 2, 3, 4, 5, 6, 7, 8, 9, 10] rfl rfl rfl 0 rfl rfl ⟨rfl, rfl, Nat.le_of_ble_eq_true rfl, Nat.le_of_ble_eq_true rfl⟩ rfl rfl (Nat.le_of_ble_eq_true rfl) (hD.at rfl) rfl rfl ?_
      obtain ⟨v4, e5, hS⟩ := nmd_e hS
      refine r_iinc C dX0_throwMany_11 (v := v4) (lv' := [(2, .int v4), (0, .ref (a 0)), (1, .int n)]) 2 rfl (by rw [← e5]; rfl) (by decide) rfl ?_
      refine r_goto C dX0_throwMany_14 (tgt := 2) rfl ?_
      refine r_lvs [1, 2, 0] rfl ?_
      exact ih v4 q2 hS
set_option maxHeartbeats 4000000 in
set_option maxRecDepth 100000 in
theorem cX0_throwMany_ok (l : Launch) (κ : KX) (a : Nat → Nat) (n : Int32) (G : St2)  (q : Int32 × St2) (hS : SX0_throwMany n G = some q) : MRw l yX0_throwMany cX0_throwMany 3 (some .int) { frames := 5, cells := 0, slots := 0, locals := 109 } κ (lnW κ a G) [.ref (a 0), .int n] (some (.int q.1)) (lnW κ a q.2) := by
  unfold SX0_throwMany at hS
  refine enterRw (by decide) (Nat.le_of_ble_eq_true rfl) (fun p e s m below meth c A C hA hD => ?_)
  refine r_lv0 (lv' := [(0, .ref (a 0)), (1, .int n)]) rfl ?_
  refine r_iconst C dX0_throwMany_0 (v := (0 : Int32)) rfl ?_
  refine r_istore_n C dX0_throwMany_1 rfl (lv' := [(2, .int ((0 : Int32))), (0, .ref (a 0)), (1, .int n)]) (by decide) rfl ?_
  refine r_lvs [1, 2, 0] rfl ?_
  exact lpX0_throwMany_1 l κ a n G  q C hA hD FU ((0 : Int32)) G hS
end
