section
/-- a private method of a class that the tables say can be made, by its rows of tables_1 -/
def lw_okq (q : MethodName × Nat) : Prop := (q.1.cls ≠ "java/lang/invoke/MethodHandle" ∧ q.1.cls ≠ "java/lang/invoke/VarHandle") ∧ Cond.instantiable q.1.cls q.2 ∈ tables_1 ∧ Cond.privateMethod q.1 ∈ tables_1 ∧ Cond.instanceMethod q.1 ∈ tables_1
theorem lw_p0 : lw_okq (⟨"MuleRoad", "trainAt", "(I)LMuleRoad$Train;"⟩, 13) := ⟨⟨by decide +kernel, by decide +kernel⟩, List.mem_of_getElem? (i := 23) (by decide +kernel), List.mem_of_getElem? (i := 446) (by decide +kernel), List.mem_of_getElem? (i := 447) (by decide +kernel)⟩
theorem lw_p1 : lw_okq (⟨"MuleRoad", "packAt", "(I)LMuleRoad$Pack;"⟩, 13) := ⟨⟨by decide +kernel, by decide +kernel⟩, List.mem_of_getElem? (i := 23) (by decide +kernel), List.mem_of_getElem? (i := 450) (by decide +kernel), List.mem_of_getElem? (i := 451) (by decide +kernel)⟩
theorem lw_p2 : lw_okq (⟨"MuleRoad", "payFor", "(LMuleRoad$Pack;)I"⟩, 13) := ⟨⟨by decide +kernel, by decide +kernel⟩, List.mem_of_getElem? (i := 23) (by decide +kernel), List.mem_of_getElem? (i := 482) (by decide +kernel), List.mem_of_getElem? (i := 483) (by decide +kernel)⟩
theorem lw_p3 : lw_okq (⟨"MuleRoad", "bargainIn", "(I)I"⟩, 13) := ⟨⟨by decide +kernel, by decide +kernel⟩, List.mem_of_getElem? (i := 23) (by decide +kernel), List.mem_of_getElem? (i := 486) (by decide +kernel), List.mem_of_getElem? (i := 487) (by decide +kernel)⟩
theorem lw_p4 : lw_okq (⟨"MuleRoad$Bargain", "holdAll", "(IILMuleRoad$Pack;I)Z"⟩, 8) := ⟨⟨by decide +kernel, by decide +kernel⟩, List.mem_of_getElem? (i := 201) (by decide +kernel), List.mem_of_getElem? (i := 494) (by decide +kernel), List.mem_of_getElem? (i := 495) (by decide +kernel)⟩
theorem lw_p5 : lw_okq (⟨"MuleRoad", "isTaken", "(I)Z"⟩, 13) := ⟨⟨by decide +kernel, by decide +kernel⟩, List.mem_of_getElem? (i := 23) (by decide +kernel), List.mem_of_getElem? (i := 528) (by decide +kernel), List.mem_of_getElem? (i := 529) (by decide +kernel)⟩
theorem lw_p6 : lw_okq (⟨"MuleRoad", "passHour", "()V"⟩, 13) := ⟨⟨by decide +kernel, by decide +kernel⟩, List.mem_of_getElem? (i := 23) (by decide +kernel), List.mem_of_getElem? (i := 544) (by decide +kernel), List.mem_of_getElem? (i := 545) (by decide +kernel)⟩
theorem lw_p7 : lw_okq (⟨"MuleRoad", "holdPacks", "(I)V"⟩, 13) := ⟨⟨by decide +kernel, by decide +kernel⟩, List.mem_of_getElem? (i := 23) (by decide +kernel), List.mem_of_getElem? (i := 552) (by decide +kernel), List.mem_of_getElem? (i := 553) (by decide +kernel)⟩
theorem lw_p8 : lw_okq (⟨"MuleRoad", "innOf", "(LMuleRoad$Pack;)I"⟩, 13) := ⟨⟨by decide +kernel, by decide +kernel⟩, List.mem_of_getElem? (i := 23) (by decide +kernel), List.mem_of_getElem? (i := 556) (by decide +kernel), List.mem_of_getElem? (i := 557) (by decide +kernel)⟩
theorem lw_p9 : lw_okq (⟨"MuleRoad$Train", "arrive", "()V"⟩, 6) := ⟨⟨by decide +kernel, by decide +kernel⟩, List.mem_of_getElem? (i := 291) (by decide +kernel), List.mem_of_getElem? (i := 586) (by decide +kernel), List.mem_of_getElem? (i := 587) (by decide +kernel)⟩
theorem lw_p10 : lw_okq (⟨"MuleRoad", "findBest", "(II)Z"⟩, 13) := ⟨⟨by decide +kernel, by decide +kernel⟩, List.mem_of_getElem? (i := 23) (by decide +kernel), List.mem_of_getElem? (i := 594) (by decide +kernel), List.mem_of_getElem? (i := 595) (by decide +kernel)⟩
theorem lw_p11 : lw_okq (⟨"MuleRoad$BestLoad", "isHopeless", "(IIII)Z"⟩, 9) := ⟨⟨by decide +kernel, by decide +kernel⟩, List.mem_of_getElem? (i := 167) (by decide +kernel), List.mem_of_getElem? (i := 613) (by decide +kernel), List.mem_of_getElem? (i := 614) (by decide +kernel)⟩
theorem lw_p12 : lw_okq (⟨"MuleRoad$BestLoad", "keep", "(II)V"⟩, 9) := ⟨⟨by decide +kernel, by decide +kernel⟩, List.mem_of_getElem? (i := 167) (by decide +kernel), List.mem_of_getElem? (i := 619) (by decide +kernel), List.mem_of_getElem? (i := 620) (by decide +kernel)⟩
theorem lw_p13 : lw_okq (⟨"MuleRoad$Tape", "addByte", "(I)V"⟩, 2) := ⟨⟨by decide +kernel, by decide +kernel⟩, List.mem_of_getElem? (i := 94) (by decide +kernel), List.mem_of_getElem? (i := 639) (by decide +kernel), List.mem_of_getElem? (i := 640) (by decide +kernel)⟩
theorem lw_p14 : lw_okq (⟨"MuleRoad$Tokens", "cutToken", "()I"⟩, 7) := ⟨⟨by decide +kernel, by decide +kernel⟩, List.mem_of_getElem? (i := 115) (by decide +kernel), List.mem_of_getElem? (i := 663) (by decide +kernel), List.mem_of_getElem? (i := 664) (by decide +kernel)⟩
theorem lw_p15 : lw_okq (⟨"MuleRoad$Tokens", "add", "(II)I"⟩, 7) := ⟨⟨by decide +kernel, by decide +kernel⟩, List.mem_of_getElem? (i := 115) (by decide +kernel), List.mem_of_getElem? (i := 674) (by decide +kernel), List.mem_of_getElem? (i := 675) (by decide +kernel)⟩
def lw_privs_1 : List (MethodName × Nat) := [(⟨"MuleRoad", "trainAt", "(I)LMuleRoad$Train;"⟩, 13), (⟨"MuleRoad", "packAt", "(I)LMuleRoad$Pack;"⟩, 13), (⟨"MuleRoad", "payFor", "(LMuleRoad$Pack;)I"⟩, 13), (⟨"MuleRoad", "bargainIn", "(I)I"⟩, 13), (⟨"MuleRoad$Bargain", "holdAll", "(IILMuleRoad$Pack;I)Z"⟩, 8), (⟨"MuleRoad", "isTaken", "(I)Z"⟩, 13), (⟨"MuleRoad", "passHour", "()V"⟩, 13), (⟨"MuleRoad", "holdPacks", "(I)V"⟩, 13), (⟨"MuleRoad", "innOf", "(LMuleRoad$Pack;)I"⟩, 13), (⟨"MuleRoad$Train", "arrive", "()V"⟩, 6), (⟨"MuleRoad", "findBest", "(II)Z"⟩, 13), (⟨"MuleRoad$BestLoad", "isHopeless", "(IIII)Z"⟩, 9), (⟨"MuleRoad$BestLoad", "keep", "(II)V"⟩, 9), (⟨"MuleRoad$Tape", "addByte", "(I)V"⟩, 2), (⟨"MuleRoad$Tokens", "cutToken", "()I"⟩, 7), (⟨"MuleRoad$Tokens", "add", "(II)I"⟩, 7)]
theorem lw_r1 : ∀ q ∈ lw_privs_1, lw_okq q := List.forall_mem_cons.mpr ⟨lw_p0, List.forall_mem_cons.mpr ⟨lw_p1, List.forall_mem_cons.mpr ⟨lw_p2, List.forall_mem_cons.mpr ⟨lw_p3, List.forall_mem_cons.mpr ⟨lw_p4, List.forall_mem_cons.mpr ⟨lw_p5, List.forall_mem_cons.mpr ⟨lw_p6, List.forall_mem_cons.mpr ⟨lw_p7, List.forall_mem_cons.mpr ⟨lw_p8, List.forall_mem_cons.mpr ⟨lw_p9, List.forall_mem_cons.mpr ⟨lw_p10, List.forall_mem_cons.mpr ⟨lw_p11, List.forall_mem_cons.mpr ⟨lw_p12, List.forall_mem_cons.mpr ⟨lw_p13, List.forall_mem_cons.mpr ⟨lw_p14, List.forall_mem_cons.mpr ⟨lw_p15, fun _ h => absurd h List.not_mem_nil⟩⟩⟩⟩⟩⟩⟩⟩⟩⟩⟩⟩⟩⟩⟩⟩
theorem lw_p16 : lw_okq (⟨"MuleRoad$Tokens", "cutWord", "()I"⟩, 7) := ⟨⟨by decide +kernel, by decide +kernel⟩, List.mem_of_getElem? (i := 115) (by decide +kernel), List.mem_of_getElem? (i := 681) (by decide +kernel), List.mem_of_getElem? (i := 682) (by decide +kernel)⟩
theorem lw_p17 : lw_okq (⟨"MuleRoad$Tokens", "spells", "(Ljava/lang/String;)Z"⟩, 7) := ⟨⟨by decide +kernel, by decide +kernel⟩, List.mem_of_getElem? (i := 115) (by decide +kernel), List.mem_of_getElem? (i := 686) (by decide +kernel), List.mem_of_getElem? (i := 687) (by decide +kernel)⟩
theorem lw_p18 : lw_okq (⟨"MuleRoad$Tokens", "kindSpelt", "()I"⟩, 7) := ⟨⟨by decide +kernel, by decide +kernel⟩, List.mem_of_getElem? (i := 115) (by decide +kernel), List.mem_of_getElem? (i := 738) (by decide +kernel), List.mem_of_getElem? (i := 739) (by decide +kernel)⟩
theorem lw_p19 : lw_okq (⟨"MuleRoad$Tokens", "measureSpelt", "()I"⟩, 7) := ⟨⟨by decide +kernel, by decide +kernel⟩, List.mem_of_getElem? (i := 115) (by decide +kernel), List.mem_of_getElem? (i := 746) (by decide +kernel), List.mem_of_getElem? (i := 747) (by decide +kernel)⟩
theorem lw_p20 : lw_okq (⟨"MuleRoad$Tokens", "cutNumber", "()I"⟩, 7) := ⟨⟨by decide +kernel, by decide +kernel⟩, List.mem_of_getElem? (i := 115) (by decide +kernel), List.mem_of_getElem? (i := 756) (by decide +kernel), List.mem_of_getElem? (i := 757) (by decide +kernel)⟩
theorem lw_p21 : lw_okq (⟨"MuleRoad$Parser", "moveTo", "(I)V"⟩, 6) := ⟨⟨by decide +kernel, by decide +kernel⟩, List.mem_of_getElem? (i := 109) (by decide +kernel), List.mem_of_getElem? (i := 763) (by decide +kernel), List.mem_of_getElem? (i := 764) (by decide +kernel)⟩
theorem lw_p22 : lw_okq (⟨"MuleRoad$Parser", "isTermAhead", "()Z"⟩, 6) := ⟨⟨by decide +kernel, by decide +kernel⟩, List.mem_of_getElem? (i := 109) (by decide +kernel), List.mem_of_getElem? (i := 767) (by decide +kernel), List.mem_of_getElem? (i := 768) (by decide +kernel)⟩
theorem lw_p23 : lw_okq (⟨"MuleRoad$Parser", "fail", "(I)Z"⟩, 6) := ⟨⟨by decide +kernel, by decide +kernel⟩, List.mem_of_getElem? (i := 109) (by decide +kernel), List.mem_of_getElem? (i := 771) (by decide +kernel), List.mem_of_getElem? (i := 772) (by decide +kernel)⟩
theorem lw_p24 : lw_okq (⟨"MuleRoad$Parser", "readRule", "(LMuleRoad$Bargain;)Z"⟩, 6) := ⟨⟨by decide +kernel, by decide +kernel⟩, List.mem_of_getElem? (i := 109) (by decide +kernel), List.mem_of_getElem? (i := 775) (by decide +kernel), List.mem_of_getElem? (i := 776) (by decide +kernel)⟩
theorem lw_p25 : lw_okq (⟨"MuleRoad$Parser", "readTerms", "(LMuleRoad$Bargain;)Z"⟩, 6) := ⟨⟨by decide +kernel, by decide +kernel⟩, List.mem_of_getElem? (i := 109) (by decide +kernel), List.mem_of_getElem? (i := 779) (by decide +kernel), List.mem_of_getElem? (i := 780) (by decide +kernel)⟩
theorem lw_p26 : lw_okq (⟨"MuleRoad$Parser", "readTerm", "(LMuleRoad$Bargain;)Z"⟩, 6) := ⟨⟨by decide +kernel, by decide +kernel⟩, List.mem_of_getElem? (i := 109) (by decide +kernel), List.mem_of_getElem? (i := 783) (by decide +kernel), List.mem_of_getElem? (i := 784) (by decide +kernel)⟩
theorem lw_p27 : lw_okq (⟨"MuleRoad$Parser", "take", "(I)Z"⟩, 6) := ⟨⟨by decide +kernel, by decide +kernel⟩, List.mem_of_getElem? (i := 109) (by decide +kernel), List.mem_of_getElem? (i := 791) (by decide +kernel), List.mem_of_getElem? (i := 792) (by decide +kernel)⟩
theorem lw_p28 : lw_okq (⟨"MuleRoad$Parser", "readAmount", "(LMuleRoad$Bargain;)Z"⟩, 6) := ⟨⟨by decide +kernel, by decide +kernel⟩, List.mem_of_getElem? (i := 109) (by decide +kernel), List.mem_of_getElem? (i := 795) (by decide +kernel), List.mem_of_getElem? (i := 796) (by decide +kernel)⟩
theorem lw_p29 : lw_okq (⟨"MuleRoad", "packsThatAre", "(I)I"⟩, 13) := ⟨⟨by decide +kernel, by decide +kernel⟩, List.mem_of_getElem? (i := 23) (by decide +kernel), List.mem_of_getElem? (i := 832) (by decide +kernel), List.mem_of_getElem? (i := 833) (by decide +kernel)⟩
theorem lw_p30 : lw_okq (⟨"MuleRoad", "payOfAll", "()I"⟩, 13) := ⟨⟨by decide +kernel, by decide +kernel⟩, List.mem_of_getElem? (i := 23) (by decide +kernel), List.mem_of_getElem? (i := 836) (by decide +kernel), List.mem_of_getElem? (i := 837) (by decide +kernel)⟩
theorem lw_p31 : lw_okq (⟨"java/lang/Throwable", "fillInStackTrace", "(I)Ljava/lang/Throwable;"⟩, 6) := ⟨⟨by decide +kernel, by decide +kernel⟩, List.mem_of_getElem? (i := 884) (by decide +kernel), List.mem_of_getElem? (i := 882) (by decide +kernel), List.mem_of_getElem? (i := 883) (by decide +kernel)⟩
def lw_privs_2 : List (MethodName × Nat) := [(⟨"MuleRoad$Tokens", "cutWord", "()I"⟩, 7), (⟨"MuleRoad$Tokens", "spells", "(Ljava/lang/String;)Z"⟩, 7), (⟨"MuleRoad$Tokens", "kindSpelt", "()I"⟩, 7), (⟨"MuleRoad$Tokens", "measureSpelt", "()I"⟩, 7), (⟨"MuleRoad$Tokens", "cutNumber", "()I"⟩, 7), (⟨"MuleRoad$Parser", "moveTo", "(I)V"⟩, 6), (⟨"MuleRoad$Parser", "isTermAhead", "()Z"⟩, 6), (⟨"MuleRoad$Parser", "fail", "(I)Z"⟩, 6), (⟨"MuleRoad$Parser", "readRule", "(LMuleRoad$Bargain;)Z"⟩, 6), (⟨"MuleRoad$Parser", "readTerms", "(LMuleRoad$Bargain;)Z"⟩, 6), (⟨"MuleRoad$Parser", "readTerm", "(LMuleRoad$Bargain;)Z"⟩, 6), (⟨"MuleRoad$Parser", "take", "(I)Z"⟩, 6), (⟨"MuleRoad$Parser", "readAmount", "(LMuleRoad$Bargain;)Z"⟩, 6), (⟨"MuleRoad", "packsThatAre", "(I)I"⟩, 13), (⟨"MuleRoad", "payOfAll", "()I"⟩, 13), (⟨"java/lang/Throwable", "fillInStackTrace", "(I)Ljava/lang/Throwable;"⟩, 6)]
theorem lw_r2 : ∀ q ∈ lw_privs_2, lw_okq q := List.forall_mem_cons.mpr ⟨lw_p16, List.forall_mem_cons.mpr ⟨lw_p17, List.forall_mem_cons.mpr ⟨lw_p18, List.forall_mem_cons.mpr ⟨lw_p19, List.forall_mem_cons.mpr ⟨lw_p20, List.forall_mem_cons.mpr ⟨lw_p21, List.forall_mem_cons.mpr ⟨lw_p22, List.forall_mem_cons.mpr ⟨lw_p23, List.forall_mem_cons.mpr ⟨lw_p24, List.forall_mem_cons.mpr ⟨lw_p25, List.forall_mem_cons.mpr ⟨lw_p26, List.forall_mem_cons.mpr ⟨lw_p27, List.forall_mem_cons.mpr ⟨lw_p28, List.forall_mem_cons.mpr ⟨lw_p29, List.forall_mem_cons.mpr ⟨lw_p30, List.forall_mem_cons.mpr ⟨lw_p31, fun _ h => absurd h List.not_mem_nil⟩⟩⟩⟩⟩⟩⟩⟩⟩⟩⟩⟩⟩⟩⟩⟩
theorem lw_p32 : lw_okq (⟨"MuleRoadModel", "isLeg", "(I)Z"⟩, 58) := ⟨⟨by decide +kernel, by decide +kernel⟩, List.mem_of_getElem? (i := 917) (by decide +kernel), List.mem_of_getElem? (i := 1109) (by decide +kernel), List.mem_of_getElem? (i := 1110) (by decide +kernel)⟩
theorem lw_p33 : lw_okq (⟨"MuleRoadModel", "isShut", "(III)Z"⟩, 58) := ⟨⟨by decide +kernel, by decide +kernel⟩, List.mem_of_getElem? (i := 917) (by decide +kernel), List.mem_of_getElem? (i := 1117) (by decide +kernel), List.mem_of_getElem? (i := 1118) (by decide +kernel)⟩
theorem lw_p34 : lw_okq (⟨"MuleRoadModel", "isInn", "(I)Z"⟩, 58) := ⟨⟨by decide +kernel, by decide +kernel⟩, List.mem_of_getElem? (i := 917) (by decide +kernel), List.mem_of_getElem? (i := 1125) (by decide +kernel), List.mem_of_getElem? (i := 1126) (by decide +kernel)⟩
theorem lw_p35 : lw_okq (⟨"MuleRoadModel", "change", "(II)V"⟩, 58) := ⟨⟨by decide +kernel, by decide +kernel⟩, List.mem_of_getElem? (i := 917) (by decide +kernel), List.mem_of_getElem? (i := 1133) (by decide +kernel), List.mem_of_getElem? (i := 1134) (by decide +kernel)⟩
theorem lw_p36 : lw_okq (⟨"MuleRoadModel", "isString", "(I)Z"⟩, 58) := ⟨⟨by decide +kernel, by decide +kernel⟩, List.mem_of_getElem? (i := 917) (by decide +kernel), List.mem_of_getElem? (i := 1141) (by decide +kernel), List.mem_of_getElem? (i := 1142) (by decide +kernel)⟩
theorem lw_p37 : lw_okq (⟨"MuleRoadModel", "isPack", "(I)Z"⟩, 58) := ⟨⟨by decide +kernel, by decide +kernel⟩, List.mem_of_getElem? (i := 917) (by decide +kernel), List.mem_of_getElem? (i := 1145) (by decide +kernel), List.mem_of_getElem? (i := 1146) (by decide +kernel)⟩
theorem lw_p38 : lw_okq (⟨"MuleRoadModel", "load", "(II)I"⟩, 58) := ⟨⟨by decide +kernel, by decide +kernel⟩, List.mem_of_getElem? (i := 917) (by decide +kernel), List.mem_of_getElem? (i := 1149) (by decide +kernel), List.mem_of_getElem? (i := 1150) (by decide +kernel)⟩
theorem lw_p39 : lw_okq (⟨"MuleRoadModel", "top", "(I)I"⟩, 58) := ⟨⟨by decide +kernel, by decide +kernel⟩, List.mem_of_getElem? (i := 917) (by decide +kernel), List.mem_of_getElem? (i := 1153) (by decide +kernel), List.mem_of_getElem? (i := 1154) (by decide +kernel)⟩
theorem lw_p40 : lw_okq (⟨"MuleRoadModel", "isEven", "(I)Z"⟩, 58) := ⟨⟨by decide +kernel, by decide +kernel⟩, List.mem_of_getElem? (i := 917) (by decide +kernel), List.mem_of_getElem? (i := 1165) (by decide +kernel), List.mem_of_getElem? (i := 1166) (by decide +kernel)⟩
theorem lw_p41 : lw_okq (⟨"MuleRoadModel", "goes", "()V"⟩, 58) := ⟨⟨by decide +kernel, by decide +kernel⟩, List.mem_of_getElem? (i := 917) (by decide +kernel), List.mem_of_getElem? (i := 1173) (by decide +kernel), List.mem_of_getElem? (i := 1174) (by decide +kernel)⟩
theorem lw_p42 : lw_okq (⟨"MuleRoadModel", "holds", "()V"⟩, 58) := ⟨⟨by decide +kernel, by decide +kernel⟩, List.mem_of_getElem? (i := 917) (by decide +kernel), List.mem_of_getElem? (i := 1177) (by decide +kernel), List.mem_of_getElem? (i := 1178) (by decide +kernel)⟩
theorem lw_p43 : lw_okq (⟨"MuleRoadModel", "innOf", "(I)I"⟩, 58) := ⟨⟨by decide +kernel, by decide +kernel⟩, List.mem_of_getElem? (i := 917) (by decide +kernel), List.mem_of_getElem? (i := 1181) (by decide +kernel), List.mem_of_getElem? (i := 1182) (by decide +kernel)⟩
theorem lw_p44 : lw_okq (⟨"MuleRoadModel", "tires", "(I)V"⟩, 58) := ⟨⟨by decide +kernel, by decide +kernel⟩, List.mem_of_getElem? (i := 917) (by decide +kernel), List.mem_of_getElem? (i := 1185) (by decide +kernel), List.mem_of_getElem? (i := 1186) (by decide +kernel)⟩
theorem lw_p45 : lw_okq (⟨"MuleRoadModel", "rests", "(I)V"⟩, 58) := ⟨⟨by decide +kernel, by decide +kernel⟩, List.mem_of_getElem? (i := 917) (by decide +kernel), List.mem_of_getElem? (i := 1190) (by decide +kernel), List.mem_of_getElem? (i := 1191) (by decide +kernel)⟩
theorem lw_p46 : lw_okq (⟨"MuleRoadModel", "finds", "(II)Z"⟩, 58) := ⟨⟨by decide +kernel, by decide +kernel⟩, List.mem_of_getElem? (i := 917) (by decide +kernel), List.mem_of_getElem? (i := 1199) (by decide +kernel), List.mem_of_getElem? (i := 1200) (by decide +kernel)⟩
theorem lw_p47 : lw_okq (⟨"MuleRoadModel", "tries", "(IIIII)V"⟩, 58) := ⟨⟨by decide +kernel, by decide +kernel⟩, List.mem_of_getElem? (i := 917) (by decide +kernel), List.mem_of_getElem? (i := 1203) (by decide +kernel), List.mem_of_getElem? (i := 1204) (by decide +kernel)⟩
def lw_privs_3 : List (MethodName × Nat) := [(⟨"MuleRoadModel", "isLeg", "(I)Z"⟩, 58), (⟨"MuleRoadModel", "isShut", "(III)Z"⟩, 58), (⟨"MuleRoadModel", "isInn", "(I)Z"⟩, 58), (⟨"MuleRoadModel", "change", "(II)V"⟩, 58), (⟨"MuleRoadModel", "isString", "(I)Z"⟩, 58), (⟨"MuleRoadModel", "isPack", "(I)Z"⟩, 58), (⟨"MuleRoadModel", "load", "(II)I"⟩, 58), (⟨"MuleRoadModel", "top", "(I)I"⟩, 58), (⟨"MuleRoadModel", "isEven", "(I)Z"⟩, 58), (⟨"MuleRoadModel", "goes", "()V"⟩, 58), (⟨"MuleRoadModel", "holds", "()V"⟩, 58), (⟨"MuleRoadModel", "innOf", "(I)I"⟩, 58), (⟨"MuleRoadModel", "tires", "(I)V"⟩, 58), (⟨"MuleRoadModel", "rests", "(I)V"⟩, 58), (⟨"MuleRoadModel", "finds", "(II)Z"⟩, 58), (⟨"MuleRoadModel", "tries", "(IIIII)V"⟩, 58)]
theorem lw_r3 : ∀ q ∈ lw_privs_3, lw_okq q := List.forall_mem_cons.mpr ⟨lw_p32, List.forall_mem_cons.mpr ⟨lw_p33, List.forall_mem_cons.mpr ⟨lw_p34, List.forall_mem_cons.mpr ⟨lw_p35, List.forall_mem_cons.mpr ⟨lw_p36, List.forall_mem_cons.mpr ⟨lw_p37, List.forall_mem_cons.mpr ⟨lw_p38, List.forall_mem_cons.mpr ⟨lw_p39, List.forall_mem_cons.mpr ⟨lw_p40, List.forall_mem_cons.mpr ⟨lw_p41, List.forall_mem_cons.mpr ⟨lw_p42, List.forall_mem_cons.mpr ⟨lw_p43, List.forall_mem_cons.mpr ⟨lw_p44, List.forall_mem_cons.mpr ⟨lw_p45, List.forall_mem_cons.mpr ⟨lw_p46, List.forall_mem_cons.mpr ⟨lw_p47, fun _ h => absurd h List.not_mem_nil⟩⟩⟩⟩⟩⟩⟩⟩⟩⟩⟩⟩⟩⟩⟩⟩
theorem lw_p48 : lw_okq (⟨"MuleRoadModel", "next", "()V"⟩, 58) := ⟨⟨by decide +kernel, by decide +kernel⟩, List.mem_of_getElem? (i := 917) (by decide +kernel), List.mem_of_getElem? (i := 1223) (by decide +kernel), List.mem_of_getElem? (i := 1224) (by decide +kernel)⟩
theorem lw_p49 : lw_okq (⟨"MuleRoadModel", "see", "(I)I"⟩, 58) := ⟨⟨by decide +kernel, by decide +kernel⟩, List.mem_of_getElem? (i := 917) (by decide +kernel), List.mem_of_getElem? (i := 1230) (by decide +kernel), List.mem_of_getElem? (i := 1231) (by decide +kernel)⟩
theorem lw_p50 : lw_okq (⟨"MuleRoadModel", "isWell", "()Z"⟩, 58) := ⟨⟨by decide +kernel, by decide +kernel⟩, List.mem_of_getElem? (i := 917) (by decide +kernel), List.mem_of_getElem? (i := 1237) (by decide +kernel), List.mem_of_getElem? (i := 1238) (by decide +kernel)⟩
theorem lw_p51 : lw_okq (⟨"MuleRoadModel", "rule", "()V"⟩, 58) := ⟨⟨by decide +kernel, by decide +kernel⟩, List.mem_of_getElem? (i := 917) (by decide +kernel), List.mem_of_getElem? (i := 1241) (by decide +kernel), List.mem_of_getElem? (i := 1242) (by decide +kernel)⟩
theorem lw_p52 : lw_okq (⟨"MuleRoadModel", "is", "(I)Z"⟩, 58) := ⟨⟨by decide +kernel, by decide +kernel⟩, List.mem_of_getElem? (i := 917) (by decide +kernel), List.mem_of_getElem? (i := 1245) (by decide +kernel), List.mem_of_getElem? (i := 1246) (by decide +kernel)⟩
theorem lw_p53 : lw_okq (⟨"MuleRoadModel", "word", "()I"⟩, 58) := ⟨⟨by decide +kernel, by decide +kernel⟩, List.mem_of_getElem? (i := 917) (by decide +kernel), List.mem_of_getElem? (i := 1249) (by decide +kernel), List.mem_of_getElem? (i := 1250) (by decide +kernel)⟩
theorem lw_p54 : lw_okq (⟨"MuleRoadModel", "isWord", "(Ljava/lang/String;)Z"⟩, 58) := ⟨⟨by decide +kernel, by decide +kernel⟩, List.mem_of_getElem? (i := 917) (by decide +kernel), List.mem_of_getElem? (i := 1254) (by decide +kernel), List.mem_of_getElem? (i := 1255) (by decide +kernel)⟩
theorem lw_p55 : lw_okq (⟨"MuleRoadModel", "fails", "(I)V"⟩, 58) := ⟨⟨by decide +kernel, by decide +kernel⟩, List.mem_of_getElem? (i := 917) (by decide +kernel), List.mem_of_getElem? (i := 1266) (by decide +kernel), List.mem_of_getElem? (i := 1267) (by decide +kernel)⟩
theorem lw_p56 : lw_okq (⟨"MuleRoadModel", "term", "(I)V"⟩, 58) := ⟨⟨by decide +kernel, by decide +kernel⟩, List.mem_of_getElem? (i := 917) (by decide +kernel), List.mem_of_getElem? (i := 1270) (by decide +kernel), List.mem_of_getElem? (i := 1271) (by decide +kernel)⟩
theorem lw_p57 : lw_okq (⟨"MuleRoadModel", "number", "()I"⟩, 58) := ⟨⟨by decide +kernel, by decide +kernel⟩, List.mem_of_getElem? (i := 917) (by decide +kernel), List.mem_of_getElem? (i := 1274) (by decide +kernel), List.mem_of_getElem? (i := 1275) (by decide +kernel)⟩
theorem lw_p58 : lw_okq (⟨"MuleRoadModel", "want", "(I)V"⟩, 58) := ⟨⟨by decide +kernel, by decide +kernel⟩, List.mem_of_getElem? (i := 917) (by decide +kernel), List.mem_of_getElem? (i := 1279) (by decide +kernel), List.mem_of_getElem? (i := 1280) (by decide +kernel)⟩
theorem lw_p59 : lw_okq (⟨"MuleRoadModel", "worth", "(I)I"⟩, 58) := ⟨⟨by decide +kernel, by decide +kernel⟩, List.mem_of_getElem? (i := 917) (by decide +kernel), List.mem_of_getElem? (i := 1291) (by decide +kernel), List.mem_of_getElem? (i := 1292) (by decide +kernel)⟩
theorem lw_p60 : lw_okq (⟨"MuleRoadModel", "bargainOf", "(I)I"⟩, 58) := ⟨⟨by decide +kernel, by decide +kernel⟩, List.mem_of_getElem? (i := 917) (by decide +kernel), List.mem_of_getElem? (i := 1295) (by decide +kernel), List.mem_of_getElem? (i := 1296) (by decide +kernel)⟩
theorem lw_p61 : lw_okq (⟨"MuleRoadModel", "holds", "(II)Z"⟩, 58) := ⟨⟨by decide +kernel, by decide +kernel⟩, List.mem_of_getElem? (i := 917) (by decide +kernel), List.mem_of_getElem? (i := 1299) (by decide +kernel), List.mem_of_getElem? (i := 1300) (by decide +kernel)⟩
theorem lw_p62 : lw_okq (⟨"MuleRoadModel", "packsOn", "(I)I"⟩, 58) := ⟨⟨by decide +kernel, by decide +kernel⟩, List.mem_of_getElem? (i := 917) (by decide +kernel), List.mem_of_getElem? (i := 1307) (by decide +kernel), List.mem_of_getElem? (i := 1308) (by decide +kernel)⟩
theorem lw_p63 : lw_okq (⟨"MuleRoadModel", "many", "(I)I"⟩, 58) := ⟨⟨by decide +kernel, by decide +kernel⟩, List.mem_of_getElem? (i := 917) (by decide +kernel), List.mem_of_getElem? (i := 1327) (by decide +kernel), List.mem_of_getElem? (i := 1328) (by decide +kernel)⟩
def lw_privs_4 : List (MethodName × Nat) := [(⟨"MuleRoadModel", "next", "()V"⟩, 58), (⟨"MuleRoadModel", "see", "(I)I"⟩, 58), (⟨"MuleRoadModel", "isWell", "()Z"⟩, 58), (⟨"MuleRoadModel", "rule", "()V"⟩, 58), (⟨"MuleRoadModel", "is", "(I)Z"⟩, 58), (⟨"MuleRoadModel", "word", "()I"⟩, 58), (⟨"MuleRoadModel", "isWord", "(Ljava/lang/String;)Z"⟩, 58), (⟨"MuleRoadModel", "fails", "(I)V"⟩, 58), (⟨"MuleRoadModel", "term", "(I)V"⟩, 58), (⟨"MuleRoadModel", "number", "()I"⟩, 58), (⟨"MuleRoadModel", "want", "(I)V"⟩, 58), (⟨"MuleRoadModel", "worth", "(I)I"⟩, 58), (⟨"MuleRoadModel", "bargainOf", "(I)I"⟩, 58), (⟨"MuleRoadModel", "holds", "(II)Z"⟩, 58), (⟨"MuleRoadModel", "packsOn", "(I)I"⟩, 58), (⟨"MuleRoadModel", "many", "(I)I"⟩, 58)]
theorem lw_r4 : ∀ q ∈ lw_privs_4, lw_okq q := List.forall_mem_cons.mpr ⟨lw_p48, List.forall_mem_cons.mpr ⟨lw_p49, List.forall_mem_cons.mpr ⟨lw_p50, List.forall_mem_cons.mpr ⟨lw_p51, List.forall_mem_cons.mpr ⟨lw_p52, List.forall_mem_cons.mpr ⟨lw_p53, List.forall_mem_cons.mpr ⟨lw_p54, List.forall_mem_cons.mpr ⟨lw_p55, List.forall_mem_cons.mpr ⟨lw_p56, List.forall_mem_cons.mpr ⟨lw_p57, List.forall_mem_cons.mpr ⟨lw_p58, List.forall_mem_cons.mpr ⟨lw_p59, List.forall_mem_cons.mpr ⟨lw_p60, List.forall_mem_cons.mpr ⟨lw_p61, List.forall_mem_cons.mpr ⟨lw_p62, List.forall_mem_cons.mpr ⟨lw_p63, fun _ h => absurd h List.not_mem_nil⟩⟩⟩⟩⟩⟩⟩⟩⟩⟩⟩⟩⟩⟩⟩⟩
theorem lw_p64 : lw_okq (⟨"MuleRoadModel", "allBrought", "()I"⟩, 58) := ⟨⟨by decide +kernel, by decide +kernel⟩, List.mem_of_getElem? (i := 917) (by decide +kernel), List.mem_of_getElem? (i := 1331) (by decide +kernel), List.mem_of_getElem? (i := 1332) (by decide +kernel)⟩
def lw_privs_5 : List (MethodName × Nat) := [(⟨"MuleRoadModel", "allBrought", "()I"⟩, 58)]
theorem lw_r5 : ∀ q ∈ lw_privs_5, lw_okq q := List.forall_mem_cons.mpr ⟨lw_p64, fun _ h => absurd h List.not_mem_nil⟩
def lw_privs : List (MethodName × Nat) := lw_privs_1 ++ (lw_privs_2 ++ (lw_privs_3 ++ (lw_privs_4 ++ (lw_privs_5))))
def lw_tbl : List Cond := k2_sels lw_privs ++ tables_1
theorem lw_privs_ok : ∀ q ∈ lw_privs, lw_okq q := by
  show ∀ q ∈ lw_privs_1 ++ (lw_privs_2 ++ (lw_privs_3 ++ (lw_privs_4 ++ (lw_privs_5)))), lw_okq q
  exact List.forall_mem_append.mpr ⟨lw_r1, List.forall_mem_append.mpr ⟨lw_r2, List.forall_mem_append.mpr ⟨lw_r3, List.forall_mem_append.mpr ⟨lw_r4, lw_r5⟩⟩⟩⟩
end
section
def RX0 : String := "MuleRoad$Bargain"
def TX0 : u_T := fun k => match k with
  | 0 => ("MuleRoad$Bargain", "termsUpTo", "[I", true)
  | 1 => ("MuleRoad$Bargain", "amounts", "[I", true)
  | 2 => ("MuleRoad$Bargain", "measures", "[I", true)
  | 3 => ("MuleRoad$Bargain", "rels", "[I", true)
  | 4 => ("MuleRoad$Bargain", "numbers", "[I", true)
  | 5 => ("MuleRoad$Bargain", "rules", "I", false)
  | 6 => ("MuleRoad$Bargain", "terms", "I", false)
  | _ => ("MuleRoad$Bargain", "told", "I", false)
def tyX0 : Nat → FieldType := fun k => match k with
  | 0 => .array .int
  | 1 => .array .int
  | 2 => .array .int
  | 3 => .array .int
  | 4 => .array .int
  | 5 => .int
  | 6 => .int
  | _ => .int
theorem nmX0 : ∀ a, a < 8 → ∀ b, b < 8 → a ≠ b → (TX0 a).2.1 ≠ (TX0 b).2.1 := by decide +kernel
theorem tyX0_ok : ∀ k, k < 8 → parseFieldDescriptor (TX0 k).2.2.1 = some (tyX0 k) := by decide +kernel
abbrev cX0_init : ByteArray := prog_2_method_1_code
def yX0_init : MethodName := ⟨RX0, "<init>", "()V"⟩
abbrev cX0_clear : ByteArray := prog_2_method_2_code
def yX0_clear : MethodName := ⟨RX0, "clear", "()V"⟩
abbrev cX0_addTerm : ByteArray := prog_2_method_3_code
def yX0_addTerm : MethodName := ⟨RX0, "addTerm", "(III)V"⟩
abbrev cX0_addRule : ByteArray := prog_2_method_4_code
def yX0_addRule : MethodName := ⟨RX0, "addRule", "(I)V"⟩
abbrev cX0_payFor : ByteArray := prog_2_method_5_code
def yX0_payFor : MethodName := ⟨RX0, "payFor", "(LMuleRoad$Pack;I)I"⟩
abbrev cX0_holdAll : ByteArray := prog_2_method_6_code
def yX0_holdAll : MethodName := ⟨RX0, "holdAll", "(IILMuleRoad$Pack;I)Z"⟩
abbrev cX0_measure : ByteArray := prog_2_method_7_code
def yX0_measure : MethodName := ⟨RX0, "measure", "(ILMuleRoad$Pack;I)I"⟩
abbrev cX0_holds : ByteArray := prog_2_method_8_code
def yX0_holds : MethodName := ⟨RX0, "holds", "(III)Z"⟩
def RX1 : String := "MuleRoad$BestLoad"
def TX1 : u_T := fun k => match k with
  | 0 => ("MuleRoad$BestLoad", "packs", "[I", true)
  | 1 => ("MuleRoad$BestLoad", "weights", "[I", true)
  | 2 => ("MuleRoad$BestLoad", "ahead", "[I", true)
  | 3 => ("MuleRoad$BestLoad", "tried", "[I", true)
  | 4 => ("MuleRoad$BestLoad", "found", "[I", true)
  | 5 => ("MuleRoad$BestLoad", "size", "I", false)
  | 6 => ("MuleRoad$BestLoad", "strength", "I", false)
  | 7 => ("MuleRoad$BestLoad", "load", "I", false)
  | _ => ("MuleRoad$BestLoad", "taken", "I", false)
def tyX1 : Nat → FieldType := fun k => match k with
  | 0 => .array .int
  | 1 => .array .int
  | 2 => .array .int
  | 3 => .array .int
  | 4 => .array .int
  | 5 => .int
  | 6 => .int
  | 7 => .int
  | _ => .int
theorem nmX1 : ∀ a, a < 9 → ∀ b, b < 9 → a ≠ b → (TX1 a).2.1 ≠ (TX1 b).2.1 := by decide +kernel
theorem tyX1_ok : ∀ k, k < 9 → parseFieldDescriptor (TX1 k).2.2.1 = some (tyX1 k) := by decide +kernel
abbrev cX1_init : ByteArray := prog_3_method_1_code
def yX1_init : MethodName := ⟨RX1, "<init>", "()V"⟩
abbrev cX1_clear : ByteArray := prog_3_method_2_code
def yX1_clear : MethodName := ⟨RX1, "clear", "()V"⟩
abbrev cX1_add : ByteArray := prog_3_method_3_code
def yX1_add : MethodName := ⟨RX1, "add", "(II)V"⟩
abbrev cX1_findFor : ByteArray := prog_3_method_4_code
def yX1_findFor : MethodName := ⟨RX1, "findFor", "(I)V"⟩
abbrev cX1_sideOf : ByteArray := prog_3_method_5_code
def yX1_sideOf : MethodName := ⟨RX1, "sideOf", "(I)I"⟩
abbrev cX1_look : ByteArray := prog_3_method_6_code
def yX1_look : MethodName := ⟨RX1, "look", "(LMuleRoad$BestLoad;IIII)V"⟩
abbrev cX1_isHopeless : ByteArray := prog_3_method_7_code
def yX1_isHopeless : MethodName := ⟨RX1, "isHopeless", "(IIII)Z"⟩
abbrev cX1_keep : ByteArray := prog_3_method_8_code
def yX1_keep : MethodName := ⟨RX1, "keep", "(II)V"⟩
def RX2 : String := "MuleRoad$Moves"
def TX2 : u_T := fun k => match k with
  | 0 => ("MuleRoad$Moves", "movedPack", "[I", true)
  | 1 => ("MuleRoad$Moves", "inHour", "[I", true)
  | 2 => ("MuleRoad$Moves", "toPlace", "[I", true)
  | _ => ("MuleRoad$Moves", "size", "I", false)
def tyX2 : Nat → FieldType := fun k => match k with
  | 0 => .array .int
  | 1 => .array .int
  | 2 => .array .int
  | _ => .int
theorem nmX2 : ∀ a, a < 4 → ∀ b, b < 4 → a ≠ b → (TX2 a).2.1 ≠ (TX2 b).2.1 := by decide +kernel
theorem tyX2_ok : ∀ k, k < 4 → parseFieldDescriptor (TX2 k).2.2.1 = some (tyX2 k) := by decide +kernel
abbrev cX2_init : ByteArray := prog_4_method_1_code
def yX2_init : MethodName := ⟨RX2, "<init>", "()V"⟩
abbrev cX2_add : ByteArray := prog_4_method_2_code
def yX2_add : MethodName := ⟨RX2, "add", "(III)V"⟩
abbrev cX2_placeOf : ByteArray := prog_4_method_3_code
def yX2_placeOf : MethodName := ⟨RX2, "placeOf", "(II)I"⟩
def RX3 : String := "MuleRoad$Mule"
def TX3 : u_T := fun k => match k with
  | 0 => ("MuleRoad$Mule", "strength", "I", true)
  | 1 => ("MuleRoad$Mule", "tired", "I", false)
  | 2 => ("MuleRoad$Mule", "lame", "Z", false)
  | 3 => ("MuleRoad$Mule", "wentLame", "I", false)
  | 4 => ("MuleRoad$Mule", "left", "I", false)
  | 5 => ("MuleRoad$Mule", "right", "I", false)
  | 6 => ("MuleRoad$Mule", "top", "I", false)
  | _ => ("MuleRoad$Mule", "topWeight", "I", false)
def tyX3 : Nat → FieldType := fun k => match k with
  | 0 => .int
  | 1 => .int
  | 2 => .boolean
  | 3 => .int
  | 4 => .int
  | 5 => .int
  | 6 => .int
  | _ => .int
theorem nmX3 : ∀ a, a < 8 → ∀ b, b < 8 → a ≠ b → (TX3 a).2.1 ≠ (TX3 b).2.1 := by decide +kernel
theorem tyX3_ok : ∀ k, k < 8 → parseFieldDescriptor (TX3 k).2.2.1 = some (tyX3 k) := by decide +kernel
abbrev cX3_init : ByteArray := prog_5_method_1_code
def yX3_init : MethodName := ⟨RX3, "<init>", "(I)V"⟩
abbrev cX3_load : ByteArray := prog_5_method_2_code
def yX3_load : MethodName := ⟨RX3, "load", "()I"⟩
abbrev cX3_bear : ByteArray := prog_5_method_3_code
def yX3_bear : MethodName := ⟨RX3, "bear", "(III)V"⟩
abbrev cX3_unload : ByteArray := prog_5_method_4_code
def yX3_unload : MethodName := ⟨RX3, "unload", "(II)V"⟩
abbrev cX3_isFit : ByteArray := prog_5_method_5_code
def yX3_isFit : MethodName := ⟨RX3, "isFit", "()Z"⟩
abbrev cX3_walk : ByteArray := prog_5_method_6_code
def yX3_walk : MethodName := ⟨RX3, "walk", "(II)V"⟩
abbrev cX3_rest : ByteArray := prog_5_method_7_code
def yX3_rest : MethodName := ⟨RX3, "rest", "()V"⟩
def RX4 : String := "MuleRoad$Pack"
def TX4 : u_T := fun k => match k with
  | 0 => ("MuleRoad$Pack", "kind", "I", true)
  | 1 => ("MuleRoad$Pack", "weight", "I", true)
  | 2 => ("MuleRoad$Pack", "target", "I", true)
  | 3 => ("MuleRoad$Pack", "came", "I", true)
  | 4 => ("MuleRoad$Pack", "state", "I", false)
  | 5 => ("MuleRoad$Pack", "where", "I", false)
  | 6 => ("MuleRoad$Pack", "mule", "I", false)
  | 7 => ("MuleRoad$Pack", "side", "I", false)
  | 8 => ("MuleRoad$Pack", "held", "I", false)
  | _ => ("MuleRoad$Pack", "pay", "I", false)
def tyX4 : Nat → FieldType := fun k => match k with
  | 0 => .int
  | 1 => .int
  | 2 => .int
  | 3 => .int
  | 4 => .int
  | 5 => .int
  | 6 => .int
  | 7 => .int
  | 8 => .int
  | _ => .int
theorem nmX4 : ∀ a, a < 10 → ∀ b, b < 10 → a ≠ b → (TX4 a).2.1 ≠ (TX4 b).2.1 := by decide +kernel
theorem tyX4_ok : ∀ k, k < 10 → parseFieldDescriptor (TX4 k).2.2.1 = some (tyX4 k) := by decide +kernel
abbrev cX4_init : ByteArray := prog_6_method_1_code
def yX4_init : MethodName := ⟨RX4, "<init>", "(IIIII)V"⟩
abbrev cX4_liftOnto : ByteArray := prog_6_method_2_code
def yX4_liftOnto : MethodName := ⟨RX4, "liftOnto", "(III)V"⟩
abbrev cX4_putAt : ByteArray := prog_6_method_3_code
def yX4_putAt : MethodName := ⟨RX4, "putAt", "(I)V"⟩
abbrev cX4_deliver : ByteArray := prog_6_method_4_code
def yX4_deliver : MethodName := ⟨RX4, "deliver", "(I)V"⟩
abbrev cX4_nextLeg : ByteArray := prog_6_method_5_code
def yX4_nextLeg : MethodName := ⟨RX4, "nextLeg", "(I)I"⟩
def RX5 : String := "MuleRoad$Parser"
def TX5 : u_T := fun k => match k with
  | 0 => ("MuleRoad$Parser", "tokens", "LMuleRoad$Tokens;", true)
  | 1 => ("MuleRoad$Parser", "at", "I", false)
  | 2 => ("MuleRoad$Parser", "type", "I", false)
  | 3 => ("MuleRoad$Parser", "value", "I", false)
  | 4 => ("MuleRoad$Parser", "fault", "I", false)
  | _ => ("MuleRoad$Parser", "faultPlace", "I", false)
def tyX5 : Nat → FieldType := fun k => match k with
  | 0 => .object "MuleRoad$Tokens"
  | 1 => .int
  | 2 => .int
  | 3 => .int
  | 4 => .int
  | _ => .int
theorem nmX5 : ∀ a, a < 6 → ∀ b, b < 6 → a ≠ b → (TX5 a).2.1 ≠ (TX5 b).2.1 := by decide +kernel
theorem tyX5_ok : ∀ k, k < 6 → parseFieldDescriptor (TX5 k).2.2.1 = some (tyX5 k) := by decide +kernel
abbrev cX5_init : ByteArray := prog_7_method_1_code
def yX5_init : MethodName := ⟨RX5, "<init>", "(LMuleRoad$Tape;)V"⟩
abbrev cX5_readInto : ByteArray := prog_7_method_2_code
def yX5_readInto : MethodName := ⟨RX5, "readInto", "(LMuleRoad$Bargain;)I"⟩
abbrev cX5_moveTo : ByteArray := prog_7_method_3_code
def yX5_moveTo : MethodName := ⟨RX5, "moveTo", "(I)V"⟩
abbrev cX5_fail : ByteArray := prog_7_method_4_code
def yX5_fail : MethodName := ⟨RX5, "fail", "(I)Z"⟩
abbrev cX5_take : ByteArray := prog_7_method_5_code
def yX5_take : MethodName := ⟨RX5, "take", "(I)Z"⟩
abbrev cX5_isTermAhead : ByteArray := prog_7_method_6_code
def yX5_isTermAhead : MethodName := ⟨RX5, "isTermAhead", "()Z"⟩
abbrev cX5_readRule : ByteArray := prog_7_method_7_code
def yX5_readRule : MethodName := ⟨RX5, "readRule", "(LMuleRoad$Bargain;)Z"⟩
abbrev cX5_readTerms : ByteArray := prog_7_method_8_code
def yX5_readTerms : MethodName := ⟨RX5, "readTerms", "(LMuleRoad$Bargain;)Z"⟩
abbrev cX5_readTerm : ByteArray := prog_7_method_9_code
def yX5_readTerm : MethodName := ⟨RX5, "readTerm", "(LMuleRoad$Bargain;)Z"⟩
abbrev cX5_readAmount : ByteArray := prog_7_method_10_code
def yX5_readAmount : MethodName := ⟨RX5, "readAmount", "(LMuleRoad$Bargain;)Z"⟩
def RX6 : String := "MuleRoad$Road"
def TX6 : u_T := fun k => match k with
  | 0 => ("MuleRoad$Road", "legHours", "[I", true)
  | 1 => ("MuleRoad$Road", "legClimbs", "[I", true)
  | 2 => ("MuleRoad$Road", "legLedge", "[Z", true)
  | 3 => ("MuleRoad$Road", "snowLeg", "[I", true)
  | 4 => ("MuleRoad$Road", "snowFrom", "[I", true)
  | 5 => ("MuleRoad$Road", "snowTo", "[I", true)
  | 6 => ("MuleRoad$Road", "snowTold", "[I", true)
  | 7 => ("MuleRoad$Road", "inns", "I", false)
  | _ => ("MuleRoad$Road", "tellings", "I", false)
def tyX6 : Nat → FieldType := fun k => match k with
  | 0 => .array .int
  | 1 => .array .int
  | 2 => .array .boolean
  | 3 => .array .int
  | 4 => .array .int
  | 5 => .array .int
  | 6 => .array .int
  | 7 => .int
  | _ => .int
theorem nmX6 : ∀ a, a < 9 → ∀ b, b < 9 → a ≠ b → (TX6 a).2.1 ≠ (TX6 b).2.1 := by decide +kernel
theorem tyX6_ok : ∀ k, k < 9 → parseFieldDescriptor (TX6 k).2.2.1 = some (tyX6 k) := by decide +kernel
abbrev cX6_init : ByteArray := prog_8_method_1_code
def yX6_init : MethodName := ⟨RX6, "<init>", "()V"⟩
abbrev cX6_addInn : ByteArray := prog_8_method_2_code
def yX6_addInn : MethodName := ⟨RX6, "addInn", "(IIZ)I"⟩
abbrev cX6_addTelling : ByteArray := prog_8_method_3_code
def yX6_addTelling : MethodName := ⟨RX6, "addTelling", "(IIII)I"⟩
abbrev cX6_hasInn : ByteArray := prog_8_method_4_code
def yX6_hasInn : MethodName := ⟨RX6, "hasInn", "(I)Z"⟩
abbrev cX6_hasLeg : ByteArray := prog_8_method_5_code
def yX6_hasLeg : MethodName := ⟨RX6, "hasLeg", "(I)Z"⟩
abbrev cX6_hoursOf : ByteArray := prog_8_method_6_code
def yX6_hoursOf : MethodName := ⟨RX6, "hoursOf", "(I)I"⟩
abbrev cX6_climbsOf : ByteArray := prog_8_method_7_code
def yX6_climbsOf : MethodName := ⟨RX6, "climbsOf", "(I)I"⟩
abbrev cX6_isLedge : ByteArray := prog_8_method_8_code
def yX6_isLedge : MethodName := ⟨RX6, "isLedge", "(I)Z"⟩
abbrev cX6_isShut : ByteArray := prog_8_method_9_code
def yX6_isShut : MethodName := ⟨RX6, "isShut", "(III)Z"⟩
abbrev cX6_shutLegs : ByteArray := prog_8_method_10_code
def yX6_shutLegs : MethodName := ⟨RX6, "shutLegs", "(I)I"⟩
def RX7 : String := "MuleRoad$Tape"
def TX7 : u_T := fun k => match k with
  | 0 => ("MuleRoad$Tape", "bytes", "[I", true)
  | _ => ("MuleRoad$Tape", "size", "I", false)
def tyX7 : Nat → FieldType := fun k => match k with
  | 0 => .array .int
  | _ => .int
theorem nmX7 : ∀ a, a < 2 → ∀ b, b < 2 → a ≠ b → (TX7 a).2.1 ≠ (TX7 b).2.1 := by decide +kernel
theorem tyX7_ok : ∀ k, k < 2 → parseFieldDescriptor (TX7 k).2.2.1 = some (tyX7 k) := by decide +kernel
abbrev cX7_init : ByteArray := prog_9_method_1_code
def yX7_init : MethodName := ⟨RX7, "<init>", "()V"⟩
abbrev cX7_addNumber : ByteArray := prog_9_method_2_code
def yX7_addNumber : MethodName := ⟨RX7, "addNumber", "(I)V"⟩
abbrev cX7_addByte : ByteArray := prog_9_method_3_code
def yX7_addByte : MethodName := ⟨RX7, "addByte", "(I)V"⟩
abbrev cX7_byteAt : ByteArray := prog_9_method_4_code
def yX7_byteAt : MethodName := ⟨RX7, "byteAt", "(I)I"⟩
def RX8 : String := "MuleRoad$Tokens"
def TX8 : u_T := fun k => match k with
  | 0 => ("MuleRoad$Tokens", "tape", "LMuleRoad$Tape;", true)
  | 1 => ("MuleRoad$Tokens", "types", "[I", true)
  | 2 => ("MuleRoad$Tokens", "places", "[I", true)
  | 3 => ("MuleRoad$Tokens", "values", "[I", true)
  | 4 => ("MuleRoad$Tokens", "size", "I", false)
  | 5 => ("MuleRoad$Tokens", "from", "I", false)
  | _ => ("MuleRoad$Tokens", "behind", "I", false)
def tyX8 : Nat → FieldType := fun k => match k with
  | 0 => .object "MuleRoad$Tape"
  | 1 => .array .int
  | 2 => .array .int
  | 3 => .array .int
  | 4 => .int
  | 5 => .int
  | _ => .int
theorem nmX8 : ∀ a, a < 7 → ∀ b, b < 7 → a ≠ b → (TX8 a).2.1 ≠ (TX8 b).2.1 := by decide +kernel
theorem tyX8_ok : ∀ k, k < 7 → parseFieldDescriptor (TX8 k).2.2.1 = some (tyX8 k) := by decide +kernel
abbrev cX8_init : ByteArray := prog_10_method_1_code
def yX8_init : MethodName := ⟨RX8, "<init>", "(LMuleRoad$Tape;)V"⟩
abbrev cX8_cutTape : ByteArray := prog_10_method_2_code
def yX8_cutTape : MethodName := ⟨RX8, "cutTape", "()V"⟩
abbrev cX8_cutToken : ByteArray := prog_10_method_3_code
def yX8_cutToken : MethodName := ⟨RX8, "cutToken", "()I"⟩
abbrev cX8_add : ByteArray := prog_10_method_4_code
def yX8_add : MethodName := ⟨RX8, "add", "(II)I"⟩
abbrev cX8_cutWord : ByteArray := prog_10_method_5_code
def yX8_cutWord : MethodName := ⟨RX8, "cutWord", "()I"⟩
abbrev cX8_kindSpelt : ByteArray := prog_10_method_6_code
def yX8_kindSpelt : MethodName := ⟨RX8, "kindSpelt", "()I"⟩
abbrev cX8_measureSpelt : ByteArray := prog_10_method_7_code
def yX8_measureSpelt : MethodName := ⟨RX8, "measureSpelt", "()I"⟩
abbrev cX8_spells : ByteArray := prog_10_method_8_code
def yX8_spells : MethodName := ⟨RX8, "spells", "(Ljava/lang/String;)Z"⟩
abbrev cX8_cutNumber : ByteArray := prog_10_method_9_code
def yX8_cutNumber : MethodName := ⟨RX8, "cutNumber", "()I"⟩
abbrev cX8_signType : ByteArray := prog_10_method_10_code
def yX8_signType : MethodName := ⟨RX8, "signType", "(I)I"⟩
abbrev cX8_isBlank : ByteArray := prog_10_method_11_code
def yX8_isBlank : MethodName := ⟨RX8, "isBlank", "(I)Z"⟩
abbrev cX8_isLetter : ByteArray := prog_10_method_12_code
def yX8_isLetter : MethodName := ⟨RX8, "isLetter", "(I)Z"⟩
abbrev cX8_isDigit : ByteArray := prog_10_method_13_code
def yX8_isDigit : MethodName := ⟨RX8, "isDigit", "(I)Z"⟩
def RX9 : String := "MuleRoad$Train"
def TX9 : u_T := fun k => match k with
  | 0 => ("MuleRoad$Train", "mules", "[LMuleRoad$Mule;", true)
  | 1 => ("MuleRoad$Train", "inn", "I", false)
  | 2 => ("MuleRoad$Train", "leg", "I", false)
  | 3 => ("MuleRoad$Train", "up", "Z", false)
  | 4 => ("MuleRoad$Train", "arrival", "I", false)
  | _ => ("MuleRoad$Train", "packs", "I", false)
def tyX9 : Nat → FieldType := fun k => match k with
  | 0 => .array (.object "MuleRoad$Mule")
  | 1 => .int
  | 2 => .int
  | 3 => .boolean
  | 4 => .int
  | _ => .int
theorem nmX9 : ∀ a, a < 6 → ∀ b, b < 6 → a ≠ b → (TX9 a).2.1 ≠ (TX9 b).2.1 := by decide +kernel
theorem tyX9_ok : ∀ k, k < 6 → parseFieldDescriptor (TX9 k).2.2.1 = some (tyX9 k) := by decide +kernel
abbrev cX9_init : ByteArray := prog_11_method_1_code
def yX9_init : MethodName := ⟨RX9, "<init>", "(IIII)V"⟩
abbrev cX9_muleAt : ByteArray := prog_11_method_2_code
def yX9_muleAt : MethodName := ⟨RX9, "muleAt", "(I)LMuleRoad$Mule;"⟩
abbrev cX9_isFit : ByteArray := prog_11_method_3_code
def yX9_isFit : MethodName := ⟨RX9, "isFit", "()Z"⟩
abbrev cX9_leave : ByteArray := prog_11_method_4_code
def yX9_leave : MethodName := ⟨RX9, "leave", "(IZI)V"⟩
abbrev cX9_goThrough : ByteArray := prog_11_method_5_code
def yX9_goThrough : MethodName := ⟨RX9, "goThrough", "(II)V"⟩
abbrev cX9_arrive : ByteArray := prog_11_method_6_code
def yX9_arrive : MethodName := ⟨RX9, "arrive", "()V"⟩
def RX10 : String := "MuleRoad"
def TX10 : u_T := fun k => match k with
  | 0 => ("MuleRoad", "road", "LMuleRoad$Road;", true)
  | 1 => ("MuleRoad", "trains", "[LMuleRoad$Train;", true)
  | 2 => ("MuleRoad", "packs", "[LMuleRoad$Pack;", true)
  | 3 => ("MuleRoad", "bargains", "[LMuleRoad$Bargain;", true)
  | 4 => ("MuleRoad", "moves", "LMuleRoad$Moves;", true)
  | 5 => ("MuleRoad", "tape", "LMuleRoad$Tape;", true)
  | 6 => ("MuleRoad", "parser", "LMuleRoad$Parser;", true)
  | 7 => ("MuleRoad", "bestLoad", "LMuleRoad$BestLoad;", true)
  | 8 => ("MuleRoad", "trainCount", "I", false)
  | 9 => ("MuleRoad", "packCount", "I", false)
  | 10 => ("MuleRoad", "bargainCount", "I", false)
  | 11 => ("MuleRoad", "faultPlace", "I", false)
  | _ => ("MuleRoad", "hour", "I", false)
def tyX10 : Nat → FieldType := fun k => match k with
  | 0 => .object "MuleRoad$Road"
  | 1 => .array (.object "MuleRoad$Train")
  | 2 => .array (.object "MuleRoad$Pack")
  | 3 => .array (.object "MuleRoad$Bargain")
  | 4 => .object "MuleRoad$Moves"
  | 5 => .object "MuleRoad$Tape"
  | 6 => .object "MuleRoad$Parser"
  | 7 => .object "MuleRoad$BestLoad"
  | 8 => .int
  | 9 => .int
  | 10 => .int
  | 11 => .int
  | _ => .int
theorem nmX10 : ∀ a, a < 13 → ∀ b, b < 13 → a ≠ b → (TX10 a).2.1 ≠ (TX10 b).2.1 := by decide +kernel
theorem tyX10_ok : ∀ k, k < 13 → parseFieldDescriptor (TX10 k).2.2.1 = some (tyX10 k) := by decide +kernel
abbrev cX10_init : ByteArray := prog_1_method_1_code
def yX10_init : MethodName := ⟨RX10, "<init>", "()V"⟩
abbrev cX10_inn : ByteArray := prog_1_method_2_code
def yX10_inn : MethodName := ⟨RX10, "inn", "(IIZ)I"⟩
abbrev cX10_string : ByteArray := prog_1_method_3_code
def yX10_string : MethodName := ⟨RX10, "string", "(IIII)I"⟩
abbrev cX10_snow : ByteArray := prog_1_method_4_code
def yX10_snow : MethodName := ⟨RX10, "snow", "(III)I"⟩
abbrev cX10_shut : ByteArray := prog_1_method_5_code
def yX10_shut : MethodName := ⟨RX10, "shut", "(III)I"⟩
abbrev cX10_pack : ByteArray := prog_1_method_6_code
def yX10_pack : MethodName := ⟨RX10, "pack", "(IIII)I"⟩
abbrev cX10_lay : ByteArray := prog_1_method_7_code
def yX10_lay : MethodName := ⟨RX10, "lay", "(IIII)I"⟩
abbrev cX10_down : ByteArray := prog_1_method_8_code
def yX10_down : MethodName := ⟨RX10, "down", "(I)I"⟩
abbrev cX10_go : ByteArray := prog_1_method_9_code
def yX10_go : MethodName := ⟨RX10, "go", "(IZ)I"⟩
abbrev cX10_hours : ByteArray := prog_1_method_10_code
def yX10_hours : MethodName := ⟨RX10, "hours", "(I)I"⟩
abbrev cX10_best : ByteArray := prog_1_method_11_code
def yX10_best : MethodName := ⟨RX10, "best", "(II)I"⟩
abbrev cX10_bestOf : ByteArray := prog_1_method_12_code
def yX10_bestOf : MethodName := ⟨RX10, "bestOf", "(III)I"⟩
abbrev cX10_feed : ByteArray := prog_1_method_13_code
def yX10_feed : MethodName := ⟨RX10, "feed", "(IIIII)I"⟩
abbrev cX10_end : ByteArray := prog_1_method_14_code
def yX10_end : MethodName := ⟨RX10, "end", "(I)I"⟩
abbrev cX10_bargain : ByteArray := prog_1_method_15_code
def yX10_bargain : MethodName := ⟨RX10, "bargain", "()I"⟩
abbrev cX10_place : ByteArray := prog_1_method_16_code
def yX10_place : MethodName := ⟨RX10, "place", "()I"⟩
abbrev cX10_stringOf : ByteArray := prog_1_method_17_code
def yX10_stringOf : MethodName := ⟨RX10, "stringOf", "(II)I"⟩
abbrev cX10_muleOf : ByteArray := prog_1_method_18_code
def yX10_muleOf : MethodName := ⟨RX10, "muleOf", "(III)I"⟩
abbrev cX10_of : ByteArray := prog_1_method_19_code
def yX10_of : MethodName := ⟨RX10, "of", "(II)I"⟩
abbrev cX10_brought : ByteArray := prog_1_method_20_code
def yX10_brought : MethodName := ⟨RX10, "brought", "(I)I"⟩
abbrev cX10_was : ByteArray := prog_1_method_21_code
def yX10_was : MethodName := ⟨RX10, "was", "(II)I"⟩
abbrev cX10_count : ByteArray := prog_1_method_22_code
def yX10_count : MethodName := ⟨RX10, "count", "(I)I"⟩
abbrev cX10_isHour : ByteArray := prog_1_method_23_code
def yX10_isHour : MethodName := ⟨RX10, "isHour", "(I)Z"⟩
abbrev cX10_isStrength : ByteArray := prog_1_method_24_code
def yX10_isStrength : MethodName := ⟨RX10, "isStrength", "(I)Z"⟩
abbrev cX10_trainAt : ByteArray := prog_1_method_25_code
def yX10_trainAt : MethodName := ⟨RX10, "trainAt", "(I)LMuleRoad$Train;"⟩
abbrev cX10_packAt : ByteArray := prog_1_method_26_code
def yX10_packAt : MethodName := ⟨RX10, "packAt", "(I)LMuleRoad$Pack;"⟩
abbrev cX10_isTaken : ByteArray := prog_1_method_27_code
def yX10_isTaken : MethodName := ⟨RX10, "isTaken", "(I)Z"⟩
abbrev cX10_passHour : ByteArray := prog_1_method_28_code
def yX10_passHour : MethodName := ⟨RX10, "passHour", "()V"⟩
abbrev cX10_holdPacks : ByteArray := prog_1_method_29_code
def yX10_holdPacks : MethodName := ⟨RX10, "holdPacks", "(I)V"⟩
abbrev cX10_innOf : ByteArray := prog_1_method_30_code
def yX10_innOf : MethodName := ⟨RX10, "innOf", "(LMuleRoad$Pack;)I"⟩
abbrev cX10_findBest : ByteArray := prog_1_method_31_code
def yX10_findBest : MethodName := ⟨RX10, "findBest", "(II)Z"⟩
abbrev cX10_bargainIn : ByteArray := prog_1_method_32_code
def yX10_bargainIn : MethodName := ⟨RX10, "bargainIn", "(I)I"⟩
abbrev cX10_payFor : ByteArray := prog_1_method_33_code
def yX10_payFor : MethodName := ⟨RX10, "payFor", "(LMuleRoad$Pack;)I"⟩
abbrev cX10_packsThatAre : ByteArray := prog_1_method_34_code
def yX10_packsThatAre : MethodName := ⟨RX10, "packsThatAre", "(I)I"⟩
abbrev cX10_payOfAll : ByteArray := prog_1_method_35_code
def yX10_payOfAll : MethodName := ⟨RX10, "payOfAll", "()I"⟩
def RX11 : String := "MuleRoadModel"
def TX11 : u_T := fun k => match k with
  | 0 => ("MuleRoadModel", "thrown", "I", false)
  | 1 => ("MuleRoadModel", "hour", "I", false)
  | 2 => ("MuleRoadModel", "inns", "I", false)
  | 3 => ("MuleRoadModel", "legHours", "[I", true)
  | 4 => ("MuleRoadModel", "legClimbs", "[I", true)
  | 5 => ("MuleRoadModel", "isLedge", "[Z", true)
  | 6 => ("MuleRoadModel", "snows", "I", false)
  | 7 => ("MuleRoadModel", "snowLeg", "[I", true)
  | 8 => ("MuleRoadModel", "snowFrom", "[I", true)
  | 9 => ("MuleRoadModel", "snowTo", "[I", true)
  | 10 => ("MuleRoadModel", "snowTold", "[I", true)
  | 11 => ("MuleRoadModel", "strings", "I", false)
  | 12 => ("MuleRoadModel", "atInn", "[I", true)
  | 13 => ("MuleRoadModel", "onLeg", "[I", true)
  | 14 => ("MuleRoadModel", "isUp", "[Z", true)
  | 15 => ("MuleRoadModel", "arrives", "[I", true)
  | 16 => ("MuleRoadModel", "strength", "[I", true)
  | 17 => ("MuleRoadModel", "tired", "[I", true)
  | 18 => ("MuleRoadModel", "isLame", "[Z", true)
  | 19 => ("MuleRoadModel", "lameSince", "[I", true)
  | 20 => ("MuleRoadModel", "packs", "I", false)
  | 21 => ("MuleRoadModel", "kind", "[I", true)
  | 22 => ("MuleRoadModel", "weight", "[I", true)
  | 23 => ("MuleRoadModel", "target", "[I", true)
  | 24 => ("MuleRoadModel", "state", "[I", true)
  | 25 => ("MuleRoadModel", "inn", "[I", true)
  | 26 => ("MuleRoadModel", "mule", "[I", true)
  | 27 => ("MuleRoadModel", "spot", "[I", true)
  | 28 => ("MuleRoadModel", "came", "[I", true)
  | 29 => ("MuleRoadModel", "delivered", "[I", true)
  | 30 => ("MuleRoadModel", "held", "[I", true)
  | 31 => ("MuleRoadModel", "changes", "I", false)
  | 32 => ("MuleRoadModel", "changePack", "[I", true)
  | 33 => ("MuleRoadModel", "changeHour", "[I", true)
  | 34 => ("MuleRoadModel", "changeTo", "[I", true)
  | 35 => ("MuleRoadModel", "look", "[I", true)
  | 36 => ("MuleRoadModel", "looks", "I", false)
  | 37 => ("MuleRoadModel", "tried", "[I", true)
  | 38 => ("MuleRoadModel", "chosen", "[I", true)
  | 39 => ("MuleRoadModel", "bestLoad", "I", false)
  | 40 => ("MuleRoadModel", "bestMany", "I", false)
  | 41 => ("MuleRoadModel", "tape", "[B", true)
  | 42 => ("MuleRoadModel", "taped", "I", false)
  | 43 => ("MuleRoadModel", "at", "I", false)
  | 44 => ("MuleRoadModel", "place", "I", false)
  | 45 => ("MuleRoadModel", "sort", "I", false)
  | 46 => ("MuleRoadModel", "value", "I", false)
  | 47 => ("MuleRoadModel", "fault", "I", false)
  | 48 => ("MuleRoadModel", "faultPlace", "I", false)
  | 49 => ("MuleRoadModel", "lastPlace", "I", false)
  | 50 => ("MuleRoadModel", "bargains", "I", false)
  | 51 => ("MuleRoadModel", "toldIn", "[I", true)
  | 52 => ("MuleRoadModel", "rules", "[I", true)
  | 53 => ("MuleRoadModel", "terms", "[I", true)
  | 54 => ("MuleRoadModel", "brings", "[I", true)
  | 55 => ("MuleRoadModel", "termWhat", "[I", true)
  | 56 => ("MuleRoadModel", "termSign", "[I", true)
  | _ => ("MuleRoadModel", "termNumber", "[I", true)
def tyX11 : Nat → FieldType := fun k => match k with
  | 0 => .int
  | 1 => .int
  | 2 => .int
  | 3 => .array .int
  | 4 => .array .int
  | 5 => .array .boolean
  | 6 => .int
  | 7 => .array .int
  | 8 => .array .int
  | 9 => .array .int
  | 10 => .array .int
  | 11 => .int
  | 12 => .array .int
  | 13 => .array .int
  | 14 => .array .boolean
  | 15 => .array .int
  | 16 => .array .int
  | 17 => .array .int
  | 18 => .array .boolean
  | 19 => .array .int
  | 20 => .int
  | 21 => .array .int
  | 22 => .array .int
  | 23 => .array .int
  | 24 => .array .int
  | 25 => .array .int
  | 26 => .array .int
  | 27 => .array .int
  | 28 => .array .int
  | 29 => .array .int
  | 30 => .array .int
  | 31 => .int
  | 32 => .array .int
  | 33 => .array .int
  | 34 => .array .int
  | 35 => .array .int
  | 36 => .int
  | 37 => .array .int
  | 38 => .array .int
  | 39 => .int
  | 40 => .int
  | 41 => .array .byte
  | 42 => .int
  | 43 => .int
  | 44 => .int
  | 45 => .int
  | 46 => .int
  | 47 => .int
  | 48 => .int
  | 49 => .int
  | 50 => .int
  | 51 => .array .int
  | 52 => .array .int
  | 53 => .array .int
  | 54 => .array .int
  | 55 => .array .int
  | 56 => .array .int
  | _ => .array .int
theorem nmX11 : ∀ a, a < 58 → ∀ b, b < 58 → a ≠ b → (TX11 a).2.1 ≠ (TX11 b).2.1 := by decide +kernel
theorem tyX11_ok : ∀ k, k < 58 → parseFieldDescriptor (TX11 k).2.2.1 = some (tyX11 k) := by decide +kernel
abbrev cX11_thrown : ByteArray := prog_13_method_1_code
def yX11_thrown : MethodName := ⟨RX11, "thrown", "()I"⟩
abbrev cX11_within : ByteArray := prog_13_method_2_code
def yX11_within : MethodName := ⟨RX11, "within", "(III)Z"⟩
abbrev cX11_init : ByteArray := prog_13_method_3_code
def yX11_init : MethodName := ⟨RX11, "<init>", "()V"⟩
abbrev cX11_inn : ByteArray := prog_13_method_4_code
def yX11_inn : MethodName := ⟨RX11, "inn", "(IIZ)I"⟩
abbrev cX11_isInn : ByteArray := prog_13_method_5_code
def yX11_isInn : MethodName := ⟨RX11, "isInn", "(I)Z"⟩
abbrev cX11_isLeg : ByteArray := prog_13_method_6_code
def yX11_isLeg : MethodName := ⟨RX11, "isLeg", "(I)Z"⟩
abbrev cX11_snow : ByteArray := prog_13_method_7_code
def yX11_snow : MethodName := ⟨RX11, "snow", "(III)I"⟩
abbrev cX11_isShut : ByteArray := prog_13_method_8_code
def yX11_isShut : MethodName := ⟨RX11, "isShut", "(III)Z"⟩
abbrev cX11_shut : ByteArray := prog_13_method_9_code
def yX11_shut : MethodName := ⟨RX11, "shut", "(III)I"⟩
abbrev cX11_string : ByteArray := prog_13_method_10_code
def yX11_string : MethodName := ⟨RX11, "string", "(IIII)I"⟩
abbrev cX11_isString : ByteArray := prog_13_method_11_code
def yX11_isString : MethodName := ⟨RX11, "isString", "(I)Z"⟩
abbrev cX11_change : ByteArray := prog_13_method_12_code
def yX11_change : MethodName := ⟨RX11, "change", "(II)V"⟩
abbrev cX11_pack : ByteArray := prog_13_method_13_code
def yX11_pack : MethodName := ⟨RX11, "pack", "(IIII)I"⟩
abbrev cX11_isPack : ByteArray := prog_13_method_14_code
def yX11_isPack : MethodName := ⟨RX11, "isPack", "(I)Z"⟩
abbrev cX11_load : ByteArray := prog_13_method_15_code
def yX11_load : MethodName := ⟨RX11, "load", "(II)I"⟩
abbrev cX11_top : ByteArray := prog_13_method_16_code
def yX11_top : MethodName := ⟨RX11, "top", "(I)I"⟩
abbrev cX11_lay : ByteArray := prog_13_method_17_code
def yX11_lay : MethodName := ⟨RX11, "lay", "(IIII)I"⟩
abbrev cX11_down : ByteArray := prog_13_method_18_code
def yX11_down : MethodName := ⟨RX11, "down", "(I)I"⟩
abbrev cX11_isEven : ByteArray := prog_13_method_19_code
def yX11_isEven : MethodName := ⟨RX11, "isEven", "(I)Z"⟩
abbrev cX11_go : ByteArray := prog_13_method_20_code
def yX11_go : MethodName := ⟨RX11, "go", "(IZ)I"⟩
abbrev cX11_tires : ByteArray := prog_13_method_21_code
def yX11_tires : MethodName := ⟨RX11, "tires", "(I)V"⟩
abbrev cX11_rests : ByteArray := prog_13_method_22_code
def yX11_rests : MethodName := ⟨RX11, "rests", "(I)V"⟩
abbrev cX11_innOf : ByteArray := prog_13_method_23_code
def yX11_innOf : MethodName := ⟨RX11, "innOf", "(I)I"⟩
abbrev cX11_holds : ByteArray := prog_13_method_24_code
def yX11_holds : MethodName := ⟨RX11, "holds", "()V"⟩
abbrev cX11_goes : ByteArray := prog_13_method_25_code
def yX11_goes : MethodName := ⟨RX11, "goes", "()V"⟩
abbrev cX11_hours : ByteArray := prog_13_method_26_code
def yX11_hours : MethodName := ⟨RX11, "hours", "(I)I"⟩
abbrev cX11_tries : ByteArray := prog_13_method_27_code
def yX11_tries : MethodName := ⟨RX11, "tries", "(IIIII)V"⟩
abbrev cX11_finds : ByteArray := prog_13_method_28_code
def yX11_finds : MethodName := ⟨RX11, "finds", "(II)Z"⟩
abbrev cX11_best : ByteArray := prog_13_method_29_code
def yX11_best : MethodName := ⟨RX11, "best", "(II)I"⟩
abbrev cX11_bestOf : ByteArray := prog_13_method_30_code
def yX11_bestOf : MethodName := ⟨RX11, "bestOf", "(III)I"⟩
abbrev cX11_feed : ByteArray := prog_13_method_31_code
def yX11_feed : MethodName := ⟨RX11, "feed", "(IIIII)I"⟩
abbrev cX11_end : ByteArray := prog_13_method_32_code
def yX11_end : MethodName := ⟨RX11, "end", "(I)I"⟩
abbrev cX11_see : ByteArray := prog_13_method_33_code
def yX11_see : MethodName := ⟨RX11, "see", "(I)I"⟩
abbrev cX11_isSmall : ByteArray := prog_13_method_34_code
def yX11_isSmall : MethodName := ⟨RX11, "isSmall", "(I)Z"⟩
abbrev cX11_isDigit : ByteArray := prog_13_method_35_code
def yX11_isDigit : MethodName := ⟨RX11, "isDigit", "(I)Z"⟩
abbrev cX11_next : ByteArray := prog_13_method_36_code
def yX11_next : MethodName := ⟨RX11, "next", "()V"⟩
abbrev cX11_isWord : ByteArray := prog_13_method_37_code
def yX11_isWord : MethodName := ⟨RX11, "isWord", "(Ljava/lang/String;)Z"⟩
abbrev cX11_is : ByteArray := prog_13_method_38_code
def yX11_is : MethodName := ⟨RX11, "is", "(I)Z"⟩
abbrev cX11_fails : ByteArray := prog_13_method_39_code
def yX11_fails : MethodName := ⟨RX11, "fails", "(I)V"⟩
abbrev cX11_isWell : ByteArray := prog_13_method_40_code
def yX11_isWell : MethodName := ⟨RX11, "isWell", "()Z"⟩
abbrev cX11_word : ByteArray := prog_13_method_41_code
def yX11_word : MethodName := ⟨RX11, "word", "()I"⟩
abbrev cX11_term : ByteArray := prog_13_method_42_code
def yX11_term : MethodName := ⟨RX11, "term", "(I)V"⟩
abbrev cX11_number : ByteArray := prog_13_method_43_code
def yX11_number : MethodName := ⟨RX11, "number", "()I"⟩
abbrev cX11_want : ByteArray := prog_13_method_44_code
def yX11_want : MethodName := ⟨RX11, "want", "(I)V"⟩
abbrev cX11_rule : ByteArray := prog_13_method_45_code
def yX11_rule : MethodName := ⟨RX11, "rule", "()V"⟩
abbrev cX11_bargain : ByteArray := prog_13_method_46_code
def yX11_bargain : MethodName := ⟨RX11, "bargain", "()I"⟩
abbrev cX11_place : ByteArray := prog_13_method_47_code
def yX11_place : MethodName := ⟨RX11, "place", "()I"⟩
abbrev cX11_bargainOf : ByteArray := prog_13_method_48_code
def yX11_bargainOf : MethodName := ⟨RX11, "bargainOf", "(I)I"⟩
abbrev cX11_holds_ : ByteArray := prog_13_method_49_code
def yX11_holds_ : MethodName := ⟨RX11, "holds", "(II)Z"⟩
abbrev cX11_worth : ByteArray := prog_13_method_50_code
def yX11_worth : MethodName := ⟨RX11, "worth", "(I)I"⟩
abbrev cX11_brought : ByteArray := prog_13_method_51_code
def yX11_brought : MethodName := ⟨RX11, "brought", "(I)I"⟩
abbrev cX11_packsOn : ByteArray := prog_13_method_52_code
def yX11_packsOn : MethodName := ⟨RX11, "packsOn", "(I)I"⟩
abbrev cX11_stringOf : ByteArray := prog_13_method_53_code
def yX11_stringOf : MethodName := ⟨RX11, "stringOf", "(II)I"⟩
abbrev cX11_muleOf : ByteArray := prog_13_method_54_code
def yX11_muleOf : MethodName := ⟨RX11, "muleOf", "(III)I"⟩
abbrev cX11_of : ByteArray := prog_13_method_55_code
def yX11_of : MethodName := ⟨RX11, "of", "(II)I"⟩
abbrev cX11_was : ByteArray := prog_13_method_56_code
def yX11_was : MethodName := ⟨RX11, "was", "(II)I"⟩
abbrev cX11_many : ByteArray := prog_13_method_57_code
def yX11_many : MethodName := ⟨RX11, "many", "(I)I"⟩
abbrev cX11_allBrought : ByteArray := prog_13_method_58_code
def yX11_allBrought : MethodName := ⟨RX11, "allBrought", "()I"⟩
abbrev cX11_count : ByteArray := prog_13_method_59_code
def yX11_count : MethodName := ⟨RX11, "count", "(I)I"⟩
def RJ9 : String := "java/lang/Math"
def TJ9 : u_T := fun k => match k with
  | _ => ("", "", "", false)
def tyJ9 : Nat → FieldType := fun k => match k with
  | _ => .int
abbrev cJ9_abs_0f7a4 : ByteArray := prog_15_method_59_code
def yJ9_abs_0f7a4 : MethodName := ⟨RJ9, "abs", "(I)I"⟩
abbrev cJ9_max_7cf53 : ByteArray := prog_15_method_65_code
def yJ9_max_7cf53 : MethodName := ⟨RJ9, "max", "(II)I"⟩
abbrev cJ9_min_7cf53 : ByteArray := prog_15_method_69_code
def yJ9_min_7cf53 : MethodName := ⟨RJ9, "min", "(II)I"⟩
def RJ0 : String := "java/lang/String"
def TJ0 : u_T := fun k => match k with
  | _ => ("", "", "", false)
def tyJ0 : Nat → FieldType := fun k => match k with
  | _ => .int
abbrev cJ0_length_8abf5 : ByteArray := prog_17_method_54_code
def yJ0_length_8abf5 : MethodName := ⟨RJ0, "length", "()I"⟩
abbrev cJ0_charAt_5068e : ByteArray := prog_17_method_56_code
def yJ0_charAt_5068e : MethodName := ⟨RJ0, "charAt", "(I)C"⟩
abbrev cJ0_coder_7d493 : ByteArray := prog_17_method_152_code
def yJ0_coder_7d493 : MethodName := ⟨RJ0, "coder", "()B"⟩
abbrev cJ0_isLatin1_aae02 : ByteArray := prog_17_method_154_code
def yJ0_isLatin1_aae02 : MethodName := ⟨RJ0, "isLatin1", "()Z"⟩
abbrev cJ0_checkIndex_df160 : ByteArray := prog_17_method_155_code
def yJ0_checkIndex_df160 : MethodName := ⟨RJ0, "checkIndex", "(II)V"⟩
def RJ1 : String := "java/lang/StringLatin1"
def TJ1 : u_T := fun k => match k with
  | _ => ("", "", "", false)
def tyJ1 : Nat → FieldType := fun k => match k with
  | _ => .int
abbrev cJ1_charAt_3b067 : ByteArray := prog_18_method_2_code
def yJ1_charAt_3b067 : MethodName := ⟨RJ1, "charAt", "([BI)C"⟩
def RJ2 : String := "java/lang/StringUTF16"
def TJ2 : u_T := fun k => match k with
  | _ => ("", "", "", false)
def tyJ2 : Nat → FieldType := fun k => match k with
  | _ => .int
abbrev cJ2_getChar_3b067 : ByteArray := prog_19_method_5_code
def yJ2_getChar_3b067 : MethodName := ⟨RJ2, "getChar", "([BI)C"⟩
abbrev cJ2_length_9d52b : ByteArray := prog_19_method_6_code
def yJ2_length_9d52b : MethodName := ⟨RJ2, "length", "([B)I"⟩
abbrev cJ2_charAt_3b067 : ByteArray := prog_19_method_83_code
def yJ2_charAt_3b067 : MethodName := ⟨RJ2, "charAt", "([BI)C"⟩
abbrev cJ2_checkIndex_2214a : ByteArray := prog_19_method_91_code
def yJ2_checkIndex_2214a : MethodName := ⟨RJ2, "checkIndex", "(I[B)V"⟩
def RJ3 : String := "jdk/internal/util/Preconditions"
def TJ3 : u_T := fun k => match k with
  | _ => ("", "", "", false)
def tyJ3 : Nat → FieldType := fun k => match k with
  | _ => .int
abbrev cJ3_checkIndex_8e157 : ByteArray := prog_22_method_11_code
def yJ3_checkIndex_8e157 : MethodName := ⟨RJ3, "checkIndex", "(IILjava/util/function/BiFunction;)I"⟩
def RL : String := "MuleRoadLaw"
abbrev cL_brought : ByteArray := method_3_code
def yL_brought : MethodName := ⟨RL, "brought", "(LMuleRoad;I[J)I"⟩
abbrev cL_law : ByteArray := code
def yL_law : MethodName := ⟨RL, "law", "([I)Z"⟩
end
section
abbrev q_V : Type := Value ⊕ (Nat × Nat)
abbrev q_H : Type := (Nat → Nat → Nat → Int32) × (Nat → Nat → Nat → Option (Nat × Nat)) × (Nat → Nat)
abbrev q_M : Type := MethodName × ByteArray × Nat × Option FieldType
abbrev q_G : Type := Launch × va_G × (FieldType → ClassId) × Nat × (State → Prop)
abbrev q_I (x : Int32) : q_V := .inl (.int x)
abbrev q_J (x : Int64) : q_V := .inl (.long x)
abbrev q_N : q_V := .inl .null
abbrev q_O (c i : Nat) : q_V := .inr (c, i)
def q_cl : List vw_C := [(RX0, TX0, 8), (RX1, TX1, 9), (RX2, TX2, 4), (RX3, TX3, 8), (RX4, TX4, 10), (RX5, TX5, 6), (RX6, TX6, 9), (RX7, TX7, 2), (RX8, TX8, 7), (RX9, TX9, 6), (RX10, TX10, 13), (RX11, TX11, 58)]
def q_ty (c : Nat) : Nat → FieldType := match c with
  | 0 => tyX0
  | 1 => tyX1
  | 2 => tyX2
  | 3 => tyX3
  | 4 => tyX4
  | 5 => tyX5
  | 6 => tyX6
  | 7 => tyX7
  | 8 => tyX8
  | 9 => tyX9
  | 10 => tyX10
  | 11 => tyX11
  | _ => fun _ => .int
def q_pk (c : Nat) : Option (FieldType × Nat) := match c with
  | 12 => some (.int, 20)
  | 13 => some (.int, 20)
  | 14 => some (.int, 80)
  | 15 => some (.int, 80)
  | 16 => some (.int, 80)
  | 17 => some (.int, 10)
  | 18 => some (.int, 10)
  | 19 => some (.int, 11)
  | 20 => some (.int, 10)
  | 21 => some (.int, 10)
  | 22 => some (.int, 512)
  | 23 => some (.int, 512)
  | 24 => some (.int, 512)
  | 25 => some (.int, 6)
  | 26 => some (.int, 6)
  | 27 => some (.boolean, 6)
  | 28 => some (.int, 60)
  | 29 => some (.int, 60)
  | 30 => some (.int, 60)
  | 31 => some (.int, 60)
  | 32 => some (.int, 400)
  | 33 => some (.int, 401)
  | 34 => some (.int, 401)
  | 35 => some (.int, 401)
  | 36 => some ((.object "MuleRoad$Mule"), 3)
  | 37 => some ((.object "MuleRoad$Train"), 4)
  | 38 => some ((.object "MuleRoad$Pack"), 100)
  | 39 => some ((.object "MuleRoad$Bargain"), 10)
  | 40 => some (.int, 6)
  | 41 => some (.int, 6)
  | 42 => some (.boolean, 6)
  | 43 => some (.int, 60)
  | 44 => some (.int, 60)
  | 45 => some (.int, 60)
  | 46 => some (.int, 60)
  | 47 => some (.int, 4)
  | 48 => some (.int, 4)
  | 49 => some (.boolean, 4)
  | 50 => some (.int, 4)
  | 51 => some (.int, 12)
  | 52 => some (.int, 12)
  | 53 => some (.boolean, 12)
  | 54 => some (.int, 12)
  | 55 => some (.int, 100)
  | 56 => some (.int, 100)
  | 57 => some (.int, 100)
  | 58 => some (.int, 100)
  | 59 => some (.int, 100)
  | 60 => some (.int, 100)
  | 61 => some (.int, 100)
  | 62 => some (.int, 100)
  | 63 => some (.int, 100)
  | 64 => some (.int, 100)
  | 65 => some (.int, 700)
  | 66 => some (.int, 700)
  | 67 => some (.int, 700)
  | 68 => some (.int, 10)
  | 69 => some (.int, 10)
  | 70 => some (.int, 10)
  | 71 => some (.byte, 400)
  | 72 => some (.int, 11)
  | 73 => some (.int, 11)
  | 74 => some (.int, 220)
  | 75 => some (.int, 220)
  | 76 => some (.int, 880)
  | 77 => some (.int, 880)
  | 78 => some (.int, 880)
  | 79 => some (.long, 1)
  | _ => none
def q_gw : List Cond := lw_tbl.filter goodWord
def q_isN (w : Cond) : Bool := match w with
  | .fieldLinkNest _ _ _ _ _ _ => true
  | .methodLinkNest _ _ _ _ => true
  | _ => false
def q_nw : List Cond := lw_tbl.filter q_isN
def q_ov : List String := ["MuleRoad$Mule", "MuleRoad$Train", "MuleRoad$Pack", "MuleRoad$Bargain"]
def q_wy (y : q_M) : List Cond := .code y.1 y.2.1 y.2.2.1 y.2.2.2 :: q_gw
theorem q_in {w : Cond} (h1 : w ∈ lw_tbl) (h2 : goodWord w = true) : w ∈ q_gw := List.mem_filter.mpr ⟨h1, h2⟩
theorem q_inN {w : Cond} (h1 : w ∈ lw_tbl) (h2 : q_isN w = true) : w ∈ q_nw := List.mem_filter.mpr ⟨h1, h2⟩
theorem q_lay0 : ∀ w ∈ u_ws RX0 TX0 8, w ∈ q_gw := by
  intro w hw
  have h1 : (u_ws RX0 TX0 8).all (fun w => decide (w ∈ lw_tbl) && goodWord w) = true := by decide +kernel
  have h2 := List.all_eq_true.mp h1 w hw
  simp only [Bool.and_eq_true, decide_eq_true_eq] at h2
  exact q_in h2.1 h2.2
theorem q_nf0 : ∀ k, k < 8 → q_ty 0 k ≠ .float ∧ q_ty 0 k ≠ .double := by decide +kernel
theorem q_lay1 : ∀ w ∈ u_ws RX1 TX1 9, w ∈ q_gw := by
  intro w hw
  have h1 : (u_ws RX1 TX1 9).all (fun w => decide (w ∈ lw_tbl) && goodWord w) = true := by decide +kernel
  have h2 := List.all_eq_true.mp h1 w hw
  simp only [Bool.and_eq_true, decide_eq_true_eq] at h2
  exact q_in h2.1 h2.2
theorem q_nf1 : ∀ k, k < 9 → q_ty 1 k ≠ .float ∧ q_ty 1 k ≠ .double := by decide +kernel
theorem q_lay2 : ∀ w ∈ u_ws RX2 TX2 4, w ∈ q_gw := by
  intro w hw
  have h1 : (u_ws RX2 TX2 4).all (fun w => decide (w ∈ lw_tbl) && goodWord w) = true := by decide +kernel
  have h2 := List.all_eq_true.mp h1 w hw
  simp only [Bool.and_eq_true, decide_eq_true_eq] at h2
  exact q_in h2.1 h2.2
theorem q_nf2 : ∀ k, k < 4 → q_ty 2 k ≠ .float ∧ q_ty 2 k ≠ .double := by decide +kernel
theorem q_lay3 : ∀ w ∈ u_ws RX3 TX3 8, w ∈ q_gw := by
  intro w hw
  have h1 : (u_ws RX3 TX3 8).all (fun w => decide (w ∈ lw_tbl) && goodWord w) = true := by decide +kernel
  have h2 := List.all_eq_true.mp h1 w hw
  simp only [Bool.and_eq_true, decide_eq_true_eq] at h2
  exact q_in h2.1 h2.2
theorem q_nf3 : ∀ k, k < 8 → q_ty 3 k ≠ .float ∧ q_ty 3 k ≠ .double := by decide +kernel
theorem q_lay4 : ∀ w ∈ u_ws RX4 TX4 10, w ∈ q_gw := by
  intro w hw
  have h1 : (u_ws RX4 TX4 10).all (fun w => decide (w ∈ lw_tbl) && goodWord w) = true := by decide +kernel
  have h2 := List.all_eq_true.mp h1 w hw
  simp only [Bool.and_eq_true, decide_eq_true_eq] at h2
  exact q_in h2.1 h2.2
theorem q_nf4 : ∀ k, k < 10 → q_ty 4 k ≠ .float ∧ q_ty 4 k ≠ .double := by decide +kernel
theorem q_lay5 : ∀ w ∈ u_ws RX5 TX5 6, w ∈ q_gw := by
  intro w hw
  have h1 : (u_ws RX5 TX5 6).all (fun w => decide (w ∈ lw_tbl) && goodWord w) = true := by decide +kernel
  have h2 := List.all_eq_true.mp h1 w hw
  simp only [Bool.and_eq_true, decide_eq_true_eq] at h2
  exact q_in h2.1 h2.2
theorem q_nf5 : ∀ k, k < 6 → q_ty 5 k ≠ .float ∧ q_ty 5 k ≠ .double := by decide +kernel
theorem q_lay6 : ∀ w ∈ u_ws RX6 TX6 9, w ∈ q_gw := by
  intro w hw
  have h1 : (u_ws RX6 TX6 9).all (fun w => decide (w ∈ lw_tbl) && goodWord w) = true := by decide +kernel
  have h2 := List.all_eq_true.mp h1 w hw
  simp only [Bool.and_eq_true, decide_eq_true_eq] at h2
  exact q_in h2.1 h2.2
theorem q_nf6 : ∀ k, k < 9 → q_ty 6 k ≠ .float ∧ q_ty 6 k ≠ .double := by decide +kernel
theorem q_lay7 : ∀ w ∈ u_ws RX7 TX7 2, w ∈ q_gw := by
  intro w hw
  have h1 : (u_ws RX7 TX7 2).all (fun w => decide (w ∈ lw_tbl) && goodWord w) = true := by decide +kernel
  have h2 := List.all_eq_true.mp h1 w hw
  simp only [Bool.and_eq_true, decide_eq_true_eq] at h2
  exact q_in h2.1 h2.2
theorem q_nf7 : ∀ k, k < 2 → q_ty 7 k ≠ .float ∧ q_ty 7 k ≠ .double := by decide +kernel
theorem q_lay8 : ∀ w ∈ u_ws RX8 TX8 7, w ∈ q_gw := by
  intro w hw
  have h1 : (u_ws RX8 TX8 7).all (fun w => decide (w ∈ lw_tbl) && goodWord w) = true := by decide +kernel
  have h2 := List.all_eq_true.mp h1 w hw
  simp only [Bool.and_eq_true, decide_eq_true_eq] at h2
  exact q_in h2.1 h2.2
theorem q_nf8 : ∀ k, k < 7 → q_ty 8 k ≠ .float ∧ q_ty 8 k ≠ .double := by decide +kernel
theorem q_lay9 : ∀ w ∈ u_ws RX9 TX9 6, w ∈ q_gw := by
  intro w hw
  have h1 : (u_ws RX9 TX9 6).all (fun w => decide (w ∈ lw_tbl) && goodWord w) = true := by decide +kernel
  have h2 := List.all_eq_true.mp h1 w hw
  simp only [Bool.and_eq_true, decide_eq_true_eq] at h2
  exact q_in h2.1 h2.2
theorem q_nf9 : ∀ k, k < 6 → q_ty 9 k ≠ .float ∧ q_ty 9 k ≠ .double := by decide +kernel
theorem q_lay10 : ∀ w ∈ u_ws RX10 TX10 13, w ∈ q_gw := by
  intro w hw
  have h1 : (u_ws RX10 TX10 13).all (fun w => decide (w ∈ lw_tbl) && goodWord w) = true := by decide +kernel
  have h2 := List.all_eq_true.mp h1 w hw
  simp only [Bool.and_eq_true, decide_eq_true_eq] at h2
  exact q_in h2.1 h2.2
theorem q_nf10 : ∀ k, k < 13 → q_ty 10 k ≠ .float ∧ q_ty 10 k ≠ .double := by decide +kernel
theorem q_lay11 : ∀ w ∈ u_ws RX11 TX11 58, w ∈ q_gw := by
  intro w hw
  have h1 : (u_ws RX11 TX11 58).all (fun w => decide (w ∈ lw_tbl) && goodWord w) = true := by decide +kernel
  have h2 := List.all_eq_true.mp h1 w hw
  simp only [Bool.and_eq_true, decide_eq_true_eq] at h2
  exact q_in h2.1 h2.2
theorem q_nf11 : ∀ k, k < 58 → q_ty 11 k ≠ .float ∧ q_ty 11 k ≠ .double := by decide +kernel
def q_ok (c : Nat) (q : vw_C) : Prop := (∀ k, k < q.2.2 → parseFieldDescriptor (q.2.1 k).2.2.1 = some (q_ty c k)) ∧ (∀ a, a < q.2.2 → ∀ b, b < q.2.2 → a ≠ b → (q.2.1 a).2.1 ≠ (q.2.1 b).2.1) ∧ (∀ w ∈ u_ws q.1 q.2.1 q.2.2, w ∈ q_gw) ∧ ∀ k, k < q.2.2 → q_ty c k ≠ .float ∧ q_ty c k ≠ .double
theorem q_cl_ok : ∀ (c : Nat) (q : vw_C), q_cl[c]? = some q → q_ok c q := by
  intro c q hq
  match c, hq with
  | 0, hq => cases hq; exact ⟨tyX0_ok, nmX0, q_lay0, q_nf0⟩
  | 1, hq => cases hq; exact ⟨tyX1_ok, nmX1, q_lay1, q_nf1⟩
  | 2, hq => cases hq; exact ⟨tyX2_ok, nmX2, q_lay2, q_nf2⟩
  | 3, hq => cases hq; exact ⟨tyX3_ok, nmX3, q_lay3, q_nf3⟩
  | 4, hq => cases hq; exact ⟨tyX4_ok, nmX4, q_lay4, q_nf4⟩
  | 5, hq => cases hq; exact ⟨tyX5_ok, nmX5, q_lay5, q_nf5⟩
  | 6, hq => cases hq; exact ⟨tyX6_ok, nmX6, q_lay6, q_nf6⟩
  | 7, hq => cases hq; exact ⟨tyX7_ok, nmX7, q_lay7, q_nf7⟩
  | 8, hq => cases hq; exact ⟨tyX8_ok, nmX8, q_lay8, q_nf8⟩
  | 9, hq => cases hq; exact ⟨tyX9_ok, nmX9, q_lay9, q_nf9⟩
  | 10, hq => cases hq; exact ⟨tyX10_ok, nmX10, q_lay10, q_nf10⟩
  | 11, hq => cases hq; exact ⟨tyX11_ok, nmX11, q_lay11, q_nf11⟩
  | k + 12, hq => simp [q_cl] at hq
theorem q_cl_pk : ∀ (c : Nat) (q : vw_C), q_cl[c]? = some q → q_pk c = none := by
  intro c q hq
  match c, hq with
  | 0, hq => rfl
  | 1, hq => rfl
  | 2, hq => rfl
  | 3, hq => rfl
  | 4, hq => rfl
  | 5, hq => rfl
  | 6, hq => rfl
  | 7, hq => rfl
  | 8, hq => rfl
  | 9, hq => rfl
  | 10, hq => rfl
  | 11, hq => rfl
  | k + 12, hq => simp [q_cl] at hq
def q_fl (own : String) (idx c k : Nat) : Prop := ∃ q : vw_C, q_cl[c]? = some q ∧ k < q.2.2 ∧ (Cond.fieldLink own idx (q.2.1 k).1 (q.2.1 k).2.1 (q.2.1 k).2.2.1 ∈ q_gw ∨ ∃ host, Cond.fieldLinkNest own idx (q.2.1 k).1 (q.2.1 k).2.1 (q.2.1 k).2.2.1 host ∈ q_nw)
def q_lk (y y' : q_M) (idx : Nat) : Prop := Cond.methodLink y.1.cls idx y'.1 ∈ q_gw ∨ ∃ host, Cond.methodLinkNest y.1.cls idx y'.1 host ∈ q_nw
def q_nm (y' : q_M) (n : Nat) : Prop := Cond.initialized y'.1.cls ∈ q_gw ∧ Cond.code y'.1 y'.2.1 y'.2.2.1 y'.2.2.2 ∈ q_gw ∧ (y'.1.cls ≠ "java/lang/invoke/MethodHandle" ∧ y'.1.cls ≠ "java/lang/invoke/VarHandle" ∧ (parseMethodDescriptor y'.1.desc).map (fun d => d.parameters.length) = some n)
def q_mV (y' : q_M) (n : Nat) : Prop := q_nm y' n ∧ Cond.instanceMethod y'.1 ∈ q_gw ∧ Cond.selects y'.1.cls y'.1 y'.1 ∈ q_gw
def q_mS (y' : q_M) (n : Nat) : Prop := q_nm y' n ∧ Cond.static y'.1 ∈ q_gw
def q_mI (y' : q_M) (n : Nat) : Prop := q_nm y' n ∧ y'.1.name = "<init>" ∧ Cond.instanceMethod y'.1 ∈ q_gw ∧ y'.2.2.2 = none
end
section
def mJ0_charAt_5068e : q_M := (yJ0_charAt_5068e, cJ0_charAt_5068e, 2, (some .char))
def mJ0_checkIndex_df160 : q_M := (yJ0_checkIndex_df160, cJ0_checkIndex_df160, 2, none)
def mJ0_coder_7d493 : q_M := (yJ0_coder_7d493, cJ0_coder_7d493, 1, (some .byte))
def mJ0_isLatin1_aae02 : q_M := (yJ0_isLatin1_aae02, cJ0_isLatin1_aae02, 1, (some .boolean))
def mJ0_length_8abf5 : q_M := (yJ0_length_8abf5, cJ0_length_8abf5, 1, (some .int))
def mJ1_charAt_3b067 : q_M := (yJ1_charAt_3b067, cJ1_charAt_3b067, 2, (some .char))
def mJ2_charAt_3b067 : q_M := (yJ2_charAt_3b067, cJ2_charAt_3b067, 2, (some .char))
def mJ2_checkIndex_2214a : q_M := (yJ2_checkIndex_2214a, cJ2_checkIndex_2214a, 2, none)
def mJ2_getChar_3b067 : q_M := (yJ2_getChar_3b067, cJ2_getChar_3b067, 2, (some .char))
def mJ2_length_9d52b : q_M := (yJ2_length_9d52b, cJ2_length_9d52b, 1, (some .int))
def mJ3_checkIndex_8e157 : q_M := (yJ3_checkIndex_8e157, cJ3_checkIndex_8e157, 3, (some .int))
def mJ9_abs_0f7a4 : q_M := (yJ9_abs_0f7a4, cJ9_abs_0f7a4, 1, (some .int))
def mJ9_max_7cf53 : q_M := (yJ9_max_7cf53, cJ9_max_7cf53, 2, (some .int))
def mJ9_min_7cf53 : q_M := (yJ9_min_7cf53, cJ9_min_7cf53, 2, (some .int))
def mL_law : q_M := (yL_law, cL_law, 7, (some .boolean))
def mX0_addRule : q_M := (yX0_addRule, cX0_addRule, 2, none)
def mX0_addTerm : q_M := (yX0_addTerm, cX0_addTerm, 4, none)
def mX0_clear : q_M := (yX0_clear, cX0_clear, 1, none)
def mX0_holdAll : q_M := (yX0_holdAll, cX0_holdAll, 6, (some .boolean))
def mX0_holds : q_M := (yX0_holds, cX0_holds, 3, (some .boolean))
def mX0_init : q_M := (yX0_init, cX0_init, 1, none)
def mX0_measure : q_M := (yX0_measure, cX0_measure, 3, (some .int))
def mX0_payFor : q_M := (yX0_payFor, cX0_payFor, 6, (some .int))
def mX10_bargain : q_M := (yX10_bargain, cX10_bargain, 2, (some .int))
def mX10_bargainIn : q_M := (yX10_bargainIn, cX10_bargainIn, 3, (some .int))
def mX10_best : q_M := (yX10_best, cX10_best, 3, (some .int))
def mX10_bestOf : q_M := (yX10_bestOf, cX10_bestOf, 4, (some .int))
def mX10_brought : q_M := (yX10_brought, cX10_brought, 3, (some .int))
def mX10_count : q_M := (yX10_count, cX10_count, 2, (some .int))
def mX10_down : q_M := (yX10_down, cX10_down, 5, (some .int))
def mX10_end : q_M := (yX10_end, cX10_end, 2, (some .int))
def mX10_feed : q_M := (yX10_feed, cX10_feed, 6, (some .int))
def mX10_findBest : q_M := (yX10_findBest, cX10_findBest, 7, (some .boolean))
def mX10_go : q_M := (yX10_go, cX10_go, 5, (some .int))
def mX10_holdPacks : q_M := (yX10_holdPacks, cX10_holdPacks, 5, none)
def mX10_hours : q_M := (yX10_hours, cX10_hours, 3, (some .int))
def mX10_init : q_M := (yX10_init, cX10_init, 2, none)
def mX10_inn : q_M := (yX10_inn, cX10_inn, 4, (some .int))
def mX10_innOf : q_M := (yX10_innOf, cX10_innOf, 3, (some .int))
def mX10_isHour : q_M := (yX10_isHour, cX10_isHour, 1, (some .boolean))
def mX10_isStrength : q_M := (yX10_isStrength, cX10_isStrength, 1, (some .boolean))
def mX10_isTaken : q_M := (yX10_isTaken, cX10_isTaken, 3, (some .boolean))
def mX10_lay : q_M := (yX10_lay, cX10_lay, 8, (some .int))
def mX10_muleOf : q_M := (yX10_muleOf, cX10_muleOf, 6, (some .int))
def mX10_of : q_M := (yX10_of, cX10_of, 4, (some .int))
def mX10_pack : q_M := (yX10_pack, cX10_pack, 5, (some .int))
def mX10_packAt : q_M := (yX10_packAt, cX10_packAt, 2, (some (.object "MuleRoad$Pack")))
def mX10_packsThatAre : q_M := (yX10_packsThatAre, cX10_packsThatAre, 4, (some .int))
def mX10_passHour : q_M := (yX10_passHour, cX10_passHour, 3, none)
def mX10_payFor : q_M := (yX10_payFor, cX10_payFor, 3, (some .int))
def mX10_payOfAll : q_M := (yX10_payOfAll, cX10_payOfAll, 3, (some .int))
def mX10_place : q_M := (yX10_place, cX10_place, 1, (some .int))
def mX10_shut : q_M := (yX10_shut, cX10_shut, 4, (some .int))
def mX10_snow : q_M := (yX10_snow, cX10_snow, 4, (some .int))
def mX10_string : q_M := (yX10_string, cX10_string, 5, (some .int))
def mX10_stringOf : q_M := (yX10_stringOf, cX10_stringOf, 4, (some .int))
def mX10_trainAt : q_M := (yX10_trainAt, cX10_trainAt, 2, (some (.object "MuleRoad$Train")))
def mX10_was : q_M := (yX10_was, cX10_was, 3, (some .int))
def mX11_allBrought : q_M := (yX11_allBrought, cX11_allBrought, 3, (some .int))
def mX11_bargain : q_M := (yX11_bargain, cX11_bargain, 3, (some .int))
def mX11_bargainOf : q_M := (yX11_bargainOf, cX11_bargainOf, 4, (some .int))
def mX11_best : q_M := (yX11_best, cX11_best, 3, (some .int))
def mX11_bestOf : q_M := (yX11_bestOf, cX11_bestOf, 5, (some .int))
def mX11_brought : q_M := (yX11_brought, cX11_brought, 2, (some .int))
def mX11_change : q_M := (yX11_change, cX11_change, 3, none)
def mX11_count : q_M := (yX11_count, cX11_count, 2, (some .int))
def mX11_down : q_M := (yX11_down, cX11_down, 3, (some .int))
def mX11_end : q_M := (yX11_end, cX11_end, 2, (some .int))
def mX11_fails : q_M := (yX11_fails, cX11_fails, 2, none)
def mX11_feed : q_M := (yX11_feed, cX11_feed, 8, (some .int))
def mX11_finds : q_M := (yX11_finds, cX11_finds, 4, (some .boolean))
def mX11_go : q_M := (yX11_go, cX11_go, 5, (some .int))
def mX11_goes : q_M := (yX11_goes, cX11_goes, 2, none)
def mX11_holds : q_M := (yX11_holds, cX11_holds, 4, none)
def mX11_holds_ : q_M := (yX11_holds_, cX11_holds_, 5, (some .boolean))
def mX11_hours : q_M := (yX11_hours, cX11_hours, 3, (some .int))
def mX11_init : q_M := (yX11_init, cX11_init, 1, none)
def mX11_inn : q_M := (yX11_inn, cX11_inn, 5, (some .int))
def mX11_innOf : q_M := (yX11_innOf, cX11_innOf, 2, (some .int))
def mX11_is : q_M := (yX11_is, cX11_is, 2, (some .boolean))
def mX11_isDigit : q_M := (yX11_isDigit, cX11_isDigit, 1, (some .boolean))
def mX11_isEven : q_M := (yX11_isEven, cX11_isEven, 3, (some .boolean))
def mX11_isInn : q_M := (yX11_isInn, cX11_isInn, 2, (some .boolean))
def mX11_isLeg : q_M := (yX11_isLeg, cX11_isLeg, 2, (some .boolean))
def mX11_isPack : q_M := (yX11_isPack, cX11_isPack, 2, (some .boolean))
def mX11_isShut : q_M := (yX11_isShut, cX11_isShut, 5, (some .boolean))
def mX11_isSmall : q_M := (yX11_isSmall, cX11_isSmall, 1, (some .boolean))
def mX11_isString : q_M := (yX11_isString, cX11_isString, 2, (some .boolean))
def mX11_isWell : q_M := (yX11_isWell, cX11_isWell, 1, (some .boolean))
def mX11_isWord : q_M := (yX11_isWord, cX11_isWord, 3, (some .boolean))
def mX11_lay : q_M := (yX11_lay, cX11_lay, 7, (some .int))
def mX11_load : q_M := (yX11_load, cX11_load, 5, (some .int))
def mX11_many : q_M := (yX11_many, cX11_many, 4, (some .int))
def mX11_muleOf : q_M := (yX11_muleOf, cX11_muleOf, 5, (some .int))
def mX11_next : q_M := (yX11_next, cX11_next, 2, none)
def mX11_number : q_M := (yX11_number, cX11_number, 2, (some .int))
def mX11_of : q_M := (yX11_of, cX11_of, 3, (some .int))
def mX11_pack : q_M := (yX11_pack, cX11_pack, 5, (some .int))
def mX11_packsOn : q_M := (yX11_packsOn, cX11_packsOn, 4, (some .int))
def mX11_place : q_M := (yX11_place, cX11_place, 1, (some .int))
def mX11_rests : q_M := (yX11_rests, cX11_rests, 3, none)
def mX11_rule : q_M := (yX11_rule, cX11_rule, 5, none)
def mX11_see : q_M := (yX11_see, cX11_see, 2, (some .int))
def mX11_shut : q_M := (yX11_shut, cX11_shut, 4, (some .int))
def mX11_snow : q_M := (yX11_snow, cX11_snow, 4, (some .int))
def mX11_string : q_M := (yX11_string, cX11_string, 7, (some .int))
def mX11_stringOf : q_M := (yX11_stringOf, cX11_stringOf, 4, (some .int))
def mX11_term : q_M := (yX11_term, cX11_term, 4, none)
def mX11_thrown : q_M := (yX11_thrown, cX11_thrown, 1, (some .int))
def mX11_tires : q_M := (yX11_tires, cX11_tires, 3, none)
def mX11_top : q_M := (yX11_top, cX11_top, 3, (some .int))
def mX11_tries : q_M := (yX11_tries, cX11_tries, 9, none)
def mX11_want : q_M := (yX11_want, cX11_want, 2, none)
def mX11_was : q_M := (yX11_was, cX11_was, 5, (some .int))
def mX11_within : q_M := (yX11_within, cX11_within, 3, (some .boolean))
def mX11_word : q_M := (yX11_word, cX11_word, 1, (some .int))
def mX11_worth : q_M := (yX11_worth, cX11_worth, 8, (some .int))
def mX1_add : q_M := (yX1_add, cX1_add, 3, none)
def mX1_clear : q_M := (yX1_clear, cX1_clear, 1, none)
def mX1_findFor : q_M := (yX1_findFor, cX1_findFor, 3, none)
def mX1_init : q_M := (yX1_init, cX1_init, 1, none)
def mX1_isHopeless : q_M := (yX1_isHopeless, cX1_isHopeless, 7, (some .boolean))
def mX1_keep : q_M := (yX1_keep, cX1_keep, 4, none)
def mX1_look : q_M := (yX1_look, cX1_look, 5, none)
def mX1_sideOf : q_M := (yX1_sideOf, cX1_sideOf, 3, (some .int))
def mX2_add : q_M := (yX2_add, cX2_add, 4, none)
def mX2_init : q_M := (yX2_init, cX2_init, 1, none)
def mX2_placeOf : q_M := (yX2_placeOf, cX2_placeOf, 4, (some .int))
def mX3_bear : q_M := (yX3_bear, cX3_bear, 4, none)
def mX3_init : q_M := (yX3_init, cX3_init, 2, none)
def mX3_isFit : q_M := (yX3_isFit, cX3_isFit, 1, (some .boolean))
def mX3_load : q_M := (yX3_load, cX3_load, 1, (some .int))
def mX3_rest : q_M := (yX3_rest, cX3_rest, 1, none)
def mX3_unload : q_M := (yX3_unload, cX3_unload, 3, none)
def mX3_walk : q_M := (yX3_walk, cX3_walk, 3, none)
def mX4_deliver : q_M := (yX4_deliver, cX4_deliver, 2, none)
def mX4_init : q_M := (yX4_init, cX4_init, 6, none)
def mX4_liftOnto : q_M := (yX4_liftOnto, cX4_liftOnto, 4, none)
def mX4_nextLeg : q_M := (yX4_nextLeg, cX4_nextLeg, 2, (some .int))
def mX4_putAt : q_M := (yX4_putAt, cX4_putAt, 2, none)
def mX5_fail : q_M := (yX5_fail, cX5_fail, 2, (some .boolean))
def mX5_init : q_M := (yX5_init, cX5_init, 2, none)
def mX5_isTermAhead : q_M := (yX5_isTermAhead, cX5_isTermAhead, 1, (some .boolean))
def mX5_moveTo : q_M := (yX5_moveTo, cX5_moveTo, 2, none)
def mX5_readAmount : q_M := (yX5_readAmount, cX5_readAmount, 3, (some .boolean))
def mX5_readInto : q_M := (yX5_readInto, cX5_readInto, 4, (some .int))
def mX5_readRule : q_M := (yX5_readRule, cX5_readRule, 2, (some .boolean))
def mX5_readTerm : q_M := (yX5_readTerm, cX5_readTerm, 4, (some .boolean))
def mX5_readTerms : q_M := (yX5_readTerms, cX5_readTerms, 3, (some .boolean))
def mX5_take : q_M := (yX5_take, cX5_take, 2, (some .boolean))
def mX6_addInn : q_M := (yX6_addInn, cX6_addInn, 4, (some .int))
def mX6_addTelling : q_M := (yX6_addTelling, cX6_addTelling, 5, (some .int))
def mX6_climbsOf : q_M := (yX6_climbsOf, cX6_climbsOf, 2, (some .int))
def mX6_hasInn : q_M := (yX6_hasInn, cX6_hasInn, 2, (some .boolean))
def mX6_hasLeg : q_M := (yX6_hasLeg, cX6_hasLeg, 2, (some .boolean))
def mX6_hoursOf : q_M := (yX6_hoursOf, cX6_hoursOf, 2, (some .int))
def mX6_init : q_M := (yX6_init, cX6_init, 1, none)
def mX6_isLedge : q_M := (yX6_isLedge, cX6_isLedge, 2, (some .boolean))
def mX6_isShut : q_M := (yX6_isShut, cX6_isShut, 5, (some .boolean))
def mX6_shutLegs : q_M := (yX6_shutLegs, cX6_shutLegs, 4, (some .int))
def mX7_addByte : q_M := (yX7_addByte, cX7_addByte, 2, none)
def mX7_addNumber : q_M := (yX7_addNumber, cX7_addNumber, 2, none)
def mX7_byteAt : q_M := (yX7_byteAt, cX7_byteAt, 2, (some .int))
def mX7_init : q_M := (yX7_init, cX7_init, 1, none)
def mX8_add : q_M := (yX8_add, cX8_add, 3, (some .int))
def mX8_cutNumber : q_M := (yX8_cutNumber, cX8_cutNumber, 3, (some .int))
def mX8_cutTape : q_M := (yX8_cutTape, cX8_cutTape, 3, none)
def mX8_cutToken : q_M := (yX8_cutToken, cX8_cutToken, 2, (some .int))
def mX8_cutWord : q_M := (yX8_cutWord, cX8_cutWord, 3, (some .int))
def mX8_init : q_M := (yX8_init, cX8_init, 2, none)
def mX8_isBlank : q_M := (yX8_isBlank, cX8_isBlank, 1, (some .boolean))
def mX8_isDigit : q_M := (yX8_isDigit, cX8_isDigit, 1, (some .boolean))
def mX8_isLetter : q_M := (yX8_isLetter, cX8_isLetter, 1, (some .boolean))
def mX8_kindSpelt : q_M := (yX8_kindSpelt, cX8_kindSpelt, 1, (some .int))
def mX8_measureSpelt : q_M := (yX8_measureSpelt, cX8_measureSpelt, 1, (some .int))
def mX8_signType : q_M := (yX8_signType, cX8_signType, 1, (some .int))
def mX8_spells : q_M := (yX8_spells, cX8_spells, 3, (some .boolean))
def mX9_arrive : q_M := (yX9_arrive, cX9_arrive, 1, none)
def mX9_goThrough : q_M := (yX9_goThrough, cX9_goThrough, 5, none)
def mX9_init : q_M := (yX9_init, cX9_init, 5, none)
def mX9_isFit : q_M := (yX9_isFit, cX9_isFit, 2, (some .boolean))
def mX9_leave : q_M := (yX9_leave, cX9_leave, 4, none)
def mX9_muleAt : q_M := (yX9_muleAt, cX9_muleAt, 2, (some (.object "MuleRoad$Mule")))
end
section
theorem dJ0_charAt_5068e_0 : decode mJ0_charAt_5068e.2.1 0 = .ok (.aload_n 0, 1) := by decide +kernel
theorem dJ0_charAt_5068e_1 : decode mJ0_charAt_5068e.2.1 1 = .ok (.invokevirtual 492, 3) := by decide +kernel
theorem dJ0_charAt_5068e_4 : decode mJ0_charAt_5068e.2.1 4 = .ok (.ifCond .eq 12, 3) := by decide +kernel
theorem dJ0_charAt_5068e_7 : decode mJ0_charAt_5068e.2.1 7 = .ok (.aload_n 0, 1) := by decide +kernel
theorem dJ0_charAt_5068e_8 : decode mJ0_charAt_5068e.2.1 8 = .ok (.getfield 9, 3) := by decide +kernel
theorem dJ0_charAt_5068e_11 : decode mJ0_charAt_5068e.2.1 11 = .ok (.iload_n 1, 1) := by decide +kernel
theorem dJ0_charAt_5068e_12 : decode mJ0_charAt_5068e.2.1 12 = .ok (.invokestatic 495, 3) := by decide +kernel
theorem dJ0_charAt_5068e_15 : decode mJ0_charAt_5068e.2.1 15 = .ok (.ireturn, 1) := by decide +kernel
theorem dJ0_charAt_5068e_16 : decode mJ0_charAt_5068e.2.1 16 = .ok (.aload_n 0, 1) := by decide +kernel
theorem dJ0_charAt_5068e_17 : decode mJ0_charAt_5068e.2.1 17 = .ok (.getfield 9, 3) := by decide +kernel
theorem dJ0_charAt_5068e_20 : decode mJ0_charAt_5068e.2.1 20 = .ok (.iload_n 1, 1) := by decide +kernel
theorem dJ0_charAt_5068e_21 : decode mJ0_charAt_5068e.2.1 21 = .ok (.invokestatic 498, 3) := by decide +kernel
theorem dJ0_charAt_5068e_24 : decode mJ0_charAt_5068e.2.1 24 = .ok (.ireturn, 1) := by decide +kernel
theorem dJ0_checkIndex_df160_0 : decode mJ0_checkIndex_df160.2.1 0 = .ok (.iload_n 0, 1) := by decide +kernel
theorem dJ0_checkIndex_df160_1 : decode mJ0_checkIndex_df160.2.1 1 = .ok (.iload_n 1, 1) := by decide +kernel
theorem dJ0_checkIndex_df160_2 : decode mJ0_checkIndex_df160.2.1 2 = .ok (.getstatic 1053, 3) := by decide +kernel
theorem dJ0_checkIndex_df160_5 : decode mJ0_checkIndex_df160.2.1 5 = .ok (.invokestatic 1059, 3) := by decide +kernel
theorem dJ0_checkIndex_df160_8 : decode mJ0_checkIndex_df160.2.1 8 = .ok (.pop, 1) := by decide +kernel
theorem dJ0_checkIndex_df160_9 : decode mJ0_checkIndex_df160.2.1 9 = .ok (.return_, 1) := by decide +kernel
theorem dJ0_coder_7d493_0 : decode mJ0_coder_7d493.2.1 0 = .ok (.getstatic 38, 3) := by decide +kernel
theorem dJ0_coder_7d493_3 : decode mJ0_coder_7d493.2.1 3 = .ok (.ifCond .eq 10, 3) := by decide +kernel
theorem dJ0_coder_7d493_6 : decode mJ0_coder_7d493.2.1 6 = .ok (.aload_n 0, 1) := by decide +kernel
theorem dJ0_coder_7d493_7 : decode mJ0_coder_7d493.2.1 7 = .ok (.getfield 15, 3) := by decide +kernel
theorem dJ0_coder_7d493_10 : decode mJ0_coder_7d493.2.1 10 = .ok (.goto 4, 3) := by decide +kernel
theorem dJ0_coder_7d493_13 : decode mJ0_coder_7d493.2.1 13 = .ok (.iconst 1, 1) := by decide +kernel
theorem dJ0_coder_7d493_14 : decode mJ0_coder_7d493.2.1 14 = .ok (.ireturn, 1) := by decide +kernel
theorem dJ0_isLatin1_aae02_0 : decode mJ0_isLatin1_aae02.2.1 0 = .ok (.getstatic 38, 3) := by decide +kernel
theorem dJ0_isLatin1_aae02_3 : decode mJ0_isLatin1_aae02.2.1 3 = .ok (.ifCond .eq 14, 3) := by decide +kernel
theorem dJ0_isLatin1_aae02_6 : decode mJ0_isLatin1_aae02.2.1 6 = .ok (.aload_n 0, 1) := by decide +kernel
theorem dJ0_isLatin1_aae02_7 : decode mJ0_isLatin1_aae02.2.1 7 = .ok (.getfield 15, 3) := by decide +kernel
theorem dJ0_isLatin1_aae02_10 : decode mJ0_isLatin1_aae02.2.1 10 = .ok (.ifCond .ne 7, 3) := by decide +kernel
theorem dJ0_isLatin1_aae02_13 : decode mJ0_isLatin1_aae02.2.1 13 = .ok (.iconst 1, 1) := by decide +kernel
theorem dJ0_isLatin1_aae02_14 : decode mJ0_isLatin1_aae02.2.1 14 = .ok (.goto 4, 3) := by decide +kernel
theorem dJ0_isLatin1_aae02_17 : decode mJ0_isLatin1_aae02.2.1 17 = .ok (.iconst 0, 1) := by decide +kernel
theorem dJ0_isLatin1_aae02_18 : decode mJ0_isLatin1_aae02.2.1 18 = .ok (.ireturn, 1) := by decide +kernel
theorem dJ0_length_8abf5_0 : decode mJ0_length_8abf5.2.1 0 = .ok (.aload_n 0, 1) := by decide +kernel
theorem dJ0_length_8abf5_1 : decode mJ0_length_8abf5.2.1 1 = .ok (.getfield 9, 3) := by decide +kernel
theorem dJ0_length_8abf5_4 : decode mJ0_length_8abf5.2.1 4 = .ok (.arraylength, 1) := by decide +kernel
theorem dJ0_length_8abf5_5 : decode mJ0_length_8abf5.2.1 5 = .ok (.aload_n 0, 1) := by decide +kernel
theorem dJ0_length_8abf5_6 : decode mJ0_length_8abf5.2.1 6 = .ok (.invokevirtual 335, 3) := by decide +kernel
theorem dJ0_length_8abf5_9 : decode mJ0_length_8abf5.2.1 9 = .ok (.ishr, 1) := by decide +kernel
theorem dJ0_length_8abf5_10 : decode mJ0_length_8abf5.2.1 10 = .ok (.ireturn, 1) := by decide +kernel
theorem dJ1_charAt_3b067_0 : decode mJ1_charAt_3b067.2.1 0 = .ok (.iload_n 1, 1) := by decide +kernel
theorem dJ1_charAt_3b067_1 : decode mJ1_charAt_3b067.2.1 1 = .ok (.aload_n 0, 1) := by decide +kernel
theorem dJ1_charAt_3b067_2 : decode mJ1_charAt_3b067.2.1 2 = .ok (.arraylength, 1) := by decide +kernel
theorem dJ1_charAt_3b067_3 : decode mJ1_charAt_3b067.2.1 3 = .ok (.invokestatic 9, 3) := by decide +kernel
theorem dJ1_charAt_3b067_6 : decode mJ1_charAt_3b067.2.1 6 = .ok (.aload_n 0, 1) := by decide +kernel
theorem dJ1_charAt_3b067_7 : decode mJ1_charAt_3b067.2.1 7 = .ok (.iload_n 1, 1) := by decide +kernel
theorem dJ1_charAt_3b067_8 : decode mJ1_charAt_3b067.2.1 8 = .ok (.baload, 1) := by decide +kernel
theorem dJ1_charAt_3b067_9 : decode mJ1_charAt_3b067.2.1 9 = .ok (.sipush 255, 3) := by decide +kernel
theorem dJ1_charAt_3b067_12 : decode mJ1_charAt_3b067.2.1 12 = .ok (.iand, 1) := by decide +kernel
theorem dJ1_charAt_3b067_13 : decode mJ1_charAt_3b067.2.1 13 = .ok (.i2c, 1) := by decide +kernel
theorem dJ1_charAt_3b067_14 : decode mJ1_charAt_3b067.2.1 14 = .ok (.ireturn, 1) := by decide +kernel
theorem dJ2_charAt_3b067_0 : decode mJ2_charAt_3b067.2.1 0 = .ok (.iload_n 1, 1) := by decide +kernel
theorem dJ2_charAt_3b067_1 : decode mJ2_charAt_3b067.2.1 1 = .ok (.aload_n 0, 1) := by decide +kernel
theorem dJ2_charAt_3b067_2 : decode mJ2_charAt_3b067.2.1 2 = .ok (.invokestatic 67, 3) := by decide +kernel
theorem dJ2_charAt_3b067_5 : decode mJ2_charAt_3b067.2.1 5 = .ok (.aload_n 0, 1) := by decide +kernel
theorem dJ2_charAt_3b067_6 : decode mJ2_charAt_3b067.2.1 6 = .ok (.iload_n 1, 1) := by decide +kernel
theorem dJ2_charAt_3b067_7 : decode mJ2_charAt_3b067.2.1 7 = .ok (.invokestatic 71, 3) := by decide +kernel
theorem dJ2_charAt_3b067_10 : decode mJ2_charAt_3b067.2.1 10 = .ok (.ireturn, 1) := by decide +kernel
theorem dJ2_checkIndex_2214a_0 : decode mJ2_checkIndex_2214a.2.1 0 = .ok (.iload_n 0, 1) := by decide +kernel
theorem dJ2_checkIndex_2214a_1 : decode mJ2_checkIndex_2214a.2.1 1 = .ok (.aload_n 1, 1) := by decide +kernel
theorem dJ2_checkIndex_2214a_2 : decode mJ2_checkIndex_2214a.2.1 2 = .ok (.invokestatic 48, 3) := by decide +kernel
theorem dJ2_checkIndex_2214a_5 : decode mJ2_checkIndex_2214a.2.1 5 = .ok (.invokestatic 414, 3) := by decide +kernel
theorem dJ2_checkIndex_2214a_8 : decode mJ2_checkIndex_2214a.2.1 8 = .ok (.return_, 1) := by decide +kernel
theorem dJ2_getChar_3b067_0 : decode mJ2_getChar_3b067.2.1 0 = .ok (.getstatic 44, 3) := by decide +kernel
theorem dJ2_getChar_3b067_3 : decode mJ2_getChar_3b067.2.1 3 = .ok (.ifCond .ne 25, 3) := by decide +kernel
theorem dJ2_getChar_3b067_6 : decode mJ2_getChar_3b067.2.1 6 = .ok (.iload_n 1, 1) := by decide +kernel
theorem dJ2_getChar_3b067_7 : decode mJ2_getChar_3b067.2.1 7 = .ok (.ifCond .lt 11, 3) := by decide +kernel
theorem dJ2_getChar_3b067_10 : decode mJ2_getChar_3b067.2.1 10 = .ok (.iload_n 1, 1) := by decide +kernel
theorem dJ2_getChar_3b067_11 : decode mJ2_getChar_3b067.2.1 11 = .ok (.aload_n 0, 1) := by decide +kernel
theorem dJ2_getChar_3b067_12 : decode mJ2_getChar_3b067.2.1 12 = .ok (.invokestatic 48, 3) := by decide +kernel
theorem dJ2_getChar_3b067_15 : decode mJ2_getChar_3b067.2.1 15 = .ok (.if_icmp .lt 13, 3) := by decide +kernel
theorem dJ2_getChar_3b067_18 : decode mJ2_getChar_3b067.2.1 18 = .ok (.new 52, 3) := by decide +kernel
theorem dJ2_getChar_3b067_21 : decode mJ2_getChar_3b067.2.1 21 = .ok (.dup, 1) := by decide +kernel
theorem dJ2_getChar_3b067_22 : decode mJ2_getChar_3b067.2.1 22 = .ok (.ldc 54, 2) := by decide +kernel
theorem dJ2_getChar_3b067_24 : decode mJ2_getChar_3b067.2.1 24 = .ok (.invokespecial 56, 3) := by decide +kernel
theorem dJ2_getChar_3b067_27 : decode mJ2_getChar_3b067.2.1 27 = .ok (.athrow, 1) := by decide +kernel
theorem dJ2_getChar_3b067_28 : decode mJ2_getChar_3b067.2.1 28 = .ok (.iload_n 1, 1) := by decide +kernel
theorem dJ2_getChar_3b067_29 : decode mJ2_getChar_3b067.2.1 29 = .ok (.iconst 1, 1) := by decide +kernel
theorem dJ2_getChar_3b067_30 : decode mJ2_getChar_3b067.2.1 30 = .ok (.ishl, 1) := by decide +kernel
theorem dJ2_getChar_3b067_31 : decode mJ2_getChar_3b067.2.1 31 = .ok (.istore_n 1, 1) := by decide +kernel
theorem dJ2_getChar_3b067_32 : decode mJ2_getChar_3b067.2.1 32 = .ok (.aload_n 0, 1) := by decide +kernel
theorem dJ2_getChar_3b067_33 : decode mJ2_getChar_3b067.2.1 33 = .ok (.iload_n 1, 1) := by decide +kernel
theorem dJ2_getChar_3b067_34 : decode mJ2_getChar_3b067.2.1 34 = .ok (.iinc 1 1, 3) := by decide +kernel
theorem dJ2_getChar_3b067_37 : decode mJ2_getChar_3b067.2.1 37 = .ok (.baload, 1) := by decide +kernel
theorem dJ2_getChar_3b067_38 : decode mJ2_getChar_3b067.2.1 38 = .ok (.sipush 255, 3) := by decide +kernel
theorem dJ2_getChar_3b067_41 : decode mJ2_getChar_3b067.2.1 41 = .ok (.iand, 1) := by decide +kernel
theorem dJ2_getChar_3b067_42 : decode mJ2_getChar_3b067.2.1 42 = .ok (.getstatic 59, 3) := by decide +kernel
theorem dJ2_getChar_3b067_45 : decode mJ2_getChar_3b067.2.1 45 = .ok (.ishl, 1) := by decide +kernel
theorem dJ2_getChar_3b067_46 : decode mJ2_getChar_3b067.2.1 46 = .ok (.aload_n 0, 1) := by decide +kernel
theorem dJ2_getChar_3b067_47 : decode mJ2_getChar_3b067.2.1 47 = .ok (.iload_n 1, 1) := by decide +kernel
theorem dJ2_getChar_3b067_48 : decode mJ2_getChar_3b067.2.1 48 = .ok (.baload, 1) := by decide +kernel
theorem dJ2_getChar_3b067_49 : decode mJ2_getChar_3b067.2.1 49 = .ok (.sipush 255, 3) := by decide +kernel
theorem dJ2_getChar_3b067_52 : decode mJ2_getChar_3b067.2.1 52 = .ok (.iand, 1) := by decide +kernel
theorem dJ2_getChar_3b067_53 : decode mJ2_getChar_3b067.2.1 53 = .ok (.getstatic 63, 3) := by decide +kernel
theorem dJ2_getChar_3b067_56 : decode mJ2_getChar_3b067.2.1 56 = .ok (.ishl, 1) := by decide +kernel
theorem dJ2_getChar_3b067_57 : decode mJ2_getChar_3b067.2.1 57 = .ok (.ior, 1) := by decide +kernel
theorem dJ2_getChar_3b067_58 : decode mJ2_getChar_3b067.2.1 58 = .ok (.i2c, 1) := by decide +kernel
theorem dJ2_getChar_3b067_59 : decode mJ2_getChar_3b067.2.1 59 = .ok (.ireturn, 1) := by decide +kernel
theorem dJ2_length_9d52b_0 : decode mJ2_length_9d52b.2.1 0 = .ok (.aload_n 0, 1) := by decide +kernel
theorem dJ2_length_9d52b_1 : decode mJ2_length_9d52b.2.1 1 = .ok (.arraylength, 1) := by decide +kernel
theorem dJ2_length_9d52b_2 : decode mJ2_length_9d52b.2.1 2 = .ok (.iconst 1, 1) := by decide +kernel
theorem dJ2_length_9d52b_3 : decode mJ2_length_9d52b.2.1 3 = .ok (.ishr, 1) := by decide +kernel
theorem dJ2_length_9d52b_4 : decode mJ2_length_9d52b.2.1 4 = .ok (.ireturn, 1) := by decide +kernel
theorem dJ3_checkIndex_8e157_0 : decode mJ3_checkIndex_8e157.2.1 0 = .ok (.iload_n 0, 1) := by decide +kernel
theorem dJ3_checkIndex_8e157_1 : decode mJ3_checkIndex_8e157.2.1 1 = .ok (.ifCond .lt 8, 3) := by decide +kernel
theorem dJ3_checkIndex_8e157_4 : decode mJ3_checkIndex_8e157.2.1 4 = .ok (.iload_n 0, 1) := by decide +kernel
theorem dJ3_checkIndex_8e157_5 : decode mJ3_checkIndex_8e157.2.1 5 = .ok (.iload_n 1, 1) := by decide +kernel
theorem dJ3_checkIndex_8e157_6 : decode mJ3_checkIndex_8e157.2.1 6 = .ok (.if_icmp .lt 10, 3) := by decide +kernel
theorem dJ3_checkIndex_8e157_9 : decode mJ3_checkIndex_8e157.2.1 9 = .ok (.aload_n 2, 1) := by decide +kernel
theorem dJ3_checkIndex_8e157_10 : decode mJ3_checkIndex_8e157.2.1 10 = .ok (.iload_n 0, 1) := by decide +kernel
theorem dJ3_checkIndex_8e157_11 : decode mJ3_checkIndex_8e157.2.1 11 = .ok (.iload_n 1, 1) := by decide +kernel
theorem dJ3_checkIndex_8e157_12 : decode mJ3_checkIndex_8e157.2.1 12 = .ok (.invokestatic 95, 3) := by decide +kernel
theorem dJ3_checkIndex_8e157_15 : decode mJ3_checkIndex_8e157.2.1 15 = .ok (.athrow, 1) := by decide +kernel
theorem dJ3_checkIndex_8e157_16 : decode mJ3_checkIndex_8e157.2.1 16 = .ok (.iload_n 0, 1) := by decide +kernel
theorem dJ3_checkIndex_8e157_17 : decode mJ3_checkIndex_8e157.2.1 17 = .ok (.ireturn, 1) := by decide +kernel
theorem dJ9_abs_0f7a4_0 : decode mJ9_abs_0f7a4.2.1 0 = .ok (.iload_n 0, 1) := by decide +kernel
theorem dJ9_abs_0f7a4_1 : decode mJ9_abs_0f7a4.2.1 1 = .ok (.ifCond .ge 8, 3) := by decide +kernel
theorem dJ9_abs_0f7a4_4 : decode mJ9_abs_0f7a4.2.1 4 = .ok (.iload_n 0, 1) := by decide +kernel
theorem dJ9_abs_0f7a4_5 : decode mJ9_abs_0f7a4.2.1 5 = .ok (.ineg, 1) := by decide +kernel
theorem dJ9_abs_0f7a4_6 : decode mJ9_abs_0f7a4.2.1 6 = .ok (.goto 4, 3) := by decide +kernel
theorem dJ9_abs_0f7a4_9 : decode mJ9_abs_0f7a4.2.1 9 = .ok (.iload_n 0, 1) := by decide +kernel
theorem dJ9_abs_0f7a4_10 : decode mJ9_abs_0f7a4.2.1 10 = .ok (.ireturn, 1) := by decide +kernel
theorem dJ9_max_7cf53_0 : decode mJ9_max_7cf53.2.1 0 = .ok (.iload_n 0, 1) := by decide +kernel
theorem dJ9_max_7cf53_1 : decode mJ9_max_7cf53.2.1 1 = .ok (.iload_n 1, 1) := by decide +kernel
theorem dJ9_max_7cf53_2 : decode mJ9_max_7cf53.2.1 2 = .ok (.if_icmp .lt 7, 3) := by decide +kernel
theorem dJ9_max_7cf53_5 : decode mJ9_max_7cf53.2.1 5 = .ok (.iload_n 0, 1) := by decide +kernel
theorem dJ9_max_7cf53_6 : decode mJ9_max_7cf53.2.1 6 = .ok (.goto 4, 3) := by decide +kernel
theorem dJ9_max_7cf53_9 : decode mJ9_max_7cf53.2.1 9 = .ok (.iload_n 1, 1) := by decide +kernel
theorem dJ9_max_7cf53_10 : decode mJ9_max_7cf53.2.1 10 = .ok (.ireturn, 1) := by decide +kernel
theorem dJ9_min_7cf53_0 : decode mJ9_min_7cf53.2.1 0 = .ok (.iload_n 0, 1) := by decide +kernel
theorem dJ9_min_7cf53_1 : decode mJ9_min_7cf53.2.1 1 = .ok (.iload_n 1, 1) := by decide +kernel
theorem dJ9_min_7cf53_2 : decode mJ9_min_7cf53.2.1 2 = .ok (.if_icmp .gt 7, 3) := by decide +kernel
theorem dJ9_min_7cf53_5 : decode mJ9_min_7cf53.2.1 5 = .ok (.iload_n 0, 1) := by decide +kernel
theorem dJ9_min_7cf53_6 : decode mJ9_min_7cf53.2.1 6 = .ok (.goto 4, 3) := by decide +kernel
theorem dJ9_min_7cf53_9 : decode mJ9_min_7cf53.2.1 9 = .ok (.iload_n 1, 1) := by decide +kernel
theorem dJ9_min_7cf53_10 : decode mJ9_min_7cf53.2.1 10 = .ok (.ireturn, 1) := by decide +kernel
theorem dL_brought_0 : decode cL_brought 0 = .ok (.aload_n 2, 1) := by decide +kernel
theorem dL_brought_1 : decode cL_brought 1 = .ok (.iconst 0, 1) := by decide +kernel
theorem dL_brought_2 : decode cL_brought 2 = .ok (.aload_n 0, 1) := by decide +kernel
theorem dL_brought_3 : decode cL_brought 3 = .ok (.iload_n 1, 1) := by decide +kernel
theorem dL_brought_4 : decode cL_brought 4 = .ok (.invokevirtual 7, 3) := by decide +kernel
theorem dL_brought_7 : decode cL_brought 7 = .ok (.i2l, 1) := by decide +kernel
theorem dL_brought_8 : decode cL_brought 8 = .ok (.lastore, 1) := by decide +kernel
theorem dL_brought_9 : decode cL_brought 9 = .ok (.goto 6, 3) := by decide +kernel
theorem dL_brought_12 : decode cL_brought 12 = .ok (.astore_n 3, 1) := by decide +kernel
theorem dL_brought_13 : decode cL_brought 13 = .ok (.iconst 1, 1) := by decide +kernel
theorem dL_brought_14 : decode cL_brought 14 = .ok (.ireturn, 1) := by decide +kernel
theorem dL_brought_15 : decode cL_brought 15 = .ok (.iconst 0, 1) := by decide +kernel
theorem dL_brought_16 : decode cL_brought 16 = .ok (.ireturn, 1) := by decide +kernel
theorem dL_law_0 : decode mL_law.2.1 0 = .ok (.new 8, 3) := by decide +kernel
theorem dL_law_3 : decode mL_law.2.1 3 = .ok (.dup, 1) := by decide +kernel
theorem dL_law_4 : decode mL_law.2.1 4 = .ok (.invokespecial 15, 3) := by decide +kernel
theorem dL_law_7 : decode mL_law.2.1 7 = .ok (.astore_n 1, 1) := by decide +kernel
theorem dL_law_8 : decode mL_law.2.1 8 = .ok (.new 16, 3) := by decide +kernel
theorem dL_law_11 : decode mL_law.2.1 11 = .ok (.dup, 1) := by decide +kernel
theorem dL_law_12 : decode mL_law.2.1 12 = .ok (.invokespecial 18, 3) := by decide +kernel
theorem dL_law_15 : decode mL_law.2.1 15 = .ok (.astore_n 2, 1) := by decide +kernel
theorem dL_law_16 : decode mL_law.2.1 16 = .ok (.iconst 1, 1) := by decide +kernel
theorem dL_law_17 : decode mL_law.2.1 17 = .ok (.newarray .long, 2) := by decide +kernel
theorem dL_law_19 : decode mL_law.2.1 19 = .ok (.astore_n 3, 1) := by decide +kernel
theorem dL_law_20 : decode mL_law.2.1 20 = .ok (.iconst 0, 1) := by decide +kernel
theorem dL_law_21 : decode mL_law.2.1 21 = .ok (.istore 4, 2) := by decide +kernel
theorem dL_law_23 : decode mL_law.2.1 23 = .ok (.iload 4, 2) := by decide +kernel
theorem dL_law_25 : decode mL_law.2.1 25 = .ok (.aload_n 0, 1) := by decide +kernel
theorem dL_law_26 : decode mL_law.2.1 26 = .ok (.arraylength, 1) := by decide +kernel
theorem dL_law_27 : decode mL_law.2.1 27 = .ok (.bipush 6, 2) := by decide +kernel
theorem dL_law_29 : decode mL_law.2.1 29 = .ok (.isub, 1) := by decide +kernel
theorem dL_law_30 : decode mL_law.2.1 30 = .ok (.if_icmp .gt 1016, 3) := by decide +kernel
theorem dL_law_33 : decode mL_law.2.1 33 = .ok (.aload_n 0, 1) := by decide +kernel
theorem dL_law_34 : decode mL_law.2.1 34 = .ok (.iload 4, 2) := by decide +kernel
theorem dL_law_36 : decode mL_law.2.1 36 = .ok (.iaload, 1) := by decide +kernel
theorem dL_law_37 : decode mL_law.2.1 37 = .ok (.bipush 31, 2) := by decide +kernel
theorem dL_law_39 : decode mL_law.2.1 39 = .ok (.iand, 1) := by decide +kernel
theorem dL_law_40 : decode mL_law.2.1 40 = .ok (.tableswitch 1000 0 20 #[100, 165, 226, 275, 324, 385, 446, 471, 524, 549, 586, 635, 708, 733, 746, 759, 796, 845, 882, 938, 975], 100) := by decide +kernel
theorem dL_law_140 : decode mL_law.2.1 140 = .ok (.aload_n 1, 1) := by decide +kernel
theorem dL_law_141 : decode mL_law.2.1 141 = .ok (.aload_n 0, 1) := by decide +kernel
theorem dL_law_142 : decode mL_law.2.1 142 = .ok (.iload 4, 2) := by decide +kernel
theorem dL_law_144 : decode mL_law.2.1 144 = .ok (.iconst 1, 1) := by decide +kernel
theorem dL_law_145 : decode mL_law.2.1 145 = .ok (.iadd, 1) := by decide +kernel
theorem dL_law_146 : decode mL_law.2.1 146 = .ok (.iaload, 1) := by decide +kernel
theorem dL_law_147 : decode mL_law.2.1 147 = .ok (.aload_n 0, 1) := by decide +kernel
theorem dL_law_148 : decode mL_law.2.1 148 = .ok (.iload 4, 2) := by decide +kernel
theorem dL_law_150 : decode mL_law.2.1 150 = .ok (.iconst 2, 1) := by decide +kernel
theorem dL_law_151 : decode mL_law.2.1 151 = .ok (.iadd, 1) := by decide +kernel
theorem dL_law_152 : decode mL_law.2.1 152 = .ok (.iaload, 1) := by decide +kernel
theorem dL_law_153 : decode mL_law.2.1 153 = .ok (.aload_n 0, 1) := by decide +kernel
theorem dL_law_154 : decode mL_law.2.1 154 = .ok (.iload 4, 2) := by decide +kernel
theorem dL_law_156 : decode mL_law.2.1 156 = .ok (.iconst 3, 1) := by decide +kernel
theorem dL_law_157 : decode mL_law.2.1 157 = .ok (.iadd, 1) := by decide +kernel
theorem dL_law_158 : decode mL_law.2.1 158 = .ok (.iaload, 1) := by decide +kernel
theorem dL_law_159 : decode mL_law.2.1 159 = .ok (.ifCond .eq 7, 3) := by decide +kernel
theorem dL_law_162 : decode mL_law.2.1 162 = .ok (.iconst 1, 1) := by decide +kernel
theorem dL_law_163 : decode mL_law.2.1 163 = .ok (.goto 4, 3) := by decide +kernel
theorem dL_law_166 : decode mL_law.2.1 166 = .ok (.iconst 0, 1) := by decide +kernel
theorem dL_law_167 : decode mL_law.2.1 167 = .ok (.invokevirtual 19, 3) := by decide +kernel
theorem dL_law_170 : decode mL_law.2.1 170 = .ok (.aload_n 2, 1) := by decide +kernel
theorem dL_law_171 : decode mL_law.2.1 171 = .ok (.aload_n 0, 1) := by decide +kernel
theorem dL_law_172 : decode mL_law.2.1 172 = .ok (.iload 4, 2) := by decide +kernel
theorem dL_law_174 : decode mL_law.2.1 174 = .ok (.iconst 1, 1) := by decide +kernel
theorem dL_law_175 : decode mL_law.2.1 175 = .ok (.iadd, 1) := by decide +kernel
theorem dL_law_176 : decode mL_law.2.1 176 = .ok (.iaload, 1) := by decide +kernel
theorem dL_law_177 : decode mL_law.2.1 177 = .ok (.aload_n 0, 1) := by decide +kernel
theorem dL_law_178 : decode mL_law.2.1 178 = .ok (.iload 4, 2) := by decide +kernel
theorem dL_law_180 : decode mL_law.2.1 180 = .ok (.iconst 2, 1) := by decide +kernel
theorem dL_law_181 : decode mL_law.2.1 181 = .ok (.iadd, 1) := by decide +kernel
theorem dL_law_182 : decode mL_law.2.1 182 = .ok (.iaload, 1) := by decide +kernel
theorem dL_law_183 : decode mL_law.2.1 183 = .ok (.aload_n 0, 1) := by decide +kernel
theorem dL_law_184 : decode mL_law.2.1 184 = .ok (.iload 4, 2) := by decide +kernel
theorem dL_law_186 : decode mL_law.2.1 186 = .ok (.iconst 3, 1) := by decide +kernel
theorem dL_law_187 : decode mL_law.2.1 187 = .ok (.iadd, 1) := by decide +kernel
theorem dL_law_188 : decode mL_law.2.1 188 = .ok (.iaload, 1) := by decide +kernel
theorem dL_law_189 : decode mL_law.2.1 189 = .ok (.ifCond .eq 7, 3) := by decide +kernel
theorem dL_law_192 : decode mL_law.2.1 192 = .ok (.iconst 1, 1) := by decide +kernel
theorem dL_law_193 : decode mL_law.2.1 193 = .ok (.goto 4, 3) := by decide +kernel
theorem dL_law_196 : decode mL_law.2.1 196 = .ok (.iconst 0, 1) := by decide +kernel
theorem dL_law_197 : decode mL_law.2.1 197 = .ok (.invokevirtual 23, 3) := by decide +kernel
theorem dL_law_200 : decode mL_law.2.1 200 = .ok (.if_icmp .eq 840, 3) := by decide +kernel
theorem dL_law_203 : decode mL_law.2.1 203 = .ok (.iconst 0, 1) := by decide +kernel
theorem dL_law_204 : decode mL_law.2.1 204 = .ok (.ireturn, 1) := by decide +kernel
theorem dL_law_205 : decode mL_law.2.1 205 = .ok (.aload_n 1, 1) := by decide +kernel
theorem dL_law_206 : decode mL_law.2.1 206 = .ok (.aload_n 0, 1) := by decide +kernel
theorem dL_law_207 : decode mL_law.2.1 207 = .ok (.iload 4, 2) := by decide +kernel
theorem dL_law_209 : decode mL_law.2.1 209 = .ok (.iconst 1, 1) := by decide +kernel
theorem dL_law_210 : decode mL_law.2.1 210 = .ok (.iadd, 1) := by decide +kernel
theorem dL_law_211 : decode mL_law.2.1 211 = .ok (.iaload, 1) := by decide +kernel
theorem dL_law_212 : decode mL_law.2.1 212 = .ok (.aload_n 0, 1) := by decide +kernel
theorem dL_law_213 : decode mL_law.2.1 213 = .ok (.iload 4, 2) := by decide +kernel
theorem dL_law_215 : decode mL_law.2.1 215 = .ok (.iconst 2, 1) := by decide +kernel
theorem dL_law_216 : decode mL_law.2.1 216 = .ok (.iadd, 1) := by decide +kernel
theorem dL_law_217 : decode mL_law.2.1 217 = .ok (.iaload, 1) := by decide +kernel
theorem dL_law_218 : decode mL_law.2.1 218 = .ok (.aload_n 0, 1) := by decide +kernel
theorem dL_law_219 : decode mL_law.2.1 219 = .ok (.iload 4, 2) := by decide +kernel
theorem dL_law_221 : decode mL_law.2.1 221 = .ok (.iconst 3, 1) := by decide +kernel
theorem dL_law_222 : decode mL_law.2.1 222 = .ok (.iadd, 1) := by decide +kernel
theorem dL_law_223 : decode mL_law.2.1 223 = .ok (.iaload, 1) := by decide +kernel
theorem dL_law_224 : decode mL_law.2.1 224 = .ok (.aload_n 0, 1) := by decide +kernel
theorem dL_law_225 : decode mL_law.2.1 225 = .ok (.iload 4, 2) := by decide +kernel
theorem dL_law_227 : decode mL_law.2.1 227 = .ok (.iconst 4, 1) := by decide +kernel
theorem dL_law_228 : decode mL_law.2.1 228 = .ok (.iadd, 1) := by decide +kernel
theorem dL_law_229 : decode mL_law.2.1 229 = .ok (.iaload, 1) := by decide +kernel
theorem dL_law_230 : decode mL_law.2.1 230 = .ok (.invokevirtual 24, 3) := by decide +kernel
theorem dL_law_233 : decode mL_law.2.1 233 = .ok (.aload_n 2, 1) := by decide +kernel
theorem dL_law_234 : decode mL_law.2.1 234 = .ok (.aload_n 0, 1) := by decide +kernel
theorem dL_law_235 : decode mL_law.2.1 235 = .ok (.iload 4, 2) := by decide +kernel
theorem dL_law_237 : decode mL_law.2.1 237 = .ok (.iconst 1, 1) := by decide +kernel
theorem dL_law_238 : decode mL_law.2.1 238 = .ok (.iadd, 1) := by decide +kernel
theorem dL_law_239 : decode mL_law.2.1 239 = .ok (.iaload, 1) := by decide +kernel
theorem dL_law_240 : decode mL_law.2.1 240 = .ok (.aload_n 0, 1) := by decide +kernel
theorem dL_law_241 : decode mL_law.2.1 241 = .ok (.iload 4, 2) := by decide +kernel
theorem dL_law_243 : decode mL_law.2.1 243 = .ok (.iconst 2, 1) := by decide +kernel
theorem dL_law_244 : decode mL_law.2.1 244 = .ok (.iadd, 1) := by decide +kernel
theorem dL_law_245 : decode mL_law.2.1 245 = .ok (.iaload, 1) := by decide +kernel
theorem dL_law_246 : decode mL_law.2.1 246 = .ok (.aload_n 0, 1) := by decide +kernel
theorem dL_law_247 : decode mL_law.2.1 247 = .ok (.iload 4, 2) := by decide +kernel
theorem dL_law_249 : decode mL_law.2.1 249 = .ok (.iconst 3, 1) := by decide +kernel
theorem dL_law_250 : decode mL_law.2.1 250 = .ok (.iadd, 1) := by decide +kernel
theorem dL_law_251 : decode mL_law.2.1 251 = .ok (.iaload, 1) := by decide +kernel
theorem dL_law_252 : decode mL_law.2.1 252 = .ok (.aload_n 0, 1) := by decide +kernel
theorem dL_law_253 : decode mL_law.2.1 253 = .ok (.iload 4, 2) := by decide +kernel
theorem dL_law_255 : decode mL_law.2.1 255 = .ok (.iconst 4, 1) := by decide +kernel
theorem dL_law_256 : decode mL_law.2.1 256 = .ok (.iadd, 1) := by decide +kernel
theorem dL_law_257 : decode mL_law.2.1 257 = .ok (.iaload, 1) := by decide +kernel
theorem dL_law_258 : decode mL_law.2.1 258 = .ok (.invokevirtual 28, 3) := by decide +kernel
theorem dL_law_261 : decode mL_law.2.1 261 = .ok (.if_icmp .eq 779, 3) := by decide +kernel
theorem dL_law_264 : decode mL_law.2.1 264 = .ok (.iconst 0, 1) := by decide +kernel
theorem dL_law_265 : decode mL_law.2.1 265 = .ok (.ireturn, 1) := by decide +kernel
theorem dL_law_266 : decode mL_law.2.1 266 = .ok (.aload_n 1, 1) := by decide +kernel
theorem dL_law_267 : decode mL_law.2.1 267 = .ok (.aload_n 0, 1) := by decide +kernel
theorem dL_law_268 : decode mL_law.2.1 268 = .ok (.iload 4, 2) := by decide +kernel
theorem dL_law_270 : decode mL_law.2.1 270 = .ok (.iconst 1, 1) := by decide +kernel
theorem dL_law_271 : decode mL_law.2.1 271 = .ok (.iadd, 1) := by decide +kernel
theorem dL_law_272 : decode mL_law.2.1 272 = .ok (.iaload, 1) := by decide +kernel
theorem dL_law_273 : decode mL_law.2.1 273 = .ok (.aload_n 0, 1) := by decide +kernel
theorem dL_law_274 : decode mL_law.2.1 274 = .ok (.iload 4, 2) := by decide +kernel
theorem dL_law_276 : decode mL_law.2.1 276 = .ok (.iconst 2, 1) := by decide +kernel
theorem dL_law_277 : decode mL_law.2.1 277 = .ok (.iadd, 1) := by decide +kernel
theorem dL_law_278 : decode mL_law.2.1 278 = .ok (.iaload, 1) := by decide +kernel
theorem dL_law_279 : decode mL_law.2.1 279 = .ok (.aload_n 0, 1) := by decide +kernel
theorem dL_law_280 : decode mL_law.2.1 280 = .ok (.iload 4, 2) := by decide +kernel
theorem dL_law_282 : decode mL_law.2.1 282 = .ok (.iconst 3, 1) := by decide +kernel
theorem dL_law_283 : decode mL_law.2.1 283 = .ok (.iadd, 1) := by decide +kernel
theorem dL_law_284 : decode mL_law.2.1 284 = .ok (.iaload, 1) := by decide +kernel
theorem dL_law_285 : decode mL_law.2.1 285 = .ok (.invokevirtual 29, 3) := by decide +kernel
theorem dL_law_288 : decode mL_law.2.1 288 = .ok (.aload_n 2, 1) := by decide +kernel
theorem dL_law_289 : decode mL_law.2.1 289 = .ok (.aload_n 0, 1) := by decide +kernel
theorem dL_law_290 : decode mL_law.2.1 290 = .ok (.iload 4, 2) := by decide +kernel
theorem dL_law_292 : decode mL_law.2.1 292 = .ok (.iconst 1, 1) := by decide +kernel
theorem dL_law_293 : decode mL_law.2.1 293 = .ok (.iadd, 1) := by decide +kernel
theorem dL_law_294 : decode mL_law.2.1 294 = .ok (.iaload, 1) := by decide +kernel
theorem dL_law_295 : decode mL_law.2.1 295 = .ok (.aload_n 0, 1) := by decide +kernel
theorem dL_law_296 : decode mL_law.2.1 296 = .ok (.iload 4, 2) := by decide +kernel
theorem dL_law_298 : decode mL_law.2.1 298 = .ok (.iconst 2, 1) := by decide +kernel
theorem dL_law_299 : decode mL_law.2.1 299 = .ok (.iadd, 1) := by decide +kernel
theorem dL_law_300 : decode mL_law.2.1 300 = .ok (.iaload, 1) := by decide +kernel
theorem dL_law_301 : decode mL_law.2.1 301 = .ok (.aload_n 0, 1) := by decide +kernel
theorem dL_law_302 : decode mL_law.2.1 302 = .ok (.iload 4, 2) := by decide +kernel
theorem dL_law_304 : decode mL_law.2.1 304 = .ok (.iconst 3, 1) := by decide +kernel
theorem dL_law_305 : decode mL_law.2.1 305 = .ok (.iadd, 1) := by decide +kernel
theorem dL_law_306 : decode mL_law.2.1 306 = .ok (.iaload, 1) := by decide +kernel
theorem dL_law_307 : decode mL_law.2.1 307 = .ok (.invokevirtual 33, 3) := by decide +kernel
theorem dL_law_310 : decode mL_law.2.1 310 = .ok (.if_icmp .eq 730, 3) := by decide +kernel
theorem dL_law_313 : decode mL_law.2.1 313 = .ok (.iconst 0, 1) := by decide +kernel
theorem dL_law_314 : decode mL_law.2.1 314 = .ok (.ireturn, 1) := by decide +kernel
theorem dL_law_315 : decode mL_law.2.1 315 = .ok (.aload_n 1, 1) := by decide +kernel
theorem dL_law_316 : decode mL_law.2.1 316 = .ok (.aload_n 0, 1) := by decide +kernel
theorem dL_law_317 : decode mL_law.2.1 317 = .ok (.iload 4, 2) := by decide +kernel
theorem dL_law_319 : decode mL_law.2.1 319 = .ok (.iconst 1, 1) := by decide +kernel
theorem dL_law_320 : decode mL_law.2.1 320 = .ok (.iadd, 1) := by decide +kernel
theorem dL_law_321 : decode mL_law.2.1 321 = .ok (.iaload, 1) := by decide +kernel
theorem dL_law_322 : decode mL_law.2.1 322 = .ok (.aload_n 0, 1) := by decide +kernel
theorem dL_law_323 : decode mL_law.2.1 323 = .ok (.iload 4, 2) := by decide +kernel
theorem dL_law_325 : decode mL_law.2.1 325 = .ok (.iconst 2, 1) := by decide +kernel
theorem dL_law_326 : decode mL_law.2.1 326 = .ok (.iadd, 1) := by decide +kernel
theorem dL_law_327 : decode mL_law.2.1 327 = .ok (.iaload, 1) := by decide +kernel
theorem dL_law_328 : decode mL_law.2.1 328 = .ok (.aload_n 0, 1) := by decide +kernel
theorem dL_law_329 : decode mL_law.2.1 329 = .ok (.iload 4, 2) := by decide +kernel
theorem dL_law_331 : decode mL_law.2.1 331 = .ok (.iconst 3, 1) := by decide +kernel
theorem dL_law_332 : decode mL_law.2.1 332 = .ok (.iadd, 1) := by decide +kernel
theorem dL_law_333 : decode mL_law.2.1 333 = .ok (.iaload, 1) := by decide +kernel
theorem dL_law_334 : decode mL_law.2.1 334 = .ok (.invokevirtual 34, 3) := by decide +kernel
theorem dL_law_337 : decode mL_law.2.1 337 = .ok (.aload_n 2, 1) := by decide +kernel
theorem dL_law_338 : decode mL_law.2.1 338 = .ok (.aload_n 0, 1) := by decide +kernel
theorem dL_law_339 : decode mL_law.2.1 339 = .ok (.iload 4, 2) := by decide +kernel
theorem dL_law_341 : decode mL_law.2.1 341 = .ok (.iconst 1, 1) := by decide +kernel
theorem dL_law_342 : decode mL_law.2.1 342 = .ok (.iadd, 1) := by decide +kernel
theorem dL_law_343 : decode mL_law.2.1 343 = .ok (.iaload, 1) := by decide +kernel
theorem dL_law_344 : decode mL_law.2.1 344 = .ok (.aload_n 0, 1) := by decide +kernel
theorem dL_law_345 : decode mL_law.2.1 345 = .ok (.iload 4, 2) := by decide +kernel
theorem dL_law_347 : decode mL_law.2.1 347 = .ok (.iconst 2, 1) := by decide +kernel
theorem dL_law_348 : decode mL_law.2.1 348 = .ok (.iadd, 1) := by decide +kernel
theorem dL_law_349 : decode mL_law.2.1 349 = .ok (.iaload, 1) := by decide +kernel
theorem dL_law_350 : decode mL_law.2.1 350 = .ok (.aload_n 0, 1) := by decide +kernel
theorem dL_law_351 : decode mL_law.2.1 351 = .ok (.iload 4, 2) := by decide +kernel
theorem dL_law_353 : decode mL_law.2.1 353 = .ok (.iconst 3, 1) := by decide +kernel
theorem dL_law_354 : decode mL_law.2.1 354 = .ok (.iadd, 1) := by decide +kernel
theorem dL_law_355 : decode mL_law.2.1 355 = .ok (.iaload, 1) := by decide +kernel
theorem dL_law_356 : decode mL_law.2.1 356 = .ok (.invokevirtual 37, 3) := by decide +kernel
theorem dL_law_359 : decode mL_law.2.1 359 = .ok (.if_icmp .eq 681, 3) := by decide +kernel
theorem dL_law_362 : decode mL_law.2.1 362 = .ok (.iconst 0, 1) := by decide +kernel
theorem dL_law_363 : decode mL_law.2.1 363 = .ok (.ireturn, 1) := by decide +kernel
theorem dL_law_364 : decode mL_law.2.1 364 = .ok (.aload_n 1, 1) := by decide +kernel
theorem dL_law_365 : decode mL_law.2.1 365 = .ok (.aload_n 0, 1) := by decide +kernel
theorem dL_law_366 : decode mL_law.2.1 366 = .ok (.iload 4, 2) := by decide +kernel
theorem dL_law_368 : decode mL_law.2.1 368 = .ok (.iconst 1, 1) := by decide +kernel
theorem dL_law_369 : decode mL_law.2.1 369 = .ok (.iadd, 1) := by decide +kernel
theorem dL_law_370 : decode mL_law.2.1 370 = .ok (.iaload, 1) := by decide +kernel
theorem dL_law_371 : decode mL_law.2.1 371 = .ok (.aload_n 0, 1) := by decide +kernel
theorem dL_law_372 : decode mL_law.2.1 372 = .ok (.iload 4, 2) := by decide +kernel
theorem dL_law_374 : decode mL_law.2.1 374 = .ok (.iconst 2, 1) := by decide +kernel
theorem dL_law_375 : decode mL_law.2.1 375 = .ok (.iadd, 1) := by decide +kernel
theorem dL_law_376 : decode mL_law.2.1 376 = .ok (.iaload, 1) := by decide +kernel
theorem dL_law_377 : decode mL_law.2.1 377 = .ok (.aload_n 0, 1) := by decide +kernel
theorem dL_law_378 : decode mL_law.2.1 378 = .ok (.iload 4, 2) := by decide +kernel
theorem dL_law_380 : decode mL_law.2.1 380 = .ok (.iconst 3, 1) := by decide +kernel
theorem dL_law_381 : decode mL_law.2.1 381 = .ok (.iadd, 1) := by decide +kernel
theorem dL_law_382 : decode mL_law.2.1 382 = .ok (.iaload, 1) := by decide +kernel
theorem dL_law_383 : decode mL_law.2.1 383 = .ok (.aload_n 0, 1) := by decide +kernel
theorem dL_law_384 : decode mL_law.2.1 384 = .ok (.iload 4, 2) := by decide +kernel
theorem dL_law_386 : decode mL_law.2.1 386 = .ok (.iconst 4, 1) := by decide +kernel
theorem dL_law_387 : decode mL_law.2.1 387 = .ok (.iadd, 1) := by decide +kernel
theorem dL_law_388 : decode mL_law.2.1 388 = .ok (.iaload, 1) := by decide +kernel
theorem dL_law_389 : decode mL_law.2.1 389 = .ok (.invokevirtual 38, 3) := by decide +kernel
theorem dL_law_392 : decode mL_law.2.1 392 = .ok (.aload_n 2, 1) := by decide +kernel
theorem dL_law_393 : decode mL_law.2.1 393 = .ok (.aload_n 0, 1) := by decide +kernel
theorem dL_law_394 : decode mL_law.2.1 394 = .ok (.iload 4, 2) := by decide +kernel
theorem dL_law_396 : decode mL_law.2.1 396 = .ok (.iconst 1, 1) := by decide +kernel
theorem dL_law_397 : decode mL_law.2.1 397 = .ok (.iadd, 1) := by decide +kernel
theorem dL_law_398 : decode mL_law.2.1 398 = .ok (.iaload, 1) := by decide +kernel
theorem dL_law_399 : decode mL_law.2.1 399 = .ok (.aload_n 0, 1) := by decide +kernel
theorem dL_law_400 : decode mL_law.2.1 400 = .ok (.iload 4, 2) := by decide +kernel
theorem dL_law_402 : decode mL_law.2.1 402 = .ok (.iconst 2, 1) := by decide +kernel
theorem dL_law_403 : decode mL_law.2.1 403 = .ok (.iadd, 1) := by decide +kernel
theorem dL_law_404 : decode mL_law.2.1 404 = .ok (.iaload, 1) := by decide +kernel
theorem dL_law_405 : decode mL_law.2.1 405 = .ok (.aload_n 0, 1) := by decide +kernel
theorem dL_law_406 : decode mL_law.2.1 406 = .ok (.iload 4, 2) := by decide +kernel
theorem dL_law_408 : decode mL_law.2.1 408 = .ok (.iconst 3, 1) := by decide +kernel
theorem dL_law_409 : decode mL_law.2.1 409 = .ok (.iadd, 1) := by decide +kernel
theorem dL_law_410 : decode mL_law.2.1 410 = .ok (.iaload, 1) := by decide +kernel
theorem dL_law_411 : decode mL_law.2.1 411 = .ok (.aload_n 0, 1) := by decide +kernel
theorem dL_law_412 : decode mL_law.2.1 412 = .ok (.iload 4, 2) := by decide +kernel
theorem dL_law_414 : decode mL_law.2.1 414 = .ok (.iconst 4, 1) := by decide +kernel
theorem dL_law_415 : decode mL_law.2.1 415 = .ok (.iadd, 1) := by decide +kernel
theorem dL_law_416 : decode mL_law.2.1 416 = .ok (.iaload, 1) := by decide +kernel
theorem dL_law_417 : decode mL_law.2.1 417 = .ok (.invokevirtual 41, 3) := by decide +kernel
theorem dL_law_420 : decode mL_law.2.1 420 = .ok (.if_icmp .eq 620, 3) := by decide +kernel
theorem dL_law_423 : decode mL_law.2.1 423 = .ok (.iconst 0, 1) := by decide +kernel
theorem dL_law_424 : decode mL_law.2.1 424 = .ok (.ireturn, 1) := by decide +kernel
theorem dL_law_425 : decode mL_law.2.1 425 = .ok (.aload_n 1, 1) := by decide +kernel
theorem dL_law_426 : decode mL_law.2.1 426 = .ok (.aload_n 0, 1) := by decide +kernel
theorem dL_law_427 : decode mL_law.2.1 427 = .ok (.iload 4, 2) := by decide +kernel
theorem dL_law_429 : decode mL_law.2.1 429 = .ok (.iconst 1, 1) := by decide +kernel
theorem dL_law_430 : decode mL_law.2.1 430 = .ok (.iadd, 1) := by decide +kernel
theorem dL_law_431 : decode mL_law.2.1 431 = .ok (.iaload, 1) := by decide +kernel
theorem dL_law_432 : decode mL_law.2.1 432 = .ok (.aload_n 0, 1) := by decide +kernel
theorem dL_law_433 : decode mL_law.2.1 433 = .ok (.iload 4, 2) := by decide +kernel
theorem dL_law_435 : decode mL_law.2.1 435 = .ok (.iconst 2, 1) := by decide +kernel
theorem dL_law_436 : decode mL_law.2.1 436 = .ok (.iadd, 1) := by decide +kernel
theorem dL_law_437 : decode mL_law.2.1 437 = .ok (.iaload, 1) := by decide +kernel
theorem dL_law_438 : decode mL_law.2.1 438 = .ok (.aload_n 0, 1) := by decide +kernel
theorem dL_law_439 : decode mL_law.2.1 439 = .ok (.iload 4, 2) := by decide +kernel
theorem dL_law_441 : decode mL_law.2.1 441 = .ok (.iconst 3, 1) := by decide +kernel
theorem dL_law_442 : decode mL_law.2.1 442 = .ok (.iadd, 1) := by decide +kernel
theorem dL_law_443 : decode mL_law.2.1 443 = .ok (.iaload, 1) := by decide +kernel
theorem dL_law_444 : decode mL_law.2.1 444 = .ok (.aload_n 0, 1) := by decide +kernel
theorem dL_law_445 : decode mL_law.2.1 445 = .ok (.iload 4, 2) := by decide +kernel
theorem dL_law_447 : decode mL_law.2.1 447 = .ok (.iconst 4, 1) := by decide +kernel
theorem dL_law_448 : decode mL_law.2.1 448 = .ok (.iadd, 1) := by decide +kernel
theorem dL_law_449 : decode mL_law.2.1 449 = .ok (.iaload, 1) := by decide +kernel
theorem dL_law_450 : decode mL_law.2.1 450 = .ok (.invokevirtual 42, 3) := by decide +kernel
theorem dL_law_453 : decode mL_law.2.1 453 = .ok (.aload_n 2, 1) := by decide +kernel
theorem dL_law_454 : decode mL_law.2.1 454 = .ok (.aload_n 0, 1) := by decide +kernel
theorem dL_law_455 : decode mL_law.2.1 455 = .ok (.iload 4, 2) := by decide +kernel
theorem dL_law_457 : decode mL_law.2.1 457 = .ok (.iconst 1, 1) := by decide +kernel
theorem dL_law_458 : decode mL_law.2.1 458 = .ok (.iadd, 1) := by decide +kernel
theorem dL_law_459 : decode mL_law.2.1 459 = .ok (.iaload, 1) := by decide +kernel
theorem dL_law_460 : decode mL_law.2.1 460 = .ok (.aload_n 0, 1) := by decide +kernel
theorem dL_law_461 : decode mL_law.2.1 461 = .ok (.iload 4, 2) := by decide +kernel
theorem dL_law_463 : decode mL_law.2.1 463 = .ok (.iconst 2, 1) := by decide +kernel
theorem dL_law_464 : decode mL_law.2.1 464 = .ok (.iadd, 1) := by decide +kernel
theorem dL_law_465 : decode mL_law.2.1 465 = .ok (.iaload, 1) := by decide +kernel
theorem dL_law_466 : decode mL_law.2.1 466 = .ok (.aload_n 0, 1) := by decide +kernel
theorem dL_law_467 : decode mL_law.2.1 467 = .ok (.iload 4, 2) := by decide +kernel
theorem dL_law_469 : decode mL_law.2.1 469 = .ok (.iconst 3, 1) := by decide +kernel
theorem dL_law_470 : decode mL_law.2.1 470 = .ok (.iadd, 1) := by decide +kernel
theorem dL_law_471 : decode mL_law.2.1 471 = .ok (.iaload, 1) := by decide +kernel
theorem dL_law_472 : decode mL_law.2.1 472 = .ok (.aload_n 0, 1) := by decide +kernel
theorem dL_law_473 : decode mL_law.2.1 473 = .ok (.iload 4, 2) := by decide +kernel
theorem dL_law_475 : decode mL_law.2.1 475 = .ok (.iconst 4, 1) := by decide +kernel
theorem dL_law_476 : decode mL_law.2.1 476 = .ok (.iadd, 1) := by decide +kernel
theorem dL_law_477 : decode mL_law.2.1 477 = .ok (.iaload, 1) := by decide +kernel
theorem dL_law_478 : decode mL_law.2.1 478 = .ok (.invokevirtual 45, 3) := by decide +kernel
theorem dL_law_481 : decode mL_law.2.1 481 = .ok (.if_icmp .eq 559, 3) := by decide +kernel
theorem dL_law_484 : decode mL_law.2.1 484 = .ok (.iconst 0, 1) := by decide +kernel
theorem dL_law_485 : decode mL_law.2.1 485 = .ok (.ireturn, 1) := by decide +kernel
theorem dL_law_486 : decode mL_law.2.1 486 = .ok (.aload_n 1, 1) := by decide +kernel
theorem dL_law_487 : decode mL_law.2.1 487 = .ok (.aload_n 0, 1) := by decide +kernel
theorem dL_law_488 : decode mL_law.2.1 488 = .ok (.iload 4, 2) := by decide +kernel
theorem dL_law_490 : decode mL_law.2.1 490 = .ok (.iconst 1, 1) := by decide +kernel
theorem dL_law_491 : decode mL_law.2.1 491 = .ok (.iadd, 1) := by decide +kernel
theorem dL_law_492 : decode mL_law.2.1 492 = .ok (.iaload, 1) := by decide +kernel
theorem dL_law_493 : decode mL_law.2.1 493 = .ok (.invokevirtual 46, 3) := by decide +kernel
theorem dL_law_496 : decode mL_law.2.1 496 = .ok (.aload_n 2, 1) := by decide +kernel
theorem dL_law_497 : decode mL_law.2.1 497 = .ok (.aload_n 0, 1) := by decide +kernel
theorem dL_law_498 : decode mL_law.2.1 498 = .ok (.iload 4, 2) := by decide +kernel
theorem dL_law_500 : decode mL_law.2.1 500 = .ok (.iconst 1, 1) := by decide +kernel
theorem dL_law_501 : decode mL_law.2.1 501 = .ok (.iadd, 1) := by decide +kernel
theorem dL_law_502 : decode mL_law.2.1 502 = .ok (.iaload, 1) := by decide +kernel
theorem dL_law_503 : decode mL_law.2.1 503 = .ok (.invokevirtual 49, 3) := by decide +kernel
theorem dL_law_506 : decode mL_law.2.1 506 = .ok (.if_icmp .eq 534, 3) := by decide +kernel
theorem dL_law_509 : decode mL_law.2.1 509 = .ok (.iconst 0, 1) := by decide +kernel
theorem dL_law_510 : decode mL_law.2.1 510 = .ok (.ireturn, 1) := by decide +kernel
theorem dL_law_511 : decode mL_law.2.1 511 = .ok (.aload_n 1, 1) := by decide +kernel
theorem dL_law_512 : decode mL_law.2.1 512 = .ok (.aload_n 0, 1) := by decide +kernel
theorem dL_law_513 : decode mL_law.2.1 513 = .ok (.iload 4, 2) := by decide +kernel
theorem dL_law_515 : decode mL_law.2.1 515 = .ok (.iconst 1, 1) := by decide +kernel
theorem dL_law_516 : decode mL_law.2.1 516 = .ok (.iadd, 1) := by decide +kernel
theorem dL_law_517 : decode mL_law.2.1 517 = .ok (.iaload, 1) := by decide +kernel
theorem dL_law_518 : decode mL_law.2.1 518 = .ok (.aload_n 0, 1) := by decide +kernel
theorem dL_law_519 : decode mL_law.2.1 519 = .ok (.iload 4, 2) := by decide +kernel
theorem dL_law_521 : decode mL_law.2.1 521 = .ok (.iconst 2, 1) := by decide +kernel
theorem dL_law_522 : decode mL_law.2.1 522 = .ok (.iadd, 1) := by decide +kernel
theorem dL_law_523 : decode mL_law.2.1 523 = .ok (.iaload, 1) := by decide +kernel
theorem dL_law_524 : decode mL_law.2.1 524 = .ok (.ifCond .eq 7, 3) := by decide +kernel
theorem dL_law_527 : decode mL_law.2.1 527 = .ok (.iconst 1, 1) := by decide +kernel
theorem dL_law_528 : decode mL_law.2.1 528 = .ok (.goto 4, 3) := by decide +kernel
theorem dL_law_531 : decode mL_law.2.1 531 = .ok (.iconst 0, 1) := by decide +kernel
theorem dL_law_532 : decode mL_law.2.1 532 = .ok (.invokevirtual 50, 3) := by decide +kernel
theorem dL_law_535 : decode mL_law.2.1 535 = .ok (.aload_n 2, 1) := by decide +kernel
theorem dL_law_536 : decode mL_law.2.1 536 = .ok (.aload_n 0, 1) := by decide +kernel
theorem dL_law_537 : decode mL_law.2.1 537 = .ok (.iload 4, 2) := by decide +kernel
theorem dL_law_539 : decode mL_law.2.1 539 = .ok (.iconst 1, 1) := by decide +kernel
theorem dL_law_540 : decode mL_law.2.1 540 = .ok (.iadd, 1) := by decide +kernel
theorem dL_law_541 : decode mL_law.2.1 541 = .ok (.iaload, 1) := by decide +kernel
theorem dL_law_542 : decode mL_law.2.1 542 = .ok (.aload_n 0, 1) := by decide +kernel
theorem dL_law_543 : decode mL_law.2.1 543 = .ok (.iload 4, 2) := by decide +kernel
theorem dL_law_545 : decode mL_law.2.1 545 = .ok (.iconst 2, 1) := by decide +kernel
theorem dL_law_546 : decode mL_law.2.1 546 = .ok (.iadd, 1) := by decide +kernel
theorem dL_law_547 : decode mL_law.2.1 547 = .ok (.iaload, 1) := by decide +kernel
theorem dL_law_548 : decode mL_law.2.1 548 = .ok (.ifCond .eq 7, 3) := by decide +kernel
theorem dL_law_551 : decode mL_law.2.1 551 = .ok (.iconst 1, 1) := by decide +kernel
theorem dL_law_552 : decode mL_law.2.1 552 = .ok (.goto 4, 3) := by decide +kernel
theorem dL_law_555 : decode mL_law.2.1 555 = .ok (.iconst 0, 1) := by decide +kernel
theorem dL_law_556 : decode mL_law.2.1 556 = .ok (.invokevirtual 54, 3) := by decide +kernel
theorem dL_law_559 : decode mL_law.2.1 559 = .ok (.if_icmp .eq 481, 3) := by decide +kernel
theorem dL_law_562 : decode mL_law.2.1 562 = .ok (.iconst 0, 1) := by decide +kernel
theorem dL_law_563 : decode mL_law.2.1 563 = .ok (.ireturn, 1) := by decide +kernel
theorem dL_law_564 : decode mL_law.2.1 564 = .ok (.aload_n 1, 1) := by decide +kernel
theorem dL_law_565 : decode mL_law.2.1 565 = .ok (.aload_n 0, 1) := by decide +kernel
theorem dL_law_566 : decode mL_law.2.1 566 = .ok (.iload 4, 2) := by decide +kernel
theorem dL_law_568 : decode mL_law.2.1 568 = .ok (.iconst 1, 1) := by decide +kernel
theorem dL_law_569 : decode mL_law.2.1 569 = .ok (.iadd, 1) := by decide +kernel
theorem dL_law_570 : decode mL_law.2.1 570 = .ok (.iaload, 1) := by decide +kernel
theorem dL_law_571 : decode mL_law.2.1 571 = .ok (.invokevirtual 55, 3) := by decide +kernel
theorem dL_law_574 : decode mL_law.2.1 574 = .ok (.aload_n 2, 1) := by decide +kernel
theorem dL_law_575 : decode mL_law.2.1 575 = .ok (.aload_n 0, 1) := by decide +kernel
theorem dL_law_576 : decode mL_law.2.1 576 = .ok (.iload 4, 2) := by decide +kernel
theorem dL_law_578 : decode mL_law.2.1 578 = .ok (.iconst 1, 1) := by decide +kernel
theorem dL_law_579 : decode mL_law.2.1 579 = .ok (.iadd, 1) := by decide +kernel
theorem dL_law_580 : decode mL_law.2.1 580 = .ok (.iaload, 1) := by decide +kernel
theorem dL_law_581 : decode mL_law.2.1 581 = .ok (.invokevirtual 58, 3) := by decide +kernel
theorem dL_law_584 : decode mL_law.2.1 584 = .ok (.if_icmp .eq 456, 3) := by decide +kernel
theorem dL_law_587 : decode mL_law.2.1 587 = .ok (.iconst 0, 1) := by decide +kernel
theorem dL_law_588 : decode mL_law.2.1 588 = .ok (.ireturn, 1) := by decide +kernel
theorem dL_law_589 : decode mL_law.2.1 589 = .ok (.aload_n 1, 1) := by decide +kernel
theorem dL_law_590 : decode mL_law.2.1 590 = .ok (.aload_n 0, 1) := by decide +kernel
theorem dL_law_591 : decode mL_law.2.1 591 = .ok (.iload 4, 2) := by decide +kernel
theorem dL_law_593 : decode mL_law.2.1 593 = .ok (.iconst 1, 1) := by decide +kernel
theorem dL_law_594 : decode mL_law.2.1 594 = .ok (.iadd, 1) := by decide +kernel
theorem dL_law_595 : decode mL_law.2.1 595 = .ok (.iaload, 1) := by decide +kernel
theorem dL_law_596 : decode mL_law.2.1 596 = .ok (.aload_n 0, 1) := by decide +kernel
theorem dL_law_597 : decode mL_law.2.1 597 = .ok (.iload 4, 2) := by decide +kernel
theorem dL_law_599 : decode mL_law.2.1 599 = .ok (.iconst 2, 1) := by decide +kernel
theorem dL_law_600 : decode mL_law.2.1 600 = .ok (.iadd, 1) := by decide +kernel
theorem dL_law_601 : decode mL_law.2.1 601 = .ok (.iaload, 1) := by decide +kernel
theorem dL_law_602 : decode mL_law.2.1 602 = .ok (.invokevirtual 59, 3) := by decide +kernel
theorem dL_law_605 : decode mL_law.2.1 605 = .ok (.aload_n 2, 1) := by decide +kernel
theorem dL_law_606 : decode mL_law.2.1 606 = .ok (.aload_n 0, 1) := by decide +kernel
theorem dL_law_607 : decode mL_law.2.1 607 = .ok (.iload 4, 2) := by decide +kernel
theorem dL_law_609 : decode mL_law.2.1 609 = .ok (.iconst 1, 1) := by decide +kernel
theorem dL_law_610 : decode mL_law.2.1 610 = .ok (.iadd, 1) := by decide +kernel
theorem dL_law_611 : decode mL_law.2.1 611 = .ok (.iaload, 1) := by decide +kernel
theorem dL_law_612 : decode mL_law.2.1 612 = .ok (.aload_n 0, 1) := by decide +kernel
theorem dL_law_613 : decode mL_law.2.1 613 = .ok (.iload 4, 2) := by decide +kernel
theorem dL_law_615 : decode mL_law.2.1 615 = .ok (.iconst 2, 1) := by decide +kernel
theorem dL_law_616 : decode mL_law.2.1 616 = .ok (.iadd, 1) := by decide +kernel
theorem dL_law_617 : decode mL_law.2.1 617 = .ok (.iaload, 1) := by decide +kernel
theorem dL_law_618 : decode mL_law.2.1 618 = .ok (.invokevirtual 63, 3) := by decide +kernel
theorem dL_law_621 : decode mL_law.2.1 621 = .ok (.if_icmp .eq 419, 3) := by decide +kernel
theorem dL_law_624 : decode mL_law.2.1 624 = .ok (.iconst 0, 1) := by decide +kernel
theorem dL_law_625 : decode mL_law.2.1 625 = .ok (.ireturn, 1) := by decide +kernel
theorem dL_law_626 : decode mL_law.2.1 626 = .ok (.aload_n 1, 1) := by decide +kernel
theorem dL_law_627 : decode mL_law.2.1 627 = .ok (.aload_n 0, 1) := by decide +kernel
theorem dL_law_628 : decode mL_law.2.1 628 = .ok (.iload 4, 2) := by decide +kernel
theorem dL_law_630 : decode mL_law.2.1 630 = .ok (.iconst 1, 1) := by decide +kernel
theorem dL_law_631 : decode mL_law.2.1 631 = .ok (.iadd, 1) := by decide +kernel
theorem dL_law_632 : decode mL_law.2.1 632 = .ok (.iaload, 1) := by decide +kernel
theorem dL_law_633 : decode mL_law.2.1 633 = .ok (.aload_n 0, 1) := by decide +kernel
theorem dL_law_634 : decode mL_law.2.1 634 = .ok (.iload 4, 2) := by decide +kernel
theorem dL_law_636 : decode mL_law.2.1 636 = .ok (.iconst 2, 1) := by decide +kernel
theorem dL_law_637 : decode mL_law.2.1 637 = .ok (.iadd, 1) := by decide +kernel
theorem dL_law_638 : decode mL_law.2.1 638 = .ok (.iaload, 1) := by decide +kernel
theorem dL_law_639 : decode mL_law.2.1 639 = .ok (.aload_n 0, 1) := by decide +kernel
theorem dL_law_640 : decode mL_law.2.1 640 = .ok (.iload 4, 2) := by decide +kernel
theorem dL_law_642 : decode mL_law.2.1 642 = .ok (.iconst 3, 1) := by decide +kernel
theorem dL_law_643 : decode mL_law.2.1 643 = .ok (.iadd, 1) := by decide +kernel
theorem dL_law_644 : decode mL_law.2.1 644 = .ok (.iaload, 1) := by decide +kernel
theorem dL_law_645 : decode mL_law.2.1 645 = .ok (.invokevirtual 64, 3) := by decide +kernel
theorem dL_law_648 : decode mL_law.2.1 648 = .ok (.aload_n 2, 1) := by decide +kernel
theorem dL_law_649 : decode mL_law.2.1 649 = .ok (.aload_n 0, 1) := by decide +kernel
theorem dL_law_650 : decode mL_law.2.1 650 = .ok (.iload 4, 2) := by decide +kernel
theorem dL_law_652 : decode mL_law.2.1 652 = .ok (.iconst 1, 1) := by decide +kernel
theorem dL_law_653 : decode mL_law.2.1 653 = .ok (.iadd, 1) := by decide +kernel
theorem dL_law_654 : decode mL_law.2.1 654 = .ok (.iaload, 1) := by decide +kernel
theorem dL_law_655 : decode mL_law.2.1 655 = .ok (.aload_n 0, 1) := by decide +kernel
theorem dL_law_656 : decode mL_law.2.1 656 = .ok (.iload 4, 2) := by decide +kernel
theorem dL_law_658 : decode mL_law.2.1 658 = .ok (.iconst 2, 1) := by decide +kernel
theorem dL_law_659 : decode mL_law.2.1 659 = .ok (.iadd, 1) := by decide +kernel
theorem dL_law_660 : decode mL_law.2.1 660 = .ok (.iaload, 1) := by decide +kernel
theorem dL_law_661 : decode mL_law.2.1 661 = .ok (.aload_n 0, 1) := by decide +kernel
theorem dL_law_662 : decode mL_law.2.1 662 = .ok (.iload 4, 2) := by decide +kernel
theorem dL_law_664 : decode mL_law.2.1 664 = .ok (.iconst 3, 1) := by decide +kernel
theorem dL_law_665 : decode mL_law.2.1 665 = .ok (.iadd, 1) := by decide +kernel
theorem dL_law_666 : decode mL_law.2.1 666 = .ok (.iaload, 1) := by decide +kernel
theorem dL_law_667 : decode mL_law.2.1 667 = .ok (.invokevirtual 67, 3) := by decide +kernel
theorem dL_law_670 : decode mL_law.2.1 670 = .ok (.if_icmp .eq 370, 3) := by decide +kernel
theorem dL_law_673 : decode mL_law.2.1 673 = .ok (.iconst 0, 1) := by decide +kernel
theorem dL_law_674 : decode mL_law.2.1 674 = .ok (.ireturn, 1) := by decide +kernel
theorem dL_law_675 : decode mL_law.2.1 675 = .ok (.aload_n 1, 1) := by decide +kernel
theorem dL_law_676 : decode mL_law.2.1 676 = .ok (.aload_n 0, 1) := by decide +kernel
theorem dL_law_677 : decode mL_law.2.1 677 = .ok (.iload 4, 2) := by decide +kernel
theorem dL_law_679 : decode mL_law.2.1 679 = .ok (.iconst 1, 1) := by decide +kernel
theorem dL_law_680 : decode mL_law.2.1 680 = .ok (.iadd, 1) := by decide +kernel
theorem dL_law_681 : decode mL_law.2.1 681 = .ok (.iaload, 1) := by decide +kernel
theorem dL_law_682 : decode mL_law.2.1 682 = .ok (.aload_n 0, 1) := by decide +kernel
theorem dL_law_683 : decode mL_law.2.1 683 = .ok (.iload 4, 2) := by decide +kernel
theorem dL_law_685 : decode mL_law.2.1 685 = .ok (.iconst 2, 1) := by decide +kernel
theorem dL_law_686 : decode mL_law.2.1 686 = .ok (.iadd, 1) := by decide +kernel
theorem dL_law_687 : decode mL_law.2.1 687 = .ok (.iaload, 1) := by decide +kernel
theorem dL_law_688 : decode mL_law.2.1 688 = .ok (.aload_n 0, 1) := by decide +kernel
theorem dL_law_689 : decode mL_law.2.1 689 = .ok (.iload 4, 2) := by decide +kernel
theorem dL_law_691 : decode mL_law.2.1 691 = .ok (.iconst 3, 1) := by decide +kernel
theorem dL_law_692 : decode mL_law.2.1 692 = .ok (.iadd, 1) := by decide +kernel
theorem dL_law_693 : decode mL_law.2.1 693 = .ok (.iaload, 1) := by decide +kernel
theorem dL_law_694 : decode mL_law.2.1 694 = .ok (.aload_n 0, 1) := by decide +kernel
theorem dL_law_695 : decode mL_law.2.1 695 = .ok (.iload 4, 2) := by decide +kernel
theorem dL_law_697 : decode mL_law.2.1 697 = .ok (.iconst 4, 1) := by decide +kernel
theorem dL_law_698 : decode mL_law.2.1 698 = .ok (.iadd, 1) := by decide +kernel
theorem dL_law_699 : decode mL_law.2.1 699 = .ok (.iaload, 1) := by decide +kernel
theorem dL_law_700 : decode mL_law.2.1 700 = .ok (.aload_n 0, 1) := by decide +kernel
theorem dL_law_701 : decode mL_law.2.1 701 = .ok (.iload 4, 2) := by decide +kernel
theorem dL_law_703 : decode mL_law.2.1 703 = .ok (.iconst 5, 1) := by decide +kernel
theorem dL_law_704 : decode mL_law.2.1 704 = .ok (.iadd, 1) := by decide +kernel
theorem dL_law_705 : decode mL_law.2.1 705 = .ok (.iaload, 1) := by decide +kernel
theorem dL_law_706 : decode mL_law.2.1 706 = .ok (.invokevirtual 68, 3) := by decide +kernel
theorem dL_law_709 : decode mL_law.2.1 709 = .ok (.aload_n 2, 1) := by decide +kernel
theorem dL_law_710 : decode mL_law.2.1 710 = .ok (.aload_n 0, 1) := by decide +kernel
theorem dL_law_711 : decode mL_law.2.1 711 = .ok (.iload 4, 2) := by decide +kernel
theorem dL_law_713 : decode mL_law.2.1 713 = .ok (.iconst 1, 1) := by decide +kernel
theorem dL_law_714 : decode mL_law.2.1 714 = .ok (.iadd, 1) := by decide +kernel
theorem dL_law_715 : decode mL_law.2.1 715 = .ok (.iaload, 1) := by decide +kernel
theorem dL_law_716 : decode mL_law.2.1 716 = .ok (.aload_n 0, 1) := by decide +kernel
theorem dL_law_717 : decode mL_law.2.1 717 = .ok (.iload 4, 2) := by decide +kernel
theorem dL_law_719 : decode mL_law.2.1 719 = .ok (.iconst 2, 1) := by decide +kernel
theorem dL_law_720 : decode mL_law.2.1 720 = .ok (.iadd, 1) := by decide +kernel
theorem dL_law_721 : decode mL_law.2.1 721 = .ok (.iaload, 1) := by decide +kernel
theorem dL_law_722 : decode mL_law.2.1 722 = .ok (.aload_n 0, 1) := by decide +kernel
theorem dL_law_723 : decode mL_law.2.1 723 = .ok (.iload 4, 2) := by decide +kernel
theorem dL_law_725 : decode mL_law.2.1 725 = .ok (.iconst 3, 1) := by decide +kernel
theorem dL_law_726 : decode mL_law.2.1 726 = .ok (.iadd, 1) := by decide +kernel
theorem dL_law_727 : decode mL_law.2.1 727 = .ok (.iaload, 1) := by decide +kernel
theorem dL_law_728 : decode mL_law.2.1 728 = .ok (.aload_n 0, 1) := by decide +kernel
theorem dL_law_729 : decode mL_law.2.1 729 = .ok (.iload 4, 2) := by decide +kernel
theorem dL_law_731 : decode mL_law.2.1 731 = .ok (.iconst 4, 1) := by decide +kernel
theorem dL_law_732 : decode mL_law.2.1 732 = .ok (.iadd, 1) := by decide +kernel
theorem dL_law_733 : decode mL_law.2.1 733 = .ok (.iaload, 1) := by decide +kernel
theorem dL_law_734 : decode mL_law.2.1 734 = .ok (.aload_n 0, 1) := by decide +kernel
theorem dL_law_735 : decode mL_law.2.1 735 = .ok (.iload 4, 2) := by decide +kernel
theorem dL_law_737 : decode mL_law.2.1 737 = .ok (.iconst 5, 1) := by decide +kernel
theorem dL_law_738 : decode mL_law.2.1 738 = .ok (.iadd, 1) := by decide +kernel
theorem dL_law_739 : decode mL_law.2.1 739 = .ok (.iaload, 1) := by decide +kernel
theorem dL_law_740 : decode mL_law.2.1 740 = .ok (.invokevirtual 72, 3) := by decide +kernel
theorem dL_law_743 : decode mL_law.2.1 743 = .ok (.if_icmp .eq 297, 3) := by decide +kernel
theorem dL_law_746 : decode mL_law.2.1 746 = .ok (.iconst 0, 1) := by decide +kernel
theorem dL_law_747 : decode mL_law.2.1 747 = .ok (.ireturn, 1) := by decide +kernel
theorem dL_law_748 : decode mL_law.2.1 748 = .ok (.aload_n 1, 1) := by decide +kernel
theorem dL_law_749 : decode mL_law.2.1 749 = .ok (.aload_n 0, 1) := by decide +kernel
theorem dL_law_750 : decode mL_law.2.1 750 = .ok (.iload 4, 2) := by decide +kernel
theorem dL_law_752 : decode mL_law.2.1 752 = .ok (.iconst 1, 1) := by decide +kernel
theorem dL_law_753 : decode mL_law.2.1 753 = .ok (.iadd, 1) := by decide +kernel
theorem dL_law_754 : decode mL_law.2.1 754 = .ok (.iaload, 1) := by decide +kernel
theorem dL_law_755 : decode mL_law.2.1 755 = .ok (.invokevirtual 73, 3) := by decide +kernel
theorem dL_law_758 : decode mL_law.2.1 758 = .ok (.aload_n 2, 1) := by decide +kernel
theorem dL_law_759 : decode mL_law.2.1 759 = .ok (.aload_n 0, 1) := by decide +kernel
theorem dL_law_760 : decode mL_law.2.1 760 = .ok (.iload 4, 2) := by decide +kernel
theorem dL_law_762 : decode mL_law.2.1 762 = .ok (.iconst 1, 1) := by decide +kernel
theorem dL_law_763 : decode mL_law.2.1 763 = .ok (.iadd, 1) := by decide +kernel
theorem dL_law_764 : decode mL_law.2.1 764 = .ok (.iaload, 1) := by decide +kernel
theorem dL_law_765 : decode mL_law.2.1 765 = .ok (.invokevirtual 76, 3) := by decide +kernel
theorem dL_law_768 : decode mL_law.2.1 768 = .ok (.if_icmp .eq 272, 3) := by decide +kernel
theorem dL_law_771 : decode mL_law.2.1 771 = .ok (.iconst 0, 1) := by decide +kernel
theorem dL_law_772 : decode mL_law.2.1 772 = .ok (.ireturn, 1) := by decide +kernel
theorem dL_law_773 : decode mL_law.2.1 773 = .ok (.aload_n 1, 1) := by decide +kernel
theorem dL_law_774 : decode mL_law.2.1 774 = .ok (.invokevirtual 77, 3) := by decide +kernel
theorem dL_law_777 : decode mL_law.2.1 777 = .ok (.aload_n 2, 1) := by decide +kernel
theorem dL_law_778 : decode mL_law.2.1 778 = .ok (.invokevirtual 81, 3) := by decide +kernel
theorem dL_law_781 : decode mL_law.2.1 781 = .ok (.if_icmp .eq 259, 3) := by decide +kernel
theorem dL_law_784 : decode mL_law.2.1 784 = .ok (.iconst 0, 1) := by decide +kernel
theorem dL_law_785 : decode mL_law.2.1 785 = .ok (.ireturn, 1) := by decide +kernel
theorem dL_law_786 : decode mL_law.2.1 786 = .ok (.aload_n 1, 1) := by decide +kernel
theorem dL_law_787 : decode mL_law.2.1 787 = .ok (.invokevirtual 82, 3) := by decide +kernel
theorem dL_law_790 : decode mL_law.2.1 790 = .ok (.aload_n 2, 1) := by decide +kernel
theorem dL_law_791 : decode mL_law.2.1 791 = .ok (.invokevirtual 85, 3) := by decide +kernel
theorem dL_law_794 : decode mL_law.2.1 794 = .ok (.if_icmp .eq 246, 3) := by decide +kernel
theorem dL_law_797 : decode mL_law.2.1 797 = .ok (.iconst 0, 1) := by decide +kernel
theorem dL_law_798 : decode mL_law.2.1 798 = .ok (.ireturn, 1) := by decide +kernel
theorem dL_law_799 : decode mL_law.2.1 799 = .ok (.aload_n 1, 1) := by decide +kernel
theorem dL_law_800 : decode mL_law.2.1 800 = .ok (.aload_n 0, 1) := by decide +kernel
theorem dL_law_801 : decode mL_law.2.1 801 = .ok (.iload 4, 2) := by decide +kernel
theorem dL_law_803 : decode mL_law.2.1 803 = .ok (.iconst 1, 1) := by decide +kernel
theorem dL_law_804 : decode mL_law.2.1 804 = .ok (.iadd, 1) := by decide +kernel
theorem dL_law_805 : decode mL_law.2.1 805 = .ok (.iaload, 1) := by decide +kernel
theorem dL_law_806 : decode mL_law.2.1 806 = .ok (.aload_n 0, 1) := by decide +kernel
theorem dL_law_807 : decode mL_law.2.1 807 = .ok (.iload 4, 2) := by decide +kernel
theorem dL_law_809 : decode mL_law.2.1 809 = .ok (.iconst 2, 1) := by decide +kernel
theorem dL_law_810 : decode mL_law.2.1 810 = .ok (.iadd, 1) := by decide +kernel
theorem dL_law_811 : decode mL_law.2.1 811 = .ok (.iaload, 1) := by decide +kernel
theorem dL_law_812 : decode mL_law.2.1 812 = .ok (.invokevirtual 86, 3) := by decide +kernel
theorem dL_law_815 : decode mL_law.2.1 815 = .ok (.aload_n 2, 1) := by decide +kernel
theorem dL_law_816 : decode mL_law.2.1 816 = .ok (.aload_n 0, 1) := by decide +kernel
theorem dL_law_817 : decode mL_law.2.1 817 = .ok (.iload 4, 2) := by decide +kernel
theorem dL_law_819 : decode mL_law.2.1 819 = .ok (.iconst 1, 1) := by decide +kernel
theorem dL_law_820 : decode mL_law.2.1 820 = .ok (.iadd, 1) := by decide +kernel
theorem dL_law_821 : decode mL_law.2.1 821 = .ok (.iaload, 1) := by decide +kernel
theorem dL_law_822 : decode mL_law.2.1 822 = .ok (.aload_n 0, 1) := by decide +kernel
theorem dL_law_823 : decode mL_law.2.1 823 = .ok (.iload 4, 2) := by decide +kernel
theorem dL_law_825 : decode mL_law.2.1 825 = .ok (.iconst 2, 1) := by decide +kernel
theorem dL_law_826 : decode mL_law.2.1 826 = .ok (.iadd, 1) := by decide +kernel
theorem dL_law_827 : decode mL_law.2.1 827 = .ok (.iaload, 1) := by decide +kernel
theorem dL_law_828 : decode mL_law.2.1 828 = .ok (.invokevirtual 89, 3) := by decide +kernel
theorem dL_law_831 : decode mL_law.2.1 831 = .ok (.if_icmp .eq 209, 3) := by decide +kernel
theorem dL_law_834 : decode mL_law.2.1 834 = .ok (.iconst 0, 1) := by decide +kernel
theorem dL_law_835 : decode mL_law.2.1 835 = .ok (.ireturn, 1) := by decide +kernel
theorem dL_law_836 : decode mL_law.2.1 836 = .ok (.aload_n 1, 1) := by decide +kernel
theorem dL_law_837 : decode mL_law.2.1 837 = .ok (.aload_n 0, 1) := by decide +kernel
theorem dL_law_838 : decode mL_law.2.1 838 = .ok (.iload 4, 2) := by decide +kernel
theorem dL_law_840 : decode mL_law.2.1 840 = .ok (.iconst 1, 1) := by decide +kernel
theorem dL_law_841 : decode mL_law.2.1 841 = .ok (.iadd, 1) := by decide +kernel
theorem dL_law_842 : decode mL_law.2.1 842 = .ok (.iaload, 1) := by decide +kernel
theorem dL_law_843 : decode mL_law.2.1 843 = .ok (.aload_n 0, 1) := by decide +kernel
theorem dL_law_844 : decode mL_law.2.1 844 = .ok (.iload 4, 2) := by decide +kernel
theorem dL_law_846 : decode mL_law.2.1 846 = .ok (.iconst 2, 1) := by decide +kernel
theorem dL_law_847 : decode mL_law.2.1 847 = .ok (.iadd, 1) := by decide +kernel
theorem dL_law_848 : decode mL_law.2.1 848 = .ok (.iaload, 1) := by decide +kernel
theorem dL_law_849 : decode mL_law.2.1 849 = .ok (.aload_n 0, 1) := by decide +kernel
theorem dL_law_850 : decode mL_law.2.1 850 = .ok (.iload 4, 2) := by decide +kernel
theorem dL_law_852 : decode mL_law.2.1 852 = .ok (.iconst 3, 1) := by decide +kernel
theorem dL_law_853 : decode mL_law.2.1 853 = .ok (.iadd, 1) := by decide +kernel
theorem dL_law_854 : decode mL_law.2.1 854 = .ok (.iaload, 1) := by decide +kernel
theorem dL_law_855 : decode mL_law.2.1 855 = .ok (.invokevirtual 90, 3) := by decide +kernel
theorem dL_law_858 : decode mL_law.2.1 858 = .ok (.aload_n 2, 1) := by decide +kernel
theorem dL_law_859 : decode mL_law.2.1 859 = .ok (.aload_n 0, 1) := by decide +kernel
theorem dL_law_860 : decode mL_law.2.1 860 = .ok (.iload 4, 2) := by decide +kernel
theorem dL_law_862 : decode mL_law.2.1 862 = .ok (.iconst 1, 1) := by decide +kernel
theorem dL_law_863 : decode mL_law.2.1 863 = .ok (.iadd, 1) := by decide +kernel
theorem dL_law_864 : decode mL_law.2.1 864 = .ok (.iaload, 1) := by decide +kernel
theorem dL_law_865 : decode mL_law.2.1 865 = .ok (.aload_n 0, 1) := by decide +kernel
theorem dL_law_866 : decode mL_law.2.1 866 = .ok (.iload 4, 2) := by decide +kernel
theorem dL_law_868 : decode mL_law.2.1 868 = .ok (.iconst 2, 1) := by decide +kernel
theorem dL_law_869 : decode mL_law.2.1 869 = .ok (.iadd, 1) := by decide +kernel
theorem dL_law_870 : decode mL_law.2.1 870 = .ok (.iaload, 1) := by decide +kernel
theorem dL_law_871 : decode mL_law.2.1 871 = .ok (.aload_n 0, 1) := by decide +kernel
theorem dL_law_872 : decode mL_law.2.1 872 = .ok (.iload 4, 2) := by decide +kernel
theorem dL_law_874 : decode mL_law.2.1 874 = .ok (.iconst 3, 1) := by decide +kernel
theorem dL_law_875 : decode mL_law.2.1 875 = .ok (.iadd, 1) := by decide +kernel
theorem dL_law_876 : decode mL_law.2.1 876 = .ok (.iaload, 1) := by decide +kernel
theorem dL_law_877 : decode mL_law.2.1 877 = .ok (.invokevirtual 93, 3) := by decide +kernel
theorem dL_law_880 : decode mL_law.2.1 880 = .ok (.if_icmp .eq 160, 3) := by decide +kernel
theorem dL_law_883 : decode mL_law.2.1 883 = .ok (.iconst 0, 1) := by decide +kernel
theorem dL_law_884 : decode mL_law.2.1 884 = .ok (.ireturn, 1) := by decide +kernel
theorem dL_law_885 : decode mL_law.2.1 885 = .ok (.aload_n 1, 1) := by decide +kernel
theorem dL_law_886 : decode mL_law.2.1 886 = .ok (.aload_n 0, 1) := by decide +kernel
theorem dL_law_887 : decode mL_law.2.1 887 = .ok (.iload 4, 2) := by decide +kernel
theorem dL_law_889 : decode mL_law.2.1 889 = .ok (.iconst 1, 1) := by decide +kernel
theorem dL_law_890 : decode mL_law.2.1 890 = .ok (.iadd, 1) := by decide +kernel
theorem dL_law_891 : decode mL_law.2.1 891 = .ok (.iaload, 1) := by decide +kernel
theorem dL_law_892 : decode mL_law.2.1 892 = .ok (.aload_n 0, 1) := by decide +kernel
theorem dL_law_893 : decode mL_law.2.1 893 = .ok (.iload 4, 2) := by decide +kernel
theorem dL_law_895 : decode mL_law.2.1 895 = .ok (.iconst 2, 1) := by decide +kernel
theorem dL_law_896 : decode mL_law.2.1 896 = .ok (.iadd, 1) := by decide +kernel
theorem dL_law_897 : decode mL_law.2.1 897 = .ok (.iaload, 1) := by decide +kernel
theorem dL_law_898 : decode mL_law.2.1 898 = .ok (.invokevirtual 94, 3) := by decide +kernel
theorem dL_law_901 : decode mL_law.2.1 901 = .ok (.aload_n 2, 1) := by decide +kernel
theorem dL_law_902 : decode mL_law.2.1 902 = .ok (.aload_n 0, 1) := by decide +kernel
theorem dL_law_903 : decode mL_law.2.1 903 = .ok (.iload 4, 2) := by decide +kernel
theorem dL_law_905 : decode mL_law.2.1 905 = .ok (.iconst 1, 1) := by decide +kernel
theorem dL_law_906 : decode mL_law.2.1 906 = .ok (.iadd, 1) := by decide +kernel
theorem dL_law_907 : decode mL_law.2.1 907 = .ok (.iaload, 1) := by decide +kernel
theorem dL_law_908 : decode mL_law.2.1 908 = .ok (.aload_n 0, 1) := by decide +kernel
theorem dL_law_909 : decode mL_law.2.1 909 = .ok (.iload 4, 2) := by decide +kernel
theorem dL_law_911 : decode mL_law.2.1 911 = .ok (.iconst 2, 1) := by decide +kernel
theorem dL_law_912 : decode mL_law.2.1 912 = .ok (.iadd, 1) := by decide +kernel
theorem dL_law_913 : decode mL_law.2.1 913 = .ok (.iaload, 1) := by decide +kernel
theorem dL_law_914 : decode mL_law.2.1 914 = .ok (.invokevirtual 97, 3) := by decide +kernel
theorem dL_law_917 : decode mL_law.2.1 917 = .ok (.if_icmp .eq 123, 3) := by decide +kernel
theorem dL_law_920 : decode mL_law.2.1 920 = .ok (.iconst 0, 1) := by decide +kernel
theorem dL_law_921 : decode mL_law.2.1 921 = .ok (.ireturn, 1) := by decide +kernel
theorem dL_law_922 : decode mL_law.2.1 922 = .ok (.aload_n 1, 1) := by decide +kernel
theorem dL_law_923 : decode mL_law.2.1 923 = .ok (.aload_n 0, 1) := by decide +kernel
theorem dL_law_924 : decode mL_law.2.1 924 = .ok (.iload 4, 2) := by decide +kernel
theorem dL_law_926 : decode mL_law.2.1 926 = .ok (.iconst 1, 1) := by decide +kernel
theorem dL_law_927 : decode mL_law.2.1 927 = .ok (.iadd, 1) := by decide +kernel
theorem dL_law_928 : decode mL_law.2.1 928 = .ok (.iaload, 1) := by decide +kernel
theorem dL_law_929 : decode mL_law.2.1 929 = .ok (.aload_n 3, 1) := by decide +kernel
theorem dL_law_930 : decode mL_law.2.1 930 = .ok (.invokestatic 98, 3) := by decide +kernel
theorem dL_law_933 : decode mL_law.2.1 933 = .ok (.istore 5, 2) := by decide +kernel
theorem dL_law_935 : decode mL_law.2.1 935 = .ok (.aload_n 2, 1) := by decide +kernel
theorem dL_law_936 : decode mL_law.2.1 936 = .ok (.aload_n 0, 1) := by decide +kernel
theorem dL_law_937 : decode mL_law.2.1 937 = .ok (.iload 4, 2) := by decide +kernel
theorem dL_law_939 : decode mL_law.2.1 939 = .ok (.iconst 1, 1) := by decide +kernel
theorem dL_law_940 : decode mL_law.2.1 940 = .ok (.iadd, 1) := by decide +kernel
theorem dL_law_941 : decode mL_law.2.1 941 = .ok (.iaload, 1) := by decide +kernel
theorem dL_law_942 : decode mL_law.2.1 942 = .ok (.invokevirtual 103, 3) := by decide +kernel
theorem dL_law_945 : decode mL_law.2.1 945 = .ok (.istore 6, 2) := by decide +kernel
theorem dL_law_947 : decode mL_law.2.1 947 = .ok (.aload_n 2, 1) := by decide +kernel
theorem dL_law_948 : decode mL_law.2.1 948 = .ok (.invokevirtual 104, 3) := by decide +kernel
theorem dL_law_951 : decode mL_law.2.1 951 = .ok (.iload 5, 2) := by decide +kernel
theorem dL_law_953 : decode mL_law.2.1 953 = .ok (.if_icmp .eq 5, 3) := by decide +kernel
theorem dL_law_956 : decode mL_law.2.1 956 = .ok (.iconst 0, 1) := by decide +kernel
theorem dL_law_957 : decode mL_law.2.1 957 = .ok (.ireturn, 1) := by decide +kernel
theorem dL_law_958 : decode mL_law.2.1 958 = .ok (.iload 5, 2) := by decide +kernel
theorem dL_law_960 : decode mL_law.2.1 960 = .ok (.ifCond .ne 15, 3) := by decide +kernel
theorem dL_law_963 : decode mL_law.2.1 963 = .ok (.aload_n 3, 1) := by decide +kernel
theorem dL_law_964 : decode mL_law.2.1 964 = .ok (.iconst 0, 1) := by decide +kernel
theorem dL_law_965 : decode mL_law.2.1 965 = .ok (.laload, 1) := by decide +kernel
theorem dL_law_966 : decode mL_law.2.1 966 = .ok (.iload 6, 2) := by decide +kernel
theorem dL_law_968 : decode mL_law.2.1 968 = .ok (.i2l, 1) := by decide +kernel
theorem dL_law_969 : decode mL_law.2.1 969 = .ok (.lcmp, 1) := by decide +kernel
theorem dL_law_970 : decode mL_law.2.1 970 = .ok (.ifCond .eq 5, 3) := by decide +kernel
theorem dL_law_973 : decode mL_law.2.1 973 = .ok (.iconst 0, 1) := by decide +kernel
theorem dL_law_974 : decode mL_law.2.1 974 = .ok (.ireturn, 1) := by decide +kernel
theorem dL_law_975 : decode mL_law.2.1 975 = .ok (.goto 65, 3) := by decide +kernel
theorem dL_law_978 : decode mL_law.2.1 978 = .ok (.aload_n 1, 1) := by decide +kernel
theorem dL_law_979 : decode mL_law.2.1 979 = .ok (.aload_n 0, 1) := by decide +kernel
theorem dL_law_980 : decode mL_law.2.1 980 = .ok (.iload 4, 2) := by decide +kernel
theorem dL_law_982 : decode mL_law.2.1 982 = .ok (.iconst 1, 1) := by decide +kernel
theorem dL_law_983 : decode mL_law.2.1 983 = .ok (.iadd, 1) := by decide +kernel
theorem dL_law_984 : decode mL_law.2.1 984 = .ok (.iaload, 1) := by decide +kernel
theorem dL_law_985 : decode mL_law.2.1 985 = .ok (.aload_n 0, 1) := by decide +kernel
theorem dL_law_986 : decode mL_law.2.1 986 = .ok (.iload 4, 2) := by decide +kernel
theorem dL_law_988 : decode mL_law.2.1 988 = .ok (.iconst 2, 1) := by decide +kernel
theorem dL_law_989 : decode mL_law.2.1 989 = .ok (.iadd, 1) := by decide +kernel
theorem dL_law_990 : decode mL_law.2.1 990 = .ok (.iaload, 1) := by decide +kernel
theorem dL_law_991 : decode mL_law.2.1 991 = .ok (.invokevirtual 107, 3) := by decide +kernel
theorem dL_law_994 : decode mL_law.2.1 994 = .ok (.aload_n 2, 1) := by decide +kernel
theorem dL_law_995 : decode mL_law.2.1 995 = .ok (.aload_n 0, 1) := by decide +kernel
theorem dL_law_996 : decode mL_law.2.1 996 = .ok (.iload 4, 2) := by decide +kernel
theorem dL_law_998 : decode mL_law.2.1 998 = .ok (.iconst 1, 1) := by decide +kernel
theorem dL_law_999 : decode mL_law.2.1 999 = .ok (.iadd, 1) := by decide +kernel
theorem dL_law_1000 : decode mL_law.2.1 1000 = .ok (.iaload, 1) := by decide +kernel
theorem dL_law_1001 : decode mL_law.2.1 1001 = .ok (.aload_n 0, 1) := by decide +kernel
theorem dL_law_1002 : decode mL_law.2.1 1002 = .ok (.iload 4, 2) := by decide +kernel
theorem dL_law_1004 : decode mL_law.2.1 1004 = .ok (.iconst 2, 1) := by decide +kernel
theorem dL_law_1005 : decode mL_law.2.1 1005 = .ok (.iadd, 1) := by decide +kernel
theorem dL_law_1006 : decode mL_law.2.1 1006 = .ok (.iaload, 1) := by decide +kernel
theorem dL_law_1007 : decode mL_law.2.1 1007 = .ok (.invokevirtual 110, 3) := by decide +kernel
theorem dL_law_1010 : decode mL_law.2.1 1010 = .ok (.if_icmp .eq 30, 3) := by decide +kernel
theorem dL_law_1013 : decode mL_law.2.1 1013 = .ok (.iconst 0, 1) := by decide +kernel
theorem dL_law_1014 : decode mL_law.2.1 1014 = .ok (.ireturn, 1) := by decide +kernel
theorem dL_law_1015 : decode mL_law.2.1 1015 = .ok (.aload_n 1, 1) := by decide +kernel
theorem dL_law_1016 : decode mL_law.2.1 1016 = .ok (.aload_n 0, 1) := by decide +kernel
theorem dL_law_1017 : decode mL_law.2.1 1017 = .ok (.iload 4, 2) := by decide +kernel
theorem dL_law_1019 : decode mL_law.2.1 1019 = .ok (.iconst 1, 1) := by decide +kernel
theorem dL_law_1020 : decode mL_law.2.1 1020 = .ok (.iadd, 1) := by decide +kernel
theorem dL_law_1021 : decode mL_law.2.1 1021 = .ok (.iaload, 1) := by decide +kernel
theorem dL_law_1022 : decode mL_law.2.1 1022 = .ok (.invokevirtual 111, 3) := by decide +kernel
theorem dL_law_1025 : decode mL_law.2.1 1025 = .ok (.aload_n 2, 1) := by decide +kernel
theorem dL_law_1026 : decode mL_law.2.1 1026 = .ok (.aload_n 0, 1) := by decide +kernel
theorem dL_law_1027 : decode mL_law.2.1 1027 = .ok (.iload 4, 2) := by decide +kernel
theorem dL_law_1029 : decode mL_law.2.1 1029 = .ok (.iconst 1, 1) := by decide +kernel
theorem dL_law_1030 : decode mL_law.2.1 1030 = .ok (.iadd, 1) := by decide +kernel
theorem dL_law_1031 : decode mL_law.2.1 1031 = .ok (.iaload, 1) := by decide +kernel
theorem dL_law_1032 : decode mL_law.2.1 1032 = .ok (.invokevirtual 114, 3) := by decide +kernel
theorem dL_law_1035 : decode mL_law.2.1 1035 = .ok (.if_icmp .eq 5, 3) := by decide +kernel
theorem dL_law_1038 : decode mL_law.2.1 1038 = .ok (.iconst 0, 1) := by decide +kernel
theorem dL_law_1039 : decode mL_law.2.1 1039 = .ok (.ireturn, 1) := by decide +kernel
theorem dL_law_1040 : decode mL_law.2.1 1040 = .ok (.iinc 4 6, 3) := by decide +kernel
theorem dL_law_1043 : decode mL_law.2.1 1043 = .ok (.goto (-1020), 3) := by decide +kernel
theorem dL_law_1046 : decode mL_law.2.1 1046 = .ok (.iconst 1, 1) := by decide +kernel
theorem dL_law_1047 : decode mL_law.2.1 1047 = .ok (.ireturn, 1) := by decide +kernel
theorem dX0_addRule_0 : decode mX0_addRule.2.1 0 = .ok (.aload_n 0, 1) := by decide +kernel
theorem dX0_addRule_1 : decode mX0_addRule.2.1 1 = .ok (.getfield 27, 3) := by decide +kernel
theorem dX0_addRule_4 : decode mX0_addRule.2.1 4 = .ok (.bipush 20, 2) := by decide +kernel
theorem dX0_addRule_6 : decode mX0_addRule.2.1 6 = .ok (.if_icmp .lt 4, 3) := by decide +kernel
theorem dX0_addRule_9 : decode mX0_addRule.2.1 9 = .ok (.return_, 1) := by decide +kernel
theorem dX0_addRule_10 : decode mX0_addRule.2.1 10 = .ok (.aload_n 0, 1) := by decide +kernel
theorem dX0_addRule_11 : decode mX0_addRule.2.1 11 = .ok (.getfield 9, 3) := by decide +kernel
theorem dX0_addRule_14 : decode mX0_addRule.2.1 14 = .ok (.aload_n 0, 1) := by decide +kernel
theorem dX0_addRule_15 : decode mX0_addRule.2.1 15 = .ok (.getfield 27, 3) := by decide +kernel
theorem dX0_addRule_18 : decode mX0_addRule.2.1 18 = .ok (.aload_n 0, 1) := by decide +kernel
theorem dX0_addRule_19 : decode mX0_addRule.2.1 19 = .ok (.getfield 31, 3) := by decide +kernel
theorem dX0_addRule_22 : decode mX0_addRule.2.1 22 = .ok (.iastore, 1) := by decide +kernel
theorem dX0_addRule_23 : decode mX0_addRule.2.1 23 = .ok (.aload_n 0, 1) := by decide +kernel
theorem dX0_addRule_24 : decode mX0_addRule.2.1 24 = .ok (.getfield 15, 3) := by decide +kernel
theorem dX0_addRule_27 : decode mX0_addRule.2.1 27 = .ok (.aload_n 0, 1) := by decide +kernel
theorem dX0_addRule_28 : decode mX0_addRule.2.1 28 = .ok (.getfield 27, 3) := by decide +kernel
theorem dX0_addRule_31 : decode mX0_addRule.2.1 31 = .ok (.iload_n 1, 1) := by decide +kernel
theorem dX0_addRule_32 : decode mX0_addRule.2.1 32 = .ok (.iastore, 1) := by decide +kernel
theorem dX0_addRule_33 : decode mX0_addRule.2.1 33 = .ok (.aload_n 0, 1) := by decide +kernel
theorem dX0_addRule_34 : decode mX0_addRule.2.1 34 = .ok (.dup, 1) := by decide +kernel
theorem dX0_addRule_35 : decode mX0_addRule.2.1 35 = .ok (.getfield 27, 3) := by decide +kernel
theorem dX0_addRule_38 : decode mX0_addRule.2.1 38 = .ok (.iconst 1, 1) := by decide +kernel
theorem dX0_addRule_39 : decode mX0_addRule.2.1 39 = .ok (.iadd, 1) := by decide +kernel
theorem dX0_addRule_40 : decode mX0_addRule.2.1 40 = .ok (.putfield 27, 3) := by decide +kernel
theorem dX0_addRule_43 : decode mX0_addRule.2.1 43 = .ok (.return_, 1) := by decide +kernel
theorem dX0_addTerm_0 : decode mX0_addTerm.2.1 0 = .ok (.aload_n 0, 1) := by decide +kernel
theorem dX0_addTerm_1 : decode mX0_addTerm.2.1 1 = .ok (.getfield 31, 3) := by decide +kernel
theorem dX0_addTerm_4 : decode mX0_addTerm.2.1 4 = .ok (.bipush 80, 2) := by decide +kernel
theorem dX0_addTerm_6 : decode mX0_addTerm.2.1 6 = .ok (.if_icmp .lt 4, 3) := by decide +kernel
theorem dX0_addTerm_9 : decode mX0_addTerm.2.1 9 = .ok (.return_, 1) := by decide +kernel
theorem dX0_addTerm_10 : decode mX0_addTerm.2.1 10 = .ok (.aload_n 0, 1) := by decide +kernel
theorem dX0_addTerm_11 : decode mX0_addTerm.2.1 11 = .ok (.getfield 18, 3) := by decide +kernel
theorem dX0_addTerm_14 : decode mX0_addTerm.2.1 14 = .ok (.aload_n 0, 1) := by decide +kernel
theorem dX0_addTerm_15 : decode mX0_addTerm.2.1 15 = .ok (.getfield 31, 3) := by decide +kernel
theorem dX0_addTerm_18 : decode mX0_addTerm.2.1 18 = .ok (.iload_n 1, 1) := by decide +kernel
theorem dX0_addTerm_19 : decode mX0_addTerm.2.1 19 = .ok (.iastore, 1) := by decide +kernel
theorem dX0_addTerm_20 : decode mX0_addTerm.2.1 20 = .ok (.aload_n 0, 1) := by decide +kernel
theorem dX0_addTerm_21 : decode mX0_addTerm.2.1 21 = .ok (.getfield 21, 3) := by decide +kernel
theorem dX0_addTerm_24 : decode mX0_addTerm.2.1 24 = .ok (.aload_n 0, 1) := by decide +kernel
theorem dX0_addTerm_25 : decode mX0_addTerm.2.1 25 = .ok (.getfield 31, 3) := by decide +kernel
theorem dX0_addTerm_28 : decode mX0_addTerm.2.1 28 = .ok (.iload_n 2, 1) := by decide +kernel
theorem dX0_addTerm_29 : decode mX0_addTerm.2.1 29 = .ok (.iastore, 1) := by decide +kernel
theorem dX0_addTerm_30 : decode mX0_addTerm.2.1 30 = .ok (.aload_n 0, 1) := by decide +kernel
theorem dX0_addTerm_31 : decode mX0_addTerm.2.1 31 = .ok (.getfield 24, 3) := by decide +kernel
theorem dX0_addTerm_34 : decode mX0_addTerm.2.1 34 = .ok (.aload_n 0, 1) := by decide +kernel
theorem dX0_addTerm_35 : decode mX0_addTerm.2.1 35 = .ok (.getfield 31, 3) := by decide +kernel
theorem dX0_addTerm_38 : decode mX0_addTerm.2.1 38 = .ok (.iload_n 3, 1) := by decide +kernel
theorem dX0_addTerm_39 : decode mX0_addTerm.2.1 39 = .ok (.iastore, 1) := by decide +kernel
theorem dX0_addTerm_40 : decode mX0_addTerm.2.1 40 = .ok (.aload_n 0, 1) := by decide +kernel
theorem dX0_addTerm_41 : decode mX0_addTerm.2.1 41 = .ok (.dup, 1) := by decide +kernel
theorem dX0_addTerm_42 : decode mX0_addTerm.2.1 42 = .ok (.getfield 31, 3) := by decide +kernel
theorem dX0_addTerm_45 : decode mX0_addTerm.2.1 45 = .ok (.iconst 1, 1) := by decide +kernel
theorem dX0_addTerm_46 : decode mX0_addTerm.2.1 46 = .ok (.iadd, 1) := by decide +kernel
theorem dX0_addTerm_47 : decode mX0_addTerm.2.1 47 = .ok (.putfield 31, 3) := by decide +kernel
theorem dX0_addTerm_50 : decode mX0_addTerm.2.1 50 = .ok (.return_, 1) := by decide +kernel
theorem dX0_clear_0 : decode mX0_clear.2.1 0 = .ok (.aload_n 0, 1) := by decide +kernel
theorem dX0_clear_1 : decode mX0_clear.2.1 1 = .ok (.iconst 0, 1) := by decide +kernel
theorem dX0_clear_2 : decode mX0_clear.2.1 2 = .ok (.putfield 27, 3) := by decide +kernel
theorem dX0_clear_5 : decode mX0_clear.2.1 5 = .ok (.aload_n 0, 1) := by decide +kernel
theorem dX0_clear_6 : decode mX0_clear.2.1 6 = .ok (.iconst 0, 1) := by decide +kernel
theorem dX0_clear_7 : decode mX0_clear.2.1 7 = .ok (.putfield 31, 3) := by decide +kernel
theorem dX0_clear_10 : decode mX0_clear.2.1 10 = .ok (.return_, 1) := by decide +kernel
theorem dX0_holdAll_0 : decode mX0_holdAll.2.1 0 = .ok (.iload_n 1, 1) := by decide +kernel
theorem dX0_holdAll_1 : decode mX0_holdAll.2.1 1 = .ok (.istore 5, 2) := by decide +kernel
theorem dX0_holdAll_3 : decode mX0_holdAll.2.1 3 = .ok (.iload 5, 2) := by decide +kernel
theorem dX0_holdAll_5 : decode mX0_holdAll.2.1 5 = .ok (.iload_n 2, 1) := by decide +kernel
theorem dX0_holdAll_6 : decode mX0_holdAll.2.1 6 = .ok (.if_icmp .ge 51, 3) := by decide +kernel
theorem dX0_holdAll_9 : decode mX0_holdAll.2.1 9 = .ok (.iload 5, 2) := by decide +kernel
theorem dX0_holdAll_11 : decode mX0_holdAll.2.1 11 = .ok (.bipush 80, 2) := by decide +kernel
theorem dX0_holdAll_13 : decode mX0_holdAll.2.1 13 = .ok (.if_icmp .ge 44, 3) := by decide +kernel
theorem dX0_holdAll_16 : decode mX0_holdAll.2.1 16 = .ok (.aload_n 0, 1) := by decide +kernel
theorem dX0_holdAll_17 : decode mX0_holdAll.2.1 17 = .ok (.getfield 21, 3) := by decide +kernel
theorem dX0_holdAll_20 : decode mX0_holdAll.2.1 20 = .ok (.iload 5, 2) := by decide +kernel
theorem dX0_holdAll_22 : decode mX0_holdAll.2.1 22 = .ok (.iaload, 1) := by decide +kernel
theorem dX0_holdAll_23 : decode mX0_holdAll.2.1 23 = .ok (.aload_n 0, 1) := by decide +kernel
theorem dX0_holdAll_24 : decode mX0_holdAll.2.1 24 = .ok (.getfield 18, 3) := by decide +kernel
theorem dX0_holdAll_27 : decode mX0_holdAll.2.1 27 = .ok (.iload 5, 2) := by decide +kernel
theorem dX0_holdAll_29 : decode mX0_holdAll.2.1 29 = .ok (.iaload, 1) := by decide +kernel
theorem dX0_holdAll_30 : decode mX0_holdAll.2.1 30 = .ok (.aload_n 3, 1) := by decide +kernel
theorem dX0_holdAll_31 : decode mX0_holdAll.2.1 31 = .ok (.iload 4, 2) := by decide +kernel
theorem dX0_holdAll_33 : decode mX0_holdAll.2.1 33 = .ok (.invokestatic 41, 3) := by decide +kernel
theorem dX0_holdAll_36 : decode mX0_holdAll.2.1 36 = .ok (.aload_n 0, 1) := by decide +kernel
theorem dX0_holdAll_37 : decode mX0_holdAll.2.1 37 = .ok (.getfield 24, 3) := by decide +kernel
theorem dX0_holdAll_40 : decode mX0_holdAll.2.1 40 = .ok (.iload 5, 2) := by decide +kernel
theorem dX0_holdAll_42 : decode mX0_holdAll.2.1 42 = .ok (.iaload, 1) := by decide +kernel
theorem dX0_holdAll_43 : decode mX0_holdAll.2.1 43 = .ok (.invokestatic 45, 3) := by decide +kernel
theorem dX0_holdAll_46 : decode mX0_holdAll.2.1 46 = .ok (.ifCond .ne 5, 3) := by decide +kernel
theorem dX0_holdAll_49 : decode mX0_holdAll.2.1 49 = .ok (.iconst 0, 1) := by decide +kernel
theorem dX0_holdAll_50 : decode mX0_holdAll.2.1 50 = .ok (.ireturn, 1) := by decide +kernel
theorem dX0_holdAll_51 : decode mX0_holdAll.2.1 51 = .ok (.iinc 5 1, 3) := by decide +kernel
theorem dX0_holdAll_54 : decode mX0_holdAll.2.1 54 = .ok (.goto (-51), 3) := by decide +kernel
theorem dX0_holdAll_57 : decode mX0_holdAll.2.1 57 = .ok (.iconst 1, 1) := by decide +kernel
theorem dX0_holdAll_58 : decode mX0_holdAll.2.1 58 = .ok (.ireturn, 1) := by decide +kernel
theorem dX0_holds_0 : decode mX0_holds.2.1 0 = .ok (.iload_n 0, 1) := by decide +kernel
theorem dX0_holds_1 : decode mX0_holds.2.1 1 = .ok (.bipush 60, 2) := by decide +kernel
theorem dX0_holds_3 : decode mX0_holds.2.1 3 = .ok (.if_icmp .ne 14, 3) := by decide +kernel
theorem dX0_holds_6 : decode mX0_holds.2.1 6 = .ok (.iload_n 1, 1) := by decide +kernel
theorem dX0_holds_7 : decode mX0_holds.2.1 7 = .ok (.iload_n 2, 1) := by decide +kernel
theorem dX0_holds_8 : decode mX0_holds.2.1 8 = .ok (.if_icmp .ge 7, 3) := by decide +kernel
theorem dX0_holds_11 : decode mX0_holds.2.1 11 = .ok (.iconst 1, 1) := by decide +kernel
theorem dX0_holds_12 : decode mX0_holds.2.1 12 = .ok (.goto 4, 3) := by decide +kernel
theorem dX0_holds_15 : decode mX0_holds.2.1 15 = .ok (.iconst 0, 1) := by decide +kernel
theorem dX0_holds_16 : decode mX0_holds.2.1 16 = .ok (.ireturn, 1) := by decide +kernel
theorem dX0_holds_17 : decode mX0_holds.2.1 17 = .ok (.iload_n 0, 1) := by decide +kernel
theorem dX0_holds_18 : decode mX0_holds.2.1 18 = .ok (.bipush 62, 2) := by decide +kernel
theorem dX0_holds_20 : decode mX0_holds.2.1 20 = .ok (.if_icmp .ne 16, 3) := by decide +kernel
theorem dX0_holds_23 : decode mX0_holds.2.1 23 = .ok (.iload_n 1, 1) := by decide +kernel
theorem dX0_holds_24 : decode mX0_holds.2.1 24 = .ok (.iload_n 2, 1) := by decide +kernel
theorem dX0_holds_25 : decode mX0_holds.2.1 25 = .ok (.if_icmp .le 7, 3) := by decide +kernel
theorem dX0_holds_28 : decode mX0_holds.2.1 28 = .ok (.iconst 1, 1) := by decide +kernel
theorem dX0_holds_29 : decode mX0_holds.2.1 29 = .ok (.goto 17, 3) := by decide +kernel
theorem dX0_holds_32 : decode mX0_holds.2.1 32 = .ok (.iconst 0, 1) := by decide +kernel
theorem dX0_holds_33 : decode mX0_holds.2.1 33 = .ok (.goto 13, 3) := by decide +kernel
theorem dX0_holds_36 : decode mX0_holds.2.1 36 = .ok (.iload_n 1, 1) := by decide +kernel
theorem dX0_holds_37 : decode mX0_holds.2.1 37 = .ok (.iload_n 2, 1) := by decide +kernel
theorem dX0_holds_38 : decode mX0_holds.2.1 38 = .ok (.if_icmp .ne 7, 3) := by decide +kernel
theorem dX0_holds_41 : decode mX0_holds.2.1 41 = .ok (.iconst 1, 1) := by decide +kernel
theorem dX0_holds_42 : decode mX0_holds.2.1 42 = .ok (.goto 4, 3) := by decide +kernel
theorem dX0_holds_45 : decode mX0_holds.2.1 45 = .ok (.iconst 0, 1) := by decide +kernel
theorem dX0_holds_46 : decode mX0_holds.2.1 46 = .ok (.ireturn, 1) := by decide +kernel
theorem dX0_init_0 : decode mX0_init.2.1 0 = .ok (.aload_n 0, 1) := by decide +kernel
theorem dX0_init_1 : decode mX0_init.2.1 1 = .ok (.invokespecial 3, 3) := by decide +kernel
theorem dX0_init_4 : decode mX0_init.2.1 4 = .ok (.aload_n 0, 1) := by decide +kernel
theorem dX0_init_5 : decode mX0_init.2.1 5 = .ok (.bipush 20, 2) := by decide +kernel
theorem dX0_init_7 : decode mX0_init.2.1 7 = .ok (.newarray .int, 2) := by decide +kernel
theorem dX0_init_9 : decode mX0_init.2.1 9 = .ok (.putfield 9, 3) := by decide +kernel
theorem dX0_init_12 : decode mX0_init.2.1 12 = .ok (.aload_n 0, 1) := by decide +kernel
theorem dX0_init_13 : decode mX0_init.2.1 13 = .ok (.bipush 20, 2) := by decide +kernel
theorem dX0_init_15 : decode mX0_init.2.1 15 = .ok (.newarray .int, 2) := by decide +kernel
theorem dX0_init_17 : decode mX0_init.2.1 17 = .ok (.putfield 15, 3) := by decide +kernel
theorem dX0_init_20 : decode mX0_init.2.1 20 = .ok (.aload_n 0, 1) := by decide +kernel
theorem dX0_init_21 : decode mX0_init.2.1 21 = .ok (.bipush 80, 2) := by decide +kernel
theorem dX0_init_23 : decode mX0_init.2.1 23 = .ok (.newarray .int, 2) := by decide +kernel
theorem dX0_init_25 : decode mX0_init.2.1 25 = .ok (.putfield 18, 3) := by decide +kernel
theorem dX0_init_28 : decode mX0_init.2.1 28 = .ok (.aload_n 0, 1) := by decide +kernel
theorem dX0_init_29 : decode mX0_init.2.1 29 = .ok (.bipush 80, 2) := by decide +kernel
theorem dX0_init_31 : decode mX0_init.2.1 31 = .ok (.newarray .int, 2) := by decide +kernel
theorem dX0_init_33 : decode mX0_init.2.1 33 = .ok (.putfield 21, 3) := by decide +kernel
theorem dX0_init_36 : decode mX0_init.2.1 36 = .ok (.aload_n 0, 1) := by decide +kernel
theorem dX0_init_37 : decode mX0_init.2.1 37 = .ok (.bipush 80, 2) := by decide +kernel
theorem dX0_init_39 : decode mX0_init.2.1 39 = .ok (.newarray .int, 2) := by decide +kernel
theorem dX0_init_41 : decode mX0_init.2.1 41 = .ok (.putfield 24, 3) := by decide +kernel
theorem dX0_init_44 : decode mX0_init.2.1 44 = .ok (.aload_n 0, 1) := by decide +kernel
theorem dX0_init_45 : decode mX0_init.2.1 45 = .ok (.iconst 0, 1) := by decide +kernel
theorem dX0_init_46 : decode mX0_init.2.1 46 = .ok (.putfield 27, 3) := by decide +kernel
theorem dX0_init_49 : decode mX0_init.2.1 49 = .ok (.aload_n 0, 1) := by decide +kernel
theorem dX0_init_50 : decode mX0_init.2.1 50 = .ok (.iconst 0, 1) := by decide +kernel
theorem dX0_init_51 : decode mX0_init.2.1 51 = .ok (.putfield 31, 3) := by decide +kernel
theorem dX0_init_54 : decode mX0_init.2.1 54 = .ok (.aload_n 0, 1) := by decide +kernel
theorem dX0_init_55 : decode mX0_init.2.1 55 = .ok (.iconst 0, 1) := by decide +kernel
theorem dX0_init_56 : decode mX0_init.2.1 56 = .ok (.putfield 34, 3) := by decide +kernel
theorem dX0_init_59 : decode mX0_init.2.1 59 = .ok (.return_, 1) := by decide +kernel
theorem dX0_measure_0 : decode mX0_measure.2.1 0 = .ok (.iload_n 0, 1) := by decide +kernel
theorem dX0_measure_1 : decode mX0_measure.2.1 1 = .ok (.tableswitch 39 0 2 #[27, 32, 34], 27) := by decide +kernel
theorem dX0_measure_28 : decode mX0_measure.2.1 28 = .ok (.aload_n 1, 1) := by decide +kernel
theorem dX0_measure_29 : decode mX0_measure.2.1 29 = .ok (.getfield 49, 3) := by decide +kernel
theorem dX0_measure_32 : decode mX0_measure.2.1 32 = .ok (.ireturn, 1) := by decide +kernel
theorem dX0_measure_33 : decode mX0_measure.2.1 33 = .ok (.iload_n 2, 1) := by decide +kernel
theorem dX0_measure_34 : decode mX0_measure.2.1 34 = .ok (.ireturn, 1) := by decide +kernel
theorem dX0_measure_35 : decode mX0_measure.2.1 35 = .ok (.aload_n 1, 1) := by decide +kernel
theorem dX0_measure_36 : decode mX0_measure.2.1 36 = .ok (.getfield 54, 3) := by decide +kernel
theorem dX0_measure_39 : decode mX0_measure.2.1 39 = .ok (.ireturn, 1) := by decide +kernel
theorem dX0_measure_40 : decode mX0_measure.2.1 40 = .ok (.aload_n 1, 1) := by decide +kernel
theorem dX0_measure_41 : decode mX0_measure.2.1 41 = .ok (.getfield 57, 3) := by decide +kernel
theorem dX0_measure_44 : decode mX0_measure.2.1 44 = .ok (.ireturn, 1) := by decide +kernel
theorem dX0_payFor_0 : decode mX0_payFor.2.1 0 = .ok (.iconst 0, 1) := by decide +kernel
theorem dX0_payFor_1 : decode mX0_payFor.2.1 1 = .ok (.istore_n 3, 1) := by decide +kernel
theorem dX0_payFor_2 : decode mX0_payFor.2.1 2 = .ok (.iconst 0, 1) := by decide +kernel
theorem dX0_payFor_3 : decode mX0_payFor.2.1 3 = .ok (.istore 4, 2) := by decide +kernel
theorem dX0_payFor_5 : decode mX0_payFor.2.1 5 = .ok (.iconst 0, 1) := by decide +kernel
theorem dX0_payFor_6 : decode mX0_payFor.2.1 6 = .ok (.istore 5, 2) := by decide +kernel
theorem dX0_payFor_8 : decode mX0_payFor.2.1 8 = .ok (.iload 5, 2) := by decide +kernel
theorem dX0_payFor_10 : decode mX0_payFor.2.1 10 = .ok (.aload_n 0, 1) := by decide +kernel
theorem dX0_payFor_11 : decode mX0_payFor.2.1 11 = .ok (.getfield 27, 3) := by decide +kernel
theorem dX0_payFor_14 : decode mX0_payFor.2.1 14 = .ok (.if_icmp .ge 53, 3) := by decide +kernel
theorem dX0_payFor_17 : decode mX0_payFor.2.1 17 = .ok (.iload 5, 2) := by decide +kernel
theorem dX0_payFor_19 : decode mX0_payFor.2.1 19 = .ok (.bipush 20, 2) := by decide +kernel
theorem dX0_payFor_21 : decode mX0_payFor.2.1 21 = .ok (.if_icmp .ge 46, 3) := by decide +kernel
theorem dX0_payFor_24 : decode mX0_payFor.2.1 24 = .ok (.aload_n 0, 1) := by decide +kernel
theorem dX0_payFor_25 : decode mX0_payFor.2.1 25 = .ok (.iload 4, 2) := by decide +kernel
theorem dX0_payFor_27 : decode mX0_payFor.2.1 27 = .ok (.aload_n 0, 1) := by decide +kernel
theorem dX0_payFor_28 : decode mX0_payFor.2.1 28 = .ok (.getfield 9, 3) := by decide +kernel
theorem dX0_payFor_31 : decode mX0_payFor.2.1 31 = .ok (.iload 5, 2) := by decide +kernel
theorem dX0_payFor_33 : decode mX0_payFor.2.1 33 = .ok (.iaload, 1) := by decide +kernel
theorem dX0_payFor_34 : decode mX0_payFor.2.1 34 = .ok (.aload_n 1, 1) := by decide +kernel
theorem dX0_payFor_35 : decode mX0_payFor.2.1 35 = .ok (.iload_n 2, 1) := by decide +kernel
theorem dX0_payFor_36 : decode mX0_payFor.2.1 36 = .ok (.invokevirtual 37, 3) := by decide +kernel
theorem dX0_payFor_39 : decode mX0_payFor.2.1 39 = .ok (.ifCond .eq 13, 3) := by decide +kernel
theorem dX0_payFor_42 : decode mX0_payFor.2.1 42 = .ok (.iload_n 3, 1) := by decide +kernel
theorem dX0_payFor_43 : decode mX0_payFor.2.1 43 = .ok (.aload_n 0, 1) := by decide +kernel
theorem dX0_payFor_44 : decode mX0_payFor.2.1 44 = .ok (.getfield 15, 3) := by decide +kernel
theorem dX0_payFor_47 : decode mX0_payFor.2.1 47 = .ok (.iload 5, 2) := by decide +kernel
theorem dX0_payFor_49 : decode mX0_payFor.2.1 49 = .ok (.iaload, 1) := by decide +kernel
theorem dX0_payFor_50 : decode mX0_payFor.2.1 50 = .ok (.iadd, 1) := by decide +kernel
theorem dX0_payFor_51 : decode mX0_payFor.2.1 51 = .ok (.istore_n 3, 1) := by decide +kernel
theorem dX0_payFor_52 : decode mX0_payFor.2.1 52 = .ok (.aload_n 0, 1) := by decide +kernel
theorem dX0_payFor_53 : decode mX0_payFor.2.1 53 = .ok (.getfield 9, 3) := by decide +kernel
theorem dX0_payFor_56 : decode mX0_payFor.2.1 56 = .ok (.iload 5, 2) := by decide +kernel
theorem dX0_payFor_58 : decode mX0_payFor.2.1 58 = .ok (.iaload, 1) := by decide +kernel
theorem dX0_payFor_59 : decode mX0_payFor.2.1 59 = .ok (.istore 4, 2) := by decide +kernel
theorem dX0_payFor_61 : decode mX0_payFor.2.1 61 = .ok (.iinc 5 1, 3) := by decide +kernel
theorem dX0_payFor_64 : decode mX0_payFor.2.1 64 = .ok (.goto (-56), 3) := by decide +kernel
theorem dX0_payFor_67 : decode mX0_payFor.2.1 67 = .ok (.iload_n 3, 1) := by decide +kernel
theorem dX0_payFor_68 : decode mX0_payFor.2.1 68 = .ok (.ireturn, 1) := by decide +kernel
theorem dX10_bargain_0 : decode mX10_bargain.2.1 0 = .ok (.aload_n 0, 1) := by decide +kernel
theorem dX10_bargain_1 : decode mX10_bargain.2.1 1 = .ok (.getfield 71, 3) := by decide +kernel
theorem dX10_bargain_4 : decode mX10_bargain.2.1 4 = .ok (.bipush 10, 2) := by decide +kernel
theorem dX10_bargain_6 : decode mX10_bargain.2.1 6 = .ok (.if_icmp .lt 5, 3) := by decide +kernel
theorem dX10_bargain_9 : decode mX10_bargain.2.1 9 = .ok (.iconst (-1), 1) := by decide +kernel
theorem dX10_bargain_10 : decode mX10_bargain.2.1 10 = .ok (.ireturn, 1) := by decide +kernel
theorem dX10_bargain_11 : decode mX10_bargain.2.1 11 = .ok (.aload_n 0, 1) := by decide +kernel
theorem dX10_bargain_12 : decode mX10_bargain.2.1 12 = .ok (.getfield 53, 3) := by decide +kernel
theorem dX10_bargain_15 : decode mX10_bargain.2.1 15 = .ok (.aload_n 0, 1) := by decide +kernel
theorem dX10_bargain_16 : decode mX10_bargain.2.1 16 = .ok (.getfield 30, 3) := by decide +kernel
theorem dX10_bargain_19 : decode mX10_bargain.2.1 19 = .ok (.aload_n 0, 1) := by decide +kernel
theorem dX10_bargain_20 : decode mX10_bargain.2.1 20 = .ok (.getfield 71, 3) := by decide +kernel
theorem dX10_bargain_23 : decode mX10_bargain.2.1 23 = .ok (.aaload, 1) := by decide +kernel
theorem dX10_bargain_24 : decode mX10_bargain.2.1 24 = .ok (.invokevirtual 230, 3) := by decide +kernel
theorem dX10_bargain_27 : decode mX10_bargain.2.1 27 = .ok (.istore_n 1, 1) := by decide +kernel
theorem dX10_bargain_28 : decode mX10_bargain.2.1 28 = .ok (.aload_n 0, 1) := by decide +kernel
theorem dX10_bargain_29 : decode mX10_bargain.2.1 29 = .ok (.getfield 44, 3) := by decide +kernel
theorem dX10_bargain_32 : decode mX10_bargain.2.1 32 = .ok (.iconst 0, 1) := by decide +kernel
theorem dX10_bargain_33 : decode mX10_bargain.2.1 33 = .ok (.putfield 224, 3) := by decide +kernel
theorem dX10_bargain_36 : decode mX10_bargain.2.1 36 = .ok (.aload_n 0, 1) := by decide +kernel
theorem dX10_bargain_37 : decode mX10_bargain.2.1 37 = .ok (.aload_n 0, 1) := by decide +kernel
theorem dX10_bargain_38 : decode mX10_bargain.2.1 38 = .ok (.getfield 53, 3) := by decide +kernel
theorem dX10_bargain_41 : decode mX10_bargain.2.1 41 = .ok (.getfield 234, 3) := by decide +kernel
theorem dX10_bargain_44 : decode mX10_bargain.2.1 44 = .ok (.putfield 74, 3) := by decide +kernel
theorem dX10_bargain_47 : decode mX10_bargain.2.1 47 = .ok (.iload_n 1, 1) := by decide +kernel
theorem dX10_bargain_48 : decode mX10_bargain.2.1 48 = .ok (.ifCond .eq 8, 3) := by decide +kernel
theorem dX10_bargain_51 : decode mX10_bargain.2.1 51 = .ok (.bipush (-2), 2) := by decide +kernel
theorem dX10_bargain_53 : decode mX10_bargain.2.1 53 = .ok (.iload_n 1, 1) := by decide +kernel
theorem dX10_bargain_54 : decode mX10_bargain.2.1 54 = .ok (.isub, 1) := by decide +kernel
theorem dX10_bargain_55 : decode mX10_bargain.2.1 55 = .ok (.ireturn, 1) := by decide +kernel
theorem dX10_bargain_56 : decode mX10_bargain.2.1 56 = .ok (.aload_n 0, 1) := by decide +kernel
theorem dX10_bargain_57 : decode mX10_bargain.2.1 57 = .ok (.getfield 30, 3) := by decide +kernel
theorem dX10_bargain_60 : decode mX10_bargain.2.1 60 = .ok (.aload_n 0, 1) := by decide +kernel
theorem dX10_bargain_61 : decode mX10_bargain.2.1 61 = .ok (.getfield 71, 3) := by decide +kernel
theorem dX10_bargain_64 : decode mX10_bargain.2.1 64 = .ok (.aaload, 1) := by decide +kernel
theorem dX10_bargain_65 : decode mX10_bargain.2.1 65 = .ok (.aload_n 0, 1) := by decide +kernel
theorem dX10_bargain_66 : decode mX10_bargain.2.1 66 = .ok (.getfield 77, 3) := by decide +kernel
theorem dX10_bargain_69 : decode mX10_bargain.2.1 69 = .ok (.putfield 235, 3) := by decide +kernel
theorem dX10_bargain_72 : decode mX10_bargain.2.1 72 = .ok (.aload_n 0, 1) := by decide +kernel
theorem dX10_bargain_73 : decode mX10_bargain.2.1 73 = .ok (.dup, 1) := by decide +kernel
theorem dX10_bargain_74 : decode mX10_bargain.2.1 74 = .ok (.getfield 71, 3) := by decide +kernel
theorem dX10_bargain_77 : decode mX10_bargain.2.1 77 = .ok (.iconst 1, 1) := by decide +kernel
theorem dX10_bargain_78 : decode mX10_bargain.2.1 78 = .ok (.iadd, 1) := by decide +kernel
theorem dX10_bargain_79 : decode mX10_bargain.2.1 79 = .ok (.putfield 71, 3) := by decide +kernel
theorem dX10_bargain_82 : decode mX10_bargain.2.1 82 = .ok (.aload_n 0, 1) := by decide +kernel
theorem dX10_bargain_83 : decode mX10_bargain.2.1 83 = .ok (.getfield 71, 3) := by decide +kernel
theorem dX10_bargain_86 : decode mX10_bargain.2.1 86 = .ok (.iconst 1, 1) := by decide +kernel
theorem dX10_bargain_87 : decode mX10_bargain.2.1 87 = .ok (.isub, 1) := by decide +kernel
theorem dX10_bargain_88 : decode mX10_bargain.2.1 88 = .ok (.ireturn, 1) := by decide +kernel
theorem dX10_bargainIn_0 : decode mX10_bargainIn.2.1 0 = .ok (.aload_n 0, 1) := by decide +kernel
theorem dX10_bargainIn_1 : decode mX10_bargainIn.2.1 1 = .ok (.getfield 71, 3) := by decide +kernel
theorem dX10_bargainIn_4 : decode mX10_bargainIn.2.1 4 = .ok (.iconst 1, 1) := by decide +kernel
theorem dX10_bargainIn_5 : decode mX10_bargainIn.2.1 5 = .ok (.isub, 1) := by decide +kernel
theorem dX10_bargainIn_6 : decode mX10_bargainIn.2.1 6 = .ok (.istore_n 2, 1) := by decide +kernel
theorem dX10_bargainIn_7 : decode mX10_bargainIn.2.1 7 = .ok (.iload_n 2, 1) := by decide +kernel
theorem dX10_bargainIn_8 : decode mX10_bargainIn.2.1 8 = .ok (.ifCond .lt 30, 3) := by decide +kernel
theorem dX10_bargainIn_11 : decode mX10_bargainIn.2.1 11 = .ok (.iload_n 2, 1) := by decide +kernel
theorem dX10_bargainIn_12 : decode mX10_bargainIn.2.1 12 = .ok (.bipush 10, 2) := by decide +kernel
theorem dX10_bargainIn_14 : decode mX10_bargainIn.2.1 14 = .ok (.if_icmp .ge 18, 3) := by decide +kernel
theorem dX10_bargainIn_17 : decode mX10_bargainIn.2.1 17 = .ok (.aload_n 0, 1) := by decide +kernel
theorem dX10_bargainIn_18 : decode mX10_bargainIn.2.1 18 = .ok (.getfield 30, 3) := by decide +kernel
theorem dX10_bargainIn_21 : decode mX10_bargainIn.2.1 21 = .ok (.iload_n 2, 1) := by decide +kernel
theorem dX10_bargainIn_22 : decode mX10_bargainIn.2.1 22 = .ok (.aaload, 1) := by decide +kernel
theorem dX10_bargainIn_23 : decode mX10_bargainIn.2.1 23 = .ok (.getfield 235, 3) := by decide +kernel
theorem dX10_bargainIn_26 : decode mX10_bargainIn.2.1 26 = .ok (.iload_n 1, 1) := by decide +kernel
theorem dX10_bargainIn_27 : decode mX10_bargainIn.2.1 27 = .ok (.if_icmp .gt 5, 3) := by decide +kernel
theorem dX10_bargainIn_30 : decode mX10_bargainIn.2.1 30 = .ok (.iload_n 2, 1) := by decide +kernel
theorem dX10_bargainIn_31 : decode mX10_bargainIn.2.1 31 = .ok (.ireturn, 1) := by decide +kernel
theorem dX10_bargainIn_32 : decode mX10_bargainIn.2.1 32 = .ok (.iinc 2 (-1), 3) := by decide +kernel
theorem dX10_bargainIn_35 : decode mX10_bargainIn.2.1 35 = .ok (.goto (-28), 3) := by decide +kernel
theorem dX10_bargainIn_38 : decode mX10_bargainIn.2.1 38 = .ok (.iconst (-1), 1) := by decide +kernel
theorem dX10_bargainIn_39 : decode mX10_bargainIn.2.1 39 = .ok (.ireturn, 1) := by decide +kernel
theorem dX10_best_0 : decode mX10_best.2.1 0 = .ok (.aload_n 0, 1) := by decide +kernel
theorem dX10_best_1 : decode mX10_best.2.1 1 = .ok (.iload_n 1, 1) := by decide +kernel
theorem dX10_best_2 : decode mX10_best.2.1 2 = .ok (.iload_n 2, 1) := by decide +kernel
theorem dX10_best_3 : decode mX10_best.2.1 3 = .ok (.invokevirtual 215, 3) := by decide +kernel
theorem dX10_best_6 : decode mX10_best.2.1 6 = .ok (.ifCond .eq 13, 3) := by decide +kernel
theorem dX10_best_9 : decode mX10_best.2.1 9 = .ok (.aload_n 0, 1) := by decide +kernel
theorem dX10_best_10 : decode mX10_best.2.1 10 = .ok (.getfield 60, 3) := by decide +kernel
theorem dX10_best_13 : decode mX10_best.2.1 13 = .ok (.getfield 219, 3) := by decide +kernel
theorem dX10_best_16 : decode mX10_best.2.1 16 = .ok (.goto 4, 3) := by decide +kernel
theorem dX10_best_19 : decode mX10_best.2.1 19 = .ok (.iconst (-1), 1) := by decide +kernel
theorem dX10_best_20 : decode mX10_best.2.1 20 = .ok (.ireturn, 1) := by decide +kernel
theorem dX10_bestOf_0 : decode mX10_bestOf.2.1 0 = .ok (.aload_n 0, 1) := by decide +kernel
theorem dX10_bestOf_1 : decode mX10_bestOf.2.1 1 = .ok (.iload_n 1, 1) := by decide +kernel
theorem dX10_bestOf_2 : decode mX10_bestOf.2.1 2 = .ok (.iload_n 2, 1) := by decide +kernel
theorem dX10_bestOf_3 : decode mX10_bestOf.2.1 3 = .ok (.invokevirtual 215, 3) := by decide +kernel
theorem dX10_bestOf_6 : decode mX10_bestOf.2.1 6 = .ok (.ifCond .eq 14, 3) := by decide +kernel
theorem dX10_bestOf_9 : decode mX10_bestOf.2.1 9 = .ok (.aload_n 0, 1) := by decide +kernel
theorem dX10_bestOf_10 : decode mX10_bestOf.2.1 10 = .ok (.getfield 60, 3) := by decide +kernel
theorem dX10_bestOf_13 : decode mX10_bestOf.2.1 13 = .ok (.iload_n 3, 1) := by decide +kernel
theorem dX10_bestOf_14 : decode mX10_bestOf.2.1 14 = .ok (.invokevirtual 221, 3) := by decide +kernel
theorem dX10_bestOf_17 : decode mX10_bestOf.2.1 17 = .ok (.goto 4, 3) := by decide +kernel
theorem dX10_bestOf_20 : decode mX10_bestOf.2.1 20 = .ok (.iconst (-1), 1) := by decide +kernel
theorem dX10_bestOf_21 : decode mX10_bestOf.2.1 21 = .ok (.ireturn, 1) := by decide +kernel
theorem dX10_brought_0 : decode mX10_brought.2.1 0 = .ok (.aload_n 0, 1) := by decide +kernel
theorem dX10_brought_1 : decode mX10_brought.2.1 1 = .ok (.iload_n 1, 1) := by decide +kernel
theorem dX10_brought_2 : decode mX10_brought.2.1 2 = .ok (.invokevirtual 120, 3) := by decide +kernel
theorem dX10_brought_5 : decode mX10_brought.2.1 5 = .ok (.astore_n 2, 1) := by decide +kernel
theorem dX10_brought_6 : decode mX10_brought.2.1 6 = .ok (.aload_n 2, 1) := by decide +kernel
theorem dX10_brought_7 : decode mX10_brought.2.1 7 = .ok (.ifnull 11, 3) := by decide +kernel
theorem dX10_brought_10 : decode mX10_brought.2.1 10 = .ok (.aload_n 2, 1) := by decide +kernel
theorem dX10_brought_11 : decode mX10_brought.2.1 11 = .ok (.getfield 128, 3) := by decide +kernel
theorem dX10_brought_14 : decode mX10_brought.2.1 14 = .ok (.iconst 2, 1) := by decide +kernel
theorem dX10_brought_15 : decode mX10_brought.2.1 15 = .ok (.if_icmp .eq 14, 3) := by decide +kernel
theorem dX10_brought_18 : decode mX10_brought.2.1 18 = .ok (.new 265, 3) := by decide +kernel
theorem dX10_brought_21 : decode mX10_brought.2.1 21 = .ok (.dup, 1) := by decide +kernel
theorem dX10_brought_22 : decode mX10_brought.2.1 22 = .ok (.ldc_w 267, 3) := by decide +kernel
theorem dX10_brought_25 : decode mX10_brought.2.1 25 = .ok (.invokespecial 269, 3) := by decide +kernel
theorem dX10_brought_28 : decode mX10_brought.2.1 28 = .ok (.athrow, 1) := by decide +kernel
theorem dX10_brought_29 : decode mX10_brought.2.1 29 = .ok (.aload_n 2, 1) := by decide +kernel
theorem dX10_brought_30 : decode mX10_brought.2.1 30 = .ok (.getfield 272, 3) := by decide +kernel
theorem dX10_brought_33 : decode mX10_brought.2.1 33 = .ok (.ireturn, 1) := by decide +kernel
theorem dX10_count_0 : decode mX10_count.2.1 0 = .ok (.iload_n 1, 1) := by decide +kernel
theorem dX10_count_1 : decode mX10_count.2.1 1 = .ok (.tableswitch 116 0 9 #[55, 60, 68, 73, 78, 86, 91, 99, 105, 111], 55) := by decide +kernel
theorem dX10_count_56 : decode mX10_count.2.1 56 = .ok (.aload_n 0, 1) := by decide +kernel
theorem dX10_count_57 : decode mX10_count.2.1 57 = .ok (.getfield 77, 3) := by decide +kernel
theorem dX10_count_60 : decode mX10_count.2.1 60 = .ok (.ireturn, 1) := by decide +kernel
theorem dX10_count_61 : decode mX10_count.2.1 61 = .ok (.aload_n 0, 1) := by decide +kernel
theorem dX10_count_62 : decode mX10_count.2.1 62 = .ok (.getfield 10, 3) := by decide +kernel
theorem dX10_count_65 : decode mX10_count.2.1 65 = .ok (.getfield 279, 3) := by decide +kernel
theorem dX10_count_68 : decode mX10_count.2.1 68 = .ok (.ireturn, 1) := by decide +kernel
theorem dX10_count_69 : decode mX10_count.2.1 69 = .ok (.aload_n 0, 1) := by decide +kernel
theorem dX10_count_70 : decode mX10_count.2.1 70 = .ok (.getfield 64, 3) := by decide +kernel
theorem dX10_count_73 : decode mX10_count.2.1 73 = .ok (.ireturn, 1) := by decide +kernel
theorem dX10_count_74 : decode mX10_count.2.1 74 = .ok (.aload_n 0, 1) := by decide +kernel
theorem dX10_count_75 : decode mX10_count.2.1 75 = .ok (.getfield 68, 3) := by decide +kernel
theorem dX10_count_78 : decode mX10_count.2.1 78 = .ok (.ireturn, 1) := by decide +kernel
theorem dX10_count_79 : decode mX10_count.2.1 79 = .ok (.aload_n 0, 1) := by decide +kernel
theorem dX10_count_80 : decode mX10_count.2.1 80 = .ok (.getfield 10, 3) := by decide +kernel
theorem dX10_count_83 : decode mX10_count.2.1 83 = .ok (.getfield 282, 3) := by decide +kernel
theorem dX10_count_86 : decode mX10_count.2.1 86 = .ok (.ireturn, 1) := by decide +kernel
theorem dX10_count_87 : decode mX10_count.2.1 87 = .ok (.aload_n 0, 1) := by decide +kernel
theorem dX10_count_88 : decode mX10_count.2.1 88 = .ok (.getfield 71, 3) := by decide +kernel
theorem dX10_count_91 : decode mX10_count.2.1 91 = .ok (.ireturn, 1) := by decide +kernel
theorem dX10_count_92 : decode mX10_count.2.1 92 = .ok (.aload_n 0, 1) := by decide +kernel
theorem dX10_count_93 : decode mX10_count.2.1 93 = .ok (.getfield 44, 3) := by decide +kernel
theorem dX10_count_96 : decode mX10_count.2.1 96 = .ok (.getfield 224, 3) := by decide +kernel
theorem dX10_count_99 : decode mX10_count.2.1 99 = .ok (.ireturn, 1) := by decide +kernel
theorem dX10_count_100 : decode mX10_count.2.1 100 = .ok (.aload_n 0, 1) := by decide +kernel
theorem dX10_count_101 : decode mX10_count.2.1 101 = .ok (.iconst 0, 1) := by decide +kernel
theorem dX10_count_102 : decode mX10_count.2.1 102 = .ok (.invokevirtual 285, 3) := by decide +kernel
theorem dX10_count_105 : decode mX10_count.2.1 105 = .ok (.ireturn, 1) := by decide +kernel
theorem dX10_count_106 : decode mX10_count.2.1 106 = .ok (.aload_n 0, 1) := by decide +kernel
theorem dX10_count_107 : decode mX10_count.2.1 107 = .ok (.iconst 2, 1) := by decide +kernel
theorem dX10_count_108 : decode mX10_count.2.1 108 = .ok (.invokevirtual 285, 3) := by decide +kernel
theorem dX10_count_111 : decode mX10_count.2.1 111 = .ok (.ireturn, 1) := by decide +kernel
theorem dX10_count_112 : decode mX10_count.2.1 112 = .ok (.aload_n 0, 1) := by decide +kernel
theorem dX10_count_113 : decode mX10_count.2.1 113 = .ok (.invokevirtual 288, 3) := by decide +kernel
theorem dX10_count_116 : decode mX10_count.2.1 116 = .ok (.ireturn, 1) := by decide +kernel
theorem dX10_count_117 : decode mX10_count.2.1 117 = .ok (.iconst (-1), 1) := by decide +kernel
theorem dX10_count_118 : decode mX10_count.2.1 118 = .ok (.ireturn, 1) := by decide +kernel
theorem dX10_down_0 : decode mX10_down.2.1 0 = .ok (.aload_n 0, 1) := by decide +kernel
theorem dX10_down_1 : decode mX10_down.2.1 1 = .ok (.iload_n 1, 1) := by decide +kernel
theorem dX10_down_2 : decode mX10_down.2.1 2 = .ok (.invokevirtual 120, 3) := by decide +kernel
theorem dX10_down_5 : decode mX10_down.2.1 5 = .ok (.astore_n 2, 1) := by decide +kernel
theorem dX10_down_6 : decode mX10_down.2.1 6 = .ok (.aload_n 2, 1) := by decide +kernel
theorem dX10_down_7 : decode mX10_down.2.1 7 = .ok (.ifnonnull 5, 3) := by decide +kernel
theorem dX10_down_10 : decode mX10_down.2.1 10 = .ok (.iconst (-1), 1) := by decide +kernel
theorem dX10_down_11 : decode mX10_down.2.1 11 = .ok (.ireturn, 1) := by decide +kernel
theorem dX10_down_12 : decode mX10_down.2.1 12 = .ok (.aload_n 2, 1) := by decide +kernel
theorem dX10_down_13 : decode mX10_down.2.1 13 = .ok (.getfield 128, 3) := by decide +kernel
theorem dX10_down_16 : decode mX10_down.2.1 16 = .ok (.iconst 1, 1) := by decide +kernel
theorem dX10_down_17 : decode mX10_down.2.1 17 = .ok (.if_icmp .eq 6, 3) := by decide +kernel
theorem dX10_down_20 : decode mX10_down.2.1 20 = .ok (.bipush (-2), 2) := by decide +kernel
end
section
theorem dX10_down_22 : decode mX10_down.2.1 22 = .ok (.ireturn, 1) := by decide +kernel
theorem dX10_down_23 : decode mX10_down.2.1 23 = .ok (.aload_n 0, 1) := by decide +kernel
theorem dX10_down_24 : decode mX10_down.2.1 24 = .ok (.aload_n 2, 1) := by decide +kernel
theorem dX10_down_25 : decode mX10_down.2.1 25 = .ok (.getfield 134, 3) := by decide +kernel
theorem dX10_down_28 : decode mX10_down.2.1 28 = .ok (.invokevirtual 116, 3) := by decide +kernel
theorem dX10_down_31 : decode mX10_down.2.1 31 = .ok (.astore_n 3, 1) := by decide +kernel
theorem dX10_down_32 : decode mX10_down.2.1 32 = .ok (.aload_n 3, 1) := by decide +kernel
theorem dX10_down_33 : decode mX10_down.2.1 33 = .ok (.ifnull 11, 3) := by decide +kernel
theorem dX10_down_36 : decode mX10_down.2.1 36 = .ok (.aload_n 3, 1) := by decide +kernel
theorem dX10_down_37 : decode mX10_down.2.1 37 = .ok (.getfield 131, 3) := by decide +kernel
theorem dX10_down_40 : decode mX10_down.2.1 40 = .ok (.iconst (-1), 1) := by decide +kernel
theorem dX10_down_41 : decode mX10_down.2.1 41 = .ok (.if_icmp .ne 6, 3) := by decide +kernel
theorem dX10_down_44 : decode mX10_down.2.1 44 = .ok (.bipush (-3), 2) := by decide +kernel
theorem dX10_down_46 : decode mX10_down.2.1 46 = .ok (.ireturn, 1) := by decide +kernel
theorem dX10_down_47 : decode mX10_down.2.1 47 = .ok (.aload_n 3, 1) := by decide +kernel
theorem dX10_down_48 : decode mX10_down.2.1 48 = .ok (.aload_n 2, 1) := by decide +kernel
theorem dX10_down_49 : decode mX10_down.2.1 49 = .ok (.getfield 167, 3) := by decide +kernel
theorem dX10_down_52 : decode mX10_down.2.1 52 = .ok (.invokevirtual 124, 3) := by decide +kernel
theorem dX10_down_55 : decode mX10_down.2.1 55 = .ok (.astore 4, 2) := by decide +kernel
theorem dX10_down_57 : decode mX10_down.2.1 57 = .ok (.aload 4, 2) := by decide +kernel
theorem dX10_down_59 : decode mX10_down.2.1 59 = .ok (.ifnull 16, 3) := by decide +kernel
theorem dX10_down_62 : decode mX10_down.2.1 62 = .ok (.aload 4, 2) := by decide +kernel
theorem dX10_down_64 : decode mX10_down.2.1 64 = .ok (.aload_n 2, 1) := by decide +kernel
theorem dX10_down_65 : decode mX10_down.2.1 65 = .ok (.getfield 170, 3) := by decide +kernel
theorem dX10_down_68 : decode mX10_down.2.1 68 = .ok (.aload_n 2, 1) := by decide +kernel
theorem dX10_down_69 : decode mX10_down.2.1 69 = .ok (.getfield 147, 3) := by decide +kernel
theorem dX10_down_72 : decode mX10_down.2.1 72 = .ok (.invokevirtual 173, 3) := by decide +kernel
theorem dX10_down_75 : decode mX10_down.2.1 75 = .ok (.aload_n 3, 1) := by decide +kernel
theorem dX10_down_76 : decode mX10_down.2.1 76 = .ok (.dup, 1) := by decide +kernel
theorem dX10_down_77 : decode mX10_down.2.1 77 = .ok (.getfield 162, 3) := by decide +kernel
theorem dX10_down_80 : decode mX10_down.2.1 80 = .ok (.iconst 1, 1) := by decide +kernel
theorem dX10_down_81 : decode mX10_down.2.1 81 = .ok (.isub, 1) := by decide +kernel
theorem dX10_down_82 : decode mX10_down.2.1 82 = .ok (.putfield 162, 3) := by decide +kernel
theorem dX10_down_85 : decode mX10_down.2.1 85 = .ok (.aload_n 2, 1) := by decide +kernel
theorem dX10_down_86 : decode mX10_down.2.1 86 = .ok (.aload_n 3, 1) := by decide +kernel
theorem dX10_down_87 : decode mX10_down.2.1 87 = .ok (.getfield 131, 3) := by decide +kernel
theorem dX10_down_90 : decode mX10_down.2.1 90 = .ok (.invokevirtual 177, 3) := by decide +kernel
theorem dX10_down_93 : decode mX10_down.2.1 93 = .ok (.aload_n 0, 1) := by decide +kernel
theorem dX10_down_94 : decode mX10_down.2.1 94 = .ok (.getfield 37, 3) := by decide +kernel
theorem dX10_down_97 : decode mX10_down.2.1 97 = .ok (.iload_n 1, 1) := by decide +kernel
theorem dX10_down_98 : decode mX10_down.2.1 98 = .ok (.aload_n 0, 1) := by decide +kernel
theorem dX10_down_99 : decode mX10_down.2.1 99 = .ok (.getfield 77, 3) := by decide +kernel
theorem dX10_down_102 : decode mX10_down.2.1 102 = .ok (.aload_n 3, 1) := by decide +kernel
theorem dX10_down_103 : decode mX10_down.2.1 103 = .ok (.getfield 131, 3) := by decide +kernel
theorem dX10_down_106 : decode mX10_down.2.1 106 = .ok (.invokevirtual 112, 3) := by decide +kernel
theorem dX10_down_109 : decode mX10_down.2.1 109 = .ok (.aload_n 3, 1) := by decide +kernel
theorem dX10_down_110 : decode mX10_down.2.1 110 = .ok (.getfield 131, 3) := by decide +kernel
theorem dX10_down_113 : decode mX10_down.2.1 113 = .ok (.aload_n 2, 1) := by decide +kernel
theorem dX10_down_114 : decode mX10_down.2.1 114 = .ok (.getfield 181, 3) := by decide +kernel
theorem dX10_down_117 : decode mX10_down.2.1 117 = .ok (.if_icmp .eq 5, 3) := by decide +kernel
theorem dX10_down_120 : decode mX10_down.2.1 120 = .ok (.iconst 0, 1) := by decide +kernel
theorem dX10_down_121 : decode mX10_down.2.1 121 = .ok (.ireturn, 1) := by decide +kernel
theorem dX10_down_122 : decode mX10_down.2.1 122 = .ok (.aload_n 2, 1) := by decide +kernel
theorem dX10_down_123 : decode mX10_down.2.1 123 = .ok (.aload_n 0, 1) := by decide +kernel
theorem dX10_down_124 : decode mX10_down.2.1 124 = .ok (.aload_n 2, 1) := by decide +kernel
theorem dX10_down_125 : decode mX10_down.2.1 125 = .ok (.invokevirtual 184, 3) := by decide +kernel
theorem dX10_down_128 : decode mX10_down.2.1 128 = .ok (.invokevirtual 188, 3) := by decide +kernel
theorem dX10_down_131 : decode mX10_down.2.1 131 = .ok (.iconst 1, 1) := by decide +kernel
theorem dX10_down_132 : decode mX10_down.2.1 132 = .ok (.ireturn, 1) := by decide +kernel
theorem dX10_end_0 : decode mX10_end.2.1 0 = .ok (.iload_n 1, 1) := by decide +kernel
theorem dX10_end_1 : decode mX10_end.2.1 1 = .ok (.ifCond .lt 14, 3) := by decide +kernel
theorem dX10_end_4 : decode mX10_end.2.1 4 = .ok (.iload_n 1, 1) := by decide +kernel
theorem dX10_end_5 : decode mX10_end.2.1 5 = .ok (.aload_n 0, 1) := by decide +kernel
theorem dX10_end_6 : decode mX10_end.2.1 6 = .ok (.getfield 44, 3) := by decide +kernel
theorem dX10_end_9 : decode mX10_end.2.1 9 = .ok (.getfield 224, 3) := by decide +kernel
theorem dX10_end_12 : decode mX10_end.2.1 12 = .ok (.if_icmp .le 5, 3) := by decide +kernel
theorem dX10_end_15 : decode mX10_end.2.1 15 = .ok (.iconst (-1), 1) := by decide +kernel
theorem dX10_end_16 : decode mX10_end.2.1 16 = .ok (.ireturn, 1) := by decide +kernel
theorem dX10_end_17 : decode mX10_end.2.1 17 = .ok (.aload_n 0, 1) := by decide +kernel
theorem dX10_end_18 : decode mX10_end.2.1 18 = .ok (.getfield 44, 3) := by decide +kernel
theorem dX10_end_21 : decode mX10_end.2.1 21 = .ok (.iload_n 1, 1) := by decide +kernel
theorem dX10_end_22 : decode mX10_end.2.1 22 = .ok (.putfield 224, 3) := by decide +kernel
theorem dX10_end_25 : decode mX10_end.2.1 25 = .ok (.iload_n 1, 1) := by decide +kernel
theorem dX10_end_26 : decode mX10_end.2.1 26 = .ok (.ireturn, 1) := by decide +kernel
theorem dX10_feed_0 : decode mX10_feed.2.1 0 = .ok (.aload_n 0, 1) := by decide +kernel
theorem dX10_feed_1 : decode mX10_feed.2.1 1 = .ok (.getfield 44, 3) := by decide +kernel
theorem dX10_feed_4 : decode mX10_feed.2.1 4 = .ok (.getfield 224, 3) := by decide +kernel
theorem dX10_feed_7 : decode mX10_feed.2.1 7 = .ok (.bipush 20, 2) := by decide +kernel
theorem dX10_feed_9 : decode mX10_feed.2.1 9 = .ok (.iadd, 1) := by decide +kernel
theorem dX10_feed_10 : decode mX10_feed.2.1 10 = .ok (.sipush 400, 3) := by decide +kernel
theorem dX10_feed_13 : decode mX10_feed.2.1 13 = .ok (.if_icmp .le 5, 3) := by decide +kernel
theorem dX10_feed_16 : decode mX10_feed.2.1 16 = .ok (.iconst (-1), 1) := by decide +kernel
theorem dX10_feed_17 : decode mX10_feed.2.1 17 = .ok (.ireturn, 1) := by decide +kernel
theorem dX10_feed_18 : decode mX10_feed.2.1 18 = .ok (.aload_n 0, 1) := by decide +kernel
theorem dX10_feed_19 : decode mX10_feed.2.1 19 = .ok (.getfield 44, 3) := by decide +kernel
theorem dX10_feed_22 : decode mX10_feed.2.1 22 = .ok (.iload_n 1, 1) := by decide +kernel
theorem dX10_feed_23 : decode mX10_feed.2.1 23 = .ok (.invokevirtual 227, 3) := by decide +kernel
theorem dX10_feed_26 : decode mX10_feed.2.1 26 = .ok (.aload_n 0, 1) := by decide +kernel
theorem dX10_feed_27 : decode mX10_feed.2.1 27 = .ok (.getfield 44, 3) := by decide +kernel
theorem dX10_feed_30 : decode mX10_feed.2.1 30 = .ok (.iload_n 2, 1) := by decide +kernel
theorem dX10_feed_31 : decode mX10_feed.2.1 31 = .ok (.invokevirtual 227, 3) := by decide +kernel
theorem dX10_feed_34 : decode mX10_feed.2.1 34 = .ok (.aload_n 0, 1) := by decide +kernel
theorem dX10_feed_35 : decode mX10_feed.2.1 35 = .ok (.getfield 44, 3) := by decide +kernel
theorem dX10_feed_38 : decode mX10_feed.2.1 38 = .ok (.iload_n 3, 1) := by decide +kernel
theorem dX10_feed_39 : decode mX10_feed.2.1 39 = .ok (.invokevirtual 227, 3) := by decide +kernel
theorem dX10_feed_42 : decode mX10_feed.2.1 42 = .ok (.aload_n 0, 1) := by decide +kernel
theorem dX10_feed_43 : decode mX10_feed.2.1 43 = .ok (.getfield 44, 3) := by decide +kernel
theorem dX10_feed_46 : decode mX10_feed.2.1 46 = .ok (.iload 4, 2) := by decide +kernel
theorem dX10_feed_48 : decode mX10_feed.2.1 48 = .ok (.invokevirtual 227, 3) := by decide +kernel
theorem dX10_feed_51 : decode mX10_feed.2.1 51 = .ok (.aload_n 0, 1) := by decide +kernel
theorem dX10_feed_52 : decode mX10_feed.2.1 52 = .ok (.getfield 44, 3) := by decide +kernel
theorem dX10_feed_55 : decode mX10_feed.2.1 55 = .ok (.iload 5, 2) := by decide +kernel
theorem dX10_feed_57 : decode mX10_feed.2.1 57 = .ok (.invokevirtual 227, 3) := by decide +kernel
theorem dX10_feed_60 : decode mX10_feed.2.1 60 = .ok (.aload_n 0, 1) := by decide +kernel
theorem dX10_feed_61 : decode mX10_feed.2.1 61 = .ok (.getfield 44, 3) := by decide +kernel
theorem dX10_feed_64 : decode mX10_feed.2.1 64 = .ok (.getfield 224, 3) := by decide +kernel
theorem dX10_feed_67 : decode mX10_feed.2.1 67 = .ok (.ireturn, 1) := by decide +kernel
theorem dX10_findBest_0 : decode mX10_findBest.2.1 0 = .ok (.aload_n 0, 1) := by decide +kernel
theorem dX10_findBest_1 : decode mX10_findBest.2.1 1 = .ok (.iload_n 1, 1) := by decide +kernel
theorem dX10_findBest_2 : decode mX10_findBest.2.1 2 = .ok (.invokevirtual 116, 3) := by decide +kernel
theorem dX10_findBest_5 : decode mX10_findBest.2.1 5 = .ok (.astore_n 3, 1) := by decide +kernel
theorem dX10_findBest_6 : decode mX10_findBest.2.1 6 = .ok (.aload_n 3, 1) := by decide +kernel
theorem dX10_findBest_7 : decode mX10_findBest.2.1 7 = .ok (.ifnull 11, 3) := by decide +kernel
theorem dX10_findBest_10 : decode mX10_findBest.2.1 10 = .ok (.aload_n 3, 1) := by decide +kernel
theorem dX10_findBest_11 : decode mX10_findBest.2.1 11 = .ok (.getfield 131, 3) := by decide +kernel
theorem dX10_findBest_14 : decode mX10_findBest.2.1 14 = .ok (.iconst (-1), 1) := by decide +kernel
theorem dX10_findBest_15 : decode mX10_findBest.2.1 15 = .ok (.if_icmp .ne 5, 3) := by decide +kernel
theorem dX10_findBest_18 : decode mX10_findBest.2.1 18 = .ok (.iconst 0, 1) := by decide +kernel
theorem dX10_findBest_19 : decode mX10_findBest.2.1 19 = .ok (.ireturn, 1) := by decide +kernel
theorem dX10_findBest_20 : decode mX10_findBest.2.1 20 = .ok (.aload_n 3, 1) := by decide +kernel
theorem dX10_findBest_21 : decode mX10_findBest.2.1 21 = .ok (.iload_n 2, 1) := by decide +kernel
theorem dX10_findBest_22 : decode mX10_findBest.2.1 22 = .ok (.invokevirtual 124, 3) := by decide +kernel
theorem dX10_findBest_25 : decode mX10_findBest.2.1 25 = .ok (.astore 4, 2) := by decide +kernel
theorem dX10_findBest_27 : decode mX10_findBest.2.1 27 = .ok (.aload 4, 2) := by decide +kernel
theorem dX10_findBest_29 : decode mX10_findBest.2.1 29 = .ok (.ifnonnull 5, 3) := by decide +kernel
theorem dX10_findBest_32 : decode mX10_findBest.2.1 32 = .ok (.iconst 0, 1) := by decide +kernel
theorem dX10_findBest_33 : decode mX10_findBest.2.1 33 = .ok (.ireturn, 1) := by decide +kernel
theorem dX10_findBest_34 : decode mX10_findBest.2.1 34 = .ok (.aload_n 0, 1) := by decide +kernel
theorem dX10_findBest_35 : decode mX10_findBest.2.1 35 = .ok (.getfield 60, 3) := by decide +kernel
theorem dX10_findBest_38 : decode mX10_findBest.2.1 38 = .ok (.invokevirtual 309, 3) := by decide +kernel
theorem dX10_findBest_41 : decode mX10_findBest.2.1 41 = .ok (.iconst 0, 1) := by decide +kernel
theorem dX10_findBest_42 : decode mX10_findBest.2.1 42 = .ok (.istore 5, 2) := by decide +kernel
theorem dX10_findBest_44 : decode mX10_findBest.2.1 44 = .ok (.iload 5, 2) := by decide +kernel
theorem dX10_findBest_46 : decode mX10_findBest.2.1 46 = .ok (.aload_n 0, 1) := by decide +kernel
theorem dX10_findBest_47 : decode mX10_findBest.2.1 47 = .ok (.getfield 68, 3) := by decide +kernel
theorem dX10_findBest_50 : decode mX10_findBest.2.1 50 = .ok (.if_icmp .ge 65, 3) := by decide +kernel
theorem dX10_findBest_53 : decode mX10_findBest.2.1 53 = .ok (.aload_n 0, 1) := by decide +kernel
theorem dX10_findBest_54 : decode mX10_findBest.2.1 54 = .ok (.iload 5, 2) := by decide +kernel
theorem dX10_findBest_56 : decode mX10_findBest.2.1 56 = .ok (.invokevirtual 120, 3) := by decide +kernel
theorem dX10_findBest_59 : decode mX10_findBest.2.1 59 = .ok (.astore 6, 2) := by decide +kernel
theorem dX10_findBest_61 : decode mX10_findBest.2.1 61 = .ok (.aload 6, 2) := by decide +kernel
theorem dX10_findBest_63 : decode mX10_findBest.2.1 63 = .ok (.ifnull 46, 3) := by decide +kernel
theorem dX10_findBest_66 : decode mX10_findBest.2.1 66 = .ok (.aload 6, 2) := by decide +kernel
theorem dX10_findBest_68 : decode mX10_findBest.2.1 68 = .ok (.getfield 128, 3) := by decide +kernel
theorem dX10_findBest_71 : decode mX10_findBest.2.1 71 = .ok (.ifCond .ne 38, 3) := by decide +kernel
theorem dX10_findBest_74 : decode mX10_findBest.2.1 74 = .ok (.aload 6, 2) := by decide +kernel
theorem dX10_findBest_76 : decode mX10_findBest.2.1 76 = .ok (.getfield 134, 3) := by decide +kernel
theorem dX10_findBest_79 : decode mX10_findBest.2.1 79 = .ok (.aload_n 3, 1) := by decide +kernel
theorem dX10_findBest_80 : decode mX10_findBest.2.1 80 = .ok (.getfield 131, 3) := by decide +kernel
theorem dX10_findBest_83 : decode mX10_findBest.2.1 83 = .ok (.if_icmp .ne 26, 3) := by decide +kernel
theorem dX10_findBest_86 : decode mX10_findBest.2.1 86 = .ok (.aload 6, 2) := by decide +kernel
theorem dX10_findBest_88 : decode mX10_findBest.2.1 88 = .ok (.getfield 153, 3) := by decide +kernel
theorem dX10_findBest_91 : decode mX10_findBest.2.1 91 = .ok (.iconst 3, 1) := by decide +kernel
theorem dX10_findBest_92 : decode mX10_findBest.2.1 92 = .ok (.if_icmp .eq 17, 3) := by decide +kernel
theorem dX10_findBest_95 : decode mX10_findBest.2.1 95 = .ok (.aload_n 0, 1) := by decide +kernel
theorem dX10_findBest_96 : decode mX10_findBest.2.1 96 = .ok (.getfield 60, 3) := by decide +kernel
theorem dX10_findBest_99 : decode mX10_findBest.2.1 99 = .ok (.iload 5, 2) := by decide +kernel
theorem dX10_findBest_101 : decode mX10_findBest.2.1 101 = .ok (.aload 6, 2) := by decide +kernel
theorem dX10_findBest_103 : decode mX10_findBest.2.1 103 = .ok (.getfield 147, 3) := by decide +kernel
theorem dX10_findBest_106 : decode mX10_findBest.2.1 106 = .ok (.invokevirtual 312, 3) := by decide +kernel
theorem dX10_findBest_109 : decode mX10_findBest.2.1 109 = .ok (.iinc 5 1, 3) := by decide +kernel
theorem dX10_findBest_112 : decode mX10_findBest.2.1 112 = .ok (.goto (-68), 3) := by decide +kernel
theorem dX10_findBest_115 : decode mX10_findBest.2.1 115 = .ok (.aload_n 0, 1) := by decide +kernel
theorem dX10_findBest_116 : decode mX10_findBest.2.1 116 = .ok (.getfield 60, 3) := by decide +kernel
theorem dX10_findBest_119 : decode mX10_findBest.2.1 119 = .ok (.aload 4, 2) := by decide +kernel
theorem dX10_findBest_121 : decode mX10_findBest.2.1 121 = .ok (.getfield 150, 3) := by decide +kernel
theorem dX10_findBest_124 : decode mX10_findBest.2.1 124 = .ok (.invokevirtual 314, 3) := by decide +kernel
theorem dX10_findBest_127 : decode mX10_findBest.2.1 127 = .ok (.iconst 1, 1) := by decide +kernel
theorem dX10_findBest_128 : decode mX10_findBest.2.1 128 = .ok (.ireturn, 1) := by decide +kernel
theorem dX10_go_0 : decode mX10_go.2.1 0 = .ok (.aload_n 0, 1) := by decide +kernel
theorem dX10_go_1 : decode mX10_go.2.1 1 = .ok (.iload_n 1, 1) := by decide +kernel
theorem dX10_go_2 : decode mX10_go.2.1 2 = .ok (.invokevirtual 116, 3) := by decide +kernel
theorem dX10_go_5 : decode mX10_go.2.1 5 = .ok (.astore_n 3, 1) := by decide +kernel
theorem dX10_go_6 : decode mX10_go.2.1 6 = .ok (.aload_n 3, 1) := by decide +kernel
theorem dX10_go_7 : decode mX10_go.2.1 7 = .ok (.ifnonnull 5, 3) := by decide +kernel
theorem dX10_go_10 : decode mX10_go.2.1 10 = .ok (.iconst (-1), 1) := by decide +kernel
theorem dX10_go_11 : decode mX10_go.2.1 11 = .ok (.ireturn, 1) := by decide +kernel
theorem dX10_go_12 : decode mX10_go.2.1 12 = .ok (.aload_n 3, 1) := by decide +kernel
theorem dX10_go_13 : decode mX10_go.2.1 13 = .ok (.getfield 131, 3) := by decide +kernel
theorem dX10_go_16 : decode mX10_go.2.1 16 = .ok (.iconst (-1), 1) := by decide +kernel
theorem dX10_go_17 : decode mX10_go.2.1 17 = .ok (.if_icmp .ne 6, 3) := by decide +kernel
theorem dX10_go_20 : decode mX10_go.2.1 20 = .ok (.bipush (-2), 2) := by decide +kernel
theorem dX10_go_22 : decode mX10_go.2.1 22 = .ok (.ireturn, 1) := by decide +kernel
theorem dX10_go_23 : decode mX10_go.2.1 23 = .ok (.iload_n 2, 1) := by decide +kernel
theorem dX10_go_24 : decode mX10_go.2.1 24 = .ok (.ifCond .eq 10, 3) := by decide +kernel
theorem dX10_go_27 : decode mX10_go.2.1 27 = .ok (.aload_n 3, 1) := by decide +kernel
theorem dX10_go_28 : decode mX10_go.2.1 28 = .ok (.getfield 131, 3) := by decide +kernel
theorem dX10_go_31 : decode mX10_go.2.1 31 = .ok (.goto 9, 3) := by decide +kernel
theorem dX10_go_34 : decode mX10_go.2.1 34 = .ok (.aload_n 3, 1) := by decide +kernel
theorem dX10_go_35 : decode mX10_go.2.1 35 = .ok (.getfield 131, 3) := by decide +kernel
theorem dX10_go_38 : decode mX10_go.2.1 38 = .ok (.iconst 1, 1) := by decide +kernel
theorem dX10_go_39 : decode mX10_go.2.1 39 = .ok (.isub, 1) := by decide +kernel
theorem dX10_go_40 : decode mX10_go.2.1 40 = .ok (.istore 4, 2) := by decide +kernel
theorem dX10_go_42 : decode mX10_go.2.1 42 = .ok (.aload_n 0, 1) := by decide +kernel
theorem dX10_go_43 : decode mX10_go.2.1 43 = .ok (.getfield 10, 3) := by decide +kernel
theorem dX10_go_46 : decode mX10_go.2.1 46 = .ok (.iload 4, 2) := by decide +kernel
theorem dX10_go_48 : decode mX10_go.2.1 48 = .ok (.invokevirtual 99, 3) := by decide +kernel
theorem dX10_go_51 : decode mX10_go.2.1 51 = .ok (.ifCond .ne 6, 3) := by decide +kernel
theorem dX10_go_54 : decode mX10_go.2.1 54 = .ok (.bipush (-3), 2) := by decide +kernel
theorem dX10_go_56 : decode mX10_go.2.1 56 = .ok (.ireturn, 1) := by decide +kernel
theorem dX10_go_57 : decode mX10_go.2.1 57 = .ok (.aload_n 3, 1) := by decide +kernel
theorem dX10_go_58 : decode mX10_go.2.1 58 = .ok (.invokevirtual 191, 3) := by decide +kernel
theorem dX10_go_61 : decode mX10_go.2.1 61 = .ok (.ifCond .ne 6, 3) := by decide +kernel
theorem dX10_go_64 : decode mX10_go.2.1 64 = .ok (.bipush (-4), 2) := by decide +kernel
theorem dX10_go_66 : decode mX10_go.2.1 66 = .ok (.ireturn, 1) := by decide +kernel
theorem dX10_go_67 : decode mX10_go.2.1 67 = .ok (.aload_n 0, 1) := by decide +kernel
theorem dX10_go_68 : decode mX10_go.2.1 68 = .ok (.getfield 10, 3) := by decide +kernel
theorem dX10_go_71 : decode mX10_go.2.1 71 = .ok (.iload 4, 2) := by decide +kernel
theorem dX10_go_73 : decode mX10_go.2.1 73 = .ok (.aload_n 0, 1) := by decide +kernel
theorem dX10_go_74 : decode mX10_go.2.1 74 = .ok (.getfield 77, 3) := by decide +kernel
theorem dX10_go_77 : decode mX10_go.2.1 77 = .ok (.aload_n 0, 1) := by decide +kernel
theorem dX10_go_78 : decode mX10_go.2.1 78 = .ok (.getfield 77, 3) := by decide +kernel
theorem dX10_go_81 : decode mX10_go.2.1 81 = .ok (.invokevirtual 105, 3) := by decide +kernel
theorem dX10_go_84 : decode mX10_go.2.1 84 = .ok (.ifCond .eq 6, 3) := by decide +kernel
theorem dX10_go_87 : decode mX10_go.2.1 87 = .ok (.bipush (-5), 2) := by decide +kernel
theorem dX10_go_89 : decode mX10_go.2.1 89 = .ok (.ireturn, 1) := by decide +kernel
theorem dX10_go_90 : decode mX10_go.2.1 90 = .ok (.aload_n 0, 1) := by decide +kernel
theorem dX10_go_91 : decode mX10_go.2.1 91 = .ok (.getfield 10, 3) := by decide +kernel
theorem dX10_go_94 : decode mX10_go.2.1 94 = .ok (.iload 4, 2) := by decide +kernel
theorem dX10_go_96 : decode mX10_go.2.1 96 = .ok (.invokevirtual 195, 3) := by decide +kernel
theorem dX10_go_99 : decode mX10_go.2.1 99 = .ok (.ifCond .eq 15, 3) := by decide +kernel
theorem dX10_go_102 : decode mX10_go.2.1 102 = .ok (.aload_n 0, 1) := by decide +kernel
theorem dX10_go_103 : decode mX10_go.2.1 103 = .ok (.iload 4, 2) := by decide +kernel
theorem dX10_go_105 : decode mX10_go.2.1 105 = .ok (.invokevirtual 198, 3) := by decide +kernel
theorem dX10_go_108 : decode mX10_go.2.1 108 = .ok (.ifCond .eq 6, 3) := by decide +kernel
theorem dX10_go_111 : decode mX10_go.2.1 111 = .ok (.bipush (-6), 2) := by decide +kernel
theorem dX10_go_113 : decode mX10_go.2.1 113 = .ok (.ireturn, 1) := by decide +kernel
theorem dX10_go_114 : decode mX10_go.2.1 114 = .ok (.aload_n 3, 1) := by decide +kernel
theorem dX10_go_115 : decode mX10_go.2.1 115 = .ok (.iload 4, 2) := by decide +kernel
theorem dX10_go_117 : decode mX10_go.2.1 117 = .ok (.iload_n 2, 1) := by decide +kernel
theorem dX10_go_118 : decode mX10_go.2.1 118 = .ok (.aload_n 0, 1) := by decide +kernel
theorem dX10_go_119 : decode mX10_go.2.1 119 = .ok (.getfield 77, 3) := by decide +kernel
theorem dX10_go_122 : decode mX10_go.2.1 122 = .ok (.aload_n 0, 1) := by decide +kernel
theorem dX10_go_123 : decode mX10_go.2.1 123 = .ok (.getfield 10, 3) := by decide +kernel
theorem dX10_go_126 : decode mX10_go.2.1 126 = .ok (.iload 4, 2) := by decide +kernel
theorem dX10_go_128 : decode mX10_go.2.1 128 = .ok (.invokevirtual 201, 3) := by decide +kernel
theorem dX10_go_131 : decode mX10_go.2.1 131 = .ok (.iadd, 1) := by decide +kernel
theorem dX10_go_132 : decode mX10_go.2.1 132 = .ok (.invokevirtual 205, 3) := by decide +kernel
theorem dX10_go_135 : decode mX10_go.2.1 135 = .ok (.aload_n 3, 1) := by decide +kernel
theorem dX10_go_136 : decode mX10_go.2.1 136 = .ok (.getfield 209, 3) := by decide +kernel
theorem dX10_go_139 : decode mX10_go.2.1 139 = .ok (.ireturn, 1) := by decide +kernel
theorem dX10_holdPacks_0 : decode mX10_holdPacks.2.1 0 = .ok (.iconst 0, 1) := by decide +kernel
theorem dX10_holdPacks_1 : decode mX10_holdPacks.2.1 1 = .ok (.istore_n 2, 1) := by decide +kernel
theorem dX10_holdPacks_2 : decode mX10_holdPacks.2.1 2 = .ok (.iload_n 2, 1) := by decide +kernel
theorem dX10_holdPacks_3 : decode mX10_holdPacks.2.1 3 = .ok (.aload_n 0, 1) := by decide +kernel
theorem dX10_holdPacks_4 : decode mX10_holdPacks.2.1 4 = .ok (.getfield 68, 3) := by decide +kernel
theorem dX10_holdPacks_7 : decode mX10_holdPacks.2.1 7 = .ok (.if_icmp .ge 56, 3) := by decide +kernel
theorem dX10_holdPacks_10 : decode mX10_holdPacks.2.1 10 = .ok (.aload_n 0, 1) := by decide +kernel
theorem dX10_holdPacks_11 : decode mX10_holdPacks.2.1 11 = .ok (.iload_n 2, 1) := by decide +kernel
theorem dX10_holdPacks_12 : decode mX10_holdPacks.2.1 12 = .ok (.invokevirtual 120, 3) := by decide +kernel
theorem dX10_holdPacks_15 : decode mX10_holdPacks.2.1 15 = .ok (.astore_n 3, 1) := by decide +kernel
theorem dX10_holdPacks_16 : decode mX10_holdPacks.2.1 16 = .ok (.aload_n 3, 1) := by decide +kernel
theorem dX10_holdPacks_17 : decode mX10_holdPacks.2.1 17 = .ok (.ifnull 40, 3) := by decide +kernel
theorem dX10_holdPacks_20 : decode mX10_holdPacks.2.1 20 = .ok (.aload_n 3, 1) := by decide +kernel
theorem dX10_holdPacks_21 : decode mX10_holdPacks.2.1 21 = .ok (.aload_n 0, 1) := by decide +kernel
theorem dX10_holdPacks_22 : decode mX10_holdPacks.2.1 22 = .ok (.aload_n 3, 1) := by decide +kernel
theorem dX10_holdPacks_23 : decode mX10_holdPacks.2.1 23 = .ok (.invokevirtual 303, 3) := by decide +kernel
theorem dX10_holdPacks_26 : decode mX10_holdPacks.2.1 26 = .ok (.invokevirtual 306, 3) := by decide +kernel
theorem dX10_holdPacks_29 : decode mX10_holdPacks.2.1 29 = .ok (.istore 4, 2) := by decide +kernel
theorem dX10_holdPacks_31 : decode mX10_holdPacks.2.1 31 = .ok (.iload 4, 2) := by decide +kernel
theorem dX10_holdPacks_33 : decode mX10_holdPacks.2.1 33 = .ok (.iconst (-1), 1) := by decide +kernel
theorem dX10_holdPacks_34 : decode mX10_holdPacks.2.1 34 = .ok (.if_icmp .eq 23, 3) := by decide +kernel
theorem dX10_holdPacks_37 : decode mX10_holdPacks.2.1 37 = .ok (.iload_n 1, 1) := by decide +kernel
theorem dX10_holdPacks_38 : decode mX10_holdPacks.2.1 38 = .ok (.iload 4, 2) := by decide +kernel
theorem dX10_holdPacks_40 : decode mX10_holdPacks.2.1 40 = .ok (.ishr, 1) := by decide +kernel
theorem dX10_holdPacks_41 : decode mX10_holdPacks.2.1 41 = .ok (.iconst 1, 1) := by decide +kernel
theorem dX10_holdPacks_42 : decode mX10_holdPacks.2.1 42 = .ok (.iand, 1) := by decide +kernel
theorem dX10_holdPacks_43 : decode mX10_holdPacks.2.1 43 = .ok (.iconst 1, 1) := by decide +kernel
theorem dX10_holdPacks_44 : decode mX10_holdPacks.2.1 44 = .ok (.if_icmp .ne 13, 3) := by decide +kernel
theorem dX10_holdPacks_47 : decode mX10_holdPacks.2.1 47 = .ok (.aload_n 3, 1) := by decide +kernel
theorem dX10_holdPacks_48 : decode mX10_holdPacks.2.1 48 = .ok (.dup, 1) := by decide +kernel
theorem dX10_holdPacks_49 : decode mX10_holdPacks.2.1 49 = .ok (.getfield 259, 3) := by decide +kernel
theorem dX10_holdPacks_52 : decode mX10_holdPacks.2.1 52 = .ok (.iconst 1, 1) := by decide +kernel
theorem dX10_holdPacks_53 : decode mX10_holdPacks.2.1 53 = .ok (.iadd, 1) := by decide +kernel
theorem dX10_holdPacks_54 : decode mX10_holdPacks.2.1 54 = .ok (.putfield 259, 3) := by decide +kernel
theorem dX10_holdPacks_57 : decode mX10_holdPacks.2.1 57 = .ok (.iinc 2 1, 3) := by decide +kernel
theorem dX10_holdPacks_60 : decode mX10_holdPacks.2.1 60 = .ok (.goto (-58), 3) := by decide +kernel
theorem dX10_holdPacks_63 : decode mX10_holdPacks.2.1 63 = .ok (.return_, 1) := by decide +kernel
theorem dX10_hours_0 : decode mX10_hours.2.1 0 = .ok (.iload_n 1, 1) := by decide +kernel
theorem dX10_hours_1 : decode mX10_hours.2.1 1 = .ok (.iconst 1, 1) := by decide +kernel
theorem dX10_hours_2 : decode mX10_hours.2.1 2 = .ok (.if_icmp .lt 21, 3) := by decide +kernel
theorem dX10_hours_5 : decode mX10_hours.2.1 5 = .ok (.iload_n 1, 1) := by decide +kernel
theorem dX10_hours_6 : decode mX10_hours.2.1 6 = .ok (.bipush 100, 2) := by decide +kernel
theorem dX10_hours_8 : decode mX10_hours.2.1 8 = .ok (.if_icmp .gt 15, 3) := by decide +kernel
theorem dX10_hours_11 : decode mX10_hours.2.1 11 = .ok (.aload_n 0, 1) := by decide +kernel
theorem dX10_hours_12 : decode mX10_hours.2.1 12 = .ok (.getfield 77, 3) := by decide +kernel
theorem dX10_hours_15 : decode mX10_hours.2.1 15 = .ok (.iload_n 1, 1) := by decide +kernel
theorem dX10_hours_16 : decode mX10_hours.2.1 16 = .ok (.iadd, 1) := by decide +kernel
theorem dX10_hours_17 : decode mX10_hours.2.1 17 = .ok (.sipush 9999, 3) := by decide +kernel
theorem dX10_hours_20 : decode mX10_hours.2.1 20 = .ok (.if_icmp .le 5, 3) := by decide +kernel
theorem dX10_hours_23 : decode mX10_hours.2.1 23 = .ok (.iconst (-1), 1) := by decide +kernel
theorem dX10_hours_24 : decode mX10_hours.2.1 24 = .ok (.ireturn, 1) := by decide +kernel
theorem dX10_hours_25 : decode mX10_hours.2.1 25 = .ok (.iconst 0, 1) := by decide +kernel
theorem dX10_hours_26 : decode mX10_hours.2.1 26 = .ok (.istore_n 2, 1) := by decide +kernel
theorem dX10_hours_27 : decode mX10_hours.2.1 27 = .ok (.iload_n 2, 1) := by decide +kernel
theorem dX10_hours_28 : decode mX10_hours.2.1 28 = .ok (.iload_n 1, 1) := by decide +kernel
theorem dX10_hours_29 : decode mX10_hours.2.1 29 = .ok (.if_icmp .ge 13, 3) := by decide +kernel
theorem dX10_hours_32 : decode mX10_hours.2.1 32 = .ok (.aload_n 0, 1) := by decide +kernel
theorem dX10_hours_33 : decode mX10_hours.2.1 33 = .ok (.invokevirtual 212, 3) := by decide +kernel
theorem dX10_hours_36 : decode mX10_hours.2.1 36 = .ok (.iinc 2 1, 3) := by decide +kernel
theorem dX10_hours_39 : decode mX10_hours.2.1 39 = .ok (.goto (-12), 3) := by decide +kernel
theorem dX10_hours_42 : decode mX10_hours.2.1 42 = .ok (.aload_n 0, 1) := by decide +kernel
theorem dX10_hours_43 : decode mX10_hours.2.1 43 = .ok (.getfield 77, 3) := by decide +kernel
theorem dX10_hours_46 : decode mX10_hours.2.1 46 = .ok (.ireturn, 1) := by decide +kernel
theorem dX10_init_0 : decode mX10_init.2.1 0 = .ok (.aload_n 0, 1) := by decide +kernel
theorem dX10_init_1 : decode mX10_init.2.1 1 = .ok (.invokespecial 1, 3) := by decide +kernel
theorem dX10_init_4 : decode mX10_init.2.1 4 = .ok (.aload_n 0, 1) := by decide +kernel
theorem dX10_init_5 : decode mX10_init.2.1 5 = .ok (.new 7, 3) := by decide +kernel
theorem dX10_init_8 : decode mX10_init.2.1 8 = .ok (.dup, 1) := by decide +kernel
theorem dX10_init_9 : decode mX10_init.2.1 9 = .ok (.invokespecial 9, 3) := by decide +kernel
theorem dX10_init_12 : decode mX10_init.2.1 12 = .ok (.putfield 10, 3) := by decide +kernel
theorem dX10_init_15 : decode mX10_init.2.1 15 = .ok (.aload_n 0, 1) := by decide +kernel
theorem dX10_init_16 : decode mX10_init.2.1 16 = .ok (.iconst 4, 1) := by decide +kernel
theorem dX10_init_17 : decode mX10_init.2.1 17 = .ok (.anewarray 16, 3) := by decide +kernel
theorem dX10_init_20 : decode mX10_init.2.1 20 = .ok (.putfield 18, 3) := by decide +kernel
theorem dX10_init_23 : decode mX10_init.2.1 23 = .ok (.aload_n 0, 1) := by decide +kernel
theorem dX10_init_24 : decode mX10_init.2.1 24 = .ok (.bipush 100, 2) := by decide +kernel
theorem dX10_init_26 : decode mX10_init.2.1 26 = .ok (.anewarray 22, 3) := by decide +kernel
theorem dX10_init_29 : decode mX10_init.2.1 29 = .ok (.putfield 24, 3) := by decide +kernel
theorem dX10_init_32 : decode mX10_init.2.1 32 = .ok (.aload_n 0, 1) := by decide +kernel
theorem dX10_init_33 : decode mX10_init.2.1 33 = .ok (.bipush 10, 2) := by decide +kernel
theorem dX10_init_35 : decode mX10_init.2.1 35 = .ok (.anewarray 28, 3) := by decide +kernel
theorem dX10_init_38 : decode mX10_init.2.1 38 = .ok (.putfield 30, 3) := by decide +kernel
theorem dX10_init_41 : decode mX10_init.2.1 41 = .ok (.aload_n 0, 1) := by decide +kernel
theorem dX10_init_42 : decode mX10_init.2.1 42 = .ok (.new 34, 3) := by decide +kernel
theorem dX10_init_45 : decode mX10_init.2.1 45 = .ok (.dup, 1) := by decide +kernel
theorem dX10_init_46 : decode mX10_init.2.1 46 = .ok (.invokespecial 36, 3) := by decide +kernel
theorem dX10_init_49 : decode mX10_init.2.1 49 = .ok (.putfield 37, 3) := by decide +kernel
theorem dX10_init_52 : decode mX10_init.2.1 52 = .ok (.aload_n 0, 1) := by decide +kernel
theorem dX10_init_53 : decode mX10_init.2.1 53 = .ok (.new 41, 3) := by decide +kernel
theorem dX10_init_56 : decode mX10_init.2.1 56 = .ok (.dup, 1) := by decide +kernel
theorem dX10_init_57 : decode mX10_init.2.1 57 = .ok (.invokespecial 43, 3) := by decide +kernel
theorem dX10_init_60 : decode mX10_init.2.1 60 = .ok (.putfield 44, 3) := by decide +kernel
theorem dX10_init_63 : decode mX10_init.2.1 63 = .ok (.aload_n 0, 1) := by decide +kernel
theorem dX10_init_64 : decode mX10_init.2.1 64 = .ok (.new 48, 3) := by decide +kernel
theorem dX10_init_67 : decode mX10_init.2.1 67 = .ok (.dup, 1) := by decide +kernel
theorem dX10_init_68 : decode mX10_init.2.1 68 = .ok (.aload_n 0, 1) := by decide +kernel
theorem dX10_init_69 : decode mX10_init.2.1 69 = .ok (.getfield 44, 3) := by decide +kernel
theorem dX10_init_72 : decode mX10_init.2.1 72 = .ok (.invokespecial 50, 3) := by decide +kernel
theorem dX10_init_75 : decode mX10_init.2.1 75 = .ok (.putfield 53, 3) := by decide +kernel
theorem dX10_init_78 : decode mX10_init.2.1 78 = .ok (.aload_n 0, 1) := by decide +kernel
theorem dX10_init_79 : decode mX10_init.2.1 79 = .ok (.new 57, 3) := by decide +kernel
theorem dX10_init_82 : decode mX10_init.2.1 82 = .ok (.dup, 1) := by decide +kernel
theorem dX10_init_83 : decode mX10_init.2.1 83 = .ok (.invokespecial 59, 3) := by decide +kernel
theorem dX10_init_86 : decode mX10_init.2.1 86 = .ok (.putfield 60, 3) := by decide +kernel
theorem dX10_init_89 : decode mX10_init.2.1 89 = .ok (.aload_n 0, 1) := by decide +kernel
theorem dX10_init_90 : decode mX10_init.2.1 90 = .ok (.iconst 0, 1) := by decide +kernel
theorem dX10_init_91 : decode mX10_init.2.1 91 = .ok (.putfield 64, 3) := by decide +kernel
theorem dX10_init_94 : decode mX10_init.2.1 94 = .ok (.aload_n 0, 1) := by decide +kernel
theorem dX10_init_95 : decode mX10_init.2.1 95 = .ok (.iconst 0, 1) := by decide +kernel
theorem dX10_init_96 : decode mX10_init.2.1 96 = .ok (.putfield 68, 3) := by decide +kernel
theorem dX10_init_99 : decode mX10_init.2.1 99 = .ok (.aload_n 0, 1) := by decide +kernel
theorem dX10_init_100 : decode mX10_init.2.1 100 = .ok (.iconst 0, 1) := by decide +kernel
theorem dX10_init_101 : decode mX10_init.2.1 101 = .ok (.putfield 71, 3) := by decide +kernel
theorem dX10_init_104 : decode mX10_init.2.1 104 = .ok (.aload_n 0, 1) := by decide +kernel
theorem dX10_init_105 : decode mX10_init.2.1 105 = .ok (.iconst (-1), 1) := by decide +kernel
theorem dX10_init_106 : decode mX10_init.2.1 106 = .ok (.putfield 74, 3) := by decide +kernel
theorem dX10_init_109 : decode mX10_init.2.1 109 = .ok (.aload_n 0, 1) := by decide +kernel
theorem dX10_init_110 : decode mX10_init.2.1 110 = .ok (.iconst 0, 1) := by decide +kernel
theorem dX10_init_111 : decode mX10_init.2.1 111 = .ok (.putfield 77, 3) := by decide +kernel
theorem dX10_init_114 : decode mX10_init.2.1 114 = .ok (.iconst 0, 1) := by decide +kernel
theorem dX10_init_115 : decode mX10_init.2.1 115 = .ok (.istore_n 1, 1) := by decide +kernel
theorem dX10_init_116 : decode mX10_init.2.1 116 = .ok (.iload_n 1, 1) := by decide +kernel
theorem dX10_init_117 : decode mX10_init.2.1 117 = .ok (.bipush 10, 2) := by decide +kernel
theorem dX10_init_119 : decode mX10_init.2.1 119 = .ok (.if_icmp .ge 22, 3) := by decide +kernel
theorem dX10_init_122 : decode mX10_init.2.1 122 = .ok (.aload_n 0, 1) := by decide +kernel
theorem dX10_init_123 : decode mX10_init.2.1 123 = .ok (.getfield 30, 3) := by decide +kernel
theorem dX10_init_126 : decode mX10_init.2.1 126 = .ok (.iload_n 1, 1) := by decide +kernel
theorem dX10_init_127 : decode mX10_init.2.1 127 = .ok (.new 28, 3) := by decide +kernel
theorem dX10_init_130 : decode mX10_init.2.1 130 = .ok (.dup, 1) := by decide +kernel
theorem dX10_init_131 : decode mX10_init.2.1 131 = .ok (.invokespecial 80, 3) := by decide +kernel
theorem dX10_init_134 : decode mX10_init.2.1 134 = .ok (.aastore, 1) := by decide +kernel
theorem dX10_init_135 : decode mX10_init.2.1 135 = .ok (.iinc 1 1, 3) := by decide +kernel
theorem dX10_init_138 : decode mX10_init.2.1 138 = .ok (.goto (-22), 3) := by decide +kernel
theorem dX10_init_141 : decode mX10_init.2.1 141 = .ok (.return_, 1) := by decide +kernel
theorem dX10_inn_0 : decode mX10_inn.2.1 0 = .ok (.aload_n 0, 1) := by decide +kernel
theorem dX10_inn_1 : decode mX10_inn.2.1 1 = .ok (.getfield 10, 3) := by decide +kernel
theorem dX10_inn_4 : decode mX10_inn.2.1 4 = .ok (.iload_n 1, 1) := by decide +kernel
theorem dX10_inn_5 : decode mX10_inn.2.1 5 = .ok (.iload_n 2, 1) := by decide +kernel
theorem dX10_inn_6 : decode mX10_inn.2.1 6 = .ok (.iload_n 3, 1) := by decide +kernel
theorem dX10_inn_7 : decode mX10_inn.2.1 7 = .ok (.invokevirtual 81, 3) := by decide +kernel
theorem dX10_inn_10 : decode mX10_inn.2.1 10 = .ok (.ireturn, 1) := by decide +kernel
theorem dX10_innOf_0 : decode mX10_innOf.2.1 0 = .ok (.aload_n 1, 1) := by decide +kernel
theorem dX10_innOf_1 : decode mX10_innOf.2.1 1 = .ok (.getfield 128, 3) := by decide +kernel
theorem dX10_innOf_4 : decode mX10_innOf.2.1 4 = .ok (.ifCond .ne 8, 3) := by decide +kernel
theorem dX10_innOf_7 : decode mX10_innOf.2.1 7 = .ok (.aload_n 1, 1) := by decide +kernel
theorem dX10_innOf_8 : decode mX10_innOf.2.1 8 = .ok (.getfield 134, 3) := by decide +kernel
theorem dX10_innOf_11 : decode mX10_innOf.2.1 11 = .ok (.ireturn, 1) := by decide +kernel
theorem dX10_innOf_12 : decode mX10_innOf.2.1 12 = .ok (.aload_n 1, 1) := by decide +kernel
theorem dX10_innOf_13 : decode mX10_innOf.2.1 13 = .ok (.getfield 128, 3) := by decide +kernel
theorem dX10_innOf_16 : decode mX10_innOf.2.1 16 = .ok (.iconst 1, 1) := by decide +kernel
theorem dX10_innOf_17 : decode mX10_innOf.2.1 17 = .ok (.if_icmp .ne 14, 3) := by decide +kernel
theorem dX10_innOf_20 : decode mX10_innOf.2.1 20 = .ok (.aload_n 0, 1) := by decide +kernel
theorem dX10_innOf_21 : decode mX10_innOf.2.1 21 = .ok (.aload_n 1, 1) := by decide +kernel
theorem dX10_innOf_22 : decode mX10_innOf.2.1 22 = .ok (.getfield 134, 3) := by decide +kernel
theorem dX10_innOf_25 : decode mX10_innOf.2.1 25 = .ok (.invokevirtual 116, 3) := by decide +kernel
theorem dX10_innOf_28 : decode mX10_innOf.2.1 28 = .ok (.goto 4, 3) := by decide +kernel
theorem dX10_innOf_31 : decode mX10_innOf.2.1 31 = .ok (.aconst_null, 1) := by decide +kernel
theorem dX10_innOf_32 : decode mX10_innOf.2.1 32 = .ok (.astore_n 2, 1) := by decide +kernel
theorem dX10_innOf_33 : decode mX10_innOf.2.1 33 = .ok (.aload_n 2, 1) := by decide +kernel
theorem dX10_innOf_34 : decode mX10_innOf.2.1 34 = .ok (.ifnonnull 7, 3) := by decide +kernel
theorem dX10_innOf_37 : decode mX10_innOf.2.1 37 = .ok (.iconst (-1), 1) := by decide +kernel
theorem dX10_innOf_38 : decode mX10_innOf.2.1 38 = .ok (.goto 7, 3) := by decide +kernel
theorem dX10_innOf_41 : decode mX10_innOf.2.1 41 = .ok (.aload_n 2, 1) := by decide +kernel
theorem dX10_innOf_42 : decode mX10_innOf.2.1 42 = .ok (.getfield 131, 3) := by decide +kernel
theorem dX10_innOf_45 : decode mX10_innOf.2.1 45 = .ok (.ireturn, 1) := by decide +kernel
theorem dX10_isHour_0 : decode mX10_isHour.2.1 0 = .ok (.iload_n 0, 1) := by decide +kernel
theorem dX10_isHour_1 : decode mX10_isHour.2.1 1 = .ok (.ifCond .lt 14, 3) := by decide +kernel
theorem dX10_isHour_4 : decode mX10_isHour.2.1 4 = .ok (.iload_n 0, 1) := by decide +kernel
theorem dX10_isHour_5 : decode mX10_isHour.2.1 5 = .ok (.sipush 9999, 3) := by decide +kernel
theorem dX10_isHour_8 : decode mX10_isHour.2.1 8 = .ok (.if_icmp .gt 7, 3) := by decide +kernel
theorem dX10_isHour_11 : decode mX10_isHour.2.1 11 = .ok (.iconst 1, 1) := by decide +kernel
theorem dX10_isHour_12 : decode mX10_isHour.2.1 12 = .ok (.goto 4, 3) := by decide +kernel
theorem dX10_isHour_15 : decode mX10_isHour.2.1 15 = .ok (.iconst 0, 1) := by decide +kernel
theorem dX10_isHour_16 : decode mX10_isHour.2.1 16 = .ok (.ireturn, 1) := by decide +kernel
theorem dX10_isStrength_0 : decode mX10_isStrength.2.1 0 = .ok (.iload_n 0, 1) := by decide +kernel
theorem dX10_isStrength_1 : decode mX10_isStrength.2.1 1 = .ok (.bipush 20, 2) := by decide +kernel
theorem dX10_isStrength_3 : decode mX10_isStrength.2.1 3 = .ok (.if_icmp .lt 13, 3) := by decide +kernel
theorem dX10_isStrength_6 : decode mX10_isStrength.2.1 6 = .ok (.iload_n 0, 1) := by decide +kernel
theorem dX10_isStrength_7 : decode mX10_isStrength.2.1 7 = .ok (.bipush 120, 2) := by decide +kernel
theorem dX10_isStrength_9 : decode mX10_isStrength.2.1 9 = .ok (.if_icmp .gt 7, 3) := by decide +kernel
theorem dX10_isStrength_12 : decode mX10_isStrength.2.1 12 = .ok (.iconst 1, 1) := by decide +kernel
theorem dX10_isStrength_13 : decode mX10_isStrength.2.1 13 = .ok (.goto 4, 3) := by decide +kernel
theorem dX10_isStrength_16 : decode mX10_isStrength.2.1 16 = .ok (.iconst 0, 1) := by decide +kernel
theorem dX10_isStrength_17 : decode mX10_isStrength.2.1 17 = .ok (.ireturn, 1) := by decide +kernel
theorem dX10_isTaken_0 : decode mX10_isTaken.2.1 0 = .ok (.iconst 0, 1) := by decide +kernel
theorem dX10_isTaken_1 : decode mX10_isTaken.2.1 1 = .ok (.istore_n 2, 1) := by decide +kernel
theorem dX10_isTaken_2 : decode mX10_isTaken.2.1 2 = .ok (.iload_n 2, 1) := by decide +kernel
theorem dX10_isTaken_3 : decode mX10_isTaken.2.1 3 = .ok (.iconst 4, 1) := by decide +kernel
theorem dX10_isTaken_4 : decode mX10_isTaken.2.1 4 = .ok (.if_icmp .ge 33, 3) := by decide +kernel
theorem dX10_isTaken_7 : decode mX10_isTaken.2.1 7 = .ok (.aload_n 0, 1) := by decide +kernel
theorem dX10_isTaken_8 : decode mX10_isTaken.2.1 8 = .ok (.getfield 18, 3) := by decide +kernel
theorem dX10_isTaken_11 : decode mX10_isTaken.2.1 11 = .ok (.iload_n 2, 1) := by decide +kernel
theorem dX10_isTaken_12 : decode mX10_isTaken.2.1 12 = .ok (.aaload, 1) := by decide +kernel
theorem dX10_isTaken_13 : decode mX10_isTaken.2.1 13 = .ok (.ifnull 18, 3) := by decide +kernel
theorem dX10_isTaken_16 : decode mX10_isTaken.2.1 16 = .ok (.aload_n 0, 1) := by decide +kernel
theorem dX10_isTaken_17 : decode mX10_isTaken.2.1 17 = .ok (.getfield 18, 3) := by decide +kernel
theorem dX10_isTaken_20 : decode mX10_isTaken.2.1 20 = .ok (.iload_n 2, 1) := by decide +kernel
theorem dX10_isTaken_21 : decode mX10_isTaken.2.1 21 = .ok (.aaload, 1) := by decide +kernel
theorem dX10_isTaken_22 : decode mX10_isTaken.2.1 22 = .ok (.getfield 238, 3) := by decide +kernel
theorem dX10_isTaken_25 : decode mX10_isTaken.2.1 25 = .ok (.iload_n 1, 1) := by decide +kernel
theorem dX10_isTaken_26 : decode mX10_isTaken.2.1 26 = .ok (.if_icmp .ne 5, 3) := by decide +kernel
theorem dX10_isTaken_29 : decode mX10_isTaken.2.1 29 = .ok (.iconst 1, 1) := by decide +kernel
theorem dX10_isTaken_30 : decode mX10_isTaken.2.1 30 = .ok (.ireturn, 1) := by decide +kernel
theorem dX10_isTaken_31 : decode mX10_isTaken.2.1 31 = .ok (.iinc 2 1, 3) := by decide +kernel
theorem dX10_isTaken_34 : decode mX10_isTaken.2.1 34 = .ok (.goto (-32), 3) := by decide +kernel
theorem dX10_isTaken_37 : decode mX10_isTaken.2.1 37 = .ok (.iconst 0, 1) := by decide +kernel
theorem dX10_isTaken_38 : decode mX10_isTaken.2.1 38 = .ok (.ireturn, 1) := by decide +kernel
theorem dX10_lay_0 : decode mX10_lay.2.1 0 = .ok (.aload_n 0, 1) := by decide +kernel
theorem dX10_lay_1 : decode mX10_lay.2.1 1 = .ok (.iload_n 1, 1) := by decide +kernel
theorem dX10_lay_2 : decode mX10_lay.2.1 2 = .ok (.invokevirtual 116, 3) := by decide +kernel
theorem dX10_lay_5 : decode mX10_lay.2.1 5 = .ok (.astore 5, 2) := by decide +kernel
theorem dX10_lay_7 : decode mX10_lay.2.1 7 = .ok (.aload_n 0, 1) := by decide +kernel
theorem dX10_lay_8 : decode mX10_lay.2.1 8 = .ok (.iload 4, 2) := by decide +kernel
theorem dX10_lay_10 : decode mX10_lay.2.1 10 = .ok (.invokevirtual 120, 3) := by decide +kernel
theorem dX10_lay_13 : decode mX10_lay.2.1 13 = .ok (.astore 6, 2) := by decide +kernel
theorem dX10_lay_15 : decode mX10_lay.2.1 15 = .ok (.aload 5, 2) := by decide +kernel
theorem dX10_lay_17 : decode mX10_lay.2.1 17 = .ok (.ifnull 17, 3) := by decide +kernel
theorem dX10_lay_20 : decode mX10_lay.2.1 20 = .ok (.aload 6, 2) := by decide +kernel
theorem dX10_lay_22 : decode mX10_lay.2.1 22 = .ok (.ifnull 12, 3) := by decide +kernel
theorem dX10_lay_25 : decode mX10_lay.2.1 25 = .ok (.iload_n 3, 1) := by decide +kernel
theorem dX10_lay_26 : decode mX10_lay.2.1 26 = .ok (.ifCond .lt 8, 3) := by decide +kernel
theorem dX10_lay_29 : decode mX10_lay.2.1 29 = .ok (.iload_n 3, 1) := by decide +kernel
theorem dX10_lay_30 : decode mX10_lay.2.1 30 = .ok (.iconst 2, 1) := by decide +kernel
theorem dX10_lay_31 : decode mX10_lay.2.1 31 = .ok (.if_icmp .le 5, 3) := by decide +kernel
theorem dX10_lay_34 : decode mX10_lay.2.1 34 = .ok (.iconst (-1), 1) := by decide +kernel
theorem dX10_lay_35 : decode mX10_lay.2.1 35 = .ok (.ireturn, 1) := by decide +kernel
theorem dX10_lay_36 : decode mX10_lay.2.1 36 = .ok (.aload 5, 2) := by decide +kernel
theorem dX10_lay_38 : decode mX10_lay.2.1 38 = .ok (.iload_n 2, 1) := by decide +kernel
theorem dX10_lay_39 : decode mX10_lay.2.1 39 = .ok (.invokevirtual 124, 3) := by decide +kernel
theorem dX10_lay_42 : decode mX10_lay.2.1 42 = .ok (.astore 7, 2) := by decide +kernel
theorem dX10_lay_44 : decode mX10_lay.2.1 44 = .ok (.aload 7, 2) := by decide +kernel
theorem dX10_lay_46 : decode mX10_lay.2.1 46 = .ok (.ifnonnull 5, 3) := by decide +kernel
theorem dX10_lay_49 : decode mX10_lay.2.1 49 = .ok (.iconst (-1), 1) := by decide +kernel
theorem dX10_lay_50 : decode mX10_lay.2.1 50 = .ok (.ireturn, 1) := by decide +kernel
theorem dX10_lay_51 : decode mX10_lay.2.1 51 = .ok (.aload 6, 2) := by decide +kernel
theorem dX10_lay_53 : decode mX10_lay.2.1 53 = .ok (.getfield 128, 3) := by decide +kernel
theorem dX10_lay_56 : decode mX10_lay.2.1 56 = .ok (.ifCond .ne 16, 3) := by decide +kernel
theorem dX10_lay_59 : decode mX10_lay.2.1 59 = .ok (.aload 5, 2) := by decide +kernel
theorem dX10_lay_61 : decode mX10_lay.2.1 61 = .ok (.getfield 131, 3) := by decide +kernel
theorem dX10_lay_64 : decode mX10_lay.2.1 64 = .ok (.aload 6, 2) := by decide +kernel
theorem dX10_lay_66 : decode mX10_lay.2.1 66 = .ok (.getfield 134, 3) := by decide +kernel
theorem dX10_lay_69 : decode mX10_lay.2.1 69 = .ok (.if_icmp .eq 6, 3) := by decide +kernel
theorem dX10_lay_72 : decode mX10_lay.2.1 72 = .ok (.bipush (-2), 2) := by decide +kernel
theorem dX10_lay_74 : decode mX10_lay.2.1 74 = .ok (.ireturn, 1) := by decide +kernel
theorem dX10_lay_75 : decode mX10_lay.2.1 75 = .ok (.aload 7, 2) := by decide +kernel
theorem dX10_lay_77 : decode mX10_lay.2.1 77 = .ok (.getfield 137, 3) := by decide +kernel
theorem dX10_lay_80 : decode mX10_lay.2.1 80 = .ok (.ifCond .eq 6, 3) := by decide +kernel
theorem dX10_lay_83 : decode mX10_lay.2.1 83 = .ok (.bipush (-3), 2) := by decide +kernel
theorem dX10_lay_85 : decode mX10_lay.2.1 85 = .ok (.ireturn, 1) := by decide +kernel
theorem dX10_lay_86 : decode mX10_lay.2.1 86 = .ok (.aload 7, 2) := by decide +kernel
theorem dX10_lay_88 : decode mX10_lay.2.1 88 = .ok (.invokevirtual 143, 3) := by decide +kernel
theorem dX10_lay_91 : decode mX10_lay.2.1 91 = .ok (.aload 6, 2) := by decide +kernel
theorem dX10_lay_93 : decode mX10_lay.2.1 93 = .ok (.getfield 147, 3) := by decide +kernel
theorem dX10_lay_96 : decode mX10_lay.2.1 96 = .ok (.iadd, 1) := by decide +kernel
theorem dX10_lay_97 : decode mX10_lay.2.1 97 = .ok (.aload 7, 2) := by decide +kernel
theorem dX10_lay_99 : decode mX10_lay.2.1 99 = .ok (.getfield 150, 3) := by decide +kernel
theorem dX10_lay_102 : decode mX10_lay.2.1 102 = .ok (.if_icmp .le 6, 3) := by decide +kernel
theorem dX10_lay_105 : decode mX10_lay.2.1 105 = .ok (.bipush (-4), 2) := by decide +kernel
theorem dX10_lay_107 : decode mX10_lay.2.1 107 = .ok (.ireturn, 1) := by decide +kernel
theorem dX10_lay_108 : decode mX10_lay.2.1 108 = .ok (.aload 6, 2) := by decide +kernel
theorem dX10_lay_110 : decode mX10_lay.2.1 110 = .ok (.getfield 153, 3) := by decide +kernel
theorem dX10_lay_113 : decode mX10_lay.2.1 113 = .ok (.iconst 3, 1) := by decide +kernel
theorem dX10_lay_114 : decode mX10_lay.2.1 114 = .ok (.if_icmp .ne 7, 3) := by decide +kernel
theorem dX10_lay_117 : decode mX10_lay.2.1 117 = .ok (.iconst 1, 1) := by decide +kernel
theorem dX10_lay_118 : decode mX10_lay.2.1 118 = .ok (.goto 4, 3) := by decide +kernel
theorem dX10_lay_121 : decode mX10_lay.2.1 121 = .ok (.iconst 0, 1) := by decide +kernel
theorem dX10_lay_122 : decode mX10_lay.2.1 122 = .ok (.iload_n 3, 1) := by decide +kernel
theorem dX10_lay_123 : decode mX10_lay.2.1 123 = .ok (.iconst 2, 1) := by decide +kernel
theorem dX10_lay_124 : decode mX10_lay.2.1 124 = .ok (.if_icmp .ne 7, 3) := by decide +kernel
theorem dX10_lay_127 : decode mX10_lay.2.1 127 = .ok (.iconst 1, 1) := by decide +kernel
theorem dX10_lay_128 : decode mX10_lay.2.1 128 = .ok (.goto 4, 3) := by decide +kernel
theorem dX10_lay_131 : decode mX10_lay.2.1 131 = .ok (.iconst 0, 1) := by decide +kernel
theorem dX10_lay_132 : decode mX10_lay.2.1 132 = .ok (.if_icmp .ne 17, 3) := by decide +kernel
theorem dX10_lay_135 : decode mX10_lay.2.1 135 = .ok (.iload_n 3, 1) := by decide +kernel
theorem dX10_lay_136 : decode mX10_lay.2.1 136 = .ok (.iconst 2, 1) := by decide +kernel
theorem dX10_lay_137 : decode mX10_lay.2.1 137 = .ok (.if_icmp .ne 15, 3) := by decide +kernel
theorem dX10_lay_140 : decode mX10_lay.2.1 140 = .ok (.aload 7, 2) := by decide +kernel
theorem dX10_lay_142 : decode mX10_lay.2.1 142 = .ok (.getfield 156, 3) := by decide +kernel
theorem dX10_lay_145 : decode mX10_lay.2.1 145 = .ok (.iconst (-1), 1) := by decide +kernel
theorem dX10_lay_146 : decode mX10_lay.2.1 146 = .ok (.if_icmp .eq 6, 3) := by decide +kernel
theorem dX10_lay_149 : decode mX10_lay.2.1 149 = .ok (.bipush (-5), 2) := by decide +kernel
theorem dX10_lay_151 : decode mX10_lay.2.1 151 = .ok (.ireturn, 1) := by decide +kernel
theorem dX10_lay_152 : decode mX10_lay.2.1 152 = .ok (.aload 7, 2) := by decide +kernel
theorem dX10_lay_154 : decode mX10_lay.2.1 154 = .ok (.iload_n 3, 1) := by decide +kernel
theorem dX10_lay_155 : decode mX10_lay.2.1 155 = .ok (.iload 4, 2) := by decide +kernel
theorem dX10_lay_157 : decode mX10_lay.2.1 157 = .ok (.aload 6, 2) := by decide +kernel
theorem dX10_lay_159 : decode mX10_lay.2.1 159 = .ok (.getfield 147, 3) := by decide +kernel
theorem dX10_lay_162 : decode mX10_lay.2.1 162 = .ok (.invokevirtual 159, 3) := by decide +kernel
theorem dX10_lay_165 : decode mX10_lay.2.1 165 = .ok (.aload 5, 2) := by decide +kernel
theorem dX10_lay_167 : decode mX10_lay.2.1 167 = .ok (.dup, 1) := by decide +kernel
theorem dX10_lay_168 : decode mX10_lay.2.1 168 = .ok (.getfield 162, 3) := by decide +kernel
theorem dX10_lay_171 : decode mX10_lay.2.1 171 = .ok (.iconst 1, 1) := by decide +kernel
theorem dX10_lay_172 : decode mX10_lay.2.1 172 = .ok (.iadd, 1) := by decide +kernel
theorem dX10_lay_173 : decode mX10_lay.2.1 173 = .ok (.putfield 162, 3) := by decide +kernel
theorem dX10_lay_176 : decode mX10_lay.2.1 176 = .ok (.aload 6, 2) := by decide +kernel
theorem dX10_lay_178 : decode mX10_lay.2.1 178 = .ok (.iload_n 1, 1) := by decide +kernel
theorem dX10_lay_179 : decode mX10_lay.2.1 179 = .ok (.iload_n 2, 1) := by decide +kernel
theorem dX10_lay_180 : decode mX10_lay.2.1 180 = .ok (.iload_n 3, 1) := by decide +kernel
theorem dX10_lay_181 : decode mX10_lay.2.1 181 = .ok (.invokevirtual 164, 3) := by decide +kernel
theorem dX10_lay_184 : decode mX10_lay.2.1 184 = .ok (.aload_n 0, 1) := by decide +kernel
theorem dX10_lay_185 : decode mX10_lay.2.1 185 = .ok (.getfield 37, 3) := by decide +kernel
theorem dX10_lay_188 : decode mX10_lay.2.1 188 = .ok (.iload 4, 2) := by decide +kernel
theorem dX10_lay_190 : decode mX10_lay.2.1 190 = .ok (.aload_n 0, 1) := by decide +kernel
theorem dX10_lay_191 : decode mX10_lay.2.1 191 = .ok (.getfield 77, 3) := by decide +kernel
theorem dX10_lay_194 : decode mX10_lay.2.1 194 = .ok (.bipush 10, 2) := by decide +kernel
theorem dX10_lay_196 : decode mX10_lay.2.1 196 = .ok (.iload_n 1, 1) := by decide +kernel
theorem dX10_lay_197 : decode mX10_lay.2.1 197 = .ok (.iadd, 1) := by decide +kernel
theorem dX10_lay_198 : decode mX10_lay.2.1 198 = .ok (.invokevirtual 112, 3) := by decide +kernel
theorem dX10_lay_201 : decode mX10_lay.2.1 201 = .ok (.aload 7, 2) := by decide +kernel
theorem dX10_lay_203 : decode mX10_lay.2.1 203 = .ok (.invokevirtual 143, 3) := by decide +kernel
theorem dX10_lay_206 : decode mX10_lay.2.1 206 = .ok (.ireturn, 1) := by decide +kernel
theorem dX10_muleOf_0 : decode mX10_muleOf.2.1 0 = .ok (.aload_n 0, 1) := by decide +kernel
theorem dX10_muleOf_1 : decode mX10_muleOf.2.1 1 = .ok (.iload_n 1, 1) := by decide +kernel
theorem dX10_muleOf_2 : decode mX10_muleOf.2.1 2 = .ok (.invokevirtual 116, 3) := by decide +kernel
theorem dX10_muleOf_5 : decode mX10_muleOf.2.1 5 = .ok (.astore 4, 2) := by decide +kernel
theorem dX10_muleOf_7 : decode mX10_muleOf.2.1 7 = .ok (.aload 4, 2) := by decide +kernel
theorem dX10_muleOf_9 : decode mX10_muleOf.2.1 9 = .ok (.ifnonnull 5, 3) := by decide +kernel
theorem dX10_muleOf_12 : decode mX10_muleOf.2.1 12 = .ok (.iconst (-1), 1) := by decide +kernel
theorem dX10_muleOf_13 : decode mX10_muleOf.2.1 13 = .ok (.ireturn, 1) := by decide +kernel
theorem dX10_muleOf_14 : decode mX10_muleOf.2.1 14 = .ok (.aload 4, 2) := by decide +kernel
theorem dX10_muleOf_16 : decode mX10_muleOf.2.1 16 = .ok (.iload_n 2, 1) := by decide +kernel
theorem dX10_muleOf_17 : decode mX10_muleOf.2.1 17 = .ok (.invokevirtual 124, 3) := by decide +kernel
theorem dX10_muleOf_20 : decode mX10_muleOf.2.1 20 = .ok (.astore 5, 2) := by decide +kernel
theorem dX10_muleOf_22 : decode mX10_muleOf.2.1 22 = .ok (.aload 5, 2) := by decide +kernel
theorem dX10_muleOf_24 : decode mX10_muleOf.2.1 24 = .ok (.ifnonnull 5, 3) := by decide +kernel
theorem dX10_muleOf_27 : decode mX10_muleOf.2.1 27 = .ok (.iconst (-1), 1) := by decide +kernel
theorem dX10_muleOf_28 : decode mX10_muleOf.2.1 28 = .ok (.ireturn, 1) := by decide +kernel
theorem dX10_muleOf_29 : decode mX10_muleOf.2.1 29 = .ok (.iload_n 3, 1) := by decide +kernel
theorem dX10_muleOf_30 : decode mX10_muleOf.2.1 30 = .ok (.tableswitch 102 0 7 #[46, 52, 58, 72, 78, 84, 90, 96], 46) := by decide +kernel
theorem dX10_muleOf_76 : decode mX10_muleOf.2.1 76 = .ok (.aload 5, 2) := by decide +kernel
theorem dX10_muleOf_78 : decode mX10_muleOf.2.1 78 = .ok (.getfield 150, 3) := by decide +kernel
theorem dX10_muleOf_81 : decode mX10_muleOf.2.1 81 = .ok (.ireturn, 1) := by decide +kernel
theorem dX10_muleOf_82 : decode mX10_muleOf.2.1 82 = .ok (.aload 5, 2) := by decide +kernel
theorem dX10_muleOf_84 : decode mX10_muleOf.2.1 84 = .ok (.getfield 244, 3) := by decide +kernel
theorem dX10_muleOf_87 : decode mX10_muleOf.2.1 87 = .ok (.ireturn, 1) := by decide +kernel
theorem dX10_muleOf_88 : decode mX10_muleOf.2.1 88 = .ok (.aload 5, 2) := by decide +kernel
theorem dX10_muleOf_90 : decode mX10_muleOf.2.1 90 = .ok (.getfield 137, 3) := by decide +kernel
theorem dX10_muleOf_93 : decode mX10_muleOf.2.1 93 = .ok (.ifCond .eq 7, 3) := by decide +kernel
theorem dX10_muleOf_96 : decode mX10_muleOf.2.1 96 = .ok (.iconst 1, 1) := by decide +kernel
theorem dX10_muleOf_97 : decode mX10_muleOf.2.1 97 = .ok (.goto 4, 3) := by decide +kernel
theorem dX10_muleOf_100 : decode mX10_muleOf.2.1 100 = .ok (.iconst 0, 1) := by decide +kernel
theorem dX10_muleOf_101 : decode mX10_muleOf.2.1 101 = .ok (.ireturn, 1) := by decide +kernel
theorem dX10_muleOf_102 : decode mX10_muleOf.2.1 102 = .ok (.aload 5, 2) := by decide +kernel
theorem dX10_muleOf_104 : decode mX10_muleOf.2.1 104 = .ok (.invokevirtual 143, 3) := by decide +kernel
theorem dX10_muleOf_107 : decode mX10_muleOf.2.1 107 = .ok (.ireturn, 1) := by decide +kernel
theorem dX10_muleOf_108 : decode mX10_muleOf.2.1 108 = .ok (.aload 5, 2) := by decide +kernel
theorem dX10_muleOf_110 : decode mX10_muleOf.2.1 110 = .ok (.getfield 247, 3) := by decide +kernel
theorem dX10_muleOf_113 : decode mX10_muleOf.2.1 113 = .ok (.ireturn, 1) := by decide +kernel
theorem dX10_muleOf_114 : decode mX10_muleOf.2.1 114 = .ok (.aload 5, 2) := by decide +kernel
theorem dX10_muleOf_116 : decode mX10_muleOf.2.1 116 = .ok (.getfield 250, 3) := by decide +kernel
theorem dX10_muleOf_119 : decode mX10_muleOf.2.1 119 = .ok (.ireturn, 1) := by decide +kernel
theorem dX10_muleOf_120 : decode mX10_muleOf.2.1 120 = .ok (.aload 5, 2) := by decide +kernel
theorem dX10_muleOf_122 : decode mX10_muleOf.2.1 122 = .ok (.getfield 156, 3) := by decide +kernel
theorem dX10_muleOf_125 : decode mX10_muleOf.2.1 125 = .ok (.ireturn, 1) := by decide +kernel
theorem dX10_muleOf_126 : decode mX10_muleOf.2.1 126 = .ok (.aload 5, 2) := by decide +kernel
theorem dX10_muleOf_128 : decode mX10_muleOf.2.1 128 = .ok (.getfield 253, 3) := by decide +kernel
theorem dX10_muleOf_131 : decode mX10_muleOf.2.1 131 = .ok (.ireturn, 1) := by decide +kernel
theorem dX10_muleOf_132 : decode mX10_muleOf.2.1 132 = .ok (.iconst (-1), 1) := by decide +kernel
theorem dX10_muleOf_133 : decode mX10_muleOf.2.1 133 = .ok (.ireturn, 1) := by decide +kernel
theorem dX10_of_0 : decode mX10_of.2.1 0 = .ok (.aload_n 0, 1) := by decide +kernel
theorem dX10_of_1 : decode mX10_of.2.1 1 = .ok (.iload_n 1, 1) := by decide +kernel
theorem dX10_of_2 : decode mX10_of.2.1 2 = .ok (.invokevirtual 120, 3) := by decide +kernel
theorem dX10_of_5 : decode mX10_of.2.1 5 = .ok (.astore_n 3, 1) := by decide +kernel
theorem dX10_of_6 : decode mX10_of.2.1 6 = .ok (.aload_n 3, 1) := by decide +kernel
theorem dX10_of_7 : decode mX10_of.2.1 7 = .ok (.ifnonnull 5, 3) := by decide +kernel
theorem dX10_of_10 : decode mX10_of.2.1 10 = .ok (.iconst (-1), 1) := by decide +kernel
theorem dX10_of_11 : decode mX10_of.2.1 11 = .ok (.ireturn, 1) := by decide +kernel
theorem dX10_of_12 : decode mX10_of.2.1 12 = .ok (.iload_n 2, 1) := by decide +kernel
theorem dX10_of_13 : decode mX10_of.2.1 13 = .ok (.tableswitch 91 0 7 #[47, 52, 57, 62, 67, 72, 77, 82], 47) := by decide +kernel
theorem dX10_of_60 : decode mX10_of.2.1 60 = .ok (.aload_n 3, 1) := by decide +kernel
theorem dX10_of_61 : decode mX10_of.2.1 61 = .ok (.getfield 153, 3) := by decide +kernel
theorem dX10_of_64 : decode mX10_of.2.1 64 = .ok (.ireturn, 1) := by decide +kernel
theorem dX10_of_65 : decode mX10_of.2.1 65 = .ok (.aload_n 3, 1) := by decide +kernel
theorem dX10_of_66 : decode mX10_of.2.1 66 = .ok (.getfield 147, 3) := by decide +kernel
theorem dX10_of_69 : decode mX10_of.2.1 69 = .ok (.ireturn, 1) := by decide +kernel
theorem dX10_of_70 : decode mX10_of.2.1 70 = .ok (.aload_n 3, 1) := by decide +kernel
theorem dX10_of_71 : decode mX10_of.2.1 71 = .ok (.getfield 181, 3) := by decide +kernel
theorem dX10_of_74 : decode mX10_of.2.1 74 = .ok (.ireturn, 1) := by decide +kernel
theorem dX10_of_75 : decode mX10_of.2.1 75 = .ok (.aload_n 3, 1) := by decide +kernel
theorem dX10_of_76 : decode mX10_of.2.1 76 = .ok (.getfield 128, 3) := by decide +kernel
theorem dX10_of_79 : decode mX10_of.2.1 79 = .ok (.ireturn, 1) := by decide +kernel
theorem dX10_of_80 : decode mX10_of.2.1 80 = .ok (.aload_n 3, 1) := by decide +kernel
theorem dX10_of_81 : decode mX10_of.2.1 81 = .ok (.getfield 134, 3) := by decide +kernel
theorem dX10_of_84 : decode mX10_of.2.1 84 = .ok (.ireturn, 1) := by decide +kernel
theorem dX10_of_85 : decode mX10_of.2.1 85 = .ok (.aload_n 3, 1) := by decide +kernel
theorem dX10_of_86 : decode mX10_of.2.1 86 = .ok (.getfield 256, 3) := by decide +kernel
theorem dX10_of_89 : decode mX10_of.2.1 89 = .ok (.ireturn, 1) := by decide +kernel
theorem dX10_of_90 : decode mX10_of.2.1 90 = .ok (.aload_n 3, 1) := by decide +kernel
theorem dX10_of_91 : decode mX10_of.2.1 91 = .ok (.getfield 259, 3) := by decide +kernel
theorem dX10_of_94 : decode mX10_of.2.1 94 = .ok (.ireturn, 1) := by decide +kernel
theorem dX10_of_95 : decode mX10_of.2.1 95 = .ok (.aload_n 0, 1) := by decide +kernel
theorem dX10_of_96 : decode mX10_of.2.1 96 = .ok (.aload_n 3, 1) := by decide +kernel
theorem dX10_of_97 : decode mX10_of.2.1 97 = .ok (.getfield 256, 3) := by decide +kernel
theorem dX10_of_100 : decode mX10_of.2.1 100 = .ok (.invokevirtual 262, 3) := by decide +kernel
theorem dX10_of_103 : decode mX10_of.2.1 103 = .ok (.ireturn, 1) := by decide +kernel
theorem dX10_of_104 : decode mX10_of.2.1 104 = .ok (.iconst (-1), 1) := by decide +kernel
theorem dX10_of_105 : decode mX10_of.2.1 105 = .ok (.ireturn, 1) := by decide +kernel
theorem dX10_pack_0 : decode mX10_pack.2.1 0 = .ok (.aload_n 0, 1) := by decide +kernel
theorem dX10_pack_1 : decode mX10_pack.2.1 1 = .ok (.getfield 10, 3) := by decide +kernel
theorem dX10_pack_4 : decode mX10_pack.2.1 4 = .ok (.iload_n 1, 1) := by decide +kernel
theorem dX10_pack_5 : decode mX10_pack.2.1 5 = .ok (.invokevirtual 85, 3) := by decide +kernel
theorem dX10_pack_8 : decode mX10_pack.2.1 8 = .ok (.ifCond .eq 19, 3) := by decide +kernel
theorem dX10_pack_11 : decode mX10_pack.2.1 11 = .ok (.aload_n 0, 1) := by decide +kernel
theorem dX10_pack_12 : decode mX10_pack.2.1 12 = .ok (.getfield 10, 3) := by decide +kernel
theorem dX10_pack_15 : decode mX10_pack.2.1 15 = .ok (.iload_n 2, 1) := by decide +kernel
theorem dX10_pack_16 : decode mX10_pack.2.1 16 = .ok (.invokevirtual 85, 3) := by decide +kernel
theorem dX10_pack_19 : decode mX10_pack.2.1 19 = .ok (.ifCond .eq 8, 3) := by decide +kernel
theorem dX10_pack_22 : decode mX10_pack.2.1 22 = .ok (.iload_n 1, 1) := by decide +kernel
theorem dX10_pack_23 : decode mX10_pack.2.1 23 = .ok (.iload_n 2, 1) := by decide +kernel
theorem dX10_pack_24 : decode mX10_pack.2.1 24 = .ok (.if_icmp .ne 5, 3) := by decide +kernel
theorem dX10_pack_27 : decode mX10_pack.2.1 27 = .ok (.iconst (-1), 1) := by decide +kernel
theorem dX10_pack_28 : decode mX10_pack.2.1 28 = .ok (.ireturn, 1) := by decide +kernel
theorem dX10_pack_29 : decode mX10_pack.2.1 29 = .ok (.iload_n 3, 1) := by decide +kernel
theorem dX10_pack_30 : decode mX10_pack.2.1 30 = .ok (.ifCond .lt 30, 3) := by decide +kernel
theorem dX10_pack_33 : decode mX10_pack.2.1 33 = .ok (.iload_n 3, 1) := by decide +kernel
theorem dX10_pack_34 : decode mX10_pack.2.1 34 = .ok (.iconst 3, 1) := by decide +kernel
theorem dX10_pack_35 : decode mX10_pack.2.1 35 = .ok (.if_icmp .gt 25, 3) := by decide +kernel
theorem dX10_pack_38 : decode mX10_pack.2.1 38 = .ok (.iload 4, 2) := by decide +kernel
theorem dX10_pack_40 : decode mX10_pack.2.1 40 = .ok (.iconst 1, 1) := by decide +kernel
theorem dX10_pack_41 : decode mX10_pack.2.1 41 = .ok (.if_icmp .lt 19, 3) := by decide +kernel
theorem dX10_pack_44 : decode mX10_pack.2.1 44 = .ok (.iload 4, 2) := by decide +kernel
theorem dX10_pack_46 : decode mX10_pack.2.1 46 = .ok (.bipush 60, 2) := by decide +kernel
theorem dX10_pack_48 : decode mX10_pack.2.1 48 = .ok (.if_icmp .gt 12, 3) := by decide +kernel
theorem dX10_pack_51 : decode mX10_pack.2.1 51 = .ok (.aload_n 0, 1) := by decide +kernel
theorem dX10_pack_52 : decode mX10_pack.2.1 52 = .ok (.getfield 68, 3) := by decide +kernel
theorem dX10_pack_55 : decode mX10_pack.2.1 55 = .ok (.bipush 100, 2) := by decide +kernel
theorem dX10_pack_57 : decode mX10_pack.2.1 57 = .ok (.if_icmp .lt 5, 3) := by decide +kernel
theorem dX10_pack_60 : decode mX10_pack.2.1 60 = .ok (.iconst (-1), 1) := by decide +kernel
theorem dX10_pack_61 : decode mX10_pack.2.1 61 = .ok (.ireturn, 1) := by decide +kernel
theorem dX10_pack_62 : decode mX10_pack.2.1 62 = .ok (.aload_n 0, 1) := by decide +kernel
theorem dX10_pack_63 : decode mX10_pack.2.1 63 = .ok (.getfield 24, 3) := by decide +kernel
theorem dX10_pack_66 : decode mX10_pack.2.1 66 = .ok (.aload_n 0, 1) := by decide +kernel
theorem dX10_pack_67 : decode mX10_pack.2.1 67 = .ok (.getfield 68, 3) := by decide +kernel
theorem dX10_pack_70 : decode mX10_pack.2.1 70 = .ok (.new 22, 3) := by decide +kernel
theorem dX10_pack_73 : decode mX10_pack.2.1 73 = .ok (.dup, 1) := by decide +kernel
theorem dX10_pack_74 : decode mX10_pack.2.1 74 = .ok (.iload_n 3, 1) := by decide +kernel
theorem dX10_pack_75 : decode mX10_pack.2.1 75 = .ok (.iload 4, 2) := by decide +kernel
theorem dX10_pack_77 : decode mX10_pack.2.1 77 = .ok (.iload_n 1, 1) := by decide +kernel
theorem dX10_pack_78 : decode mX10_pack.2.1 78 = .ok (.iload_n 2, 1) := by decide +kernel
theorem dX10_pack_79 : decode mX10_pack.2.1 79 = .ok (.aload_n 0, 1) := by decide +kernel
theorem dX10_pack_80 : decode mX10_pack.2.1 80 = .ok (.getfield 77, 3) := by decide +kernel
theorem dX10_pack_83 : decode mX10_pack.2.1 83 = .ok (.invokespecial 109, 3) := by decide +kernel
theorem dX10_pack_86 : decode mX10_pack.2.1 86 = .ok (.aastore, 1) := by decide +kernel
theorem dX10_pack_87 : decode mX10_pack.2.1 87 = .ok (.aload_n 0, 1) := by decide +kernel
theorem dX10_pack_88 : decode mX10_pack.2.1 88 = .ok (.getfield 37, 3) := by decide +kernel
theorem dX10_pack_91 : decode mX10_pack.2.1 91 = .ok (.aload_n 0, 1) := by decide +kernel
theorem dX10_pack_92 : decode mX10_pack.2.1 92 = .ok (.getfield 68, 3) := by decide +kernel
theorem dX10_pack_95 : decode mX10_pack.2.1 95 = .ok (.aload_n 0, 1) := by decide +kernel
theorem dX10_pack_96 : decode mX10_pack.2.1 96 = .ok (.getfield 77, 3) := by decide +kernel
theorem dX10_pack_99 : decode mX10_pack.2.1 99 = .ok (.iload_n 1, 1) := by decide +kernel
theorem dX10_pack_100 : decode mX10_pack.2.1 100 = .ok (.invokevirtual 112, 3) := by decide +kernel
theorem dX10_pack_103 : decode mX10_pack.2.1 103 = .ok (.aload_n 0, 1) := by decide +kernel
theorem dX10_pack_104 : decode mX10_pack.2.1 104 = .ok (.dup, 1) := by decide +kernel
theorem dX10_pack_105 : decode mX10_pack.2.1 105 = .ok (.getfield 68, 3) := by decide +kernel
theorem dX10_pack_108 : decode mX10_pack.2.1 108 = .ok (.iconst 1, 1) := by decide +kernel
theorem dX10_pack_109 : decode mX10_pack.2.1 109 = .ok (.iadd, 1) := by decide +kernel
theorem dX10_pack_110 : decode mX10_pack.2.1 110 = .ok (.putfield 68, 3) := by decide +kernel
theorem dX10_pack_113 : decode mX10_pack.2.1 113 = .ok (.aload_n 0, 1) := by decide +kernel
theorem dX10_pack_114 : decode mX10_pack.2.1 114 = .ok (.getfield 68, 3) := by decide +kernel
theorem dX10_pack_117 : decode mX10_pack.2.1 117 = .ok (.iconst 1, 1) := by decide +kernel
theorem dX10_pack_118 : decode mX10_pack.2.1 118 = .ok (.isub, 1) := by decide +kernel
theorem dX10_pack_119 : decode mX10_pack.2.1 119 = .ok (.ireturn, 1) := by decide +kernel
theorem dX10_packAt_0 : decode mX10_packAt.2.1 0 = .ok (.iload_n 1, 1) := by decide +kernel
theorem dX10_packAt_1 : decode mX10_packAt.2.1 1 = .ok (.ifCond .lt 17, 3) := by decide +kernel
theorem dX10_packAt_4 : decode mX10_packAt.2.1 4 = .ok (.iload_n 1, 1) := by decide +kernel
theorem dX10_packAt_5 : decode mX10_packAt.2.1 5 = .ok (.aload_n 0, 1) := by decide +kernel
theorem dX10_packAt_6 : decode mX10_packAt.2.1 6 = .ok (.getfield 68, 3) := by decide +kernel
theorem dX10_packAt_9 : decode mX10_packAt.2.1 9 = .ok (.if_icmp .ge 9, 3) := by decide +kernel
theorem dX10_packAt_12 : decode mX10_packAt.2.1 12 = .ok (.iload_n 1, 1) := by decide +kernel
theorem dX10_packAt_13 : decode mX10_packAt.2.1 13 = .ok (.bipush 100, 2) := by decide +kernel
theorem dX10_packAt_15 : decode mX10_packAt.2.1 15 = .ok (.if_icmp .lt 7, 3) := by decide +kernel
theorem dX10_packAt_18 : decode mX10_packAt.2.1 18 = .ok (.aconst_null, 1) := by decide +kernel
theorem dX10_packAt_19 : decode mX10_packAt.2.1 19 = .ok (.goto 9, 3) := by decide +kernel
theorem dX10_packAt_22 : decode mX10_packAt.2.1 22 = .ok (.aload_n 0, 1) := by decide +kernel
theorem dX10_packAt_23 : decode mX10_packAt.2.1 23 = .ok (.getfield 24, 3) := by decide +kernel
theorem dX10_packAt_26 : decode mX10_packAt.2.1 26 = .ok (.iload_n 1, 1) := by decide +kernel
theorem dX10_packAt_27 : decode mX10_packAt.2.1 27 = .ok (.aaload, 1) := by decide +kernel
theorem dX10_packAt_28 : decode mX10_packAt.2.1 28 = .ok (.areturn, 1) := by decide +kernel
theorem dX10_packsThatAre_0 : decode mX10_packsThatAre.2.1 0 = .ok (.iconst 0, 1) := by decide +kernel
theorem dX10_packsThatAre_1 : decode mX10_packsThatAre.2.1 1 = .ok (.istore_n 2, 1) := by decide +kernel
theorem dX10_packsThatAre_2 : decode mX10_packsThatAre.2.1 2 = .ok (.iconst 0, 1) := by decide +kernel
theorem dX10_packsThatAre_3 : decode mX10_packsThatAre.2.1 3 = .ok (.istore_n 3, 1) := by decide +kernel
theorem dX10_packsThatAre_4 : decode mX10_packsThatAre.2.1 4 = .ok (.iload_n 3, 1) := by decide +kernel
theorem dX10_packsThatAre_5 : decode mX10_packsThatAre.2.1 5 = .ok (.bipush 100, 2) := by decide +kernel
theorem dX10_packsThatAre_7 : decode mX10_packsThatAre.2.1 7 = .ok (.if_icmp .ge 34, 3) := by decide +kernel
theorem dX10_packsThatAre_10 : decode mX10_packsThatAre.2.1 10 = .ok (.aload_n 0, 1) := by decide +kernel
theorem dX10_packsThatAre_11 : decode mX10_packsThatAre.2.1 11 = .ok (.getfield 24, 3) := by decide +kernel
theorem dX10_packsThatAre_14 : decode mX10_packsThatAre.2.1 14 = .ok (.iload_n 3, 1) := by decide +kernel
theorem dX10_packsThatAre_15 : decode mX10_packsThatAre.2.1 15 = .ok (.aaload, 1) := by decide +kernel
theorem dX10_packsThatAre_16 : decode mX10_packsThatAre.2.1 16 = .ok (.ifnull 19, 3) := by decide +kernel
theorem dX10_packsThatAre_19 : decode mX10_packsThatAre.2.1 19 = .ok (.aload_n 0, 1) := by decide +kernel
theorem dX10_packsThatAre_20 : decode mX10_packsThatAre.2.1 20 = .ok (.getfield 24, 3) := by decide +kernel
theorem dX10_packsThatAre_23 : decode mX10_packsThatAre.2.1 23 = .ok (.iload_n 3, 1) := by decide +kernel
theorem dX10_packsThatAre_24 : decode mX10_packsThatAre.2.1 24 = .ok (.aaload, 1) := by decide +kernel
theorem dX10_packsThatAre_25 : decode mX10_packsThatAre.2.1 25 = .ok (.getfield 128, 3) := by decide +kernel
theorem dX10_packsThatAre_28 : decode mX10_packsThatAre.2.1 28 = .ok (.iload_n 1, 1) := by decide +kernel
theorem dX10_packsThatAre_29 : decode mX10_packsThatAre.2.1 29 = .ok (.if_icmp .ne 6, 3) := by decide +kernel
theorem dX10_packsThatAre_32 : decode mX10_packsThatAre.2.1 32 = .ok (.iinc 2 1, 3) := by decide +kernel
theorem dX10_packsThatAre_35 : decode mX10_packsThatAre.2.1 35 = .ok (.iinc 3 1, 3) := by decide +kernel
theorem dX10_packsThatAre_38 : decode mX10_packsThatAre.2.1 38 = .ok (.goto (-34), 3) := by decide +kernel
theorem dX10_packsThatAre_41 : decode mX10_packsThatAre.2.1 41 = .ok (.iload_n 2, 1) := by decide +kernel
theorem dX10_packsThatAre_42 : decode mX10_packsThatAre.2.1 42 = .ok (.ireturn, 1) := by decide +kernel
theorem dX10_passHour_0 : decode mX10_passHour.2.1 0 = .ok (.aload_n 0, 1) := by decide +kernel
theorem dX10_passHour_1 : decode mX10_passHour.2.1 1 = .ok (.getfield 10, 3) := by decide +kernel
theorem dX10_passHour_4 : decode mX10_passHour.2.1 4 = .ok (.aload_n 0, 1) := by decide +kernel
theorem dX10_passHour_5 : decode mX10_passHour.2.1 5 = .ok (.getfield 77, 3) := by decide +kernel
theorem dX10_passHour_8 : decode mX10_passHour.2.1 8 = .ok (.invokevirtual 291, 3) := by decide +kernel
theorem dX10_passHour_11 : decode mX10_passHour.2.1 11 = .ok (.istore_n 1, 1) := by decide +kernel
theorem dX10_passHour_12 : decode mX10_passHour.2.1 12 = .ok (.iload_n 1, 1) := by decide +kernel
theorem dX10_passHour_13 : decode mX10_passHour.2.1 13 = .ok (.ifCond .eq 8, 3) := by decide +kernel
theorem dX10_passHour_16 : decode mX10_passHour.2.1 16 = .ok (.aload_n 0, 1) := by decide +kernel
theorem dX10_passHour_17 : decode mX10_passHour.2.1 17 = .ok (.iload_n 1, 1) := by decide +kernel
theorem dX10_passHour_18 : decode mX10_passHour.2.1 18 = .ok (.invokevirtual 294, 3) := by decide +kernel
theorem dX10_passHour_21 : decode mX10_passHour.2.1 21 = .ok (.iconst 0, 1) := by decide +kernel
theorem dX10_passHour_22 : decode mX10_passHour.2.1 22 = .ok (.istore_n 2, 1) := by decide +kernel
theorem dX10_passHour_23 : decode mX10_passHour.2.1 23 = .ok (.iload_n 2, 1) := by decide +kernel
theorem dX10_passHour_24 : decode mX10_passHour.2.1 24 = .ok (.iconst 4, 1) := by decide +kernel
theorem dX10_passHour_25 : decode mX10_passHour.2.1 25 = .ok (.if_icmp .ge 47, 3) := by decide +kernel
theorem dX10_passHour_28 : decode mX10_passHour.2.1 28 = .ok (.aload_n 0, 1) := by decide +kernel
theorem dX10_passHour_29 : decode mX10_passHour.2.1 29 = .ok (.getfield 18, 3) := by decide +kernel
theorem dX10_passHour_32 : decode mX10_passHour.2.1 32 = .ok (.iload_n 2, 1) := by decide +kernel
theorem dX10_passHour_33 : decode mX10_passHour.2.1 33 = .ok (.aaload, 1) := by decide +kernel
theorem dX10_passHour_34 : decode mX10_passHour.2.1 34 = .ok (.ifnull 32, 3) := by decide +kernel
theorem dX10_passHour_37 : decode mX10_passHour.2.1 37 = .ok (.aload_n 0, 1) := by decide +kernel
theorem dX10_passHour_38 : decode mX10_passHour.2.1 38 = .ok (.getfield 18, 3) := by decide +kernel
theorem dX10_passHour_41 : decode mX10_passHour.2.1 41 = .ok (.iload_n 2, 1) := by decide +kernel
theorem dX10_passHour_42 : decode mX10_passHour.2.1 42 = .ok (.aaload, 1) := by decide +kernel
theorem dX10_passHour_43 : decode mX10_passHour.2.1 43 = .ok (.aload_n 0, 1) := by decide +kernel
theorem dX10_passHour_44 : decode mX10_passHour.2.1 44 = .ok (.getfield 77, 3) := by decide +kernel
theorem dX10_passHour_47 : decode mX10_passHour.2.1 47 = .ok (.aload_n 0, 1) := by decide +kernel
theorem dX10_passHour_48 : decode mX10_passHour.2.1 48 = .ok (.getfield 10, 3) := by decide +kernel
theorem dX10_passHour_51 : decode mX10_passHour.2.1 51 = .ok (.aload_n 0, 1) := by decide +kernel
theorem dX10_passHour_52 : decode mX10_passHour.2.1 52 = .ok (.getfield 18, 3) := by decide +kernel
theorem dX10_passHour_55 : decode mX10_passHour.2.1 55 = .ok (.iload_n 2, 1) := by decide +kernel
theorem dX10_passHour_56 : decode mX10_passHour.2.1 56 = .ok (.aaload, 1) := by decide +kernel
theorem dX10_passHour_57 : decode mX10_passHour.2.1 57 = .ok (.getfield 238, 3) := by decide +kernel
theorem dX10_passHour_60 : decode mX10_passHour.2.1 60 = .ok (.invokevirtual 297, 3) := by decide +kernel
theorem dX10_passHour_63 : decode mX10_passHour.2.1 63 = .ok (.invokevirtual 300, 3) := by decide +kernel
theorem dX10_passHour_66 : decode mX10_passHour.2.1 66 = .ok (.iinc 2 1, 3) := by decide +kernel
theorem dX10_passHour_69 : decode mX10_passHour.2.1 69 = .ok (.goto (-46), 3) := by decide +kernel
theorem dX10_passHour_72 : decode mX10_passHour.2.1 72 = .ok (.aload_n 0, 1) := by decide +kernel
theorem dX10_passHour_73 : decode mX10_passHour.2.1 73 = .ok (.dup, 1) := by decide +kernel
theorem dX10_passHour_74 : decode mX10_passHour.2.1 74 = .ok (.getfield 77, 3) := by decide +kernel
theorem dX10_passHour_77 : decode mX10_passHour.2.1 77 = .ok (.iconst 1, 1) := by decide +kernel
theorem dX10_passHour_78 : decode mX10_passHour.2.1 78 = .ok (.iadd, 1) := by decide +kernel
theorem dX10_passHour_79 : decode mX10_passHour.2.1 79 = .ok (.putfield 77, 3) := by decide +kernel
theorem dX10_passHour_82 : decode mX10_passHour.2.1 82 = .ok (.return_, 1) := by decide +kernel
theorem dX10_payFor_0 : decode mX10_payFor.2.1 0 = .ok (.aload_n 0, 1) := by decide +kernel
theorem dX10_payFor_1 : decode mX10_payFor.2.1 1 = .ok (.aload_n 1, 1) := by decide +kernel
theorem dX10_payFor_2 : decode mX10_payFor.2.1 2 = .ok (.getfield 256, 3) := by decide +kernel
theorem dX10_payFor_5 : decode mX10_payFor.2.1 5 = .ok (.invokevirtual 262, 3) := by decide +kernel
theorem dX10_payFor_8 : decode mX10_payFor.2.1 8 = .ok (.istore_n 2, 1) := by decide +kernel
theorem dX10_payFor_9 : decode mX10_payFor.2.1 9 = .ok (.iload_n 2, 1) := by decide +kernel
theorem dX10_payFor_10 : decode mX10_payFor.2.1 10 = .ok (.iconst (-1), 1) := by decide +kernel
theorem dX10_payFor_11 : decode mX10_payFor.2.1 11 = .ok (.if_icmp .ne 7, 3) := by decide +kernel
theorem dX10_payFor_14 : decode mX10_payFor.2.1 14 = .ok (.iconst 0, 1) := by decide +kernel
theorem dX10_payFor_15 : decode mX10_payFor.2.1 15 = .ok (.goto 22, 3) := by decide +kernel
theorem dX10_payFor_18 : decode mX10_payFor.2.1 18 = .ok (.aload_n 0, 1) := by decide +kernel
theorem dX10_payFor_19 : decode mX10_payFor.2.1 19 = .ok (.getfield 30, 3) := by decide +kernel
theorem dX10_payFor_22 : decode mX10_payFor.2.1 22 = .ok (.iload_n 2, 1) := by decide +kernel
theorem dX10_payFor_23 : decode mX10_payFor.2.1 23 = .ok (.aaload, 1) := by decide +kernel
theorem dX10_payFor_24 : decode mX10_payFor.2.1 24 = .ok (.aload_n 1, 1) := by decide +kernel
theorem dX10_payFor_25 : decode mX10_payFor.2.1 25 = .ok (.aload_n 0, 1) := by decide +kernel
theorem dX10_payFor_26 : decode mX10_payFor.2.1 26 = .ok (.getfield 77, 3) := by decide +kernel
theorem dX10_payFor_29 : decode mX10_payFor.2.1 29 = .ok (.aload_n 1, 1) := by decide +kernel
theorem dX10_payFor_30 : decode mX10_payFor.2.1 30 = .ok (.getfield 256, 3) := by decide +kernel
theorem dX10_payFor_33 : decode mX10_payFor.2.1 33 = .ok (.isub, 1) := by decide +kernel
theorem dX10_payFor_34 : decode mX10_payFor.2.1 34 = .ok (.invokevirtual 317, 3) := by decide +kernel
theorem dX10_payFor_37 : decode mX10_payFor.2.1 37 = .ok (.ireturn, 1) := by decide +kernel
theorem dX10_payOfAll_0 : decode mX10_payOfAll.2.1 0 = .ok (.iconst 0, 1) := by decide +kernel
theorem dX10_payOfAll_1 : decode mX10_payOfAll.2.1 1 = .ok (.istore_n 1, 1) := by decide +kernel
theorem dX10_payOfAll_2 : decode mX10_payOfAll.2.1 2 = .ok (.iconst 0, 1) := by decide +kernel
theorem dX10_payOfAll_3 : decode mX10_payOfAll.2.1 3 = .ok (.istore_n 2, 1) := by decide +kernel
theorem dX10_payOfAll_4 : decode mX10_payOfAll.2.1 4 = .ok (.iload_n 2, 1) := by decide +kernel
theorem dX10_payOfAll_5 : decode mX10_payOfAll.2.1 5 = .ok (.bipush 100, 2) := by decide +kernel
theorem dX10_payOfAll_7 : decode mX10_payOfAll.2.1 7 = .ok (.if_icmp .ge 30, 3) := by decide +kernel
theorem dX10_payOfAll_10 : decode mX10_payOfAll.2.1 10 = .ok (.aload_n 0, 1) := by decide +kernel
theorem dX10_payOfAll_11 : decode mX10_payOfAll.2.1 11 = .ok (.getfield 24, 3) := by decide +kernel
theorem dX10_payOfAll_14 : decode mX10_payOfAll.2.1 14 = .ok (.iload_n 2, 1) := by decide +kernel
theorem dX10_payOfAll_15 : decode mX10_payOfAll.2.1 15 = .ok (.aaload, 1) := by decide +kernel
theorem dX10_payOfAll_16 : decode mX10_payOfAll.2.1 16 = .ok (.ifnull 15, 3) := by decide +kernel
theorem dX10_payOfAll_19 : decode mX10_payOfAll.2.1 19 = .ok (.iload_n 1, 1) := by decide +kernel
theorem dX10_payOfAll_20 : decode mX10_payOfAll.2.1 20 = .ok (.aload_n 0, 1) := by decide +kernel
theorem dX10_payOfAll_21 : decode mX10_payOfAll.2.1 21 = .ok (.getfield 24, 3) := by decide +kernel
theorem dX10_payOfAll_24 : decode mX10_payOfAll.2.1 24 = .ok (.iload_n 2, 1) := by decide +kernel
theorem dX10_payOfAll_25 : decode mX10_payOfAll.2.1 25 = .ok (.aaload, 1) := by decide +kernel
theorem dX10_payOfAll_26 : decode mX10_payOfAll.2.1 26 = .ok (.getfield 272, 3) := by decide +kernel
theorem dX10_payOfAll_29 : decode mX10_payOfAll.2.1 29 = .ok (.iadd, 1) := by decide +kernel
theorem dX10_payOfAll_30 : decode mX10_payOfAll.2.1 30 = .ok (.istore_n 1, 1) := by decide +kernel
theorem dX10_payOfAll_31 : decode mX10_payOfAll.2.1 31 = .ok (.iinc 2 1, 3) := by decide +kernel
theorem dX10_payOfAll_34 : decode mX10_payOfAll.2.1 34 = .ok (.goto (-30), 3) := by decide +kernel
theorem dX10_payOfAll_37 : decode mX10_payOfAll.2.1 37 = .ok (.iload_n 1, 1) := by decide +kernel
theorem dX10_payOfAll_38 : decode mX10_payOfAll.2.1 38 = .ok (.ireturn, 1) := by decide +kernel
theorem dX10_place_0 : decode mX10_place.2.1 0 = .ok (.aload_n 0, 1) := by decide +kernel
theorem dX10_place_1 : decode mX10_place.2.1 1 = .ok (.getfield 74, 3) := by decide +kernel
theorem dX10_place_4 : decode mX10_place.2.1 4 = .ok (.ireturn, 1) := by decide +kernel
theorem dX10_shut_0 : decode mX10_shut.2.1 0 = .ok (.aload_n 0, 1) := by decide +kernel
theorem dX10_shut_1 : decode mX10_shut.2.1 1 = .ok (.getfield 10, 3) := by decide +kernel
theorem dX10_shut_4 : decode mX10_shut.2.1 4 = .ok (.iload_n 1, 1) := by decide +kernel
theorem dX10_shut_5 : decode mX10_shut.2.1 5 = .ok (.invokevirtual 99, 3) := by decide +kernel
theorem dX10_shut_8 : decode mX10_shut.2.1 8 = .ok (.ifCond .eq 22, 3) := by decide +kernel
theorem dX10_shut_11 : decode mX10_shut.2.1 11 = .ok (.iload_n 2, 1) := by decide +kernel
theorem dX10_shut_12 : decode mX10_shut.2.1 12 = .ok (.invokestatic 102, 3) := by decide +kernel
theorem dX10_shut_15 : decode mX10_shut.2.1 15 = .ok (.ifCond .eq 15, 3) := by decide +kernel
theorem dX10_shut_18 : decode mX10_shut.2.1 18 = .ok (.iload_n 3, 1) := by decide +kernel
theorem dX10_shut_19 : decode mX10_shut.2.1 19 = .ok (.ifCond .lt 11, 3) := by decide +kernel
theorem dX10_shut_22 : decode mX10_shut.2.1 22 = .ok (.iload_n 3, 1) := by decide +kernel
theorem dX10_shut_23 : decode mX10_shut.2.1 23 = .ok (.aload_n 0, 1) := by decide +kernel
theorem dX10_shut_24 : decode mX10_shut.2.1 24 = .ok (.getfield 77, 3) := by decide +kernel
theorem dX10_shut_27 : decode mX10_shut.2.1 27 = .ok (.if_icmp .le 5, 3) := by decide +kernel
theorem dX10_shut_30 : decode mX10_shut.2.1 30 = .ok (.iconst (-1), 1) := by decide +kernel
theorem dX10_shut_31 : decode mX10_shut.2.1 31 = .ok (.ireturn, 1) := by decide +kernel
theorem dX10_shut_32 : decode mX10_shut.2.1 32 = .ok (.aload_n 0, 1) := by decide +kernel
theorem dX10_shut_33 : decode mX10_shut.2.1 33 = .ok (.getfield 10, 3) := by decide +kernel
theorem dX10_shut_36 : decode mX10_shut.2.1 36 = .ok (.iload_n 1, 1) := by decide +kernel
theorem dX10_shut_37 : decode mX10_shut.2.1 37 = .ok (.iload_n 2, 1) := by decide +kernel
theorem dX10_shut_38 : decode mX10_shut.2.1 38 = .ok (.iload_n 3, 1) := by decide +kernel
theorem dX10_shut_39 : decode mX10_shut.2.1 39 = .ok (.invokevirtual 105, 3) := by decide +kernel
theorem dX10_shut_42 : decode mX10_shut.2.1 42 = .ok (.ifCond .eq 7, 3) := by decide +kernel
theorem dX10_shut_45 : decode mX10_shut.2.1 45 = .ok (.iconst 1, 1) := by decide +kernel
theorem dX10_shut_46 : decode mX10_shut.2.1 46 = .ok (.goto 4, 3) := by decide +kernel
theorem dX10_shut_49 : decode mX10_shut.2.1 49 = .ok (.iconst 0, 1) := by decide +kernel
theorem dX10_shut_50 : decode mX10_shut.2.1 50 = .ok (.ireturn, 1) := by decide +kernel
theorem dX10_snow_0 : decode mX10_snow.2.1 0 = .ok (.aload_n 0, 1) := by decide +kernel
theorem dX10_snow_1 : decode mX10_snow.2.1 1 = .ok (.getfield 10, 3) := by decide +kernel
theorem dX10_snow_4 : decode mX10_snow.2.1 4 = .ok (.iload_n 1, 1) := by decide +kernel
theorem dX10_snow_5 : decode mX10_snow.2.1 5 = .ok (.iload_n 2, 1) := by decide +kernel
theorem dX10_snow_6 : decode mX10_snow.2.1 6 = .ok (.iload_n 3, 1) := by decide +kernel
theorem dX10_snow_7 : decode mX10_snow.2.1 7 = .ok (.aload_n 0, 1) := by decide +kernel
theorem dX10_snow_8 : decode mX10_snow.2.1 8 = .ok (.getfield 77, 3) := by decide +kernel
theorem dX10_snow_11 : decode mX10_snow.2.1 11 = .ok (.invokevirtual 95, 3) := by decide +kernel
theorem dX10_snow_14 : decode mX10_snow.2.1 14 = .ok (.ireturn, 1) := by decide +kernel
theorem dX10_string_0 : decode mX10_string.2.1 0 = .ok (.aload_n 0, 1) := by decide +kernel
theorem dX10_string_1 : decode mX10_string.2.1 1 = .ok (.getfield 10, 3) := by decide +kernel
theorem dX10_string_4 : decode mX10_string.2.1 4 = .ok (.iload_n 1, 1) := by decide +kernel
theorem dX10_string_5 : decode mX10_string.2.1 5 = .ok (.invokevirtual 85, 3) := by decide +kernel
theorem dX10_string_8 : decode mX10_string.2.1 8 = .ok (.ifCond .eq 11, 3) := by decide +kernel
theorem dX10_string_11 : decode mX10_string.2.1 11 = .ok (.aload_n 0, 1) := by decide +kernel
theorem dX10_string_12 : decode mX10_string.2.1 12 = .ok (.getfield 64, 3) := by decide +kernel
theorem dX10_string_15 : decode mX10_string.2.1 15 = .ok (.iconst 4, 1) := by decide +kernel
theorem dX10_string_16 : decode mX10_string.2.1 16 = .ok (.if_icmp .lt 5, 3) := by decide +kernel
theorem dX10_string_19 : decode mX10_string.2.1 19 = .ok (.iconst (-1), 1) := by decide +kernel
theorem dX10_string_20 : decode mX10_string.2.1 20 = .ok (.ireturn, 1) := by decide +kernel
theorem dX10_string_21 : decode mX10_string.2.1 21 = .ok (.iload_n 2, 1) := by decide +kernel
theorem dX10_string_22 : decode mX10_string.2.1 22 = .ok (.invokestatic 89, 3) := by decide +kernel
theorem dX10_string_25 : decode mX10_string.2.1 25 = .ok (.ifCond .eq 18, 3) := by decide +kernel
theorem dX10_string_28 : decode mX10_string.2.1 28 = .ok (.iload_n 3, 1) := by decide +kernel
theorem dX10_string_29 : decode mX10_string.2.1 29 = .ok (.invokestatic 89, 3) := by decide +kernel
theorem dX10_string_32 : decode mX10_string.2.1 32 = .ok (.ifCond .eq 11, 3) := by decide +kernel
theorem dX10_string_35 : decode mX10_string.2.1 35 = .ok (.iload 4, 2) := by decide +kernel
theorem dX10_string_37 : decode mX10_string.2.1 37 = .ok (.invokestatic 89, 3) := by decide +kernel
theorem dX10_string_40 : decode mX10_string.2.1 40 = .ok (.ifCond .ne 5, 3) := by decide +kernel
theorem dX10_string_43 : decode mX10_string.2.1 43 = .ok (.iconst (-1), 1) := by decide +kernel
theorem dX10_string_44 : decode mX10_string.2.1 44 = .ok (.ireturn, 1) := by decide +kernel
theorem dX10_string_45 : decode mX10_string.2.1 45 = .ok (.aload_n 0, 1) := by decide +kernel
theorem dX10_string_46 : decode mX10_string.2.1 46 = .ok (.getfield 18, 3) := by decide +kernel
theorem dX10_string_49 : decode mX10_string.2.1 49 = .ok (.aload_n 0, 1) := by decide +kernel
theorem dX10_string_50 : decode mX10_string.2.1 50 = .ok (.getfield 64, 3) := by decide +kernel
theorem dX10_string_53 : decode mX10_string.2.1 53 = .ok (.new 16, 3) := by decide +kernel
theorem dX10_string_56 : decode mX10_string.2.1 56 = .ok (.dup, 1) := by decide +kernel
theorem dX10_string_57 : decode mX10_string.2.1 57 = .ok (.iload_n 1, 1) := by decide +kernel
theorem dX10_string_58 : decode mX10_string.2.1 58 = .ok (.iload_n 2, 1) := by decide +kernel
theorem dX10_string_59 : decode mX10_string.2.1 59 = .ok (.iload_n 3, 1) := by decide +kernel
theorem dX10_string_60 : decode mX10_string.2.1 60 = .ok (.iload 4, 2) := by decide +kernel
theorem dX10_string_62 : decode mX10_string.2.1 62 = .ok (.invokespecial 92, 3) := by decide +kernel
theorem dX10_string_65 : decode mX10_string.2.1 65 = .ok (.aastore, 1) := by decide +kernel
theorem dX10_string_66 : decode mX10_string.2.1 66 = .ok (.aload_n 0, 1) := by decide +kernel
theorem dX10_string_67 : decode mX10_string.2.1 67 = .ok (.dup, 1) := by decide +kernel
theorem dX10_string_68 : decode mX10_string.2.1 68 = .ok (.getfield 64, 3) := by decide +kernel
theorem dX10_string_71 : decode mX10_string.2.1 71 = .ok (.iconst 1, 1) := by decide +kernel
theorem dX10_string_72 : decode mX10_string.2.1 72 = .ok (.iadd, 1) := by decide +kernel
theorem dX10_string_73 : decode mX10_string.2.1 73 = .ok (.putfield 64, 3) := by decide +kernel
theorem dX10_string_76 : decode mX10_string.2.1 76 = .ok (.aload_n 0, 1) := by decide +kernel
theorem dX10_string_77 : decode mX10_string.2.1 77 = .ok (.getfield 64, 3) := by decide +kernel
theorem dX10_string_80 : decode mX10_string.2.1 80 = .ok (.iconst 1, 1) := by decide +kernel
theorem dX10_string_81 : decode mX10_string.2.1 81 = .ok (.isub, 1) := by decide +kernel
theorem dX10_string_82 : decode mX10_string.2.1 82 = .ok (.ireturn, 1) := by decide +kernel
theorem dX10_stringOf_0 : decode mX10_stringOf.2.1 0 = .ok (.aload_n 0, 1) := by decide +kernel
theorem dX10_stringOf_1 : decode mX10_stringOf.2.1 1 = .ok (.iload_n 1, 1) := by decide +kernel
theorem dX10_stringOf_2 : decode mX10_stringOf.2.1 2 = .ok (.invokevirtual 116, 3) := by decide +kernel
theorem dX10_stringOf_5 : decode mX10_stringOf.2.1 5 = .ok (.astore_n 3, 1) := by decide +kernel
theorem dX10_stringOf_6 : decode mX10_stringOf.2.1 6 = .ok (.aload_n 3, 1) := by decide +kernel
theorem dX10_stringOf_7 : decode mX10_stringOf.2.1 7 = .ok (.ifnonnull 5, 3) := by decide +kernel
theorem dX10_stringOf_10 : decode mX10_stringOf.2.1 10 = .ok (.iconst (-1), 1) := by decide +kernel
theorem dX10_stringOf_11 : decode mX10_stringOf.2.1 11 = .ok (.ireturn, 1) := by decide +kernel
theorem dX10_stringOf_12 : decode mX10_stringOf.2.1 12 = .ok (.iload_n 2, 1) := by decide +kernel
theorem dX10_stringOf_13 : decode mX10_stringOf.2.1 13 = .ok (.tableswitch 80 0 4 #[35, 40, 45, 70, 75], 35) := by decide +kernel
theorem dX10_stringOf_48 : decode mX10_stringOf.2.1 48 = .ok (.aload_n 3, 1) := by decide +kernel
theorem dX10_stringOf_49 : decode mX10_stringOf.2.1 49 = .ok (.getfield 131, 3) := by decide +kernel
theorem dX10_stringOf_52 : decode mX10_stringOf.2.1 52 = .ok (.ireturn, 1) := by decide +kernel
theorem dX10_stringOf_53 : decode mX10_stringOf.2.1 53 = .ok (.aload_n 3, 1) := by decide +kernel
theorem dX10_stringOf_54 : decode mX10_stringOf.2.1 54 = .ok (.getfield 238, 3) := by decide +kernel
theorem dX10_stringOf_57 : decode mX10_stringOf.2.1 57 = .ok (.ireturn, 1) := by decide +kernel
theorem dX10_stringOf_58 : decode mX10_stringOf.2.1 58 = .ok (.aload_n 3, 1) := by decide +kernel
theorem dX10_stringOf_59 : decode mX10_stringOf.2.1 59 = .ok (.getfield 238, 3) := by decide +kernel
theorem dX10_stringOf_62 : decode mX10_stringOf.2.1 62 = .ok (.iconst (-1), 1) := by decide +kernel
theorem dX10_stringOf_63 : decode mX10_stringOf.2.1 63 = .ok (.if_icmp .ne 7, 3) := by decide +kernel
theorem dX10_stringOf_66 : decode mX10_stringOf.2.1 66 = .ok (.iconst (-1), 1) := by decide +kernel
theorem dX10_stringOf_67 : decode mX10_stringOf.2.1 67 = .ok (.goto 15, 3) := by decide +kernel
theorem dX10_stringOf_70 : decode mX10_stringOf.2.1 70 = .ok (.aload_n 3, 1) := by decide +kernel
theorem dX10_stringOf_71 : decode mX10_stringOf.2.1 71 = .ok (.getfield 241, 3) := by decide +kernel
theorem dX10_stringOf_74 : decode mX10_stringOf.2.1 74 = .ok (.ifCond .eq 7, 3) := by decide +kernel
theorem dX10_stringOf_77 : decode mX10_stringOf.2.1 77 = .ok (.iconst 1, 1) := by decide +kernel
theorem dX10_stringOf_78 : decode mX10_stringOf.2.1 78 = .ok (.goto 4, 3) := by decide +kernel
theorem dX10_stringOf_81 : decode mX10_stringOf.2.1 81 = .ok (.iconst 0, 1) := by decide +kernel
theorem dX10_stringOf_82 : decode mX10_stringOf.2.1 82 = .ok (.ireturn, 1) := by decide +kernel
theorem dX10_stringOf_83 : decode mX10_stringOf.2.1 83 = .ok (.aload_n 3, 1) := by decide +kernel
theorem dX10_stringOf_84 : decode mX10_stringOf.2.1 84 = .ok (.getfield 209, 3) := by decide +kernel
theorem dX10_stringOf_87 : decode mX10_stringOf.2.1 87 = .ok (.ireturn, 1) := by decide +kernel
theorem dX10_stringOf_88 : decode mX10_stringOf.2.1 88 = .ok (.aload_n 3, 1) := by decide +kernel
theorem dX10_stringOf_89 : decode mX10_stringOf.2.1 89 = .ok (.getfield 162, 3) := by decide +kernel
theorem dX10_stringOf_92 : decode mX10_stringOf.2.1 92 = .ok (.ireturn, 1) := by decide +kernel
theorem dX10_stringOf_93 : decode mX10_stringOf.2.1 93 = .ok (.iconst (-1), 1) := by decide +kernel
theorem dX10_stringOf_94 : decode mX10_stringOf.2.1 94 = .ok (.ireturn, 1) := by decide +kernel
theorem dX10_trainAt_0 : decode mX10_trainAt.2.1 0 = .ok (.iload_n 1, 1) := by decide +kernel
theorem dX10_trainAt_1 : decode mX10_trainAt.2.1 1 = .ok (.ifCond .lt 16, 3) := by decide +kernel
theorem dX10_trainAt_4 : decode mX10_trainAt.2.1 4 = .ok (.iload_n 1, 1) := by decide +kernel
theorem dX10_trainAt_5 : decode mX10_trainAt.2.1 5 = .ok (.aload_n 0, 1) := by decide +kernel
theorem dX10_trainAt_6 : decode mX10_trainAt.2.1 6 = .ok (.getfield 64, 3) := by decide +kernel
theorem dX10_trainAt_9 : decode mX10_trainAt.2.1 9 = .ok (.if_icmp .ge 8, 3) := by decide +kernel
theorem dX10_trainAt_12 : decode mX10_trainAt.2.1 12 = .ok (.iload_n 1, 1) := by decide +kernel
theorem dX10_trainAt_13 : decode mX10_trainAt.2.1 13 = .ok (.iconst 4, 1) := by decide +kernel
theorem dX10_trainAt_14 : decode mX10_trainAt.2.1 14 = .ok (.if_icmp .lt 7, 3) := by decide +kernel
theorem dX10_trainAt_17 : decode mX10_trainAt.2.1 17 = .ok (.aconst_null, 1) := by decide +kernel
theorem dX10_trainAt_18 : decode mX10_trainAt.2.1 18 = .ok (.goto 9, 3) := by decide +kernel
theorem dX10_trainAt_21 : decode mX10_trainAt.2.1 21 = .ok (.aload_n 0, 1) := by decide +kernel
theorem dX10_trainAt_22 : decode mX10_trainAt.2.1 22 = .ok (.getfield 18, 3) := by decide +kernel
theorem dX10_trainAt_25 : decode mX10_trainAt.2.1 25 = .ok (.iload_n 1, 1) := by decide +kernel
theorem dX10_trainAt_26 : decode mX10_trainAt.2.1 26 = .ok (.aaload, 1) := by decide +kernel
theorem dX10_trainAt_27 : decode mX10_trainAt.2.1 27 = .ok (.areturn, 1) := by decide +kernel
theorem dX10_was_0 : decode mX10_was.2.1 0 = .ok (.aload_n 0, 1) := by decide +kernel
theorem dX10_was_1 : decode mX10_was.2.1 1 = .ok (.iload_n 1, 1) := by decide +kernel
theorem dX10_was_2 : decode mX10_was.2.1 2 = .ok (.invokevirtual 120, 3) := by decide +kernel
theorem dX10_was_5 : decode mX10_was.2.1 5 = .ok (.ifnull 15, 3) := by decide +kernel
theorem dX10_was_8 : decode mX10_was.2.1 8 = .ok (.iload_n 2, 1) := by decide +kernel
theorem dX10_was_9 : decode mX10_was.2.1 9 = .ok (.ifCond .lt 11, 3) := by decide +kernel
theorem dX10_was_12 : decode mX10_was.2.1 12 = .ok (.iload_n 2, 1) := by decide +kernel
theorem dX10_was_13 : decode mX10_was.2.1 13 = .ok (.aload_n 0, 1) := by decide +kernel
theorem dX10_was_14 : decode mX10_was.2.1 14 = .ok (.getfield 77, 3) := by decide +kernel
theorem dX10_was_17 : decode mX10_was.2.1 17 = .ok (.if_icmp .le 5, 3) := by decide +kernel
theorem dX10_was_20 : decode mX10_was.2.1 20 = .ok (.iconst (-1), 1) := by decide +kernel
theorem dX10_was_21 : decode mX10_was.2.1 21 = .ok (.ireturn, 1) := by decide +kernel
theorem dX10_was_22 : decode mX10_was.2.1 22 = .ok (.aload_n 0, 1) := by decide +kernel
theorem dX10_was_23 : decode mX10_was.2.1 23 = .ok (.getfield 37, 3) := by decide +kernel
theorem dX10_was_26 : decode mX10_was.2.1 26 = .ok (.iload_n 1, 1) := by decide +kernel
theorem dX10_was_27 : decode mX10_was.2.1 27 = .ok (.iload_n 2, 1) := by decide +kernel
theorem dX10_was_28 : decode mX10_was.2.1 28 = .ok (.invokevirtual 275, 3) := by decide +kernel
theorem dX10_was_31 : decode mX10_was.2.1 31 = .ok (.ireturn, 1) := by decide +kernel
theorem dX11_allBrought_0 : decode mX11_allBrought.2.1 0 = .ok (.iconst 0, 1) := by decide +kernel
theorem dX11_allBrought_1 : decode mX11_allBrought.2.1 1 = .ok (.istore_n 1, 1) := by decide +kernel
theorem dX11_allBrought_2 : decode mX11_allBrought.2.1 2 = .ok (.iconst 0, 1) := by decide +kernel
theorem dX11_allBrought_3 : decode mX11_allBrought.2.1 3 = .ok (.istore_n 2, 1) := by decide +kernel
theorem dX11_allBrought_4 : decode mX11_allBrought.2.1 4 = .ok (.iload_n 2, 1) := by decide +kernel
theorem dX11_allBrought_5 : decode mX11_allBrought.2.1 5 = .ok (.aload_n 0, 1) := by decide +kernel
theorem dX11_allBrought_6 : decode mX11_allBrought.2.1 6 = .ok (.getfield 165, 3) := by decide +kernel
theorem dX11_allBrought_9 : decode mX11_allBrought.2.1 9 = .ok (.if_icmp .ge 27, 3) := by decide +kernel
theorem dX11_allBrought_12 : decode mX11_allBrought.2.1 12 = .ok (.aload_n 0, 1) := by decide +kernel
theorem dX11_allBrought_13 : decode mX11_allBrought.2.1 13 = .ok (.getfield 69, 3) := by decide +kernel
theorem dX11_allBrought_16 : decode mX11_allBrought.2.1 16 = .ok (.iload_n 2, 1) := by decide +kernel
theorem dX11_allBrought_17 : decode mX11_allBrought.2.1 17 = .ok (.iaload, 1) := by decide +kernel
theorem dX11_allBrought_18 : decode mX11_allBrought.2.1 18 = .ok (.iconst 2, 1) := by decide +kernel
theorem dX11_allBrought_19 : decode mX11_allBrought.2.1 19 = .ok (.if_icmp .ne 11, 3) := by decide +kernel
theorem dX11_allBrought_22 : decode mX11_allBrought.2.1 22 = .ok (.iload_n 1, 1) := by decide +kernel
theorem dX11_allBrought_23 : decode mX11_allBrought.2.1 23 = .ok (.aload_n 0, 1) := by decide +kernel
theorem dX11_allBrought_24 : decode mX11_allBrought.2.1 24 = .ok (.iload_n 2, 1) := by decide +kernel
theorem dX11_allBrought_25 : decode mX11_allBrought.2.1 25 = .ok (.invokevirtual 324, 3) := by decide +kernel
theorem dX11_allBrought_28 : decode mX11_allBrought.2.1 28 = .ok (.iadd, 1) := by decide +kernel
theorem dX11_allBrought_29 : decode mX11_allBrought.2.1 29 = .ok (.istore_n 1, 1) := by decide +kernel
theorem dX11_allBrought_30 : decode mX11_allBrought.2.1 30 = .ok (.iinc 2 1, 3) := by decide +kernel
theorem dX11_allBrought_33 : decode mX11_allBrought.2.1 33 = .ok (.goto (-29), 3) := by decide +kernel
theorem dX11_allBrought_36 : decode mX11_allBrought.2.1 36 = .ok (.iload_n 1, 1) := by decide +kernel
theorem dX11_allBrought_37 : decode mX11_allBrought.2.1 37 = .ok (.ireturn, 1) := by decide +kernel
theorem dX11_bargain_0 : decode mX11_bargain.2.1 0 = .ok (.aload_n 0, 1) := by decide +kernel
theorem dX11_bargain_1 : decode mX11_bargain.2.1 1 = .ok (.iconst 0, 1) := by decide +kernel
theorem dX11_bargain_2 : decode mX11_bargain.2.1 2 = .ok (.putfield 1, 3) := by decide +kernel
theorem dX11_bargain_5 : decode mX11_bargain.2.1 5 = .ok (.aload_n 0, 1) := by decide +kernel
theorem dX11_bargain_6 : decode mX11_bargain.2.1 6 = .ok (.getfield 313, 3) := by decide +kernel
theorem dX11_bargain_9 : decode mX11_bargain.2.1 9 = .ok (.bipush 10, 2) := by decide +kernel
theorem dX11_bargain_11 : decode mX11_bargain.2.1 11 = .ok (.if_icmp .ne 5, 3) := by decide +kernel
theorem dX11_bargain_14 : decode mX11_bargain.2.1 14 = .ok (.iconst (-1), 1) := by decide +kernel
theorem dX11_bargain_15 : decode mX11_bargain.2.1 15 = .ok (.ireturn, 1) := by decide +kernel
theorem dX11_bargain_16 : decode mX11_bargain.2.1 16 = .ok (.aload_n 0, 1) := by decide +kernel
theorem dX11_bargain_17 : decode mX11_bargain.2.1 17 = .ok (.iconst 0, 1) := by decide +kernel
theorem dX11_bargain_18 : decode mX11_bargain.2.1 18 = .ok (.putfield 264, 3) := by decide +kernel
theorem dX11_bargain_21 : decode mX11_bargain.2.1 21 = .ok (.aload_n 0, 1) := by decide +kernel
theorem dX11_bargain_22 : decode mX11_bargain.2.1 22 = .ok (.iconst 0, 1) := by decide +kernel
theorem dX11_bargain_23 : decode mX11_bargain.2.1 23 = .ok (.putfield 233, 3) := by decide +kernel
theorem dX11_bargain_26 : decode mX11_bargain.2.1 26 = .ok (.aload_n 0, 1) := by decide +kernel
theorem dX11_bargain_27 : decode mX11_bargain.2.1 27 = .ok (.getfield 118, 3) := by decide +kernel
theorem dX11_bargain_30 : decode mX11_bargain.2.1 30 = .ok (.bipush 10, 2) := by decide +kernel
theorem dX11_bargain_32 : decode mX11_bargain.2.1 32 = .ok (.iconst 0, 1) := by decide +kernel
theorem dX11_bargain_33 : decode mX11_bargain.2.1 33 = .ok (.iastore, 1) := by decide +kernel
theorem dX11_bargain_34 : decode mX11_bargain.2.1 34 = .ok (.aload_n 0, 1) := by decide +kernel
theorem dX11_bargain_35 : decode mX11_bargain.2.1 35 = .ok (.invokevirtual 292, 3) := by decide +kernel
theorem dX11_bargain_38 : decode mX11_bargain.2.1 38 = .ok (.aload_n 0, 1) := by decide +kernel
theorem dX11_bargain_39 : decode mX11_bargain.2.1 39 = .ok (.invokevirtual 301, 3) := by decide +kernel
theorem dX11_bargain_42 : decode mX11_bargain.2.1 42 = .ok (.ifCond .eq 17, 3) := by decide +kernel
theorem dX11_bargain_45 : decode mX11_bargain.2.1 45 = .ok (.aload_n 0, 1) := by decide +kernel
theorem dX11_bargain_46 : decode mX11_bargain.2.1 46 = .ok (.getfield 239, 3) := by decide +kernel
theorem dX11_bargain_49 : decode mX11_bargain.2.1 49 = .ok (.ifCond .eq 10, 3) := by decide +kernel
theorem dX11_bargain_52 : decode mX11_bargain.2.1 52 = .ok (.aload_n 0, 1) := by decide +kernel
theorem dX11_bargain_53 : decode mX11_bargain.2.1 53 = .ok (.invokevirtual 316, 3) := by decide +kernel
theorem dX11_bargain_56 : decode mX11_bargain.2.1 56 = .ok (.goto (-18), 3) := by decide +kernel
theorem dX11_bargain_59 : decode mX11_bargain.2.1 59 = .ok (.aload_n 0, 1) := by decide +kernel
theorem dX11_bargain_60 : decode mX11_bargain.2.1 60 = .ok (.iconst 0, 1) := by decide +kernel
theorem dX11_bargain_61 : decode mX11_bargain.2.1 61 = .ok (.putfield 230, 3) := by decide +kernel
theorem dX11_bargain_64 : decode mX11_bargain.2.1 64 = .ok (.aload_n 0, 1) := by decide +kernel
theorem dX11_bargain_65 : decode mX11_bargain.2.1 65 = .ok (.aload_n 0, 1) := by decide +kernel
theorem dX11_bargain_66 : decode mX11_bargain.2.1 66 = .ok (.invokevirtual 301, 3) := by decide +kernel
theorem dX11_bargain_69 : decode mX11_bargain.2.1 69 = .ok (.ifCond .eq 7, 3) := by decide +kernel
theorem dX11_bargain_72 : decode mX11_bargain.2.1 72 = .ok (.iconst (-1), 1) := by decide +kernel
theorem dX11_bargain_73 : decode mX11_bargain.2.1 73 = .ok (.goto 7, 3) := by decide +kernel
theorem dX11_bargain_76 : decode mX11_bargain.2.1 76 = .ok (.aload_n 0, 1) := by decide +kernel
theorem dX11_bargain_77 : decode mX11_bargain.2.1 77 = .ok (.getfield 267, 3) := by decide +kernel
theorem dX11_bargain_80 : decode mX11_bargain.2.1 80 = .ok (.putfield 112, 3) := by decide +kernel
theorem dX11_bargain_83 : decode mX11_bargain.2.1 83 = .ok (.aload_n 0, 1) := by decide +kernel
theorem dX11_bargain_84 : decode mX11_bargain.2.1 84 = .ok (.invokevirtual 301, 3) := by decide +kernel
theorem dX11_bargain_87 : decode mX11_bargain.2.1 87 = .ok (.ifCond .ne 11, 3) := by decide +kernel
theorem dX11_bargain_90 : decode mX11_bargain.2.1 90 = .ok (.bipush (-2), 2) := by decide +kernel
theorem dX11_bargain_92 : decode mX11_bargain.2.1 92 = .ok (.aload_n 0, 1) := by decide +kernel
theorem dX11_bargain_93 : decode mX11_bargain.2.1 93 = .ok (.getfield 264, 3) := by decide +kernel
theorem dX11_bargain_96 : decode mX11_bargain.2.1 96 = .ok (.isub, 1) := by decide +kernel
theorem dX11_bargain_97 : decode mX11_bargain.2.1 97 = .ok (.ireturn, 1) := by decide +kernel
theorem dX11_bargain_98 : decode mX11_bargain.2.1 98 = .ok (.aload_n 0, 1) := by decide +kernel
theorem dX11_bargain_99 : decode mX11_bargain.2.1 99 = .ok (.getfield 313, 3) := by decide +kernel
theorem dX11_bargain_102 : decode mX11_bargain.2.1 102 = .ok (.istore_n 1, 1) := by decide +kernel
theorem dX11_bargain_103 : decode mX11_bargain.2.1 103 = .ok (.aload_n 0, 1) := by decide +kernel
theorem dX11_bargain_104 : decode mX11_bargain.2.1 104 = .ok (.dup, 1) := by decide +kernel
theorem dX11_bargain_105 : decode mX11_bargain.2.1 105 = .ok (.getfield 313, 3) := by decide +kernel
theorem dX11_bargain_108 : decode mX11_bargain.2.1 108 = .ok (.iconst 1, 1) := by decide +kernel
theorem dX11_bargain_109 : decode mX11_bargain.2.1 109 = .ok (.iadd, 1) := by decide +kernel
theorem dX11_bargain_110 : decode mX11_bargain.2.1 110 = .ok (.putfield 313, 3) := by decide +kernel
theorem dX11_bargain_113 : decode mX11_bargain.2.1 113 = .ok (.aload_n 0, 1) := by decide +kernel
theorem dX11_bargain_114 : decode mX11_bargain.2.1 114 = .ok (.getfield 115, 3) := by decide +kernel
theorem dX11_bargain_117 : decode mX11_bargain.2.1 117 = .ok (.iload_n 1, 1) := by decide +kernel
theorem dX11_bargain_118 : decode mX11_bargain.2.1 118 = .ok (.aload_n 0, 1) := by decide +kernel
theorem dX11_bargain_119 : decode mX11_bargain.2.1 119 = .ok (.getfield 150, 3) := by decide +kernel
theorem dX11_bargain_122 : decode mX11_bargain.2.1 122 = .ok (.iastore, 1) := by decide +kernel
theorem dX11_bargain_123 : decode mX11_bargain.2.1 123 = .ok (.aload_n 0, 1) := by decide +kernel
theorem dX11_bargain_124 : decode mX11_bargain.2.1 124 = .ok (.getfield 118, 3) := by decide +kernel
theorem dX11_bargain_127 : decode mX11_bargain.2.1 127 = .ok (.iload_n 1, 1) := by decide +kernel
theorem dX11_bargain_128 : decode mX11_bargain.2.1 128 = .ok (.aload_n 0, 1) := by decide +kernel
theorem dX11_bargain_129 : decode mX11_bargain.2.1 129 = .ok (.getfield 118, 3) := by decide +kernel
theorem dX11_bargain_132 : decode mX11_bargain.2.1 132 = .ok (.bipush 10, 2) := by decide +kernel
theorem dX11_bargain_134 : decode mX11_bargain.2.1 134 = .ok (.iaload, 1) := by decide +kernel
theorem dX11_bargain_135 : decode mX11_bargain.2.1 135 = .ok (.iastore, 1) := by decide +kernel
theorem dX11_bargain_136 : decode mX11_bargain.2.1 136 = .ok (.iconst 0, 1) := by decide +kernel
theorem dX11_bargain_137 : decode mX11_bargain.2.1 137 = .ok (.istore_n 2, 1) := by decide +kernel
theorem dX11_bargain_138 : decode mX11_bargain.2.1 138 = .ok (.iload_n 2, 1) := by decide +kernel
theorem dX11_bargain_139 : decode mX11_bargain.2.1 139 = .ok (.aload_n 0, 1) := by decide +kernel
theorem dX11_bargain_140 : decode mX11_bargain.2.1 140 = .ok (.getfield 118, 3) := by decide +kernel
theorem dX11_bargain_143 : decode mX11_bargain.2.1 143 = .ok (.iload_n 1, 1) := by decide +kernel
theorem dX11_bargain_144 : decode mX11_bargain.2.1 144 = .ok (.iaload, 1) := by decide +kernel
theorem dX11_bargain_145 : decode mX11_bargain.2.1 145 = .ok (.if_icmp .ge 51, 3) := by decide +kernel
theorem dX11_bargain_148 : decode mX11_bargain.2.1 148 = .ok (.aload_n 0, 1) := by decide +kernel
theorem dX11_bargain_149 : decode mX11_bargain.2.1 149 = .ok (.getfield 121, 3) := by decide +kernel
theorem dX11_bargain_152 : decode mX11_bargain.2.1 152 = .ok (.bipush 20, 2) := by decide +kernel
theorem dX11_bargain_154 : decode mX11_bargain.2.1 154 = .ok (.iload_n 1, 1) := by decide +kernel
theorem dX11_bargain_155 : decode mX11_bargain.2.1 155 = .ok (.imul, 1) := by decide +kernel
theorem dX11_bargain_156 : decode mX11_bargain.2.1 156 = .ok (.iload_n 2, 1) := by decide +kernel
theorem dX11_bargain_157 : decode mX11_bargain.2.1 157 = .ok (.iadd, 1) := by decide +kernel
theorem dX11_bargain_158 : decode mX11_bargain.2.1 158 = .ok (.aload_n 0, 1) := by decide +kernel
theorem dX11_bargain_159 : decode mX11_bargain.2.1 159 = .ok (.getfield 121, 3) := by decide +kernel
theorem dX11_bargain_162 : decode mX11_bargain.2.1 162 = .ok (.sipush 200, 3) := by decide +kernel
theorem dX11_bargain_165 : decode mX11_bargain.2.1 165 = .ok (.iload_n 2, 1) := by decide +kernel
theorem dX11_bargain_166 : decode mX11_bargain.2.1 166 = .ok (.iadd, 1) := by decide +kernel
theorem dX11_bargain_167 : decode mX11_bargain.2.1 167 = .ok (.iaload, 1) := by decide +kernel
theorem dX11_bargain_168 : decode mX11_bargain.2.1 168 = .ok (.iastore, 1) := by decide +kernel
theorem dX11_bargain_169 : decode mX11_bargain.2.1 169 = .ok (.aload_n 0, 1) := by decide +kernel
theorem dX11_bargain_170 : decode mX11_bargain.2.1 170 = .ok (.getfield 124, 3) := by decide +kernel
theorem dX11_bargain_173 : decode mX11_bargain.2.1 173 = .ok (.bipush 20, 2) := by decide +kernel
theorem dX11_bargain_175 : decode mX11_bargain.2.1 175 = .ok (.iload_n 1, 1) := by decide +kernel
theorem dX11_bargain_176 : decode mX11_bargain.2.1 176 = .ok (.imul, 1) := by decide +kernel
theorem dX11_bargain_177 : decode mX11_bargain.2.1 177 = .ok (.iload_n 2, 1) := by decide +kernel
theorem dX11_bargain_178 : decode mX11_bargain.2.1 178 = .ok (.iadd, 1) := by decide +kernel
theorem dX11_bargain_179 : decode mX11_bargain.2.1 179 = .ok (.aload_n 0, 1) := by decide +kernel
theorem dX11_bargain_180 : decode mX11_bargain.2.1 180 = .ok (.getfield 124, 3) := by decide +kernel
theorem dX11_bargain_183 : decode mX11_bargain.2.1 183 = .ok (.sipush 200, 3) := by decide +kernel
theorem dX11_bargain_186 : decode mX11_bargain.2.1 186 = .ok (.iload_n 2, 1) := by decide +kernel
theorem dX11_bargain_187 : decode mX11_bargain.2.1 187 = .ok (.iadd, 1) := by decide +kernel
theorem dX11_bargain_188 : decode mX11_bargain.2.1 188 = .ok (.iaload, 1) := by decide +kernel
theorem dX11_bargain_189 : decode mX11_bargain.2.1 189 = .ok (.iastore, 1) := by decide +kernel
theorem dX11_bargain_190 : decode mX11_bargain.2.1 190 = .ok (.iinc 2 1, 3) := by decide +kernel
theorem dX11_bargain_193 : decode mX11_bargain.2.1 193 = .ok (.goto (-55), 3) := by decide +kernel
theorem dX11_bargain_196 : decode mX11_bargain.2.1 196 = .ok (.iconst 0, 1) := by decide +kernel
theorem dX11_bargain_197 : decode mX11_bargain.2.1 197 = .ok (.istore_n 2, 1) := by decide +kernel
theorem dX11_bargain_198 : decode mX11_bargain.2.1 198 = .ok (.iload_n 2, 1) := by decide +kernel
theorem dX11_bargain_199 : decode mX11_bargain.2.1 199 = .ok (.bipush 80, 2) := by decide +kernel
theorem dX11_bargain_201 : decode mX11_bargain.2.1 201 = .ok (.if_icmp .ge 72, 3) := by decide +kernel
theorem dX11_bargain_204 : decode mX11_bargain.2.1 204 = .ok (.aload_n 0, 1) := by decide +kernel
theorem dX11_bargain_205 : decode mX11_bargain.2.1 205 = .ok (.getfield 127, 3) := by decide +kernel
theorem dX11_bargain_208 : decode mX11_bargain.2.1 208 = .ok (.bipush 80, 2) := by decide +kernel
theorem dX11_bargain_210 : decode mX11_bargain.2.1 210 = .ok (.iload_n 1, 1) := by decide +kernel
theorem dX11_bargain_211 : decode mX11_bargain.2.1 211 = .ok (.imul, 1) := by decide +kernel
theorem dX11_bargain_212 : decode mX11_bargain.2.1 212 = .ok (.iload_n 2, 1) := by decide +kernel
theorem dX11_bargain_213 : decode mX11_bargain.2.1 213 = .ok (.iadd, 1) := by decide +kernel
theorem dX11_bargain_214 : decode mX11_bargain.2.1 214 = .ok (.aload_n 0, 1) := by decide +kernel
theorem dX11_bargain_215 : decode mX11_bargain.2.1 215 = .ok (.getfield 127, 3) := by decide +kernel
theorem dX11_bargain_218 : decode mX11_bargain.2.1 218 = .ok (.sipush 800, 3) := by decide +kernel
theorem dX11_bargain_221 : decode mX11_bargain.2.1 221 = .ok (.iload_n 2, 1) := by decide +kernel
theorem dX11_bargain_222 : decode mX11_bargain.2.1 222 = .ok (.iadd, 1) := by decide +kernel
theorem dX11_bargain_223 : decode mX11_bargain.2.1 223 = .ok (.iaload, 1) := by decide +kernel
theorem dX11_bargain_224 : decode mX11_bargain.2.1 224 = .ok (.iastore, 1) := by decide +kernel
theorem dX11_bargain_225 : decode mX11_bargain.2.1 225 = .ok (.aload_n 0, 1) := by decide +kernel
theorem dX11_bargain_226 : decode mX11_bargain.2.1 226 = .ok (.getfield 130, 3) := by decide +kernel
theorem dX11_bargain_229 : decode mX11_bargain.2.1 229 = .ok (.bipush 80, 2) := by decide +kernel
theorem dX11_bargain_231 : decode mX11_bargain.2.1 231 = .ok (.iload_n 1, 1) := by decide +kernel
theorem dX11_bargain_232 : decode mX11_bargain.2.1 232 = .ok (.imul, 1) := by decide +kernel
theorem dX11_bargain_233 : decode mX11_bargain.2.1 233 = .ok (.iload_n 2, 1) := by decide +kernel
theorem dX11_bargain_234 : decode mX11_bargain.2.1 234 = .ok (.iadd, 1) := by decide +kernel
theorem dX11_bargain_235 : decode mX11_bargain.2.1 235 = .ok (.aload_n 0, 1) := by decide +kernel
theorem dX11_bargain_236 : decode mX11_bargain.2.1 236 = .ok (.getfield 130, 3) := by decide +kernel
theorem dX11_bargain_239 : decode mX11_bargain.2.1 239 = .ok (.sipush 800, 3) := by decide +kernel
theorem dX11_bargain_242 : decode mX11_bargain.2.1 242 = .ok (.iload_n 2, 1) := by decide +kernel
theorem dX11_bargain_243 : decode mX11_bargain.2.1 243 = .ok (.iadd, 1) := by decide +kernel
theorem dX11_bargain_244 : decode mX11_bargain.2.1 244 = .ok (.iaload, 1) := by decide +kernel
theorem dX11_bargain_245 : decode mX11_bargain.2.1 245 = .ok (.iastore, 1) := by decide +kernel
theorem dX11_bargain_246 : decode mX11_bargain.2.1 246 = .ok (.aload_n 0, 1) := by decide +kernel
theorem dX11_bargain_247 : decode mX11_bargain.2.1 247 = .ok (.getfield 133, 3) := by decide +kernel
theorem dX11_bargain_250 : decode mX11_bargain.2.1 250 = .ok (.bipush 80, 2) := by decide +kernel
theorem dX11_bargain_252 : decode mX11_bargain.2.1 252 = .ok (.iload_n 1, 1) := by decide +kernel
theorem dX11_bargain_253 : decode mX11_bargain.2.1 253 = .ok (.imul, 1) := by decide +kernel
theorem dX11_bargain_254 : decode mX11_bargain.2.1 254 = .ok (.iload_n 2, 1) := by decide +kernel
theorem dX11_bargain_255 : decode mX11_bargain.2.1 255 = .ok (.iadd, 1) := by decide +kernel
theorem dX11_bargain_256 : decode mX11_bargain.2.1 256 = .ok (.aload_n 0, 1) := by decide +kernel
theorem dX11_bargain_257 : decode mX11_bargain.2.1 257 = .ok (.getfield 133, 3) := by decide +kernel
theorem dX11_bargain_260 : decode mX11_bargain.2.1 260 = .ok (.sipush 800, 3) := by decide +kernel
theorem dX11_bargain_263 : decode mX11_bargain.2.1 263 = .ok (.iload_n 2, 1) := by decide +kernel
theorem dX11_bargain_264 : decode mX11_bargain.2.1 264 = .ok (.iadd, 1) := by decide +kernel
theorem dX11_bargain_265 : decode mX11_bargain.2.1 265 = .ok (.iaload, 1) := by decide +kernel
theorem dX11_bargain_266 : decode mX11_bargain.2.1 266 = .ok (.iastore, 1) := by decide +kernel
theorem dX11_bargain_267 : decode mX11_bargain.2.1 267 = .ok (.iinc 2 1, 3) := by decide +kernel
theorem dX11_bargain_270 : decode mX11_bargain.2.1 270 = .ok (.goto (-72), 3) := by decide +kernel
theorem dX11_bargain_273 : decode mX11_bargain.2.1 273 = .ok (.iload_n 1, 1) := by decide +kernel
theorem dX11_bargain_274 : decode mX11_bargain.2.1 274 = .ok (.ireturn, 1) := by decide +kernel
theorem dX11_bargainOf_0 : decode mX11_bargainOf.2.1 0 = .ok (.iconst (-1), 1) := by decide +kernel
theorem dX11_bargainOf_1 : decode mX11_bargainOf.2.1 1 = .ok (.istore_n 2, 1) := by decide +kernel
theorem dX11_bargainOf_2 : decode mX11_bargainOf.2.1 2 = .ok (.iconst 0, 1) := by decide +kernel
theorem dX11_bargainOf_3 : decode mX11_bargainOf.2.1 3 = .ok (.istore_n 3, 1) := by decide +kernel
theorem dX11_bargainOf_4 : decode mX11_bargainOf.2.1 4 = .ok (.iload_n 3, 1) := by decide +kernel
theorem dX11_bargainOf_5 : decode mX11_bargainOf.2.1 5 = .ok (.aload_n 0, 1) := by decide +kernel
theorem dX11_bargainOf_6 : decode mX11_bargainOf.2.1 6 = .ok (.getfield 313, 3) := by decide +kernel
theorem dX11_bargainOf_9 : decode mX11_bargainOf.2.1 9 = .ok (.if_icmp .ge 26, 3) := by decide +kernel
theorem dX11_bargainOf_12 : decode mX11_bargainOf.2.1 12 = .ok (.aload_n 0, 1) := by decide +kernel
theorem dX11_bargainOf_13 : decode mX11_bargainOf.2.1 13 = .ok (.getfield 115, 3) := by decide +kernel
theorem dX11_bargainOf_16 : decode mX11_bargainOf.2.1 16 = .ok (.iload_n 3, 1) := by decide +kernel
theorem dX11_bargainOf_17 : decode mX11_bargainOf.2.1 17 = .ok (.iaload, 1) := by decide +kernel
theorem dX11_bargainOf_18 : decode mX11_bargainOf.2.1 18 = .ok (.aload_n 0, 1) := by decide +kernel
theorem dX11_bargainOf_19 : decode mX11_bargainOf.2.1 19 = .ok (.getfield 81, 3) := by decide +kernel
theorem dX11_bargainOf_22 : decode mX11_bargainOf.2.1 22 = .ok (.iload_n 1, 1) := by decide +kernel
theorem dX11_bargainOf_23 : decode mX11_bargainOf.2.1 23 = .ok (.iaload, 1) := by decide +kernel
theorem dX11_bargainOf_24 : decode mX11_bargainOf.2.1 24 = .ok (.if_icmp .gt 5, 3) := by decide +kernel
theorem dX11_bargainOf_27 : decode mX11_bargainOf.2.1 27 = .ok (.iload_n 3, 1) := by decide +kernel
theorem dX11_bargainOf_28 : decode mX11_bargainOf.2.1 28 = .ok (.istore_n 2, 1) := by decide +kernel
theorem dX11_bargainOf_29 : decode mX11_bargainOf.2.1 29 = .ok (.iinc 3 1, 3) := by decide +kernel
theorem dX11_bargainOf_32 : decode mX11_bargainOf.2.1 32 = .ok (.goto (-28), 3) := by decide +kernel
theorem dX11_bargainOf_35 : decode mX11_bargainOf.2.1 35 = .ok (.iload_n 2, 1) := by decide +kernel
theorem dX11_bargainOf_36 : decode mX11_bargainOf.2.1 36 = .ok (.ireturn, 1) := by decide +kernel
theorem dX11_best_0 : decode mX11_best.2.1 0 = .ok (.aload_n 0, 1) := by decide +kernel
end
section
theorem dX11_best_1 : decode mX11_best.2.1 1 = .ok (.iconst 0, 1) := by decide +kernel
theorem dX11_best_2 : decode mX11_best.2.1 2 = .ok (.putfield 1, 3) := by decide +kernel
theorem dX11_best_5 : decode mX11_best.2.1 5 = .ok (.aload_n 0, 1) := by decide +kernel
theorem dX11_best_6 : decode mX11_best.2.1 6 = .ok (.iload_n 1, 1) := by decide +kernel
theorem dX11_best_7 : decode mX11_best.2.1 7 = .ok (.iload_n 2, 1) := by decide +kernel
theorem dX11_best_8 : decode mX11_best.2.1 8 = .ok (.invokevirtual 226, 3) := by decide +kernel
theorem dX11_best_11 : decode mX11_best.2.1 11 = .ok (.ifCond .eq 10, 3) := by decide +kernel
theorem dX11_best_14 : decode mX11_best.2.1 14 = .ok (.aload_n 0, 1) := by decide +kernel
theorem dX11_best_15 : decode mX11_best.2.1 15 = .ok (.getfield 216, 3) := by decide +kernel
theorem dX11_best_18 : decode mX11_best.2.1 18 = .ok (.goto 4, 3) := by decide +kernel
theorem dX11_best_21 : decode mX11_best.2.1 21 = .ok (.iconst (-1), 1) := by decide +kernel
theorem dX11_best_22 : decode mX11_best.2.1 22 = .ok (.ireturn, 1) := by decide +kernel
theorem dX11_bestOf_0 : decode mX11_bestOf.2.1 0 = .ok (.aload_n 0, 1) := by decide +kernel
theorem dX11_bestOf_1 : decode mX11_bestOf.2.1 1 = .ok (.iconst 0, 1) := by decide +kernel
theorem dX11_bestOf_2 : decode mX11_bestOf.2.1 2 = .ok (.putfield 1, 3) := by decide +kernel
theorem dX11_bestOf_5 : decode mX11_bestOf.2.1 5 = .ok (.aload_n 0, 1) := by decide +kernel
theorem dX11_bestOf_6 : decode mX11_bestOf.2.1 6 = .ok (.iload_n 1, 1) := by decide +kernel
theorem dX11_bestOf_7 : decode mX11_bestOf.2.1 7 = .ok (.iload_n 2, 1) := by decide +kernel
theorem dX11_bestOf_8 : decode mX11_bestOf.2.1 8 = .ok (.invokevirtual 226, 3) := by decide +kernel
theorem dX11_bestOf_11 : decode mX11_bestOf.2.1 11 = .ok (.ifCond .ne 5, 3) := by decide +kernel
theorem dX11_bestOf_14 : decode mX11_bestOf.2.1 14 = .ok (.iconst (-1), 1) := by decide +kernel
theorem dX11_bestOf_15 : decode mX11_bestOf.2.1 15 = .ok (.ireturn, 1) := by decide +kernel
theorem dX11_bestOf_16 : decode mX11_bestOf.2.1 16 = .ok (.iconst 0, 1) := by decide +kernel
theorem dX11_bestOf_17 : decode mX11_bestOf.2.1 17 = .ok (.istore 4, 2) := by decide +kernel
theorem dX11_bestOf_19 : decode mX11_bestOf.2.1 19 = .ok (.iload 4, 2) := by decide +kernel
theorem dX11_bestOf_21 : decode mX11_bestOf.2.1 21 = .ok (.aload_n 0, 1) := by decide +kernel
theorem dX11_bestOf_22 : decode mX11_bestOf.2.1 22 = .ok (.getfield 213, 3) := by decide +kernel
theorem dX11_bestOf_25 : decode mX11_bestOf.2.1 25 = .ok (.if_icmp .ge 28, 3) := by decide +kernel
theorem dX11_bestOf_28 : decode mX11_bestOf.2.1 28 = .ok (.aload_n 0, 1) := by decide +kernel
theorem dX11_bestOf_29 : decode mX11_bestOf.2.1 29 = .ok (.getfield 99, 3) := by decide +kernel
theorem dX11_bestOf_32 : decode mX11_bestOf.2.1 32 = .ok (.iload 4, 2) := by decide +kernel
theorem dX11_bestOf_34 : decode mX11_bestOf.2.1 34 = .ok (.iaload, 1) := by decide +kernel
theorem dX11_bestOf_35 : decode mX11_bestOf.2.1 35 = .ok (.iload_n 3, 1) := by decide +kernel
theorem dX11_bestOf_36 : decode mX11_bestOf.2.1 36 = .ok (.if_icmp .ne 11, 3) := by decide +kernel
theorem dX11_bestOf_39 : decode mX11_bestOf.2.1 39 = .ok (.aload_n 0, 1) := by decide +kernel
theorem dX11_bestOf_40 : decode mX11_bestOf.2.1 40 = .ok (.getfield 105, 3) := by decide +kernel
theorem dX11_bestOf_43 : decode mX11_bestOf.2.1 43 = .ok (.iload 4, 2) := by decide +kernel
theorem dX11_bestOf_45 : decode mX11_bestOf.2.1 45 = .ok (.iaload, 1) := by decide +kernel
theorem dX11_bestOf_46 : decode mX11_bestOf.2.1 46 = .ok (.ireturn, 1) := by decide +kernel
theorem dX11_bestOf_47 : decode mX11_bestOf.2.1 47 = .ok (.iinc 4 1, 3) := by decide +kernel
theorem dX11_bestOf_50 : decode mX11_bestOf.2.1 50 = .ok (.goto (-31), 3) := by decide +kernel
theorem dX11_bestOf_53 : decode mX11_bestOf.2.1 53 = .ok (.iconst (-1), 1) := by decide +kernel
theorem dX11_bestOf_54 : decode mX11_bestOf.2.1 54 = .ok (.ireturn, 1) := by decide +kernel
theorem dX11_brought_0 : decode mX11_brought.2.1 0 = .ok (.aload_n 0, 1) := by decide +kernel
theorem dX11_brought_1 : decode mX11_brought.2.1 1 = .ok (.iconst 0, 1) := by decide +kernel
theorem dX11_brought_2 : decode mX11_brought.2.1 2 = .ok (.putfield 1, 3) := by decide +kernel
theorem dX11_brought_5 : decode mX11_brought.2.1 5 = .ok (.aload_n 0, 1) := by decide +kernel
theorem dX11_brought_6 : decode mX11_brought.2.1 6 = .ok (.iload_n 1, 1) := by decide +kernel
theorem dX11_brought_7 : decode mX11_brought.2.1 7 = .ok (.invokevirtual 175, 3) := by decide +kernel
theorem dX11_brought_10 : decode mX11_brought.2.1 10 = .ok (.ifCond .eq 13, 3) := by decide +kernel
theorem dX11_brought_13 : decode mX11_brought.2.1 13 = .ok (.aload_n 0, 1) := by decide +kernel
theorem dX11_brought_14 : decode mX11_brought.2.1 14 = .ok (.getfield 69, 3) := by decide +kernel
theorem dX11_brought_17 : decode mX11_brought.2.1 17 = .ok (.iload_n 1, 1) := by decide +kernel
theorem dX11_brought_18 : decode mX11_brought.2.1 18 = .ok (.iaload, 1) := by decide +kernel
theorem dX11_brought_19 : decode mX11_brought.2.1 19 = .ok (.iconst 2, 1) := by decide +kernel
theorem dX11_brought_20 : decode mX11_brought.2.1 20 = .ok (.if_icmp .eq 10, 3) := by decide +kernel
theorem dX11_brought_23 : decode mX11_brought.2.1 23 = .ok (.aload_n 0, 1) := by decide +kernel
theorem dX11_brought_24 : decode mX11_brought.2.1 24 = .ok (.iconst 1, 1) := by decide +kernel
theorem dX11_brought_25 : decode mX11_brought.2.1 25 = .ok (.putfield 1, 3) := by decide +kernel
theorem dX11_brought_28 : decode mX11_brought.2.1 28 = .ok (.iconst 0, 1) := by decide +kernel
theorem dX11_brought_29 : decode mX11_brought.2.1 29 = .ok (.ireturn, 1) := by decide +kernel
theorem dX11_brought_30 : decode mX11_brought.2.1 30 = .ok (.aload_n 0, 1) := by decide +kernel
theorem dX11_brought_31 : decode mX11_brought.2.1 31 = .ok (.iload_n 1, 1) := by decide +kernel
theorem dX11_brought_32 : decode mX11_brought.2.1 32 = .ok (.invokevirtual 324, 3) := by decide +kernel
theorem dX11_brought_35 : decode mX11_brought.2.1 35 = .ok (.ireturn, 1) := by decide +kernel
theorem dX11_change_0 : decode mX11_change.2.1 0 = .ok (.aload_n 0, 1) := by decide +kernel
theorem dX11_change_1 : decode mX11_change.2.1 1 = .ok (.getfield 90, 3) := by decide +kernel
theorem dX11_change_4 : decode mX11_change.2.1 4 = .ok (.aload_n 0, 1) := by decide +kernel
theorem dX11_change_5 : decode mX11_change.2.1 5 = .ok (.getfield 162, 3) := by decide +kernel
theorem dX11_change_8 : decode mX11_change.2.1 8 = .ok (.iload_n 1, 1) := by decide +kernel
theorem dX11_change_9 : decode mX11_change.2.1 9 = .ok (.iastore, 1) := by decide +kernel
theorem dX11_change_10 : decode mX11_change.2.1 10 = .ok (.aload_n 0, 1) := by decide +kernel
theorem dX11_change_11 : decode mX11_change.2.1 11 = .ok (.getfield 93, 3) := by decide +kernel
theorem dX11_change_14 : decode mX11_change.2.1 14 = .ok (.aload_n 0, 1) := by decide +kernel
theorem dX11_change_15 : decode mX11_change.2.1 15 = .ok (.getfield 162, 3) := by decide +kernel
theorem dX11_change_18 : decode mX11_change.2.1 18 = .ok (.aload_n 0, 1) := by decide +kernel
theorem dX11_change_19 : decode mX11_change.2.1 19 = .ok (.getfield 150, 3) := by decide +kernel
theorem dX11_change_22 : decode mX11_change.2.1 22 = .ok (.iastore, 1) := by decide +kernel
theorem dX11_change_23 : decode mX11_change.2.1 23 = .ok (.aload_n 0, 1) := by decide +kernel
theorem dX11_change_24 : decode mX11_change.2.1 24 = .ok (.getfield 96, 3) := by decide +kernel
theorem dX11_change_27 : decode mX11_change.2.1 27 = .ok (.aload_n 0, 1) := by decide +kernel
theorem dX11_change_28 : decode mX11_change.2.1 28 = .ok (.getfield 162, 3) := by decide +kernel
theorem dX11_change_31 : decode mX11_change.2.1 31 = .ok (.iload_n 2, 1) := by decide +kernel
theorem dX11_change_32 : decode mX11_change.2.1 32 = .ok (.iastore, 1) := by decide +kernel
theorem dX11_change_33 : decode mX11_change.2.1 33 = .ok (.aload_n 0, 1) := by decide +kernel
theorem dX11_change_34 : decode mX11_change.2.1 34 = .ok (.dup, 1) := by decide +kernel
theorem dX11_change_35 : decode mX11_change.2.1 35 = .ok (.getfield 162, 3) := by decide +kernel
theorem dX11_change_38 : decode mX11_change.2.1 38 = .ok (.iconst 1, 1) := by decide +kernel
theorem dX11_change_39 : decode mX11_change.2.1 39 = .ok (.iadd, 1) := by decide +kernel
theorem dX11_change_40 : decode mX11_change.2.1 40 = .ok (.putfield 162, 3) := by decide +kernel
theorem dX11_change_43 : decode mX11_change.2.1 43 = .ok (.return_, 1) := by decide +kernel
theorem dX11_count_0 : decode mX11_count.2.1 0 = .ok (.aload_n 0, 1) := by decide +kernel
theorem dX11_count_1 : decode mX11_count.2.1 1 = .ok (.iconst 0, 1) := by decide +kernel
theorem dX11_count_2 : decode mX11_count.2.1 2 = .ok (.putfield 1, 3) := by decide +kernel
theorem dX11_count_5 : decode mX11_count.2.1 5 = .ok (.iload_n 1, 1) := by decide +kernel
theorem dX11_count_6 : decode mX11_count.2.1 6 = .ok (.tableswitch 106 0 9 #[54, 59, 64, 69, 74, 79, 84, 89, 95, 101], 54) := by decide +kernel
theorem dX11_count_60 : decode mX11_count.2.1 60 = .ok (.aload_n 0, 1) := by decide +kernel
theorem dX11_count_61 : decode mX11_count.2.1 61 = .ok (.getfield 150, 3) := by decide +kernel
theorem dX11_count_64 : decode mX11_count.2.1 64 = .ok (.ireturn, 1) := by decide +kernel
theorem dX11_count_65 : decode mX11_count.2.1 65 = .ok (.aload_n 0, 1) := by decide +kernel
theorem dX11_count_66 : decode mX11_count.2.1 66 = .ok (.getfield 136, 3) := by decide +kernel
theorem dX11_count_69 : decode mX11_count.2.1 69 = .ok (.ireturn, 1) := by decide +kernel
theorem dX11_count_70 : decode mX11_count.2.1 70 = .ok (.aload_n 0, 1) := by decide +kernel
theorem dX11_count_71 : decode mX11_count.2.1 71 = .ok (.getfield 159, 3) := by decide +kernel
theorem dX11_count_74 : decode mX11_count.2.1 74 = .ok (.ireturn, 1) := by decide +kernel
theorem dX11_count_75 : decode mX11_count.2.1 75 = .ok (.aload_n 0, 1) := by decide +kernel
theorem dX11_count_76 : decode mX11_count.2.1 76 = .ok (.getfield 165, 3) := by decide +kernel
theorem dX11_count_79 : decode mX11_count.2.1 79 = .ok (.ireturn, 1) := by decide +kernel
theorem dX11_count_80 : decode mX11_count.2.1 80 = .ok (.aload_n 0, 1) := by decide +kernel
theorem dX11_count_81 : decode mX11_count.2.1 81 = .ok (.getfield 147, 3) := by decide +kernel
theorem dX11_count_84 : decode mX11_count.2.1 84 = .ok (.ireturn, 1) := by decide +kernel
theorem dX11_count_85 : decode mX11_count.2.1 85 = .ok (.aload_n 0, 1) := by decide +kernel
theorem dX11_count_86 : decode mX11_count.2.1 86 = .ok (.getfield 313, 3) := by decide +kernel
theorem dX11_count_89 : decode mX11_count.2.1 89 = .ok (.ireturn, 1) := by decide +kernel
theorem dX11_count_90 : decode mX11_count.2.1 90 = .ok (.aload_n 0, 1) := by decide +kernel
theorem dX11_count_91 : decode mX11_count.2.1 91 = .ok (.getfield 230, 3) := by decide +kernel
theorem dX11_count_94 : decode mX11_count.2.1 94 = .ok (.ireturn, 1) := by decide +kernel
theorem dX11_count_95 : decode mX11_count.2.1 95 = .ok (.aload_n 0, 1) := by decide +kernel
theorem dX11_count_96 : decode mX11_count.2.1 96 = .ok (.iconst 0, 1) := by decide +kernel
theorem dX11_count_97 : decode mX11_count.2.1 97 = .ok (.invokevirtual 330, 3) := by decide +kernel
theorem dX11_count_100 : decode mX11_count.2.1 100 = .ok (.ireturn, 1) := by decide +kernel
theorem dX11_count_101 : decode mX11_count.2.1 101 = .ok (.aload_n 0, 1) := by decide +kernel
theorem dX11_count_102 : decode mX11_count.2.1 102 = .ok (.iconst 2, 1) := by decide +kernel
theorem dX11_count_103 : decode mX11_count.2.1 103 = .ok (.invokevirtual 330, 3) := by decide +kernel
theorem dX11_count_106 : decode mX11_count.2.1 106 = .ok (.ireturn, 1) := by decide +kernel
theorem dX11_count_107 : decode mX11_count.2.1 107 = .ok (.aload_n 0, 1) := by decide +kernel
theorem dX11_count_108 : decode mX11_count.2.1 108 = .ok (.invokevirtual 333, 3) := by decide +kernel
theorem dX11_count_111 : decode mX11_count.2.1 111 = .ok (.ireturn, 1) := by decide +kernel
theorem dX11_count_112 : decode mX11_count.2.1 112 = .ok (.iconst (-1), 1) := by decide +kernel
theorem dX11_count_113 : decode mX11_count.2.1 113 = .ok (.ireturn, 1) := by decide +kernel
theorem dX11_down_0 : decode mX11_down.2.1 0 = .ok (.aload_n 0, 1) := by decide +kernel
theorem dX11_down_1 : decode mX11_down.2.1 1 = .ok (.iconst 0, 1) := by decide +kernel
theorem dX11_down_2 : decode mX11_down.2.1 2 = .ok (.putfield 1, 3) := by decide +kernel
theorem dX11_down_5 : decode mX11_down.2.1 5 = .ok (.aload_n 0, 1) := by decide +kernel
theorem dX11_down_6 : decode mX11_down.2.1 6 = .ok (.iload_n 1, 1) := by decide +kernel
theorem dX11_down_7 : decode mX11_down.2.1 7 = .ok (.invokevirtual 175, 3) := by decide +kernel
theorem dX11_down_10 : decode mX11_down.2.1 10 = .ok (.ifCond .ne 5, 3) := by decide +kernel
theorem dX11_down_13 : decode mX11_down.2.1 13 = .ok (.iconst (-1), 1) := by decide +kernel
theorem dX11_down_14 : decode mX11_down.2.1 14 = .ok (.ireturn, 1) := by decide +kernel
theorem dX11_down_15 : decode mX11_down.2.1 15 = .ok (.aload_n 0, 1) := by decide +kernel
theorem dX11_down_16 : decode mX11_down.2.1 16 = .ok (.getfield 69, 3) := by decide +kernel
theorem dX11_down_19 : decode mX11_down.2.1 19 = .ok (.iload_n 1, 1) := by decide +kernel
theorem dX11_down_20 : decode mX11_down.2.1 20 = .ok (.iaload, 1) := by decide +kernel
theorem dX11_down_21 : decode mX11_down.2.1 21 = .ok (.iconst 1, 1) := by decide +kernel
theorem dX11_down_22 : decode mX11_down.2.1 22 = .ok (.if_icmp .eq 6, 3) := by decide +kernel
theorem dX11_down_25 : decode mX11_down.2.1 25 = .ok (.bipush (-2), 2) := by decide +kernel
theorem dX11_down_27 : decode mX11_down.2.1 27 = .ok (.ireturn, 1) := by decide +kernel
theorem dX11_down_28 : decode mX11_down.2.1 28 = .ok (.aload_n 0, 1) := by decide +kernel
theorem dX11_down_29 : decode mX11_down.2.1 29 = .ok (.getfield 75, 3) := by decide +kernel
theorem dX11_down_32 : decode mX11_down.2.1 32 = .ok (.iload_n 1, 1) := by decide +kernel
theorem dX11_down_33 : decode mX11_down.2.1 33 = .ok (.iaload, 1) := by decide +kernel
theorem dX11_down_34 : decode mX11_down.2.1 34 = .ok (.iconst 3, 1) := by decide +kernel
theorem dX11_down_35 : decode mX11_down.2.1 35 = .ok (.idiv, 1) := by decide +kernel
theorem dX11_down_36 : decode mX11_down.2.1 36 = .ok (.istore_n 2, 1) := by decide +kernel
theorem dX11_down_37 : decode mX11_down.2.1 37 = .ok (.aload_n 0, 1) := by decide +kernel
theorem dX11_down_38 : decode mX11_down.2.1 38 = .ok (.getfield 36, 3) := by decide +kernel
theorem dX11_down_41 : decode mX11_down.2.1 41 = .ok (.iload_n 2, 1) := by decide +kernel
theorem dX11_down_42 : decode mX11_down.2.1 42 = .ok (.iaload, 1) := by decide +kernel
theorem dX11_down_43 : decode mX11_down.2.1 43 = .ok (.iconst (-1), 1) := by decide +kernel
theorem dX11_down_44 : decode mX11_down.2.1 44 = .ok (.if_icmp .ne 6, 3) := by decide +kernel
theorem dX11_down_47 : decode mX11_down.2.1 47 = .ok (.bipush (-3), 2) := by decide +kernel
theorem dX11_down_49 : decode mX11_down.2.1 49 = .ok (.ireturn, 1) := by decide +kernel
theorem dX11_down_50 : decode mX11_down.2.1 50 = .ok (.aload_n 0, 1) := by decide +kernel
theorem dX11_down_51 : decode mX11_down.2.1 51 = .ok (.getfield 72, 3) := by decide +kernel
theorem dX11_down_54 : decode mX11_down.2.1 54 = .ok (.iload_n 1, 1) := by decide +kernel
theorem dX11_down_55 : decode mX11_down.2.1 55 = .ok (.aload_n 0, 1) := by decide +kernel
theorem dX11_down_56 : decode mX11_down.2.1 56 = .ok (.getfield 36, 3) := by decide +kernel
theorem dX11_down_59 : decode mX11_down.2.1 59 = .ok (.iload_n 2, 1) := by decide +kernel
theorem dX11_down_60 : decode mX11_down.2.1 60 = .ok (.iaload, 1) := by decide +kernel
theorem dX11_down_61 : decode mX11_down.2.1 61 = .ok (.iastore, 1) := by decide +kernel
theorem dX11_down_62 : decode mX11_down.2.1 62 = .ok (.aload_n 0, 1) := by decide +kernel
theorem dX11_down_63 : decode mX11_down.2.1 63 = .ok (.getfield 69, 3) := by decide +kernel
theorem dX11_down_66 : decode mX11_down.2.1 66 = .ok (.iload_n 1, 1) := by decide +kernel
theorem dX11_down_67 : decode mX11_down.2.1 67 = .ok (.aload_n 0, 1) := by decide +kernel
theorem dX11_down_68 : decode mX11_down.2.1 68 = .ok (.getfield 72, 3) := by decide +kernel
theorem dX11_down_71 : decode mX11_down.2.1 71 = .ok (.iload_n 1, 1) := by decide +kernel
theorem dX11_down_72 : decode mX11_down.2.1 72 = .ok (.iaload, 1) := by decide +kernel
theorem dX11_down_73 : decode mX11_down.2.1 73 = .ok (.aload_n 0, 1) := by decide +kernel
theorem dX11_down_74 : decode mX11_down.2.1 74 = .ok (.getfield 66, 3) := by decide +kernel
theorem dX11_down_77 : decode mX11_down.2.1 77 = .ok (.iload_n 1, 1) := by decide +kernel
theorem dX11_down_78 : decode mX11_down.2.1 78 = .ok (.iaload, 1) := by decide +kernel
theorem dX11_down_79 : decode mX11_down.2.1 79 = .ok (.if_icmp .ne 7, 3) := by decide +kernel
theorem dX11_down_82 : decode mX11_down.2.1 82 = .ok (.iconst 2, 1) := by decide +kernel
theorem dX11_down_83 : decode mX11_down.2.1 83 = .ok (.goto 4, 3) := by decide +kernel
theorem dX11_down_86 : decode mX11_down.2.1 86 = .ok (.iconst 0, 1) := by decide +kernel
theorem dX11_down_87 : decode mX11_down.2.1 87 = .ok (.iastore, 1) := by decide +kernel
theorem dX11_down_88 : decode mX11_down.2.1 88 = .ok (.aload_n 0, 1) := by decide +kernel
theorem dX11_down_89 : decode mX11_down.2.1 89 = .ok (.getfield 84, 3) := by decide +kernel
theorem dX11_down_92 : decode mX11_down.2.1 92 = .ok (.iload_n 1, 1) := by decide +kernel
theorem dX11_down_93 : decode mX11_down.2.1 93 = .ok (.aload_n 0, 1) := by decide +kernel
theorem dX11_down_94 : decode mX11_down.2.1 94 = .ok (.getfield 150, 3) := by decide +kernel
theorem dX11_down_97 : decode mX11_down.2.1 97 = .ok (.iastore, 1) := by decide +kernel
theorem dX11_down_98 : decode mX11_down.2.1 98 = .ok (.aload_n 0, 1) := by decide +kernel
theorem dX11_down_99 : decode mX11_down.2.1 99 = .ok (.iload_n 1, 1) := by decide +kernel
theorem dX11_down_100 : decode mX11_down.2.1 100 = .ok (.aload_n 0, 1) := by decide +kernel
theorem dX11_down_101 : decode mX11_down.2.1 101 = .ok (.getfield 72, 3) := by decide +kernel
theorem dX11_down_104 : decode mX11_down.2.1 104 = .ok (.iload_n 1, 1) := by decide +kernel
theorem dX11_down_105 : decode mX11_down.2.1 105 = .ok (.iaload, 1) := by decide +kernel
theorem dX11_down_106 : decode mX11_down.2.1 106 = .ok (.invokevirtual 168, 3) := by decide +kernel
theorem dX11_down_109 : decode mX11_down.2.1 109 = .ok (.aload_n 0, 1) := by decide +kernel
theorem dX11_down_110 : decode mX11_down.2.1 110 = .ok (.getfield 69, 3) := by decide +kernel
theorem dX11_down_113 : decode mX11_down.2.1 113 = .ok (.iload_n 1, 1) := by decide +kernel
theorem dX11_down_114 : decode mX11_down.2.1 114 = .ok (.iaload, 1) := by decide +kernel
theorem dX11_down_115 : decode mX11_down.2.1 115 = .ok (.iconst 2, 1) := by decide +kernel
theorem dX11_down_116 : decode mX11_down.2.1 116 = .ok (.if_icmp .ne 7, 3) := by decide +kernel
theorem dX11_down_119 : decode mX11_down.2.1 119 = .ok (.iconst 1, 1) := by decide +kernel
theorem dX11_down_120 : decode mX11_down.2.1 120 = .ok (.goto 4, 3) := by decide +kernel
theorem dX11_down_123 : decode mX11_down.2.1 123 = .ok (.iconst 0, 1) := by decide +kernel
theorem dX11_down_124 : decode mX11_down.2.1 124 = .ok (.ireturn, 1) := by decide +kernel
theorem dX11_end_0 : decode mX11_end.2.1 0 = .ok (.aload_n 0, 1) := by decide +kernel
theorem dX11_end_1 : decode mX11_end.2.1 1 = .ok (.iconst 0, 1) := by decide +kernel
theorem dX11_end_2 : decode mX11_end.2.1 2 = .ok (.putfield 1, 3) := by decide +kernel
theorem dX11_end_5 : decode mX11_end.2.1 5 = .ok (.iload_n 1, 1) := by decide +kernel
theorem dX11_end_6 : decode mX11_end.2.1 6 = .ok (.ifCond .lt 11, 3) := by decide +kernel
theorem dX11_end_9 : decode mX11_end.2.1 9 = .ok (.iload_n 1, 1) := by decide +kernel
theorem dX11_end_10 : decode mX11_end.2.1 10 = .ok (.aload_n 0, 1) := by decide +kernel
theorem dX11_end_11 : decode mX11_end.2.1 11 = .ok (.getfield 230, 3) := by decide +kernel
theorem dX11_end_14 : decode mX11_end.2.1 14 = .ok (.if_icmp .le 5, 3) := by decide +kernel
theorem dX11_end_17 : decode mX11_end.2.1 17 = .ok (.iconst (-1), 1) := by decide +kernel
theorem dX11_end_18 : decode mX11_end.2.1 18 = .ok (.ireturn, 1) := by decide +kernel
theorem dX11_end_19 : decode mX11_end.2.1 19 = .ok (.aload_n 0, 1) := by decide +kernel
theorem dX11_end_20 : decode mX11_end.2.1 20 = .ok (.iload_n 1, 1) := by decide +kernel
theorem dX11_end_21 : decode mX11_end.2.1 21 = .ok (.putfield 230, 3) := by decide +kernel
theorem dX11_end_24 : decode mX11_end.2.1 24 = .ok (.iload_n 1, 1) := by decide +kernel
theorem dX11_end_25 : decode mX11_end.2.1 25 = .ok (.ireturn, 1) := by decide +kernel
theorem dX11_fails_0 : decode mX11_fails.2.1 0 = .ok (.aload_n 0, 1) := by decide +kernel
theorem dX11_fails_1 : decode mX11_fails.2.1 1 = .ok (.getfield 264, 3) := by decide +kernel
theorem dX11_fails_4 : decode mX11_fails.2.1 4 = .ok (.ifCond .eq 4, 3) := by decide +kernel
theorem dX11_fails_7 : decode mX11_fails.2.1 7 = .ok (.return_, 1) := by decide +kernel
theorem dX11_fails_8 : decode mX11_fails.2.1 8 = .ok (.aload_n 0, 1) := by decide +kernel
theorem dX11_fails_9 : decode mX11_fails.2.1 9 = .ok (.iload_n 1, 1) := by decide +kernel
theorem dX11_fails_10 : decode mX11_fails.2.1 10 = .ok (.putfield 264, 3) := by decide +kernel
theorem dX11_fails_13 : decode mX11_fails.2.1 13 = .ok (.aload_n 0, 1) := by decide +kernel
theorem dX11_fails_14 : decode mX11_fails.2.1 14 = .ok (.aload_n 0, 1) := by decide +kernel
theorem dX11_fails_15 : decode mX11_fails.2.1 15 = .ok (.getfield 236, 3) := by decide +kernel
theorem dX11_fails_18 : decode mX11_fails.2.1 18 = .ok (.putfield 267, 3) := by decide +kernel
theorem dX11_fails_21 : decode mX11_fails.2.1 21 = .ok (.return_, 1) := by decide +kernel
theorem dX11_feed_0 : decode mX11_feed.2.1 0 = .ok (.aload_n 0, 1) := by decide +kernel
theorem dX11_feed_1 : decode mX11_feed.2.1 1 = .ok (.iconst 0, 1) := by decide +kernel
theorem dX11_feed_2 : decode mX11_feed.2.1 2 = .ok (.putfield 1, 3) := by decide +kernel
theorem dX11_feed_5 : decode mX11_feed.2.1 5 = .ok (.aload_n 0, 1) := by decide +kernel
theorem dX11_feed_6 : decode mX11_feed.2.1 6 = .ok (.getfield 230, 3) := by decide +kernel
theorem dX11_feed_9 : decode mX11_feed.2.1 9 = .ok (.bipush 20, 2) := by decide +kernel
theorem dX11_feed_11 : decode mX11_feed.2.1 11 = .ok (.iadd, 1) := by decide +kernel
theorem dX11_feed_12 : decode mX11_feed.2.1 12 = .ok (.sipush 400, 3) := by decide +kernel
theorem dX11_feed_15 : decode mX11_feed.2.1 15 = .ok (.if_icmp .le 5, 3) := by decide +kernel
theorem dX11_feed_18 : decode mX11_feed.2.1 18 = .ok (.iconst (-1), 1) := by decide +kernel
theorem dX11_feed_19 : decode mX11_feed.2.1 19 = .ok (.ireturn, 1) := by decide +kernel
theorem dX11_feed_20 : decode mX11_feed.2.1 20 = .ok (.iconst 0, 1) := by decide +kernel
theorem dX11_feed_21 : decode mX11_feed.2.1 21 = .ok (.istore 6, 2) := by decide +kernel
theorem dX11_feed_23 : decode mX11_feed.2.1 23 = .ok (.iload 6, 2) := by decide +kernel
theorem dX11_feed_25 : decode mX11_feed.2.1 25 = .ok (.bipush 20, 2) := by decide +kernel
theorem dX11_feed_27 : decode mX11_feed.2.1 27 = .ok (.if_icmp .ge 90, 3) := by decide +kernel
theorem dX11_feed_30 : decode mX11_feed.2.1 30 = .ok (.iload 6, 2) := by decide +kernel
theorem dX11_feed_32 : decode mX11_feed.2.1 32 = .ok (.iconst 4, 1) := by decide +kernel
theorem dX11_feed_33 : decode mX11_feed.2.1 33 = .ok (.if_icmp .ge 7, 3) := by decide +kernel
theorem dX11_feed_36 : decode mX11_feed.2.1 36 = .ok (.iload_n 1, 1) := by decide +kernel
theorem dX11_feed_37 : decode mX11_feed.2.1 37 = .ok (.goto 39, 3) := by decide +kernel
theorem dX11_feed_40 : decode mX11_feed.2.1 40 = .ok (.iload 6, 2) := by decide +kernel
theorem dX11_feed_42 : decode mX11_feed.2.1 42 = .ok (.bipush 8, 2) := by decide +kernel
theorem dX11_feed_44 : decode mX11_feed.2.1 44 = .ok (.if_icmp .ge 7, 3) := by decide +kernel
theorem dX11_feed_47 : decode mX11_feed.2.1 47 = .ok (.iload_n 2, 1) := by decide +kernel
theorem dX11_feed_48 : decode mX11_feed.2.1 48 = .ok (.goto 28, 3) := by decide +kernel
theorem dX11_feed_51 : decode mX11_feed.2.1 51 = .ok (.iload 6, 2) := by decide +kernel
theorem dX11_feed_53 : decode mX11_feed.2.1 53 = .ok (.bipush 12, 2) := by decide +kernel
theorem dX11_feed_55 : decode mX11_feed.2.1 55 = .ok (.if_icmp .ge 7, 3) := by decide +kernel
theorem dX11_feed_58 : decode mX11_feed.2.1 58 = .ok (.iload_n 3, 1) := by decide +kernel
theorem dX11_feed_59 : decode mX11_feed.2.1 59 = .ok (.goto 17, 3) := by decide +kernel
theorem dX11_feed_62 : decode mX11_feed.2.1 62 = .ok (.iload 6, 2) := by decide +kernel
theorem dX11_feed_64 : decode mX11_feed.2.1 64 = .ok (.bipush 16, 2) := by decide +kernel
theorem dX11_feed_66 : decode mX11_feed.2.1 66 = .ok (.if_icmp .ge 8, 3) := by decide +kernel
theorem dX11_feed_69 : decode mX11_feed.2.1 69 = .ok (.iload 4, 2) := by decide +kernel
theorem dX11_feed_71 : decode mX11_feed.2.1 71 = .ok (.goto 5, 3) := by decide +kernel
theorem dX11_feed_74 : decode mX11_feed.2.1 74 = .ok (.iload 5, 2) := by decide +kernel
theorem dX11_feed_76 : decode mX11_feed.2.1 76 = .ok (.istore 7, 2) := by decide +kernel
theorem dX11_feed_78 : decode mX11_feed.2.1 78 = .ok (.aload_n 0, 1) := by decide +kernel
theorem dX11_feed_79 : decode mX11_feed.2.1 79 = .ok (.getfield 108, 3) := by decide +kernel
theorem dX11_feed_82 : decode mX11_feed.2.1 82 = .ok (.aload_n 0, 1) := by decide +kernel
theorem dX11_feed_83 : decode mX11_feed.2.1 83 = .ok (.getfield 230, 3) := by decide +kernel
theorem dX11_feed_86 : decode mX11_feed.2.1 86 = .ok (.iload 7, 2) := by decide +kernel
theorem dX11_feed_88 : decode mX11_feed.2.1 88 = .ok (.bipush 24, 2) := by decide +kernel
theorem dX11_feed_90 : decode mX11_feed.2.1 90 = .ok (.bipush 8, 2) := by decide +kernel
theorem dX11_feed_92 : decode mX11_feed.2.1 92 = .ok (.iload 6, 2) := by decide +kernel
theorem dX11_feed_94 : decode mX11_feed.2.1 94 = .ok (.iconst 4, 1) := by decide +kernel
theorem dX11_feed_95 : decode mX11_feed.2.1 95 = .ok (.irem, 1) := by decide +kernel
theorem dX11_feed_96 : decode mX11_feed.2.1 96 = .ok (.imul, 1) := by decide +kernel
theorem dX11_feed_97 : decode mX11_feed.2.1 97 = .ok (.isub, 1) := by decide +kernel
theorem dX11_feed_98 : decode mX11_feed.2.1 98 = .ok (.ishr, 1) := by decide +kernel
theorem dX11_feed_99 : decode mX11_feed.2.1 99 = .ok (.i2b, 1) := by decide +kernel
theorem dX11_feed_100 : decode mX11_feed.2.1 100 = .ok (.bastore, 1) := by decide +kernel
theorem dX11_feed_101 : decode mX11_feed.2.1 101 = .ok (.aload_n 0, 1) := by decide +kernel
theorem dX11_feed_102 : decode mX11_feed.2.1 102 = .ok (.dup, 1) := by decide +kernel
theorem dX11_feed_103 : decode mX11_feed.2.1 103 = .ok (.getfield 230, 3) := by decide +kernel
theorem dX11_feed_106 : decode mX11_feed.2.1 106 = .ok (.iconst 1, 1) := by decide +kernel
theorem dX11_feed_107 : decode mX11_feed.2.1 107 = .ok (.iadd, 1) := by decide +kernel
theorem dX11_feed_108 : decode mX11_feed.2.1 108 = .ok (.putfield 230, 3) := by decide +kernel
theorem dX11_feed_111 : decode mX11_feed.2.1 111 = .ok (.iinc 6 1, 3) := by decide +kernel
theorem dX11_feed_114 : decode mX11_feed.2.1 114 = .ok (.goto (-91), 3) := by decide +kernel
theorem dX11_feed_117 : decode mX11_feed.2.1 117 = .ok (.aload_n 0, 1) := by decide +kernel
theorem dX11_feed_118 : decode mX11_feed.2.1 118 = .ok (.getfield 230, 3) := by decide +kernel
theorem dX11_feed_121 : decode mX11_feed.2.1 121 = .ok (.ireturn, 1) := by decide +kernel
theorem dX11_finds_0 : decode mX11_finds.2.1 0 = .ok (.aload_n 0, 1) := by decide +kernel
theorem dX11_finds_1 : decode mX11_finds.2.1 1 = .ok (.iload_n 1, 1) := by decide +kernel
theorem dX11_finds_2 : decode mX11_finds.2.1 2 = .ok (.invokevirtual 172, 3) := by decide +kernel
theorem dX11_finds_5 : decode mX11_finds.2.1 5 = .ok (.ifCond .eq 22, 3) := by decide +kernel
theorem dX11_finds_8 : decode mX11_finds.2.1 8 = .ok (.iload_n 2, 1) := by decide +kernel
theorem dX11_finds_9 : decode mX11_finds.2.1 9 = .ok (.iconst 0, 1) := by decide +kernel
theorem dX11_finds_10 : decode mX11_finds.2.1 10 = .ok (.iconst 2, 1) := by decide +kernel
theorem dX11_finds_11 : decode mX11_finds.2.1 11 = .ok (.invokestatic 139, 3) := by decide +kernel
theorem dX11_finds_14 : decode mX11_finds.2.1 14 = .ok (.ifCond .eq 13, 3) := by decide +kernel
theorem dX11_finds_17 : decode mX11_finds.2.1 17 = .ok (.aload_n 0, 1) := by decide +kernel
theorem dX11_finds_18 : decode mX11_finds.2.1 18 = .ok (.getfield 36, 3) := by decide +kernel
theorem dX11_finds_21 : decode mX11_finds.2.1 21 = .ok (.iload_n 1, 1) := by decide +kernel
theorem dX11_finds_22 : decode mX11_finds.2.1 22 = .ok (.iaload, 1) := by decide +kernel
theorem dX11_finds_23 : decode mX11_finds.2.1 23 = .ok (.iconst (-1), 1) := by decide +kernel
theorem dX11_finds_24 : decode mX11_finds.2.1 24 = .ok (.if_icmp .ne 5, 3) := by decide +kernel
theorem dX11_finds_27 : decode mX11_finds.2.1 27 = .ok (.iconst 0, 1) := by decide +kernel
theorem dX11_finds_28 : decode mX11_finds.2.1 28 = .ok (.ireturn, 1) := by decide +kernel
theorem dX11_finds_29 : decode mX11_finds.2.1 29 = .ok (.aload_n 0, 1) := by decide +kernel
theorem dX11_finds_30 : decode mX11_finds.2.1 30 = .ok (.iconst 0, 1) := by decide +kernel
theorem dX11_finds_31 : decode mX11_finds.2.1 31 = .ok (.putfield 213, 3) := by decide +kernel
theorem dX11_finds_34 : decode mX11_finds.2.1 34 = .ok (.iconst 0, 1) := by decide +kernel
theorem dX11_finds_35 : decode mX11_finds.2.1 35 = .ok (.istore_n 3, 1) := by decide +kernel
theorem dX11_finds_36 : decode mX11_finds.2.1 36 = .ok (.iload_n 3, 1) := by decide +kernel
theorem dX11_finds_37 : decode mX11_finds.2.1 37 = .ok (.aload_n 0, 1) := by decide +kernel
theorem dX11_finds_38 : decode mX11_finds.2.1 38 = .ok (.getfield 165, 3) := by decide +kernel
theorem dX11_finds_41 : decode mX11_finds.2.1 41 = .ok (.if_icmp .ge 75, 3) := by decide +kernel
theorem dX11_finds_44 : decode mX11_finds.2.1 44 = .ok (.aload_n 0, 1) := by decide +kernel
theorem dX11_finds_45 : decode mX11_finds.2.1 45 = .ok (.getfield 213, 3) := by decide +kernel
theorem dX11_finds_48 : decode mX11_finds.2.1 48 = .ok (.bipush 10, 2) := by decide +kernel
theorem dX11_finds_50 : decode mX11_finds.2.1 50 = .ok (.if_icmp .ge 66, 3) := by decide +kernel
theorem dX11_finds_53 : decode mX11_finds.2.1 53 = .ok (.aload_n 0, 1) := by decide +kernel
theorem dX11_finds_54 : decode mX11_finds.2.1 54 = .ok (.getfield 69, 3) := by decide +kernel
theorem dX11_finds_57 : decode mX11_finds.2.1 57 = .ok (.iload_n 3, 1) := by decide +kernel
theorem dX11_finds_58 : decode mX11_finds.2.1 58 = .ok (.iaload, 1) := by decide +kernel
theorem dX11_finds_59 : decode mX11_finds.2.1 59 = .ok (.ifCond .ne 51, 3) := by decide +kernel
theorem dX11_finds_62 : decode mX11_finds.2.1 62 = .ok (.aload_n 0, 1) := by decide +kernel
theorem dX11_finds_63 : decode mX11_finds.2.1 63 = .ok (.getfield 72, 3) := by decide +kernel
theorem dX11_finds_66 : decode mX11_finds.2.1 66 = .ok (.iload_n 3, 1) := by decide +kernel
theorem dX11_finds_67 : decode mX11_finds.2.1 67 = .ok (.iaload, 1) := by decide +kernel
theorem dX11_finds_68 : decode mX11_finds.2.1 68 = .ok (.aload_n 0, 1) := by decide +kernel
theorem dX11_finds_69 : decode mX11_finds.2.1 69 = .ok (.getfield 36, 3) := by decide +kernel
theorem dX11_finds_72 : decode mX11_finds.2.1 72 = .ok (.iload_n 1, 1) := by decide +kernel
theorem dX11_finds_73 : decode mX11_finds.2.1 73 = .ok (.iaload, 1) := by decide +kernel
theorem dX11_finds_74 : decode mX11_finds.2.1 74 = .ok (.if_icmp .ne 36, 3) := by decide +kernel
theorem dX11_finds_77 : decode mX11_finds.2.1 77 = .ok (.aload_n 0, 1) := by decide +kernel
theorem dX11_finds_78 : decode mX11_finds.2.1 78 = .ok (.getfield 60, 3) := by decide +kernel
theorem dX11_finds_81 : decode mX11_finds.2.1 81 = .ok (.iload_n 3, 1) := by decide +kernel
theorem dX11_finds_82 : decode mX11_finds.2.1 82 = .ok (.iaload, 1) := by decide +kernel
theorem dX11_finds_83 : decode mX11_finds.2.1 83 = .ok (.iconst 3, 1) := by decide +kernel
theorem dX11_finds_84 : decode mX11_finds.2.1 84 = .ok (.if_icmp .ne 6, 3) := by decide +kernel
theorem dX11_finds_87 : decode mX11_finds.2.1 87 = .ok (.goto 23, 3) := by decide +kernel
theorem dX11_finds_90 : decode mX11_finds.2.1 90 = .ok (.aload_n 0, 1) := by decide +kernel
theorem dX11_finds_91 : decode mX11_finds.2.1 91 = .ok (.getfield 99, 3) := by decide +kernel
theorem dX11_finds_94 : decode mX11_finds.2.1 94 = .ok (.aload_n 0, 1) := by decide +kernel
theorem dX11_finds_95 : decode mX11_finds.2.1 95 = .ok (.getfield 213, 3) := by decide +kernel
theorem dX11_finds_98 : decode mX11_finds.2.1 98 = .ok (.iload_n 3, 1) := by decide +kernel
theorem dX11_finds_99 : decode mX11_finds.2.1 99 = .ok (.iastore, 1) := by decide +kernel
theorem dX11_finds_100 : decode mX11_finds.2.1 100 = .ok (.aload_n 0, 1) := by decide +kernel
theorem dX11_finds_101 : decode mX11_finds.2.1 101 = .ok (.dup, 1) := by decide +kernel
theorem dX11_finds_102 : decode mX11_finds.2.1 102 = .ok (.getfield 213, 3) := by decide +kernel
theorem dX11_finds_105 : decode mX11_finds.2.1 105 = .ok (.iconst 1, 1) := by decide +kernel
theorem dX11_finds_106 : decode mX11_finds.2.1 106 = .ok (.iadd, 1) := by decide +kernel
theorem dX11_finds_107 : decode mX11_finds.2.1 107 = .ok (.putfield 213, 3) := by decide +kernel
theorem dX11_finds_110 : decode mX11_finds.2.1 110 = .ok (.iinc 3 1, 3) := by decide +kernel
theorem dX11_finds_113 : decode mX11_finds.2.1 113 = .ok (.goto (-77), 3) := by decide +kernel
theorem dX11_finds_116 : decode mX11_finds.2.1 116 = .ok (.aload_n 0, 1) := by decide +kernel
theorem dX11_finds_117 : decode mX11_finds.2.1 117 = .ok (.iconst (-1), 1) := by decide +kernel
theorem dX11_finds_118 : decode mX11_finds.2.1 118 = .ok (.putfield 216, 3) := by decide +kernel
theorem dX11_finds_121 : decode mX11_finds.2.1 121 = .ok (.aload_n 0, 1) := by decide +kernel
theorem dX11_finds_122 : decode mX11_finds.2.1 122 = .ok (.iconst 0, 1) := by decide +kernel
theorem dX11_finds_123 : decode mX11_finds.2.1 123 = .ok (.putfield 219, 3) := by decide +kernel
theorem dX11_finds_126 : decode mX11_finds.2.1 126 = .ok (.aload_n 0, 1) := by decide +kernel
theorem dX11_finds_127 : decode mX11_finds.2.1 127 = .ok (.iconst 0, 1) := by decide +kernel
theorem dX11_finds_128 : decode mX11_finds.2.1 128 = .ok (.iconst 0, 1) := by decide +kernel
theorem dX11_finds_129 : decode mX11_finds.2.1 129 = .ok (.iconst 0, 1) := by decide +kernel
theorem dX11_finds_130 : decode mX11_finds.2.1 130 = .ok (.iconst 0, 1) := by decide +kernel
theorem dX11_finds_131 : decode mX11_finds.2.1 131 = .ok (.aload_n 0, 1) := by decide +kernel
theorem dX11_finds_132 : decode mX11_finds.2.1 132 = .ok (.getfield 48, 3) := by decide +kernel
theorem dX11_finds_135 : decode mX11_finds.2.1 135 = .ok (.iconst 3, 1) := by decide +kernel
theorem dX11_finds_136 : decode mX11_finds.2.1 136 = .ok (.iload_n 1, 1) := by decide +kernel
theorem dX11_finds_137 : decode mX11_finds.2.1 137 = .ok (.imul, 1) := by decide +kernel
theorem dX11_finds_138 : decode mX11_finds.2.1 138 = .ok (.iload_n 2, 1) := by decide +kernel
theorem dX11_finds_139 : decode mX11_finds.2.1 139 = .ok (.iadd, 1) := by decide +kernel
theorem dX11_finds_140 : decode mX11_finds.2.1 140 = .ok (.iaload, 1) := by decide +kernel
theorem dX11_finds_141 : decode mX11_finds.2.1 141 = .ok (.invokevirtual 222, 3) := by decide +kernel
theorem dX11_finds_144 : decode mX11_finds.2.1 144 = .ok (.iconst 1, 1) := by decide +kernel
theorem dX11_finds_145 : decode mX11_finds.2.1 145 = .ok (.ireturn, 1) := by decide +kernel
theorem dX11_go_0 : decode mX11_go.2.1 0 = .ok (.aload_n 0, 1) := by decide +kernel
theorem dX11_go_1 : decode mX11_go.2.1 1 = .ok (.iconst 0, 1) := by decide +kernel
theorem dX11_go_2 : decode mX11_go.2.1 2 = .ok (.putfield 1, 3) := by decide +kernel
theorem dX11_go_5 : decode mX11_go.2.1 5 = .ok (.aload_n 0, 1) := by decide +kernel
theorem dX11_go_6 : decode mX11_go.2.1 6 = .ok (.iload_n 1, 1) := by decide +kernel
theorem dX11_go_7 : decode mX11_go.2.1 7 = .ok (.invokevirtual 172, 3) := by decide +kernel
theorem dX11_go_10 : decode mX11_go.2.1 10 = .ok (.ifCond .ne 5, 3) := by decide +kernel
theorem dX11_go_13 : decode mX11_go.2.1 13 = .ok (.iconst (-1), 1) := by decide +kernel
theorem dX11_go_14 : decode mX11_go.2.1 14 = .ok (.ireturn, 1) := by decide +kernel
theorem dX11_go_15 : decode mX11_go.2.1 15 = .ok (.aload_n 0, 1) := by decide +kernel
theorem dX11_go_16 : decode mX11_go.2.1 16 = .ok (.getfield 36, 3) := by decide +kernel
theorem dX11_go_19 : decode mX11_go.2.1 19 = .ok (.iload_n 1, 1) := by decide +kernel
theorem dX11_go_20 : decode mX11_go.2.1 20 = .ok (.iaload, 1) := by decide +kernel
theorem dX11_go_21 : decode mX11_go.2.1 21 = .ok (.iconst (-1), 1) := by decide +kernel
theorem dX11_go_22 : decode mX11_go.2.1 22 = .ok (.if_icmp .ne 6, 3) := by decide +kernel
theorem dX11_go_25 : decode mX11_go.2.1 25 = .ok (.bipush (-2), 2) := by decide +kernel
theorem dX11_go_27 : decode mX11_go.2.1 27 = .ok (.ireturn, 1) := by decide +kernel
theorem dX11_go_28 : decode mX11_go.2.1 28 = .ok (.iload_n 2, 1) := by decide +kernel
theorem dX11_go_29 : decode mX11_go.2.1 29 = .ok (.ifCond .eq 12, 3) := by decide +kernel
theorem dX11_go_32 : decode mX11_go.2.1 32 = .ok (.aload_n 0, 1) := by decide +kernel
theorem dX11_go_33 : decode mX11_go.2.1 33 = .ok (.getfield 36, 3) := by decide +kernel
theorem dX11_go_36 : decode mX11_go.2.1 36 = .ok (.iload_n 1, 1) := by decide +kernel
theorem dX11_go_37 : decode mX11_go.2.1 37 = .ok (.iaload, 1) := by decide +kernel
theorem dX11_go_38 : decode mX11_go.2.1 38 = .ok (.goto 11, 3) := by decide +kernel
theorem dX11_go_41 : decode mX11_go.2.1 41 = .ok (.aload_n 0, 1) := by decide +kernel
theorem dX11_go_42 : decode mX11_go.2.1 42 = .ok (.getfield 36, 3) := by decide +kernel
theorem dX11_go_45 : decode mX11_go.2.1 45 = .ok (.iload_n 1, 1) := by decide +kernel
theorem dX11_go_46 : decode mX11_go.2.1 46 = .ok (.iaload, 1) := by decide +kernel
theorem dX11_go_47 : decode mX11_go.2.1 47 = .ok (.iconst 1, 1) := by decide +kernel
theorem dX11_go_48 : decode mX11_go.2.1 48 = .ok (.isub, 1) := by decide +kernel
theorem dX11_go_49 : decode mX11_go.2.1 49 = .ok (.istore_n 3, 1) := by decide +kernel
theorem dX11_go_50 : decode mX11_go.2.1 50 = .ok (.aload_n 0, 1) := by decide +kernel
theorem dX11_go_51 : decode mX11_go.2.1 51 = .ok (.iload_n 3, 1) := by decide +kernel
theorem dX11_go_52 : decode mX11_go.2.1 52 = .ok (.invokevirtual 143, 3) := by decide +kernel
theorem dX11_go_55 : decode mX11_go.2.1 55 = .ok (.ifCond .ne 6, 3) := by decide +kernel
theorem dX11_go_58 : decode mX11_go.2.1 58 = .ok (.bipush (-3), 2) := by decide +kernel
theorem dX11_go_60 : decode mX11_go.2.1 60 = .ok (.ireturn, 1) := by decide +kernel
theorem dX11_go_61 : decode mX11_go.2.1 61 = .ok (.iconst 3, 1) := by decide +kernel
theorem dX11_go_62 : decode mX11_go.2.1 62 = .ok (.iload_n 1, 1) := by decide +kernel
theorem dX11_go_63 : decode mX11_go.2.1 63 = .ok (.imul, 1) := by decide +kernel
theorem dX11_go_64 : decode mX11_go.2.1 64 = .ok (.istore 4, 2) := by decide +kernel
theorem dX11_go_66 : decode mX11_go.2.1 66 = .ok (.iload 4, 2) := by decide +kernel
theorem dX11_go_68 : decode mX11_go.2.1 68 = .ok (.iconst 3, 1) := by decide +kernel
theorem dX11_go_69 : decode mX11_go.2.1 69 = .ok (.iload_n 1, 1) := by decide +kernel
theorem dX11_go_70 : decode mX11_go.2.1 70 = .ok (.imul, 1) := by decide +kernel
theorem dX11_go_71 : decode mX11_go.2.1 71 = .ok (.iconst 3, 1) := by decide +kernel
theorem dX11_go_72 : decode mX11_go.2.1 72 = .ok (.iadd, 1) := by decide +kernel
theorem dX11_go_73 : decode mX11_go.2.1 73 = .ok (.if_icmp .ge 41, 3) := by decide +kernel
theorem dX11_go_76 : decode mX11_go.2.1 76 = .ok (.aload_n 0, 1) := by decide +kernel
theorem dX11_go_77 : decode mX11_go.2.1 77 = .ok (.iload 4, 2) := by decide +kernel
theorem dX11_go_79 : decode mX11_go.2.1 79 = .ok (.invokevirtual 186, 3) := by decide +kernel
theorem dX11_go_82 : decode mX11_go.2.1 82 = .ok (.ifCond .eq 23, 3) := by decide +kernel
theorem dX11_go_85 : decode mX11_go.2.1 85 = .ok (.aload_n 0, 1) := by decide +kernel
theorem dX11_go_86 : decode mX11_go.2.1 86 = .ok (.getfield 54, 3) := by decide +kernel
theorem dX11_go_89 : decode mX11_go.2.1 89 = .ok (.iload 4, 2) := by decide +kernel
theorem dX11_go_91 : decode mX11_go.2.1 91 = .ok (.baload, 1) := by decide +kernel
theorem dX11_go_92 : decode mX11_go.2.1 92 = .ok (.ifCond .eq 16, 3) := by decide +kernel
theorem dX11_go_95 : decode mX11_go.2.1 95 = .ok (.aload_n 0, 1) := by decide +kernel
theorem dX11_go_96 : decode mX11_go.2.1 96 = .ok (.iload 4, 2) := by decide +kernel
theorem dX11_go_98 : decode mX11_go.2.1 98 = .ok (.iconst 3, 1) := by decide +kernel
theorem dX11_go_99 : decode mX11_go.2.1 99 = .ok (.invokevirtual 178, 3) := by decide +kernel
theorem dX11_go_102 : decode mX11_go.2.1 102 = .ok (.ifCond .le 6, 3) := by decide +kernel
theorem dX11_go_105 : decode mX11_go.2.1 105 = .ok (.bipush (-4), 2) := by decide +kernel
theorem dX11_go_107 : decode mX11_go.2.1 107 = .ok (.ireturn, 1) := by decide +kernel
theorem dX11_go_108 : decode mX11_go.2.1 108 = .ok (.iinc 4 1, 3) := by decide +kernel
theorem dX11_go_111 : decode mX11_go.2.1 111 = .ok (.goto (-45), 3) := by decide +kernel
theorem dX11_go_114 : decode mX11_go.2.1 114 = .ok (.aload_n 0, 1) := by decide +kernel
theorem dX11_go_115 : decode mX11_go.2.1 115 = .ok (.iload_n 3, 1) := by decide +kernel
theorem dX11_go_116 : decode mX11_go.2.1 116 = .ok (.aload_n 0, 1) := by decide +kernel
theorem dX11_go_117 : decode mX11_go.2.1 117 = .ok (.getfield 150, 3) := by decide +kernel
theorem dX11_go_120 : decode mX11_go.2.1 120 = .ok (.aload_n 0, 1) := by decide +kernel
theorem dX11_go_121 : decode mX11_go.2.1 121 = .ok (.getfield 150, 3) := by decide +kernel
theorem dX11_go_124 : decode mX11_go.2.1 124 = .ok (.invokevirtual 153, 3) := by decide +kernel
theorem dX11_go_127 : decode mX11_go.2.1 127 = .ok (.ifCond .eq 6, 3) := by decide +kernel
theorem dX11_go_130 : decode mX11_go.2.1 130 = .ok (.bipush (-5), 2) := by decide +kernel
theorem dX11_go_132 : decode mX11_go.2.1 132 = .ok (.ireturn, 1) := by decide +kernel
theorem dX11_go_133 : decode mX11_go.2.1 133 = .ok (.iconst 0, 1) := by decide +kernel
theorem dX11_go_134 : decode mX11_go.2.1 134 = .ok (.istore 4, 2) := by decide +kernel
theorem dX11_go_136 : decode mX11_go.2.1 136 = .ok (.iload 4, 2) := by decide +kernel
theorem dX11_go_138 : decode mX11_go.2.1 138 = .ok (.aload_n 0, 1) := by decide +kernel
theorem dX11_go_139 : decode mX11_go.2.1 139 = .ok (.getfield 159, 3) := by decide +kernel
theorem dX11_go_142 : decode mX11_go.2.1 142 = .ok (.if_icmp .ge 32, 3) := by decide +kernel
theorem dX11_go_145 : decode mX11_go.2.1 145 = .ok (.aload_n 0, 1) := by decide +kernel
theorem dX11_go_146 : decode mX11_go.2.1 146 = .ok (.getfield 20, 3) := by decide +kernel
theorem dX11_go_149 : decode mX11_go.2.1 149 = .ok (.iload_n 3, 1) := by decide +kernel
theorem dX11_go_150 : decode mX11_go.2.1 150 = .ok (.baload, 1) := by decide +kernel
theorem dX11_go_151 : decode mX11_go.2.1 151 = .ok (.ifCond .eq 17, 3) := by decide +kernel
theorem dX11_go_154 : decode mX11_go.2.1 154 = .ok (.aload_n 0, 1) := by decide +kernel
theorem dX11_go_155 : decode mX11_go.2.1 155 = .ok (.getfield 39, 3) := by decide +kernel
theorem dX11_go_158 : decode mX11_go.2.1 158 = .ok (.iload 4, 2) := by decide +kernel
theorem dX11_go_160 : decode mX11_go.2.1 160 = .ok (.iaload, 1) := by decide +kernel
theorem dX11_go_161 : decode mX11_go.2.1 161 = .ok (.iload_n 3, 1) := by decide +kernel
theorem dX11_go_162 : decode mX11_go.2.1 162 = .ok (.if_icmp .ne 6, 3) := by decide +kernel
theorem dX11_go_165 : decode mX11_go.2.1 165 = .ok (.bipush (-6), 2) := by decide +kernel
theorem dX11_go_167 : decode mX11_go.2.1 167 = .ok (.ireturn, 1) := by decide +kernel
theorem dX11_go_168 : decode mX11_go.2.1 168 = .ok (.iinc 4 1, 3) := by decide +kernel
theorem dX11_go_171 : decode mX11_go.2.1 171 = .ok (.goto (-35), 3) := by decide +kernel
theorem dX11_go_174 : decode mX11_go.2.1 174 = .ok (.aload_n 0, 1) := by decide +kernel
theorem dX11_go_175 : decode mX11_go.2.1 175 = .ok (.getfield 36, 3) := by decide +kernel
theorem dX11_go_178 : decode mX11_go.2.1 178 = .ok (.iload_n 1, 1) := by decide +kernel
theorem dX11_go_179 : decode mX11_go.2.1 179 = .ok (.iconst (-1), 1) := by decide +kernel
theorem dX11_go_180 : decode mX11_go.2.1 180 = .ok (.iastore, 1) := by decide +kernel
theorem dX11_go_181 : decode mX11_go.2.1 181 = .ok (.aload_n 0, 1) := by decide +kernel
theorem dX11_go_182 : decode mX11_go.2.1 182 = .ok (.getfield 39, 3) := by decide +kernel
theorem dX11_go_185 : decode mX11_go.2.1 185 = .ok (.iload_n 1, 1) := by decide +kernel
theorem dX11_go_186 : decode mX11_go.2.1 186 = .ok (.iload_n 3, 1) := by decide +kernel
theorem dX11_go_187 : decode mX11_go.2.1 187 = .ok (.iastore, 1) := by decide +kernel
theorem dX11_go_188 : decode mX11_go.2.1 188 = .ok (.aload_n 0, 1) := by decide +kernel
theorem dX11_go_189 : decode mX11_go.2.1 189 = .ok (.getfield 42, 3) := by decide +kernel
theorem dX11_go_192 : decode mX11_go.2.1 192 = .ok (.iload_n 1, 1) := by decide +kernel
theorem dX11_go_193 : decode mX11_go.2.1 193 = .ok (.iload_n 2, 1) := by decide +kernel
theorem dX11_go_194 : decode mX11_go.2.1 194 = .ok (.bastore, 1) := by decide +kernel
theorem dX11_go_195 : decode mX11_go.2.1 195 = .ok (.aload_n 0, 1) := by decide +kernel
theorem dX11_go_196 : decode mX11_go.2.1 196 = .ok (.getfield 45, 3) := by decide +kernel
theorem dX11_go_199 : decode mX11_go.2.1 199 = .ok (.iload_n 1, 1) := by decide +kernel
theorem dX11_go_200 : decode mX11_go.2.1 200 = .ok (.aload_n 0, 1) := by decide +kernel
theorem dX11_go_201 : decode mX11_go.2.1 201 = .ok (.getfield 150, 3) := by decide +kernel
theorem dX11_go_204 : decode mX11_go.2.1 204 = .ok (.aload_n 0, 1) := by decide +kernel
theorem dX11_go_205 : decode mX11_go.2.1 205 = .ok (.getfield 13, 3) := by decide +kernel
theorem dX11_go_208 : decode mX11_go.2.1 208 = .ok (.iload_n 3, 1) := by decide +kernel
theorem dX11_go_209 : decode mX11_go.2.1 209 = .ok (.iaload, 1) := by decide +kernel
theorem dX11_go_210 : decode mX11_go.2.1 210 = .ok (.iadd, 1) := by decide +kernel
theorem dX11_go_211 : decode mX11_go.2.1 211 = .ok (.iastore, 1) := by decide +kernel
theorem dX11_go_212 : decode mX11_go.2.1 212 = .ok (.aload_n 0, 1) := by decide +kernel
theorem dX11_go_213 : decode mX11_go.2.1 213 = .ok (.getfield 45, 3) := by decide +kernel
theorem dX11_go_216 : decode mX11_go.2.1 216 = .ok (.iload_n 1, 1) := by decide +kernel
theorem dX11_go_217 : decode mX11_go.2.1 217 = .ok (.iaload, 1) := by decide +kernel
theorem dX11_go_218 : decode mX11_go.2.1 218 = .ok (.ireturn, 1) := by decide +kernel
theorem dX11_goes_0 : decode mX11_goes.2.1 0 = .ok (.aload_n 0, 1) := by decide +kernel
theorem dX11_goes_1 : decode mX11_goes.2.1 1 = .ok (.invokevirtual 200, 3) := by decide +kernel
theorem dX11_goes_4 : decode mX11_goes.2.1 4 = .ok (.iconst 0, 1) := by decide +kernel
theorem dX11_goes_5 : decode mX11_goes.2.1 5 = .ok (.istore_n 1, 1) := by decide +kernel
theorem dX11_goes_6 : decode mX11_goes.2.1 6 = .ok (.iload_n 1, 1) := by decide +kernel
theorem dX11_goes_7 : decode mX11_goes.2.1 7 = .ok (.aload_n 0, 1) := by decide +kernel
theorem dX11_goes_8 : decode mX11_goes.2.1 8 = .ok (.getfield 159, 3) := by decide +kernel
theorem dX11_goes_11 : decode mX11_goes.2.1 11 = .ok (.if_icmp .ge 32, 3) := by decide +kernel
theorem dX11_goes_14 : decode mX11_goes.2.1 14 = .ok (.aload_n 0, 1) := by decide +kernel
theorem dX11_goes_15 : decode mX11_goes.2.1 15 = .ok (.getfield 36, 3) := by decide +kernel
theorem dX11_goes_18 : decode mX11_goes.2.1 18 = .ok (.iload_n 1, 1) := by decide +kernel
theorem dX11_goes_19 : decode mX11_goes.2.1 19 = .ok (.iaload, 1) := by decide +kernel
theorem dX11_goes_20 : decode mX11_goes.2.1 20 = .ok (.iconst (-1), 1) := by decide +kernel
theorem dX11_goes_21 : decode mX11_goes.2.1 21 = .ok (.if_icmp .ne 11, 3) := by decide +kernel
theorem dX11_goes_24 : decode mX11_goes.2.1 24 = .ok (.aload_n 0, 1) := by decide +kernel
theorem dX11_goes_25 : decode mX11_goes.2.1 25 = .ok (.iload_n 1, 1) := by decide +kernel
theorem dX11_goes_26 : decode mX11_goes.2.1 26 = .ok (.invokevirtual 203, 3) := by decide +kernel
theorem dX11_goes_29 : decode mX11_goes.2.1 29 = .ok (.goto 8, 3) := by decide +kernel
theorem dX11_goes_32 : decode mX11_goes.2.1 32 = .ok (.aload_n 0, 1) := by decide +kernel
theorem dX11_goes_33 : decode mX11_goes.2.1 33 = .ok (.iload_n 1, 1) := by decide +kernel
theorem dX11_goes_34 : decode mX11_goes.2.1 34 = .ok (.invokevirtual 207, 3) := by decide +kernel
theorem dX11_goes_37 : decode mX11_goes.2.1 37 = .ok (.iinc 1 1, 3) := by decide +kernel
theorem dX11_goes_40 : decode mX11_goes.2.1 40 = .ok (.goto (-34), 3) := by decide +kernel
theorem dX11_goes_43 : decode mX11_goes.2.1 43 = .ok (.aload_n 0, 1) := by decide +kernel
theorem dX11_goes_44 : decode mX11_goes.2.1 44 = .ok (.dup, 1) := by decide +kernel
theorem dX11_goes_45 : decode mX11_goes.2.1 45 = .ok (.getfield 150, 3) := by decide +kernel
theorem dX11_goes_48 : decode mX11_goes.2.1 48 = .ok (.iconst 1, 1) := by decide +kernel
theorem dX11_goes_49 : decode mX11_goes.2.1 49 = .ok (.iadd, 1) := by decide +kernel
theorem dX11_goes_50 : decode mX11_goes.2.1 50 = .ok (.putfield 150, 3) := by decide +kernel
theorem dX11_goes_53 : decode mX11_goes.2.1 53 = .ok (.iconst 0, 1) := by decide +kernel
theorem dX11_goes_54 : decode mX11_goes.2.1 54 = .ok (.istore_n 1, 1) := by decide +kernel
theorem dX11_goes_55 : decode mX11_goes.2.1 55 = .ok (.iload_n 1, 1) := by decide +kernel
theorem dX11_goes_56 : decode mX11_goes.2.1 56 = .ok (.aload_n 0, 1) := by decide +kernel
theorem dX11_goes_57 : decode mX11_goes.2.1 57 = .ok (.getfield 159, 3) := by decide +kernel
theorem dX11_goes_60 : decode mX11_goes.2.1 60 = .ok (.if_icmp .ge 74, 3) := by decide +kernel
theorem dX11_goes_63 : decode mX11_goes.2.1 63 = .ok (.aload_n 0, 1) := by decide +kernel
theorem dX11_goes_64 : decode mX11_goes.2.1 64 = .ok (.getfield 36, 3) := by decide +kernel
theorem dX11_goes_67 : decode mX11_goes.2.1 67 = .ok (.iload_n 1, 1) := by decide +kernel
theorem dX11_goes_68 : decode mX11_goes.2.1 68 = .ok (.iaload, 1) := by decide +kernel
theorem dX11_goes_69 : decode mX11_goes.2.1 69 = .ok (.iconst (-1), 1) := by decide +kernel
theorem dX11_goes_70 : decode mX11_goes.2.1 70 = .ok (.if_icmp .ne 58, 3) := by decide +kernel
theorem dX11_goes_73 : decode mX11_goes.2.1 73 = .ok (.aload_n 0, 1) := by decide +kernel
theorem dX11_goes_74 : decode mX11_goes.2.1 74 = .ok (.getfield 45, 3) := by decide +kernel
theorem dX11_goes_77 : decode mX11_goes.2.1 77 = .ok (.iload_n 1, 1) := by decide +kernel
theorem dX11_goes_78 : decode mX11_goes.2.1 78 = .ok (.iaload, 1) := by decide +kernel
theorem dX11_goes_79 : decode mX11_goes.2.1 79 = .ok (.aload_n 0, 1) := by decide +kernel
theorem dX11_goes_80 : decode mX11_goes.2.1 80 = .ok (.getfield 150, 3) := by decide +kernel
theorem dX11_goes_83 : decode mX11_goes.2.1 83 = .ok (.if_icmp .eq 6, 3) := by decide +kernel
theorem dX11_goes_86 : decode mX11_goes.2.1 86 = .ok (.goto 42, 3) := by decide +kernel
theorem dX11_goes_89 : decode mX11_goes.2.1 89 = .ok (.aload_n 0, 1) := by decide +kernel
theorem dX11_goes_90 : decode mX11_goes.2.1 90 = .ok (.getfield 36, 3) := by decide +kernel
theorem dX11_goes_93 : decode mX11_goes.2.1 93 = .ok (.iload_n 1, 1) := by decide +kernel
theorem dX11_goes_94 : decode mX11_goes.2.1 94 = .ok (.aload_n 0, 1) := by decide +kernel
theorem dX11_goes_95 : decode mX11_goes.2.1 95 = .ok (.getfield 42, 3) := by decide +kernel
theorem dX11_goes_98 : decode mX11_goes.2.1 98 = .ok (.iload_n 1, 1) := by decide +kernel
theorem dX11_goes_99 : decode mX11_goes.2.1 99 = .ok (.baload, 1) := by decide +kernel
theorem dX11_goes_100 : decode mX11_goes.2.1 100 = .ok (.ifCond .eq 14, 3) := by decide +kernel
theorem dX11_goes_103 : decode mX11_goes.2.1 103 = .ok (.aload_n 0, 1) := by decide +kernel
theorem dX11_goes_104 : decode mX11_goes.2.1 104 = .ok (.getfield 39, 3) := by decide +kernel
theorem dX11_goes_107 : decode mX11_goes.2.1 107 = .ok (.iload_n 1, 1) := by decide +kernel
theorem dX11_goes_108 : decode mX11_goes.2.1 108 = .ok (.iaload, 1) := by decide +kernel
theorem dX11_goes_109 : decode mX11_goes.2.1 109 = .ok (.iconst 1, 1) := by decide +kernel
theorem dX11_goes_110 : decode mX11_goes.2.1 110 = .ok (.iadd, 1) := by decide +kernel
theorem dX11_goes_111 : decode mX11_goes.2.1 111 = .ok (.goto 9, 3) := by decide +kernel
theorem dX11_goes_114 : decode mX11_goes.2.1 114 = .ok (.aload_n 0, 1) := by decide +kernel
theorem dX11_goes_115 : decode mX11_goes.2.1 115 = .ok (.getfield 39, 3) := by decide +kernel
theorem dX11_goes_118 : decode mX11_goes.2.1 118 = .ok (.iload_n 1, 1) := by decide +kernel
theorem dX11_goes_119 : decode mX11_goes.2.1 119 = .ok (.iaload, 1) := by decide +kernel
theorem dX11_goes_120 : decode mX11_goes.2.1 120 = .ok (.iastore, 1) := by decide +kernel
theorem dX11_goes_121 : decode mX11_goes.2.1 121 = .ok (.aload_n 0, 1) := by decide +kernel
theorem dX11_goes_122 : decode mX11_goes.2.1 122 = .ok (.getfield 39, 3) := by decide +kernel
theorem dX11_goes_125 : decode mX11_goes.2.1 125 = .ok (.iload_n 1, 1) := by decide +kernel
theorem dX11_goes_126 : decode mX11_goes.2.1 126 = .ok (.iconst (-1), 1) := by decide +kernel
theorem dX11_goes_127 : decode mX11_goes.2.1 127 = .ok (.iastore, 1) := by decide +kernel
theorem dX11_goes_128 : decode mX11_goes.2.1 128 = .ok (.iinc 1 1, 3) := by decide +kernel
theorem dX11_goes_131 : decode mX11_goes.2.1 131 = .ok (.goto (-76), 3) := by decide +kernel
theorem dX11_goes_134 : decode mX11_goes.2.1 134 = .ok (.return_, 1) := by decide +kernel
theorem dX11_holds_0 : decode mX11_holds.2.1 0 = .ok (.iconst 0, 1) := by decide +kernel
theorem dX11_holds_1 : decode mX11_holds.2.1 1 = .ok (.istore_n 1, 1) := by decide +kernel
theorem dX11_holds_2 : decode mX11_holds.2.1 2 = .ok (.iload_n 1, 1) := by decide +kernel
theorem dX11_holds_3 : decode mX11_holds.2.1 3 = .ok (.aload_n 0, 1) := by decide +kernel
theorem dX11_holds_4 : decode mX11_holds.2.1 4 = .ok (.getfield 165, 3) := by decide +kernel
theorem dX11_holds_7 : decode mX11_holds.2.1 7 = .ok (.if_icmp .ge 90, 3) := by decide +kernel
theorem dX11_holds_10 : decode mX11_holds.2.1 10 = .ok (.aload_n 0, 1) := by decide +kernel
theorem dX11_holds_11 : decode mX11_holds.2.1 11 = .ok (.getfield 69, 3) := by decide +kernel
theorem dX11_holds_14 : decode mX11_holds.2.1 14 = .ok (.iload_n 1, 1) := by decide +kernel
theorem dX11_holds_15 : decode mX11_holds.2.1 15 = .ok (.iaload, 1) := by decide +kernel
theorem dX11_holds_16 : decode mX11_holds.2.1 16 = .ok (.iconst 2, 1) := by decide +kernel
theorem dX11_holds_17 : decode mX11_holds.2.1 17 = .ok (.if_icmp .ne 6, 3) := by decide +kernel
theorem dX11_holds_20 : decode mX11_holds.2.1 20 = .ok (.goto 71, 3) := by decide +kernel
theorem dX11_holds_23 : decode mX11_holds.2.1 23 = .ok (.aload_n 0, 1) := by decide +kernel
theorem dX11_holds_24 : decode mX11_holds.2.1 24 = .ok (.iload_n 1, 1) := by decide +kernel
theorem dX11_holds_25 : decode mX11_holds.2.1 25 = .ok (.invokevirtual 197, 3) := by decide +kernel
theorem dX11_holds_28 : decode mX11_holds.2.1 28 = .ok (.istore_n 2, 1) := by decide +kernel
theorem dX11_holds_29 : decode mX11_holds.2.1 29 = .ok (.iload_n 2, 1) := by decide +kernel
theorem dX11_holds_30 : decode mX11_holds.2.1 30 = .ok (.iconst (-1), 1) := by decide +kernel
theorem dX11_holds_31 : decode mX11_holds.2.1 31 = .ok (.if_icmp .eq 60, 3) := by decide +kernel
theorem dX11_holds_34 : decode mX11_holds.2.1 34 = .ok (.iload_n 2, 1) := by decide +kernel
theorem dX11_holds_35 : decode mX11_holds.2.1 35 = .ok (.aload_n 0, 1) := by decide +kernel
theorem dX11_holds_36 : decode mX11_holds.2.1 36 = .ok (.getfield 66, 3) := by decide +kernel
theorem dX11_holds_39 : decode mX11_holds.2.1 39 = .ok (.iload_n 1, 1) := by decide +kernel
theorem dX11_holds_40 : decode mX11_holds.2.1 40 = .ok (.iaload, 1) := by decide +kernel
theorem dX11_holds_41 : decode mX11_holds.2.1 41 = .ok (.if_icmp .ne 6, 3) := by decide +kernel
theorem dX11_holds_44 : decode mX11_holds.2.1 44 = .ok (.goto 47, 3) := by decide +kernel
theorem dX11_holds_47 : decode mX11_holds.2.1 47 = .ok (.aload_n 0, 1) := by decide +kernel
theorem dX11_holds_48 : decode mX11_holds.2.1 48 = .ok (.getfield 66, 3) := by decide +kernel
theorem dX11_holds_51 : decode mX11_holds.2.1 51 = .ok (.iload_n 1, 1) := by decide +kernel
theorem dX11_holds_52 : decode mX11_holds.2.1 52 = .ok (.iaload, 1) := by decide +kernel
theorem dX11_holds_53 : decode mX11_holds.2.1 53 = .ok (.iload_n 2, 1) := by decide +kernel
theorem dX11_holds_54 : decode mX11_holds.2.1 54 = .ok (.if_icmp .le 7, 3) := by decide +kernel
theorem dX11_holds_57 : decode mX11_holds.2.1 57 = .ok (.iload_n 2, 1) := by decide +kernel
theorem dX11_holds_58 : decode mX11_holds.2.1 58 = .ok (.goto 6, 3) := by decide +kernel
theorem dX11_holds_61 : decode mX11_holds.2.1 61 = .ok (.iload_n 2, 1) := by decide +kernel
theorem dX11_holds_62 : decode mX11_holds.2.1 62 = .ok (.iconst 1, 1) := by decide +kernel
theorem dX11_holds_63 : decode mX11_holds.2.1 63 = .ok (.isub, 1) := by decide +kernel
theorem dX11_holds_64 : decode mX11_holds.2.1 64 = .ok (.istore_n 3, 1) := by decide +kernel
theorem dX11_holds_65 : decode mX11_holds.2.1 65 = .ok (.aload_n 0, 1) := by decide +kernel
theorem dX11_holds_66 : decode mX11_holds.2.1 66 = .ok (.iload_n 3, 1) := by decide +kernel
theorem dX11_holds_67 : decode mX11_holds.2.1 67 = .ok (.aload_n 0, 1) := by decide +kernel
theorem dX11_holds_68 : decode mX11_holds.2.1 68 = .ok (.getfield 150, 3) := by decide +kernel
theorem dX11_holds_71 : decode mX11_holds.2.1 71 = .ok (.aload_n 0, 1) := by decide +kernel
theorem dX11_holds_72 : decode mX11_holds.2.1 72 = .ok (.getfield 150, 3) := by decide +kernel
theorem dX11_holds_75 : decode mX11_holds.2.1 75 = .ok (.invokevirtual 153, 3) := by decide +kernel
theorem dX11_holds_78 : decode mX11_holds.2.1 78 = .ok (.ifCond .eq 13, 3) := by decide +kernel
theorem dX11_holds_81 : decode mX11_holds.2.1 81 = .ok (.aload_n 0, 1) := by decide +kernel
theorem dX11_holds_82 : decode mX11_holds.2.1 82 = .ok (.getfield 87, 3) := by decide +kernel
theorem dX11_holds_85 : decode mX11_holds.2.1 85 = .ok (.iload_n 1, 1) := by decide +kernel
theorem dX11_holds_86 : decode mX11_holds.2.1 86 = .ok (.dup2, 1) := by decide +kernel
theorem dX11_holds_87 : decode mX11_holds.2.1 87 = .ok (.iaload, 1) := by decide +kernel
theorem dX11_holds_88 : decode mX11_holds.2.1 88 = .ok (.iconst 1, 1) := by decide +kernel
theorem dX11_holds_89 : decode mX11_holds.2.1 89 = .ok (.iadd, 1) := by decide +kernel
theorem dX11_holds_90 : decode mX11_holds.2.1 90 = .ok (.iastore, 1) := by decide +kernel
theorem dX11_holds_91 : decode mX11_holds.2.1 91 = .ok (.iinc 1 1, 3) := by decide +kernel
theorem dX11_holds_94 : decode mX11_holds.2.1 94 = .ok (.goto (-92), 3) := by decide +kernel
theorem dX11_holds_97 : decode mX11_holds.2.1 97 = .ok (.return_, 1) := by decide +kernel
theorem dX11_holds__0 : decode mX11_holds_.2.1 0 = .ok (.aload_n 0, 1) := by decide +kernel
theorem dX11_holds__1 : decode mX11_holds_.2.1 1 = .ok (.getfield 127, 3) := by decide +kernel
theorem dX11_holds__4 : decode mX11_holds_.2.1 4 = .ok (.iload_n 1, 1) := by decide +kernel
theorem dX11_holds__5 : decode mX11_holds_.2.1 5 = .ok (.iaload, 1) := by decide +kernel
theorem dX11_holds__6 : decode mX11_holds_.2.1 6 = .ok (.istore_n 3, 1) := by decide +kernel
theorem dX11_holds__7 : decode mX11_holds_.2.1 7 = .ok (.iload_n 3, 1) := by decide +kernel
theorem dX11_holds__8 : decode mX11_holds_.2.1 8 = .ok (.iconst 4, 1) := by decide +kernel
theorem dX11_holds__9 : decode mX11_holds_.2.1 9 = .ok (.if_icmp .ge 19, 3) := by decide +kernel
theorem dX11_holds__12 : decode mX11_holds_.2.1 12 = .ok (.aload_n 0, 1) := by decide +kernel
theorem dX11_holds__13 : decode mX11_holds_.2.1 13 = .ok (.getfield 60, 3) := by decide +kernel
theorem dX11_holds__16 : decode mX11_holds_.2.1 16 = .ok (.iload_n 2, 1) := by decide +kernel
theorem dX11_holds__17 : decode mX11_holds_.2.1 17 = .ok (.iaload, 1) := by decide +kernel
theorem dX11_holds__18 : decode mX11_holds_.2.1 18 = .ok (.iload_n 3, 1) := by decide +kernel
theorem dX11_holds__19 : decode mX11_holds_.2.1 19 = .ok (.if_icmp .ne 7, 3) := by decide +kernel
theorem dX11_holds__22 : decode mX11_holds_.2.1 22 = .ok (.iconst 1, 1) := by decide +kernel
theorem dX11_holds__23 : decode mX11_holds_.2.1 23 = .ok (.goto 4, 3) := by decide +kernel
theorem dX11_holds__26 : decode mX11_holds_.2.1 26 = .ok (.iconst 0, 1) := by decide +kernel
theorem dX11_holds__27 : decode mX11_holds_.2.1 27 = .ok (.ireturn, 1) := by decide +kernel
theorem dX11_holds__28 : decode mX11_holds_.2.1 28 = .ok (.iload_n 3, 1) := by decide +kernel
theorem dX11_holds__29 : decode mX11_holds_.2.1 29 = .ok (.iconst 4, 1) := by decide +kernel
theorem dX11_holds__30 : decode mX11_holds_.2.1 30 = .ok (.if_icmp .ne 12, 3) := by decide +kernel
theorem dX11_holds__33 : decode mX11_holds_.2.1 33 = .ok (.aload_n 0, 1) := by decide +kernel
theorem dX11_holds__34 : decode mX11_holds_.2.1 34 = .ok (.getfield 63, 3) := by decide +kernel
theorem dX11_holds__37 : decode mX11_holds_.2.1 37 = .ok (.iload_n 2, 1) := by decide +kernel
theorem dX11_holds__38 : decode mX11_holds_.2.1 38 = .ok (.iaload, 1) := by decide +kernel
theorem dX11_holds__39 : decode mX11_holds_.2.1 39 = .ok (.goto 30, 3) := by decide +kernel
theorem dX11_holds__42 : decode mX11_holds_.2.1 42 = .ok (.iload_n 3, 1) := by decide +kernel
theorem dX11_holds__43 : decode mX11_holds_.2.1 43 = .ok (.iconst 5, 1) := by decide +kernel
theorem dX11_holds__44 : decode mX11_holds_.2.1 44 = .ok (.if_icmp .ne 19, 3) := by decide +kernel
theorem dX11_holds__47 : decode mX11_holds_.2.1 47 = .ok (.aload_n 0, 1) := by decide +kernel
theorem dX11_holds__48 : decode mX11_holds_.2.1 48 = .ok (.getfield 84, 3) := by decide +kernel
theorem dX11_holds__51 : decode mX11_holds_.2.1 51 = .ok (.iload_n 2, 1) := by decide +kernel
theorem dX11_holds__52 : decode mX11_holds_.2.1 52 = .ok (.iaload, 1) := by decide +kernel
theorem dX11_holds__53 : decode mX11_holds_.2.1 53 = .ok (.aload_n 0, 1) := by decide +kernel
theorem dX11_holds__54 : decode mX11_holds_.2.1 54 = .ok (.getfield 81, 3) := by decide +kernel
theorem dX11_holds__57 : decode mX11_holds_.2.1 57 = .ok (.iload_n 2, 1) := by decide +kernel
theorem dX11_holds__58 : decode mX11_holds_.2.1 58 = .ok (.iaload, 1) := by decide +kernel
theorem dX11_holds__59 : decode mX11_holds_.2.1 59 = .ok (.isub, 1) := by decide +kernel
theorem dX11_holds__60 : decode mX11_holds_.2.1 60 = .ok (.goto 9, 3) := by decide +kernel
theorem dX11_holds__63 : decode mX11_holds_.2.1 63 = .ok (.aload_n 0, 1) := by decide +kernel
theorem dX11_holds__64 : decode mX11_holds_.2.1 64 = .ok (.getfield 87, 3) := by decide +kernel
theorem dX11_holds__67 : decode mX11_holds_.2.1 67 = .ok (.iload_n 2, 1) := by decide +kernel
theorem dX11_holds__68 : decode mX11_holds_.2.1 68 = .ok (.iaload, 1) := by decide +kernel
theorem dX11_holds__69 : decode mX11_holds_.2.1 69 = .ok (.istore 4, 2) := by decide +kernel
theorem dX11_holds__71 : decode mX11_holds_.2.1 71 = .ok (.aload_n 0, 1) := by decide +kernel
theorem dX11_holds__72 : decode mX11_holds_.2.1 72 = .ok (.getfield 130, 3) := by decide +kernel
theorem dX11_holds__75 : decode mX11_holds_.2.1 75 = .ok (.iload_n 1, 1) := by decide +kernel
theorem dX11_holds__76 : decode mX11_holds_.2.1 76 = .ok (.iaload, 1) := by decide +kernel
theorem dX11_holds__77 : decode mX11_holds_.2.1 77 = .ok (.bipush 60, 2) := by decide +kernel
theorem dX11_holds__79 : decode mX11_holds_.2.1 79 = .ok (.if_icmp .ne 22, 3) := by decide +kernel
theorem dX11_holds__82 : decode mX11_holds_.2.1 82 = .ok (.iload 4, 2) := by decide +kernel
theorem dX11_holds__84 : decode mX11_holds_.2.1 84 = .ok (.aload_n 0, 1) := by decide +kernel
theorem dX11_holds__85 : decode mX11_holds_.2.1 85 = .ok (.getfield 133, 3) := by decide +kernel
theorem dX11_holds__88 : decode mX11_holds_.2.1 88 = .ok (.iload_n 1, 1) := by decide +kernel
theorem dX11_holds__89 : decode mX11_holds_.2.1 89 = .ok (.iaload, 1) := by decide +kernel
theorem dX11_holds__90 : decode mX11_holds_.2.1 90 = .ok (.if_icmp .ge 7, 3) := by decide +kernel
theorem dX11_holds__93 : decode mX11_holds_.2.1 93 = .ok (.iconst 1, 1) := by decide +kernel
theorem dX11_holds__94 : decode mX11_holds_.2.1 94 = .ok (.goto 53, 3) := by decide +kernel
theorem dX11_holds__97 : decode mX11_holds_.2.1 97 = .ok (.iconst 0, 1) := by decide +kernel
theorem dX11_holds__98 : decode mX11_holds_.2.1 98 = .ok (.goto 49, 3) := by decide +kernel
theorem dX11_holds__101 : decode mX11_holds_.2.1 101 = .ok (.aload_n 0, 1) := by decide +kernel
theorem dX11_holds__102 : decode mX11_holds_.2.1 102 = .ok (.getfield 130, 3) := by decide +kernel
theorem dX11_holds__105 : decode mX11_holds_.2.1 105 = .ok (.iload_n 1, 1) := by decide +kernel
theorem dX11_holds__106 : decode mX11_holds_.2.1 106 = .ok (.iaload, 1) := by decide +kernel
theorem dX11_holds__107 : decode mX11_holds_.2.1 107 = .ok (.bipush 62, 2) := by decide +kernel
theorem dX11_holds__109 : decode mX11_holds_.2.1 109 = .ok (.if_icmp .ne 22, 3) := by decide +kernel
theorem dX11_holds__112 : decode mX11_holds_.2.1 112 = .ok (.iload 4, 2) := by decide +kernel
theorem dX11_holds__114 : decode mX11_holds_.2.1 114 = .ok (.aload_n 0, 1) := by decide +kernel
theorem dX11_holds__115 : decode mX11_holds_.2.1 115 = .ok (.getfield 133, 3) := by decide +kernel
theorem dX11_holds__118 : decode mX11_holds_.2.1 118 = .ok (.iload_n 1, 1) := by decide +kernel
theorem dX11_holds__119 : decode mX11_holds_.2.1 119 = .ok (.iaload, 1) := by decide +kernel
theorem dX11_holds__120 : decode mX11_holds_.2.1 120 = .ok (.if_icmp .le 7, 3) := by decide +kernel
theorem dX11_holds__123 : decode mX11_holds_.2.1 123 = .ok (.iconst 1, 1) := by decide +kernel
theorem dX11_holds__124 : decode mX11_holds_.2.1 124 = .ok (.goto 23, 3) := by decide +kernel
theorem dX11_holds__127 : decode mX11_holds_.2.1 127 = .ok (.iconst 0, 1) := by decide +kernel
theorem dX11_holds__128 : decode mX11_holds_.2.1 128 = .ok (.goto 19, 3) := by decide +kernel
theorem dX11_holds__131 : decode mX11_holds_.2.1 131 = .ok (.iload 4, 2) := by decide +kernel
theorem dX11_holds__133 : decode mX11_holds_.2.1 133 = .ok (.aload_n 0, 1) := by decide +kernel
theorem dX11_holds__134 : decode mX11_holds_.2.1 134 = .ok (.getfield 133, 3) := by decide +kernel
theorem dX11_holds__137 : decode mX11_holds_.2.1 137 = .ok (.iload_n 1, 1) := by decide +kernel
theorem dX11_holds__138 : decode mX11_holds_.2.1 138 = .ok (.iaload, 1) := by decide +kernel
theorem dX11_holds__139 : decode mX11_holds_.2.1 139 = .ok (.if_icmp .ne 7, 3) := by decide +kernel
theorem dX11_holds__142 : decode mX11_holds_.2.1 142 = .ok (.iconst 1, 1) := by decide +kernel
theorem dX11_holds__143 : decode mX11_holds_.2.1 143 = .ok (.goto 4, 3) := by decide +kernel
theorem dX11_holds__146 : decode mX11_holds_.2.1 146 = .ok (.iconst 0, 1) := by decide +kernel
theorem dX11_holds__147 : decode mX11_holds_.2.1 147 = .ok (.ireturn, 1) := by decide +kernel
theorem dX11_hours_0 : decode mX11_hours.2.1 0 = .ok (.aload_n 0, 1) := by decide +kernel
theorem dX11_hours_1 : decode mX11_hours.2.1 1 = .ok (.iconst 0, 1) := by decide +kernel
theorem dX11_hours_2 : decode mX11_hours.2.1 2 = .ok (.putfield 1, 3) := by decide +kernel
theorem dX11_hours_5 : decode mX11_hours.2.1 5 = .ok (.iload_n 1, 1) := by decide +kernel
theorem dX11_hours_6 : decode mX11_hours.2.1 6 = .ok (.iconst 1, 1) := by decide +kernel
theorem dX11_hours_7 : decode mX11_hours.2.1 7 = .ok (.bipush 100, 2) := by decide +kernel
theorem dX11_hours_9 : decode mX11_hours.2.1 9 = .ok (.invokestatic 139, 3) := by decide +kernel
theorem dX11_hours_12 : decode mX11_hours.2.1 12 = .ok (.ifCond .eq 15, 3) := by decide +kernel
theorem dX11_hours_15 : decode mX11_hours.2.1 15 = .ok (.aload_n 0, 1) := by decide +kernel
theorem dX11_hours_16 : decode mX11_hours.2.1 16 = .ok (.getfield 150, 3) := by decide +kernel
theorem dX11_hours_19 : decode mX11_hours.2.1 19 = .ok (.iload_n 1, 1) := by decide +kernel
theorem dX11_hours_20 : decode mX11_hours.2.1 20 = .ok (.iadd, 1) := by decide +kernel
theorem dX11_hours_21 : decode mX11_hours.2.1 21 = .ok (.sipush 9999, 3) := by decide +kernel
theorem dX11_hours_24 : decode mX11_hours.2.1 24 = .ok (.if_icmp .le 5, 3) := by decide +kernel
theorem dX11_hours_27 : decode mX11_hours.2.1 27 = .ok (.iconst (-1), 1) := by decide +kernel
theorem dX11_hours_28 : decode mX11_hours.2.1 28 = .ok (.ireturn, 1) := by decide +kernel
theorem dX11_hours_29 : decode mX11_hours.2.1 29 = .ok (.iconst 0, 1) := by decide +kernel
theorem dX11_hours_30 : decode mX11_hours.2.1 30 = .ok (.istore_n 2, 1) := by decide +kernel
theorem dX11_hours_31 : decode mX11_hours.2.1 31 = .ok (.iload_n 2, 1) := by decide +kernel
theorem dX11_hours_32 : decode mX11_hours.2.1 32 = .ok (.iload_n 1, 1) := by decide +kernel
theorem dX11_hours_33 : decode mX11_hours.2.1 33 = .ok (.if_icmp .ge 13, 3) := by decide +kernel
theorem dX11_hours_36 : decode mX11_hours.2.1 36 = .ok (.aload_n 0, 1) := by decide +kernel
theorem dX11_hours_37 : decode mX11_hours.2.1 37 = .ok (.invokevirtual 210, 3) := by decide +kernel
theorem dX11_hours_40 : decode mX11_hours.2.1 40 = .ok (.iinc 2 1, 3) := by decide +kernel
theorem dX11_hours_43 : decode mX11_hours.2.1 43 = .ok (.goto (-12), 3) := by decide +kernel
theorem dX11_hours_46 : decode mX11_hours.2.1 46 = .ok (.aload_n 0, 1) := by decide +kernel
theorem dX11_hours_47 : decode mX11_hours.2.1 47 = .ok (.getfield 150, 3) := by decide +kernel
theorem dX11_hours_50 : decode mX11_hours.2.1 50 = .ok (.ireturn, 1) := by decide +kernel
theorem dX11_init_0 : decode mX11_init.2.1 0 = .ok (.aload_n 0, 1) := by decide +kernel
theorem dX11_init_1 : decode mX11_init.2.1 1 = .ok (.invokespecial 7, 3) := by decide +kernel
theorem dX11_init_4 : decode mX11_init.2.1 4 = .ok (.aload_n 0, 1) := by decide +kernel
theorem dX11_init_5 : decode mX11_init.2.1 5 = .ok (.bipush 6, 2) := by decide +kernel
theorem dX11_init_7 : decode mX11_init.2.1 7 = .ok (.newarray .int, 2) := by decide +kernel
theorem dX11_init_9 : decode mX11_init.2.1 9 = .ok (.putfield 13, 3) := by decide +kernel
theorem dX11_init_12 : decode mX11_init.2.1 12 = .ok (.aload_n 0, 1) := by decide +kernel
theorem dX11_init_13 : decode mX11_init.2.1 13 = .ok (.bipush 6, 2) := by decide +kernel
theorem dX11_init_15 : decode mX11_init.2.1 15 = .ok (.newarray .int, 2) := by decide +kernel
theorem dX11_init_17 : decode mX11_init.2.1 17 = .ok (.putfield 17, 3) := by decide +kernel
theorem dX11_init_20 : decode mX11_init.2.1 20 = .ok (.aload_n 0, 1) := by decide +kernel
theorem dX11_init_21 : decode mX11_init.2.1 21 = .ok (.bipush 6, 2) := by decide +kernel
theorem dX11_init_23 : decode mX11_init.2.1 23 = .ok (.newarray .boolean, 2) := by decide +kernel
theorem dX11_init_25 : decode mX11_init.2.1 25 = .ok (.putfield 20, 3) := by decide +kernel
theorem dX11_init_28 : decode mX11_init.2.1 28 = .ok (.aload_n 0, 1) := by decide +kernel
theorem dX11_init_29 : decode mX11_init.2.1 29 = .ok (.bipush 60, 2) := by decide +kernel
theorem dX11_init_31 : decode mX11_init.2.1 31 = .ok (.newarray .int, 2) := by decide +kernel
theorem dX11_init_33 : decode mX11_init.2.1 33 = .ok (.putfield 24, 3) := by decide +kernel
theorem dX11_init_36 : decode mX11_init.2.1 36 = .ok (.aload_n 0, 1) := by decide +kernel
theorem dX11_init_37 : decode mX11_init.2.1 37 = .ok (.bipush 60, 2) := by decide +kernel
theorem dX11_init_39 : decode mX11_init.2.1 39 = .ok (.newarray .int, 2) := by decide +kernel
theorem dX11_init_41 : decode mX11_init.2.1 41 = .ok (.putfield 27, 3) := by decide +kernel
theorem dX11_init_44 : decode mX11_init.2.1 44 = .ok (.aload_n 0, 1) := by decide +kernel
theorem dX11_init_45 : decode mX11_init.2.1 45 = .ok (.bipush 60, 2) := by decide +kernel
theorem dX11_init_47 : decode mX11_init.2.1 47 = .ok (.newarray .int, 2) := by decide +kernel
theorem dX11_init_49 : decode mX11_init.2.1 49 = .ok (.putfield 30, 3) := by decide +kernel
theorem dX11_init_52 : decode mX11_init.2.1 52 = .ok (.aload_n 0, 1) := by decide +kernel
theorem dX11_init_53 : decode mX11_init.2.1 53 = .ok (.bipush 60, 2) := by decide +kernel
theorem dX11_init_55 : decode mX11_init.2.1 55 = .ok (.newarray .int, 2) := by decide +kernel
theorem dX11_init_57 : decode mX11_init.2.1 57 = .ok (.putfield 33, 3) := by decide +kernel
theorem dX11_init_60 : decode mX11_init.2.1 60 = .ok (.aload_n 0, 1) := by decide +kernel
theorem dX11_init_61 : decode mX11_init.2.1 61 = .ok (.iconst 4, 1) := by decide +kernel
theorem dX11_init_62 : decode mX11_init.2.1 62 = .ok (.newarray .int, 2) := by decide +kernel
theorem dX11_init_64 : decode mX11_init.2.1 64 = .ok (.putfield 36, 3) := by decide +kernel
theorem dX11_init_67 : decode mX11_init.2.1 67 = .ok (.aload_n 0, 1) := by decide +kernel
theorem dX11_init_68 : decode mX11_init.2.1 68 = .ok (.iconst 4, 1) := by decide +kernel
theorem dX11_init_69 : decode mX11_init.2.1 69 = .ok (.newarray .int, 2) := by decide +kernel
theorem dX11_init_71 : decode mX11_init.2.1 71 = .ok (.putfield 39, 3) := by decide +kernel
theorem dX11_init_74 : decode mX11_init.2.1 74 = .ok (.aload_n 0, 1) := by decide +kernel
theorem dX11_init_75 : decode mX11_init.2.1 75 = .ok (.iconst 4, 1) := by decide +kernel
theorem dX11_init_76 : decode mX11_init.2.1 76 = .ok (.newarray .boolean, 2) := by decide +kernel
theorem dX11_init_78 : decode mX11_init.2.1 78 = .ok (.putfield 42, 3) := by decide +kernel
theorem dX11_init_81 : decode mX11_init.2.1 81 = .ok (.aload_n 0, 1) := by decide +kernel
theorem dX11_init_82 : decode mX11_init.2.1 82 = .ok (.iconst 4, 1) := by decide +kernel
theorem dX11_init_83 : decode mX11_init.2.1 83 = .ok (.newarray .int, 2) := by decide +kernel
theorem dX11_init_85 : decode mX11_init.2.1 85 = .ok (.putfield 45, 3) := by decide +kernel
theorem dX11_init_88 : decode mX11_init.2.1 88 = .ok (.aload_n 0, 1) := by decide +kernel
theorem dX11_init_89 : decode mX11_init.2.1 89 = .ok (.bipush 12, 2) := by decide +kernel
theorem dX11_init_91 : decode mX11_init.2.1 91 = .ok (.newarray .int, 2) := by decide +kernel
theorem dX11_init_93 : decode mX11_init.2.1 93 = .ok (.putfield 48, 3) := by decide +kernel
theorem dX11_init_96 : decode mX11_init.2.1 96 = .ok (.aload_n 0, 1) := by decide +kernel
theorem dX11_init_97 : decode mX11_init.2.1 97 = .ok (.bipush 12, 2) := by decide +kernel
theorem dX11_init_99 : decode mX11_init.2.1 99 = .ok (.newarray .int, 2) := by decide +kernel
theorem dX11_init_101 : decode mX11_init.2.1 101 = .ok (.putfield 51, 3) := by decide +kernel
theorem dX11_init_104 : decode mX11_init.2.1 104 = .ok (.aload_n 0, 1) := by decide +kernel
theorem dX11_init_105 : decode mX11_init.2.1 105 = .ok (.bipush 12, 2) := by decide +kernel
theorem dX11_init_107 : decode mX11_init.2.1 107 = .ok (.newarray .boolean, 2) := by decide +kernel
theorem dX11_init_109 : decode mX11_init.2.1 109 = .ok (.putfield 54, 3) := by decide +kernel
theorem dX11_init_112 : decode mX11_init.2.1 112 = .ok (.aload_n 0, 1) := by decide +kernel
theorem dX11_init_113 : decode mX11_init.2.1 113 = .ok (.bipush 12, 2) := by decide +kernel
theorem dX11_init_115 : decode mX11_init.2.1 115 = .ok (.newarray .int, 2) := by decide +kernel
theorem dX11_init_117 : decode mX11_init.2.1 117 = .ok (.putfield 57, 3) := by decide +kernel
theorem dX11_init_120 : decode mX11_init.2.1 120 = .ok (.aload_n 0, 1) := by decide +kernel
theorem dX11_init_121 : decode mX11_init.2.1 121 = .ok (.bipush 100, 2) := by decide +kernel
theorem dX11_init_123 : decode mX11_init.2.1 123 = .ok (.newarray .int, 2) := by decide +kernel
theorem dX11_init_125 : decode mX11_init.2.1 125 = .ok (.putfield 60, 3) := by decide +kernel
theorem dX11_init_128 : decode mX11_init.2.1 128 = .ok (.aload_n 0, 1) := by decide +kernel
theorem dX11_init_129 : decode mX11_init.2.1 129 = .ok (.bipush 100, 2) := by decide +kernel
theorem dX11_init_131 : decode mX11_init.2.1 131 = .ok (.newarray .int, 2) := by decide +kernel
theorem dX11_init_133 : decode mX11_init.2.1 133 = .ok (.putfield 63, 3) := by decide +kernel
theorem dX11_init_136 : decode mX11_init.2.1 136 = .ok (.aload_n 0, 1) := by decide +kernel
theorem dX11_init_137 : decode mX11_init.2.1 137 = .ok (.bipush 100, 2) := by decide +kernel
theorem dX11_init_139 : decode mX11_init.2.1 139 = .ok (.newarray .int, 2) := by decide +kernel
theorem dX11_init_141 : decode mX11_init.2.1 141 = .ok (.putfield 66, 3) := by decide +kernel
theorem dX11_init_144 : decode mX11_init.2.1 144 = .ok (.aload_n 0, 1) := by decide +kernel
theorem dX11_init_145 : decode mX11_init.2.1 145 = .ok (.bipush 100, 2) := by decide +kernel
theorem dX11_init_147 : decode mX11_init.2.1 147 = .ok (.newarray .int, 2) := by decide +kernel
theorem dX11_init_149 : decode mX11_init.2.1 149 = .ok (.putfield 69, 3) := by decide +kernel
theorem dX11_init_152 : decode mX11_init.2.1 152 = .ok (.aload_n 0, 1) := by decide +kernel
theorem dX11_init_153 : decode mX11_init.2.1 153 = .ok (.bipush 100, 2) := by decide +kernel
theorem dX11_init_155 : decode mX11_init.2.1 155 = .ok (.newarray .int, 2) := by decide +kernel
theorem dX11_init_157 : decode mX11_init.2.1 157 = .ok (.putfield 72, 3) := by decide +kernel
theorem dX11_init_160 : decode mX11_init.2.1 160 = .ok (.aload_n 0, 1) := by decide +kernel
theorem dX11_init_161 : decode mX11_init.2.1 161 = .ok (.bipush 100, 2) := by decide +kernel
theorem dX11_init_163 : decode mX11_init.2.1 163 = .ok (.newarray .int, 2) := by decide +kernel
theorem dX11_init_165 : decode mX11_init.2.1 165 = .ok (.putfield 75, 3) := by decide +kernel
theorem dX11_init_168 : decode mX11_init.2.1 168 = .ok (.aload_n 0, 1) := by decide +kernel
theorem dX11_init_169 : decode mX11_init.2.1 169 = .ok (.bipush 100, 2) := by decide +kernel
theorem dX11_init_171 : decode mX11_init.2.1 171 = .ok (.newarray .int, 2) := by decide +kernel
theorem dX11_init_173 : decode mX11_init.2.1 173 = .ok (.putfield 78, 3) := by decide +kernel
theorem dX11_init_176 : decode mX11_init.2.1 176 = .ok (.aload_n 0, 1) := by decide +kernel
theorem dX11_init_177 : decode mX11_init.2.1 177 = .ok (.bipush 100, 2) := by decide +kernel
theorem dX11_init_179 : decode mX11_init.2.1 179 = .ok (.newarray .int, 2) := by decide +kernel
theorem dX11_init_181 : decode mX11_init.2.1 181 = .ok (.putfield 81, 3) := by decide +kernel
theorem dX11_init_184 : decode mX11_init.2.1 184 = .ok (.aload_n 0, 1) := by decide +kernel
theorem dX11_init_185 : decode mX11_init.2.1 185 = .ok (.bipush 100, 2) := by decide +kernel
theorem dX11_init_187 : decode mX11_init.2.1 187 = .ok (.newarray .int, 2) := by decide +kernel
theorem dX11_init_189 : decode mX11_init.2.1 189 = .ok (.putfield 84, 3) := by decide +kernel
theorem dX11_init_192 : decode mX11_init.2.1 192 = .ok (.aload_n 0, 1) := by decide +kernel
theorem dX11_init_193 : decode mX11_init.2.1 193 = .ok (.bipush 100, 2) := by decide +kernel
theorem dX11_init_195 : decode mX11_init.2.1 195 = .ok (.newarray .int, 2) := by decide +kernel
theorem dX11_init_197 : decode mX11_init.2.1 197 = .ok (.putfield 87, 3) := by decide +kernel
theorem dX11_init_200 : decode mX11_init.2.1 200 = .ok (.aload_n 0, 1) := by decide +kernel
theorem dX11_init_201 : decode mX11_init.2.1 201 = .ok (.sipush 700, 3) := by decide +kernel
theorem dX11_init_204 : decode mX11_init.2.1 204 = .ok (.newarray .int, 2) := by decide +kernel
theorem dX11_init_206 : decode mX11_init.2.1 206 = .ok (.putfield 90, 3) := by decide +kernel
theorem dX11_init_209 : decode mX11_init.2.1 209 = .ok (.aload_n 0, 1) := by decide +kernel
theorem dX11_init_210 : decode mX11_init.2.1 210 = .ok (.sipush 700, 3) := by decide +kernel
theorem dX11_init_213 : decode mX11_init.2.1 213 = .ok (.newarray .int, 2) := by decide +kernel
theorem dX11_init_215 : decode mX11_init.2.1 215 = .ok (.putfield 93, 3) := by decide +kernel
theorem dX11_init_218 : decode mX11_init.2.1 218 = .ok (.aload_n 0, 1) := by decide +kernel
theorem dX11_init_219 : decode mX11_init.2.1 219 = .ok (.sipush 700, 3) := by decide +kernel
theorem dX11_init_222 : decode mX11_init.2.1 222 = .ok (.newarray .int, 2) := by decide +kernel
theorem dX11_init_224 : decode mX11_init.2.1 224 = .ok (.putfield 96, 3) := by decide +kernel
theorem dX11_init_227 : decode mX11_init.2.1 227 = .ok (.aload_n 0, 1) := by decide +kernel
theorem dX11_init_228 : decode mX11_init.2.1 228 = .ok (.bipush 10, 2) := by decide +kernel
theorem dX11_init_230 : decode mX11_init.2.1 230 = .ok (.newarray .int, 2) := by decide +kernel
theorem dX11_init_232 : decode mX11_init.2.1 232 = .ok (.putfield 99, 3) := by decide +kernel
theorem dX11_init_235 : decode mX11_init.2.1 235 = .ok (.aload_n 0, 1) := by decide +kernel
theorem dX11_init_236 : decode mX11_init.2.1 236 = .ok (.bipush 10, 2) := by decide +kernel
theorem dX11_init_238 : decode mX11_init.2.1 238 = .ok (.newarray .int, 2) := by decide +kernel
theorem dX11_init_240 : decode mX11_init.2.1 240 = .ok (.putfield 102, 3) := by decide +kernel
theorem dX11_init_243 : decode mX11_init.2.1 243 = .ok (.aload_n 0, 1) := by decide +kernel
theorem dX11_init_244 : decode mX11_init.2.1 244 = .ok (.bipush 10, 2) := by decide +kernel
theorem dX11_init_246 : decode mX11_init.2.1 246 = .ok (.newarray .int, 2) := by decide +kernel
theorem dX11_init_248 : decode mX11_init.2.1 248 = .ok (.putfield 105, 3) := by decide +kernel
theorem dX11_init_251 : decode mX11_init.2.1 251 = .ok (.aload_n 0, 1) := by decide +kernel
theorem dX11_init_252 : decode mX11_init.2.1 252 = .ok (.sipush 400, 3) := by decide +kernel
theorem dX11_init_255 : decode mX11_init.2.1 255 = .ok (.newarray .byte, 2) := by decide +kernel
theorem dX11_init_257 : decode mX11_init.2.1 257 = .ok (.putfield 108, 3) := by decide +kernel
theorem dX11_init_260 : decode mX11_init.2.1 260 = .ok (.aload_n 0, 1) := by decide +kernel
theorem dX11_init_261 : decode mX11_init.2.1 261 = .ok (.iconst (-1), 1) := by decide +kernel
theorem dX11_init_262 : decode mX11_init.2.1 262 = .ok (.putfield 112, 3) := by decide +kernel
theorem dX11_init_265 : decode mX11_init.2.1 265 = .ok (.aload_n 0, 1) := by decide +kernel
theorem dX11_init_266 : decode mX11_init.2.1 266 = .ok (.bipush 11, 2) := by decide +kernel
theorem dX11_init_268 : decode mX11_init.2.1 268 = .ok (.newarray .int, 2) := by decide +kernel
theorem dX11_init_270 : decode mX11_init.2.1 270 = .ok (.putfield 115, 3) := by decide +kernel
theorem dX11_init_273 : decode mX11_init.2.1 273 = .ok (.aload_n 0, 1) := by decide +kernel
theorem dX11_init_274 : decode mX11_init.2.1 274 = .ok (.bipush 11, 2) := by decide +kernel
theorem dX11_init_276 : decode mX11_init.2.1 276 = .ok (.newarray .int, 2) := by decide +kernel
theorem dX11_init_278 : decode mX11_init.2.1 278 = .ok (.putfield 118, 3) := by decide +kernel
theorem dX11_init_281 : decode mX11_init.2.1 281 = .ok (.aload_n 0, 1) := by decide +kernel
theorem dX11_init_282 : decode mX11_init.2.1 282 = .ok (.sipush 220, 3) := by decide +kernel
theorem dX11_init_285 : decode mX11_init.2.1 285 = .ok (.newarray .int, 2) := by decide +kernel
theorem dX11_init_287 : decode mX11_init.2.1 287 = .ok (.putfield 121, 3) := by decide +kernel
theorem dX11_init_290 : decode mX11_init.2.1 290 = .ok (.aload_n 0, 1) := by decide +kernel
theorem dX11_init_291 : decode mX11_init.2.1 291 = .ok (.sipush 220, 3) := by decide +kernel
theorem dX11_init_294 : decode mX11_init.2.1 294 = .ok (.newarray .int, 2) := by decide +kernel
theorem dX11_init_296 : decode mX11_init.2.1 296 = .ok (.putfield 124, 3) := by decide +kernel
theorem dX11_init_299 : decode mX11_init.2.1 299 = .ok (.aload_n 0, 1) := by decide +kernel
theorem dX11_init_300 : decode mX11_init.2.1 300 = .ok (.sipush 880, 3) := by decide +kernel
theorem dX11_init_303 : decode mX11_init.2.1 303 = .ok (.newarray .int, 2) := by decide +kernel
theorem dX11_init_305 : decode mX11_init.2.1 305 = .ok (.putfield 127, 3) := by decide +kernel
theorem dX11_init_308 : decode mX11_init.2.1 308 = .ok (.aload_n 0, 1) := by decide +kernel
theorem dX11_init_309 : decode mX11_init.2.1 309 = .ok (.sipush 880, 3) := by decide +kernel
theorem dX11_init_312 : decode mX11_init.2.1 312 = .ok (.newarray .int, 2) := by decide +kernel
theorem dX11_init_314 : decode mX11_init.2.1 314 = .ok (.putfield 130, 3) := by decide +kernel
theorem dX11_init_317 : decode mX11_init.2.1 317 = .ok (.aload_n 0, 1) := by decide +kernel
theorem dX11_init_318 : decode mX11_init.2.1 318 = .ok (.sipush 880, 3) := by decide +kernel
theorem dX11_init_321 : decode mX11_init.2.1 321 = .ok (.newarray .int, 2) := by decide +kernel
theorem dX11_init_323 : decode mX11_init.2.1 323 = .ok (.putfield 133, 3) := by decide +kernel
theorem dX11_init_326 : decode mX11_init.2.1 326 = .ok (.return_, 1) := by decide +kernel
theorem dX11_inn_0 : decode mX11_inn.2.1 0 = .ok (.aload_n 0, 1) := by decide +kernel
theorem dX11_inn_1 : decode mX11_inn.2.1 1 = .ok (.iconst 0, 1) := by decide +kernel
theorem dX11_inn_2 : decode mX11_inn.2.1 2 = .ok (.putfield 1, 3) := by decide +kernel
theorem dX11_inn_5 : decode mX11_inn.2.1 5 = .ok (.aload_n 0, 1) := by decide +kernel
theorem dX11_inn_6 : decode mX11_inn.2.1 6 = .ok (.getfield 136, 3) := by decide +kernel
theorem dX11_inn_9 : decode mX11_inn.2.1 9 = .ok (.bipush 6, 2) := by decide +kernel
theorem dX11_inn_11 : decode mX11_inn.2.1 11 = .ok (.if_icmp .ne 5, 3) := by decide +kernel
theorem dX11_inn_14 : decode mX11_inn.2.1 14 = .ok (.iconst (-1), 1) := by decide +kernel
theorem dX11_inn_15 : decode mX11_inn.2.1 15 = .ok (.ireturn, 1) := by decide +kernel
theorem dX11_inn_16 : decode mX11_inn.2.1 16 = .ok (.aload_n 0, 1) := by decide +kernel
theorem dX11_inn_17 : decode mX11_inn.2.1 17 = .ok (.getfield 136, 3) := by decide +kernel
theorem dX11_inn_20 : decode mX11_inn.2.1 20 = .ok (.ifCond .ne 23, 3) := by decide +kernel
theorem dX11_inn_23 : decode mX11_inn.2.1 23 = .ok (.iload_n 1, 1) := by decide +kernel
theorem dX11_inn_24 : decode mX11_inn.2.1 24 = .ok (.ifCond .ne 15, 3) := by decide +kernel
theorem dX11_inn_27 : decode mX11_inn.2.1 27 = .ok (.iload_n 2, 1) := by decide +kernel
theorem dX11_inn_28 : decode mX11_inn.2.1 28 = .ok (.ifCond .ne 11, 3) := by decide +kernel
theorem dX11_inn_31 : decode mX11_inn.2.1 31 = .ok (.iload_n 3, 1) := by decide +kernel
theorem dX11_inn_32 : decode mX11_inn.2.1 32 = .ok (.ifCond .ne 7, 3) := by decide +kernel
theorem dX11_inn_35 : decode mX11_inn.2.1 35 = .ok (.iconst 1, 1) := by decide +kernel
theorem dX11_inn_36 : decode mX11_inn.2.1 36 = .ok (.goto 32, 3) := by decide +kernel
theorem dX11_inn_39 : decode mX11_inn.2.1 39 = .ok (.iconst 0, 1) := by decide +kernel
theorem dX11_inn_40 : decode mX11_inn.2.1 40 = .ok (.goto 28, 3) := by decide +kernel
theorem dX11_inn_43 : decode mX11_inn.2.1 43 = .ok (.iload_n 1, 1) := by decide +kernel
theorem dX11_inn_44 : decode mX11_inn.2.1 44 = .ok (.iconst 1, 1) := by decide +kernel
theorem dX11_inn_45 : decode mX11_inn.2.1 45 = .ok (.bipush 9, 2) := by decide +kernel
theorem dX11_inn_47 : decode mX11_inn.2.1 47 = .ok (.invokestatic 139, 3) := by decide +kernel
theorem dX11_inn_50 : decode mX11_inn.2.1 50 = .ok (.ifCond .eq 17, 3) := by decide +kernel
theorem dX11_inn_53 : decode mX11_inn.2.1 53 = .ok (.iload_n 2, 1) := by decide +kernel
theorem dX11_inn_54 : decode mX11_inn.2.1 54 = .ok (.iconst 0, 1) := by decide +kernel
theorem dX11_inn_55 : decode mX11_inn.2.1 55 = .ok (.bipush 9, 2) := by decide +kernel
theorem dX11_inn_57 : decode mX11_inn.2.1 57 = .ok (.invokestatic 139, 3) := by decide +kernel
theorem dX11_inn_60 : decode mX11_inn.2.1 60 = .ok (.ifCond .eq 7, 3) := by decide +kernel
theorem dX11_inn_63 : decode mX11_inn.2.1 63 = .ok (.iconst 1, 1) := by decide +kernel
theorem dX11_inn_64 : decode mX11_inn.2.1 64 = .ok (.goto 4, 3) := by decide +kernel
theorem dX11_inn_67 : decode mX11_inn.2.1 67 = .ok (.iconst 0, 1) := by decide +kernel
theorem dX11_inn_68 : decode mX11_inn.2.1 68 = .ok (.istore 4, 2) := by decide +kernel
theorem dX11_inn_70 : decode mX11_inn.2.1 70 = .ok (.iload 4, 2) := by decide +kernel
theorem dX11_inn_72 : decode mX11_inn.2.1 72 = .ok (.ifCond .ne 5, 3) := by decide +kernel
theorem dX11_inn_75 : decode mX11_inn.2.1 75 = .ok (.iconst (-1), 1) := by decide +kernel
theorem dX11_inn_76 : decode mX11_inn.2.1 76 = .ok (.ireturn, 1) := by decide +kernel
theorem dX11_inn_77 : decode mX11_inn.2.1 77 = .ok (.aload_n 0, 1) := by decide +kernel
theorem dX11_inn_78 : decode mX11_inn.2.1 78 = .ok (.getfield 136, 3) := by decide +kernel
theorem dX11_inn_81 : decode mX11_inn.2.1 81 = .ok (.ifCond .le 39, 3) := by decide +kernel
theorem dX11_inn_84 : decode mX11_inn.2.1 84 = .ok (.aload_n 0, 1) := by decide +kernel
theorem dX11_inn_85 : decode mX11_inn.2.1 85 = .ok (.getfield 13, 3) := by decide +kernel
theorem dX11_inn_88 : decode mX11_inn.2.1 88 = .ok (.aload_n 0, 1) := by decide +kernel
theorem dX11_inn_89 : decode mX11_inn.2.1 89 = .ok (.getfield 136, 3) := by decide +kernel
theorem dX11_inn_92 : decode mX11_inn.2.1 92 = .ok (.iconst 1, 1) := by decide +kernel
theorem dX11_inn_93 : decode mX11_inn.2.1 93 = .ok (.isub, 1) := by decide +kernel
theorem dX11_inn_94 : decode mX11_inn.2.1 94 = .ok (.iload_n 1, 1) := by decide +kernel
theorem dX11_inn_95 : decode mX11_inn.2.1 95 = .ok (.iastore, 1) := by decide +kernel
theorem dX11_inn_96 : decode mX11_inn.2.1 96 = .ok (.aload_n 0, 1) := by decide +kernel
theorem dX11_inn_97 : decode mX11_inn.2.1 97 = .ok (.getfield 17, 3) := by decide +kernel
theorem dX11_inn_100 : decode mX11_inn.2.1 100 = .ok (.aload_n 0, 1) := by decide +kernel
theorem dX11_inn_101 : decode mX11_inn.2.1 101 = .ok (.getfield 136, 3) := by decide +kernel
theorem dX11_inn_104 : decode mX11_inn.2.1 104 = .ok (.iconst 1, 1) := by decide +kernel
theorem dX11_inn_105 : decode mX11_inn.2.1 105 = .ok (.isub, 1) := by decide +kernel
theorem dX11_inn_106 : decode mX11_inn.2.1 106 = .ok (.iload_n 2, 1) := by decide +kernel
theorem dX11_inn_107 : decode mX11_inn.2.1 107 = .ok (.iastore, 1) := by decide +kernel
theorem dX11_inn_108 : decode mX11_inn.2.1 108 = .ok (.aload_n 0, 1) := by decide +kernel
theorem dX11_inn_109 : decode mX11_inn.2.1 109 = .ok (.getfield 20, 3) := by decide +kernel
theorem dX11_inn_112 : decode mX11_inn.2.1 112 = .ok (.aload_n 0, 1) := by decide +kernel
theorem dX11_inn_113 : decode mX11_inn.2.1 113 = .ok (.getfield 136, 3) := by decide +kernel
theorem dX11_inn_116 : decode mX11_inn.2.1 116 = .ok (.iconst 1, 1) := by decide +kernel
theorem dX11_inn_117 : decode mX11_inn.2.1 117 = .ok (.isub, 1) := by decide +kernel
theorem dX11_inn_118 : decode mX11_inn.2.1 118 = .ok (.iload_n 3, 1) := by decide +kernel
theorem dX11_inn_119 : decode mX11_inn.2.1 119 = .ok (.bastore, 1) := by decide +kernel
theorem dX11_inn_120 : decode mX11_inn.2.1 120 = .ok (.aload_n 0, 1) := by decide +kernel
theorem dX11_inn_121 : decode mX11_inn.2.1 121 = .ok (.dup, 1) := by decide +kernel
theorem dX11_inn_122 : decode mX11_inn.2.1 122 = .ok (.getfield 136, 3) := by decide +kernel
theorem dX11_inn_125 : decode mX11_inn.2.1 125 = .ok (.iconst 1, 1) := by decide +kernel
theorem dX11_inn_126 : decode mX11_inn.2.1 126 = .ok (.iadd, 1) := by decide +kernel
theorem dX11_inn_127 : decode mX11_inn.2.1 127 = .ok (.putfield 136, 3) := by decide +kernel
theorem dX11_inn_130 : decode mX11_inn.2.1 130 = .ok (.aload_n 0, 1) := by decide +kernel
theorem dX11_inn_131 : decode mX11_inn.2.1 131 = .ok (.getfield 136, 3) := by decide +kernel
theorem dX11_inn_134 : decode mX11_inn.2.1 134 = .ok (.iconst 1, 1) := by decide +kernel
theorem dX11_inn_135 : decode mX11_inn.2.1 135 = .ok (.isub, 1) := by decide +kernel
theorem dX11_inn_136 : decode mX11_inn.2.1 136 = .ok (.ireturn, 1) := by decide +kernel
theorem dX11_innOf_0 : decode mX11_innOf.2.1 0 = .ok (.aload_n 0, 1) := by decide +kernel
theorem dX11_innOf_1 : decode mX11_innOf.2.1 1 = .ok (.getfield 69, 3) := by decide +kernel
theorem dX11_innOf_4 : decode mX11_innOf.2.1 4 = .ok (.iload_n 1, 1) := by decide +kernel
theorem dX11_innOf_5 : decode mX11_innOf.2.1 5 = .ok (.iaload, 1) := by decide +kernel
theorem dX11_innOf_6 : decode mX11_innOf.2.1 6 = .ok (.ifCond .ne 12, 3) := by decide +kernel
theorem dX11_innOf_9 : decode mX11_innOf.2.1 9 = .ok (.aload_n 0, 1) := by decide +kernel
theorem dX11_innOf_10 : decode mX11_innOf.2.1 10 = .ok (.getfield 72, 3) := by decide +kernel
theorem dX11_innOf_13 : decode mX11_innOf.2.1 13 = .ok (.iload_n 1, 1) := by decide +kernel
theorem dX11_innOf_14 : decode mX11_innOf.2.1 14 = .ok (.iaload, 1) := by decide +kernel
theorem dX11_innOf_15 : decode mX11_innOf.2.1 15 = .ok (.goto 16, 3) := by decide +kernel
theorem dX11_innOf_18 : decode mX11_innOf.2.1 18 = .ok (.aload_n 0, 1) := by decide +kernel
theorem dX11_innOf_19 : decode mX11_innOf.2.1 19 = .ok (.getfield 36, 3) := by decide +kernel
theorem dX11_innOf_22 : decode mX11_innOf.2.1 22 = .ok (.aload_n 0, 1) := by decide +kernel
theorem dX11_innOf_23 : decode mX11_innOf.2.1 23 = .ok (.getfield 75, 3) := by decide +kernel
theorem dX11_innOf_26 : decode mX11_innOf.2.1 26 = .ok (.iload_n 1, 1) := by decide +kernel
theorem dX11_innOf_27 : decode mX11_innOf.2.1 27 = .ok (.iaload, 1) := by decide +kernel
theorem dX11_innOf_28 : decode mX11_innOf.2.1 28 = .ok (.iconst 3, 1) := by decide +kernel
theorem dX11_innOf_29 : decode mX11_innOf.2.1 29 = .ok (.idiv, 1) := by decide +kernel
theorem dX11_innOf_30 : decode mX11_innOf.2.1 30 = .ok (.iaload, 1) := by decide +kernel
theorem dX11_innOf_31 : decode mX11_innOf.2.1 31 = .ok (.ireturn, 1) := by decide +kernel
theorem dX11_is_0 : decode mX11_is.2.1 0 = .ok (.aload_n 0, 1) := by decide +kernel
theorem dX11_is_1 : decode mX11_is.2.1 1 = .ok (.getfield 239, 3) := by decide +kernel
theorem dX11_is_4 : decode mX11_is.2.1 4 = .ok (.iconst 4, 1) := by decide +kernel
theorem dX11_is_5 : decode mX11_is.2.1 5 = .ok (.if_icmp .ne 15, 3) := by decide +kernel
theorem dX11_is_8 : decode mX11_is.2.1 8 = .ok (.aload_n 0, 1) := by decide +kernel
theorem dX11_is_9 : decode mX11_is.2.1 9 = .ok (.getfield 251, 3) := by decide +kernel
theorem dX11_is_12 : decode mX11_is.2.1 12 = .ok (.iload_n 1, 1) := by decide +kernel
theorem dX11_is_13 : decode mX11_is.2.1 13 = .ok (.if_icmp .ne 7, 3) := by decide +kernel
theorem dX11_is_16 : decode mX11_is.2.1 16 = .ok (.iconst 1, 1) := by decide +kernel
theorem dX11_is_17 : decode mX11_is.2.1 17 = .ok (.goto 4, 3) := by decide +kernel
theorem dX11_is_20 : decode mX11_is.2.1 20 = .ok (.iconst 0, 1) := by decide +kernel
theorem dX11_is_21 : decode mX11_is.2.1 21 = .ok (.ireturn, 1) := by decide +kernel
theorem dX11_isDigit_0 : decode mX11_isDigit.2.1 0 = .ok (.iload_n 0, 1) := by decide +kernel
theorem dX11_isDigit_1 : decode mX11_isDigit.2.1 1 = .ok (.bipush 48, 2) := by decide +kernel
theorem dX11_isDigit_3 : decode mX11_isDigit.2.1 3 = .ok (.if_icmp .lt 13, 3) := by decide +kernel
theorem dX11_isDigit_6 : decode mX11_isDigit.2.1 6 = .ok (.iload_n 0, 1) := by decide +kernel
theorem dX11_isDigit_7 : decode mX11_isDigit.2.1 7 = .ok (.bipush 57, 2) := by decide +kernel
theorem dX11_isDigit_9 : decode mX11_isDigit.2.1 9 = .ok (.if_icmp .gt 7, 3) := by decide +kernel
theorem dX11_isDigit_12 : decode mX11_isDigit.2.1 12 = .ok (.iconst 1, 1) := by decide +kernel
theorem dX11_isDigit_13 : decode mX11_isDigit.2.1 13 = .ok (.goto 4, 3) := by decide +kernel
theorem dX11_isDigit_16 : decode mX11_isDigit.2.1 16 = .ok (.iconst 0, 1) := by decide +kernel
theorem dX11_isDigit_17 : decode mX11_isDigit.2.1 17 = .ok (.ireturn, 1) := by decide +kernel
theorem dX11_isEven_0 : decode mX11_isEven.2.1 0 = .ok (.aload_n 0, 1) := by decide +kernel
theorem dX11_isEven_1 : decode mX11_isEven.2.1 1 = .ok (.iload_n 1, 1) := by decide +kernel
theorem dX11_isEven_2 : decode mX11_isEven.2.1 2 = .ok (.iconst 0, 1) := by decide +kernel
theorem dX11_isEven_3 : decode mX11_isEven.2.1 3 = .ok (.invokevirtual 178, 3) := by decide +kernel
theorem dX11_isEven_6 : decode mX11_isEven.2.1 6 = .ok (.aload_n 0, 1) := by decide +kernel
theorem dX11_isEven_7 : decode mX11_isEven.2.1 7 = .ok (.iload_n 1, 1) := by decide +kernel
theorem dX11_isEven_8 : decode mX11_isEven.2.1 8 = .ok (.iconst 1, 1) := by decide +kernel
theorem dX11_isEven_9 : decode mX11_isEven.2.1 9 = .ok (.invokevirtual 178, 3) := by decide +kernel
theorem dX11_isEven_12 : decode mX11_isEven.2.1 12 = .ok (.isub, 1) := by decide +kernel
theorem dX11_isEven_13 : decode mX11_isEven.2.1 13 = .ok (.istore_n 2, 1) := by decide +kernel
theorem dX11_isEven_14 : decode mX11_isEven.2.1 14 = .ok (.iload_n 2, 1) := by decide +kernel
theorem dX11_isEven_15 : decode mX11_isEven.2.1 15 = .ok (.bipush (-10), 2) := by decide +kernel
theorem dX11_isEven_17 : decode mX11_isEven.2.1 17 = .ok (.if_icmp .lt 13, 3) := by decide +kernel
theorem dX11_isEven_20 : decode mX11_isEven.2.1 20 = .ok (.iload_n 2, 1) := by decide +kernel
theorem dX11_isEven_21 : decode mX11_isEven.2.1 21 = .ok (.bipush 10, 2) := by decide +kernel
theorem dX11_isEven_23 : decode mX11_isEven.2.1 23 = .ok (.if_icmp .gt 7, 3) := by decide +kernel
theorem dX11_isEven_26 : decode mX11_isEven.2.1 26 = .ok (.iconst 1, 1) := by decide +kernel
theorem dX11_isEven_27 : decode mX11_isEven.2.1 27 = .ok (.goto 4, 3) := by decide +kernel
theorem dX11_isEven_30 : decode mX11_isEven.2.1 30 = .ok (.iconst 0, 1) := by decide +kernel
theorem dX11_isEven_31 : decode mX11_isEven.2.1 31 = .ok (.ireturn, 1) := by decide +kernel
theorem dX11_isInn_0 : decode mX11_isInn.2.1 0 = .ok (.iload_n 1, 1) := by decide +kernel
theorem dX11_isInn_1 : decode mX11_isInn.2.1 1 = .ok (.ifCond .lt 15, 3) := by decide +kernel
theorem dX11_isInn_4 : decode mX11_isInn.2.1 4 = .ok (.iload_n 1, 1) := by decide +kernel
theorem dX11_isInn_5 : decode mX11_isInn.2.1 5 = .ok (.aload_n 0, 1) := by decide +kernel
theorem dX11_isInn_6 : decode mX11_isInn.2.1 6 = .ok (.getfield 136, 3) := by decide +kernel
theorem dX11_isInn_9 : decode mX11_isInn.2.1 9 = .ok (.if_icmp .ge 7, 3) := by decide +kernel
theorem dX11_isInn_12 : decode mX11_isInn.2.1 12 = .ok (.iconst 1, 1) := by decide +kernel
theorem dX11_isInn_13 : decode mX11_isInn.2.1 13 = .ok (.goto 4, 3) := by decide +kernel
theorem dX11_isInn_16 : decode mX11_isInn.2.1 16 = .ok (.iconst 0, 1) := by decide +kernel
theorem dX11_isInn_17 : decode mX11_isInn.2.1 17 = .ok (.ireturn, 1) := by decide +kernel
theorem dX11_isLeg_0 : decode mX11_isLeg.2.1 0 = .ok (.iload_n 1, 1) := by decide +kernel
theorem dX11_isLeg_1 : decode mX11_isLeg.2.1 1 = .ok (.ifCond .lt 17, 3) := by decide +kernel
theorem dX11_isLeg_4 : decode mX11_isLeg.2.1 4 = .ok (.iload_n 1, 1) := by decide +kernel
theorem dX11_isLeg_5 : decode mX11_isLeg.2.1 5 = .ok (.aload_n 0, 1) := by decide +kernel
theorem dX11_isLeg_6 : decode mX11_isLeg.2.1 6 = .ok (.getfield 136, 3) := by decide +kernel
theorem dX11_isLeg_9 : decode mX11_isLeg.2.1 9 = .ok (.iconst 1, 1) := by decide +kernel
theorem dX11_isLeg_10 : decode mX11_isLeg.2.1 10 = .ok (.isub, 1) := by decide +kernel
theorem dX11_isLeg_11 : decode mX11_isLeg.2.1 11 = .ok (.if_icmp .ge 7, 3) := by decide +kernel
theorem dX11_isLeg_14 : decode mX11_isLeg.2.1 14 = .ok (.iconst 1, 1) := by decide +kernel
theorem dX11_isLeg_15 : decode mX11_isLeg.2.1 15 = .ok (.goto 4, 3) := by decide +kernel
theorem dX11_isLeg_18 : decode mX11_isLeg.2.1 18 = .ok (.iconst 0, 1) := by decide +kernel
theorem dX11_isLeg_19 : decode mX11_isLeg.2.1 19 = .ok (.ireturn, 1) := by decide +kernel
theorem dX11_isPack_0 : decode mX11_isPack.2.1 0 = .ok (.iload_n 1, 1) := by decide +kernel
theorem dX11_isPack_1 : decode mX11_isPack.2.1 1 = .ok (.ifCond .lt 15, 3) := by decide +kernel
theorem dX11_isPack_4 : decode mX11_isPack.2.1 4 = .ok (.iload_n 1, 1) := by decide +kernel
theorem dX11_isPack_5 : decode mX11_isPack.2.1 5 = .ok (.aload_n 0, 1) := by decide +kernel
theorem dX11_isPack_6 : decode mX11_isPack.2.1 6 = .ok (.getfield 165, 3) := by decide +kernel
theorem dX11_isPack_9 : decode mX11_isPack.2.1 9 = .ok (.if_icmp .ge 7, 3) := by decide +kernel
theorem dX11_isPack_12 : decode mX11_isPack.2.1 12 = .ok (.iconst 1, 1) := by decide +kernel
theorem dX11_isPack_13 : decode mX11_isPack.2.1 13 = .ok (.goto 4, 3) := by decide +kernel
theorem dX11_isPack_16 : decode mX11_isPack.2.1 16 = .ok (.iconst 0, 1) := by decide +kernel
theorem dX11_isPack_17 : decode mX11_isPack.2.1 17 = .ok (.ireturn, 1) := by decide +kernel
theorem dX11_isShut_0 : decode mX11_isShut.2.1 0 = .ok (.iconst 0, 1) := by decide +kernel
theorem dX11_isShut_1 : decode mX11_isShut.2.1 1 = .ok (.istore 4, 2) := by decide +kernel
theorem dX11_isShut_3 : decode mX11_isShut.2.1 3 = .ok (.iload 4, 2) := by decide +kernel
theorem dX11_isShut_5 : decode mX11_isShut.2.1 5 = .ok (.aload_n 0, 1) := by decide +kernel
theorem dX11_isShut_6 : decode mX11_isShut.2.1 6 = .ok (.getfield 147, 3) := by decide +kernel
theorem dX11_isShut_9 : decode mX11_isShut.2.1 9 = .ok (.if_icmp .ge 54, 3) := by decide +kernel
theorem dX11_isShut_12 : decode mX11_isShut.2.1 12 = .ok (.aload_n 0, 1) := by decide +kernel
theorem dX11_isShut_13 : decode mX11_isShut.2.1 13 = .ok (.getfield 24, 3) := by decide +kernel
theorem dX11_isShut_16 : decode mX11_isShut.2.1 16 = .ok (.iload 4, 2) := by decide +kernel
theorem dX11_isShut_18 : decode mX11_isShut.2.1 18 = .ok (.iaload, 1) := by decide +kernel
theorem dX11_isShut_19 : decode mX11_isShut.2.1 19 = .ok (.iload_n 1, 1) := by decide +kernel
theorem dX11_isShut_20 : decode mX11_isShut.2.1 20 = .ok (.if_icmp .ne 37, 3) := by decide +kernel
theorem dX11_isShut_23 : decode mX11_isShut.2.1 23 = .ok (.aload_n 0, 1) := by decide +kernel
theorem dX11_isShut_24 : decode mX11_isShut.2.1 24 = .ok (.getfield 33, 3) := by decide +kernel
theorem dX11_isShut_27 : decode mX11_isShut.2.1 27 = .ok (.iload 4, 2) := by decide +kernel
theorem dX11_isShut_29 : decode mX11_isShut.2.1 29 = .ok (.iaload, 1) := by decide +kernel
theorem dX11_isShut_30 : decode mX11_isShut.2.1 30 = .ok (.iload_n 3, 1) := by decide +kernel
theorem dX11_isShut_31 : decode mX11_isShut.2.1 31 = .ok (.if_icmp .gt 26, 3) := by decide +kernel
theorem dX11_isShut_34 : decode mX11_isShut.2.1 34 = .ok (.iload_n 2, 1) := by decide +kernel
theorem dX11_isShut_35 : decode mX11_isShut.2.1 35 = .ok (.aload_n 0, 1) := by decide +kernel
theorem dX11_isShut_36 : decode mX11_isShut.2.1 36 = .ok (.getfield 27, 3) := by decide +kernel
theorem dX11_isShut_39 : decode mX11_isShut.2.1 39 = .ok (.iload 4, 2) := by decide +kernel
theorem dX11_isShut_41 : decode mX11_isShut.2.1 41 = .ok (.iaload, 1) := by decide +kernel
theorem dX11_isShut_42 : decode mX11_isShut.2.1 42 = .ok (.aload_n 0, 1) := by decide +kernel
theorem dX11_isShut_43 : decode mX11_isShut.2.1 43 = .ok (.getfield 30, 3) := by decide +kernel
theorem dX11_isShut_46 : decode mX11_isShut.2.1 46 = .ok (.iload 4, 2) := by decide +kernel
theorem dX11_isShut_48 : decode mX11_isShut.2.1 48 = .ok (.iaload, 1) := by decide +kernel
theorem dX11_isShut_49 : decode mX11_isShut.2.1 49 = .ok (.invokestatic 139, 3) := by decide +kernel
theorem dX11_isShut_52 : decode mX11_isShut.2.1 52 = .ok (.ifCond .eq 5, 3) := by decide +kernel
theorem dX11_isShut_55 : decode mX11_isShut.2.1 55 = .ok (.iconst 1, 1) := by decide +kernel
theorem dX11_isShut_56 : decode mX11_isShut.2.1 56 = .ok (.ireturn, 1) := by decide +kernel
theorem dX11_isShut_57 : decode mX11_isShut.2.1 57 = .ok (.iinc 4 1, 3) := by decide +kernel
theorem dX11_isShut_60 : decode mX11_isShut.2.1 60 = .ok (.goto (-57), 3) := by decide +kernel
theorem dX11_isShut_63 : decode mX11_isShut.2.1 63 = .ok (.iconst 0, 1) := by decide +kernel
theorem dX11_isShut_64 : decode mX11_isShut.2.1 64 = .ok (.ireturn, 1) := by decide +kernel
theorem dX11_isSmall_0 : decode mX11_isSmall.2.1 0 = .ok (.iload_n 0, 1) := by decide +kernel
theorem dX11_isSmall_1 : decode mX11_isSmall.2.1 1 = .ok (.bipush 97, 2) := by decide +kernel
theorem dX11_isSmall_3 : decode mX11_isSmall.2.1 3 = .ok (.if_icmp .lt 13, 3) := by decide +kernel
theorem dX11_isSmall_6 : decode mX11_isSmall.2.1 6 = .ok (.iload_n 0, 1) := by decide +kernel
theorem dX11_isSmall_7 : decode mX11_isSmall.2.1 7 = .ok (.bipush 122, 2) := by decide +kernel
theorem dX11_isSmall_9 : decode mX11_isSmall.2.1 9 = .ok (.if_icmp .gt 7, 3) := by decide +kernel
theorem dX11_isSmall_12 : decode mX11_isSmall.2.1 12 = .ok (.iconst 1, 1) := by decide +kernel
theorem dX11_isSmall_13 : decode mX11_isSmall.2.1 13 = .ok (.goto 4, 3) := by decide +kernel
theorem dX11_isSmall_16 : decode mX11_isSmall.2.1 16 = .ok (.iconst 0, 1) := by decide +kernel
theorem dX11_isSmall_17 : decode mX11_isSmall.2.1 17 = .ok (.ireturn, 1) := by decide +kernel
theorem dX11_isString_0 : decode mX11_isString.2.1 0 = .ok (.iload_n 1, 1) := by decide +kernel
theorem dX11_isString_1 : decode mX11_isString.2.1 1 = .ok (.ifCond .lt 15, 3) := by decide +kernel
theorem dX11_isString_4 : decode mX11_isString.2.1 4 = .ok (.iload_n 1, 1) := by decide +kernel
theorem dX11_isString_5 : decode mX11_isString.2.1 5 = .ok (.aload_n 0, 1) := by decide +kernel
theorem dX11_isString_6 : decode mX11_isString.2.1 6 = .ok (.getfield 159, 3) := by decide +kernel
theorem dX11_isString_9 : decode mX11_isString.2.1 9 = .ok (.if_icmp .ge 7, 3) := by decide +kernel
theorem dX11_isString_12 : decode mX11_isString.2.1 12 = .ok (.iconst 1, 1) := by decide +kernel
theorem dX11_isString_13 : decode mX11_isString.2.1 13 = .ok (.goto 4, 3) := by decide +kernel
theorem dX11_isString_16 : decode mX11_isString.2.1 16 = .ok (.iconst 0, 1) := by decide +kernel
theorem dX11_isString_17 : decode mX11_isString.2.1 17 = .ok (.ireturn, 1) := by decide +kernel
theorem dX11_isWell_0 : decode mX11_isWell.2.1 0 = .ok (.aload_n 0, 1) := by decide +kernel
theorem dX11_isWell_1 : decode mX11_isWell.2.1 1 = .ok (.getfield 264, 3) := by decide +kernel
theorem dX11_isWell_4 : decode mX11_isWell.2.1 4 = .ok (.ifCond .ne 7, 3) := by decide +kernel
theorem dX11_isWell_7 : decode mX11_isWell.2.1 7 = .ok (.iconst 1, 1) := by decide +kernel
theorem dX11_isWell_8 : decode mX11_isWell.2.1 8 = .ok (.goto 4, 3) := by decide +kernel
theorem dX11_isWell_11 : decode mX11_isWell.2.1 11 = .ok (.iconst 0, 1) := by decide +kernel
theorem dX11_isWell_12 : decode mX11_isWell.2.1 12 = .ok (.ireturn, 1) := by decide +kernel
theorem dX11_isWord_0 : decode mX11_isWord.2.1 0 = .ok (.aload_n 0, 1) := by decide +kernel
theorem dX11_isWord_1 : decode mX11_isWord.2.1 1 = .ok (.getfield 239, 3) := by decide +kernel
theorem dX11_isWord_4 : decode mX11_isWord.2.1 4 = .ok (.iconst 3, 1) := by decide +kernel
theorem dX11_isWord_5 : decode mX11_isWord.2.1 5 = .ok (.if_icmp .ne 19, 3) := by decide +kernel
theorem dX11_isWord_8 : decode mX11_isWord.2.1 8 = .ok (.aload_n 0, 1) := by decide +kernel
theorem dX11_isWord_9 : decode mX11_isWord.2.1 9 = .ok (.getfield 233, 3) := by decide +kernel
theorem dX11_isWord_12 : decode mX11_isWord.2.1 12 = .ok (.aload_n 0, 1) := by decide +kernel
theorem dX11_isWord_13 : decode mX11_isWord.2.1 13 = .ok (.getfield 236, 3) := by decide +kernel
theorem dX11_isWord_16 : decode mX11_isWord.2.1 16 = .ok (.isub, 1) := by decide +kernel
theorem dX11_isWord_17 : decode mX11_isWord.2.1 17 = .ok (.aload_n 1, 1) := by decide +kernel
theorem dX11_isWord_18 : decode mX11_isWord.2.1 18 = .ok (.invokevirtual 254, 3) := by decide +kernel
theorem dX11_isWord_21 : decode mX11_isWord.2.1 21 = .ok (.if_icmp .eq 5, 3) := by decide +kernel
theorem dX11_isWord_24 : decode mX11_isWord.2.1 24 = .ok (.iconst 0, 1) := by decide +kernel
theorem dX11_isWord_25 : decode mX11_isWord.2.1 25 = .ok (.ireturn, 1) := by decide +kernel
theorem dX11_isWord_26 : decode mX11_isWord.2.1 26 = .ok (.iconst 0, 1) := by decide +kernel
theorem dX11_isWord_27 : decode mX11_isWord.2.1 27 = .ok (.istore_n 2, 1) := by decide +kernel
theorem dX11_isWord_28 : decode mX11_isWord.2.1 28 = .ok (.iload_n 2, 1) := by decide +kernel
theorem dX11_isWord_29 : decode mX11_isWord.2.1 29 = .ok (.aload_n 1, 1) := by decide +kernel
theorem dX11_isWord_30 : decode mX11_isWord.2.1 30 = .ok (.invokevirtual 254, 3) := by decide +kernel
theorem dX11_isWord_33 : decode mX11_isWord.2.1 33 = .ok (.if_icmp .ge 30, 3) := by decide +kernel
theorem dX11_isWord_36 : decode mX11_isWord.2.1 36 = .ok (.aload_n 0, 1) := by decide +kernel
theorem dX11_isWord_37 : decode mX11_isWord.2.1 37 = .ok (.getfield 108, 3) := by decide +kernel
theorem dX11_isWord_40 : decode mX11_isWord.2.1 40 = .ok (.aload_n 0, 1) := by decide +kernel
theorem dX11_isWord_41 : decode mX11_isWord.2.1 41 = .ok (.getfield 236, 3) := by decide +kernel
theorem dX11_isWord_44 : decode mX11_isWord.2.1 44 = .ok (.iload_n 2, 1) := by decide +kernel
theorem dX11_isWord_45 : decode mX11_isWord.2.1 45 = .ok (.iadd, 1) := by decide +kernel
theorem dX11_isWord_46 : decode mX11_isWord.2.1 46 = .ok (.baload, 1) := by decide +kernel
theorem dX11_isWord_47 : decode mX11_isWord.2.1 47 = .ok (.aload_n 1, 1) := by decide +kernel
theorem dX11_isWord_48 : decode mX11_isWord.2.1 48 = .ok (.iload_n 2, 1) := by decide +kernel
theorem dX11_isWord_49 : decode mX11_isWord.2.1 49 = .ok (.invokevirtual 260, 3) := by decide +kernel
theorem dX11_isWord_52 : decode mX11_isWord.2.1 52 = .ok (.if_icmp .eq 5, 3) := by decide +kernel
theorem dX11_isWord_55 : decode mX11_isWord.2.1 55 = .ok (.iconst 0, 1) := by decide +kernel
theorem dX11_isWord_56 : decode mX11_isWord.2.1 56 = .ok (.ireturn, 1) := by decide +kernel
theorem dX11_isWord_57 : decode mX11_isWord.2.1 57 = .ok (.iinc 2 1, 3) := by decide +kernel
theorem dX11_isWord_60 : decode mX11_isWord.2.1 60 = .ok (.goto (-32), 3) := by decide +kernel
theorem dX11_isWord_63 : decode mX11_isWord.2.1 63 = .ok (.iconst 1, 1) := by decide +kernel
theorem dX11_isWord_64 : decode mX11_isWord.2.1 64 = .ok (.ireturn, 1) := by decide +kernel
theorem dX11_lay_0 : decode mX11_lay.2.1 0 = .ok (.aload_n 0, 1) := by decide +kernel
theorem dX11_lay_1 : decode mX11_lay.2.1 1 = .ok (.iconst 0, 1) := by decide +kernel
end
section
theorem dX11_lay_2 : decode mX11_lay.2.1 2 = .ok (.putfield 1, 3) := by decide +kernel
theorem dX11_lay_5 : decode mX11_lay.2.1 5 = .ok (.aload_n 0, 1) := by decide +kernel
theorem dX11_lay_6 : decode mX11_lay.2.1 6 = .ok (.iload_n 1, 1) := by decide +kernel
theorem dX11_lay_7 : decode mX11_lay.2.1 7 = .ok (.invokevirtual 172, 3) := by decide +kernel
theorem dX11_lay_10 : decode mX11_lay.2.1 10 = .ok (.ifCond .eq 30, 3) := by decide +kernel
theorem dX11_lay_13 : decode mX11_lay.2.1 13 = .ok (.iload_n 2, 1) := by decide +kernel
theorem dX11_lay_14 : decode mX11_lay.2.1 14 = .ok (.iconst 0, 1) := by decide +kernel
theorem dX11_lay_15 : decode mX11_lay.2.1 15 = .ok (.iconst 2, 1) := by decide +kernel
theorem dX11_lay_16 : decode mX11_lay.2.1 16 = .ok (.invokestatic 139, 3) := by decide +kernel
theorem dX11_lay_19 : decode mX11_lay.2.1 19 = .ok (.ifCond .eq 21, 3) := by decide +kernel
theorem dX11_lay_22 : decode mX11_lay.2.1 22 = .ok (.iload_n 3, 1) := by decide +kernel
theorem dX11_lay_23 : decode mX11_lay.2.1 23 = .ok (.iconst 0, 1) := by decide +kernel
theorem dX11_lay_24 : decode mX11_lay.2.1 24 = .ok (.iconst 2, 1) := by decide +kernel
theorem dX11_lay_25 : decode mX11_lay.2.1 25 = .ok (.invokestatic 139, 3) := by decide +kernel
theorem dX11_lay_28 : decode mX11_lay.2.1 28 = .ok (.ifCond .eq 12, 3) := by decide +kernel
theorem dX11_lay_31 : decode mX11_lay.2.1 31 = .ok (.aload_n 0, 1) := by decide +kernel
theorem dX11_lay_32 : decode mX11_lay.2.1 32 = .ok (.iload 4, 2) := by decide +kernel
theorem dX11_lay_34 : decode mX11_lay.2.1 34 = .ok (.invokevirtual 175, 3) := by decide +kernel
theorem dX11_lay_37 : decode mX11_lay.2.1 37 = .ok (.ifCond .ne 5, 3) := by decide +kernel
theorem dX11_lay_40 : decode mX11_lay.2.1 40 = .ok (.iconst (-1), 1) := by decide +kernel
theorem dX11_lay_41 : decode mX11_lay.2.1 41 = .ok (.ireturn, 1) := by decide +kernel
theorem dX11_lay_42 : decode mX11_lay.2.1 42 = .ok (.aload_n 0, 1) := by decide +kernel
theorem dX11_lay_43 : decode mX11_lay.2.1 43 = .ok (.getfield 69, 3) := by decide +kernel
theorem dX11_lay_46 : decode mX11_lay.2.1 46 = .ok (.iload 4, 2) := by decide +kernel
theorem dX11_lay_48 : decode mX11_lay.2.1 48 = .ok (.iaload, 1) := by decide +kernel
theorem dX11_lay_49 : decode mX11_lay.2.1 49 = .ok (.ifCond .ne 19, 3) := by decide +kernel
theorem dX11_lay_52 : decode mX11_lay.2.1 52 = .ok (.aload_n 0, 1) := by decide +kernel
theorem dX11_lay_53 : decode mX11_lay.2.1 53 = .ok (.getfield 36, 3) := by decide +kernel
theorem dX11_lay_56 : decode mX11_lay.2.1 56 = .ok (.iload_n 1, 1) := by decide +kernel
theorem dX11_lay_57 : decode mX11_lay.2.1 57 = .ok (.iaload, 1) := by decide +kernel
theorem dX11_lay_58 : decode mX11_lay.2.1 58 = .ok (.aload_n 0, 1) := by decide +kernel
theorem dX11_lay_59 : decode mX11_lay.2.1 59 = .ok (.getfield 72, 3) := by decide +kernel
theorem dX11_lay_62 : decode mX11_lay.2.1 62 = .ok (.iload 4, 2) := by decide +kernel
theorem dX11_lay_64 : decode mX11_lay.2.1 64 = .ok (.iaload, 1) := by decide +kernel
theorem dX11_lay_65 : decode mX11_lay.2.1 65 = .ok (.if_icmp .eq 6, 3) := by decide +kernel
theorem dX11_lay_68 : decode mX11_lay.2.1 68 = .ok (.bipush (-2), 2) := by decide +kernel
theorem dX11_lay_70 : decode mX11_lay.2.1 70 = .ok (.ireturn, 1) := by decide +kernel
theorem dX11_lay_71 : decode mX11_lay.2.1 71 = .ok (.iconst 3, 1) := by decide +kernel
theorem dX11_lay_72 : decode mX11_lay.2.1 72 = .ok (.iload_n 1, 1) := by decide +kernel
theorem dX11_lay_73 : decode mX11_lay.2.1 73 = .ok (.imul, 1) := by decide +kernel
theorem dX11_lay_74 : decode mX11_lay.2.1 74 = .ok (.iload_n 2, 1) := by decide +kernel
theorem dX11_lay_75 : decode mX11_lay.2.1 75 = .ok (.iadd, 1) := by decide +kernel
theorem dX11_lay_76 : decode mX11_lay.2.1 76 = .ok (.istore 5, 2) := by decide +kernel
theorem dX11_lay_78 : decode mX11_lay.2.1 78 = .ok (.aload_n 0, 1) := by decide +kernel
theorem dX11_lay_79 : decode mX11_lay.2.1 79 = .ok (.getfield 54, 3) := by decide +kernel
theorem dX11_lay_82 : decode mX11_lay.2.1 82 = .ok (.iload 5, 2) := by decide +kernel
theorem dX11_lay_84 : decode mX11_lay.2.1 84 = .ok (.baload, 1) := by decide +kernel
theorem dX11_lay_85 : decode mX11_lay.2.1 85 = .ok (.ifCond .eq 6, 3) := by decide +kernel
theorem dX11_lay_88 : decode mX11_lay.2.1 88 = .ok (.bipush (-3), 2) := by decide +kernel
theorem dX11_lay_90 : decode mX11_lay.2.1 90 = .ok (.ireturn, 1) := by decide +kernel
theorem dX11_lay_91 : decode mX11_lay.2.1 91 = .ok (.aload_n 0, 1) := by decide +kernel
theorem dX11_lay_92 : decode mX11_lay.2.1 92 = .ok (.iload 5, 2) := by decide +kernel
theorem dX11_lay_94 : decode mX11_lay.2.1 94 = .ok (.iconst 3, 1) := by decide +kernel
theorem dX11_lay_95 : decode mX11_lay.2.1 95 = .ok (.invokevirtual 178, 3) := by decide +kernel
theorem dX11_lay_98 : decode mX11_lay.2.1 98 = .ok (.aload_n 0, 1) := by decide +kernel
theorem dX11_lay_99 : decode mX11_lay.2.1 99 = .ok (.getfield 63, 3) := by decide +kernel
theorem dX11_lay_102 : decode mX11_lay.2.1 102 = .ok (.iload 4, 2) := by decide +kernel
theorem dX11_lay_104 : decode mX11_lay.2.1 104 = .ok (.iaload, 1) := by decide +kernel
theorem dX11_lay_105 : decode mX11_lay.2.1 105 = .ok (.iadd, 1) := by decide +kernel
theorem dX11_lay_106 : decode mX11_lay.2.1 106 = .ok (.aload_n 0, 1) := by decide +kernel
theorem dX11_lay_107 : decode mX11_lay.2.1 107 = .ok (.getfield 48, 3) := by decide +kernel
theorem dX11_lay_110 : decode mX11_lay.2.1 110 = .ok (.iload 5, 2) := by decide +kernel
theorem dX11_lay_112 : decode mX11_lay.2.1 112 = .ok (.iaload, 1) := by decide +kernel
theorem dX11_lay_113 : decode mX11_lay.2.1 113 = .ok (.if_icmp .le 6, 3) := by decide +kernel
theorem dX11_lay_116 : decode mX11_lay.2.1 116 = .ok (.bipush (-4), 2) := by decide +kernel
theorem dX11_lay_118 : decode mX11_lay.2.1 118 = .ok (.ireturn, 1) := by decide +kernel
theorem dX11_lay_119 : decode mX11_lay.2.1 119 = .ok (.aload_n 0, 1) := by decide +kernel
theorem dX11_lay_120 : decode mX11_lay.2.1 120 = .ok (.getfield 60, 3) := by decide +kernel
theorem dX11_lay_123 : decode mX11_lay.2.1 123 = .ok (.iload 4, 2) := by decide +kernel
theorem dX11_lay_125 : decode mX11_lay.2.1 125 = .ok (.iaload, 1) := by decide +kernel
theorem dX11_lay_126 : decode mX11_lay.2.1 126 = .ok (.iconst 3, 1) := by decide +kernel
theorem dX11_lay_127 : decode mX11_lay.2.1 127 = .ok (.if_icmp .ne 7, 3) := by decide +kernel
theorem dX11_lay_130 : decode mX11_lay.2.1 130 = .ok (.iconst 1, 1) := by decide +kernel
theorem dX11_lay_131 : decode mX11_lay.2.1 131 = .ok (.goto 4, 3) := by decide +kernel
theorem dX11_lay_134 : decode mX11_lay.2.1 134 = .ok (.iconst 0, 1) := by decide +kernel
theorem dX11_lay_135 : decode mX11_lay.2.1 135 = .ok (.istore 6, 2) := by decide +kernel
theorem dX11_lay_137 : decode mX11_lay.2.1 137 = .ok (.iload 6, 2) := by decide +kernel
theorem dX11_lay_139 : decode mX11_lay.2.1 139 = .ok (.iload_n 3, 1) := by decide +kernel
theorem dX11_lay_140 : decode mX11_lay.2.1 140 = .ok (.iconst 2, 1) := by decide +kernel
theorem dX11_lay_141 : decode mX11_lay.2.1 141 = .ok (.if_icmp .ne 7, 3) := by decide +kernel
theorem dX11_lay_144 : decode mX11_lay.2.1 144 = .ok (.iconst 1, 1) := by decide +kernel
theorem dX11_lay_145 : decode mX11_lay.2.1 145 = .ok (.goto 4, 3) := by decide +kernel
theorem dX11_lay_148 : decode mX11_lay.2.1 148 = .ok (.iconst 0, 1) := by decide +kernel
theorem dX11_lay_149 : decode mX11_lay.2.1 149 = .ok (.if_icmp .ne 18, 3) := by decide +kernel
theorem dX11_lay_152 : decode mX11_lay.2.1 152 = .ok (.iload_n 3, 1) := by decide +kernel
theorem dX11_lay_153 : decode mX11_lay.2.1 153 = .ok (.iconst 2, 1) := by decide +kernel
theorem dX11_lay_154 : decode mX11_lay.2.1 154 = .ok (.if_icmp .ne 16, 3) := by decide +kernel
theorem dX11_lay_157 : decode mX11_lay.2.1 157 = .ok (.aload_n 0, 1) := by decide +kernel
theorem dX11_lay_158 : decode mX11_lay.2.1 158 = .ok (.iload 5, 2) := by decide +kernel
theorem dX11_lay_160 : decode mX11_lay.2.1 160 = .ok (.invokevirtual 182, 3) := by decide +kernel
theorem dX11_lay_163 : decode mX11_lay.2.1 163 = .ok (.iconst (-1), 1) := by decide +kernel
theorem dX11_lay_164 : decode mX11_lay.2.1 164 = .ok (.if_icmp .eq 6, 3) := by decide +kernel
theorem dX11_lay_167 : decode mX11_lay.2.1 167 = .ok (.bipush (-5), 2) := by decide +kernel
theorem dX11_lay_169 : decode mX11_lay.2.1 169 = .ok (.ireturn, 1) := by decide +kernel
theorem dX11_lay_170 : decode mX11_lay.2.1 170 = .ok (.aload_n 0, 1) := by decide +kernel
theorem dX11_lay_171 : decode mX11_lay.2.1 171 = .ok (.getfield 69, 3) := by decide +kernel
theorem dX11_lay_174 : decode mX11_lay.2.1 174 = .ok (.iload 4, 2) := by decide +kernel
theorem dX11_lay_176 : decode mX11_lay.2.1 176 = .ok (.iconst 1, 1) := by decide +kernel
theorem dX11_lay_177 : decode mX11_lay.2.1 177 = .ok (.iastore, 1) := by decide +kernel
theorem dX11_lay_178 : decode mX11_lay.2.1 178 = .ok (.aload_n 0, 1) := by decide +kernel
theorem dX11_lay_179 : decode mX11_lay.2.1 179 = .ok (.getfield 75, 3) := by decide +kernel
theorem dX11_lay_182 : decode mX11_lay.2.1 182 = .ok (.iload 4, 2) := by decide +kernel
theorem dX11_lay_184 : decode mX11_lay.2.1 184 = .ok (.iload 5, 2) := by decide +kernel
theorem dX11_lay_186 : decode mX11_lay.2.1 186 = .ok (.iastore, 1) := by decide +kernel
theorem dX11_lay_187 : decode mX11_lay.2.1 187 = .ok (.aload_n 0, 1) := by decide +kernel
theorem dX11_lay_188 : decode mX11_lay.2.1 188 = .ok (.getfield 78, 3) := by decide +kernel
theorem dX11_lay_191 : decode mX11_lay.2.1 191 = .ok (.iload 4, 2) := by decide +kernel
theorem dX11_lay_193 : decode mX11_lay.2.1 193 = .ok (.iload_n 3, 1) := by decide +kernel
theorem dX11_lay_194 : decode mX11_lay.2.1 194 = .ok (.iastore, 1) := by decide +kernel
theorem dX11_lay_195 : decode mX11_lay.2.1 195 = .ok (.aload_n 0, 1) := by decide +kernel
theorem dX11_lay_196 : decode mX11_lay.2.1 196 = .ok (.iload 4, 2) := by decide +kernel
theorem dX11_lay_198 : decode mX11_lay.2.1 198 = .ok (.bipush 10, 2) := by decide +kernel
theorem dX11_lay_200 : decode mX11_lay.2.1 200 = .ok (.iload_n 1, 1) := by decide +kernel
theorem dX11_lay_201 : decode mX11_lay.2.1 201 = .ok (.iadd, 1) := by decide +kernel
theorem dX11_lay_202 : decode mX11_lay.2.1 202 = .ok (.invokevirtual 168, 3) := by decide +kernel
theorem dX11_lay_205 : decode mX11_lay.2.1 205 = .ok (.aload_n 0, 1) := by decide +kernel
theorem dX11_lay_206 : decode mX11_lay.2.1 206 = .ok (.iload 5, 2) := by decide +kernel
theorem dX11_lay_208 : decode mX11_lay.2.1 208 = .ok (.iconst 3, 1) := by decide +kernel
theorem dX11_lay_209 : decode mX11_lay.2.1 209 = .ok (.invokevirtual 178, 3) := by decide +kernel
theorem dX11_lay_212 : decode mX11_lay.2.1 212 = .ok (.ireturn, 1) := by decide +kernel
theorem dX11_load_0 : decode mX11_load.2.1 0 = .ok (.iconst 0, 1) := by decide +kernel
theorem dX11_load_1 : decode mX11_load.2.1 1 = .ok (.istore_n 3, 1) := by decide +kernel
theorem dX11_load_2 : decode mX11_load.2.1 2 = .ok (.iconst 0, 1) := by decide +kernel
theorem dX11_load_3 : decode mX11_load.2.1 3 = .ok (.istore 4, 2) := by decide +kernel
theorem dX11_load_5 : decode mX11_load.2.1 5 = .ok (.iload 4, 2) := by decide +kernel
theorem dX11_load_7 : decode mX11_load.2.1 7 = .ok (.aload_n 0, 1) := by decide +kernel
theorem dX11_load_8 : decode mX11_load.2.1 8 = .ok (.getfield 165, 3) := by decide +kernel
theorem dX11_load_11 : decode mX11_load.2.1 11 = .ok (.if_icmp .ge 57, 3) := by decide +kernel
theorem dX11_load_14 : decode mX11_load.2.1 14 = .ok (.aload_n 0, 1) := by decide +kernel
theorem dX11_load_15 : decode mX11_load.2.1 15 = .ok (.getfield 69, 3) := by decide +kernel
theorem dX11_load_18 : decode mX11_load.2.1 18 = .ok (.iload 4, 2) := by decide +kernel
theorem dX11_load_20 : decode mX11_load.2.1 20 = .ok (.iaload, 1) := by decide +kernel
theorem dX11_load_21 : decode mX11_load.2.1 21 = .ok (.iconst 1, 1) := by decide +kernel
theorem dX11_load_22 : decode mX11_load.2.1 22 = .ok (.if_icmp .ne 40, 3) := by decide +kernel
theorem dX11_load_25 : decode mX11_load.2.1 25 = .ok (.aload_n 0, 1) := by decide +kernel
theorem dX11_load_26 : decode mX11_load.2.1 26 = .ok (.getfield 75, 3) := by decide +kernel
theorem dX11_load_29 : decode mX11_load.2.1 29 = .ok (.iload 4, 2) := by decide +kernel
theorem dX11_load_31 : decode mX11_load.2.1 31 = .ok (.iaload, 1) := by decide +kernel
theorem dX11_load_32 : decode mX11_load.2.1 32 = .ok (.iload_n 1, 1) := by decide +kernel
theorem dX11_load_33 : decode mX11_load.2.1 33 = .ok (.if_icmp .ne 29, 3) := by decide +kernel
theorem dX11_load_36 : decode mX11_load.2.1 36 = .ok (.iload_n 2, 1) := by decide +kernel
theorem dX11_load_37 : decode mX11_load.2.1 37 = .ok (.iconst 3, 1) := by decide +kernel
theorem dX11_load_38 : decode mX11_load.2.1 38 = .ok (.if_icmp .eq 14, 3) := by decide +kernel
theorem dX11_load_41 : decode mX11_load.2.1 41 = .ok (.aload_n 0, 1) := by decide +kernel
theorem dX11_load_42 : decode mX11_load.2.1 42 = .ok (.getfield 78, 3) := by decide +kernel
theorem dX11_load_45 : decode mX11_load.2.1 45 = .ok (.iload 4, 2) := by decide +kernel
theorem dX11_load_47 : decode mX11_load.2.1 47 = .ok (.iaload, 1) := by decide +kernel
theorem dX11_load_48 : decode mX11_load.2.1 48 = .ok (.iload_n 2, 1) := by decide +kernel
theorem dX11_load_49 : decode mX11_load.2.1 49 = .ok (.if_icmp .ne 13, 3) := by decide +kernel
theorem dX11_load_52 : decode mX11_load.2.1 52 = .ok (.iload_n 3, 1) := by decide +kernel
theorem dX11_load_53 : decode mX11_load.2.1 53 = .ok (.aload_n 0, 1) := by decide +kernel
theorem dX11_load_54 : decode mX11_load.2.1 54 = .ok (.getfield 63, 3) := by decide +kernel
theorem dX11_load_57 : decode mX11_load.2.1 57 = .ok (.iload 4, 2) := by decide +kernel
theorem dX11_load_59 : decode mX11_load.2.1 59 = .ok (.iaload, 1) := by decide +kernel
theorem dX11_load_60 : decode mX11_load.2.1 60 = .ok (.iadd, 1) := by decide +kernel
theorem dX11_load_61 : decode mX11_load.2.1 61 = .ok (.istore_n 3, 1) := by decide +kernel
theorem dX11_load_62 : decode mX11_load.2.1 62 = .ok (.iinc 4 1, 3) := by decide +kernel
theorem dX11_load_65 : decode mX11_load.2.1 65 = .ok (.goto (-60), 3) := by decide +kernel
theorem dX11_load_68 : decode mX11_load.2.1 68 = .ok (.iload_n 3, 1) := by decide +kernel
theorem dX11_load_69 : decode mX11_load.2.1 69 = .ok (.ireturn, 1) := by decide +kernel
theorem dX11_many_0 : decode mX11_many.2.1 0 = .ok (.iconst 0, 1) := by decide +kernel
theorem dX11_many_1 : decode mX11_many.2.1 1 = .ok (.istore_n 2, 1) := by decide +kernel
theorem dX11_many_2 : decode mX11_many.2.1 2 = .ok (.iconst 0, 1) := by decide +kernel
theorem dX11_many_3 : decode mX11_many.2.1 3 = .ok (.istore_n 3, 1) := by decide +kernel
theorem dX11_many_4 : decode mX11_many.2.1 4 = .ok (.iload_n 3, 1) := by decide +kernel
theorem dX11_many_5 : decode mX11_many.2.1 5 = .ok (.aload_n 0, 1) := by decide +kernel
theorem dX11_many_6 : decode mX11_many.2.1 6 = .ok (.getfield 165, 3) := by decide +kernel
theorem dX11_many_9 : decode mX11_many.2.1 9 = .ok (.if_icmp .ge 22, 3) := by decide +kernel
theorem dX11_many_12 : decode mX11_many.2.1 12 = .ok (.aload_n 0, 1) := by decide +kernel
theorem dX11_many_13 : decode mX11_many.2.1 13 = .ok (.getfield 69, 3) := by decide +kernel
theorem dX11_many_16 : decode mX11_many.2.1 16 = .ok (.iload_n 3, 1) := by decide +kernel
theorem dX11_many_17 : decode mX11_many.2.1 17 = .ok (.iaload, 1) := by decide +kernel
theorem dX11_many_18 : decode mX11_many.2.1 18 = .ok (.iload_n 1, 1) := by decide +kernel
theorem dX11_many_19 : decode mX11_many.2.1 19 = .ok (.if_icmp .ne 6, 3) := by decide +kernel
theorem dX11_many_22 : decode mX11_many.2.1 22 = .ok (.iinc 2 1, 3) := by decide +kernel
theorem dX11_many_25 : decode mX11_many.2.1 25 = .ok (.iinc 3 1, 3) := by decide +kernel
theorem dX11_many_28 : decode mX11_many.2.1 28 = .ok (.goto (-24), 3) := by decide +kernel
theorem dX11_many_31 : decode mX11_many.2.1 31 = .ok (.iload_n 2, 1) := by decide +kernel
theorem dX11_many_32 : decode mX11_many.2.1 32 = .ok (.ireturn, 1) := by decide +kernel
theorem dX11_muleOf_0 : decode mX11_muleOf.2.1 0 = .ok (.aload_n 0, 1) := by decide +kernel
theorem dX11_muleOf_1 : decode mX11_muleOf.2.1 1 = .ok (.iconst 0, 1) := by decide +kernel
theorem dX11_muleOf_2 : decode mX11_muleOf.2.1 2 = .ok (.putfield 1, 3) := by decide +kernel
theorem dX11_muleOf_5 : decode mX11_muleOf.2.1 5 = .ok (.aload_n 0, 1) := by decide +kernel
theorem dX11_muleOf_6 : decode mX11_muleOf.2.1 6 = .ok (.iload_n 1, 1) := by decide +kernel
theorem dX11_muleOf_7 : decode mX11_muleOf.2.1 7 = .ok (.invokevirtual 172, 3) := by decide +kernel
theorem dX11_muleOf_10 : decode mX11_muleOf.2.1 10 = .ok (.ifCond .eq 12, 3) := by decide +kernel
theorem dX11_muleOf_13 : decode mX11_muleOf.2.1 13 = .ok (.iload_n 2, 1) := by decide +kernel
theorem dX11_muleOf_14 : decode mX11_muleOf.2.1 14 = .ok (.iconst 0, 1) := by decide +kernel
theorem dX11_muleOf_15 : decode mX11_muleOf.2.1 15 = .ok (.iconst 2, 1) := by decide +kernel
theorem dX11_muleOf_16 : decode mX11_muleOf.2.1 16 = .ok (.invokestatic 139, 3) := by decide +kernel
theorem dX11_muleOf_19 : decode mX11_muleOf.2.1 19 = .ok (.ifCond .ne 5, 3) := by decide +kernel
theorem dX11_muleOf_22 : decode mX11_muleOf.2.1 22 = .ok (.iconst (-1), 1) := by decide +kernel
theorem dX11_muleOf_23 : decode mX11_muleOf.2.1 23 = .ok (.ireturn, 1) := by decide +kernel
theorem dX11_muleOf_24 : decode mX11_muleOf.2.1 24 = .ok (.iconst 3, 1) := by decide +kernel
theorem dX11_muleOf_25 : decode mX11_muleOf.2.1 25 = .ok (.iload_n 1, 1) := by decide +kernel
theorem dX11_muleOf_26 : decode mX11_muleOf.2.1 26 = .ok (.imul, 1) := by decide +kernel
theorem dX11_muleOf_27 : decode mX11_muleOf.2.1 27 = .ok (.iload_n 2, 1) := by decide +kernel
theorem dX11_muleOf_28 : decode mX11_muleOf.2.1 28 = .ok (.iadd, 1) := by decide +kernel
theorem dX11_muleOf_29 : decode mX11_muleOf.2.1 29 = .ok (.istore 4, 2) := by decide +kernel
theorem dX11_muleOf_31 : decode mX11_muleOf.2.1 31 = .ok (.iload_n 3, 1) := by decide +kernel
theorem dX11_muleOf_32 : decode mX11_muleOf.2.1 32 = .ok (.tableswitch 119 0 7 #[48, 56, 64, 80, 88, 96, 104, 111], 48) := by decide +kernel
theorem dX11_muleOf_80 : decode mX11_muleOf.2.1 80 = .ok (.aload_n 0, 1) := by decide +kernel
theorem dX11_muleOf_81 : decode mX11_muleOf.2.1 81 = .ok (.getfield 48, 3) := by decide +kernel
theorem dX11_muleOf_84 : decode mX11_muleOf.2.1 84 = .ok (.iload 4, 2) := by decide +kernel
theorem dX11_muleOf_86 : decode mX11_muleOf.2.1 86 = .ok (.iaload, 1) := by decide +kernel
theorem dX11_muleOf_87 : decode mX11_muleOf.2.1 87 = .ok (.ireturn, 1) := by decide +kernel
theorem dX11_muleOf_88 : decode mX11_muleOf.2.1 88 = .ok (.aload_n 0, 1) := by decide +kernel
theorem dX11_muleOf_89 : decode mX11_muleOf.2.1 89 = .ok (.getfield 51, 3) := by decide +kernel
theorem dX11_muleOf_92 : decode mX11_muleOf.2.1 92 = .ok (.iload 4, 2) := by decide +kernel
theorem dX11_muleOf_94 : decode mX11_muleOf.2.1 94 = .ok (.iaload, 1) := by decide +kernel
theorem dX11_muleOf_95 : decode mX11_muleOf.2.1 95 = .ok (.ireturn, 1) := by decide +kernel
theorem dX11_muleOf_96 : decode mX11_muleOf.2.1 96 = .ok (.aload_n 0, 1) := by decide +kernel
theorem dX11_muleOf_97 : decode mX11_muleOf.2.1 97 = .ok (.getfield 54, 3) := by decide +kernel
theorem dX11_muleOf_100 : decode mX11_muleOf.2.1 100 = .ok (.iload 4, 2) := by decide +kernel
theorem dX11_muleOf_102 : decode mX11_muleOf.2.1 102 = .ok (.baload, 1) := by decide +kernel
theorem dX11_muleOf_103 : decode mX11_muleOf.2.1 103 = .ok (.ifCond .eq 7, 3) := by decide +kernel
theorem dX11_muleOf_106 : decode mX11_muleOf.2.1 106 = .ok (.iconst 1, 1) := by decide +kernel
theorem dX11_muleOf_107 : decode mX11_muleOf.2.1 107 = .ok (.goto 4, 3) := by decide +kernel
theorem dX11_muleOf_110 : decode mX11_muleOf.2.1 110 = .ok (.iconst 0, 1) := by decide +kernel
theorem dX11_muleOf_111 : decode mX11_muleOf.2.1 111 = .ok (.ireturn, 1) := by decide +kernel
theorem dX11_muleOf_112 : decode mX11_muleOf.2.1 112 = .ok (.aload_n 0, 1) := by decide +kernel
theorem dX11_muleOf_113 : decode mX11_muleOf.2.1 113 = .ok (.iload 4, 2) := by decide +kernel
theorem dX11_muleOf_115 : decode mX11_muleOf.2.1 115 = .ok (.iconst 3, 1) := by decide +kernel
theorem dX11_muleOf_116 : decode mX11_muleOf.2.1 116 = .ok (.invokevirtual 178, 3) := by decide +kernel
theorem dX11_muleOf_119 : decode mX11_muleOf.2.1 119 = .ok (.ireturn, 1) := by decide +kernel
theorem dX11_muleOf_120 : decode mX11_muleOf.2.1 120 = .ok (.aload_n 0, 1) := by decide +kernel
theorem dX11_muleOf_121 : decode mX11_muleOf.2.1 121 = .ok (.iload 4, 2) := by decide +kernel
theorem dX11_muleOf_123 : decode mX11_muleOf.2.1 123 = .ok (.iconst 0, 1) := by decide +kernel
theorem dX11_muleOf_124 : decode mX11_muleOf.2.1 124 = .ok (.invokevirtual 178, 3) := by decide +kernel
theorem dX11_muleOf_127 : decode mX11_muleOf.2.1 127 = .ok (.ireturn, 1) := by decide +kernel
theorem dX11_muleOf_128 : decode mX11_muleOf.2.1 128 = .ok (.aload_n 0, 1) := by decide +kernel
theorem dX11_muleOf_129 : decode mX11_muleOf.2.1 129 = .ok (.iload 4, 2) := by decide +kernel
theorem dX11_muleOf_131 : decode mX11_muleOf.2.1 131 = .ok (.iconst 1, 1) := by decide +kernel
theorem dX11_muleOf_132 : decode mX11_muleOf.2.1 132 = .ok (.invokevirtual 178, 3) := by decide +kernel
theorem dX11_muleOf_135 : decode mX11_muleOf.2.1 135 = .ok (.ireturn, 1) := by decide +kernel
theorem dX11_muleOf_136 : decode mX11_muleOf.2.1 136 = .ok (.aload_n 0, 1) := by decide +kernel
theorem dX11_muleOf_137 : decode mX11_muleOf.2.1 137 = .ok (.iload 4, 2) := by decide +kernel
theorem dX11_muleOf_139 : decode mX11_muleOf.2.1 139 = .ok (.invokevirtual 182, 3) := by decide +kernel
theorem dX11_muleOf_142 : decode mX11_muleOf.2.1 142 = .ok (.ireturn, 1) := by decide +kernel
theorem dX11_muleOf_143 : decode mX11_muleOf.2.1 143 = .ok (.aload_n 0, 1) := by decide +kernel
theorem dX11_muleOf_144 : decode mX11_muleOf.2.1 144 = .ok (.getfield 57, 3) := by decide +kernel
theorem dX11_muleOf_147 : decode mX11_muleOf.2.1 147 = .ok (.iload 4, 2) := by decide +kernel
theorem dX11_muleOf_149 : decode mX11_muleOf.2.1 149 = .ok (.iaload, 1) := by decide +kernel
theorem dX11_muleOf_150 : decode mX11_muleOf.2.1 150 = .ok (.ireturn, 1) := by decide +kernel
theorem dX11_muleOf_151 : decode mX11_muleOf.2.1 151 = .ok (.iconst (-1), 1) := by decide +kernel
theorem dX11_muleOf_152 : decode mX11_muleOf.2.1 152 = .ok (.ireturn, 1) := by decide +kernel
theorem dX11_next_0 : decode mX11_next.2.1 0 = .ok (.aload_n 0, 1) := by decide +kernel
theorem dX11_next_1 : decode mX11_next.2.1 1 = .ok (.getfield 233, 3) := by decide +kernel
theorem dX11_next_4 : decode mX11_next.2.1 4 = .ok (.aload_n 0, 1) := by decide +kernel
theorem dX11_next_5 : decode mX11_next.2.1 5 = .ok (.getfield 230, 3) := by decide +kernel
theorem dX11_next_8 : decode mX11_next.2.1 8 = .ok (.if_icmp .ge 44, 3) := by decide +kernel
theorem dX11_next_11 : decode mX11_next.2.1 11 = .ok (.aload_n 0, 1) := by decide +kernel
theorem dX11_next_12 : decode mX11_next.2.1 12 = .ok (.getfield 108, 3) := by decide +kernel
theorem dX11_next_15 : decode mX11_next.2.1 15 = .ok (.aload_n 0, 1) := by decide +kernel
theorem dX11_next_16 : decode mX11_next.2.1 16 = .ok (.getfield 233, 3) := by decide +kernel
theorem dX11_next_19 : decode mX11_next.2.1 19 = .ok (.baload, 1) := by decide +kernel
theorem dX11_next_20 : decode mX11_next.2.1 20 = .ok (.bipush 32, 2) := by decide +kernel
theorem dX11_next_22 : decode mX11_next.2.1 22 = .ok (.if_icmp .eq 17, 3) := by decide +kernel
theorem dX11_next_25 : decode mX11_next.2.1 25 = .ok (.aload_n 0, 1) := by decide +kernel
theorem dX11_next_26 : decode mX11_next.2.1 26 = .ok (.getfield 108, 3) := by decide +kernel
theorem dX11_next_29 : decode mX11_next.2.1 29 = .ok (.aload_n 0, 1) := by decide +kernel
theorem dX11_next_30 : decode mX11_next.2.1 30 = .ok (.getfield 233, 3) := by decide +kernel
theorem dX11_next_33 : decode mX11_next.2.1 33 = .ok (.baload, 1) := by decide +kernel
theorem dX11_next_34 : decode mX11_next.2.1 34 = .ok (.bipush 10, 2) := by decide +kernel
theorem dX11_next_36 : decode mX11_next.2.1 36 = .ok (.if_icmp .ne 16, 3) := by decide +kernel
theorem dX11_next_39 : decode mX11_next.2.1 39 = .ok (.aload_n 0, 1) := by decide +kernel
theorem dX11_next_40 : decode mX11_next.2.1 40 = .ok (.dup, 1) := by decide +kernel
theorem dX11_next_41 : decode mX11_next.2.1 41 = .ok (.getfield 233, 3) := by decide +kernel
theorem dX11_next_44 : decode mX11_next.2.1 44 = .ok (.iconst 1, 1) := by decide +kernel
theorem dX11_next_45 : decode mX11_next.2.1 45 = .ok (.iadd, 1) := by decide +kernel
theorem dX11_next_46 : decode mX11_next.2.1 46 = .ok (.putfield 233, 3) := by decide +kernel
theorem dX11_next_49 : decode mX11_next.2.1 49 = .ok (.goto (-49), 3) := by decide +kernel
theorem dX11_next_52 : decode mX11_next.2.1 52 = .ok (.aload_n 0, 1) := by decide +kernel
theorem dX11_next_53 : decode mX11_next.2.1 53 = .ok (.aload_n 0, 1) := by decide +kernel
theorem dX11_next_54 : decode mX11_next.2.1 54 = .ok (.getfield 233, 3) := by decide +kernel
theorem dX11_next_57 : decode mX11_next.2.1 57 = .ok (.putfield 236, 3) := by decide +kernel
theorem dX11_next_60 : decode mX11_next.2.1 60 = .ok (.aload_n 0, 1) := by decide +kernel
theorem dX11_next_61 : decode mX11_next.2.1 61 = .ok (.getfield 233, 3) := by decide +kernel
theorem dX11_next_64 : decode mX11_next.2.1 64 = .ok (.aload_n 0, 1) := by decide +kernel
theorem dX11_next_65 : decode mX11_next.2.1 65 = .ok (.getfield 230, 3) := by decide +kernel
theorem dX11_next_68 : decode mX11_next.2.1 68 = .ok (.if_icmp .lt 9, 3) := by decide +kernel
theorem dX11_next_71 : decode mX11_next.2.1 71 = .ok (.aload_n 0, 1) := by decide +kernel
theorem dX11_next_72 : decode mX11_next.2.1 72 = .ok (.iconst 0, 1) := by decide +kernel
theorem dX11_next_73 : decode mX11_next.2.1 73 = .ok (.putfield 239, 3) := by decide +kernel
theorem dX11_next_76 : decode mX11_next.2.1 76 = .ok (.return_, 1) := by decide +kernel
theorem dX11_next_77 : decode mX11_next.2.1 77 = .ok (.aload_n 0, 1) := by decide +kernel
theorem dX11_next_78 : decode mX11_next.2.1 78 = .ok (.getfield 108, 3) := by decide +kernel
theorem dX11_next_81 : decode mX11_next.2.1 81 = .ok (.aload_n 0, 1) := by decide +kernel
theorem dX11_next_82 : decode mX11_next.2.1 82 = .ok (.getfield 233, 3) := by decide +kernel
theorem dX11_next_85 : decode mX11_next.2.1 85 = .ok (.baload, 1) := by decide +kernel
theorem dX11_next_86 : decode mX11_next.2.1 86 = .ok (.istore_n 1, 1) := by decide +kernel
theorem dX11_next_87 : decode mX11_next.2.1 87 = .ok (.aload_n 0, 1) := by decide +kernel
theorem dX11_next_88 : decode mX11_next.2.1 88 = .ok (.dup, 1) := by decide +kernel
theorem dX11_next_89 : decode mX11_next.2.1 89 = .ok (.getfield 233, 3) := by decide +kernel
theorem dX11_next_92 : decode mX11_next.2.1 92 = .ok (.iconst 1, 1) := by decide +kernel
theorem dX11_next_93 : decode mX11_next.2.1 93 = .ok (.iadd, 1) := by decide +kernel
theorem dX11_next_94 : decode mX11_next.2.1 94 = .ok (.putfield 233, 3) := by decide +kernel
theorem dX11_next_97 : decode mX11_next.2.1 97 = .ok (.iload_n 1, 1) := by decide +kernel
theorem dX11_next_98 : decode mX11_next.2.1 98 = .ok (.invokestatic 242, 3) := by decide +kernel
theorem dX11_next_101 : decode mX11_next.2.1 101 = .ok (.ifCond .eq 38, 3) := by decide +kernel
theorem dX11_next_104 : decode mX11_next.2.1 104 = .ok (.aload_n 0, 1) := by decide +kernel
theorem dX11_next_105 : decode mX11_next.2.1 105 = .ok (.aload_n 0, 1) := by decide +kernel
theorem dX11_next_106 : decode mX11_next.2.1 106 = .ok (.getfield 233, 3) := by decide +kernel
theorem dX11_next_109 : decode mX11_next.2.1 109 = .ok (.invokevirtual 245, 3) := by decide +kernel
theorem dX11_next_112 : decode mX11_next.2.1 112 = .ok (.invokestatic 242, 3) := by decide +kernel
theorem dX11_next_115 : decode mX11_next.2.1 115 = .ok (.ifCond .eq 16, 3) := by decide +kernel
theorem dX11_next_118 : decode mX11_next.2.1 118 = .ok (.aload_n 0, 1) := by decide +kernel
theorem dX11_next_119 : decode mX11_next.2.1 119 = .ok (.dup, 1) := by decide +kernel
theorem dX11_next_120 : decode mX11_next.2.1 120 = .ok (.getfield 233, 3) := by decide +kernel
theorem dX11_next_123 : decode mX11_next.2.1 123 = .ok (.iconst 1, 1) := by decide +kernel
theorem dX11_next_124 : decode mX11_next.2.1 124 = .ok (.iadd, 1) := by decide +kernel
theorem dX11_next_125 : decode mX11_next.2.1 125 = .ok (.putfield 233, 3) := by decide +kernel
theorem dX11_next_128 : decode mX11_next.2.1 128 = .ok (.goto (-24), 3) := by decide +kernel
theorem dX11_next_131 : decode mX11_next.2.1 131 = .ok (.aload_n 0, 1) := by decide +kernel
theorem dX11_next_132 : decode mX11_next.2.1 132 = .ok (.iconst 3, 1) := by decide +kernel
theorem dX11_next_133 : decode mX11_next.2.1 133 = .ok (.putfield 239, 3) := by decide +kernel
theorem dX11_next_136 : decode mX11_next.2.1 136 = .ok (.goto 156, 3) := by decide +kernel
theorem dX11_next_139 : decode mX11_next.2.1 139 = .ok (.iload_n 1, 1) := by decide +kernel
theorem dX11_next_140 : decode mX11_next.2.1 140 = .ok (.invokestatic 248, 3) := by decide +kernel
theorem dX11_next_143 : decode mX11_next.2.1 143 = .ok (.ifCond .eq 99, 3) := by decide +kernel
theorem dX11_next_146 : decode mX11_next.2.1 146 = .ok (.aload_n 0, 1) := by decide +kernel
theorem dX11_next_147 : decode mX11_next.2.1 147 = .ok (.iload_n 1, 1) := by decide +kernel
theorem dX11_next_148 : decode mX11_next.2.1 148 = .ok (.bipush 48, 2) := by decide +kernel
theorem dX11_next_150 : decode mX11_next.2.1 150 = .ok (.isub, 1) := by decide +kernel
theorem dX11_next_151 : decode mX11_next.2.1 151 = .ok (.putfield 251, 3) := by decide +kernel
theorem dX11_next_154 : decode mX11_next.2.1 154 = .ok (.aload_n 0, 1) := by decide +kernel
theorem dX11_next_155 : decode mX11_next.2.1 155 = .ok (.aload_n 0, 1) := by decide +kernel
theorem dX11_next_156 : decode mX11_next.2.1 156 = .ok (.getfield 233, 3) := by decide +kernel
theorem dX11_next_159 : decode mX11_next.2.1 159 = .ok (.invokevirtual 245, 3) := by decide +kernel
theorem dX11_next_162 : decode mX11_next.2.1 162 = .ok (.invokestatic 248, 3) := by decide +kernel
theorem dX11_next_165 : decode mX11_next.2.1 165 = .ok (.ifCond .eq 52, 3) := by decide +kernel
theorem dX11_next_168 : decode mX11_next.2.1 168 = .ok (.aload_n 0, 1) := by decide +kernel
theorem dX11_next_169 : decode mX11_next.2.1 169 = .ok (.getfield 233, 3) := by decide +kernel
theorem dX11_next_172 : decode mX11_next.2.1 172 = .ok (.aload_n 0, 1) := by decide +kernel
theorem dX11_next_173 : decode mX11_next.2.1 173 = .ok (.getfield 236, 3) := by decide +kernel
theorem dX11_next_176 : decode mX11_next.2.1 176 = .ok (.isub, 1) := by decide +kernel
theorem dX11_next_177 : decode mX11_next.2.1 177 = .ok (.iconst 4, 1) := by decide +kernel
theorem dX11_next_178 : decode mX11_next.2.1 178 = .ok (.if_icmp .ge 26, 3) := by decide +kernel
theorem dX11_next_181 : decode mX11_next.2.1 181 = .ok (.aload_n 0, 1) := by decide +kernel
theorem dX11_next_182 : decode mX11_next.2.1 182 = .ok (.bipush 10, 2) := by decide +kernel
theorem dX11_next_184 : decode mX11_next.2.1 184 = .ok (.aload_n 0, 1) := by decide +kernel
theorem dX11_next_185 : decode mX11_next.2.1 185 = .ok (.getfield 251, 3) := by decide +kernel
theorem dX11_next_188 : decode mX11_next.2.1 188 = .ok (.imul, 1) := by decide +kernel
theorem dX11_next_189 : decode mX11_next.2.1 189 = .ok (.aload_n 0, 1) := by decide +kernel
theorem dX11_next_190 : decode mX11_next.2.1 190 = .ok (.aload_n 0, 1) := by decide +kernel
theorem dX11_next_191 : decode mX11_next.2.1 191 = .ok (.getfield 233, 3) := by decide +kernel
theorem dX11_next_194 : decode mX11_next.2.1 194 = .ok (.invokevirtual 245, 3) := by decide +kernel
theorem dX11_next_197 : decode mX11_next.2.1 197 = .ok (.iadd, 1) := by decide +kernel
theorem dX11_next_198 : decode mX11_next.2.1 198 = .ok (.bipush 48, 2) := by decide +kernel
theorem dX11_next_200 : decode mX11_next.2.1 200 = .ok (.isub, 1) := by decide +kernel
theorem dX11_next_201 : decode mX11_next.2.1 201 = .ok (.putfield 251, 3) := by decide +kernel
theorem dX11_next_204 : decode mX11_next.2.1 204 = .ok (.aload_n 0, 1) := by decide +kernel
theorem dX11_next_205 : decode mX11_next.2.1 205 = .ok (.dup, 1) := by decide +kernel
theorem dX11_next_206 : decode mX11_next.2.1 206 = .ok (.getfield 233, 3) := by decide +kernel
theorem dX11_next_209 : decode mX11_next.2.1 209 = .ok (.iconst 1, 1) := by decide +kernel
theorem dX11_next_210 : decode mX11_next.2.1 210 = .ok (.iadd, 1) := by decide +kernel
theorem dX11_next_211 : decode mX11_next.2.1 211 = .ok (.putfield 233, 3) := by decide +kernel
theorem dX11_next_214 : decode mX11_next.2.1 214 = .ok (.goto (-60), 3) := by decide +kernel
theorem dX11_next_217 : decode mX11_next.2.1 217 = .ok (.aload_n 0, 1) := by decide +kernel
theorem dX11_next_218 : decode mX11_next.2.1 218 = .ok (.aload_n 0, 1) := by decide +kernel
theorem dX11_next_219 : decode mX11_next.2.1 219 = .ok (.getfield 233, 3) := by decide +kernel
theorem dX11_next_222 : decode mX11_next.2.1 222 = .ok (.aload_n 0, 1) := by decide +kernel
theorem dX11_next_223 : decode mX11_next.2.1 223 = .ok (.getfield 236, 3) := by decide +kernel
theorem dX11_next_226 : decode mX11_next.2.1 226 = .ok (.isub, 1) := by decide +kernel
theorem dX11_next_227 : decode mX11_next.2.1 227 = .ok (.iconst 4, 1) := by decide +kernel
theorem dX11_next_228 : decode mX11_next.2.1 228 = .ok (.if_icmp .le 7, 3) := by decide +kernel
theorem dX11_next_231 : decode mX11_next.2.1 231 = .ok (.iconst 1, 1) := by decide +kernel
theorem dX11_next_232 : decode mX11_next.2.1 232 = .ok (.goto 4, 3) := by decide +kernel
theorem dX11_next_235 : decode mX11_next.2.1 235 = .ok (.iconst 2, 1) := by decide +kernel
theorem dX11_next_236 : decode mX11_next.2.1 236 = .ok (.putfield 239, 3) := by decide +kernel
theorem dX11_next_239 : decode mX11_next.2.1 239 = .ok (.goto 53, 3) := by decide +kernel
theorem dX11_next_242 : decode mX11_next.2.1 242 = .ok (.aload_n 0, 1) := by decide +kernel
theorem dX11_next_243 : decode mX11_next.2.1 243 = .ok (.iload_n 1, 1) := by decide +kernel
theorem dX11_next_244 : decode mX11_next.2.1 244 = .ok (.putfield 251, 3) := by decide +kernel
theorem dX11_next_247 : decode mX11_next.2.1 247 = .ok (.aload_n 0, 1) := by decide +kernel
theorem dX11_next_248 : decode mX11_next.2.1 248 = .ok (.iload_n 1, 1) := by decide +kernel
theorem dX11_next_249 : decode mX11_next.2.1 249 = .ok (.bipush 60, 2) := by decide +kernel
theorem dX11_next_251 : decode mX11_next.2.1 251 = .ok (.if_icmp .eq 33, 3) := by decide +kernel
theorem dX11_next_254 : decode mX11_next.2.1 254 = .ok (.iload_n 1, 1) := by decide +kernel
theorem dX11_next_255 : decode mX11_next.2.1 255 = .ok (.bipush 61, 2) := by decide +kernel
theorem dX11_next_257 : decode mX11_next.2.1 257 = .ok (.if_icmp .eq 27, 3) := by decide +kernel
theorem dX11_next_260 : decode mX11_next.2.1 260 = .ok (.iload_n 1, 1) := by decide +kernel
theorem dX11_next_261 : decode mX11_next.2.1 261 = .ok (.bipush 62, 2) := by decide +kernel
theorem dX11_next_263 : decode mX11_next.2.1 263 = .ok (.if_icmp .eq 21, 3) := by decide +kernel
theorem dX11_next_266 : decode mX11_next.2.1 266 = .ok (.iload_n 1, 1) := by decide +kernel
theorem dX11_next_267 : decode mX11_next.2.1 267 = .ok (.bipush 58, 2) := by decide +kernel
theorem dX11_next_269 : decode mX11_next.2.1 269 = .ok (.if_icmp .eq 15, 3) := by decide +kernel
theorem dX11_next_272 : decode mX11_next.2.1 272 = .ok (.iload_n 1, 1) := by decide +kernel
theorem dX11_next_273 : decode mX11_next.2.1 273 = .ok (.bipush 59, 2) := by decide +kernel
theorem dX11_next_275 : decode mX11_next.2.1 275 = .ok (.if_icmp .eq 9, 3) := by decide +kernel
theorem dX11_next_278 : decode mX11_next.2.1 278 = .ok (.iload_n 1, 1) := by decide +kernel
theorem dX11_next_279 : decode mX11_next.2.1 279 = .ok (.bipush 45, 2) := by decide +kernel
theorem dX11_next_281 : decode mX11_next.2.1 281 = .ok (.if_icmp .ne 7, 3) := by decide +kernel
theorem dX11_next_284 : decode mX11_next.2.1 284 = .ok (.iconst 4, 1) := by decide +kernel
theorem dX11_next_285 : decode mX11_next.2.1 285 = .ok (.goto 4, 3) := by decide +kernel
theorem dX11_next_288 : decode mX11_next.2.1 288 = .ok (.iconst 1, 1) := by decide +kernel
theorem dX11_next_289 : decode mX11_next.2.1 289 = .ok (.putfield 239, 3) := by decide +kernel
theorem dX11_next_292 : decode mX11_next.2.1 292 = .ok (.return_, 1) := by decide +kernel
theorem dX11_number_0 : decode mX11_number.2.1 0 = .ok (.aload_n 0, 1) := by decide +kernel
theorem dX11_number_1 : decode mX11_number.2.1 1 = .ok (.invokevirtual 301, 3) := by decide +kernel
theorem dX11_number_4 : decode mX11_number.2.1 4 = .ok (.ifCond .eq 16, 3) := by decide +kernel
theorem dX11_number_7 : decode mX11_number.2.1 7 = .ok (.aload_n 0, 1) := by decide +kernel
theorem dX11_number_8 : decode mX11_number.2.1 8 = .ok (.getfield 239, 3) := by decide +kernel
theorem dX11_number_11 : decode mX11_number.2.1 11 = .ok (.iconst 2, 1) := by decide +kernel
theorem dX11_number_12 : decode mX11_number.2.1 12 = .ok (.if_icmp .eq 8, 3) := by decide +kernel
theorem dX11_number_15 : decode mX11_number.2.1 15 = .ok (.aload_n 0, 1) := by decide +kernel
theorem dX11_number_16 : decode mX11_number.2.1 16 = .ok (.iconst 1, 1) := by decide +kernel
theorem dX11_number_17 : decode mX11_number.2.1 17 = .ok (.invokevirtual 289, 3) := by decide +kernel
theorem dX11_number_20 : decode mX11_number.2.1 20 = .ok (.aload_n 0, 1) := by decide +kernel
theorem dX11_number_21 : decode mX11_number.2.1 21 = .ok (.invokevirtual 301, 3) := by decide +kernel
theorem dX11_number_24 : decode mX11_number.2.1 24 = .ok (.ifCond .ne 5, 3) := by decide +kernel
theorem dX11_number_27 : decode mX11_number.2.1 27 = .ok (.iconst 0, 1) := by decide +kernel
theorem dX11_number_28 : decode mX11_number.2.1 28 = .ok (.ireturn, 1) := by decide +kernel
theorem dX11_number_29 : decode mX11_number.2.1 29 = .ok (.aload_n 0, 1) := by decide +kernel
theorem dX11_number_30 : decode mX11_number.2.1 30 = .ok (.getfield 251, 3) := by decide +kernel
theorem dX11_number_33 : decode mX11_number.2.1 33 = .ok (.istore_n 1, 1) := by decide +kernel
theorem dX11_number_34 : decode mX11_number.2.1 34 = .ok (.aload_n 0, 1) := by decide +kernel
theorem dX11_number_35 : decode mX11_number.2.1 35 = .ok (.invokevirtual 292, 3) := by decide +kernel
theorem dX11_number_38 : decode mX11_number.2.1 38 = .ok (.iload_n 1, 1) := by decide +kernel
theorem dX11_number_39 : decode mX11_number.2.1 39 = .ok (.ireturn, 1) := by decide +kernel
theorem dX11_of_0 : decode mX11_of.2.1 0 = .ok (.aload_n 0, 1) := by decide +kernel
theorem dX11_of_1 : decode mX11_of.2.1 1 = .ok (.iconst 0, 1) := by decide +kernel
theorem dX11_of_2 : decode mX11_of.2.1 2 = .ok (.putfield 1, 3) := by decide +kernel
theorem dX11_of_5 : decode mX11_of.2.1 5 = .ok (.aload_n 0, 1) := by decide +kernel
theorem dX11_of_6 : decode mX11_of.2.1 6 = .ok (.iload_n 1, 1) := by decide +kernel
theorem dX11_of_7 : decode mX11_of.2.1 7 = .ok (.invokevirtual 175, 3) := by decide +kernel
theorem dX11_of_10 : decode mX11_of.2.1 10 = .ok (.ifCond .ne 5, 3) := by decide +kernel
theorem dX11_of_13 : decode mX11_of.2.1 13 = .ok (.iconst (-1), 1) := by decide +kernel
theorem dX11_of_14 : decode mX11_of.2.1 14 = .ok (.ireturn, 1) := by decide +kernel
theorem dX11_of_15 : decode mX11_of.2.1 15 = .ok (.iload_n 2, 1) := by decide +kernel
theorem dX11_of_16 : decode mX11_of.2.1 16 = .ok (.tableswitch 124 0 7 #[48, 55, 62, 69, 76, 104, 111, 118], 48) := by decide +kernel
theorem dX11_of_64 : decode mX11_of.2.1 64 = .ok (.aload_n 0, 1) := by decide +kernel
theorem dX11_of_65 : decode mX11_of.2.1 65 = .ok (.getfield 60, 3) := by decide +kernel
theorem dX11_of_68 : decode mX11_of.2.1 68 = .ok (.iload_n 1, 1) := by decide +kernel
theorem dX11_of_69 : decode mX11_of.2.1 69 = .ok (.iaload, 1) := by decide +kernel
theorem dX11_of_70 : decode mX11_of.2.1 70 = .ok (.ireturn, 1) := by decide +kernel
theorem dX11_of_71 : decode mX11_of.2.1 71 = .ok (.aload_n 0, 1) := by decide +kernel
theorem dX11_of_72 : decode mX11_of.2.1 72 = .ok (.getfield 63, 3) := by decide +kernel
theorem dX11_of_75 : decode mX11_of.2.1 75 = .ok (.iload_n 1, 1) := by decide +kernel
theorem dX11_of_76 : decode mX11_of.2.1 76 = .ok (.iaload, 1) := by decide +kernel
theorem dX11_of_77 : decode mX11_of.2.1 77 = .ok (.ireturn, 1) := by decide +kernel
theorem dX11_of_78 : decode mX11_of.2.1 78 = .ok (.aload_n 0, 1) := by decide +kernel
theorem dX11_of_79 : decode mX11_of.2.1 79 = .ok (.getfield 66, 3) := by decide +kernel
theorem dX11_of_82 : decode mX11_of.2.1 82 = .ok (.iload_n 1, 1) := by decide +kernel
theorem dX11_of_83 : decode mX11_of.2.1 83 = .ok (.iaload, 1) := by decide +kernel
theorem dX11_of_84 : decode mX11_of.2.1 84 = .ok (.ireturn, 1) := by decide +kernel
theorem dX11_of_85 : decode mX11_of.2.1 85 = .ok (.aload_n 0, 1) := by decide +kernel
theorem dX11_of_86 : decode mX11_of.2.1 86 = .ok (.getfield 69, 3) := by decide +kernel
theorem dX11_of_89 : decode mX11_of.2.1 89 = .ok (.iload_n 1, 1) := by decide +kernel
theorem dX11_of_90 : decode mX11_of.2.1 90 = .ok (.iaload, 1) := by decide +kernel
theorem dX11_of_91 : decode mX11_of.2.1 91 = .ok (.ireturn, 1) := by decide +kernel
theorem dX11_of_92 : decode mX11_of.2.1 92 = .ok (.aload_n 0, 1) := by decide +kernel
theorem dX11_of_93 : decode mX11_of.2.1 93 = .ok (.getfield 69, 3) := by decide +kernel
theorem dX11_of_96 : decode mX11_of.2.1 96 = .ok (.iload_n 1, 1) := by decide +kernel
theorem dX11_of_97 : decode mX11_of.2.1 97 = .ok (.iaload, 1) := by decide +kernel
theorem dX11_of_98 : decode mX11_of.2.1 98 = .ok (.iconst 1, 1) := by decide +kernel
theorem dX11_of_99 : decode mX11_of.2.1 99 = .ok (.if_icmp .ne 14, 3) := by decide +kernel
theorem dX11_of_102 : decode mX11_of.2.1 102 = .ok (.aload_n 0, 1) := by decide +kernel
theorem dX11_of_103 : decode mX11_of.2.1 103 = .ok (.getfield 75, 3) := by decide +kernel
theorem dX11_of_106 : decode mX11_of.2.1 106 = .ok (.iload_n 1, 1) := by decide +kernel
theorem dX11_of_107 : decode mX11_of.2.1 107 = .ok (.iaload, 1) := by decide +kernel
theorem dX11_of_108 : decode mX11_of.2.1 108 = .ok (.iconst 3, 1) := by decide +kernel
theorem dX11_of_109 : decode mX11_of.2.1 109 = .ok (.idiv, 1) := by decide +kernel
theorem dX11_of_110 : decode mX11_of.2.1 110 = .ok (.goto 9, 3) := by decide +kernel
theorem dX11_of_113 : decode mX11_of.2.1 113 = .ok (.aload_n 0, 1) := by decide +kernel
theorem dX11_of_114 : decode mX11_of.2.1 114 = .ok (.getfield 72, 3) := by decide +kernel
theorem dX11_of_117 : decode mX11_of.2.1 117 = .ok (.iload_n 1, 1) := by decide +kernel
theorem dX11_of_118 : decode mX11_of.2.1 118 = .ok (.iaload, 1) := by decide +kernel
theorem dX11_of_119 : decode mX11_of.2.1 119 = .ok (.ireturn, 1) := by decide +kernel
theorem dX11_of_120 : decode mX11_of.2.1 120 = .ok (.aload_n 0, 1) := by decide +kernel
theorem dX11_of_121 : decode mX11_of.2.1 121 = .ok (.getfield 81, 3) := by decide +kernel
theorem dX11_of_124 : decode mX11_of.2.1 124 = .ok (.iload_n 1, 1) := by decide +kernel
theorem dX11_of_125 : decode mX11_of.2.1 125 = .ok (.iaload, 1) := by decide +kernel
theorem dX11_of_126 : decode mX11_of.2.1 126 = .ok (.ireturn, 1) := by decide +kernel
theorem dX11_of_127 : decode mX11_of.2.1 127 = .ok (.aload_n 0, 1) := by decide +kernel
theorem dX11_of_128 : decode mX11_of.2.1 128 = .ok (.getfield 87, 3) := by decide +kernel
theorem dX11_of_131 : decode mX11_of.2.1 131 = .ok (.iload_n 1, 1) := by decide +kernel
theorem dX11_of_132 : decode mX11_of.2.1 132 = .ok (.iaload, 1) := by decide +kernel
theorem dX11_of_133 : decode mX11_of.2.1 133 = .ok (.ireturn, 1) := by decide +kernel
theorem dX11_of_134 : decode mX11_of.2.1 134 = .ok (.aload_n 0, 1) := by decide +kernel
theorem dX11_of_135 : decode mX11_of.2.1 135 = .ok (.iload_n 1, 1) := by decide +kernel
theorem dX11_of_136 : decode mX11_of.2.1 136 = .ok (.invokevirtual 319, 3) := by decide +kernel
theorem dX11_of_139 : decode mX11_of.2.1 139 = .ok (.ireturn, 1) := by decide +kernel
theorem dX11_of_140 : decode mX11_of.2.1 140 = .ok (.iconst (-1), 1) := by decide +kernel
theorem dX11_of_141 : decode mX11_of.2.1 141 = .ok (.ireturn, 1) := by decide +kernel
theorem dX11_pack_0 : decode mX11_pack.2.1 0 = .ok (.aload_n 0, 1) := by decide +kernel
theorem dX11_pack_1 : decode mX11_pack.2.1 1 = .ok (.iconst 0, 1) := by decide +kernel
theorem dX11_pack_2 : decode mX11_pack.2.1 2 = .ok (.putfield 1, 3) := by decide +kernel
theorem dX11_pack_5 : decode mX11_pack.2.1 5 = .ok (.aload_n 0, 1) := by decide +kernel
theorem dX11_pack_6 : decode mX11_pack.2.1 6 = .ok (.iload_n 1, 1) := by decide +kernel
theorem dX11_pack_7 : decode mX11_pack.2.1 7 = .ok (.invokevirtual 156, 3) := by decide +kernel
theorem dX11_pack_10 : decode mX11_pack.2.1 10 = .ok (.ifCond .eq 45, 3) := by decide +kernel
theorem dX11_pack_13 : decode mX11_pack.2.1 13 = .ok (.aload_n 0, 1) := by decide +kernel
theorem dX11_pack_14 : decode mX11_pack.2.1 14 = .ok (.iload_n 2, 1) := by decide +kernel
theorem dX11_pack_15 : decode mX11_pack.2.1 15 = .ok (.invokevirtual 156, 3) := by decide +kernel
theorem dX11_pack_18 : decode mX11_pack.2.1 18 = .ok (.ifCond .eq 37, 3) := by decide +kernel
theorem dX11_pack_21 : decode mX11_pack.2.1 21 = .ok (.iload_n 1, 1) := by decide +kernel
theorem dX11_pack_22 : decode mX11_pack.2.1 22 = .ok (.iload_n 2, 1) := by decide +kernel
theorem dX11_pack_23 : decode mX11_pack.2.1 23 = .ok (.if_icmp .eq 32, 3) := by decide +kernel
theorem dX11_pack_26 : decode mX11_pack.2.1 26 = .ok (.iload_n 3, 1) := by decide +kernel
theorem dX11_pack_27 : decode mX11_pack.2.1 27 = .ok (.iconst 0, 1) := by decide +kernel
theorem dX11_pack_28 : decode mX11_pack.2.1 28 = .ok (.iconst 3, 1) := by decide +kernel
theorem dX11_pack_29 : decode mX11_pack.2.1 29 = .ok (.invokestatic 139, 3) := by decide +kernel
theorem dX11_pack_32 : decode mX11_pack.2.1 32 = .ok (.ifCond .eq 23, 3) := by decide +kernel
theorem dX11_pack_35 : decode mX11_pack.2.1 35 = .ok (.iload 4, 2) := by decide +kernel
theorem dX11_pack_37 : decode mX11_pack.2.1 37 = .ok (.iconst 1, 1) := by decide +kernel
theorem dX11_pack_38 : decode mX11_pack.2.1 38 = .ok (.bipush 60, 2) := by decide +kernel
theorem dX11_pack_40 : decode mX11_pack.2.1 40 = .ok (.invokestatic 139, 3) := by decide +kernel
theorem dX11_pack_43 : decode mX11_pack.2.1 43 = .ok (.ifCond .eq 12, 3) := by decide +kernel
theorem dX11_pack_46 : decode mX11_pack.2.1 46 = .ok (.aload_n 0, 1) := by decide +kernel
theorem dX11_pack_47 : decode mX11_pack.2.1 47 = .ok (.getfield 165, 3) := by decide +kernel
theorem dX11_pack_50 : decode mX11_pack.2.1 50 = .ok (.bipush 100, 2) := by decide +kernel
theorem dX11_pack_52 : decode mX11_pack.2.1 52 = .ok (.if_icmp .ne 5, 3) := by decide +kernel
theorem dX11_pack_55 : decode mX11_pack.2.1 55 = .ok (.iconst (-1), 1) := by decide +kernel
theorem dX11_pack_56 : decode mX11_pack.2.1 56 = .ok (.ireturn, 1) := by decide +kernel
theorem dX11_pack_57 : decode mX11_pack.2.1 57 = .ok (.aload_n 0, 1) := by decide +kernel
theorem dX11_pack_58 : decode mX11_pack.2.1 58 = .ok (.getfield 60, 3) := by decide +kernel
theorem dX11_pack_61 : decode mX11_pack.2.1 61 = .ok (.aload_n 0, 1) := by decide +kernel
theorem dX11_pack_62 : decode mX11_pack.2.1 62 = .ok (.getfield 165, 3) := by decide +kernel
theorem dX11_pack_65 : decode mX11_pack.2.1 65 = .ok (.iload_n 3, 1) := by decide +kernel
theorem dX11_pack_66 : decode mX11_pack.2.1 66 = .ok (.iastore, 1) := by decide +kernel
theorem dX11_pack_67 : decode mX11_pack.2.1 67 = .ok (.aload_n 0, 1) := by decide +kernel
theorem dX11_pack_68 : decode mX11_pack.2.1 68 = .ok (.getfield 63, 3) := by decide +kernel
theorem dX11_pack_71 : decode mX11_pack.2.1 71 = .ok (.aload_n 0, 1) := by decide +kernel
theorem dX11_pack_72 : decode mX11_pack.2.1 72 = .ok (.getfield 165, 3) := by decide +kernel
theorem dX11_pack_75 : decode mX11_pack.2.1 75 = .ok (.iload 4, 2) := by decide +kernel
theorem dX11_pack_77 : decode mX11_pack.2.1 77 = .ok (.iastore, 1) := by decide +kernel
theorem dX11_pack_78 : decode mX11_pack.2.1 78 = .ok (.aload_n 0, 1) := by decide +kernel
theorem dX11_pack_79 : decode mX11_pack.2.1 79 = .ok (.getfield 66, 3) := by decide +kernel
theorem dX11_pack_82 : decode mX11_pack.2.1 82 = .ok (.aload_n 0, 1) := by decide +kernel
theorem dX11_pack_83 : decode mX11_pack.2.1 83 = .ok (.getfield 165, 3) := by decide +kernel
theorem dX11_pack_86 : decode mX11_pack.2.1 86 = .ok (.iload_n 2, 1) := by decide +kernel
theorem dX11_pack_87 : decode mX11_pack.2.1 87 = .ok (.iastore, 1) := by decide +kernel
theorem dX11_pack_88 : decode mX11_pack.2.1 88 = .ok (.aload_n 0, 1) := by decide +kernel
theorem dX11_pack_89 : decode mX11_pack.2.1 89 = .ok (.getfield 69, 3) := by decide +kernel
theorem dX11_pack_92 : decode mX11_pack.2.1 92 = .ok (.aload_n 0, 1) := by decide +kernel
theorem dX11_pack_93 : decode mX11_pack.2.1 93 = .ok (.getfield 165, 3) := by decide +kernel
theorem dX11_pack_96 : decode mX11_pack.2.1 96 = .ok (.iconst 0, 1) := by decide +kernel
theorem dX11_pack_97 : decode mX11_pack.2.1 97 = .ok (.iastore, 1) := by decide +kernel
theorem dX11_pack_98 : decode mX11_pack.2.1 98 = .ok (.aload_n 0, 1) := by decide +kernel
theorem dX11_pack_99 : decode mX11_pack.2.1 99 = .ok (.getfield 72, 3) := by decide +kernel
theorem dX11_pack_102 : decode mX11_pack.2.1 102 = .ok (.aload_n 0, 1) := by decide +kernel
theorem dX11_pack_103 : decode mX11_pack.2.1 103 = .ok (.getfield 165, 3) := by decide +kernel
theorem dX11_pack_106 : decode mX11_pack.2.1 106 = .ok (.iload_n 1, 1) := by decide +kernel
theorem dX11_pack_107 : decode mX11_pack.2.1 107 = .ok (.iastore, 1) := by decide +kernel
theorem dX11_pack_108 : decode mX11_pack.2.1 108 = .ok (.aload_n 0, 1) := by decide +kernel
theorem dX11_pack_109 : decode mX11_pack.2.1 109 = .ok (.getfield 81, 3) := by decide +kernel
theorem dX11_pack_112 : decode mX11_pack.2.1 112 = .ok (.aload_n 0, 1) := by decide +kernel
theorem dX11_pack_113 : decode mX11_pack.2.1 113 = .ok (.getfield 165, 3) := by decide +kernel
theorem dX11_pack_116 : decode mX11_pack.2.1 116 = .ok (.aload_n 0, 1) := by decide +kernel
theorem dX11_pack_117 : decode mX11_pack.2.1 117 = .ok (.getfield 150, 3) := by decide +kernel
theorem dX11_pack_120 : decode mX11_pack.2.1 120 = .ok (.iastore, 1) := by decide +kernel
theorem dX11_pack_121 : decode mX11_pack.2.1 121 = .ok (.aload_n 0, 1) := by decide +kernel
theorem dX11_pack_122 : decode mX11_pack.2.1 122 = .ok (.getfield 87, 3) := by decide +kernel
theorem dX11_pack_125 : decode mX11_pack.2.1 125 = .ok (.aload_n 0, 1) := by decide +kernel
theorem dX11_pack_126 : decode mX11_pack.2.1 126 = .ok (.getfield 165, 3) := by decide +kernel
theorem dX11_pack_129 : decode mX11_pack.2.1 129 = .ok (.iconst 0, 1) := by decide +kernel
theorem dX11_pack_130 : decode mX11_pack.2.1 130 = .ok (.iastore, 1) := by decide +kernel
theorem dX11_pack_131 : decode mX11_pack.2.1 131 = .ok (.aload_n 0, 1) := by decide +kernel
theorem dX11_pack_132 : decode mX11_pack.2.1 132 = .ok (.aload_n 0, 1) := by decide +kernel
theorem dX11_pack_133 : decode mX11_pack.2.1 133 = .ok (.getfield 165, 3) := by decide +kernel
theorem dX11_pack_136 : decode mX11_pack.2.1 136 = .ok (.iload_n 1, 1) := by decide +kernel
theorem dX11_pack_137 : decode mX11_pack.2.1 137 = .ok (.invokevirtual 168, 3) := by decide +kernel
theorem dX11_pack_140 : decode mX11_pack.2.1 140 = .ok (.aload_n 0, 1) := by decide +kernel
theorem dX11_pack_141 : decode mX11_pack.2.1 141 = .ok (.dup, 1) := by decide +kernel
theorem dX11_pack_142 : decode mX11_pack.2.1 142 = .ok (.getfield 165, 3) := by decide +kernel
theorem dX11_pack_145 : decode mX11_pack.2.1 145 = .ok (.iconst 1, 1) := by decide +kernel
theorem dX11_pack_146 : decode mX11_pack.2.1 146 = .ok (.iadd, 1) := by decide +kernel
theorem dX11_pack_147 : decode mX11_pack.2.1 147 = .ok (.putfield 165, 3) := by decide +kernel
theorem dX11_pack_150 : decode mX11_pack.2.1 150 = .ok (.aload_n 0, 1) := by decide +kernel
theorem dX11_pack_151 : decode mX11_pack.2.1 151 = .ok (.getfield 165, 3) := by decide +kernel
theorem dX11_pack_154 : decode mX11_pack.2.1 154 = .ok (.iconst 1, 1) := by decide +kernel
theorem dX11_pack_155 : decode mX11_pack.2.1 155 = .ok (.isub, 1) := by decide +kernel
theorem dX11_pack_156 : decode mX11_pack.2.1 156 = .ok (.ireturn, 1) := by decide +kernel
theorem dX11_packsOn_0 : decode mX11_packsOn.2.1 0 = .ok (.iconst 0, 1) := by decide +kernel
theorem dX11_packsOn_1 : decode mX11_packsOn.2.1 1 = .ok (.istore_n 2, 1) := by decide +kernel
theorem dX11_packsOn_2 : decode mX11_packsOn.2.1 2 = .ok (.iconst 0, 1) := by decide +kernel
theorem dX11_packsOn_3 : decode mX11_packsOn.2.1 3 = .ok (.istore_n 3, 1) := by decide +kernel
theorem dX11_packsOn_4 : decode mX11_packsOn.2.1 4 = .ok (.iload_n 3, 1) := by decide +kernel
theorem dX11_packsOn_5 : decode mX11_packsOn.2.1 5 = .ok (.aload_n 0, 1) := by decide +kernel
theorem dX11_packsOn_6 : decode mX11_packsOn.2.1 6 = .ok (.getfield 165, 3) := by decide +kernel
theorem dX11_packsOn_9 : decode mX11_packsOn.2.1 9 = .ok (.if_icmp .ge 34, 3) := by decide +kernel
theorem dX11_packsOn_12 : decode mX11_packsOn.2.1 12 = .ok (.aload_n 0, 1) := by decide +kernel
theorem dX11_packsOn_13 : decode mX11_packsOn.2.1 13 = .ok (.getfield 69, 3) := by decide +kernel
theorem dX11_packsOn_16 : decode mX11_packsOn.2.1 16 = .ok (.iload_n 3, 1) := by decide +kernel
theorem dX11_packsOn_17 : decode mX11_packsOn.2.1 17 = .ok (.iaload, 1) := by decide +kernel
theorem dX11_packsOn_18 : decode mX11_packsOn.2.1 18 = .ok (.iconst 1, 1) := by decide +kernel
theorem dX11_packsOn_19 : decode mX11_packsOn.2.1 19 = .ok (.if_icmp .ne 18, 3) := by decide +kernel
theorem dX11_packsOn_22 : decode mX11_packsOn.2.1 22 = .ok (.aload_n 0, 1) := by decide +kernel
theorem dX11_packsOn_23 : decode mX11_packsOn.2.1 23 = .ok (.getfield 75, 3) := by decide +kernel
theorem dX11_packsOn_26 : decode mX11_packsOn.2.1 26 = .ok (.iload_n 3, 1) := by decide +kernel
theorem dX11_packsOn_27 : decode mX11_packsOn.2.1 27 = .ok (.iaload, 1) := by decide +kernel
theorem dX11_packsOn_28 : decode mX11_packsOn.2.1 28 = .ok (.iconst 3, 1) := by decide +kernel
theorem dX11_packsOn_29 : decode mX11_packsOn.2.1 29 = .ok (.idiv, 1) := by decide +kernel
theorem dX11_packsOn_30 : decode mX11_packsOn.2.1 30 = .ok (.iload_n 1, 1) := by decide +kernel
theorem dX11_packsOn_31 : decode mX11_packsOn.2.1 31 = .ok (.if_icmp .ne 6, 3) := by decide +kernel
theorem dX11_packsOn_34 : decode mX11_packsOn.2.1 34 = .ok (.iinc 2 1, 3) := by decide +kernel
theorem dX11_packsOn_37 : decode mX11_packsOn.2.1 37 = .ok (.iinc 3 1, 3) := by decide +kernel
theorem dX11_packsOn_40 : decode mX11_packsOn.2.1 40 = .ok (.goto (-36), 3) := by decide +kernel
theorem dX11_packsOn_43 : decode mX11_packsOn.2.1 43 = .ok (.iload_n 2, 1) := by decide +kernel
theorem dX11_packsOn_44 : decode mX11_packsOn.2.1 44 = .ok (.ireturn, 1) := by decide +kernel
theorem dX11_place_0 : decode mX11_place.2.1 0 = .ok (.aload_n 0, 1) := by decide +kernel
theorem dX11_place_1 : decode mX11_place.2.1 1 = .ok (.iconst 0, 1) := by decide +kernel
theorem dX11_place_2 : decode mX11_place.2.1 2 = .ok (.putfield 1, 3) := by decide +kernel
theorem dX11_place_5 : decode mX11_place.2.1 5 = .ok (.aload_n 0, 1) := by decide +kernel
theorem dX11_place_6 : decode mX11_place.2.1 6 = .ok (.getfield 112, 3) := by decide +kernel
theorem dX11_place_9 : decode mX11_place.2.1 9 = .ok (.ireturn, 1) := by decide +kernel
theorem dX11_rests_0 : decode mX11_rests.2.1 0 = .ok (.iconst 3, 1) := by decide +kernel
theorem dX11_rests_1 : decode mX11_rests.2.1 1 = .ok (.iload_n 1, 1) := by decide +kernel
theorem dX11_rests_2 : decode mX11_rests.2.1 2 = .ok (.imul, 1) := by decide +kernel
theorem dX11_rests_3 : decode mX11_rests.2.1 3 = .ok (.istore_n 2, 1) := by decide +kernel
theorem dX11_rests_4 : decode mX11_rests.2.1 4 = .ok (.iload_n 2, 1) := by decide +kernel
theorem dX11_rests_5 : decode mX11_rests.2.1 5 = .ok (.iconst 3, 1) := by decide +kernel
theorem dX11_rests_6 : decode mX11_rests.2.1 6 = .ok (.iload_n 1, 1) := by decide +kernel
theorem dX11_rests_7 : decode mX11_rests.2.1 7 = .ok (.imul, 1) := by decide +kernel
theorem dX11_rests_8 : decode mX11_rests.2.1 8 = .ok (.iconst 3, 1) := by decide +kernel
theorem dX11_rests_9 : decode mX11_rests.2.1 9 = .ok (.iadd, 1) := by decide +kernel
theorem dX11_rests_10 : decode mX11_rests.2.1 10 = .ok (.if_icmp .ge 43, 3) := by decide +kernel
theorem dX11_rests_13 : decode mX11_rests.2.1 13 = .ok (.aload_n 0, 1) := by decide +kernel
theorem dX11_rests_14 : decode mX11_rests.2.1 14 = .ok (.getfield 51, 3) := by decide +kernel
theorem dX11_rests_17 : decode mX11_rests.2.1 17 = .ok (.iload_n 2, 1) := by decide +kernel
theorem dX11_rests_18 : decode mX11_rests.2.1 18 = .ok (.iconst 0, 1) := by decide +kernel
theorem dX11_rests_19 : decode mX11_rests.2.1 19 = .ok (.aload_n 0, 1) := by decide +kernel
theorem dX11_rests_20 : decode mX11_rests.2.1 20 = .ok (.getfield 51, 3) := by decide +kernel
theorem dX11_rests_23 : decode mX11_rests.2.1 23 = .ok (.iload_n 2, 1) := by decide +kernel
theorem dX11_rests_24 : decode mX11_rests.2.1 24 = .ok (.iaload, 1) := by decide +kernel
theorem dX11_rests_25 : decode mX11_rests.2.1 25 = .ok (.iconst 5, 1) := by decide +kernel
theorem dX11_rests_26 : decode mX11_rests.2.1 26 = .ok (.isub, 1) := by decide +kernel
theorem dX11_rests_27 : decode mX11_rests.2.1 27 = .ok (.invokestatic 194, 3) := by decide +kernel
theorem dX11_rests_30 : decode mX11_rests.2.1 30 = .ok (.iastore, 1) := by decide +kernel
theorem dX11_rests_31 : decode mX11_rests.2.1 31 = .ok (.aload_n 0, 1) := by decide +kernel
theorem dX11_rests_32 : decode mX11_rests.2.1 32 = .ok (.getfield 51, 3) := by decide +kernel
theorem dX11_rests_35 : decode mX11_rests.2.1 35 = .ok (.iload_n 2, 1) := by decide +kernel
theorem dX11_rests_36 : decode mX11_rests.2.1 36 = .ok (.iaload, 1) := by decide +kernel
theorem dX11_rests_37 : decode mX11_rests.2.1 37 = .ok (.ifCond .ne 10, 3) := by decide +kernel
theorem dX11_rests_40 : decode mX11_rests.2.1 40 = .ok (.aload_n 0, 1) := by decide +kernel
theorem dX11_rests_41 : decode mX11_rests.2.1 41 = .ok (.getfield 54, 3) := by decide +kernel
theorem dX11_rests_44 : decode mX11_rests.2.1 44 = .ok (.iload_n 2, 1) := by decide +kernel
theorem dX11_rests_45 : decode mX11_rests.2.1 45 = .ok (.iconst 0, 1) := by decide +kernel
theorem dX11_rests_46 : decode mX11_rests.2.1 46 = .ok (.bastore, 1) := by decide +kernel
theorem dX11_rests_47 : decode mX11_rests.2.1 47 = .ok (.iinc 2 1, 3) := by decide +kernel
theorem dX11_rests_50 : decode mX11_rests.2.1 50 = .ok (.goto (-46), 3) := by decide +kernel
theorem dX11_rests_53 : decode mX11_rests.2.1 53 = .ok (.return_, 1) := by decide +kernel
theorem dX11_rule_0 : decode mX11_rule.2.1 0 = .ok (.aload_n 0, 1) := by decide +kernel
theorem dX11_rule_1 : decode mX11_rule.2.1 1 = .ok (.bipush 58, 2) := by decide +kernel
theorem dX11_rule_3 : decode mX11_rule.2.1 3 = .ok (.invokevirtual 295, 3) := by decide +kernel
theorem dX11_rule_6 : decode mX11_rule.2.1 6 = .ok (.ifCond .ne 17, 3) := by decide +kernel
theorem dX11_rule_9 : decode mX11_rule.2.1 9 = .ok (.aload_n 0, 1) := by decide +kernel
theorem dX11_rule_10 : decode mX11_rule.2.1 10 = .ok (.invokevirtual 286, 3) := by decide +kernel
theorem dX11_rule_13 : decode mX11_rule.2.1 13 = .ok (.iconst (-1), 1) := by decide +kernel
theorem dX11_rule_14 : decode mX11_rule.2.1 14 = .ok (.if_icmp .ne 9, 3) := by decide +kernel
theorem dX11_rule_17 : decode mX11_rule.2.1 17 = .ok (.aload_n 0, 1) := by decide +kernel
theorem dX11_rule_18 : decode mX11_rule.2.1 18 = .ok (.iconst 1, 1) := by decide +kernel
theorem dX11_rule_19 : decode mX11_rule.2.1 19 = .ok (.invokevirtual 289, 3) := by decide +kernel
theorem dX11_rule_22 : decode mX11_rule.2.1 22 = .ok (.return_, 1) := by decide +kernel
theorem dX11_rule_23 : decode mX11_rule.2.1 23 = .ok (.aload_n 0, 1) := by decide +kernel
theorem dX11_rule_24 : decode mX11_rule.2.1 24 = .ok (.getfield 118, 3) := by decide +kernel
theorem dX11_rule_27 : decode mX11_rule.2.1 27 = .ok (.bipush 10, 2) := by decide +kernel
theorem dX11_rule_29 : decode mX11_rule.2.1 29 = .ok (.iaload, 1) := by decide +kernel
theorem dX11_rule_30 : decode mX11_rule.2.1 30 = .ok (.bipush 20, 2) := by decide +kernel
theorem dX11_rule_32 : decode mX11_rule.2.1 32 = .ok (.if_icmp .ne 9, 3) := by decide +kernel
theorem dX11_rule_35 : decode mX11_rule.2.1 35 = .ok (.aload_n 0, 1) := by decide +kernel
theorem dX11_rule_36 : decode mX11_rule.2.1 36 = .ok (.iconst 2, 1) := by decide +kernel
theorem dX11_rule_37 : decode mX11_rule.2.1 37 = .ok (.invokevirtual 289, 3) := by decide +kernel
theorem dX11_rule_40 : decode mX11_rule.2.1 40 = .ok (.return_, 1) := by decide +kernel
theorem dX11_rule_41 : decode mX11_rule.2.1 41 = .ok (.sipush 200, 3) := by decide +kernel
theorem dX11_rule_44 : decode mX11_rule.2.1 44 = .ok (.aload_n 0, 1) := by decide +kernel
theorem dX11_rule_45 : decode mX11_rule.2.1 45 = .ok (.getfield 118, 3) := by decide +kernel
theorem dX11_rule_48 : decode mX11_rule.2.1 48 = .ok (.bipush 10, 2) := by decide +kernel
theorem dX11_rule_50 : decode mX11_rule.2.1 50 = .ok (.iaload, 1) := by decide +kernel
theorem dX11_rule_51 : decode mX11_rule.2.1 51 = .ok (.iadd, 1) := by decide +kernel
theorem dX11_rule_52 : decode mX11_rule.2.1 52 = .ok (.istore_n 1, 1) := by decide +kernel
theorem dX11_rule_53 : decode mX11_rule.2.1 53 = .ok (.aload_n 0, 1) := by decide +kernel
theorem dX11_rule_54 : decode mX11_rule.2.1 54 = .ok (.getfield 118, 3) := by decide +kernel
theorem dX11_rule_57 : decode mX11_rule.2.1 57 = .ok (.bipush 10, 2) := by decide +kernel
theorem dX11_rule_59 : decode mX11_rule.2.1 59 = .ok (.dup2, 1) := by decide +kernel
theorem dX11_rule_60 : decode mX11_rule.2.1 60 = .ok (.iaload, 1) := by decide +kernel
theorem dX11_rule_61 : decode mX11_rule.2.1 61 = .ok (.iconst 1, 1) := by decide +kernel
theorem dX11_rule_62 : decode mX11_rule.2.1 62 = .ok (.iadd, 1) := by decide +kernel
theorem dX11_rule_63 : decode mX11_rule.2.1 63 = .ok (.iastore, 1) := by decide +kernel
theorem dX11_rule_64 : decode mX11_rule.2.1 64 = .ok (.aload_n 0, 1) := by decide +kernel
theorem dX11_rule_65 : decode mX11_rule.2.1 65 = .ok (.getfield 121, 3) := by decide +kernel
theorem dX11_rule_68 : decode mX11_rule.2.1 68 = .ok (.iload_n 1, 1) := by decide +kernel
theorem dX11_rule_69 : decode mX11_rule.2.1 69 = .ok (.iconst 0, 1) := by decide +kernel
theorem dX11_rule_70 : decode mX11_rule.2.1 70 = .ok (.iastore, 1) := by decide +kernel
theorem dX11_rule_71 : decode mX11_rule.2.1 71 = .ok (.aload_n 0, 1) := by decide +kernel
theorem dX11_rule_72 : decode mX11_rule.2.1 72 = .ok (.bipush 58, 2) := by decide +kernel
theorem dX11_rule_74 : decode mX11_rule.2.1 74 = .ok (.invokevirtual 295, 3) := by decide +kernel
theorem dX11_rule_77 : decode mX11_rule.2.1 77 = .ok (.ifCond .ne 7, 3) := by decide +kernel
theorem dX11_rule_80 : decode mX11_rule.2.1 80 = .ok (.iconst 1, 1) := by decide +kernel
theorem dX11_rule_81 : decode mX11_rule.2.1 81 = .ok (.goto 4, 3) := by decide +kernel
theorem dX11_rule_84 : decode mX11_rule.2.1 84 = .ok (.iconst 0, 1) := by decide +kernel
theorem dX11_rule_85 : decode mX11_rule.2.1 85 = .ok (.istore_n 2, 1) := by decide +kernel
theorem dX11_rule_86 : decode mX11_rule.2.1 86 = .ok (.iload_n 2, 1) := by decide +kernel
theorem dX11_rule_87 : decode mX11_rule.2.1 87 = .ok (.ifCond .eq 42, 3) := by decide +kernel
theorem dX11_rule_90 : decode mX11_rule.2.1 90 = .ok (.aload_n 0, 1) := by decide +kernel
theorem dX11_rule_91 : decode mX11_rule.2.1 91 = .ok (.iload_n 1, 1) := by decide +kernel
theorem dX11_rule_92 : decode mX11_rule.2.1 92 = .ok (.invokevirtual 305, 3) := by decide +kernel
theorem dX11_rule_95 : decode mX11_rule.2.1 95 = .ok (.aload_n 0, 1) := by decide +kernel
theorem dX11_rule_96 : decode mX11_rule.2.1 96 = .ok (.invokevirtual 301, 3) := by decide +kernel
theorem dX11_rule_99 : decode mX11_rule.2.1 99 = .ok (.ifCond .eq 17, 3) := by decide +kernel
theorem dX11_rule_102 : decode mX11_rule.2.1 102 = .ok (.aload_n 0, 1) := by decide +kernel
theorem dX11_rule_103 : decode mX11_rule.2.1 103 = .ok (.ldc_w 308, 3) := by decide +kernel
theorem dX11_rule_106 : decode mX11_rule.2.1 106 = .ok (.invokevirtual 272, 3) := by decide +kernel
theorem dX11_rule_109 : decode mX11_rule.2.1 109 = .ok (.ifCond .eq 7, 3) := by decide +kernel
theorem dX11_rule_112 : decode mX11_rule.2.1 112 = .ok (.iconst 1, 1) := by decide +kernel
theorem dX11_rule_113 : decode mX11_rule.2.1 113 = .ok (.goto 4, 3) := by decide +kernel
theorem dX11_rule_116 : decode mX11_rule.2.1 116 = .ok (.iconst 0, 1) := by decide +kernel
theorem dX11_rule_117 : decode mX11_rule.2.1 117 = .ok (.istore_n 2, 1) := by decide +kernel
theorem dX11_rule_118 : decode mX11_rule.2.1 118 = .ok (.iload_n 2, 1) := by decide +kernel
theorem dX11_rule_119 : decode mX11_rule.2.1 119 = .ok (.ifCond .eq (-33), 3) := by decide +kernel
theorem dX11_rule_122 : decode mX11_rule.2.1 122 = .ok (.aload_n 0, 1) := by decide +kernel
theorem dX11_rule_123 : decode mX11_rule.2.1 123 = .ok (.invokevirtual 292, 3) := by decide +kernel
theorem dX11_rule_126 : decode mX11_rule.2.1 126 = .ok (.goto (-40), 3) := by decide +kernel
theorem dX11_rule_129 : decode mX11_rule.2.1 129 = .ok (.aload_n 0, 1) := by decide +kernel
theorem dX11_rule_130 : decode mX11_rule.2.1 130 = .ok (.bipush 58, 2) := by decide +kernel
theorem dX11_rule_132 : decode mX11_rule.2.1 132 = .ok (.invokevirtual 310, 3) := by decide +kernel
theorem dX11_rule_135 : decode mX11_rule.2.1 135 = .ok (.aload_n 0, 1) := by decide +kernel
theorem dX11_rule_136 : decode mX11_rule.2.1 136 = .ok (.invokevirtual 301, 3) := by decide +kernel
theorem dX11_rule_139 : decode mX11_rule.2.1 139 = .ok (.ifCond .eq 16, 3) := by decide +kernel
theorem dX11_rule_142 : decode mX11_rule.2.1 142 = .ok (.aload_n 0, 1) := by decide +kernel
theorem dX11_rule_143 : decode mX11_rule.2.1 143 = .ok (.bipush 45, 2) := by decide +kernel
theorem dX11_rule_145 : decode mX11_rule.2.1 145 = .ok (.invokevirtual 295, 3) := by decide +kernel
theorem dX11_rule_148 : decode mX11_rule.2.1 148 = .ok (.ifCond .eq 7, 3) := by decide +kernel
theorem dX11_rule_151 : decode mX11_rule.2.1 151 = .ok (.iconst 1, 1) := by decide +kernel
theorem dX11_rule_152 : decode mX11_rule.2.1 152 = .ok (.goto 4, 3) := by decide +kernel
theorem dX11_rule_155 : decode mX11_rule.2.1 155 = .ok (.iconst 0, 1) := by decide +kernel
theorem dX11_rule_156 : decode mX11_rule.2.1 156 = .ok (.istore_n 3, 1) := by decide +kernel
theorem dX11_rule_157 : decode mX11_rule.2.1 157 = .ok (.iload_n 3, 1) := by decide +kernel
theorem dX11_rule_158 : decode mX11_rule.2.1 158 = .ok (.ifCond .eq 7, 3) := by decide +kernel
theorem dX11_rule_161 : decode mX11_rule.2.1 161 = .ok (.aload_n 0, 1) := by decide +kernel
theorem dX11_rule_162 : decode mX11_rule.2.1 162 = .ok (.invokevirtual 292, 3) := by decide +kernel
theorem dX11_rule_165 : decode mX11_rule.2.1 165 = .ok (.aload_n 0, 1) := by decide +kernel
theorem dX11_rule_166 : decode mX11_rule.2.1 166 = .ok (.invokevirtual 298, 3) := by decide +kernel
theorem dX11_rule_169 : decode mX11_rule.2.1 169 = .ok (.istore 4, 2) := by decide +kernel
theorem dX11_rule_171 : decode mX11_rule.2.1 171 = .ok (.aload_n 0, 1) := by decide +kernel
theorem dX11_rule_172 : decode mX11_rule.2.1 172 = .ok (.getfield 124, 3) := by decide +kernel
theorem dX11_rule_175 : decode mX11_rule.2.1 175 = .ok (.iload_n 1, 1) := by decide +kernel
theorem dX11_rule_176 : decode mX11_rule.2.1 176 = .ok (.iload_n 3, 1) := by decide +kernel
theorem dX11_rule_177 : decode mX11_rule.2.1 177 = .ok (.ifCond .eq 9, 3) := by decide +kernel
theorem dX11_rule_180 : decode mX11_rule.2.1 180 = .ok (.iload 4, 2) := by decide +kernel
theorem dX11_rule_182 : decode mX11_rule.2.1 182 = .ok (.ineg, 1) := by decide +kernel
theorem dX11_rule_183 : decode mX11_rule.2.1 183 = .ok (.goto 5, 3) := by decide +kernel
theorem dX11_rule_186 : decode mX11_rule.2.1 186 = .ok (.iload 4, 2) := by decide +kernel
theorem dX11_rule_188 : decode mX11_rule.2.1 188 = .ok (.iastore, 1) := by decide +kernel
theorem dX11_rule_189 : decode mX11_rule.2.1 189 = .ok (.aload_n 0, 1) := by decide +kernel
theorem dX11_rule_190 : decode mX11_rule.2.1 190 = .ok (.bipush 59, 2) := by decide +kernel
theorem dX11_rule_192 : decode mX11_rule.2.1 192 = .ok (.invokevirtual 310, 3) := by decide +kernel
theorem dX11_rule_195 : decode mX11_rule.2.1 195 = .ok (.return_, 1) := by decide +kernel
theorem dX11_see_0 : decode mX11_see.2.1 0 = .ok (.iload_n 1, 1) := by decide +kernel
theorem dX11_see_1 : decode mX11_see.2.1 1 = .ok (.aload_n 0, 1) := by decide +kernel
theorem dX11_see_2 : decode mX11_see.2.1 2 = .ok (.getfield 230, 3) := by decide +kernel
theorem dX11_see_5 : decode mX11_see.2.1 5 = .ok (.if_icmp .ge 12, 3) := by decide +kernel
theorem dX11_see_8 : decode mX11_see.2.1 8 = .ok (.aload_n 0, 1) := by decide +kernel
theorem dX11_see_9 : decode mX11_see.2.1 9 = .ok (.getfield 108, 3) := by decide +kernel
theorem dX11_see_12 : decode mX11_see.2.1 12 = .ok (.iload_n 1, 1) := by decide +kernel
theorem dX11_see_13 : decode mX11_see.2.1 13 = .ok (.baload, 1) := by decide +kernel
theorem dX11_see_14 : decode mX11_see.2.1 14 = .ok (.goto 4, 3) := by decide +kernel
theorem dX11_see_17 : decode mX11_see.2.1 17 = .ok (.iconst 0, 1) := by decide +kernel
theorem dX11_see_18 : decode mX11_see.2.1 18 = .ok (.ireturn, 1) := by decide +kernel
theorem dX11_shut_0 : decode mX11_shut.2.1 0 = .ok (.aload_n 0, 1) := by decide +kernel
theorem dX11_shut_1 : decode mX11_shut.2.1 1 = .ok (.iconst 0, 1) := by decide +kernel
theorem dX11_shut_2 : decode mX11_shut.2.1 2 = .ok (.putfield 1, 3) := by decide +kernel
theorem dX11_shut_5 : decode mX11_shut.2.1 5 = .ok (.aload_n 0, 1) := by decide +kernel
theorem dX11_shut_6 : decode mX11_shut.2.1 6 = .ok (.iload_n 1, 1) := by decide +kernel
theorem dX11_shut_7 : decode mX11_shut.2.1 7 = .ok (.invokevirtual 143, 3) := by decide +kernel
theorem dX11_shut_10 : decode mX11_shut.2.1 10 = .ok (.ifCond .eq 26, 3) := by decide +kernel
theorem dX11_shut_13 : decode mX11_shut.2.1 13 = .ok (.iload_n 2, 1) := by decide +kernel
theorem dX11_shut_14 : decode mX11_shut.2.1 14 = .ok (.iconst 0, 1) := by decide +kernel
theorem dX11_shut_15 : decode mX11_shut.2.1 15 = .ok (.sipush 9999, 3) := by decide +kernel
theorem dX11_shut_18 : decode mX11_shut.2.1 18 = .ok (.invokestatic 139, 3) := by decide +kernel
theorem dX11_shut_21 : decode mX11_shut.2.1 21 = .ok (.ifCond .eq 15, 3) := by decide +kernel
theorem dX11_shut_24 : decode mX11_shut.2.1 24 = .ok (.iload_n 3, 1) := by decide +kernel
theorem dX11_shut_25 : decode mX11_shut.2.1 25 = .ok (.iconst 0, 1) := by decide +kernel
theorem dX11_shut_26 : decode mX11_shut.2.1 26 = .ok (.aload_n 0, 1) := by decide +kernel
theorem dX11_shut_27 : decode mX11_shut.2.1 27 = .ok (.getfield 150, 3) := by decide +kernel
theorem dX11_shut_30 : decode mX11_shut.2.1 30 = .ok (.invokestatic 139, 3) := by decide +kernel
theorem dX11_shut_33 : decode mX11_shut.2.1 33 = .ok (.ifCond .ne 5, 3) := by decide +kernel
theorem dX11_shut_36 : decode mX11_shut.2.1 36 = .ok (.iconst (-1), 1) := by decide +kernel
theorem dX11_shut_37 : decode mX11_shut.2.1 37 = .ok (.ireturn, 1) := by decide +kernel
theorem dX11_shut_38 : decode mX11_shut.2.1 38 = .ok (.aload_n 0, 1) := by decide +kernel
theorem dX11_shut_39 : decode mX11_shut.2.1 39 = .ok (.iload_n 1, 1) := by decide +kernel
theorem dX11_shut_40 : decode mX11_shut.2.1 40 = .ok (.iload_n 2, 1) := by decide +kernel
theorem dX11_shut_41 : decode mX11_shut.2.1 41 = .ok (.iload_n 3, 1) := by decide +kernel
theorem dX11_shut_42 : decode mX11_shut.2.1 42 = .ok (.invokevirtual 153, 3) := by decide +kernel
theorem dX11_shut_45 : decode mX11_shut.2.1 45 = .ok (.ifCond .eq 7, 3) := by decide +kernel
theorem dX11_shut_48 : decode mX11_shut.2.1 48 = .ok (.iconst 1, 1) := by decide +kernel
theorem dX11_shut_49 : decode mX11_shut.2.1 49 = .ok (.goto 4, 3) := by decide +kernel
theorem dX11_shut_52 : decode mX11_shut.2.1 52 = .ok (.iconst 0, 1) := by decide +kernel
theorem dX11_shut_53 : decode mX11_shut.2.1 53 = .ok (.ireturn, 1) := by decide +kernel
theorem dX11_snow_0 : decode mX11_snow.2.1 0 = .ok (.aload_n 0, 1) := by decide +kernel
theorem dX11_snow_1 : decode mX11_snow.2.1 1 = .ok (.iconst 0, 1) := by decide +kernel
theorem dX11_snow_2 : decode mX11_snow.2.1 2 = .ok (.putfield 1, 3) := by decide +kernel
theorem dX11_snow_5 : decode mX11_snow.2.1 5 = .ok (.aload_n 0, 1) := by decide +kernel
theorem dX11_snow_6 : decode mX11_snow.2.1 6 = .ok (.iload_n 1, 1) := by decide +kernel
theorem dX11_snow_7 : decode mX11_snow.2.1 7 = .ok (.invokevirtual 143, 3) := by decide +kernel
theorem dX11_snow_10 : decode mX11_snow.2.1 10 = .ok (.ifCond .eq 34, 3) := by decide +kernel
theorem dX11_snow_13 : decode mX11_snow.2.1 13 = .ok (.iload_n 2, 1) := by decide +kernel
theorem dX11_snow_14 : decode mX11_snow.2.1 14 = .ok (.iconst 0, 1) := by decide +kernel
theorem dX11_snow_15 : decode mX11_snow.2.1 15 = .ok (.sipush 9999, 3) := by decide +kernel
theorem dX11_snow_18 : decode mX11_snow.2.1 18 = .ok (.invokestatic 139, 3) := by decide +kernel
theorem dX11_snow_21 : decode mX11_snow.2.1 21 = .ok (.ifCond .eq 23, 3) := by decide +kernel
theorem dX11_snow_24 : decode mX11_snow.2.1 24 = .ok (.iload_n 3, 1) := by decide +kernel
theorem dX11_snow_25 : decode mX11_snow.2.1 25 = .ok (.iload_n 2, 1) := by decide +kernel
theorem dX11_snow_26 : decode mX11_snow.2.1 26 = .ok (.sipush 9999, 3) := by decide +kernel
theorem dX11_snow_29 : decode mX11_snow.2.1 29 = .ok (.invokestatic 139, 3) := by decide +kernel
theorem dX11_snow_32 : decode mX11_snow.2.1 32 = .ok (.ifCond .eq 12, 3) := by decide +kernel
theorem dX11_snow_35 : decode mX11_snow.2.1 35 = .ok (.aload_n 0, 1) := by decide +kernel
theorem dX11_snow_36 : decode mX11_snow.2.1 36 = .ok (.getfield 147, 3) := by decide +kernel
theorem dX11_snow_39 : decode mX11_snow.2.1 39 = .ok (.bipush 60, 2) := by decide +kernel
theorem dX11_snow_41 : decode mX11_snow.2.1 41 = .ok (.if_icmp .ne 5, 3) := by decide +kernel
theorem dX11_snow_44 : decode mX11_snow.2.1 44 = .ok (.iconst (-1), 1) := by decide +kernel
theorem dX11_snow_45 : decode mX11_snow.2.1 45 = .ok (.ireturn, 1) := by decide +kernel
theorem dX11_snow_46 : decode mX11_snow.2.1 46 = .ok (.aload_n 0, 1) := by decide +kernel
theorem dX11_snow_47 : decode mX11_snow.2.1 47 = .ok (.getfield 24, 3) := by decide +kernel
theorem dX11_snow_50 : decode mX11_snow.2.1 50 = .ok (.aload_n 0, 1) := by decide +kernel
theorem dX11_snow_51 : decode mX11_snow.2.1 51 = .ok (.getfield 147, 3) := by decide +kernel
theorem dX11_snow_54 : decode mX11_snow.2.1 54 = .ok (.iload_n 1, 1) := by decide +kernel
theorem dX11_snow_55 : decode mX11_snow.2.1 55 = .ok (.iastore, 1) := by decide +kernel
theorem dX11_snow_56 : decode mX11_snow.2.1 56 = .ok (.aload_n 0, 1) := by decide +kernel
theorem dX11_snow_57 : decode mX11_snow.2.1 57 = .ok (.getfield 27, 3) := by decide +kernel
theorem dX11_snow_60 : decode mX11_snow.2.1 60 = .ok (.aload_n 0, 1) := by decide +kernel
theorem dX11_snow_61 : decode mX11_snow.2.1 61 = .ok (.getfield 147, 3) := by decide +kernel
theorem dX11_snow_64 : decode mX11_snow.2.1 64 = .ok (.iload_n 2, 1) := by decide +kernel
theorem dX11_snow_65 : decode mX11_snow.2.1 65 = .ok (.iastore, 1) := by decide +kernel
theorem dX11_snow_66 : decode mX11_snow.2.1 66 = .ok (.aload_n 0, 1) := by decide +kernel
theorem dX11_snow_67 : decode mX11_snow.2.1 67 = .ok (.getfield 30, 3) := by decide +kernel
theorem dX11_snow_70 : decode mX11_snow.2.1 70 = .ok (.aload_n 0, 1) := by decide +kernel
theorem dX11_snow_71 : decode mX11_snow.2.1 71 = .ok (.getfield 147, 3) := by decide +kernel
theorem dX11_snow_74 : decode mX11_snow.2.1 74 = .ok (.iload_n 3, 1) := by decide +kernel
theorem dX11_snow_75 : decode mX11_snow.2.1 75 = .ok (.iastore, 1) := by decide +kernel
theorem dX11_snow_76 : decode mX11_snow.2.1 76 = .ok (.aload_n 0, 1) := by decide +kernel
theorem dX11_snow_77 : decode mX11_snow.2.1 77 = .ok (.getfield 33, 3) := by decide +kernel
theorem dX11_snow_80 : decode mX11_snow.2.1 80 = .ok (.aload_n 0, 1) := by decide +kernel
theorem dX11_snow_81 : decode mX11_snow.2.1 81 = .ok (.getfield 147, 3) := by decide +kernel
theorem dX11_snow_84 : decode mX11_snow.2.1 84 = .ok (.aload_n 0, 1) := by decide +kernel
theorem dX11_snow_85 : decode mX11_snow.2.1 85 = .ok (.getfield 150, 3) := by decide +kernel
theorem dX11_snow_88 : decode mX11_snow.2.1 88 = .ok (.iastore, 1) := by decide +kernel
theorem dX11_snow_89 : decode mX11_snow.2.1 89 = .ok (.aload_n 0, 1) := by decide +kernel
theorem dX11_snow_90 : decode mX11_snow.2.1 90 = .ok (.dup, 1) := by decide +kernel
theorem dX11_snow_91 : decode mX11_snow.2.1 91 = .ok (.getfield 147, 3) := by decide +kernel
theorem dX11_snow_94 : decode mX11_snow.2.1 94 = .ok (.iconst 1, 1) := by decide +kernel
theorem dX11_snow_95 : decode mX11_snow.2.1 95 = .ok (.iadd, 1) := by decide +kernel
theorem dX11_snow_96 : decode mX11_snow.2.1 96 = .ok (.putfield 147, 3) := by decide +kernel
theorem dX11_snow_99 : decode mX11_snow.2.1 99 = .ok (.aload_n 0, 1) := by decide +kernel
theorem dX11_snow_100 : decode mX11_snow.2.1 100 = .ok (.getfield 147, 3) := by decide +kernel
theorem dX11_snow_103 : decode mX11_snow.2.1 103 = .ok (.iconst 1, 1) := by decide +kernel
theorem dX11_snow_104 : decode mX11_snow.2.1 104 = .ok (.isub, 1) := by decide +kernel
theorem dX11_snow_105 : decode mX11_snow.2.1 105 = .ok (.ireturn, 1) := by decide +kernel
theorem dX11_string_0 : decode mX11_string.2.1 0 = .ok (.aload_n 0, 1) := by decide +kernel
theorem dX11_string_1 : decode mX11_string.2.1 1 = .ok (.iconst 0, 1) := by decide +kernel
theorem dX11_string_2 : decode mX11_string.2.1 2 = .ok (.putfield 1, 3) := by decide +kernel
theorem dX11_string_5 : decode mX11_string.2.1 5 = .ok (.aload_n 0, 1) := by decide +kernel
theorem dX11_string_6 : decode mX11_string.2.1 6 = .ok (.iload_n 1, 1) := by decide +kernel
theorem dX11_string_7 : decode mX11_string.2.1 7 = .ok (.invokevirtual 156, 3) := by decide +kernel
theorem dX11_string_10 : decode mX11_string.2.1 10 = .ok (.ifCond .eq 45, 3) := by decide +kernel
theorem dX11_string_13 : decode mX11_string.2.1 13 = .ok (.iload_n 2, 1) := by decide +kernel
theorem dX11_string_14 : decode mX11_string.2.1 14 = .ok (.bipush 20, 2) := by decide +kernel
theorem dX11_string_16 : decode mX11_string.2.1 16 = .ok (.bipush 120, 2) := by decide +kernel
theorem dX11_string_18 : decode mX11_string.2.1 18 = .ok (.invokestatic 139, 3) := by decide +kernel
theorem dX11_string_21 : decode mX11_string.2.1 21 = .ok (.ifCond .eq 34, 3) := by decide +kernel
theorem dX11_string_24 : decode mX11_string.2.1 24 = .ok (.iload_n 3, 1) := by decide +kernel
theorem dX11_string_25 : decode mX11_string.2.1 25 = .ok (.bipush 20, 2) := by decide +kernel
theorem dX11_string_27 : decode mX11_string.2.1 27 = .ok (.bipush 120, 2) := by decide +kernel
theorem dX11_string_29 : decode mX11_string.2.1 29 = .ok (.invokestatic 139, 3) := by decide +kernel
theorem dX11_string_32 : decode mX11_string.2.1 32 = .ok (.ifCond .eq 23, 3) := by decide +kernel
theorem dX11_string_35 : decode mX11_string.2.1 35 = .ok (.iload 4, 2) := by decide +kernel
theorem dX11_string_37 : decode mX11_string.2.1 37 = .ok (.bipush 20, 2) := by decide +kernel
theorem dX11_string_39 : decode mX11_string.2.1 39 = .ok (.bipush 120, 2) := by decide +kernel
theorem dX11_string_41 : decode mX11_string.2.1 41 = .ok (.invokestatic 139, 3) := by decide +kernel
theorem dX11_string_44 : decode mX11_string.2.1 44 = .ok (.ifCond .eq 11, 3) := by decide +kernel
theorem dX11_string_47 : decode mX11_string.2.1 47 = .ok (.aload_n 0, 1) := by decide +kernel
theorem dX11_string_48 : decode mX11_string.2.1 48 = .ok (.getfield 159, 3) := by decide +kernel
theorem dX11_string_51 : decode mX11_string.2.1 51 = .ok (.iconst 4, 1) := by decide +kernel
theorem dX11_string_52 : decode mX11_string.2.1 52 = .ok (.if_icmp .ne 5, 3) := by decide +kernel
theorem dX11_string_55 : decode mX11_string.2.1 55 = .ok (.iconst (-1), 1) := by decide +kernel
theorem dX11_string_56 : decode mX11_string.2.1 56 = .ok (.ireturn, 1) := by decide +kernel
theorem dX11_string_57 : decode mX11_string.2.1 57 = .ok (.aload_n 0, 1) := by decide +kernel
theorem dX11_string_58 : decode mX11_string.2.1 58 = .ok (.getfield 36, 3) := by decide +kernel
theorem dX11_string_61 : decode mX11_string.2.1 61 = .ok (.aload_n 0, 1) := by decide +kernel
theorem dX11_string_62 : decode mX11_string.2.1 62 = .ok (.getfield 159, 3) := by decide +kernel
theorem dX11_string_65 : decode mX11_string.2.1 65 = .ok (.iload_n 1, 1) := by decide +kernel
theorem dX11_string_66 : decode mX11_string.2.1 66 = .ok (.iastore, 1) := by decide +kernel
theorem dX11_string_67 : decode mX11_string.2.1 67 = .ok (.aload_n 0, 1) := by decide +kernel
theorem dX11_string_68 : decode mX11_string.2.1 68 = .ok (.getfield 39, 3) := by decide +kernel
theorem dX11_string_71 : decode mX11_string.2.1 71 = .ok (.aload_n 0, 1) := by decide +kernel
theorem dX11_string_72 : decode mX11_string.2.1 72 = .ok (.getfield 159, 3) := by decide +kernel
theorem dX11_string_75 : decode mX11_string.2.1 75 = .ok (.iconst (-1), 1) := by decide +kernel
theorem dX11_string_76 : decode mX11_string.2.1 76 = .ok (.iastore, 1) := by decide +kernel
theorem dX11_string_77 : decode mX11_string.2.1 77 = .ok (.iconst 0, 1) := by decide +kernel
theorem dX11_string_78 : decode mX11_string.2.1 78 = .ok (.istore 5, 2) := by decide +kernel
theorem dX11_string_80 : decode mX11_string.2.1 80 = .ok (.iload 5, 2) := by decide +kernel
theorem dX11_string_82 : decode mX11_string.2.1 82 = .ok (.iconst 3, 1) := by decide +kernel
theorem dX11_string_83 : decode mX11_string.2.1 83 = .ok (.if_icmp .ge 72, 3) := by decide +kernel
theorem dX11_string_86 : decode mX11_string.2.1 86 = .ok (.iconst 3, 1) := by decide +kernel
theorem dX11_string_87 : decode mX11_string.2.1 87 = .ok (.aload_n 0, 1) := by decide +kernel
theorem dX11_string_88 : decode mX11_string.2.1 88 = .ok (.getfield 159, 3) := by decide +kernel
theorem dX11_string_91 : decode mX11_string.2.1 91 = .ok (.imul, 1) := by decide +kernel
theorem dX11_string_92 : decode mX11_string.2.1 92 = .ok (.iload 5, 2) := by decide +kernel
theorem dX11_string_94 : decode mX11_string.2.1 94 = .ok (.iadd, 1) := by decide +kernel
theorem dX11_string_95 : decode mX11_string.2.1 95 = .ok (.istore 6, 2) := by decide +kernel
theorem dX11_string_97 : decode mX11_string.2.1 97 = .ok (.aload_n 0, 1) := by decide +kernel
theorem dX11_string_98 : decode mX11_string.2.1 98 = .ok (.getfield 48, 3) := by decide +kernel
theorem dX11_string_101 : decode mX11_string.2.1 101 = .ok (.iload 6, 2) := by decide +kernel
theorem dX11_string_103 : decode mX11_string.2.1 103 = .ok (.iload 5, 2) := by decide +kernel
theorem dX11_string_105 : decode mX11_string.2.1 105 = .ok (.ifCond .ne 7, 3) := by decide +kernel
theorem dX11_string_108 : decode mX11_string.2.1 108 = .ok (.iload_n 2, 1) := by decide +kernel
theorem dX11_string_109 : decode mX11_string.2.1 109 = .ok (.goto 15, 3) := by decide +kernel
theorem dX11_string_112 : decode mX11_string.2.1 112 = .ok (.iload 5, 2) := by decide +kernel
theorem dX11_string_114 : decode mX11_string.2.1 114 = .ok (.iconst 1, 1) := by decide +kernel
theorem dX11_string_115 : decode mX11_string.2.1 115 = .ok (.if_icmp .ne 7, 3) := by decide +kernel
theorem dX11_string_118 : decode mX11_string.2.1 118 = .ok (.iload_n 3, 1) := by decide +kernel
theorem dX11_string_119 : decode mX11_string.2.1 119 = .ok (.goto 5, 3) := by decide +kernel
theorem dX11_string_122 : decode mX11_string.2.1 122 = .ok (.iload 4, 2) := by decide +kernel
theorem dX11_string_124 : decode mX11_string.2.1 124 = .ok (.iastore, 1) := by decide +kernel
theorem dX11_string_125 : decode mX11_string.2.1 125 = .ok (.aload_n 0, 1) := by decide +kernel
theorem dX11_string_126 : decode mX11_string.2.1 126 = .ok (.getfield 51, 3) := by decide +kernel
theorem dX11_string_129 : decode mX11_string.2.1 129 = .ok (.iload 6, 2) := by decide +kernel
theorem dX11_string_131 : decode mX11_string.2.1 131 = .ok (.iconst 0, 1) := by decide +kernel
theorem dX11_string_132 : decode mX11_string.2.1 132 = .ok (.iastore, 1) := by decide +kernel
theorem dX11_string_133 : decode mX11_string.2.1 133 = .ok (.aload_n 0, 1) := by decide +kernel
theorem dX11_string_134 : decode mX11_string.2.1 134 = .ok (.getfield 54, 3) := by decide +kernel
theorem dX11_string_137 : decode mX11_string.2.1 137 = .ok (.iload 6, 2) := by decide +kernel
theorem dX11_string_139 : decode mX11_string.2.1 139 = .ok (.iconst 0, 1) := by decide +kernel
theorem dX11_string_140 : decode mX11_string.2.1 140 = .ok (.bastore, 1) := by decide +kernel
theorem dX11_string_141 : decode mX11_string.2.1 141 = .ok (.aload_n 0, 1) := by decide +kernel
theorem dX11_string_142 : decode mX11_string.2.1 142 = .ok (.getfield 57, 3) := by decide +kernel
theorem dX11_string_145 : decode mX11_string.2.1 145 = .ok (.iload 6, 2) := by decide +kernel
theorem dX11_string_147 : decode mX11_string.2.1 147 = .ok (.iconst (-1), 1) := by decide +kernel
theorem dX11_string_148 : decode mX11_string.2.1 148 = .ok (.iastore, 1) := by decide +kernel
theorem dX11_string_149 : decode mX11_string.2.1 149 = .ok (.iinc 5 1, 3) := by decide +kernel
theorem dX11_string_152 : decode mX11_string.2.1 152 = .ok (.goto (-72), 3) := by decide +kernel
theorem dX11_string_155 : decode mX11_string.2.1 155 = .ok (.aload_n 0, 1) := by decide +kernel
theorem dX11_string_156 : decode mX11_string.2.1 156 = .ok (.dup, 1) := by decide +kernel
theorem dX11_string_157 : decode mX11_string.2.1 157 = .ok (.getfield 159, 3) := by decide +kernel
theorem dX11_string_160 : decode mX11_string.2.1 160 = .ok (.iconst 1, 1) := by decide +kernel
theorem dX11_string_161 : decode mX11_string.2.1 161 = .ok (.iadd, 1) := by decide +kernel
theorem dX11_string_162 : decode mX11_string.2.1 162 = .ok (.putfield 159, 3) := by decide +kernel
theorem dX11_string_165 : decode mX11_string.2.1 165 = .ok (.aload_n 0, 1) := by decide +kernel
theorem dX11_string_166 : decode mX11_string.2.1 166 = .ok (.getfield 159, 3) := by decide +kernel
theorem dX11_string_169 : decode mX11_string.2.1 169 = .ok (.iconst 1, 1) := by decide +kernel
theorem dX11_string_170 : decode mX11_string.2.1 170 = .ok (.isub, 1) := by decide +kernel
theorem dX11_string_171 : decode mX11_string.2.1 171 = .ok (.ireturn, 1) := by decide +kernel
theorem dX11_stringOf_0 : decode mX11_stringOf.2.1 0 = .ok (.aload_n 0, 1) := by decide +kernel
theorem dX11_stringOf_1 : decode mX11_stringOf.2.1 1 = .ok (.iconst 0, 1) := by decide +kernel
theorem dX11_stringOf_2 : decode mX11_stringOf.2.1 2 = .ok (.putfield 1, 3) := by decide +kernel
theorem dX11_stringOf_5 : decode mX11_stringOf.2.1 5 = .ok (.aload_n 0, 1) := by decide +kernel
theorem dX11_stringOf_6 : decode mX11_stringOf.2.1 6 = .ok (.iload_n 1, 1) := by decide +kernel
theorem dX11_stringOf_7 : decode mX11_stringOf.2.1 7 = .ok (.invokevirtual 172, 3) := by decide +kernel
theorem dX11_stringOf_10 : decode mX11_stringOf.2.1 10 = .ok (.ifCond .ne 5, 3) := by decide +kernel
theorem dX11_stringOf_13 : decode mX11_stringOf.2.1 13 = .ok (.iconst (-1), 1) := by decide +kernel
theorem dX11_stringOf_14 : decode mX11_stringOf.2.1 14 = .ok (.ireturn, 1) := by decide +kernel
theorem dX11_stringOf_15 : decode mX11_stringOf.2.1 15 = .ok (.aload_n 0, 1) := by decide +kernel
theorem dX11_stringOf_16 : decode mX11_stringOf.2.1 16 = .ok (.getfield 36, 3) := by decide +kernel
theorem dX11_stringOf_19 : decode mX11_stringOf.2.1 19 = .ok (.iload_n 1, 1) := by decide +kernel
theorem dX11_stringOf_20 : decode mX11_stringOf.2.1 20 = .ok (.iaload, 1) := by decide +kernel
theorem dX11_stringOf_21 : decode mX11_stringOf.2.1 21 = .ok (.iconst (-1), 1) := by decide +kernel
theorem dX11_stringOf_22 : decode mX11_stringOf.2.1 22 = .ok (.if_icmp .ne 7, 3) := by decide +kernel
theorem dX11_stringOf_25 : decode mX11_stringOf.2.1 25 = .ok (.iconst 1, 1) := by decide +kernel
theorem dX11_stringOf_26 : decode mX11_stringOf.2.1 26 = .ok (.goto 4, 3) := by decide +kernel
theorem dX11_stringOf_29 : decode mX11_stringOf.2.1 29 = .ok (.iconst 0, 1) := by decide +kernel
theorem dX11_stringOf_30 : decode mX11_stringOf.2.1 30 = .ok (.istore_n 3, 1) := by decide +kernel
theorem dX11_stringOf_31 : decode mX11_stringOf.2.1 31 = .ok (.iload_n 2, 1) := by decide +kernel
theorem dX11_stringOf_32 : decode mX11_stringOf.2.1 32 = .ok (.tableswitch 94 0 4 #[36, 43, 50, 73, 88], 36) := by decide +kernel
theorem dX11_stringOf_68 : decode mX11_stringOf.2.1 68 = .ok (.aload_n 0, 1) := by decide +kernel
theorem dX11_stringOf_69 : decode mX11_stringOf.2.1 69 = .ok (.getfield 36, 3) := by decide +kernel
theorem dX11_stringOf_72 : decode mX11_stringOf.2.1 72 = .ok (.iload_n 1, 1) := by decide +kernel
theorem dX11_stringOf_73 : decode mX11_stringOf.2.1 73 = .ok (.iaload, 1) := by decide +kernel
theorem dX11_stringOf_74 : decode mX11_stringOf.2.1 74 = .ok (.ireturn, 1) := by decide +kernel
theorem dX11_stringOf_75 : decode mX11_stringOf.2.1 75 = .ok (.aload_n 0, 1) := by decide +kernel
theorem dX11_stringOf_76 : decode mX11_stringOf.2.1 76 = .ok (.getfield 39, 3) := by decide +kernel
theorem dX11_stringOf_79 : decode mX11_stringOf.2.1 79 = .ok (.iload_n 1, 1) := by decide +kernel
theorem dX11_stringOf_80 : decode mX11_stringOf.2.1 80 = .ok (.iaload, 1) := by decide +kernel
theorem dX11_stringOf_81 : decode mX11_stringOf.2.1 81 = .ok (.ireturn, 1) := by decide +kernel
theorem dX11_stringOf_82 : decode mX11_stringOf.2.1 82 = .ok (.iload_n 3, 1) := by decide +kernel
theorem dX11_stringOf_83 : decode mX11_stringOf.2.1 83 = .ok (.ifCond .ne 7, 3) := by decide +kernel
theorem dX11_stringOf_86 : decode mX11_stringOf.2.1 86 = .ok (.iconst (-1), 1) := by decide +kernel
theorem dX11_stringOf_87 : decode mX11_stringOf.2.1 87 = .ok (.goto 17, 3) := by decide +kernel
theorem dX11_stringOf_90 : decode mX11_stringOf.2.1 90 = .ok (.aload_n 0, 1) := by decide +kernel
theorem dX11_stringOf_91 : decode mX11_stringOf.2.1 91 = .ok (.getfield 42, 3) := by decide +kernel
theorem dX11_stringOf_94 : decode mX11_stringOf.2.1 94 = .ok (.iload_n 1, 1) := by decide +kernel
theorem dX11_stringOf_95 : decode mX11_stringOf.2.1 95 = .ok (.baload, 1) := by decide +kernel
theorem dX11_stringOf_96 : decode mX11_stringOf.2.1 96 = .ok (.ifCond .eq 7, 3) := by decide +kernel
theorem dX11_stringOf_99 : decode mX11_stringOf.2.1 99 = .ok (.iconst 1, 1) := by decide +kernel
theorem dX11_stringOf_100 : decode mX11_stringOf.2.1 100 = .ok (.goto 4, 3) := by decide +kernel
theorem dX11_stringOf_103 : decode mX11_stringOf.2.1 103 = .ok (.iconst 0, 1) := by decide +kernel
theorem dX11_stringOf_104 : decode mX11_stringOf.2.1 104 = .ok (.ireturn, 1) := by decide +kernel
theorem dX11_stringOf_105 : decode mX11_stringOf.2.1 105 = .ok (.iload_n 3, 1) := by decide +kernel
theorem dX11_stringOf_106 : decode mX11_stringOf.2.1 106 = .ok (.ifCond .eq 12, 3) := by decide +kernel
theorem dX11_stringOf_109 : decode mX11_stringOf.2.1 109 = .ok (.aload_n 0, 1) := by decide +kernel
theorem dX11_stringOf_110 : decode mX11_stringOf.2.1 110 = .ok (.getfield 45, 3) := by decide +kernel
theorem dX11_stringOf_113 : decode mX11_stringOf.2.1 113 = .ok (.iload_n 1, 1) := by decide +kernel
theorem dX11_stringOf_114 : decode mX11_stringOf.2.1 114 = .ok (.iaload, 1) := by decide +kernel
theorem dX11_stringOf_115 : decode mX11_stringOf.2.1 115 = .ok (.goto 4, 3) := by decide +kernel
theorem dX11_stringOf_118 : decode mX11_stringOf.2.1 118 = .ok (.iconst (-1), 1) := by decide +kernel
theorem dX11_stringOf_119 : decode mX11_stringOf.2.1 119 = .ok (.ireturn, 1) := by decide +kernel
theorem dX11_stringOf_120 : decode mX11_stringOf.2.1 120 = .ok (.aload_n 0, 1) := by decide +kernel
theorem dX11_stringOf_121 : decode mX11_stringOf.2.1 121 = .ok (.iload_n 1, 1) := by decide +kernel
theorem dX11_stringOf_122 : decode mX11_stringOf.2.1 122 = .ok (.invokevirtual 327, 3) := by decide +kernel
theorem dX11_stringOf_125 : decode mX11_stringOf.2.1 125 = .ok (.ireturn, 1) := by decide +kernel
theorem dX11_stringOf_126 : decode mX11_stringOf.2.1 126 = .ok (.iconst (-1), 1) := by decide +kernel
theorem dX11_stringOf_127 : decode mX11_stringOf.2.1 127 = .ok (.ireturn, 1) := by decide +kernel
theorem dX11_term_0 : decode mX11_term.2.1 0 = .ok (.aload_n 0, 1) := by decide +kernel
theorem dX11_term_1 : decode mX11_term.2.1 1 = .ok (.invokevirtual 286, 3) := by decide +kernel
theorem dX11_term_4 : decode mX11_term.2.1 4 = .ok (.istore_n 2, 1) := by decide +kernel
theorem dX11_term_5 : decode mX11_term.2.1 5 = .ok (.iload_n 2, 1) := by decide +kernel
theorem dX11_term_6 : decode mX11_term.2.1 6 = .ok (.iconst (-1), 1) := by decide +kernel
theorem dX11_term_7 : decode mX11_term.2.1 7 = .ok (.if_icmp .ne 9, 3) := by decide +kernel
theorem dX11_term_10 : decode mX11_term.2.1 10 = .ok (.aload_n 0, 1) := by decide +kernel
theorem dX11_term_11 : decode mX11_term.2.1 11 = .ok (.iconst 1, 1) := by decide +kernel
theorem dX11_term_12 : decode mX11_term.2.1 12 = .ok (.invokevirtual 289, 3) := by decide +kernel
theorem dX11_term_15 : decode mX11_term.2.1 15 = .ok (.return_, 1) := by decide +kernel
theorem dX11_term_16 : decode mX11_term.2.1 16 = .ok (.aload_n 0, 1) := by decide +kernel
theorem dX11_term_17 : decode mX11_term.2.1 17 = .ok (.getfield 121, 3) := by decide +kernel
theorem dX11_term_20 : decode mX11_term.2.1 20 = .ok (.iload_n 1, 1) := by decide +kernel
theorem dX11_term_21 : decode mX11_term.2.1 21 = .ok (.iaload, 1) := by decide +kernel
theorem dX11_term_22 : decode mX11_term.2.1 22 = .ok (.iconst 4, 1) := by decide +kernel
theorem dX11_term_23 : decode mX11_term.2.1 23 = .ok (.if_icmp .ne 9, 3) := by decide +kernel
theorem dX11_term_26 : decode mX11_term.2.1 26 = .ok (.aload_n 0, 1) := by decide +kernel
theorem dX11_term_27 : decode mX11_term.2.1 27 = .ok (.iconst 2, 1) := by decide +kernel
theorem dX11_term_28 : decode mX11_term.2.1 28 = .ok (.invokevirtual 289, 3) := by decide +kernel
theorem dX11_term_31 : decode mX11_term.2.1 31 = .ok (.return_, 1) := by decide +kernel
theorem dX11_term_32 : decode mX11_term.2.1 32 = .ok (.iconst 4, 1) := by decide +kernel
theorem dX11_term_33 : decode mX11_term.2.1 33 = .ok (.iload_n 1, 1) := by decide +kernel
theorem dX11_term_34 : decode mX11_term.2.1 34 = .ok (.imul, 1) := by decide +kernel
theorem dX11_term_35 : decode mX11_term.2.1 35 = .ok (.aload_n 0, 1) := by decide +kernel
theorem dX11_term_36 : decode mX11_term.2.1 36 = .ok (.getfield 121, 3) := by decide +kernel
theorem dX11_term_39 : decode mX11_term.2.1 39 = .ok (.iload_n 1, 1) := by decide +kernel
theorem dX11_term_40 : decode mX11_term.2.1 40 = .ok (.iaload, 1) := by decide +kernel
theorem dX11_term_41 : decode mX11_term.2.1 41 = .ok (.iadd, 1) := by decide +kernel
theorem dX11_term_42 : decode mX11_term.2.1 42 = .ok (.istore_n 3, 1) := by decide +kernel
theorem dX11_term_43 : decode mX11_term.2.1 43 = .ok (.aload_n 0, 1) := by decide +kernel
theorem dX11_term_44 : decode mX11_term.2.1 44 = .ok (.getfield 121, 3) := by decide +kernel
theorem dX11_term_47 : decode mX11_term.2.1 47 = .ok (.iload_n 1, 1) := by decide +kernel
theorem dX11_term_48 : decode mX11_term.2.1 48 = .ok (.dup2, 1) := by decide +kernel
theorem dX11_term_49 : decode mX11_term.2.1 49 = .ok (.iaload, 1) := by decide +kernel
theorem dX11_term_50 : decode mX11_term.2.1 50 = .ok (.iconst 1, 1) := by decide +kernel
theorem dX11_term_51 : decode mX11_term.2.1 51 = .ok (.iadd, 1) := by decide +kernel
theorem dX11_term_52 : decode mX11_term.2.1 52 = .ok (.iastore, 1) := by decide +kernel
theorem dX11_term_53 : decode mX11_term.2.1 53 = .ok (.aload_n 0, 1) := by decide +kernel
theorem dX11_term_54 : decode mX11_term.2.1 54 = .ok (.getfield 127, 3) := by decide +kernel
theorem dX11_term_57 : decode mX11_term.2.1 57 = .ok (.iload_n 3, 1) := by decide +kernel
theorem dX11_term_58 : decode mX11_term.2.1 58 = .ok (.iload_n 2, 1) := by decide +kernel
theorem dX11_term_59 : decode mX11_term.2.1 59 = .ok (.iastore, 1) := by decide +kernel
theorem dX11_term_60 : decode mX11_term.2.1 60 = .ok (.aload_n 0, 1) := by decide +kernel
theorem dX11_term_61 : decode mX11_term.2.1 61 = .ok (.invokevirtual 292, 3) := by decide +kernel
theorem dX11_term_64 : decode mX11_term.2.1 64 = .ok (.iload_n 2, 1) := by decide +kernel
theorem dX11_term_65 : decode mX11_term.2.1 65 = .ok (.iconst 4, 1) := by decide +kernel
theorem dX11_term_66 : decode mX11_term.2.1 66 = .ok (.if_icmp .ge 4, 3) := by decide +kernel
theorem dX11_term_69 : decode mX11_term.2.1 69 = .ok (.return_, 1) := by decide +kernel
theorem dX11_term_70 : decode mX11_term.2.1 70 = .ok (.aload_n 0, 1) := by decide +kernel
theorem dX11_term_71 : decode mX11_term.2.1 71 = .ok (.bipush 60, 2) := by decide +kernel
theorem dX11_term_73 : decode mX11_term.2.1 73 = .ok (.invokevirtual 295, 3) := by decide +kernel
theorem dX11_term_76 : decode mX11_term.2.1 76 = .ok (.ifCond .ne 27, 3) := by decide +kernel
theorem dX11_term_79 : decode mX11_term.2.1 79 = .ok (.aload_n 0, 1) := by decide +kernel
theorem dX11_term_80 : decode mX11_term.2.1 80 = .ok (.bipush 61, 2) := by decide +kernel
theorem dX11_term_82 : decode mX11_term.2.1 82 = .ok (.invokevirtual 295, 3) := by decide +kernel
theorem dX11_term_85 : decode mX11_term.2.1 85 = .ok (.ifCond .ne 18, 3) := by decide +kernel
theorem dX11_term_88 : decode mX11_term.2.1 88 = .ok (.aload_n 0, 1) := by decide +kernel
theorem dX11_term_89 : decode mX11_term.2.1 89 = .ok (.bipush 62, 2) := by decide +kernel
theorem dX11_term_91 : decode mX11_term.2.1 91 = .ok (.invokevirtual 295, 3) := by decide +kernel
theorem dX11_term_94 : decode mX11_term.2.1 94 = .ok (.ifCond .ne 9, 3) := by decide +kernel
theorem dX11_term_97 : decode mX11_term.2.1 97 = .ok (.aload_n 0, 1) := by decide +kernel
theorem dX11_term_98 : decode mX11_term.2.1 98 = .ok (.iconst 1, 1) := by decide +kernel
theorem dX11_term_99 : decode mX11_term.2.1 99 = .ok (.invokevirtual 289, 3) := by decide +kernel
theorem dX11_term_102 : decode mX11_term.2.1 102 = .ok (.return_, 1) := by decide +kernel
theorem dX11_term_103 : decode mX11_term.2.1 103 = .ok (.aload_n 0, 1) := by decide +kernel
theorem dX11_term_104 : decode mX11_term.2.1 104 = .ok (.getfield 130, 3) := by decide +kernel
theorem dX11_term_107 : decode mX11_term.2.1 107 = .ok (.iload_n 3, 1) := by decide +kernel
theorem dX11_term_108 : decode mX11_term.2.1 108 = .ok (.aload_n 0, 1) := by decide +kernel
theorem dX11_term_109 : decode mX11_term.2.1 109 = .ok (.getfield 251, 3) := by decide +kernel
theorem dX11_term_112 : decode mX11_term.2.1 112 = .ok (.iastore, 1) := by decide +kernel
theorem dX11_term_113 : decode mX11_term.2.1 113 = .ok (.aload_n 0, 1) := by decide +kernel
theorem dX11_term_114 : decode mX11_term.2.1 114 = .ok (.invokevirtual 292, 3) := by decide +kernel
theorem dX11_term_117 : decode mX11_term.2.1 117 = .ok (.aload_n 0, 1) := by decide +kernel
theorem dX11_term_118 : decode mX11_term.2.1 118 = .ok (.getfield 133, 3) := by decide +kernel
theorem dX11_term_121 : decode mX11_term.2.1 121 = .ok (.iload_n 3, 1) := by decide +kernel
theorem dX11_term_122 : decode mX11_term.2.1 122 = .ok (.aload_n 0, 1) := by decide +kernel
theorem dX11_term_123 : decode mX11_term.2.1 123 = .ok (.invokevirtual 298, 3) := by decide +kernel
theorem dX11_term_126 : decode mX11_term.2.1 126 = .ok (.iastore, 1) := by decide +kernel
theorem dX11_term_127 : decode mX11_term.2.1 127 = .ok (.return_, 1) := by decide +kernel
theorem dX11_thrown_0 : decode mX11_thrown.2.1 0 = .ok (.aload_n 0, 1) := by decide +kernel
theorem dX11_thrown_1 : decode mX11_thrown.2.1 1 = .ok (.getfield 1, 3) := by decide +kernel
theorem dX11_thrown_4 : decode mX11_thrown.2.1 4 = .ok (.ireturn, 1) := by decide +kernel
theorem dX11_tires_0 : decode mX11_tires.2.1 0 = .ok (.iconst 3, 1) := by decide +kernel
theorem dX11_tires_1 : decode mX11_tires.2.1 1 = .ok (.iload_n 1, 1) := by decide +kernel
theorem dX11_tires_2 : decode mX11_tires.2.1 2 = .ok (.imul, 1) := by decide +kernel
theorem dX11_tires_3 : decode mX11_tires.2.1 3 = .ok (.istore_n 2, 1) := by decide +kernel
theorem dX11_tires_4 : decode mX11_tires.2.1 4 = .ok (.iload_n 2, 1) := by decide +kernel
theorem dX11_tires_5 : decode mX11_tires.2.1 5 = .ok (.iconst 3, 1) := by decide +kernel
theorem dX11_tires_6 : decode mX11_tires.2.1 6 = .ok (.iload_n 1, 1) := by decide +kernel
theorem dX11_tires_7 : decode mX11_tires.2.1 7 = .ok (.imul, 1) := by decide +kernel
theorem dX11_tires_8 : decode mX11_tires.2.1 8 = .ok (.iconst 3, 1) := by decide +kernel
theorem dX11_tires_9 : decode mX11_tires.2.1 9 = .ok (.iadd, 1) := by decide +kernel
theorem dX11_tires_10 : decode mX11_tires.2.1 10 = .ok (.if_icmp .ge 93, 3) := by decide +kernel
theorem dX11_tires_13 : decode mX11_tires.2.1 13 = .ok (.aload_n 0, 1) := by decide +kernel
theorem dX11_tires_14 : decode mX11_tires.2.1 14 = .ok (.getfield 54, 3) := by decide +kernel
theorem dX11_tires_17 : decode mX11_tires.2.1 17 = .ok (.iload_n 2, 1) := by decide +kernel
theorem dX11_tires_18 : decode mX11_tires.2.1 18 = .ok (.baload, 1) := by decide +kernel
theorem dX11_tires_19 : decode mX11_tires.2.1 19 = .ok (.ifCond .eq 6, 3) := by decide +kernel
theorem dX11_tires_22 : decode mX11_tires.2.1 22 = .ok (.goto 75, 3) := by decide +kernel
theorem dX11_tires_25 : decode mX11_tires.2.1 25 = .ok (.aload_n 0, 1) := by decide +kernel
theorem dX11_tires_26 : decode mX11_tires.2.1 26 = .ok (.getfield 51, 3) := by decide +kernel
theorem dX11_tires_29 : decode mX11_tires.2.1 29 = .ok (.iload_n 2, 1) := by decide +kernel
theorem dX11_tires_30 : decode mX11_tires.2.1 30 = .ok (.bipush 100, 2) := by decide +kernel
theorem dX11_tires_32 : decode mX11_tires.2.1 32 = .ok (.aload_n 0, 1) := by decide +kernel
theorem dX11_tires_33 : decode mX11_tires.2.1 33 = .ok (.getfield 51, 3) := by decide +kernel
theorem dX11_tires_36 : decode mX11_tires.2.1 36 = .ok (.iload_n 2, 1) := by decide +kernel
theorem dX11_tires_37 : decode mX11_tires.2.1 37 = .ok (.iaload, 1) := by decide +kernel
theorem dX11_tires_38 : decode mX11_tires.2.1 38 = .ok (.iconst 2, 1) := by decide +kernel
theorem dX11_tires_39 : decode mX11_tires.2.1 39 = .ok (.iadd, 1) := by decide +kernel
theorem dX11_tires_40 : decode mX11_tires.2.1 40 = .ok (.aload_n 0, 1) := by decide +kernel
theorem dX11_tires_41 : decode mX11_tires.2.1 41 = .ok (.iload_n 2, 1) := by decide +kernel
theorem dX11_tires_42 : decode mX11_tires.2.1 42 = .ok (.iconst 3, 1) := by decide +kernel
theorem dX11_tires_43 : decode mX11_tires.2.1 43 = .ok (.invokevirtual 178, 3) := by decide +kernel
theorem dX11_tires_46 : decode mX11_tires.2.1 46 = .ok (.aload_n 0, 1) := by decide +kernel
theorem dX11_tires_47 : decode mX11_tires.2.1 47 = .ok (.getfield 17, 3) := by decide +kernel
theorem dX11_tires_50 : decode mX11_tires.2.1 50 = .ok (.aload_n 0, 1) := by decide +kernel
theorem dX11_tires_51 : decode mX11_tires.2.1 51 = .ok (.getfield 39, 3) := by decide +kernel
theorem dX11_tires_54 : decode mX11_tires.2.1 54 = .ok (.iload_n 1, 1) := by decide +kernel
theorem dX11_tires_55 : decode mX11_tires.2.1 55 = .ok (.iaload, 1) := by decide +kernel
theorem dX11_tires_56 : decode mX11_tires.2.1 56 = .ok (.iaload, 1) := by decide +kernel
theorem dX11_tires_57 : decode mX11_tires.2.1 57 = .ok (.imul, 1) := by decide +kernel
theorem dX11_tires_58 : decode mX11_tires.2.1 58 = .ok (.bipush 100, 2) := by decide +kernel
theorem dX11_tires_60 : decode mX11_tires.2.1 60 = .ok (.idiv, 1) := by decide +kernel
theorem dX11_tires_61 : decode mX11_tires.2.1 61 = .ok (.iadd, 1) := by decide +kernel
theorem dX11_tires_62 : decode mX11_tires.2.1 62 = .ok (.invokestatic 189, 3) := by decide +kernel
theorem dX11_tires_65 : decode mX11_tires.2.1 65 = .ok (.iastore, 1) := by decide +kernel
theorem dX11_tires_66 : decode mX11_tires.2.1 66 = .ok (.aload_n 0, 1) := by decide +kernel
theorem dX11_tires_67 : decode mX11_tires.2.1 67 = .ok (.getfield 51, 3) := by decide +kernel
theorem dX11_tires_70 : decode mX11_tires.2.1 70 = .ok (.iload_n 2, 1) := by decide +kernel
theorem dX11_tires_71 : decode mX11_tires.2.1 71 = .ok (.iaload, 1) := by decide +kernel
theorem dX11_tires_72 : decode mX11_tires.2.1 72 = .ok (.bipush 100, 2) := by decide +kernel
theorem dX11_tires_74 : decode mX11_tires.2.1 74 = .ok (.if_icmp .ge 6, 3) := by decide +kernel
theorem dX11_tires_77 : decode mX11_tires.2.1 77 = .ok (.goto 20, 3) := by decide +kernel
theorem dX11_tires_80 : decode mX11_tires.2.1 80 = .ok (.aload_n 0, 1) := by decide +kernel
theorem dX11_tires_81 : decode mX11_tires.2.1 81 = .ok (.getfield 54, 3) := by decide +kernel
theorem dX11_tires_84 : decode mX11_tires.2.1 84 = .ok (.iload_n 2, 1) := by decide +kernel
theorem dX11_tires_85 : decode mX11_tires.2.1 85 = .ok (.iconst 1, 1) := by decide +kernel
theorem dX11_tires_86 : decode mX11_tires.2.1 86 = .ok (.bastore, 1) := by decide +kernel
theorem dX11_tires_87 : decode mX11_tires.2.1 87 = .ok (.aload_n 0, 1) := by decide +kernel
theorem dX11_tires_88 : decode mX11_tires.2.1 88 = .ok (.getfield 57, 3) := by decide +kernel
theorem dX11_tires_91 : decode mX11_tires.2.1 91 = .ok (.iload_n 2, 1) := by decide +kernel
theorem dX11_tires_92 : decode mX11_tires.2.1 92 = .ok (.aload_n 0, 1) := by decide +kernel
theorem dX11_tires_93 : decode mX11_tires.2.1 93 = .ok (.getfield 150, 3) := by decide +kernel
theorem dX11_tires_96 : decode mX11_tires.2.1 96 = .ok (.iastore, 1) := by decide +kernel
theorem dX11_tires_97 : decode mX11_tires.2.1 97 = .ok (.iinc 2 1, 3) := by decide +kernel
theorem dX11_tires_100 : decode mX11_tires.2.1 100 = .ok (.goto (-96), 3) := by decide +kernel
theorem dX11_tires_103 : decode mX11_tires.2.1 103 = .ok (.return_, 1) := by decide +kernel
theorem dX11_top_0 : decode mX11_top.2.1 0 = .ok (.iconst 0, 1) := by decide +kernel
theorem dX11_top_1 : decode mX11_top.2.1 1 = .ok (.istore_n 2, 1) := by decide +kernel
theorem dX11_top_2 : decode mX11_top.2.1 2 = .ok (.iload_n 2, 1) := by decide +kernel
theorem dX11_top_3 : decode mX11_top.2.1 3 = .ok (.aload_n 0, 1) := by decide +kernel
theorem dX11_top_4 : decode mX11_top.2.1 4 = .ok (.getfield 165, 3) := by decide +kernel
theorem dX11_top_7 : decode mX11_top.2.1 7 = .ok (.if_icmp .ge 41, 3) := by decide +kernel
theorem dX11_top_10 : decode mX11_top.2.1 10 = .ok (.aload_n 0, 1) := by decide +kernel
theorem dX11_top_11 : decode mX11_top.2.1 11 = .ok (.getfield 69, 3) := by decide +kernel
theorem dX11_top_14 : decode mX11_top.2.1 14 = .ok (.iload_n 2, 1) := by decide +kernel
theorem dX11_top_15 : decode mX11_top.2.1 15 = .ok (.iaload, 1) := by decide +kernel
theorem dX11_top_16 : decode mX11_top.2.1 16 = .ok (.iconst 1, 1) := by decide +kernel
theorem dX11_top_17 : decode mX11_top.2.1 17 = .ok (.if_icmp .ne 25, 3) := by decide +kernel
theorem dX11_top_20 : decode mX11_top.2.1 20 = .ok (.aload_n 0, 1) := by decide +kernel
theorem dX11_top_21 : decode mX11_top.2.1 21 = .ok (.getfield 75, 3) := by decide +kernel
theorem dX11_top_24 : decode mX11_top.2.1 24 = .ok (.iload_n 2, 1) := by decide +kernel
theorem dX11_top_25 : decode mX11_top.2.1 25 = .ok (.iaload, 1) := by decide +kernel
theorem dX11_top_26 : decode mX11_top.2.1 26 = .ok (.iload_n 1, 1) := by decide +kernel
theorem dX11_top_27 : decode mX11_top.2.1 27 = .ok (.if_icmp .ne 15, 3) := by decide +kernel
theorem dX11_top_30 : decode mX11_top.2.1 30 = .ok (.aload_n 0, 1) := by decide +kernel
theorem dX11_top_31 : decode mX11_top.2.1 31 = .ok (.getfield 78, 3) := by decide +kernel
theorem dX11_top_34 : decode mX11_top.2.1 34 = .ok (.iload_n 2, 1) := by decide +kernel
theorem dX11_top_35 : decode mX11_top.2.1 35 = .ok (.iaload, 1) := by decide +kernel
theorem dX11_top_36 : decode mX11_top.2.1 36 = .ok (.iconst 2, 1) := by decide +kernel
theorem dX11_top_37 : decode mX11_top.2.1 37 = .ok (.if_icmp .ne 5, 3) := by decide +kernel
theorem dX11_top_40 : decode mX11_top.2.1 40 = .ok (.iload_n 2, 1) := by decide +kernel
theorem dX11_top_41 : decode mX11_top.2.1 41 = .ok (.ireturn, 1) := by decide +kernel
theorem dX11_top_42 : decode mX11_top.2.1 42 = .ok (.iinc 2 1, 3) := by decide +kernel
theorem dX11_top_45 : decode mX11_top.2.1 45 = .ok (.goto (-43), 3) := by decide +kernel
theorem dX11_top_48 : decode mX11_top.2.1 48 = .ok (.iconst (-1), 1) := by decide +kernel
theorem dX11_top_49 : decode mX11_top.2.1 49 = .ok (.ireturn, 1) := by decide +kernel
theorem dX11_tries_0 : decode mX11_tries.2.1 0 = .ok (.iload_n 2, 1) := by decide +kernel
theorem dX11_tries_1 : decode mX11_tries.2.1 1 = .ok (.iload_n 3, 1) := by decide +kernel
theorem dX11_tries_2 : decode mX11_tries.2.1 2 = .ok (.iadd, 1) := by decide +kernel
theorem dX11_tries_3 : decode mX11_tries.2.1 3 = .ok (.iload 5, 2) := by decide +kernel
theorem dX11_tries_5 : decode mX11_tries.2.1 5 = .ok (.if_icmp .le 4, 3) := by decide +kernel
theorem dX11_tries_8 : decode mX11_tries.2.1 8 = .ok (.return_, 1) := by decide +kernel
theorem dX11_tries_9 : decode mX11_tries.2.1 9 = .ok (.iload_n 1, 1) := by decide +kernel
theorem dX11_tries_10 : decode mX11_tries.2.1 10 = .ok (.aload_n 0, 1) := by decide +kernel
theorem dX11_tries_11 : decode mX11_tries.2.1 11 = .ok (.getfield 213, 3) := by decide +kernel
theorem dX11_tries_14 : decode mX11_tries.2.1 14 = .ok (.if_icmp .ne 101, 3) := by decide +kernel
theorem dX11_tries_17 : decode mX11_tries.2.1 17 = .ok (.iload_n 2, 1) := by decide +kernel
theorem dX11_tries_18 : decode mX11_tries.2.1 18 = .ok (.iload_n 3, 1) := by decide +kernel
theorem dX11_tries_19 : decode mX11_tries.2.1 19 = .ok (.isub, 1) := by decide +kernel
theorem dX11_tries_20 : decode mX11_tries.2.1 20 = .ok (.istore 6, 2) := by decide +kernel
theorem dX11_tries_22 : decode mX11_tries.2.1 22 = .ok (.iload 6, 2) := by decide +kernel
theorem dX11_tries_24 : decode mX11_tries.2.1 24 = .ok (.bipush (-10), 2) := by decide +kernel
theorem dX11_tries_26 : decode mX11_tries.2.1 26 = .ok (.if_icmp .lt 10, 3) := by decide +kernel
theorem dX11_tries_29 : decode mX11_tries.2.1 29 = .ok (.iload 6, 2) := by decide +kernel
theorem dX11_tries_31 : decode mX11_tries.2.1 31 = .ok (.bipush 10, 2) := by decide +kernel
theorem dX11_tries_33 : decode mX11_tries.2.1 33 = .ok (.if_icmp .le 4, 3) := by decide +kernel
theorem dX11_tries_36 : decode mX11_tries.2.1 36 = .ok (.return_, 1) := by decide +kernel
end
section
theorem dX11_tries_37 : decode mX11_tries.2.1 37 = .ok (.iload_n 2, 1) := by decide +kernel
theorem dX11_tries_38 : decode mX11_tries.2.1 38 = .ok (.iload_n 3, 1) := by decide +kernel
theorem dX11_tries_39 : decode mX11_tries.2.1 39 = .ok (.iadd, 1) := by decide +kernel
theorem dX11_tries_40 : decode mX11_tries.2.1 40 = .ok (.istore 7, 2) := by decide +kernel
theorem dX11_tries_42 : decode mX11_tries.2.1 42 = .ok (.iload 7, 2) := by decide +kernel
theorem dX11_tries_44 : decode mX11_tries.2.1 44 = .ok (.aload_n 0, 1) := by decide +kernel
theorem dX11_tries_45 : decode mX11_tries.2.1 45 = .ok (.getfield 216, 3) := by decide +kernel
theorem dX11_tries_48 : decode mX11_tries.2.1 48 = .ok (.if_icmp .lt 21, 3) := by decide +kernel
theorem dX11_tries_51 : decode mX11_tries.2.1 51 = .ok (.iload 7, 2) := by decide +kernel
theorem dX11_tries_53 : decode mX11_tries.2.1 53 = .ok (.aload_n 0, 1) := by decide +kernel
theorem dX11_tries_54 : decode mX11_tries.2.1 54 = .ok (.getfield 216, 3) := by decide +kernel
theorem dX11_tries_57 : decode mX11_tries.2.1 57 = .ok (.if_icmp .ne 13, 3) := by decide +kernel
theorem dX11_tries_60 : decode mX11_tries.2.1 60 = .ok (.iload 4, 2) := by decide +kernel
theorem dX11_tries_62 : decode mX11_tries.2.1 62 = .ok (.aload_n 0, 1) := by decide +kernel
theorem dX11_tries_63 : decode mX11_tries.2.1 63 = .ok (.getfield 219, 3) := by decide +kernel
theorem dX11_tries_66 : decode mX11_tries.2.1 66 = .ok (.if_icmp .lt 4, 3) := by decide +kernel
theorem dX11_tries_69 : decode mX11_tries.2.1 69 = .ok (.return_, 1) := by decide +kernel
theorem dX11_tries_70 : decode mX11_tries.2.1 70 = .ok (.aload_n 0, 1) := by decide +kernel
theorem dX11_tries_71 : decode mX11_tries.2.1 71 = .ok (.iload 7, 2) := by decide +kernel
theorem dX11_tries_73 : decode mX11_tries.2.1 73 = .ok (.putfield 216, 3) := by decide +kernel
theorem dX11_tries_76 : decode mX11_tries.2.1 76 = .ok (.aload_n 0, 1) := by decide +kernel
theorem dX11_tries_77 : decode mX11_tries.2.1 77 = .ok (.iload 4, 2) := by decide +kernel
theorem dX11_tries_79 : decode mX11_tries.2.1 79 = .ok (.putfield 219, 3) := by decide +kernel
theorem dX11_tries_82 : decode mX11_tries.2.1 82 = .ok (.iconst 0, 1) := by decide +kernel
theorem dX11_tries_83 : decode mX11_tries.2.1 83 = .ok (.istore 8, 2) := by decide +kernel
theorem dX11_tries_85 : decode mX11_tries.2.1 85 = .ok (.iload 8, 2) := by decide +kernel
theorem dX11_tries_87 : decode mX11_tries.2.1 87 = .ok (.aload_n 0, 1) := by decide +kernel
theorem dX11_tries_88 : decode mX11_tries.2.1 88 = .ok (.getfield 213, 3) := by decide +kernel
theorem dX11_tries_91 : decode mX11_tries.2.1 91 = .ok (.if_icmp .ge 23, 3) := by decide +kernel
theorem dX11_tries_94 : decode mX11_tries.2.1 94 = .ok (.aload_n 0, 1) := by decide +kernel
theorem dX11_tries_95 : decode mX11_tries.2.1 95 = .ok (.getfield 105, 3) := by decide +kernel
theorem dX11_tries_98 : decode mX11_tries.2.1 98 = .ok (.iload 8, 2) := by decide +kernel
theorem dX11_tries_100 : decode mX11_tries.2.1 100 = .ok (.aload_n 0, 1) := by decide +kernel
theorem dX11_tries_101 : decode mX11_tries.2.1 101 = .ok (.getfield 102, 3) := by decide +kernel
theorem dX11_tries_104 : decode mX11_tries.2.1 104 = .ok (.iload 8, 2) := by decide +kernel
theorem dX11_tries_106 : decode mX11_tries.2.1 106 = .ok (.iaload, 1) := by decide +kernel
theorem dX11_tries_107 : decode mX11_tries.2.1 107 = .ok (.iastore, 1) := by decide +kernel
theorem dX11_tries_108 : decode mX11_tries.2.1 108 = .ok (.iinc 8 1, 3) := by decide +kernel
theorem dX11_tries_111 : decode mX11_tries.2.1 111 = .ok (.goto (-26), 3) := by decide +kernel
theorem dX11_tries_114 : decode mX11_tries.2.1 114 = .ok (.return_, 1) := by decide +kernel
theorem dX11_tries_115 : decode mX11_tries.2.1 115 = .ok (.aload_n 0, 1) := by decide +kernel
theorem dX11_tries_116 : decode mX11_tries.2.1 116 = .ok (.getfield 63, 3) := by decide +kernel
theorem dX11_tries_119 : decode mX11_tries.2.1 119 = .ok (.aload_n 0, 1) := by decide +kernel
theorem dX11_tries_120 : decode mX11_tries.2.1 120 = .ok (.getfield 99, 3) := by decide +kernel
theorem dX11_tries_123 : decode mX11_tries.2.1 123 = .ok (.iload_n 1, 1) := by decide +kernel
theorem dX11_tries_124 : decode mX11_tries.2.1 124 = .ok (.iaload, 1) := by decide +kernel
theorem dX11_tries_125 : decode mX11_tries.2.1 125 = .ok (.iaload, 1) := by decide +kernel
theorem dX11_tries_126 : decode mX11_tries.2.1 126 = .ok (.istore 6, 2) := by decide +kernel
theorem dX11_tries_128 : decode mX11_tries.2.1 128 = .ok (.aload_n 0, 1) := by decide +kernel
theorem dX11_tries_129 : decode mX11_tries.2.1 129 = .ok (.getfield 102, 3) := by decide +kernel
theorem dX11_tries_132 : decode mX11_tries.2.1 132 = .ok (.iload_n 1, 1) := by decide +kernel
theorem dX11_tries_133 : decode mX11_tries.2.1 133 = .ok (.iconst 0, 1) := by decide +kernel
theorem dX11_tries_134 : decode mX11_tries.2.1 134 = .ok (.iastore, 1) := by decide +kernel
theorem dX11_tries_135 : decode mX11_tries.2.1 135 = .ok (.aload_n 0, 1) := by decide +kernel
theorem dX11_tries_136 : decode mX11_tries.2.1 136 = .ok (.iload_n 1, 1) := by decide +kernel
theorem dX11_tries_137 : decode mX11_tries.2.1 137 = .ok (.iconst 1, 1) := by decide +kernel
theorem dX11_tries_138 : decode mX11_tries.2.1 138 = .ok (.iadd, 1) := by decide +kernel
theorem dX11_tries_139 : decode mX11_tries.2.1 139 = .ok (.iload_n 2, 1) := by decide +kernel
theorem dX11_tries_140 : decode mX11_tries.2.1 140 = .ok (.iload 6, 2) := by decide +kernel
theorem dX11_tries_142 : decode mX11_tries.2.1 142 = .ok (.iadd, 1) := by decide +kernel
theorem dX11_tries_143 : decode mX11_tries.2.1 143 = .ok (.iload_n 3, 1) := by decide +kernel
theorem dX11_tries_144 : decode mX11_tries.2.1 144 = .ok (.iload 4, 2) := by decide +kernel
theorem dX11_tries_146 : decode mX11_tries.2.1 146 = .ok (.iconst 1, 1) := by decide +kernel
theorem dX11_tries_147 : decode mX11_tries.2.1 147 = .ok (.iadd, 1) := by decide +kernel
theorem dX11_tries_148 : decode mX11_tries.2.1 148 = .ok (.iload 5, 2) := by decide +kernel
theorem dX11_tries_150 : decode mX11_tries.2.1 150 = .ok (.invokevirtual 222, 3) := by decide +kernel
theorem dX11_tries_153 : decode mX11_tries.2.1 153 = .ok (.aload_n 0, 1) := by decide +kernel
theorem dX11_tries_154 : decode mX11_tries.2.1 154 = .ok (.getfield 102, 3) := by decide +kernel
theorem dX11_tries_157 : decode mX11_tries.2.1 157 = .ok (.iload_n 1, 1) := by decide +kernel
theorem dX11_tries_158 : decode mX11_tries.2.1 158 = .ok (.iconst 1, 1) := by decide +kernel
theorem dX11_tries_159 : decode mX11_tries.2.1 159 = .ok (.iastore, 1) := by decide +kernel
theorem dX11_tries_160 : decode mX11_tries.2.1 160 = .ok (.aload_n 0, 1) := by decide +kernel
theorem dX11_tries_161 : decode mX11_tries.2.1 161 = .ok (.iload_n 1, 1) := by decide +kernel
theorem dX11_tries_162 : decode mX11_tries.2.1 162 = .ok (.iconst 1, 1) := by decide +kernel
theorem dX11_tries_163 : decode mX11_tries.2.1 163 = .ok (.iadd, 1) := by decide +kernel
theorem dX11_tries_164 : decode mX11_tries.2.1 164 = .ok (.iload_n 2, 1) := by decide +kernel
theorem dX11_tries_165 : decode mX11_tries.2.1 165 = .ok (.iload_n 3, 1) := by decide +kernel
theorem dX11_tries_166 : decode mX11_tries.2.1 166 = .ok (.iload 6, 2) := by decide +kernel
theorem dX11_tries_168 : decode mX11_tries.2.1 168 = .ok (.iadd, 1) := by decide +kernel
theorem dX11_tries_169 : decode mX11_tries.2.1 169 = .ok (.iload 4, 2) := by decide +kernel
theorem dX11_tries_171 : decode mX11_tries.2.1 171 = .ok (.iconst 1, 1) := by decide +kernel
theorem dX11_tries_172 : decode mX11_tries.2.1 172 = .ok (.iadd, 1) := by decide +kernel
theorem dX11_tries_173 : decode mX11_tries.2.1 173 = .ok (.iload 5, 2) := by decide +kernel
theorem dX11_tries_175 : decode mX11_tries.2.1 175 = .ok (.invokevirtual 222, 3) := by decide +kernel
theorem dX11_tries_178 : decode mX11_tries.2.1 178 = .ok (.aload_n 0, 1) := by decide +kernel
theorem dX11_tries_179 : decode mX11_tries.2.1 179 = .ok (.getfield 102, 3) := by decide +kernel
theorem dX11_tries_182 : decode mX11_tries.2.1 182 = .ok (.iload_n 1, 1) := by decide +kernel
theorem dX11_tries_183 : decode mX11_tries.2.1 183 = .ok (.iconst 2, 1) := by decide +kernel
theorem dX11_tries_184 : decode mX11_tries.2.1 184 = .ok (.iastore, 1) := by decide +kernel
theorem dX11_tries_185 : decode mX11_tries.2.1 185 = .ok (.aload_n 0, 1) := by decide +kernel
theorem dX11_tries_186 : decode mX11_tries.2.1 186 = .ok (.iload_n 1, 1) := by decide +kernel
theorem dX11_tries_187 : decode mX11_tries.2.1 187 = .ok (.iconst 1, 1) := by decide +kernel
theorem dX11_tries_188 : decode mX11_tries.2.1 188 = .ok (.iadd, 1) := by decide +kernel
theorem dX11_tries_189 : decode mX11_tries.2.1 189 = .ok (.iload_n 2, 1) := by decide +kernel
theorem dX11_tries_190 : decode mX11_tries.2.1 190 = .ok (.iload_n 3, 1) := by decide +kernel
theorem dX11_tries_191 : decode mX11_tries.2.1 191 = .ok (.iload 4, 2) := by decide +kernel
theorem dX11_tries_193 : decode mX11_tries.2.1 193 = .ok (.iload 5, 2) := by decide +kernel
theorem dX11_tries_195 : decode mX11_tries.2.1 195 = .ok (.invokevirtual 222, 3) := by decide +kernel
theorem dX11_tries_198 : decode mX11_tries.2.1 198 = .ok (.return_, 1) := by decide +kernel
theorem dX11_want_0 : decode mX11_want.2.1 0 = .ok (.aload_n 0, 1) := by decide +kernel
theorem dX11_want_1 : decode mX11_want.2.1 1 = .ok (.invokevirtual 301, 3) := by decide +kernel
theorem dX11_want_4 : decode mX11_want.2.1 4 = .ok (.ifCond .ne 4, 3) := by decide +kernel
theorem dX11_want_7 : decode mX11_want.2.1 7 = .ok (.return_, 1) := by decide +kernel
theorem dX11_want_8 : decode mX11_want.2.1 8 = .ok (.aload_n 0, 1) := by decide +kernel
theorem dX11_want_9 : decode mX11_want.2.1 9 = .ok (.iload_n 1, 1) := by decide +kernel
theorem dX11_want_10 : decode mX11_want.2.1 10 = .ok (.invokevirtual 295, 3) := by decide +kernel
theorem dX11_want_13 : decode mX11_want.2.1 13 = .ok (.ifCond .eq 10, 3) := by decide +kernel
theorem dX11_want_16 : decode mX11_want.2.1 16 = .ok (.aload_n 0, 1) := by decide +kernel
theorem dX11_want_17 : decode mX11_want.2.1 17 = .ok (.invokevirtual 292, 3) := by decide +kernel
theorem dX11_want_20 : decode mX11_want.2.1 20 = .ok (.goto 8, 3) := by decide +kernel
theorem dX11_want_23 : decode mX11_want.2.1 23 = .ok (.aload_n 0, 1) := by decide +kernel
theorem dX11_want_24 : decode mX11_want.2.1 24 = .ok (.iconst 1, 1) := by decide +kernel
theorem dX11_want_25 : decode mX11_want.2.1 25 = .ok (.invokevirtual 289, 3) := by decide +kernel
theorem dX11_want_28 : decode mX11_want.2.1 28 = .ok (.return_, 1) := by decide +kernel
theorem dX11_was_0 : decode mX11_was.2.1 0 = .ok (.aload_n 0, 1) := by decide +kernel
theorem dX11_was_1 : decode mX11_was.2.1 1 = .ok (.iconst 0, 1) := by decide +kernel
theorem dX11_was_2 : decode mX11_was.2.1 2 = .ok (.putfield 1, 3) := by decide +kernel
theorem dX11_was_5 : decode mX11_was.2.1 5 = .ok (.aload_n 0, 1) := by decide +kernel
theorem dX11_was_6 : decode mX11_was.2.1 6 = .ok (.iload_n 1, 1) := by decide +kernel
theorem dX11_was_7 : decode mX11_was.2.1 7 = .ok (.invokevirtual 175, 3) := by decide +kernel
theorem dX11_was_10 : decode mX11_was.2.1 10 = .ok (.ifCond .eq 20, 3) := by decide +kernel
theorem dX11_was_13 : decode mX11_was.2.1 13 = .ok (.iload_n 2, 1) := by decide +kernel
theorem dX11_was_14 : decode mX11_was.2.1 14 = .ok (.aload_n 0, 1) := by decide +kernel
theorem dX11_was_15 : decode mX11_was.2.1 15 = .ok (.getfield 81, 3) := by decide +kernel
theorem dX11_was_18 : decode mX11_was.2.1 18 = .ok (.iload_n 1, 1) := by decide +kernel
theorem dX11_was_19 : decode mX11_was.2.1 19 = .ok (.iaload, 1) := by decide +kernel
theorem dX11_was_20 : decode mX11_was.2.1 20 = .ok (.aload_n 0, 1) := by decide +kernel
theorem dX11_was_21 : decode mX11_was.2.1 21 = .ok (.getfield 150, 3) := by decide +kernel
theorem dX11_was_24 : decode mX11_was.2.1 24 = .ok (.invokestatic 139, 3) := by decide +kernel
theorem dX11_was_27 : decode mX11_was.2.1 27 = .ok (.ifCond .ne 5, 3) := by decide +kernel
theorem dX11_was_30 : decode mX11_was.2.1 30 = .ok (.iconst (-1), 1) := by decide +kernel
theorem dX11_was_31 : decode mX11_was.2.1 31 = .ok (.ireturn, 1) := by decide +kernel
theorem dX11_was_32 : decode mX11_was.2.1 32 = .ok (.iconst (-1), 1) := by decide +kernel
theorem dX11_was_33 : decode mX11_was.2.1 33 = .ok (.istore_n 3, 1) := by decide +kernel
theorem dX11_was_34 : decode mX11_was.2.1 34 = .ok (.iconst 0, 1) := by decide +kernel
theorem dX11_was_35 : decode mX11_was.2.1 35 = .ok (.istore 4, 2) := by decide +kernel
theorem dX11_was_37 : decode mX11_was.2.1 37 = .ok (.iload 4, 2) := by decide +kernel
theorem dX11_was_39 : decode mX11_was.2.1 39 = .ok (.aload_n 0, 1) := by decide +kernel
theorem dX11_was_40 : decode mX11_was.2.1 40 = .ok (.getfield 162, 3) := by decide +kernel
theorem dX11_was_43 : decode mX11_was.2.1 43 = .ok (.if_icmp .ge 39, 3) := by decide +kernel
theorem dX11_was_46 : decode mX11_was.2.1 46 = .ok (.aload_n 0, 1) := by decide +kernel
theorem dX11_was_47 : decode mX11_was.2.1 47 = .ok (.getfield 90, 3) := by decide +kernel
theorem dX11_was_50 : decode mX11_was.2.1 50 = .ok (.iload 4, 2) := by decide +kernel
theorem dX11_was_52 : decode mX11_was.2.1 52 = .ok (.iaload, 1) := by decide +kernel
theorem dX11_was_53 : decode mX11_was.2.1 53 = .ok (.iload_n 1, 1) := by decide +kernel
theorem dX11_was_54 : decode mX11_was.2.1 54 = .ok (.if_icmp .ne 22, 3) := by decide +kernel
theorem dX11_was_57 : decode mX11_was.2.1 57 = .ok (.aload_n 0, 1) := by decide +kernel
theorem dX11_was_58 : decode mX11_was.2.1 58 = .ok (.getfield 93, 3) := by decide +kernel
theorem dX11_was_61 : decode mX11_was.2.1 61 = .ok (.iload 4, 2) := by decide +kernel
theorem dX11_was_63 : decode mX11_was.2.1 63 = .ok (.iaload, 1) := by decide +kernel
theorem dX11_was_64 : decode mX11_was.2.1 64 = .ok (.iload_n 2, 1) := by decide +kernel
theorem dX11_was_65 : decode mX11_was.2.1 65 = .ok (.if_icmp .gt 11, 3) := by decide +kernel
theorem dX11_was_68 : decode mX11_was.2.1 68 = .ok (.aload_n 0, 1) := by decide +kernel
theorem dX11_was_69 : decode mX11_was.2.1 69 = .ok (.getfield 96, 3) := by decide +kernel
theorem dX11_was_72 : decode mX11_was.2.1 72 = .ok (.iload 4, 2) := by decide +kernel
theorem dX11_was_74 : decode mX11_was.2.1 74 = .ok (.iaload, 1) := by decide +kernel
theorem dX11_was_75 : decode mX11_was.2.1 75 = .ok (.istore_n 3, 1) := by decide +kernel
theorem dX11_was_76 : decode mX11_was.2.1 76 = .ok (.iinc 4 1, 3) := by decide +kernel
theorem dX11_was_79 : decode mX11_was.2.1 79 = .ok (.goto (-42), 3) := by decide +kernel
theorem dX11_was_82 : decode mX11_was.2.1 82 = .ok (.iload_n 3, 1) := by decide +kernel
theorem dX11_was_83 : decode mX11_was.2.1 83 = .ok (.ireturn, 1) := by decide +kernel
theorem dX11_within_0 : decode mX11_within.2.1 0 = .ok (.iload_n 0, 1) := by decide +kernel
theorem dX11_within_1 : decode mX11_within.2.1 1 = .ok (.iload_n 1, 1) := by decide +kernel
theorem dX11_within_2 : decode mX11_within.2.1 2 = .ok (.if_icmp .lt 12, 3) := by decide +kernel
theorem dX11_within_5 : decode mX11_within.2.1 5 = .ok (.iload_n 0, 1) := by decide +kernel
theorem dX11_within_6 : decode mX11_within.2.1 6 = .ok (.iload_n 2, 1) := by decide +kernel
theorem dX11_within_7 : decode mX11_within.2.1 7 = .ok (.if_icmp .gt 7, 3) := by decide +kernel
theorem dX11_within_10 : decode mX11_within.2.1 10 = .ok (.iconst 1, 1) := by decide +kernel
theorem dX11_within_11 : decode mX11_within.2.1 11 = .ok (.goto 4, 3) := by decide +kernel
theorem dX11_within_14 : decode mX11_within.2.1 14 = .ok (.iconst 0, 1) := by decide +kernel
theorem dX11_within_15 : decode mX11_within.2.1 15 = .ok (.ireturn, 1) := by decide +kernel
theorem dX11_word_0 : decode mX11_word.2.1 0 = .ok (.aload_n 0, 1) := by decide +kernel
theorem dX11_word_1 : decode mX11_word.2.1 1 = .ok (.ldc_w 270, 3) := by decide +kernel
theorem dX11_word_4 : decode mX11_word.2.1 4 = .ok (.invokevirtual 272, 3) := by decide +kernel
theorem dX11_word_7 : decode mX11_word.2.1 7 = .ok (.ifCond .eq 7, 3) := by decide +kernel
theorem dX11_word_10 : decode mX11_word.2.1 10 = .ok (.iconst 0, 1) := by decide +kernel
theorem dX11_word_11 : decode mX11_word.2.1 11 = .ok (.goto 89, 3) := by decide +kernel
theorem dX11_word_14 : decode mX11_word.2.1 14 = .ok (.aload_n 0, 1) := by decide +kernel
theorem dX11_word_15 : decode mX11_word.2.1 15 = .ok (.ldc_w 276, 3) := by decide +kernel
theorem dX11_word_18 : decode mX11_word.2.1 18 = .ok (.invokevirtual 272, 3) := by decide +kernel
theorem dX11_word_21 : decode mX11_word.2.1 21 = .ok (.ifCond .eq 7, 3) := by decide +kernel
theorem dX11_word_24 : decode mX11_word.2.1 24 = .ok (.iconst 1, 1) := by decide +kernel
theorem dX11_word_25 : decode mX11_word.2.1 25 = .ok (.goto 75, 3) := by decide +kernel
theorem dX11_word_28 : decode mX11_word.2.1 28 = .ok (.aload_n 0, 1) := by decide +kernel
theorem dX11_word_29 : decode mX11_word.2.1 29 = .ok (.ldc_w 278, 3) := by decide +kernel
theorem dX11_word_32 : decode mX11_word.2.1 32 = .ok (.invokevirtual 272, 3) := by decide +kernel
theorem dX11_word_35 : decode mX11_word.2.1 35 = .ok (.ifCond .eq 7, 3) := by decide +kernel
theorem dX11_word_38 : decode mX11_word.2.1 38 = .ok (.iconst 2, 1) := by decide +kernel
theorem dX11_word_39 : decode mX11_word.2.1 39 = .ok (.goto 61, 3) := by decide +kernel
theorem dX11_word_42 : decode mX11_word.2.1 42 = .ok (.aload_n 0, 1) := by decide +kernel
theorem dX11_word_43 : decode mX11_word.2.1 43 = .ok (.ldc_w 280, 3) := by decide +kernel
theorem dX11_word_46 : decode mX11_word.2.1 46 = .ok (.invokevirtual 272, 3) := by decide +kernel
theorem dX11_word_49 : decode mX11_word.2.1 49 = .ok (.ifCond .eq 7, 3) := by decide +kernel
theorem dX11_word_52 : decode mX11_word.2.1 52 = .ok (.iconst 3, 1) := by decide +kernel
theorem dX11_word_53 : decode mX11_word.2.1 53 = .ok (.goto 47, 3) := by decide +kernel
theorem dX11_word_56 : decode mX11_word.2.1 56 = .ok (.aload_n 0, 1) := by decide +kernel
theorem dX11_word_57 : decode mX11_word.2.1 57 = .ok (.ldc_w 282, 3) := by decide +kernel
theorem dX11_word_60 : decode mX11_word.2.1 60 = .ok (.invokevirtual 272, 3) := by decide +kernel
theorem dX11_word_63 : decode mX11_word.2.1 63 = .ok (.ifCond .eq 7, 3) := by decide +kernel
theorem dX11_word_66 : decode mX11_word.2.1 66 = .ok (.iconst 4, 1) := by decide +kernel
theorem dX11_word_67 : decode mX11_word.2.1 67 = .ok (.goto 33, 3) := by decide +kernel
theorem dX11_word_70 : decode mX11_word.2.1 70 = .ok (.aload_n 0, 1) := by decide +kernel
theorem dX11_word_71 : decode mX11_word.2.1 71 = .ok (.ldc_w 283, 3) := by decide +kernel
theorem dX11_word_74 : decode mX11_word.2.1 74 = .ok (.invokevirtual 272, 3) := by decide +kernel
theorem dX11_word_77 : decode mX11_word.2.1 77 = .ok (.ifCond .eq 7, 3) := by decide +kernel
theorem dX11_word_80 : decode mX11_word.2.1 80 = .ok (.iconst 5, 1) := by decide +kernel
theorem dX11_word_81 : decode mX11_word.2.1 81 = .ok (.goto 19, 3) := by decide +kernel
theorem dX11_word_84 : decode mX11_word.2.1 84 = .ok (.aload_n 0, 1) := by decide +kernel
theorem dX11_word_85 : decode mX11_word.2.1 85 = .ok (.ldc_w 285, 3) := by decide +kernel
theorem dX11_word_88 : decode mX11_word.2.1 88 = .ok (.invokevirtual 272, 3) := by decide +kernel
theorem dX11_word_91 : decode mX11_word.2.1 91 = .ok (.ifCond .eq 8, 3) := by decide +kernel
theorem dX11_word_94 : decode mX11_word.2.1 94 = .ok (.bipush 6, 2) := by decide +kernel
theorem dX11_word_96 : decode mX11_word.2.1 96 = .ok (.goto 4, 3) := by decide +kernel
theorem dX11_word_99 : decode mX11_word.2.1 99 = .ok (.iconst (-1), 1) := by decide +kernel
theorem dX11_word_100 : decode mX11_word.2.1 100 = .ok (.ireturn, 1) := by decide +kernel
theorem dX11_worth_0 : decode mX11_worth.2.1 0 = .ok (.aload_n 0, 1) := by decide +kernel
theorem dX11_worth_1 : decode mX11_worth.2.1 1 = .ok (.iload_n 1, 1) := by decide +kernel
theorem dX11_worth_2 : decode mX11_worth.2.1 2 = .ok (.invokevirtual 319, 3) := by decide +kernel
theorem dX11_worth_5 : decode mX11_worth.2.1 5 = .ok (.istore_n 2, 1) := by decide +kernel
theorem dX11_worth_6 : decode mX11_worth.2.1 6 = .ok (.iconst 0, 1) := by decide +kernel
theorem dX11_worth_7 : decode mX11_worth.2.1 7 = .ok (.istore_n 3, 1) := by decide +kernel
theorem dX11_worth_8 : decode mX11_worth.2.1 8 = .ok (.iconst 0, 1) := by decide +kernel
theorem dX11_worth_9 : decode mX11_worth.2.1 9 = .ok (.istore 4, 2) := by decide +kernel
theorem dX11_worth_11 : decode mX11_worth.2.1 11 = .ok (.iload_n 2, 1) := by decide +kernel
theorem dX11_worth_12 : decode mX11_worth.2.1 12 = .ok (.iconst (-1), 1) := by decide +kernel
theorem dX11_worth_13 : decode mX11_worth.2.1 13 = .ok (.if_icmp .eq 95, 3) := by decide +kernel
theorem dX11_worth_16 : decode mX11_worth.2.1 16 = .ok (.iload 4, 2) := by decide +kernel
theorem dX11_worth_18 : decode mX11_worth.2.1 18 = .ok (.aload_n 0, 1) := by decide +kernel
theorem dX11_worth_19 : decode mX11_worth.2.1 19 = .ok (.getfield 118, 3) := by decide +kernel
theorem dX11_worth_22 : decode mX11_worth.2.1 22 = .ok (.iload_n 2, 1) := by decide +kernel
theorem dX11_worth_23 : decode mX11_worth.2.1 23 = .ok (.iaload, 1) := by decide +kernel
theorem dX11_worth_24 : decode mX11_worth.2.1 24 = .ok (.if_icmp .ge 84, 3) := by decide +kernel
theorem dX11_worth_27 : decode mX11_worth.2.1 27 = .ok (.bipush 20, 2) := by decide +kernel
theorem dX11_worth_29 : decode mX11_worth.2.1 29 = .ok (.iload_n 2, 1) := by decide +kernel
theorem dX11_worth_30 : decode mX11_worth.2.1 30 = .ok (.imul, 1) := by decide +kernel
theorem dX11_worth_31 : decode mX11_worth.2.1 31 = .ok (.iload 4, 2) := by decide +kernel
theorem dX11_worth_33 : decode mX11_worth.2.1 33 = .ok (.iadd, 1) := by decide +kernel
theorem dX11_worth_34 : decode mX11_worth.2.1 34 = .ok (.istore 5, 2) := by decide +kernel
theorem dX11_worth_36 : decode mX11_worth.2.1 36 = .ok (.iconst 1, 1) := by decide +kernel
theorem dX11_worth_37 : decode mX11_worth.2.1 37 = .ok (.istore 6, 2) := by decide +kernel
theorem dX11_worth_39 : decode mX11_worth.2.1 39 = .ok (.iconst 0, 1) := by decide +kernel
theorem dX11_worth_40 : decode mX11_worth.2.1 40 = .ok (.istore 7, 2) := by decide +kernel
theorem dX11_worth_42 : decode mX11_worth.2.1 42 = .ok (.iload 7, 2) := by decide +kernel
theorem dX11_worth_44 : decode mX11_worth.2.1 44 = .ok (.aload_n 0, 1) := by decide +kernel
theorem dX11_worth_45 : decode mX11_worth.2.1 45 = .ok (.getfield 121, 3) := by decide +kernel
theorem dX11_worth_48 : decode mX11_worth.2.1 48 = .ok (.iload 5, 2) := by decide +kernel
theorem dX11_worth_50 : decode mX11_worth.2.1 50 = .ok (.iaload, 1) := by decide +kernel
theorem dX11_worth_51 : decode mX11_worth.2.1 51 = .ok (.if_icmp .ge 36, 3) := by decide +kernel
theorem dX11_worth_54 : decode mX11_worth.2.1 54 = .ok (.iload 6, 2) := by decide +kernel
theorem dX11_worth_56 : decode mX11_worth.2.1 56 = .ok (.ifCond .eq 22, 3) := by decide +kernel
theorem dX11_worth_59 : decode mX11_worth.2.1 59 = .ok (.aload_n 0, 1) := by decide +kernel
theorem dX11_worth_60 : decode mX11_worth.2.1 60 = .ok (.iconst 4, 1) := by decide +kernel
theorem dX11_worth_61 : decode mX11_worth.2.1 61 = .ok (.iload 5, 2) := by decide +kernel
theorem dX11_worth_63 : decode mX11_worth.2.1 63 = .ok (.imul, 1) := by decide +kernel
theorem dX11_worth_64 : decode mX11_worth.2.1 64 = .ok (.iload 7, 2) := by decide +kernel
theorem dX11_worth_66 : decode mX11_worth.2.1 66 = .ok (.iadd, 1) := by decide +kernel
theorem dX11_worth_67 : decode mX11_worth.2.1 67 = .ok (.iload_n 1, 1) := by decide +kernel
theorem dX11_worth_68 : decode mX11_worth.2.1 68 = .ok (.invokevirtual 322, 3) := by decide +kernel
theorem dX11_worth_71 : decode mX11_worth.2.1 71 = .ok (.ifCond .eq 7, 3) := by decide +kernel
theorem dX11_worth_74 : decode mX11_worth.2.1 74 = .ok (.iconst 1, 1) := by decide +kernel
theorem dX11_worth_75 : decode mX11_worth.2.1 75 = .ok (.goto 4, 3) := by decide +kernel
theorem dX11_worth_78 : decode mX11_worth.2.1 78 = .ok (.iconst 0, 1) := by decide +kernel
theorem dX11_worth_79 : decode mX11_worth.2.1 79 = .ok (.istore 6, 2) := by decide +kernel
theorem dX11_worth_81 : decode mX11_worth.2.1 81 = .ok (.iinc 7 1, 3) := by decide +kernel
theorem dX11_worth_84 : decode mX11_worth.2.1 84 = .ok (.goto (-42), 3) := by decide +kernel
theorem dX11_worth_87 : decode mX11_worth.2.1 87 = .ok (.iload 6, 2) := by decide +kernel
theorem dX11_worth_89 : decode mX11_worth.2.1 89 = .ok (.ifCond .eq 13, 3) := by decide +kernel
theorem dX11_worth_92 : decode mX11_worth.2.1 92 = .ok (.iload_n 3, 1) := by decide +kernel
theorem dX11_worth_93 : decode mX11_worth.2.1 93 = .ok (.aload_n 0, 1) := by decide +kernel
theorem dX11_worth_94 : decode mX11_worth.2.1 94 = .ok (.getfield 124, 3) := by decide +kernel
theorem dX11_worth_97 : decode mX11_worth.2.1 97 = .ok (.iload 5, 2) := by decide +kernel
theorem dX11_worth_99 : decode mX11_worth.2.1 99 = .ok (.iaload, 1) := by decide +kernel
theorem dX11_worth_100 : decode mX11_worth.2.1 100 = .ok (.iadd, 1) := by decide +kernel
theorem dX11_worth_101 : decode mX11_worth.2.1 101 = .ok (.istore_n 3, 1) := by decide +kernel
theorem dX11_worth_102 : decode mX11_worth.2.1 102 = .ok (.iinc 4 1, 3) := by decide +kernel
theorem dX11_worth_105 : decode mX11_worth.2.1 105 = .ok (.goto (-94), 3) := by decide +kernel
theorem dX11_worth_108 : decode mX11_worth.2.1 108 = .ok (.iload_n 3, 1) := by decide +kernel
theorem dX11_worth_109 : decode mX11_worth.2.1 109 = .ok (.ireturn, 1) := by decide +kernel
theorem dX1_add_0 : decode mX1_add.2.1 0 = .ok (.aload_n 0, 1) := by decide +kernel
theorem dX1_add_1 : decode mX1_add.2.1 1 = .ok (.getfield 27, 3) := by decide +kernel
theorem dX1_add_4 : decode mX1_add.2.1 4 = .ok (.bipush 10, 2) := by decide +kernel
theorem dX1_add_6 : decode mX1_add.2.1 6 = .ok (.if_icmp .lt 4, 3) := by decide +kernel
theorem dX1_add_9 : decode mX1_add.2.1 9 = .ok (.return_, 1) := by decide +kernel
theorem dX1_add_10 : decode mX1_add.2.1 10 = .ok (.aload_n 0, 1) := by decide +kernel
theorem dX1_add_11 : decode mX1_add.2.1 11 = .ok (.getfield 9, 3) := by decide +kernel
theorem dX1_add_14 : decode mX1_add.2.1 14 = .ok (.aload_n 0, 1) := by decide +kernel
theorem dX1_add_15 : decode mX1_add.2.1 15 = .ok (.getfield 27, 3) := by decide +kernel
theorem dX1_add_18 : decode mX1_add.2.1 18 = .ok (.iload_n 1, 1) := by decide +kernel
theorem dX1_add_19 : decode mX1_add.2.1 19 = .ok (.iastore, 1) := by decide +kernel
theorem dX1_add_20 : decode mX1_add.2.1 20 = .ok (.aload_n 0, 1) := by decide +kernel
theorem dX1_add_21 : decode mX1_add.2.1 21 = .ok (.getfield 15, 3) := by decide +kernel
theorem dX1_add_24 : decode mX1_add.2.1 24 = .ok (.aload_n 0, 1) := by decide +kernel
theorem dX1_add_25 : decode mX1_add.2.1 25 = .ok (.getfield 27, 3) := by decide +kernel
theorem dX1_add_28 : decode mX1_add.2.1 28 = .ok (.iload_n 2, 1) := by decide +kernel
theorem dX1_add_29 : decode mX1_add.2.1 29 = .ok (.iastore, 1) := by decide +kernel
theorem dX1_add_30 : decode mX1_add.2.1 30 = .ok (.aload_n 0, 1) := by decide +kernel
theorem dX1_add_31 : decode mX1_add.2.1 31 = .ok (.dup, 1) := by decide +kernel
theorem dX1_add_32 : decode mX1_add.2.1 32 = .ok (.getfield 27, 3) := by decide +kernel
theorem dX1_add_35 : decode mX1_add.2.1 35 = .ok (.iconst 1, 1) := by decide +kernel
theorem dX1_add_36 : decode mX1_add.2.1 36 = .ok (.iadd, 1) := by decide +kernel
theorem dX1_add_37 : decode mX1_add.2.1 37 = .ok (.putfield 27, 3) := by decide +kernel
theorem dX1_add_40 : decode mX1_add.2.1 40 = .ok (.return_, 1) := by decide +kernel
theorem dX1_clear_0 : decode mX1_clear.2.1 0 = .ok (.aload_n 0, 1) := by decide +kernel
theorem dX1_clear_1 : decode mX1_clear.2.1 1 = .ok (.iconst 0, 1) := by decide +kernel
theorem dX1_clear_2 : decode mX1_clear.2.1 2 = .ok (.putfield 27, 3) := by decide +kernel
theorem dX1_clear_5 : decode mX1_clear.2.1 5 = .ok (.return_, 1) := by decide +kernel
theorem dX1_findFor_0 : decode mX1_findFor.2.1 0 = .ok (.aload_n 0, 1) := by decide +kernel
theorem dX1_findFor_1 : decode mX1_findFor.2.1 1 = .ok (.iload_n 1, 1) := by decide +kernel
theorem dX1_findFor_2 : decode mX1_findFor.2.1 2 = .ok (.putfield 31, 3) := by decide +kernel
theorem dX1_findFor_5 : decode mX1_findFor.2.1 5 = .ok (.aload_n 0, 1) := by decide +kernel
theorem dX1_findFor_6 : decode mX1_findFor.2.1 6 = .ok (.iconst 0, 1) := by decide +kernel
theorem dX1_findFor_7 : decode mX1_findFor.2.1 7 = .ok (.putfield 34, 3) := by decide +kernel
theorem dX1_findFor_10 : decode mX1_findFor.2.1 10 = .ok (.aload_n 0, 1) := by decide +kernel
theorem dX1_findFor_11 : decode mX1_findFor.2.1 11 = .ok (.iconst 0, 1) := by decide +kernel
theorem dX1_findFor_12 : decode mX1_findFor.2.1 12 = .ok (.putfield 37, 3) := by decide +kernel
theorem dX1_findFor_15 : decode mX1_findFor.2.1 15 = .ok (.aload_n 0, 1) := by decide +kernel
theorem dX1_findFor_16 : decode mX1_findFor.2.1 16 = .ok (.getfield 18, 3) := by decide +kernel
theorem dX1_findFor_19 : decode mX1_findFor.2.1 19 = .ok (.aload_n 0, 1) := by decide +kernel
theorem dX1_findFor_20 : decode mX1_findFor.2.1 20 = .ok (.getfield 27, 3) := by decide +kernel
theorem dX1_findFor_23 : decode mX1_findFor.2.1 23 = .ok (.iconst 0, 1) := by decide +kernel
theorem dX1_findFor_24 : decode mX1_findFor.2.1 24 = .ok (.iastore, 1) := by decide +kernel
theorem dX1_findFor_25 : decode mX1_findFor.2.1 25 = .ok (.aload_n 0, 1) := by decide +kernel
theorem dX1_findFor_26 : decode mX1_findFor.2.1 26 = .ok (.getfield 27, 3) := by decide +kernel
theorem dX1_findFor_29 : decode mX1_findFor.2.1 29 = .ok (.iconst 1, 1) := by decide +kernel
theorem dX1_findFor_30 : decode mX1_findFor.2.1 30 = .ok (.isub, 1) := by decide +kernel
theorem dX1_findFor_31 : decode mX1_findFor.2.1 31 = .ok (.istore_n 2, 1) := by decide +kernel
theorem dX1_findFor_32 : decode mX1_findFor.2.1 32 = .ok (.iload_n 2, 1) := by decide +kernel
theorem dX1_findFor_33 : decode mX1_findFor.2.1 33 = .ok (.ifCond .lt 37, 3) := by decide +kernel
theorem dX1_findFor_36 : decode mX1_findFor.2.1 36 = .ok (.aload_n 0, 1) := by decide +kernel
theorem dX1_findFor_37 : decode mX1_findFor.2.1 37 = .ok (.getfield 18, 3) := by decide +kernel
theorem dX1_findFor_40 : decode mX1_findFor.2.1 40 = .ok (.iload_n 2, 1) := by decide +kernel
theorem dX1_findFor_41 : decode mX1_findFor.2.1 41 = .ok (.aload_n 0, 1) := by decide +kernel
theorem dX1_findFor_42 : decode mX1_findFor.2.1 42 = .ok (.getfield 18, 3) := by decide +kernel
theorem dX1_findFor_45 : decode mX1_findFor.2.1 45 = .ok (.iload_n 2, 1) := by decide +kernel
theorem dX1_findFor_46 : decode mX1_findFor.2.1 46 = .ok (.iconst 1, 1) := by decide +kernel
theorem dX1_findFor_47 : decode mX1_findFor.2.1 47 = .ok (.iadd, 1) := by decide +kernel
theorem dX1_findFor_48 : decode mX1_findFor.2.1 48 = .ok (.iaload, 1) := by decide +kernel
theorem dX1_findFor_49 : decode mX1_findFor.2.1 49 = .ok (.aload_n 0, 1) := by decide +kernel
theorem dX1_findFor_50 : decode mX1_findFor.2.1 50 = .ok (.getfield 15, 3) := by decide +kernel
theorem dX1_findFor_53 : decode mX1_findFor.2.1 53 = .ok (.iload_n 2, 1) := by decide +kernel
theorem dX1_findFor_54 : decode mX1_findFor.2.1 54 = .ok (.iaload, 1) := by decide +kernel
theorem dX1_findFor_55 : decode mX1_findFor.2.1 55 = .ok (.iadd, 1) := by decide +kernel
theorem dX1_findFor_56 : decode mX1_findFor.2.1 56 = .ok (.iastore, 1) := by decide +kernel
theorem dX1_findFor_57 : decode mX1_findFor.2.1 57 = .ok (.aload_n 0, 1) := by decide +kernel
theorem dX1_findFor_58 : decode mX1_findFor.2.1 58 = .ok (.getfield 24, 3) := by decide +kernel
theorem dX1_findFor_61 : decode mX1_findFor.2.1 61 = .ok (.iload_n 2, 1) := by decide +kernel
theorem dX1_findFor_62 : decode mX1_findFor.2.1 62 = .ok (.iconst 2, 1) := by decide +kernel
theorem dX1_findFor_63 : decode mX1_findFor.2.1 63 = .ok (.iastore, 1) := by decide +kernel
theorem dX1_findFor_64 : decode mX1_findFor.2.1 64 = .ok (.iinc 2 (-1), 3) := by decide +kernel
theorem dX1_findFor_67 : decode mX1_findFor.2.1 67 = .ok (.goto (-35), 3) := by decide +kernel
theorem dX1_findFor_70 : decode mX1_findFor.2.1 70 = .ok (.aload_n 0, 1) := by decide +kernel
theorem dX1_findFor_71 : decode mX1_findFor.2.1 71 = .ok (.iconst 0, 1) := by decide +kernel
theorem dX1_findFor_72 : decode mX1_findFor.2.1 72 = .ok (.iconst 0, 1) := by decide +kernel
theorem dX1_findFor_73 : decode mX1_findFor.2.1 73 = .ok (.iconst 0, 1) := by decide +kernel
theorem dX1_findFor_74 : decode mX1_findFor.2.1 74 = .ok (.iconst 0, 1) := by decide +kernel
theorem dX1_findFor_75 : decode mX1_findFor.2.1 75 = .ok (.invokestatic 40, 3) := by decide +kernel
theorem dX1_findFor_78 : decode mX1_findFor.2.1 78 = .ok (.return_, 1) := by decide +kernel
theorem dX1_init_0 : decode mX1_init.2.1 0 = .ok (.aload_n 0, 1) := by decide +kernel
theorem dX1_init_1 : decode mX1_init.2.1 1 = .ok (.invokespecial 3, 3) := by decide +kernel
theorem dX1_init_4 : decode mX1_init.2.1 4 = .ok (.aload_n 0, 1) := by decide +kernel
theorem dX1_init_5 : decode mX1_init.2.1 5 = .ok (.bipush 10, 2) := by decide +kernel
theorem dX1_init_7 : decode mX1_init.2.1 7 = .ok (.newarray .int, 2) := by decide +kernel
theorem dX1_init_9 : decode mX1_init.2.1 9 = .ok (.putfield 9, 3) := by decide +kernel
theorem dX1_init_12 : decode mX1_init.2.1 12 = .ok (.aload_n 0, 1) := by decide +kernel
theorem dX1_init_13 : decode mX1_init.2.1 13 = .ok (.bipush 10, 2) := by decide +kernel
theorem dX1_init_15 : decode mX1_init.2.1 15 = .ok (.newarray .int, 2) := by decide +kernel
theorem dX1_init_17 : decode mX1_init.2.1 17 = .ok (.putfield 15, 3) := by decide +kernel
theorem dX1_init_20 : decode mX1_init.2.1 20 = .ok (.aload_n 0, 1) := by decide +kernel
theorem dX1_init_21 : decode mX1_init.2.1 21 = .ok (.bipush 11, 2) := by decide +kernel
theorem dX1_init_23 : decode mX1_init.2.1 23 = .ok (.newarray .int, 2) := by decide +kernel
theorem dX1_init_25 : decode mX1_init.2.1 25 = .ok (.putfield 18, 3) := by decide +kernel
theorem dX1_init_28 : decode mX1_init.2.1 28 = .ok (.aload_n 0, 1) := by decide +kernel
theorem dX1_init_29 : decode mX1_init.2.1 29 = .ok (.bipush 10, 2) := by decide +kernel
theorem dX1_init_31 : decode mX1_init.2.1 31 = .ok (.newarray .int, 2) := by decide +kernel
theorem dX1_init_33 : decode mX1_init.2.1 33 = .ok (.putfield 21, 3) := by decide +kernel
theorem dX1_init_36 : decode mX1_init.2.1 36 = .ok (.aload_n 0, 1) := by decide +kernel
theorem dX1_init_37 : decode mX1_init.2.1 37 = .ok (.bipush 10, 2) := by decide +kernel
theorem dX1_init_39 : decode mX1_init.2.1 39 = .ok (.newarray .int, 2) := by decide +kernel
theorem dX1_init_41 : decode mX1_init.2.1 41 = .ok (.putfield 24, 3) := by decide +kernel
theorem dX1_init_44 : decode mX1_init.2.1 44 = .ok (.aload_n 0, 1) := by decide +kernel
theorem dX1_init_45 : decode mX1_init.2.1 45 = .ok (.iconst 0, 1) := by decide +kernel
theorem dX1_init_46 : decode mX1_init.2.1 46 = .ok (.putfield 27, 3) := by decide +kernel
theorem dX1_init_49 : decode mX1_init.2.1 49 = .ok (.aload_n 0, 1) := by decide +kernel
theorem dX1_init_50 : decode mX1_init.2.1 50 = .ok (.iconst 0, 1) := by decide +kernel
theorem dX1_init_51 : decode mX1_init.2.1 51 = .ok (.putfield 31, 3) := by decide +kernel
theorem dX1_init_54 : decode mX1_init.2.1 54 = .ok (.aload_n 0, 1) := by decide +kernel
theorem dX1_init_55 : decode mX1_init.2.1 55 = .ok (.iconst 0, 1) := by decide +kernel
theorem dX1_init_56 : decode mX1_init.2.1 56 = .ok (.putfield 34, 3) := by decide +kernel
theorem dX1_init_59 : decode mX1_init.2.1 59 = .ok (.aload_n 0, 1) := by decide +kernel
theorem dX1_init_60 : decode mX1_init.2.1 60 = .ok (.iconst 0, 1) := by decide +kernel
theorem dX1_init_61 : decode mX1_init.2.1 61 = .ok (.putfield 37, 3) := by decide +kernel
theorem dX1_init_64 : decode mX1_init.2.1 64 = .ok (.return_, 1) := by decide +kernel
theorem dX1_isHopeless_0 : decode mX1_isHopeless.2.1 0 = .ok (.iload_n 2, 1) := by decide +kernel
theorem dX1_isHopeless_1 : decode mX1_isHopeless.2.1 1 = .ok (.iload_n 3, 1) := by decide +kernel
theorem dX1_isHopeless_2 : decode mX1_isHopeless.2.1 2 = .ok (.iadd, 1) := by decide +kernel
theorem dX1_isHopeless_3 : decode mX1_isHopeless.2.1 3 = .ok (.istore 5, 2) := by decide +kernel
theorem dX1_isHopeless_5 : decode mX1_isHopeless.2.1 5 = .ok (.iload 5, 2) := by decide +kernel
theorem dX1_isHopeless_7 : decode mX1_isHopeless.2.1 7 = .ok (.aload_n 0, 1) := by decide +kernel
theorem dX1_isHopeless_8 : decode mX1_isHopeless.2.1 8 = .ok (.getfield 31, 3) := by decide +kernel
theorem dX1_isHopeless_11 : decode mX1_isHopeless.2.1 11 = .ok (.if_icmp .gt 21, 3) := by decide +kernel
theorem dX1_isHopeless_14 : decode mX1_isHopeless.2.1 14 = .ok (.iload_n 2, 1) := by decide +kernel
theorem dX1_isHopeless_15 : decode mX1_isHopeless.2.1 15 = .ok (.iload_n 3, 1) := by decide +kernel
theorem dX1_isHopeless_16 : decode mX1_isHopeless.2.1 16 = .ok (.isub, 1) := by decide +kernel
theorem dX1_isHopeless_17 : decode mX1_isHopeless.2.1 17 = .ok (.invokestatic 52, 3) := by decide +kernel
theorem dX1_isHopeless_20 : decode mX1_isHopeless.2.1 20 = .ok (.bipush 10, 2) := by decide +kernel
theorem dX1_isHopeless_22 : decode mX1_isHopeless.2.1 22 = .ok (.aload_n 0, 1) := by decide +kernel
theorem dX1_isHopeless_23 : decode mX1_isHopeless.2.1 23 = .ok (.getfield 18, 3) := by decide +kernel
theorem dX1_isHopeless_26 : decode mX1_isHopeless.2.1 26 = .ok (.iload_n 1, 1) := by decide +kernel
theorem dX1_isHopeless_27 : decode mX1_isHopeless.2.1 27 = .ok (.iaload, 1) := by decide +kernel
theorem dX1_isHopeless_28 : decode mX1_isHopeless.2.1 28 = .ok (.iadd, 1) := by decide +kernel
theorem dX1_isHopeless_29 : decode mX1_isHopeless.2.1 29 = .ok (.if_icmp .le 5, 3) := by decide +kernel
theorem dX1_isHopeless_32 : decode mX1_isHopeless.2.1 32 = .ok (.iconst 1, 1) := by decide +kernel
theorem dX1_isHopeless_33 : decode mX1_isHopeless.2.1 33 = .ok (.ireturn, 1) := by decide +kernel
theorem dX1_isHopeless_34 : decode mX1_isHopeless.2.1 34 = .ok (.aload_n 0, 1) := by decide +kernel
theorem dX1_isHopeless_35 : decode mX1_isHopeless.2.1 35 = .ok (.getfield 31, 3) := by decide +kernel
theorem dX1_isHopeless_38 : decode mX1_isHopeless.2.1 38 = .ok (.iload 5, 2) := by decide +kernel
theorem dX1_isHopeless_40 : decode mX1_isHopeless.2.1 40 = .ok (.aload_n 0, 1) := by decide +kernel
theorem dX1_isHopeless_41 : decode mX1_isHopeless.2.1 41 = .ok (.getfield 18, 3) := by decide +kernel
theorem dX1_isHopeless_44 : decode mX1_isHopeless.2.1 44 = .ok (.iload_n 1, 1) := by decide +kernel
theorem dX1_isHopeless_45 : decode mX1_isHopeless.2.1 45 = .ok (.iaload, 1) := by decide +kernel
theorem dX1_isHopeless_46 : decode mX1_isHopeless.2.1 46 = .ok (.iadd, 1) := by decide +kernel
theorem dX1_isHopeless_47 : decode mX1_isHopeless.2.1 47 = .ok (.invokestatic 58, 3) := by decide +kernel
theorem dX1_isHopeless_50 : decode mX1_isHopeless.2.1 50 = .ok (.istore 6, 2) := by decide +kernel
theorem dX1_isHopeless_52 : decode mX1_isHopeless.2.1 52 = .ok (.iload 6, 2) := by decide +kernel
theorem dX1_isHopeless_54 : decode mX1_isHopeless.2.1 54 = .ok (.aload_n 0, 1) := by decide +kernel
theorem dX1_isHopeless_55 : decode mX1_isHopeless.2.1 55 = .ok (.getfield 34, 3) := by decide +kernel
theorem dX1_isHopeless_58 : decode mX1_isHopeless.2.1 58 = .ok (.if_icmp .eq 18, 3) := by decide +kernel
theorem dX1_isHopeless_61 : decode mX1_isHopeless.2.1 61 = .ok (.iload 6, 2) := by decide +kernel
theorem dX1_isHopeless_63 : decode mX1_isHopeless.2.1 63 = .ok (.aload_n 0, 1) := by decide +kernel
theorem dX1_isHopeless_64 : decode mX1_isHopeless.2.1 64 = .ok (.getfield 34, 3) := by decide +kernel
theorem dX1_isHopeless_67 : decode mX1_isHopeless.2.1 67 = .ok (.if_icmp .ge 7, 3) := by decide +kernel
theorem dX1_isHopeless_70 : decode mX1_isHopeless.2.1 70 = .ok (.iconst 1, 1) := by decide +kernel
theorem dX1_isHopeless_71 : decode mX1_isHopeless.2.1 71 = .ok (.goto 4, 3) := by decide +kernel
theorem dX1_isHopeless_74 : decode mX1_isHopeless.2.1 74 = .ok (.iconst 0, 1) := by decide +kernel
theorem dX1_isHopeless_75 : decode mX1_isHopeless.2.1 75 = .ok (.ireturn, 1) := by decide +kernel
theorem dX1_isHopeless_76 : decode mX1_isHopeless.2.1 76 = .ok (.iload 5, 2) := by decide +kernel
theorem dX1_isHopeless_78 : decode mX1_isHopeless.2.1 78 = .ok (.aload_n 0, 1) := by decide +kernel
theorem dX1_isHopeless_79 : decode mX1_isHopeless.2.1 79 = .ok (.getfield 34, 3) := by decide +kernel
theorem dX1_isHopeless_82 : decode mX1_isHopeless.2.1 82 = .ok (.if_icmp .ge 10, 3) := by decide +kernel
theorem dX1_isHopeless_85 : decode mX1_isHopeless.2.1 85 = .ok (.iload 4, 2) := by decide +kernel
theorem dX1_isHopeless_87 : decode mX1_isHopeless.2.1 87 = .ok (.iconst 1, 1) := by decide +kernel
theorem dX1_isHopeless_88 : decode mX1_isHopeless.2.1 88 = .ok (.iadd, 1) := by decide +kernel
theorem dX1_isHopeless_89 : decode mX1_isHopeless.2.1 89 = .ok (.goto 5, 3) := by decide +kernel
theorem dX1_isHopeless_92 : decode mX1_isHopeless.2.1 92 = .ok (.iload 4, 2) := by decide +kernel
theorem dX1_isHopeless_94 : decode mX1_isHopeless.2.1 94 = .ok (.aload_n 0, 1) := by decide +kernel
theorem dX1_isHopeless_95 : decode mX1_isHopeless.2.1 95 = .ok (.getfield 37, 3) := by decide +kernel
theorem dX1_isHopeless_98 : decode mX1_isHopeless.2.1 98 = .ok (.if_icmp .lt 7, 3) := by decide +kernel
theorem dX1_isHopeless_101 : decode mX1_isHopeless.2.1 101 = .ok (.iconst 1, 1) := by decide +kernel
theorem dX1_isHopeless_102 : decode mX1_isHopeless.2.1 102 = .ok (.goto 4, 3) := by decide +kernel
theorem dX1_isHopeless_105 : decode mX1_isHopeless.2.1 105 = .ok (.iconst 0, 1) := by decide +kernel
theorem dX1_isHopeless_106 : decode mX1_isHopeless.2.1 106 = .ok (.ireturn, 1) := by decide +kernel
theorem dX1_keep_0 : decode mX1_keep.2.1 0 = .ok (.aload_n 0, 1) := by decide +kernel
theorem dX1_keep_1 : decode mX1_keep.2.1 1 = .ok (.iload_n 1, 1) := by decide +kernel
theorem dX1_keep_2 : decode mX1_keep.2.1 2 = .ok (.putfield 34, 3) := by decide +kernel
theorem dX1_keep_5 : decode mX1_keep.2.1 5 = .ok (.aload_n 0, 1) := by decide +kernel
theorem dX1_keep_6 : decode mX1_keep.2.1 6 = .ok (.iload_n 2, 1) := by decide +kernel
theorem dX1_keep_7 : decode mX1_keep.2.1 7 = .ok (.putfield 37, 3) := by decide +kernel
theorem dX1_keep_10 : decode mX1_keep.2.1 10 = .ok (.iconst 0, 1) := by decide +kernel
theorem dX1_keep_11 : decode mX1_keep.2.1 11 = .ok (.istore_n 3, 1) := by decide +kernel
theorem dX1_keep_12 : decode mX1_keep.2.1 12 = .ok (.iload_n 3, 1) := by decide +kernel
theorem dX1_keep_13 : decode mX1_keep.2.1 13 = .ok (.aload_n 0, 1) := by decide +kernel
theorem dX1_keep_14 : decode mX1_keep.2.1 14 = .ok (.getfield 27, 3) := by decide +kernel
theorem dX1_keep_17 : decode mX1_keep.2.1 17 = .ok (.if_icmp .ge 21, 3) := by decide +kernel
theorem dX1_keep_20 : decode mX1_keep.2.1 20 = .ok (.aload_n 0, 1) := by decide +kernel
theorem dX1_keep_21 : decode mX1_keep.2.1 21 = .ok (.getfield 24, 3) := by decide +kernel
theorem dX1_keep_24 : decode mX1_keep.2.1 24 = .ok (.iload_n 3, 1) := by decide +kernel
theorem dX1_keep_25 : decode mX1_keep.2.1 25 = .ok (.aload_n 0, 1) := by decide +kernel
theorem dX1_keep_26 : decode mX1_keep.2.1 26 = .ok (.getfield 21, 3) := by decide +kernel
theorem dX1_keep_29 : decode mX1_keep.2.1 29 = .ok (.iload_n 3, 1) := by decide +kernel
theorem dX1_keep_30 : decode mX1_keep.2.1 30 = .ok (.iaload, 1) := by decide +kernel
theorem dX1_keep_31 : decode mX1_keep.2.1 31 = .ok (.iastore, 1) := by decide +kernel
theorem dX1_keep_32 : decode mX1_keep.2.1 32 = .ok (.iinc 3 1, 3) := by decide +kernel
theorem dX1_keep_35 : decode mX1_keep.2.1 35 = .ok (.goto (-23), 3) := by decide +kernel
theorem dX1_keep_38 : decode mX1_keep.2.1 38 = .ok (.return_, 1) := by decide +kernel
theorem dX1_look_0 : decode mX1_look.2.1 0 = .ok (.aload_n 0, 1) := by decide +kernel
theorem dX1_look_1 : decode mX1_look.2.1 1 = .ok (.iload_n 1, 1) := by decide +kernel
theorem dX1_look_2 : decode mX1_look.2.1 2 = .ok (.iload_n 2, 1) := by decide +kernel
theorem dX1_look_3 : decode mX1_look.2.1 3 = .ok (.iload_n 3, 1) := by decide +kernel
theorem dX1_look_4 : decode mX1_look.2.1 4 = .ok (.iload 4, 2) := by decide +kernel
theorem dX1_look_6 : decode mX1_look.2.1 6 = .ok (.invokevirtual 44, 3) := by decide +kernel
theorem dX1_look_9 : decode mX1_look.2.1 9 = .ok (.ifCond .eq 4, 3) := by decide +kernel
theorem dX1_look_12 : decode mX1_look.2.1 12 = .ok (.return_, 1) := by decide +kernel
theorem dX1_look_13 : decode mX1_look.2.1 13 = .ok (.iload_n 1, 1) := by decide +kernel
theorem dX1_look_14 : decode mX1_look.2.1 14 = .ok (.aload_n 0, 1) := by decide +kernel
theorem dX1_look_15 : decode mX1_look.2.1 15 = .ok (.getfield 27, 3) := by decide +kernel
theorem dX1_look_18 : decode mX1_look.2.1 18 = .ok (.if_icmp .lt 13, 3) := by decide +kernel
theorem dX1_look_21 : decode mX1_look.2.1 21 = .ok (.aload_n 0, 1) := by decide +kernel
theorem dX1_look_22 : decode mX1_look.2.1 22 = .ok (.iload_n 2, 1) := by decide +kernel
theorem dX1_look_23 : decode mX1_look.2.1 23 = .ok (.iload_n 3, 1) := by decide +kernel
theorem dX1_look_24 : decode mX1_look.2.1 24 = .ok (.iadd, 1) := by decide +kernel
theorem dX1_look_25 : decode mX1_look.2.1 25 = .ok (.iload 4, 2) := by decide +kernel
theorem dX1_look_27 : decode mX1_look.2.1 27 = .ok (.invokevirtual 48, 3) := by decide +kernel
theorem dX1_look_30 : decode mX1_look.2.1 30 = .ok (.return_, 1) := by decide +kernel
theorem dX1_look_31 : decode mX1_look.2.1 31 = .ok (.aload_n 0, 1) := by decide +kernel
theorem dX1_look_32 : decode mX1_look.2.1 32 = .ok (.getfield 21, 3) := by decide +kernel
theorem dX1_look_35 : decode mX1_look.2.1 35 = .ok (.iload_n 1, 1) := by decide +kernel
theorem dX1_look_36 : decode mX1_look.2.1 36 = .ok (.iconst 0, 1) := by decide +kernel
theorem dX1_look_37 : decode mX1_look.2.1 37 = .ok (.iastore, 1) := by decide +kernel
theorem dX1_look_38 : decode mX1_look.2.1 38 = .ok (.aload_n 0, 1) := by decide +kernel
theorem dX1_look_39 : decode mX1_look.2.1 39 = .ok (.iload_n 1, 1) := by decide +kernel
theorem dX1_look_40 : decode mX1_look.2.1 40 = .ok (.iconst 1, 1) := by decide +kernel
theorem dX1_look_41 : decode mX1_look.2.1 41 = .ok (.iadd, 1) := by decide +kernel
theorem dX1_look_42 : decode mX1_look.2.1 42 = .ok (.iload_n 2, 1) := by decide +kernel
theorem dX1_look_43 : decode mX1_look.2.1 43 = .ok (.aload_n 0, 1) := by decide +kernel
theorem dX1_look_44 : decode mX1_look.2.1 44 = .ok (.getfield 15, 3) := by decide +kernel
theorem dX1_look_47 : decode mX1_look.2.1 47 = .ok (.iload_n 1, 1) := by decide +kernel
theorem dX1_look_48 : decode mX1_look.2.1 48 = .ok (.iaload, 1) := by decide +kernel
theorem dX1_look_49 : decode mX1_look.2.1 49 = .ok (.iadd, 1) := by decide +kernel
theorem dX1_look_50 : decode mX1_look.2.1 50 = .ok (.iload_n 3, 1) := by decide +kernel
theorem dX1_look_51 : decode mX1_look.2.1 51 = .ok (.iload 4, 2) := by decide +kernel
theorem dX1_look_53 : decode mX1_look.2.1 53 = .ok (.iconst 1, 1) := by decide +kernel
theorem dX1_look_54 : decode mX1_look.2.1 54 = .ok (.iadd, 1) := by decide +kernel
theorem dX1_look_55 : decode mX1_look.2.1 55 = .ok (.invokestatic 40, 3) := by decide +kernel
theorem dX1_look_58 : decode mX1_look.2.1 58 = .ok (.iload_n 2, 1) := by decide +kernel
theorem dX1_look_59 : decode mX1_look.2.1 59 = .ok (.iload_n 3, 1) := by decide +kernel
theorem dX1_look_60 : decode mX1_look.2.1 60 = .ok (.if_icmp .eq 30, 3) := by decide +kernel
theorem dX1_look_63 : decode mX1_look.2.1 63 = .ok (.aload_n 0, 1) := by decide +kernel
theorem dX1_look_64 : decode mX1_look.2.1 64 = .ok (.getfield 21, 3) := by decide +kernel
theorem dX1_look_67 : decode mX1_look.2.1 67 = .ok (.iload_n 1, 1) := by decide +kernel
theorem dX1_look_68 : decode mX1_look.2.1 68 = .ok (.iconst 1, 1) := by decide +kernel
theorem dX1_look_69 : decode mX1_look.2.1 69 = .ok (.iastore, 1) := by decide +kernel
theorem dX1_look_70 : decode mX1_look.2.1 70 = .ok (.aload_n 0, 1) := by decide +kernel
theorem dX1_look_71 : decode mX1_look.2.1 71 = .ok (.iload_n 1, 1) := by decide +kernel
theorem dX1_look_72 : decode mX1_look.2.1 72 = .ok (.iconst 1, 1) := by decide +kernel
theorem dX1_look_73 : decode mX1_look.2.1 73 = .ok (.iadd, 1) := by decide +kernel
theorem dX1_look_74 : decode mX1_look.2.1 74 = .ok (.iload_n 2, 1) := by decide +kernel
theorem dX1_look_75 : decode mX1_look.2.1 75 = .ok (.iload_n 3, 1) := by decide +kernel
theorem dX1_look_76 : decode mX1_look.2.1 76 = .ok (.aload_n 0, 1) := by decide +kernel
theorem dX1_look_77 : decode mX1_look.2.1 77 = .ok (.getfield 15, 3) := by decide +kernel
theorem dX1_look_80 : decode mX1_look.2.1 80 = .ok (.iload_n 1, 1) := by decide +kernel
theorem dX1_look_81 : decode mX1_look.2.1 81 = .ok (.iaload, 1) := by decide +kernel
theorem dX1_look_82 : decode mX1_look.2.1 82 = .ok (.iadd, 1) := by decide +kernel
theorem dX1_look_83 : decode mX1_look.2.1 83 = .ok (.iload 4, 2) := by decide +kernel
theorem dX1_look_85 : decode mX1_look.2.1 85 = .ok (.iconst 1, 1) := by decide +kernel
theorem dX1_look_86 : decode mX1_look.2.1 86 = .ok (.iadd, 1) := by decide +kernel
theorem dX1_look_87 : decode mX1_look.2.1 87 = .ok (.invokestatic 40, 3) := by decide +kernel
theorem dX1_look_90 : decode mX1_look.2.1 90 = .ok (.aload_n 0, 1) := by decide +kernel
theorem dX1_look_91 : decode mX1_look.2.1 91 = .ok (.getfield 21, 3) := by decide +kernel
theorem dX1_look_94 : decode mX1_look.2.1 94 = .ok (.iload_n 1, 1) := by decide +kernel
theorem dX1_look_95 : decode mX1_look.2.1 95 = .ok (.iconst 2, 1) := by decide +kernel
theorem dX1_look_96 : decode mX1_look.2.1 96 = .ok (.iastore, 1) := by decide +kernel
theorem dX1_look_97 : decode mX1_look.2.1 97 = .ok (.aload_n 0, 1) := by decide +kernel
theorem dX1_look_98 : decode mX1_look.2.1 98 = .ok (.iload_n 1, 1) := by decide +kernel
theorem dX1_look_99 : decode mX1_look.2.1 99 = .ok (.iconst 1, 1) := by decide +kernel
theorem dX1_look_100 : decode mX1_look.2.1 100 = .ok (.iadd, 1) := by decide +kernel
theorem dX1_look_101 : decode mX1_look.2.1 101 = .ok (.iload_n 2, 1) := by decide +kernel
theorem dX1_look_102 : decode mX1_look.2.1 102 = .ok (.iload_n 3, 1) := by decide +kernel
theorem dX1_look_103 : decode mX1_look.2.1 103 = .ok (.iload 4, 2) := by decide +kernel
theorem dX1_look_105 : decode mX1_look.2.1 105 = .ok (.invokestatic 40, 3) := by decide +kernel
theorem dX1_look_108 : decode mX1_look.2.1 108 = .ok (.return_, 1) := by decide +kernel
theorem dX1_sideOf_0 : decode mX1_sideOf.2.1 0 = .ok (.iconst 0, 1) := by decide +kernel
theorem dX1_sideOf_1 : decode mX1_sideOf.2.1 1 = .ok (.istore_n 2, 1) := by decide +kernel
theorem dX1_sideOf_2 : decode mX1_sideOf.2.1 2 = .ok (.iload_n 2, 1) := by decide +kernel
theorem dX1_sideOf_3 : decode mX1_sideOf.2.1 3 = .ok (.aload_n 0, 1) := by decide +kernel
theorem dX1_sideOf_4 : decode mX1_sideOf.2.1 4 = .ok (.getfield 27, 3) := by decide +kernel
theorem dX1_sideOf_7 : decode mX1_sideOf.2.1 7 = .ok (.if_icmp .ge 26, 3) := by decide +kernel
theorem dX1_sideOf_10 : decode mX1_sideOf.2.1 10 = .ok (.aload_n 0, 1) := by decide +kernel
theorem dX1_sideOf_11 : decode mX1_sideOf.2.1 11 = .ok (.getfield 9, 3) := by decide +kernel
theorem dX1_sideOf_14 : decode mX1_sideOf.2.1 14 = .ok (.iload_n 2, 1) := by decide +kernel
theorem dX1_sideOf_15 : decode mX1_sideOf.2.1 15 = .ok (.iaload, 1) := by decide +kernel
theorem dX1_sideOf_16 : decode mX1_sideOf.2.1 16 = .ok (.iload_n 1, 1) := by decide +kernel
theorem dX1_sideOf_17 : decode mX1_sideOf.2.1 17 = .ok (.if_icmp .ne 10, 3) := by decide +kernel
theorem dX1_sideOf_20 : decode mX1_sideOf.2.1 20 = .ok (.aload_n 0, 1) := by decide +kernel
theorem dX1_sideOf_21 : decode mX1_sideOf.2.1 21 = .ok (.getfield 24, 3) := by decide +kernel
theorem dX1_sideOf_24 : decode mX1_sideOf.2.1 24 = .ok (.iload_n 2, 1) := by decide +kernel
theorem dX1_sideOf_25 : decode mX1_sideOf.2.1 25 = .ok (.iaload, 1) := by decide +kernel
theorem dX1_sideOf_26 : decode mX1_sideOf.2.1 26 = .ok (.ireturn, 1) := by decide +kernel
theorem dX1_sideOf_27 : decode mX1_sideOf.2.1 27 = .ok (.iinc 2 1, 3) := by decide +kernel
theorem dX1_sideOf_30 : decode mX1_sideOf.2.1 30 = .ok (.goto (-28), 3) := by decide +kernel
theorem dX1_sideOf_33 : decode mX1_sideOf.2.1 33 = .ok (.iconst (-1), 1) := by decide +kernel
theorem dX1_sideOf_34 : decode mX1_sideOf.2.1 34 = .ok (.ireturn, 1) := by decide +kernel
theorem dX2_add_0 : decode mX2_add.2.1 0 = .ok (.aload_n 0, 1) := by decide +kernel
theorem dX2_add_1 : decode mX2_add.2.1 1 = .ok (.getfield 21, 3) := by decide +kernel
theorem dX2_add_4 : decode mX2_add.2.1 4 = .ok (.sipush 512, 3) := by decide +kernel
theorem dX2_add_7 : decode mX2_add.2.1 7 = .ok (.if_icmp .lt 4, 3) := by decide +kernel
theorem dX2_add_10 : decode mX2_add.2.1 10 = .ok (.return_, 1) := by decide +kernel
theorem dX2_add_11 : decode mX2_add.2.1 11 = .ok (.aload_n 0, 1) := by decide +kernel
theorem dX2_add_12 : decode mX2_add.2.1 12 = .ok (.getfield 9, 3) := by decide +kernel
theorem dX2_add_15 : decode mX2_add.2.1 15 = .ok (.aload_n 0, 1) := by decide +kernel
theorem dX2_add_16 : decode mX2_add.2.1 16 = .ok (.getfield 21, 3) := by decide +kernel
theorem dX2_add_19 : decode mX2_add.2.1 19 = .ok (.iload_n 1, 1) := by decide +kernel
theorem dX2_add_20 : decode mX2_add.2.1 20 = .ok (.iastore, 1) := by decide +kernel
theorem dX2_add_21 : decode mX2_add.2.1 21 = .ok (.aload_n 0, 1) := by decide +kernel
theorem dX2_add_22 : decode mX2_add.2.1 22 = .ok (.getfield 15, 3) := by decide +kernel
theorem dX2_add_25 : decode mX2_add.2.1 25 = .ok (.aload_n 0, 1) := by decide +kernel
theorem dX2_add_26 : decode mX2_add.2.1 26 = .ok (.getfield 21, 3) := by decide +kernel
theorem dX2_add_29 : decode mX2_add.2.1 29 = .ok (.iload_n 2, 1) := by decide +kernel
theorem dX2_add_30 : decode mX2_add.2.1 30 = .ok (.iastore, 1) := by decide +kernel
theorem dX2_add_31 : decode mX2_add.2.1 31 = .ok (.aload_n 0, 1) := by decide +kernel
theorem dX2_add_32 : decode mX2_add.2.1 32 = .ok (.getfield 18, 3) := by decide +kernel
theorem dX2_add_35 : decode mX2_add.2.1 35 = .ok (.aload_n 0, 1) := by decide +kernel
theorem dX2_add_36 : decode mX2_add.2.1 36 = .ok (.getfield 21, 3) := by decide +kernel
theorem dX2_add_39 : decode mX2_add.2.1 39 = .ok (.iload_n 3, 1) := by decide +kernel
theorem dX2_add_40 : decode mX2_add.2.1 40 = .ok (.iastore, 1) := by decide +kernel
theorem dX2_add_41 : decode mX2_add.2.1 41 = .ok (.aload_n 0, 1) := by decide +kernel
theorem dX2_add_42 : decode mX2_add.2.1 42 = .ok (.dup, 1) := by decide +kernel
theorem dX2_add_43 : decode mX2_add.2.1 43 = .ok (.getfield 21, 3) := by decide +kernel
theorem dX2_add_46 : decode mX2_add.2.1 46 = .ok (.iconst 1, 1) := by decide +kernel
theorem dX2_add_47 : decode mX2_add.2.1 47 = .ok (.iadd, 1) := by decide +kernel
theorem dX2_add_48 : decode mX2_add.2.1 48 = .ok (.putfield 21, 3) := by decide +kernel
theorem dX2_add_51 : decode mX2_add.2.1 51 = .ok (.return_, 1) := by decide +kernel
theorem dX2_init_0 : decode mX2_init.2.1 0 = .ok (.aload_n 0, 1) := by decide +kernel
theorem dX2_init_1 : decode mX2_init.2.1 1 = .ok (.invokespecial 3, 3) := by decide +kernel
theorem dX2_init_4 : decode mX2_init.2.1 4 = .ok (.aload_n 0, 1) := by decide +kernel
theorem dX2_init_5 : decode mX2_init.2.1 5 = .ok (.sipush 512, 3) := by decide +kernel
theorem dX2_init_8 : decode mX2_init.2.1 8 = .ok (.newarray .int, 2) := by decide +kernel
theorem dX2_init_10 : decode mX2_init.2.1 10 = .ok (.putfield 9, 3) := by decide +kernel
theorem dX2_init_13 : decode mX2_init.2.1 13 = .ok (.aload_n 0, 1) := by decide +kernel
theorem dX2_init_14 : decode mX2_init.2.1 14 = .ok (.sipush 512, 3) := by decide +kernel
theorem dX2_init_17 : decode mX2_init.2.1 17 = .ok (.newarray .int, 2) := by decide +kernel
theorem dX2_init_19 : decode mX2_init.2.1 19 = .ok (.putfield 15, 3) := by decide +kernel
theorem dX2_init_22 : decode mX2_init.2.1 22 = .ok (.aload_n 0, 1) := by decide +kernel
theorem dX2_init_23 : decode mX2_init.2.1 23 = .ok (.sipush 512, 3) := by decide +kernel
theorem dX2_init_26 : decode mX2_init.2.1 26 = .ok (.newarray .int, 2) := by decide +kernel
theorem dX2_init_28 : decode mX2_init.2.1 28 = .ok (.putfield 18, 3) := by decide +kernel
theorem dX2_init_31 : decode mX2_init.2.1 31 = .ok (.aload_n 0, 1) := by decide +kernel
theorem dX2_init_32 : decode mX2_init.2.1 32 = .ok (.iconst 0, 1) := by decide +kernel
theorem dX2_init_33 : decode mX2_init.2.1 33 = .ok (.putfield 21, 3) := by decide +kernel
theorem dX2_init_36 : decode mX2_init.2.1 36 = .ok (.return_, 1) := by decide +kernel
theorem dX2_placeOf_0 : decode mX2_placeOf.2.1 0 = .ok (.aload_n 0, 1) := by decide +kernel
theorem dX2_placeOf_1 : decode mX2_placeOf.2.1 1 = .ok (.getfield 21, 3) := by decide +kernel
theorem dX2_placeOf_4 : decode mX2_placeOf.2.1 4 = .ok (.iconst 1, 1) := by decide +kernel
theorem dX2_placeOf_5 : decode mX2_placeOf.2.1 5 = .ok (.isub, 1) := by decide +kernel
theorem dX2_placeOf_6 : decode mX2_placeOf.2.1 6 = .ok (.istore_n 3, 1) := by decide +kernel
theorem dX2_placeOf_7 : decode mX2_placeOf.2.1 7 = .ok (.iload_n 3, 1) := by decide +kernel
theorem dX2_placeOf_8 : decode mX2_placeOf.2.1 8 = .ok (.ifCond .lt 43, 3) := by decide +kernel
theorem dX2_placeOf_11 : decode mX2_placeOf.2.1 11 = .ok (.iload_n 3, 1) := by decide +kernel
theorem dX2_placeOf_12 : decode mX2_placeOf.2.1 12 = .ok (.sipush 512, 3) := by decide +kernel
theorem dX2_placeOf_15 : decode mX2_placeOf.2.1 15 = .ok (.if_icmp .ge 30, 3) := by decide +kernel
theorem dX2_placeOf_18 : decode mX2_placeOf.2.1 18 = .ok (.aload_n 0, 1) := by decide +kernel
theorem dX2_placeOf_19 : decode mX2_placeOf.2.1 19 = .ok (.getfield 9, 3) := by decide +kernel
theorem dX2_placeOf_22 : decode mX2_placeOf.2.1 22 = .ok (.iload_n 3, 1) := by decide +kernel
theorem dX2_placeOf_23 : decode mX2_placeOf.2.1 23 = .ok (.iaload, 1) := by decide +kernel
theorem dX2_placeOf_24 : decode mX2_placeOf.2.1 24 = .ok (.iload_n 1, 1) := by decide +kernel
theorem dX2_placeOf_25 : decode mX2_placeOf.2.1 25 = .ok (.if_icmp .ne 20, 3) := by decide +kernel
theorem dX2_placeOf_28 : decode mX2_placeOf.2.1 28 = .ok (.aload_n 0, 1) := by decide +kernel
theorem dX2_placeOf_29 : decode mX2_placeOf.2.1 29 = .ok (.getfield 15, 3) := by decide +kernel
theorem dX2_placeOf_32 : decode mX2_placeOf.2.1 32 = .ok (.iload_n 3, 1) := by decide +kernel
theorem dX2_placeOf_33 : decode mX2_placeOf.2.1 33 = .ok (.iaload, 1) := by decide +kernel
theorem dX2_placeOf_34 : decode mX2_placeOf.2.1 34 = .ok (.iload_n 2, 1) := by decide +kernel
theorem dX2_placeOf_35 : decode mX2_placeOf.2.1 35 = .ok (.if_icmp .gt 10, 3) := by decide +kernel
theorem dX2_placeOf_38 : decode mX2_placeOf.2.1 38 = .ok (.aload_n 0, 1) := by decide +kernel
theorem dX2_placeOf_39 : decode mX2_placeOf.2.1 39 = .ok (.getfield 18, 3) := by decide +kernel
theorem dX2_placeOf_42 : decode mX2_placeOf.2.1 42 = .ok (.iload_n 3, 1) := by decide +kernel
theorem dX2_placeOf_43 : decode mX2_placeOf.2.1 43 = .ok (.iaload, 1) := by decide +kernel
theorem dX2_placeOf_44 : decode mX2_placeOf.2.1 44 = .ok (.ireturn, 1) := by decide +kernel
theorem dX2_placeOf_45 : decode mX2_placeOf.2.1 45 = .ok (.iinc 3 (-1), 3) := by decide +kernel
theorem dX2_placeOf_48 : decode mX2_placeOf.2.1 48 = .ok (.goto (-41), 3) := by decide +kernel
theorem dX2_placeOf_51 : decode mX2_placeOf.2.1 51 = .ok (.iconst (-1), 1) := by decide +kernel
theorem dX2_placeOf_52 : decode mX2_placeOf.2.1 52 = .ok (.ireturn, 1) := by decide +kernel
theorem dX3_bear_0 : decode mX3_bear.2.1 0 = .ok (.iload_n 1, 1) := by decide +kernel
theorem dX3_bear_1 : decode mX3_bear.2.1 1 = .ok (.ifCond .ne 16, 3) := by decide +kernel
theorem dX3_bear_4 : decode mX3_bear.2.1 4 = .ok (.aload_n 0, 1) := by decide +kernel
theorem dX3_bear_5 : decode mX3_bear.2.1 5 = .ok (.dup, 1) := by decide +kernel
theorem dX3_bear_6 : decode mX3_bear.2.1 6 = .ok (.getfield 22, 3) := by decide +kernel
theorem dX3_bear_9 : decode mX3_bear.2.1 9 = .ok (.iload_n 3, 1) := by decide +kernel
theorem dX3_bear_10 : decode mX3_bear.2.1 10 = .ok (.iadd, 1) := by decide +kernel
theorem dX3_bear_11 : decode mX3_bear.2.1 11 = .ok (.putfield 22, 3) := by decide +kernel
theorem dX3_bear_14 : decode mX3_bear.2.1 14 = .ok (.goto 31, 3) := by decide +kernel
theorem dX3_bear_17 : decode mX3_bear.2.1 17 = .ok (.iload_n 1, 1) := by decide +kernel
theorem dX3_bear_18 : decode mX3_bear.2.1 18 = .ok (.iconst 1, 1) := by decide +kernel
theorem dX3_bear_19 : decode mX3_bear.2.1 19 = .ok (.if_icmp .ne 16, 3) := by decide +kernel
theorem dX3_bear_22 : decode mX3_bear.2.1 22 = .ok (.aload_n 0, 1) := by decide +kernel
theorem dX3_bear_23 : decode mX3_bear.2.1 23 = .ok (.dup, 1) := by decide +kernel
theorem dX3_bear_24 : decode mX3_bear.2.1 24 = .ok (.getfield 25, 3) := by decide +kernel
theorem dX3_bear_27 : decode mX3_bear.2.1 27 = .ok (.iload_n 3, 1) := by decide +kernel
theorem dX3_bear_28 : decode mX3_bear.2.1 28 = .ok (.iadd, 1) := by decide +kernel
theorem dX3_bear_29 : decode mX3_bear.2.1 29 = .ok (.putfield 25, 3) := by decide +kernel
theorem dX3_bear_32 : decode mX3_bear.2.1 32 = .ok (.goto 13, 3) := by decide +kernel
theorem dX3_bear_35 : decode mX3_bear.2.1 35 = .ok (.aload_n 0, 1) := by decide +kernel
theorem dX3_bear_36 : decode mX3_bear.2.1 36 = .ok (.iload_n 2, 1) := by decide +kernel
theorem dX3_bear_37 : decode mX3_bear.2.1 37 = .ok (.putfield 28, 3) := by decide +kernel
theorem dX3_bear_40 : decode mX3_bear.2.1 40 = .ok (.aload_n 0, 1) := by decide +kernel
theorem dX3_bear_41 : decode mX3_bear.2.1 41 = .ok (.iload_n 3, 1) := by decide +kernel
theorem dX3_bear_42 : decode mX3_bear.2.1 42 = .ok (.putfield 31, 3) := by decide +kernel
theorem dX3_bear_45 : decode mX3_bear.2.1 45 = .ok (.return_, 1) := by decide +kernel
theorem dX3_init_0 : decode mX3_init.2.1 0 = .ok (.aload_n 0, 1) := by decide +kernel
theorem dX3_init_1 : decode mX3_init.2.1 1 = .ok (.invokespecial 3, 3) := by decide +kernel
theorem dX3_init_4 : decode mX3_init.2.1 4 = .ok (.aload_n 0, 1) := by decide +kernel
theorem dX3_init_5 : decode mX3_init.2.1 5 = .ok (.iconst 0, 1) := by decide +kernel
theorem dX3_init_6 : decode mX3_init.2.1 6 = .ok (.putfield 9, 3) := by decide +kernel
theorem dX3_init_9 : decode mX3_init.2.1 9 = .ok (.aload_n 0, 1) := by decide +kernel
theorem dX3_init_10 : decode mX3_init.2.1 10 = .ok (.iconst 0, 1) := by decide +kernel
theorem dX3_init_11 : decode mX3_init.2.1 11 = .ok (.putfield 15, 3) := by decide +kernel
theorem dX3_init_14 : decode mX3_init.2.1 14 = .ok (.aload_n 0, 1) := by decide +kernel
theorem dX3_init_15 : decode mX3_init.2.1 15 = .ok (.iconst (-1), 1) := by decide +kernel
theorem dX3_init_16 : decode mX3_init.2.1 16 = .ok (.putfield 19, 3) := by decide +kernel
theorem dX3_init_19 : decode mX3_init.2.1 19 = .ok (.aload_n 0, 1) := by decide +kernel
theorem dX3_init_20 : decode mX3_init.2.1 20 = .ok (.iconst 0, 1) := by decide +kernel
theorem dX3_init_21 : decode mX3_init.2.1 21 = .ok (.putfield 22, 3) := by decide +kernel
theorem dX3_init_24 : decode mX3_init.2.1 24 = .ok (.aload_n 0, 1) := by decide +kernel
theorem dX3_init_25 : decode mX3_init.2.1 25 = .ok (.iconst 0, 1) := by decide +kernel
theorem dX3_init_26 : decode mX3_init.2.1 26 = .ok (.putfield 25, 3) := by decide +kernel
theorem dX3_init_29 : decode mX3_init.2.1 29 = .ok (.aload_n 0, 1) := by decide +kernel
theorem dX3_init_30 : decode mX3_init.2.1 30 = .ok (.iconst (-1), 1) := by decide +kernel
theorem dX3_init_31 : decode mX3_init.2.1 31 = .ok (.putfield 28, 3) := by decide +kernel
theorem dX3_init_34 : decode mX3_init.2.1 34 = .ok (.aload_n 0, 1) := by decide +kernel
theorem dX3_init_35 : decode mX3_init.2.1 35 = .ok (.iconst 0, 1) := by decide +kernel
theorem dX3_init_36 : decode mX3_init.2.1 36 = .ok (.putfield 31, 3) := by decide +kernel
theorem dX3_init_39 : decode mX3_init.2.1 39 = .ok (.aload_n 0, 1) := by decide +kernel
theorem dX3_init_40 : decode mX3_init.2.1 40 = .ok (.iload_n 1, 1) := by decide +kernel
theorem dX3_init_41 : decode mX3_init.2.1 41 = .ok (.putfield 34, 3) := by decide +kernel
theorem dX3_init_44 : decode mX3_init.2.1 44 = .ok (.return_, 1) := by decide +kernel
theorem dX3_isFit_0 : decode mX3_isFit.2.1 0 = .ok (.aload_n 0, 1) := by decide +kernel
theorem dX3_isFit_1 : decode mX3_isFit.2.1 1 = .ok (.getfield 22, 3) := by decide +kernel
theorem dX3_isFit_4 : decode mX3_isFit.2.1 4 = .ok (.aload_n 0, 1) := by decide +kernel
theorem dX3_isFit_5 : decode mX3_isFit.2.1 5 = .ok (.getfield 25, 3) := by decide +kernel
theorem dX3_isFit_8 : decode mX3_isFit.2.1 8 = .ok (.isub, 1) := by decide +kernel
theorem dX3_isFit_9 : decode mX3_isFit.2.1 9 = .ok (.invokestatic 37, 3) := by decide +kernel
theorem dX3_isFit_12 : decode mX3_isFit.2.1 12 = .ok (.bipush 10, 2) := by decide +kernel
theorem dX3_isFit_14 : decode mX3_isFit.2.1 14 = .ok (.if_icmp .gt 21, 3) := by decide +kernel
theorem dX3_isFit_17 : decode mX3_isFit.2.1 17 = .ok (.aload_n 0, 1) := by decide +kernel
theorem dX3_isFit_18 : decode mX3_isFit.2.1 18 = .ok (.getfield 15, 3) := by decide +kernel
theorem dX3_isFit_21 : decode mX3_isFit.2.1 21 = .ok (.ifCond .eq 10, 3) := by decide +kernel
theorem dX3_isFit_24 : decode mX3_isFit.2.1 24 = .ok (.aload_n 0, 1) := by decide +kernel
theorem dX3_isFit_25 : decode mX3_isFit.2.1 25 = .ok (.invokevirtual 43, 3) := by decide +kernel
theorem dX3_isFit_28 : decode mX3_isFit.2.1 28 = .ok (.ifCond .ne 7, 3) := by decide +kernel
theorem dX3_isFit_31 : decode mX3_isFit.2.1 31 = .ok (.iconst 1, 1) := by decide +kernel
theorem dX3_isFit_32 : decode mX3_isFit.2.1 32 = .ok (.goto 4, 3) := by decide +kernel
theorem dX3_isFit_35 : decode mX3_isFit.2.1 35 = .ok (.iconst 0, 1) := by decide +kernel
theorem dX3_isFit_36 : decode mX3_isFit.2.1 36 = .ok (.ireturn, 1) := by decide +kernel
theorem dX3_load_0 : decode mX3_load.2.1 0 = .ok (.aload_n 0, 1) := by decide +kernel
theorem dX3_load_1 : decode mX3_load.2.1 1 = .ok (.getfield 22, 3) := by decide +kernel
theorem dX3_load_4 : decode mX3_load.2.1 4 = .ok (.aload_n 0, 1) := by decide +kernel
theorem dX3_load_5 : decode mX3_load.2.1 5 = .ok (.getfield 25, 3) := by decide +kernel
theorem dX3_load_8 : decode mX3_load.2.1 8 = .ok (.iadd, 1) := by decide +kernel
theorem dX3_load_9 : decode mX3_load.2.1 9 = .ok (.aload_n 0, 1) := by decide +kernel
theorem dX3_load_10 : decode mX3_load.2.1 10 = .ok (.getfield 31, 3) := by decide +kernel
theorem dX3_load_13 : decode mX3_load.2.1 13 = .ok (.iadd, 1) := by decide +kernel
theorem dX3_load_14 : decode mX3_load.2.1 14 = .ok (.ireturn, 1) := by decide +kernel
theorem dX3_rest_0 : decode mX3_rest.2.1 0 = .ok (.aload_n 0, 1) := by decide +kernel
theorem dX3_rest_1 : decode mX3_rest.2.1 1 = .ok (.iconst 0, 1) := by decide +kernel
theorem dX3_rest_2 : decode mX3_rest.2.1 2 = .ok (.aload_n 0, 1) := by decide +kernel
theorem dX3_rest_3 : decode mX3_rest.2.1 3 = .ok (.getfield 9, 3) := by decide +kernel
theorem dX3_rest_6 : decode mX3_rest.2.1 6 = .ok (.iconst 5, 1) := by decide +kernel
theorem dX3_rest_7 : decode mX3_rest.2.1 7 = .ok (.isub, 1) := by decide +kernel
theorem dX3_rest_8 : decode mX3_rest.2.1 8 = .ok (.invokestatic 51, 3) := by decide +kernel
theorem dX3_rest_11 : decode mX3_rest.2.1 11 = .ok (.putfield 9, 3) := by decide +kernel
theorem dX3_rest_14 : decode mX3_rest.2.1 14 = .ok (.aload_n 0, 1) := by decide +kernel
theorem dX3_rest_15 : decode mX3_rest.2.1 15 = .ok (.getfield 9, 3) := by decide +kernel
theorem dX3_rest_18 : decode mX3_rest.2.1 18 = .ok (.ifCond .ne 8, 3) := by decide +kernel
theorem dX3_rest_21 : decode mX3_rest.2.1 21 = .ok (.aload_n 0, 1) := by decide +kernel
theorem dX3_rest_22 : decode mX3_rest.2.1 22 = .ok (.iconst 0, 1) := by decide +kernel
theorem dX3_rest_23 : decode mX3_rest.2.1 23 = .ok (.putfield 15, 3) := by decide +kernel
theorem dX3_rest_26 : decode mX3_rest.2.1 26 = .ok (.return_, 1) := by decide +kernel
theorem dX3_unload_0 : decode mX3_unload.2.1 0 = .ok (.iload_n 1, 1) := by decide +kernel
theorem dX3_unload_1 : decode mX3_unload.2.1 1 = .ok (.ifCond .ne 16, 3) := by decide +kernel
theorem dX3_unload_4 : decode mX3_unload.2.1 4 = .ok (.aload_n 0, 1) := by decide +kernel
theorem dX3_unload_5 : decode mX3_unload.2.1 5 = .ok (.dup, 1) := by decide +kernel
theorem dX3_unload_6 : decode mX3_unload.2.1 6 = .ok (.getfield 22, 3) := by decide +kernel
theorem dX3_unload_9 : decode mX3_unload.2.1 9 = .ok (.iload_n 2, 1) := by decide +kernel
theorem dX3_unload_10 : decode mX3_unload.2.1 10 = .ok (.isub, 1) := by decide +kernel
theorem dX3_unload_11 : decode mX3_unload.2.1 11 = .ok (.putfield 22, 3) := by decide +kernel
theorem dX3_unload_14 : decode mX3_unload.2.1 14 = .ok (.goto 31, 3) := by decide +kernel
theorem dX3_unload_17 : decode mX3_unload.2.1 17 = .ok (.iload_n 1, 1) := by decide +kernel
theorem dX3_unload_18 : decode mX3_unload.2.1 18 = .ok (.iconst 1, 1) := by decide +kernel
theorem dX3_unload_19 : decode mX3_unload.2.1 19 = .ok (.if_icmp .ne 16, 3) := by decide +kernel
theorem dX3_unload_22 : decode mX3_unload.2.1 22 = .ok (.aload_n 0, 1) := by decide +kernel
theorem dX3_unload_23 : decode mX3_unload.2.1 23 = .ok (.dup, 1) := by decide +kernel
theorem dX3_unload_24 : decode mX3_unload.2.1 24 = .ok (.getfield 25, 3) := by decide +kernel
theorem dX3_unload_27 : decode mX3_unload.2.1 27 = .ok (.iload_n 2, 1) := by decide +kernel
theorem dX3_unload_28 : decode mX3_unload.2.1 28 = .ok (.isub, 1) := by decide +kernel
theorem dX3_unload_29 : decode mX3_unload.2.1 29 = .ok (.putfield 25, 3) := by decide +kernel
theorem dX3_unload_32 : decode mX3_unload.2.1 32 = .ok (.goto 13, 3) := by decide +kernel
theorem dX3_unload_35 : decode mX3_unload.2.1 35 = .ok (.aload_n 0, 1) := by decide +kernel
theorem dX3_unload_36 : decode mX3_unload.2.1 36 = .ok (.iconst (-1), 1) := by decide +kernel
theorem dX3_unload_37 : decode mX3_unload.2.1 37 = .ok (.putfield 28, 3) := by decide +kernel
theorem dX3_unload_40 : decode mX3_unload.2.1 40 = .ok (.aload_n 0, 1) := by decide +kernel
theorem dX3_unload_41 : decode mX3_unload.2.1 41 = .ok (.iconst 0, 1) := by decide +kernel
theorem dX3_unload_42 : decode mX3_unload.2.1 42 = .ok (.putfield 31, 3) := by decide +kernel
theorem dX3_unload_45 : decode mX3_unload.2.1 45 = .ok (.return_, 1) := by decide +kernel
theorem dX3_walk_0 : decode mX3_walk.2.1 0 = .ok (.aload_n 0, 1) := by decide +kernel
theorem dX3_walk_1 : decode mX3_walk.2.1 1 = .ok (.getfield 15, 3) := by decide +kernel
theorem dX3_walk_4 : decode mX3_walk.2.1 4 = .ok (.ifCond .eq 4, 3) := by decide +kernel
theorem dX3_walk_7 : decode mX3_walk.2.1 7 = .ok (.return_, 1) := by decide +kernel
theorem dX3_walk_8 : decode mX3_walk.2.1 8 = .ok (.aload_n 0, 1) := by decide +kernel
theorem dX3_walk_9 : decode mX3_walk.2.1 9 = .ok (.bipush 100, 2) := by decide +kernel
theorem dX3_walk_11 : decode mX3_walk.2.1 11 = .ok (.aload_n 0, 1) := by decide +kernel
theorem dX3_walk_12 : decode mX3_walk.2.1 12 = .ok (.getfield 9, 3) := by decide +kernel
theorem dX3_walk_15 : decode mX3_walk.2.1 15 = .ok (.iconst 2, 1) := by decide +kernel
theorem dX3_walk_16 : decode mX3_walk.2.1 16 = .ok (.iadd, 1) := by decide +kernel
theorem dX3_walk_17 : decode mX3_walk.2.1 17 = .ok (.aload_n 0, 1) := by decide +kernel
theorem dX3_walk_18 : decode mX3_walk.2.1 18 = .ok (.invokevirtual 43, 3) := by decide +kernel
theorem dX3_walk_21 : decode mX3_walk.2.1 21 = .ok (.iload_n 1, 1) := by decide +kernel
theorem dX3_walk_22 : decode mX3_walk.2.1 22 = .ok (.imul, 1) := by decide +kernel
theorem dX3_walk_23 : decode mX3_walk.2.1 23 = .ok (.bipush 100, 2) := by decide +kernel
theorem dX3_walk_25 : decode mX3_walk.2.1 25 = .ok (.idiv, 1) := by decide +kernel
theorem dX3_walk_26 : decode mX3_walk.2.1 26 = .ok (.iadd, 1) := by decide +kernel
theorem dX3_walk_27 : decode mX3_walk.2.1 27 = .ok (.invokestatic 47, 3) := by decide +kernel
theorem dX3_walk_30 : decode mX3_walk.2.1 30 = .ok (.putfield 9, 3) := by decide +kernel
theorem dX3_walk_33 : decode mX3_walk.2.1 33 = .ok (.aload_n 0, 1) := by decide +kernel
theorem dX3_walk_34 : decode mX3_walk.2.1 34 = .ok (.getfield 9, 3) := by decide +kernel
theorem dX3_walk_37 : decode mX3_walk.2.1 37 = .ok (.bipush 100, 2) := by decide +kernel
theorem dX3_walk_39 : decode mX3_walk.2.1 39 = .ok (.if_icmp .ne 13, 3) := by decide +kernel
theorem dX3_walk_42 : decode mX3_walk.2.1 42 = .ok (.aload_n 0, 1) := by decide +kernel
theorem dX3_walk_43 : decode mX3_walk.2.1 43 = .ok (.iconst 1, 1) := by decide +kernel
theorem dX3_walk_44 : decode mX3_walk.2.1 44 = .ok (.putfield 15, 3) := by decide +kernel
theorem dX3_walk_47 : decode mX3_walk.2.1 47 = .ok (.aload_n 0, 1) := by decide +kernel
theorem dX3_walk_48 : decode mX3_walk.2.1 48 = .ok (.iload_n 2, 1) := by decide +kernel
theorem dX3_walk_49 : decode mX3_walk.2.1 49 = .ok (.putfield 19, 3) := by decide +kernel
theorem dX3_walk_52 : decode mX3_walk.2.1 52 = .ok (.return_, 1) := by decide +kernel
theorem dX4_deliver_0 : decode mX4_deliver.2.1 0 = .ok (.aload_n 0, 1) := by decide +kernel
theorem dX4_deliver_1 : decode mX4_deliver.2.1 1 = .ok (.iconst 2, 1) := by decide +kernel
theorem dX4_deliver_2 : decode mX4_deliver.2.1 2 = .ok (.putfield 9, 3) := by decide +kernel
theorem dX4_deliver_5 : decode mX4_deliver.2.1 5 = .ok (.aload_n 0, 1) := by decide +kernel
theorem dX4_deliver_6 : decode mX4_deliver.2.1 6 = .ok (.iload_n 1, 1) := by decide +kernel
theorem dX4_deliver_7 : decode mX4_deliver.2.1 7 = .ok (.putfield 24, 3) := by decide +kernel
theorem dX4_deliver_10 : decode mX4_deliver.2.1 10 = .ok (.return_, 1) := by decide +kernel
theorem dX4_init_0 : decode mX4_init.2.1 0 = .ok (.aload_n 0, 1) := by decide +kernel
theorem dX4_init_1 : decode mX4_init.2.1 1 = .ok (.invokespecial 3, 3) := by decide +kernel
theorem dX4_init_4 : decode mX4_init.2.1 4 = .ok (.aload_n 0, 1) := by decide +kernel
theorem dX4_init_5 : decode mX4_init.2.1 5 = .ok (.iconst 0, 1) := by decide +kernel
theorem dX4_init_6 : decode mX4_init.2.1 6 = .ok (.putfield 9, 3) := by decide +kernel
theorem dX4_init_9 : decode mX4_init.2.1 9 = .ok (.aload_n 0, 1) := by decide +kernel
theorem dX4_init_10 : decode mX4_init.2.1 10 = .ok (.iconst (-1), 1) := by decide +kernel
theorem dX4_init_11 : decode mX4_init.2.1 11 = .ok (.putfield 15, 3) := by decide +kernel
theorem dX4_init_14 : decode mX4_init.2.1 14 = .ok (.aload_n 0, 1) := by decide +kernel
theorem dX4_init_15 : decode mX4_init.2.1 15 = .ok (.iconst (-1), 1) := by decide +kernel
theorem dX4_init_16 : decode mX4_init.2.1 16 = .ok (.putfield 18, 3) := by decide +kernel
theorem dX4_init_19 : decode mX4_init.2.1 19 = .ok (.aload_n 0, 1) := by decide +kernel
theorem dX4_init_20 : decode mX4_init.2.1 20 = .ok (.iconst 0, 1) := by decide +kernel
theorem dX4_init_21 : decode mX4_init.2.1 21 = .ok (.putfield 21, 3) := by decide +kernel
theorem dX4_init_24 : decode mX4_init.2.1 24 = .ok (.aload_n 0, 1) := by decide +kernel
theorem dX4_init_25 : decode mX4_init.2.1 25 = .ok (.iconst 0, 1) := by decide +kernel
theorem dX4_init_26 : decode mX4_init.2.1 26 = .ok (.putfield 24, 3) := by decide +kernel
theorem dX4_init_29 : decode mX4_init.2.1 29 = .ok (.aload_n 0, 1) := by decide +kernel
theorem dX4_init_30 : decode mX4_init.2.1 30 = .ok (.iload_n 1, 1) := by decide +kernel
theorem dX4_init_31 : decode mX4_init.2.1 31 = .ok (.putfield 27, 3) := by decide +kernel
theorem dX4_init_34 : decode mX4_init.2.1 34 = .ok (.aload_n 0, 1) := by decide +kernel
theorem dX4_init_35 : decode mX4_init.2.1 35 = .ok (.iload_n 2, 1) := by decide +kernel
theorem dX4_init_36 : decode mX4_init.2.1 36 = .ok (.putfield 30, 3) := by decide +kernel
theorem dX4_init_39 : decode mX4_init.2.1 39 = .ok (.aload_n 0, 1) := by decide +kernel
theorem dX4_init_40 : decode mX4_init.2.1 40 = .ok (.iload_n 3, 1) := by decide +kernel
theorem dX4_init_41 : decode mX4_init.2.1 41 = .ok (.putfield 33, 3) := by decide +kernel
theorem dX4_init_44 : decode mX4_init.2.1 44 = .ok (.aload_n 0, 1) := by decide +kernel
theorem dX4_init_45 : decode mX4_init.2.1 45 = .ok (.iload 4, 2) := by decide +kernel
theorem dX4_init_47 : decode mX4_init.2.1 47 = .ok (.putfield 36, 3) := by decide +kernel
theorem dX4_init_50 : decode mX4_init.2.1 50 = .ok (.aload_n 0, 1) := by decide +kernel
theorem dX4_init_51 : decode mX4_init.2.1 51 = .ok (.iload 5, 2) := by decide +kernel
theorem dX4_init_53 : decode mX4_init.2.1 53 = .ok (.putfield 39, 3) := by decide +kernel
theorem dX4_init_56 : decode mX4_init.2.1 56 = .ok (.return_, 1) := by decide +kernel
theorem dX4_liftOnto_0 : decode mX4_liftOnto.2.1 0 = .ok (.aload_n 0, 1) := by decide +kernel
theorem dX4_liftOnto_1 : decode mX4_liftOnto.2.1 1 = .ok (.iconst 1, 1) := by decide +kernel
theorem dX4_liftOnto_2 : decode mX4_liftOnto.2.1 2 = .ok (.putfield 9, 3) := by decide +kernel
theorem dX4_liftOnto_5 : decode mX4_liftOnto.2.1 5 = .ok (.aload_n 0, 1) := by decide +kernel
theorem dX4_liftOnto_6 : decode mX4_liftOnto.2.1 6 = .ok (.iload_n 1, 1) := by decide +kernel
theorem dX4_liftOnto_7 : decode mX4_liftOnto.2.1 7 = .ok (.putfield 33, 3) := by decide +kernel
theorem dX4_liftOnto_10 : decode mX4_liftOnto.2.1 10 = .ok (.aload_n 0, 1) := by decide +kernel
theorem dX4_liftOnto_11 : decode mX4_liftOnto.2.1 11 = .ok (.iload_n 2, 1) := by decide +kernel
theorem dX4_liftOnto_12 : decode mX4_liftOnto.2.1 12 = .ok (.putfield 15, 3) := by decide +kernel
theorem dX4_liftOnto_15 : decode mX4_liftOnto.2.1 15 = .ok (.aload_n 0, 1) := by decide +kernel
theorem dX4_liftOnto_16 : decode mX4_liftOnto.2.1 16 = .ok (.iload_n 3, 1) := by decide +kernel
theorem dX4_liftOnto_17 : decode mX4_liftOnto.2.1 17 = .ok (.putfield 18, 3) := by decide +kernel
theorem dX4_liftOnto_20 : decode mX4_liftOnto.2.1 20 = .ok (.return_, 1) := by decide +kernel
theorem dX4_nextLeg_0 : decode mX4_nextLeg.2.1 0 = .ok (.iload_n 1, 1) := by decide +kernel
theorem dX4_nextLeg_1 : decode mX4_nextLeg.2.1 1 = .ok (.iconst (-1), 1) := by decide +kernel
theorem dX4_nextLeg_2 : decode mX4_nextLeg.2.1 2 = .ok (.if_icmp .eq 11, 3) := by decide +kernel
theorem dX4_nextLeg_5 : decode mX4_nextLeg.2.1 5 = .ok (.iload_n 1, 1) := by decide +kernel
theorem dX4_nextLeg_6 : decode mX4_nextLeg.2.1 6 = .ok (.aload_n 0, 1) := by decide +kernel
theorem dX4_nextLeg_7 : decode mX4_nextLeg.2.1 7 = .ok (.getfield 36, 3) := by decide +kernel
theorem dX4_nextLeg_10 : decode mX4_nextLeg.2.1 10 = .ok (.if_icmp .ne 5, 3) := by decide +kernel
theorem dX4_nextLeg_13 : decode mX4_nextLeg.2.1 13 = .ok (.iconst (-1), 1) := by decide +kernel
theorem dX4_nextLeg_14 : decode mX4_nextLeg.2.1 14 = .ok (.ireturn, 1) := by decide +kernel
theorem dX4_nextLeg_15 : decode mX4_nextLeg.2.1 15 = .ok (.iload_n 1, 1) := by decide +kernel
theorem dX4_nextLeg_16 : decode mX4_nextLeg.2.1 16 = .ok (.aload_n 0, 1) := by decide +kernel
theorem dX4_nextLeg_17 : decode mX4_nextLeg.2.1 17 = .ok (.getfield 36, 3) := by decide +kernel
theorem dX4_nextLeg_20 : decode mX4_nextLeg.2.1 20 = .ok (.if_icmp .ge 7, 3) := by decide +kernel
theorem dX4_nextLeg_23 : decode mX4_nextLeg.2.1 23 = .ok (.iload_n 1, 1) := by decide +kernel
theorem dX4_nextLeg_24 : decode mX4_nextLeg.2.1 24 = .ok (.goto 6, 3) := by decide +kernel
theorem dX4_nextLeg_27 : decode mX4_nextLeg.2.1 27 = .ok (.iload_n 1, 1) := by decide +kernel
theorem dX4_nextLeg_28 : decode mX4_nextLeg.2.1 28 = .ok (.iconst 1, 1) := by decide +kernel
theorem dX4_nextLeg_29 : decode mX4_nextLeg.2.1 29 = .ok (.isub, 1) := by decide +kernel
theorem dX4_nextLeg_30 : decode mX4_nextLeg.2.1 30 = .ok (.ireturn, 1) := by decide +kernel
theorem dX4_putAt_0 : decode mX4_putAt.2.1 0 = .ok (.aload_n 0, 1) := by decide +kernel
theorem dX4_putAt_1 : decode mX4_putAt.2.1 1 = .ok (.iconst 0, 1) := by decide +kernel
theorem dX4_putAt_2 : decode mX4_putAt.2.1 2 = .ok (.putfield 9, 3) := by decide +kernel
theorem dX4_putAt_5 : decode mX4_putAt.2.1 5 = .ok (.aload_n 0, 1) := by decide +kernel
theorem dX4_putAt_6 : decode mX4_putAt.2.1 6 = .ok (.iload_n 1, 1) := by decide +kernel
theorem dX4_putAt_7 : decode mX4_putAt.2.1 7 = .ok (.putfield 33, 3) := by decide +kernel
theorem dX4_putAt_10 : decode mX4_putAt.2.1 10 = .ok (.aload_n 0, 1) := by decide +kernel
theorem dX4_putAt_11 : decode mX4_putAt.2.1 11 = .ok (.iconst (-1), 1) := by decide +kernel
theorem dX4_putAt_12 : decode mX4_putAt.2.1 12 = .ok (.putfield 15, 3) := by decide +kernel
theorem dX4_putAt_15 : decode mX4_putAt.2.1 15 = .ok (.aload_n 0, 1) := by decide +kernel
theorem dX4_putAt_16 : decode mX4_putAt.2.1 16 = .ok (.iconst (-1), 1) := by decide +kernel
theorem dX4_putAt_17 : decode mX4_putAt.2.1 17 = .ok (.putfield 18, 3) := by decide +kernel
theorem dX4_putAt_20 : decode mX4_putAt.2.1 20 = .ok (.return_, 1) := by decide +kernel
theorem dX5_fail_0 : decode mX5_fail.2.1 0 = .ok (.aload_n 0, 1) := by decide +kernel
theorem dX5_fail_1 : decode mX5_fail.2.1 1 = .ok (.iload_n 1, 1) := by decide +kernel
theorem dX5_fail_2 : decode mX5_fail.2.1 2 = .ok (.putfield 21, 3) := by decide +kernel
theorem dX5_fail_5 : decode mX5_fail.2.1 5 = .ok (.aload_n 0, 1) := by decide +kernel
theorem dX5_fail_6 : decode mX5_fail.2.1 6 = .ok (.aload_n 0, 1) := by decide +kernel
theorem dX5_fail_7 : decode mX5_fail.2.1 7 = .ok (.getfield 9, 3) := by decide +kernel
theorem dX5_fail_10 : decode mX5_fail.2.1 10 = .ok (.ifCond .lt 28, 3) := by decide +kernel
theorem dX5_fail_13 : decode mX5_fail.2.1 13 = .ok (.aload_n 0, 1) := by decide +kernel
theorem dX5_fail_14 : decode mX5_fail.2.1 14 = .ok (.getfield 9, 3) := by decide +kernel
theorem dX5_fail_17 : decode mX5_fail.2.1 17 = .ok (.sipush 400, 3) := by decide +kernel
theorem dX5_fail_20 : decode mX5_fail.2.1 20 = .ok (.if_icmp .gt 18, 3) := by decide +kernel
theorem dX5_fail_23 : decode mX5_fail.2.1 23 = .ok (.aload_n 0, 1) := by decide +kernel
theorem dX5_fail_24 : decode mX5_fail.2.1 24 = .ok (.getfield 32, 3) := by decide +kernel
theorem dX5_fail_27 : decode mX5_fail.2.1 27 = .ok (.getfield 70, 3) := by decide +kernel
theorem dX5_fail_30 : decode mX5_fail.2.1 30 = .ok (.aload_n 0, 1) := by decide +kernel
theorem dX5_fail_31 : decode mX5_fail.2.1 31 = .ok (.getfield 9, 3) := by decide +kernel
theorem dX5_fail_34 : decode mX5_fail.2.1 34 = .ok (.iaload, 1) := by decide +kernel
theorem dX5_fail_35 : decode mX5_fail.2.1 35 = .ok (.goto 4, 3) := by decide +kernel
theorem dX5_fail_38 : decode mX5_fail.2.1 38 = .ok (.iconst (-1), 1) := by decide +kernel
theorem dX5_fail_39 : decode mX5_fail.2.1 39 = .ok (.putfield 24, 3) := by decide +kernel
theorem dX5_fail_42 : decode mX5_fail.2.1 42 = .ok (.iconst 0, 1) := by decide +kernel
theorem dX5_fail_43 : decode mX5_fail.2.1 43 = .ok (.ireturn, 1) := by decide +kernel
theorem dX5_init_0 : decode mX5_init.2.1 0 = .ok (.aload_n 0, 1) := by decide +kernel
theorem dX5_init_1 : decode mX5_init.2.1 1 = .ok (.invokespecial 3, 3) := by decide +kernel
theorem dX5_init_4 : decode mX5_init.2.1 4 = .ok (.aload_n 0, 1) := by decide +kernel
theorem dX5_init_5 : decode mX5_init.2.1 5 = .ok (.iconst 0, 1) := by decide +kernel
theorem dX5_init_6 : decode mX5_init.2.1 6 = .ok (.putfield 9, 3) := by decide +kernel
theorem dX5_init_9 : decode mX5_init.2.1 9 = .ok (.aload_n 0, 1) := by decide +kernel
theorem dX5_init_10 : decode mX5_init.2.1 10 = .ok (.iconst 0, 1) := by decide +kernel
theorem dX5_init_11 : decode mX5_init.2.1 11 = .ok (.putfield 15, 3) := by decide +kernel
theorem dX5_init_14 : decode mX5_init.2.1 14 = .ok (.aload_n 0, 1) := by decide +kernel
theorem dX5_init_15 : decode mX5_init.2.1 15 = .ok (.iconst 0, 1) := by decide +kernel
theorem dX5_init_16 : decode mX5_init.2.1 16 = .ok (.putfield 18, 3) := by decide +kernel
theorem dX5_init_19 : decode mX5_init.2.1 19 = .ok (.aload_n 0, 1) := by decide +kernel
theorem dX5_init_20 : decode mX5_init.2.1 20 = .ok (.iconst 0, 1) := by decide +kernel
theorem dX5_init_21 : decode mX5_init.2.1 21 = .ok (.putfield 21, 3) := by decide +kernel
theorem dX5_init_24 : decode mX5_init.2.1 24 = .ok (.aload_n 0, 1) := by decide +kernel
theorem dX5_init_25 : decode mX5_init.2.1 25 = .ok (.iconst (-1), 1) := by decide +kernel
theorem dX5_init_26 : decode mX5_init.2.1 26 = .ok (.putfield 24, 3) := by decide +kernel
theorem dX5_init_29 : decode mX5_init.2.1 29 = .ok (.aload_n 0, 1) := by decide +kernel
theorem dX5_init_30 : decode mX5_init.2.1 30 = .ok (.new 27, 3) := by decide +kernel
theorem dX5_init_33 : decode mX5_init.2.1 33 = .ok (.dup, 1) := by decide +kernel
theorem dX5_init_34 : decode mX5_init.2.1 34 = .ok (.aload_n 1, 1) := by decide +kernel
theorem dX5_init_35 : decode mX5_init.2.1 35 = .ok (.invokespecial 29, 3) := by decide +kernel
theorem dX5_init_38 : decode mX5_init.2.1 38 = .ok (.putfield 32, 3) := by decide +kernel
theorem dX5_init_41 : decode mX5_init.2.1 41 = .ok (.return_, 1) := by decide +kernel
theorem dX5_isTermAhead_0 : decode mX5_isTermAhead.2.1 0 = .ok (.aload_n 0, 1) := by decide +kernel
theorem dX5_isTermAhead_1 : decode mX5_isTermAhead.2.1 1 = .ok (.getfield 15, 3) := by decide +kernel
theorem dX5_isTermAhead_4 : decode mX5_isTermAhead.2.1 4 = .ok (.iconst 3, 1) := by decide +kernel
theorem dX5_isTermAhead_5 : decode mX5_isTermAhead.2.1 5 = .ok (.if_icmp .eq 11, 3) := by decide +kernel
theorem dX5_isTermAhead_8 : decode mX5_isTermAhead.2.1 8 = .ok (.aload_n 0, 1) := by decide +kernel
theorem dX5_isTermAhead_9 : decode mX5_isTermAhead.2.1 9 = .ok (.getfield 15, 3) := by decide +kernel
theorem dX5_isTermAhead_12 : decode mX5_isTermAhead.2.1 12 = .ok (.iconst 4, 1) := by decide +kernel
theorem dX5_isTermAhead_13 : decode mX5_isTermAhead.2.1 13 = .ok (.if_icmp .ne 7, 3) := by decide +kernel
theorem dX5_isTermAhead_16 : decode mX5_isTermAhead.2.1 16 = .ok (.iconst 1, 1) := by decide +kernel
theorem dX5_isTermAhead_17 : decode mX5_isTermAhead.2.1 17 = .ok (.goto 4, 3) := by decide +kernel
theorem dX5_isTermAhead_20 : decode mX5_isTermAhead.2.1 20 = .ok (.iconst 0, 1) := by decide +kernel
theorem dX5_isTermAhead_21 : decode mX5_isTermAhead.2.1 21 = .ok (.ireturn, 1) := by decide +kernel
theorem dX5_moveTo_0 : decode mX5_moveTo.2.1 0 = .ok (.iload_n 1, 1) := by decide +kernel
theorem dX5_moveTo_1 : decode mX5_moveTo.2.1 1 = .ok (.ifCond .lt 52, 3) := by decide +kernel
theorem dX5_moveTo_4 : decode mX5_moveTo.2.1 4 = .ok (.iload_n 1, 1) := by decide +kernel
theorem dX5_moveTo_5 : decode mX5_moveTo.2.1 5 = .ok (.aload_n 0, 1) := by decide +kernel
theorem dX5_moveTo_6 : decode mX5_moveTo.2.1 6 = .ok (.getfield 32, 3) := by decide +kernel
theorem dX5_moveTo_9 : decode mX5_moveTo.2.1 9 = .ok (.getfield 60, 3) := by decide +kernel
theorem dX5_moveTo_12 : decode mX5_moveTo.2.1 12 = .ok (.if_icmp .ge 41, 3) := by decide +kernel
theorem dX5_moveTo_15 : decode mX5_moveTo.2.1 15 = .ok (.iload_n 1, 1) := by decide +kernel
theorem dX5_moveTo_16 : decode mX5_moveTo.2.1 16 = .ok (.sipush 400, 3) := by decide +kernel
theorem dX5_moveTo_19 : decode mX5_moveTo.2.1 19 = .ok (.if_icmp .gt 34, 3) := by decide +kernel
theorem dX5_moveTo_22 : decode mX5_moveTo.2.1 22 = .ok (.aload_n 0, 1) := by decide +kernel
theorem dX5_moveTo_23 : decode mX5_moveTo.2.1 23 = .ok (.iload_n 1, 1) := by decide +kernel
theorem dX5_moveTo_24 : decode mX5_moveTo.2.1 24 = .ok (.putfield 9, 3) := by decide +kernel
theorem dX5_moveTo_27 : decode mX5_moveTo.2.1 27 = .ok (.aload_n 0, 1) := by decide +kernel
theorem dX5_moveTo_28 : decode mX5_moveTo.2.1 28 = .ok (.aload_n 0, 1) := by decide +kernel
theorem dX5_moveTo_29 : decode mX5_moveTo.2.1 29 = .ok (.getfield 32, 3) := by decide +kernel
theorem dX5_moveTo_32 : decode mX5_moveTo.2.1 32 = .ok (.getfield 63, 3) := by decide +kernel
theorem dX5_moveTo_35 : decode mX5_moveTo.2.1 35 = .ok (.iload_n 1, 1) := by decide +kernel
theorem dX5_moveTo_36 : decode mX5_moveTo.2.1 36 = .ok (.iaload, 1) := by decide +kernel
theorem dX5_moveTo_37 : decode mX5_moveTo.2.1 37 = .ok (.putfield 15, 3) := by decide +kernel
theorem dX5_moveTo_40 : decode mX5_moveTo.2.1 40 = .ok (.aload_n 0, 1) := by decide +kernel
theorem dX5_moveTo_41 : decode mX5_moveTo.2.1 41 = .ok (.aload_n 0, 1) := by decide +kernel
theorem dX5_moveTo_42 : decode mX5_moveTo.2.1 42 = .ok (.getfield 32, 3) := by decide +kernel
theorem dX5_moveTo_45 : decode mX5_moveTo.2.1 45 = .ok (.getfield 67, 3) := by decide +kernel
theorem dX5_moveTo_48 : decode mX5_moveTo.2.1 48 = .ok (.iload_n 1, 1) := by decide +kernel
theorem dX5_moveTo_49 : decode mX5_moveTo.2.1 49 = .ok (.iaload, 1) := by decide +kernel
theorem dX5_moveTo_50 : decode mX5_moveTo.2.1 50 = .ok (.putfield 18, 3) := by decide +kernel
theorem dX5_moveTo_53 : decode mX5_moveTo.2.1 53 = .ok (.return_, 1) := by decide +kernel
theorem dX5_readAmount_0 : decode mX5_readAmount.2.1 0 = .ok (.aload_n 0, 1) := by decide +kernel
theorem dX5_readAmount_1 : decode mX5_readAmount.2.1 1 = .ok (.getfield 15, 3) := by decide +kernel
theorem dX5_readAmount_4 : decode mX5_readAmount.2.1 4 = .ok (.bipush 9, 2) := by decide +kernel
theorem dX5_readAmount_6 : decode mX5_readAmount.2.1 6 = .ok (.if_icmp .ne 7, 3) := by decide +kernel
theorem dX5_readAmount_9 : decode mX5_readAmount.2.1 9 = .ok (.iconst 1, 1) := by decide +kernel
theorem dX5_readAmount_10 : decode mX5_readAmount.2.1 10 = .ok (.goto 4, 3) := by decide +kernel
theorem dX5_readAmount_13 : decode mX5_readAmount.2.1 13 = .ok (.iconst 0, 1) := by decide +kernel
theorem dX5_readAmount_14 : decode mX5_readAmount.2.1 14 = .ok (.istore_n 2, 1) := by decide +kernel
theorem dX5_readAmount_15 : decode mX5_readAmount.2.1 15 = .ok (.iload_n 2, 1) := by decide +kernel
theorem dX5_readAmount_16 : decode mX5_readAmount.2.1 16 = .ok (.ifCond .eq 13, 3) := by decide +kernel
theorem dX5_readAmount_19 : decode mX5_readAmount.2.1 19 = .ok (.aload_n 0, 1) := by decide +kernel
theorem dX5_readAmount_20 : decode mX5_readAmount.2.1 20 = .ok (.aload_n 0, 1) := by decide +kernel
theorem dX5_readAmount_21 : decode mX5_readAmount.2.1 21 = .ok (.getfield 9, 3) := by decide +kernel
theorem dX5_readAmount_24 : decode mX5_readAmount.2.1 24 = .ok (.iconst 1, 1) := by decide +kernel
theorem dX5_readAmount_25 : decode mX5_readAmount.2.1 25 = .ok (.iadd, 1) := by decide +kernel
theorem dX5_readAmount_26 : decode mX5_readAmount.2.1 26 = .ok (.invokevirtual 44, 3) := by decide +kernel
theorem dX5_readAmount_29 : decode mX5_readAmount.2.1 29 = .ok (.aload_n 1, 1) := by decide +kernel
theorem dX5_readAmount_30 : decode mX5_readAmount.2.1 30 = .ok (.iload_n 2, 1) := by decide +kernel
theorem dX5_readAmount_31 : decode mX5_readAmount.2.1 31 = .ok (.ifCond .eq 11, 3) := by decide +kernel
theorem dX5_readAmount_34 : decode mX5_readAmount.2.1 34 = .ok (.aload_n 0, 1) := by decide +kernel
theorem dX5_readAmount_35 : decode mX5_readAmount.2.1 35 = .ok (.getfield 18, 3) := by decide +kernel
theorem dX5_readAmount_38 : decode mX5_readAmount.2.1 38 = .ok (.ineg, 1) := by decide +kernel
theorem dX5_readAmount_39 : decode mX5_readAmount.2.1 39 = .ok (.goto 7, 3) := by decide +kernel
theorem dX5_readAmount_42 : decode mX5_readAmount.2.1 42 = .ok (.aload_n 0, 1) := by decide +kernel
theorem dX5_readAmount_43 : decode mX5_readAmount.2.1 43 = .ok (.getfield 18, 3) := by decide +kernel
theorem dX5_readAmount_46 : decode mX5_readAmount.2.1 46 = .ok (.invokevirtual 89, 3) := by decide +kernel
theorem dX5_readAmount_49 : decode mX5_readAmount.2.1 49 = .ok (.aload_n 0, 1) := by decide +kernel
theorem dX5_readAmount_50 : decode mX5_readAmount.2.1 50 = .ok (.iconst 2, 1) := by decide +kernel
theorem dX5_readAmount_51 : decode mX5_readAmount.2.1 51 = .ok (.invokevirtual 76, 3) := by decide +kernel
theorem dX5_readAmount_54 : decode mX5_readAmount.2.1 54 = .ok (.ifCond .eq 16, 3) := by decide +kernel
theorem dX5_readAmount_57 : decode mX5_readAmount.2.1 57 = .ok (.aload_n 0, 1) := by decide +kernel
theorem dX5_readAmount_58 : decode mX5_readAmount.2.1 58 = .ok (.bipush 8, 2) := by decide +kernel
theorem dX5_readAmount_60 : decode mX5_readAmount.2.1 60 = .ok (.invokevirtual 76, 3) := by decide +kernel
theorem dX5_readAmount_63 : decode mX5_readAmount.2.1 63 = .ok (.ifCond .eq 7, 3) := by decide +kernel
theorem dX5_readAmount_66 : decode mX5_readAmount.2.1 66 = .ok (.iconst 1, 1) := by decide +kernel
theorem dX5_readAmount_67 : decode mX5_readAmount.2.1 67 = .ok (.goto 4, 3) := by decide +kernel
theorem dX5_readAmount_70 : decode mX5_readAmount.2.1 70 = .ok (.iconst 0, 1) := by decide +kernel
theorem dX5_readAmount_71 : decode mX5_readAmount.2.1 71 = .ok (.ireturn, 1) := by decide +kernel
theorem dX5_readInto_0 : decode mX5_readInto.2.1 0 = .ok (.aload_n 0, 1) := by decide +kernel
theorem dX5_readInto_1 : decode mX5_readInto.2.1 1 = .ok (.iconst 0, 1) := by decide +kernel
theorem dX5_readInto_2 : decode mX5_readInto.2.1 2 = .ok (.putfield 21, 3) := by decide +kernel
theorem dX5_readInto_5 : decode mX5_readInto.2.1 5 = .ok (.aload_n 0, 1) := by decide +kernel
theorem dX5_readInto_6 : decode mX5_readInto.2.1 6 = .ok (.iconst (-1), 1) := by decide +kernel
theorem dX5_readInto_7 : decode mX5_readInto.2.1 7 = .ok (.putfield 24, 3) := by decide +kernel
theorem dX5_readInto_10 : decode mX5_readInto.2.1 10 = .ok (.aload_n 1, 1) := by decide +kernel
theorem dX5_readInto_11 : decode mX5_readInto.2.1 11 = .ok (.invokevirtual 36, 3) := by decide +kernel
theorem dX5_readInto_14 : decode mX5_readInto.2.1 14 = .ok (.aload_n 0, 1) := by decide +kernel
theorem dX5_readInto_15 : decode mX5_readInto.2.1 15 = .ok (.getfield 32, 3) := by decide +kernel
theorem dX5_readInto_18 : decode mX5_readInto.2.1 18 = .ok (.invokevirtual 41, 3) := by decide +kernel
theorem dX5_readInto_21 : decode mX5_readInto.2.1 21 = .ok (.aload_n 0, 1) := by decide +kernel
theorem dX5_readInto_22 : decode mX5_readInto.2.1 22 = .ok (.iconst 0, 1) := by decide +kernel
theorem dX5_readInto_23 : decode mX5_readInto.2.1 23 = .ok (.invokevirtual 44, 3) := by decide +kernel
theorem dX5_readInto_26 : decode mX5_readInto.2.1 26 = .ok (.iconst 1, 1) := by decide +kernel
theorem dX5_readInto_27 : decode mX5_readInto.2.1 27 = .ok (.istore_n 2, 1) := by decide +kernel
theorem dX5_readInto_28 : decode mX5_readInto.2.1 28 = .ok (.iconst 0, 1) := by decide +kernel
theorem dX5_readInto_29 : decode mX5_readInto.2.1 29 = .ok (.istore_n 3, 1) := by decide +kernel
theorem dX5_readInto_30 : decode mX5_readInto.2.1 30 = .ok (.iload_n 2, 1) := by decide +kernel
theorem dX5_readInto_31 : decode mX5_readInto.2.1 31 = .ok (.ifCond .eq 68, 3) := by decide +kernel
theorem dX5_readInto_34 : decode mX5_readInto.2.1 34 = .ok (.aload_n 0, 1) := by decide +kernel
theorem dX5_readInto_35 : decode mX5_readInto.2.1 35 = .ok (.getfield 15, 3) := by decide +kernel
theorem dX5_readInto_38 : decode mX5_readInto.2.1 38 = .ok (.ifCond .eq 61, 3) := by decide +kernel
theorem dX5_readInto_41 : decode mX5_readInto.2.1 41 = .ok (.iload_n 3, 1) := by decide +kernel
theorem dX5_readInto_42 : decode mX5_readInto.2.1 42 = .ok (.bipush 20, 2) := by decide +kernel
theorem dX5_readInto_44 : decode mX5_readInto.2.1 44 = .ok (.if_icmp .gt 55, 3) := by decide +kernel
theorem dX5_readInto_47 : decode mX5_readInto.2.1 47 = .ok (.aload_n 0, 1) := by decide +kernel
theorem dX5_readInto_48 : decode mX5_readInto.2.1 48 = .ok (.getfield 15, 3) := by decide +kernel
theorem dX5_readInto_51 : decode mX5_readInto.2.1 51 = .ok (.bipush 7, 2) := by decide +kernel
theorem dX5_readInto_53 : decode mX5_readInto.2.1 53 = .ok (.if_icmp .eq 19, 3) := by decide +kernel
theorem dX5_readInto_56 : decode mX5_readInto.2.1 56 = .ok (.aload_n 0, 1) := by decide +kernel
theorem dX5_readInto_57 : decode mX5_readInto.2.1 57 = .ok (.invokevirtual 48, 3) := by decide +kernel
theorem dX5_readInto_60 : decode mX5_readInto.2.1 60 = .ok (.ifCond .ne 12, 3) := by decide +kernel
theorem dX5_readInto_63 : decode mX5_readInto.2.1 63 = .ok (.aload_n 0, 1) := by decide +kernel
theorem dX5_readInto_64 : decode mX5_readInto.2.1 64 = .ok (.iconst 1, 1) := by decide +kernel
theorem dX5_readInto_65 : decode mX5_readInto.2.1 65 = .ok (.invokevirtual 52, 3) := by decide +kernel
theorem dX5_readInto_68 : decode mX5_readInto.2.1 68 = .ok (.istore_n 2, 1) := by decide +kernel
theorem dX5_readInto_69 : decode mX5_readInto.2.1 69 = .ok (.goto 24, 3) := by decide +kernel
theorem dX5_readInto_72 : decode mX5_readInto.2.1 72 = .ok (.iload_n 3, 1) := by decide +kernel
theorem dX5_readInto_73 : decode mX5_readInto.2.1 73 = .ok (.bipush 20, 2) := by decide +kernel
theorem dX5_readInto_75 : decode mX5_readInto.2.1 75 = .ok (.if_icmp .ne 12, 3) := by decide +kernel
theorem dX5_readInto_78 : decode mX5_readInto.2.1 78 = .ok (.aload_n 0, 1) := by decide +kernel
theorem dX5_readInto_79 : decode mX5_readInto.2.1 79 = .ok (.iconst 2, 1) := by decide +kernel
theorem dX5_readInto_80 : decode mX5_readInto.2.1 80 = .ok (.invokevirtual 52, 3) := by decide +kernel
theorem dX5_readInto_83 : decode mX5_readInto.2.1 83 = .ok (.istore_n 2, 1) := by decide +kernel
theorem dX5_readInto_84 : decode mX5_readInto.2.1 84 = .ok (.goto 9, 3) := by decide +kernel
theorem dX5_readInto_87 : decode mX5_readInto.2.1 87 = .ok (.aload_n 0, 1) := by decide +kernel
theorem dX5_readInto_88 : decode mX5_readInto.2.1 88 = .ok (.aload_n 1, 1) := by decide +kernel
theorem dX5_readInto_89 : decode mX5_readInto.2.1 89 = .ok (.invokevirtual 56, 3) := by decide +kernel
theorem dX5_readInto_92 : decode mX5_readInto.2.1 92 = .ok (.istore_n 2, 1) := by decide +kernel
theorem dX5_readInto_93 : decode mX5_readInto.2.1 93 = .ok (.iinc 3 1, 3) := by decide +kernel
theorem dX5_readInto_96 : decode mX5_readInto.2.1 96 = .ok (.goto (-66), 3) := by decide +kernel
theorem dX5_readInto_99 : decode mX5_readInto.2.1 99 = .ok (.aload_n 0, 1) := by decide +kernel
theorem dX5_readInto_100 : decode mX5_readInto.2.1 100 = .ok (.getfield 21, 3) := by decide +kernel
theorem dX5_readInto_103 : decode mX5_readInto.2.1 103 = .ok (.ireturn, 1) := by decide +kernel
theorem dX5_readRule_0 : decode mX5_readRule.2.1 0 = .ok (.aload_n 0, 1) := by decide +kernel
theorem dX5_readRule_1 : decode mX5_readRule.2.1 1 = .ok (.getfield 15, 3) := by decide +kernel
theorem dX5_readRule_4 : decode mX5_readRule.2.1 4 = .ok (.bipush 7, 2) := by decide +kernel
theorem dX5_readRule_6 : decode mX5_readRule.2.1 6 = .ok (.if_icmp .eq 13, 3) := by decide +kernel
theorem dX5_readRule_9 : decode mX5_readRule.2.1 9 = .ok (.aload_n 0, 1) := by decide +kernel
theorem dX5_readRule_10 : decode mX5_readRule.2.1 10 = .ok (.aload_n 1, 1) := by decide +kernel
theorem dX5_readRule_11 : decode mX5_readRule.2.1 11 = .ok (.invokevirtual 73, 3) := by decide +kernel
theorem dX5_readRule_14 : decode mX5_readRule.2.1 14 = .ok (.ifCond .ne 5, 3) := by decide +kernel
theorem dX5_readRule_17 : decode mX5_readRule.2.1 17 = .ok (.iconst 0, 1) := by decide +kernel
theorem dX5_readRule_18 : decode mX5_readRule.2.1 18 = .ok (.ireturn, 1) := by decide +kernel
theorem dX5_readRule_19 : decode mX5_readRule.2.1 19 = .ok (.aload_n 0, 1) := by decide +kernel
theorem dX5_readRule_20 : decode mX5_readRule.2.1 20 = .ok (.bipush 7, 2) := by decide +kernel
theorem dX5_readRule_22 : decode mX5_readRule.2.1 22 = .ok (.invokevirtual 76, 3) := by decide +kernel
theorem dX5_readRule_25 : decode mX5_readRule.2.1 25 = .ok (.ifCond .eq 15, 3) := by decide +kernel
theorem dX5_readRule_28 : decode mX5_readRule.2.1 28 = .ok (.aload_n 0, 1) := by decide +kernel
theorem dX5_readRule_29 : decode mX5_readRule.2.1 29 = .ok (.aload_n 1, 1) := by decide +kernel
theorem dX5_readRule_30 : decode mX5_readRule.2.1 30 = .ok (.invokevirtual 79, 3) := by decide +kernel
theorem dX5_readRule_33 : decode mX5_readRule.2.1 33 = .ok (.ifCond .eq 7, 3) := by decide +kernel
theorem dX5_readRule_36 : decode mX5_readRule.2.1 36 = .ok (.iconst 1, 1) := by decide +kernel
theorem dX5_readRule_37 : decode mX5_readRule.2.1 37 = .ok (.goto 4, 3) := by decide +kernel
theorem dX5_readRule_40 : decode mX5_readRule.2.1 40 = .ok (.iconst 0, 1) := by decide +kernel
theorem dX5_readRule_41 : decode mX5_readRule.2.1 41 = .ok (.ireturn, 1) := by decide +kernel
theorem dX5_readTerm_0 : decode mX5_readTerm.2.1 0 = .ok (.aload_n 0, 1) := by decide +kernel
theorem dX5_readTerm_1 : decode mX5_readTerm.2.1 1 = .ok (.getfield 18, 3) := by decide +kernel
theorem dX5_readTerm_4 : decode mX5_readTerm.2.1 4 = .ok (.istore_n 2, 1) := by decide +kernel
theorem dX5_readTerm_5 : decode mX5_readTerm.2.1 5 = .ok (.aload_n 0, 1) := by decide +kernel
theorem dX5_readTerm_6 : decode mX5_readTerm.2.1 6 = .ok (.getfield 15, 3) := by decide +kernel
theorem dX5_readTerm_9 : decode mX5_readTerm.2.1 9 = .ok (.iconst 3, 1) := by decide +kernel
theorem dX5_readTerm_10 : decode mX5_readTerm.2.1 10 = .ok (.if_icmp .ne 17, 3) := by decide +kernel
theorem dX5_readTerm_13 : decode mX5_readTerm.2.1 13 = .ok (.aload_n 1, 1) := by decide +kernel
theorem dX5_readTerm_14 : decode mX5_readTerm.2.1 14 = .ok (.iconst 3, 1) := by decide +kernel
theorem dX5_readTerm_15 : decode mX5_readTerm.2.1 15 = .ok (.bipush 61, 2) := by decide +kernel
theorem dX5_readTerm_17 : decode mX5_readTerm.2.1 17 = .ok (.iload_n 2, 1) := by decide +kernel
theorem dX5_readTerm_18 : decode mX5_readTerm.2.1 18 = .ok (.invokevirtual 85, 3) := by decide +kernel
theorem dX5_readTerm_21 : decode mX5_readTerm.2.1 21 = .ok (.aload_n 0, 1) := by decide +kernel
theorem dX5_readTerm_22 : decode mX5_readTerm.2.1 22 = .ok (.iconst 3, 1) := by decide +kernel
theorem dX5_readTerm_23 : decode mX5_readTerm.2.1 23 = .ok (.invokevirtual 76, 3) := by decide +kernel
theorem dX5_readTerm_26 : decode mX5_readTerm.2.1 26 = .ok (.ireturn, 1) := by decide +kernel
theorem dX5_readTerm_27 : decode mX5_readTerm.2.1 27 = .ok (.aload_n 0, 1) := by decide +kernel
theorem dX5_readTerm_28 : decode mX5_readTerm.2.1 28 = .ok (.iconst 4, 1) := by decide +kernel
theorem dX5_readTerm_29 : decode mX5_readTerm.2.1 29 = .ok (.invokevirtual 76, 3) := by decide +kernel
theorem dX5_readTerm_32 : decode mX5_readTerm.2.1 32 = .ok (.ifCond .ne 5, 3) := by decide +kernel
theorem dX5_readTerm_35 : decode mX5_readTerm.2.1 35 = .ok (.iconst 0, 1) := by decide +kernel
theorem dX5_readTerm_36 : decode mX5_readTerm.2.1 36 = .ok (.ireturn, 1) := by decide +kernel
theorem dX5_readTerm_37 : decode mX5_readTerm.2.1 37 = .ok (.aload_n 0, 1) := by decide +kernel
theorem dX5_readTerm_38 : decode mX5_readTerm.2.1 38 = .ok (.getfield 18, 3) := by decide +kernel
theorem dX5_readTerm_41 : decode mX5_readTerm.2.1 41 = .ok (.istore_n 3, 1) := by decide +kernel
theorem dX5_readTerm_42 : decode mX5_readTerm.2.1 42 = .ok (.aload_n 0, 1) := by decide +kernel
theorem dX5_readTerm_43 : decode mX5_readTerm.2.1 43 = .ok (.bipush 6, 2) := by decide +kernel
theorem dX5_readTerm_45 : decode mX5_readTerm.2.1 45 = .ok (.invokevirtual 76, 3) := by decide +kernel
theorem dX5_readTerm_48 : decode mX5_readTerm.2.1 48 = .ok (.ifCond .ne 5, 3) := by decide +kernel
theorem dX5_readTerm_51 : decode mX5_readTerm.2.1 51 = .ok (.iconst 0, 1) := by decide +kernel
theorem dX5_readTerm_52 : decode mX5_readTerm.2.1 52 = .ok (.ireturn, 1) := by decide +kernel
theorem dX5_readTerm_53 : decode mX5_readTerm.2.1 53 = .ok (.aload_n 1, 1) := by decide +kernel
theorem dX5_readTerm_54 : decode mX5_readTerm.2.1 54 = .ok (.iload_n 2, 1) := by decide +kernel
theorem dX5_readTerm_55 : decode mX5_readTerm.2.1 55 = .ok (.iload_n 3, 1) := by decide +kernel
theorem dX5_readTerm_56 : decode mX5_readTerm.2.1 56 = .ok (.aload_n 0, 1) := by decide +kernel
theorem dX5_readTerm_57 : decode mX5_readTerm.2.1 57 = .ok (.getfield 18, 3) := by decide +kernel
theorem dX5_readTerm_60 : decode mX5_readTerm.2.1 60 = .ok (.invokevirtual 85, 3) := by decide +kernel
theorem dX5_readTerm_63 : decode mX5_readTerm.2.1 63 = .ok (.aload_n 0, 1) := by decide +kernel
theorem dX5_readTerm_64 : decode mX5_readTerm.2.1 64 = .ok (.iconst 2, 1) := by decide +kernel
theorem dX5_readTerm_65 : decode mX5_readTerm.2.1 65 = .ok (.invokevirtual 76, 3) := by decide +kernel
theorem dX5_readTerm_68 : decode mX5_readTerm.2.1 68 = .ok (.ireturn, 1) := by decide +kernel
theorem dX5_readTerms_0 : decode mX5_readTerms.2.1 0 = .ok (.iconst 0, 1) := by decide +kernel
theorem dX5_readTerms_1 : decode mX5_readTerms.2.1 1 = .ok (.istore_n 2, 1) := by decide +kernel
theorem dX5_readTerms_2 : decode mX5_readTerms.2.1 2 = .ok (.iload_n 2, 1) := by decide +kernel
theorem dX5_readTerms_3 : decode mX5_readTerms.2.1 3 = .ok (.iconst 4, 1) := by decide +kernel
theorem dX5_readTerms_4 : decode mX5_readTerms.2.1 4 = .ok (.if_icmp .ge 39, 3) := by decide +kernel
theorem dX5_readTerms_7 : decode mX5_readTerms.2.1 7 = .ok (.aload_n 0, 1) := by decide +kernel
theorem dX5_readTerms_8 : decode mX5_readTerms.2.1 8 = .ok (.aload_n 1, 1) := by decide +kernel
theorem dX5_readTerms_9 : decode mX5_readTerms.2.1 9 = .ok (.invokevirtual 82, 3) := by decide +kernel
theorem dX5_readTerms_12 : decode mX5_readTerms.2.1 12 = .ok (.ifCond .ne 5, 3) := by decide +kernel
theorem dX5_readTerms_15 : decode mX5_readTerms.2.1 15 = .ok (.iconst 0, 1) := by decide +kernel
theorem dX5_readTerms_16 : decode mX5_readTerms.2.1 16 = .ok (.ireturn, 1) := by decide +kernel
theorem dX5_readTerms_17 : decode mX5_readTerms.2.1 17 = .ok (.aload_n 0, 1) := by decide +kernel
theorem dX5_readTerms_18 : decode mX5_readTerms.2.1 18 = .ok (.getfield 15, 3) := by decide +kernel
theorem dX5_readTerms_21 : decode mX5_readTerms.2.1 21 = .ok (.iconst 5, 1) := by decide +kernel
theorem dX5_readTerms_22 : decode mX5_readTerms.2.1 22 = .ok (.if_icmp .eq 5, 3) := by decide +kernel
theorem dX5_readTerms_25 : decode mX5_readTerms.2.1 25 = .ok (.iconst 1, 1) := by decide +kernel
theorem dX5_readTerms_26 : decode mX5_readTerms.2.1 26 = .ok (.ireturn, 1) := by decide +kernel
theorem dX5_readTerms_27 : decode mX5_readTerms.2.1 27 = .ok (.aload_n 0, 1) := by decide +kernel
theorem dX5_readTerms_28 : decode mX5_readTerms.2.1 28 = .ok (.aload_n 0, 1) := by decide +kernel
theorem dX5_readTerms_29 : decode mX5_readTerms.2.1 29 = .ok (.getfield 9, 3) := by decide +kernel
theorem dX5_readTerms_32 : decode mX5_readTerms.2.1 32 = .ok (.iconst 1, 1) := by decide +kernel
theorem dX5_readTerms_33 : decode mX5_readTerms.2.1 33 = .ok (.iadd, 1) := by decide +kernel
theorem dX5_readTerms_34 : decode mX5_readTerms.2.1 34 = .ok (.invokevirtual 44, 3) := by decide +kernel
theorem dX5_readTerms_37 : decode mX5_readTerms.2.1 37 = .ok (.iinc 2 1, 3) := by decide +kernel
theorem dX5_readTerms_40 : decode mX5_readTerms.2.1 40 = .ok (.goto (-38), 3) := by decide +kernel
theorem dX5_readTerms_43 : decode mX5_readTerms.2.1 43 = .ok (.aload_n 0, 1) := by decide +kernel
theorem dX5_readTerms_44 : decode mX5_readTerms.2.1 44 = .ok (.aload_n 0, 1) := by decide +kernel
theorem dX5_readTerms_45 : decode mX5_readTerms.2.1 45 = .ok (.invokevirtual 48, 3) := by decide +kernel
theorem dX5_readTerms_48 : decode mX5_readTerms.2.1 48 = .ok (.ifCond .eq 7, 3) := by decide +kernel
theorem dX5_readTerms_51 : decode mX5_readTerms.2.1 51 = .ok (.iconst 2, 1) := by decide +kernel
theorem dX5_readTerms_52 : decode mX5_readTerms.2.1 52 = .ok (.goto 4, 3) := by decide +kernel
theorem dX5_readTerms_55 : decode mX5_readTerms.2.1 55 = .ok (.iconst 1, 1) := by decide +kernel
theorem dX5_readTerms_56 : decode mX5_readTerms.2.1 56 = .ok (.invokevirtual 52, 3) := by decide +kernel
theorem dX5_readTerms_59 : decode mX5_readTerms.2.1 59 = .ok (.ireturn, 1) := by decide +kernel
theorem dX5_take_0 : decode mX5_take.2.1 0 = .ok (.aload_n 0, 1) := by decide +kernel
theorem dX5_take_1 : decode mX5_take.2.1 1 = .ok (.getfield 15, 3) := by decide +kernel
theorem dX5_take_4 : decode mX5_take.2.1 4 = .ok (.iload_n 1, 1) := by decide +kernel
theorem dX5_take_5 : decode mX5_take.2.1 5 = .ok (.if_icmp .eq 9, 3) := by decide +kernel
theorem dX5_take_8 : decode mX5_take.2.1 8 = .ok (.aload_n 0, 1) := by decide +kernel
theorem dX5_take_9 : decode mX5_take.2.1 9 = .ok (.iconst 1, 1) := by decide +kernel
theorem dX5_take_10 : decode mX5_take.2.1 10 = .ok (.invokevirtual 52, 3) := by decide +kernel
theorem dX5_take_13 : decode mX5_take.2.1 13 = .ok (.ireturn, 1) := by decide +kernel
theorem dX5_take_14 : decode mX5_take.2.1 14 = .ok (.aload_n 0, 1) := by decide +kernel
theorem dX5_take_15 : decode mX5_take.2.1 15 = .ok (.aload_n 0, 1) := by decide +kernel
theorem dX5_take_16 : decode mX5_take.2.1 16 = .ok (.getfield 9, 3) := by decide +kernel
theorem dX5_take_19 : decode mX5_take.2.1 19 = .ok (.iconst 1, 1) := by decide +kernel
theorem dX5_take_20 : decode mX5_take.2.1 20 = .ok (.iadd, 1) := by decide +kernel
theorem dX5_take_21 : decode mX5_take.2.1 21 = .ok (.invokevirtual 44, 3) := by decide +kernel
theorem dX5_take_24 : decode mX5_take.2.1 24 = .ok (.iconst 1, 1) := by decide +kernel
theorem dX5_take_25 : decode mX5_take.2.1 25 = .ok (.ireturn, 1) := by decide +kernel
theorem dX6_addInn_0 : decode mX6_addInn.2.1 0 = .ok (.aload_n 0, 1) := by decide +kernel
theorem dX6_addInn_1 : decode mX6_addInn.2.1 1 = .ok (.getfield 34, 3) := by decide +kernel
theorem dX6_addInn_4 : decode mX6_addInn.2.1 4 = .ok (.bipush 6, 2) := by decide +kernel
theorem dX6_addInn_6 : decode mX6_addInn.2.1 6 = .ok (.if_icmp .lt 5, 3) := by decide +kernel
theorem dX6_addInn_9 : decode mX6_addInn.2.1 9 = .ok (.iconst (-1), 1) := by decide +kernel
theorem dX6_addInn_10 : decode mX6_addInn.2.1 10 = .ok (.ireturn, 1) := by decide +kernel
theorem dX6_addInn_11 : decode mX6_addInn.2.1 11 = .ok (.aload_n 0, 1) := by decide +kernel
theorem dX6_addInn_12 : decode mX6_addInn.2.1 12 = .ok (.getfield 34, 3) := by decide +kernel
theorem dX6_addInn_15 : decode mX6_addInn.2.1 15 = .ok (.ifCond .ne 17, 3) := by decide +kernel
theorem dX6_addInn_18 : decode mX6_addInn.2.1 18 = .ok (.iload_n 1, 1) := by decide +kernel
theorem dX6_addInn_19 : decode mX6_addInn.2.1 19 = .ok (.ifCond .ne 11, 3) := by decide +kernel
theorem dX6_addInn_22 : decode mX6_addInn.2.1 22 = .ok (.iload_n 2, 1) := by decide +kernel
theorem dX6_addInn_23 : decode mX6_addInn.2.1 23 = .ok (.ifCond .ne 7, 3) := by decide +kernel
theorem dX6_addInn_26 : decode mX6_addInn.2.1 26 = .ok (.iload_n 3, 1) := by decide +kernel
theorem dX6_addInn_27 : decode mX6_addInn.2.1 27 = .ok (.ifCond .eq 64, 3) := by decide +kernel
theorem dX6_addInn_30 : decode mX6_addInn.2.1 30 = .ok (.iconst (-1), 1) := by decide +kernel
theorem dX6_addInn_31 : decode mX6_addInn.2.1 31 = .ok (.ireturn, 1) := by decide +kernel
theorem dX6_addInn_32 : decode mX6_addInn.2.1 32 = .ok (.iload_n 1, 1) := by decide +kernel
theorem dX6_addInn_33 : decode mX6_addInn.2.1 33 = .ok (.iconst 1, 1) := by decide +kernel
theorem dX6_addInn_34 : decode mX6_addInn.2.1 34 = .ok (.if_icmp .lt 19, 3) := by decide +kernel
theorem dX6_addInn_37 : decode mX6_addInn.2.1 37 = .ok (.iload_n 1, 1) := by decide +kernel
theorem dX6_addInn_38 : decode mX6_addInn.2.1 38 = .ok (.bipush 9, 2) := by decide +kernel
end
section
theorem dX6_addInn_40 : decode mX6_addInn.2.1 40 = .ok (.if_icmp .gt 13, 3) := by decide +kernel
theorem dX6_addInn_43 : decode mX6_addInn.2.1 43 = .ok (.iload_n 2, 1) := by decide +kernel
theorem dX6_addInn_44 : decode mX6_addInn.2.1 44 = .ok (.ifCond .lt 9, 3) := by decide +kernel
theorem dX6_addInn_47 : decode mX6_addInn.2.1 47 = .ok (.iload_n 2, 1) := by decide +kernel
theorem dX6_addInn_48 : decode mX6_addInn.2.1 48 = .ok (.bipush 9, 2) := by decide +kernel
theorem dX6_addInn_50 : decode mX6_addInn.2.1 50 = .ok (.if_icmp .le 5, 3) := by decide +kernel
theorem dX6_addInn_53 : decode mX6_addInn.2.1 53 = .ok (.iconst (-1), 1) := by decide +kernel
theorem dX6_addInn_54 : decode mX6_addInn.2.1 54 = .ok (.ireturn, 1) := by decide +kernel
theorem dX6_addInn_55 : decode mX6_addInn.2.1 55 = .ok (.aload_n 0, 1) := by decide +kernel
theorem dX6_addInn_56 : decode mX6_addInn.2.1 56 = .ok (.getfield 9, 3) := by decide +kernel
theorem dX6_addInn_59 : decode mX6_addInn.2.1 59 = .ok (.aload_n 0, 1) := by decide +kernel
theorem dX6_addInn_60 : decode mX6_addInn.2.1 60 = .ok (.getfield 34, 3) := by decide +kernel
theorem dX6_addInn_63 : decode mX6_addInn.2.1 63 = .ok (.iconst 1, 1) := by decide +kernel
theorem dX6_addInn_64 : decode mX6_addInn.2.1 64 = .ok (.isub, 1) := by decide +kernel
theorem dX6_addInn_65 : decode mX6_addInn.2.1 65 = .ok (.iload_n 1, 1) := by decide +kernel
theorem dX6_addInn_66 : decode mX6_addInn.2.1 66 = .ok (.iastore, 1) := by decide +kernel
theorem dX6_addInn_67 : decode mX6_addInn.2.1 67 = .ok (.aload_n 0, 1) := by decide +kernel
theorem dX6_addInn_68 : decode mX6_addInn.2.1 68 = .ok (.getfield 15, 3) := by decide +kernel
theorem dX6_addInn_71 : decode mX6_addInn.2.1 71 = .ok (.aload_n 0, 1) := by decide +kernel
theorem dX6_addInn_72 : decode mX6_addInn.2.1 72 = .ok (.getfield 34, 3) := by decide +kernel
theorem dX6_addInn_75 : decode mX6_addInn.2.1 75 = .ok (.iconst 1, 1) := by decide +kernel
theorem dX6_addInn_76 : decode mX6_addInn.2.1 76 = .ok (.isub, 1) := by decide +kernel
theorem dX6_addInn_77 : decode mX6_addInn.2.1 77 = .ok (.iload_n 2, 1) := by decide +kernel
theorem dX6_addInn_78 : decode mX6_addInn.2.1 78 = .ok (.iastore, 1) := by decide +kernel
theorem dX6_addInn_79 : decode mX6_addInn.2.1 79 = .ok (.aload_n 0, 1) := by decide +kernel
theorem dX6_addInn_80 : decode mX6_addInn.2.1 80 = .ok (.getfield 18, 3) := by decide +kernel
theorem dX6_addInn_83 : decode mX6_addInn.2.1 83 = .ok (.aload_n 0, 1) := by decide +kernel
theorem dX6_addInn_84 : decode mX6_addInn.2.1 84 = .ok (.getfield 34, 3) := by decide +kernel
theorem dX6_addInn_87 : decode mX6_addInn.2.1 87 = .ok (.iconst 1, 1) := by decide +kernel
theorem dX6_addInn_88 : decode mX6_addInn.2.1 88 = .ok (.isub, 1) := by decide +kernel
theorem dX6_addInn_89 : decode mX6_addInn.2.1 89 = .ok (.iload_n 3, 1) := by decide +kernel
theorem dX6_addInn_90 : decode mX6_addInn.2.1 90 = .ok (.bastore, 1) := by decide +kernel
theorem dX6_addInn_91 : decode mX6_addInn.2.1 91 = .ok (.aload_n 0, 1) := by decide +kernel
theorem dX6_addInn_92 : decode mX6_addInn.2.1 92 = .ok (.dup, 1) := by decide +kernel
theorem dX6_addInn_93 : decode mX6_addInn.2.1 93 = .ok (.getfield 34, 3) := by decide +kernel
theorem dX6_addInn_96 : decode mX6_addInn.2.1 96 = .ok (.iconst 1, 1) := by decide +kernel
theorem dX6_addInn_97 : decode mX6_addInn.2.1 97 = .ok (.iadd, 1) := by decide +kernel
theorem dX6_addInn_98 : decode mX6_addInn.2.1 98 = .ok (.putfield 34, 3) := by decide +kernel
theorem dX6_addInn_101 : decode mX6_addInn.2.1 101 = .ok (.aload_n 0, 1) := by decide +kernel
theorem dX6_addInn_102 : decode mX6_addInn.2.1 102 = .ok (.getfield 34, 3) := by decide +kernel
theorem dX6_addInn_105 : decode mX6_addInn.2.1 105 = .ok (.iconst 1, 1) := by decide +kernel
theorem dX6_addInn_106 : decode mX6_addInn.2.1 106 = .ok (.isub, 1) := by decide +kernel
theorem dX6_addInn_107 : decode mX6_addInn.2.1 107 = .ok (.ireturn, 1) := by decide +kernel
theorem dX6_addTelling_0 : decode mX6_addTelling.2.1 0 = .ok (.aload_n 0, 1) := by decide +kernel
theorem dX6_addTelling_1 : decode mX6_addTelling.2.1 1 = .ok (.iload_n 1, 1) := by decide +kernel
theorem dX6_addTelling_2 : decode mX6_addTelling.2.1 2 = .ok (.invokevirtual 41, 3) := by decide +kernel
theorem dX6_addTelling_5 : decode mX6_addTelling.2.1 5 = .ok (.ifCond .eq 31, 3) := by decide +kernel
theorem dX6_addTelling_8 : decode mX6_addTelling.2.1 8 = .ok (.iload_n 2, 1) := by decide +kernel
theorem dX6_addTelling_9 : decode mX6_addTelling.2.1 9 = .ok (.invokestatic 45, 3) := by decide +kernel
theorem dX6_addTelling_12 : decode mX6_addTelling.2.1 12 = .ok (.ifCond .eq 24, 3) := by decide +kernel
theorem dX6_addTelling_15 : decode mX6_addTelling.2.1 15 = .ok (.iload_n 3, 1) := by decide +kernel
theorem dX6_addTelling_16 : decode mX6_addTelling.2.1 16 = .ok (.invokestatic 45, 3) := by decide +kernel
theorem dX6_addTelling_19 : decode mX6_addTelling.2.1 19 = .ok (.ifCond .eq 17, 3) := by decide +kernel
theorem dX6_addTelling_22 : decode mX6_addTelling.2.1 22 = .ok (.iload_n 2, 1) := by decide +kernel
theorem dX6_addTelling_23 : decode mX6_addTelling.2.1 23 = .ok (.iload_n 3, 1) := by decide +kernel
theorem dX6_addTelling_24 : decode mX6_addTelling.2.1 24 = .ok (.if_icmp .gt 12, 3) := by decide +kernel
theorem dX6_addTelling_27 : decode mX6_addTelling.2.1 27 = .ok (.aload_n 0, 1) := by decide +kernel
theorem dX6_addTelling_28 : decode mX6_addTelling.2.1 28 = .ok (.getfield 38, 3) := by decide +kernel
theorem dX6_addTelling_31 : decode mX6_addTelling.2.1 31 = .ok (.bipush 60, 2) := by decide +kernel
theorem dX6_addTelling_33 : decode mX6_addTelling.2.1 33 = .ok (.if_icmp .lt 5, 3) := by decide +kernel
theorem dX6_addTelling_36 : decode mX6_addTelling.2.1 36 = .ok (.iconst (-1), 1) := by decide +kernel
theorem dX6_addTelling_37 : decode mX6_addTelling.2.1 37 = .ok (.ireturn, 1) := by decide +kernel
theorem dX6_addTelling_38 : decode mX6_addTelling.2.1 38 = .ok (.aload_n 0, 1) := by decide +kernel
theorem dX6_addTelling_39 : decode mX6_addTelling.2.1 39 = .ok (.getfield 22, 3) := by decide +kernel
theorem dX6_addTelling_42 : decode mX6_addTelling.2.1 42 = .ok (.aload_n 0, 1) := by decide +kernel
theorem dX6_addTelling_43 : decode mX6_addTelling.2.1 43 = .ok (.getfield 38, 3) := by decide +kernel
theorem dX6_addTelling_46 : decode mX6_addTelling.2.1 46 = .ok (.iload_n 1, 1) := by decide +kernel
theorem dX6_addTelling_47 : decode mX6_addTelling.2.1 47 = .ok (.iastore, 1) := by decide +kernel
theorem dX6_addTelling_48 : decode mX6_addTelling.2.1 48 = .ok (.aload_n 0, 1) := by decide +kernel
theorem dX6_addTelling_49 : decode mX6_addTelling.2.1 49 = .ok (.getfield 25, 3) := by decide +kernel
theorem dX6_addTelling_52 : decode mX6_addTelling.2.1 52 = .ok (.aload_n 0, 1) := by decide +kernel
theorem dX6_addTelling_53 : decode mX6_addTelling.2.1 53 = .ok (.getfield 38, 3) := by decide +kernel
theorem dX6_addTelling_56 : decode mX6_addTelling.2.1 56 = .ok (.iload_n 2, 1) := by decide +kernel
theorem dX6_addTelling_57 : decode mX6_addTelling.2.1 57 = .ok (.iastore, 1) := by decide +kernel
theorem dX6_addTelling_58 : decode mX6_addTelling.2.1 58 = .ok (.aload_n 0, 1) := by decide +kernel
theorem dX6_addTelling_59 : decode mX6_addTelling.2.1 59 = .ok (.getfield 28, 3) := by decide +kernel
theorem dX6_addTelling_62 : decode mX6_addTelling.2.1 62 = .ok (.aload_n 0, 1) := by decide +kernel
theorem dX6_addTelling_63 : decode mX6_addTelling.2.1 63 = .ok (.getfield 38, 3) := by decide +kernel
theorem dX6_addTelling_66 : decode mX6_addTelling.2.1 66 = .ok (.iload_n 3, 1) := by decide +kernel
theorem dX6_addTelling_67 : decode mX6_addTelling.2.1 67 = .ok (.iastore, 1) := by decide +kernel
theorem dX6_addTelling_68 : decode mX6_addTelling.2.1 68 = .ok (.aload_n 0, 1) := by decide +kernel
theorem dX6_addTelling_69 : decode mX6_addTelling.2.1 69 = .ok (.getfield 31, 3) := by decide +kernel
theorem dX6_addTelling_72 : decode mX6_addTelling.2.1 72 = .ok (.aload_n 0, 1) := by decide +kernel
theorem dX6_addTelling_73 : decode mX6_addTelling.2.1 73 = .ok (.getfield 38, 3) := by decide +kernel
theorem dX6_addTelling_76 : decode mX6_addTelling.2.1 76 = .ok (.iload 4, 2) := by decide +kernel
theorem dX6_addTelling_78 : decode mX6_addTelling.2.1 78 = .ok (.iastore, 1) := by decide +kernel
theorem dX6_addTelling_79 : decode mX6_addTelling.2.1 79 = .ok (.aload_n 0, 1) := by decide +kernel
theorem dX6_addTelling_80 : decode mX6_addTelling.2.1 80 = .ok (.dup, 1) := by decide +kernel
theorem dX6_addTelling_81 : decode mX6_addTelling.2.1 81 = .ok (.getfield 38, 3) := by decide +kernel
theorem dX6_addTelling_84 : decode mX6_addTelling.2.1 84 = .ok (.iconst 1, 1) := by decide +kernel
theorem dX6_addTelling_85 : decode mX6_addTelling.2.1 85 = .ok (.iadd, 1) := by decide +kernel
theorem dX6_addTelling_86 : decode mX6_addTelling.2.1 86 = .ok (.putfield 38, 3) := by decide +kernel
theorem dX6_addTelling_89 : decode mX6_addTelling.2.1 89 = .ok (.aload_n 0, 1) := by decide +kernel
theorem dX6_addTelling_90 : decode mX6_addTelling.2.1 90 = .ok (.getfield 38, 3) := by decide +kernel
theorem dX6_addTelling_93 : decode mX6_addTelling.2.1 93 = .ok (.iconst 1, 1) := by decide +kernel
theorem dX6_addTelling_94 : decode mX6_addTelling.2.1 94 = .ok (.isub, 1) := by decide +kernel
theorem dX6_addTelling_95 : decode mX6_addTelling.2.1 95 = .ok (.ireturn, 1) := by decide +kernel
theorem dX6_climbsOf_0 : decode mX6_climbsOf.2.1 0 = .ok (.aload_n 0, 1) := by decide +kernel
theorem dX6_climbsOf_1 : decode mX6_climbsOf.2.1 1 = .ok (.iload_n 1, 1) := by decide +kernel
theorem dX6_climbsOf_2 : decode mX6_climbsOf.2.1 2 = .ok (.invokevirtual 41, 3) := by decide +kernel
theorem dX6_climbsOf_5 : decode mX6_climbsOf.2.1 5 = .ok (.ifCond .eq 12, 3) := by decide +kernel
theorem dX6_climbsOf_8 : decode mX6_climbsOf.2.1 8 = .ok (.aload_n 0, 1) := by decide +kernel
theorem dX6_climbsOf_9 : decode mX6_climbsOf.2.1 9 = .ok (.getfield 15, 3) := by decide +kernel
theorem dX6_climbsOf_12 : decode mX6_climbsOf.2.1 12 = .ok (.iload_n 1, 1) := by decide +kernel
theorem dX6_climbsOf_13 : decode mX6_climbsOf.2.1 13 = .ok (.iaload, 1) := by decide +kernel
theorem dX6_climbsOf_14 : decode mX6_climbsOf.2.1 14 = .ok (.goto 4, 3) := by decide +kernel
theorem dX6_climbsOf_17 : decode mX6_climbsOf.2.1 17 = .ok (.iconst 0, 1) := by decide +kernel
theorem dX6_climbsOf_18 : decode mX6_climbsOf.2.1 18 = .ok (.ireturn, 1) := by decide +kernel
theorem dX6_hasInn_0 : decode mX6_hasInn.2.1 0 = .ok (.iload_n 1, 1) := by decide +kernel
theorem dX6_hasInn_1 : decode mX6_hasInn.2.1 1 = .ok (.ifCond .lt 15, 3) := by decide +kernel
theorem dX6_hasInn_4 : decode mX6_hasInn.2.1 4 = .ok (.iload_n 1, 1) := by decide +kernel
theorem dX6_hasInn_5 : decode mX6_hasInn.2.1 5 = .ok (.aload_n 0, 1) := by decide +kernel
theorem dX6_hasInn_6 : decode mX6_hasInn.2.1 6 = .ok (.getfield 34, 3) := by decide +kernel
theorem dX6_hasInn_9 : decode mX6_hasInn.2.1 9 = .ok (.if_icmp .ge 7, 3) := by decide +kernel
theorem dX6_hasInn_12 : decode mX6_hasInn.2.1 12 = .ok (.iconst 1, 1) := by decide +kernel
theorem dX6_hasInn_13 : decode mX6_hasInn.2.1 13 = .ok (.goto 4, 3) := by decide +kernel
theorem dX6_hasInn_16 : decode mX6_hasInn.2.1 16 = .ok (.iconst 0, 1) := by decide +kernel
theorem dX6_hasInn_17 : decode mX6_hasInn.2.1 17 = .ok (.ireturn, 1) := by decide +kernel
theorem dX6_hasLeg_0 : decode mX6_hasLeg.2.1 0 = .ok (.iload_n 1, 1) := by decide +kernel
theorem dX6_hasLeg_1 : decode mX6_hasLeg.2.1 1 = .ok (.ifCond .lt 17, 3) := by decide +kernel
theorem dX6_hasLeg_4 : decode mX6_hasLeg.2.1 4 = .ok (.iload_n 1, 1) := by decide +kernel
theorem dX6_hasLeg_5 : decode mX6_hasLeg.2.1 5 = .ok (.aload_n 0, 1) := by decide +kernel
theorem dX6_hasLeg_6 : decode mX6_hasLeg.2.1 6 = .ok (.getfield 34, 3) := by decide +kernel
theorem dX6_hasLeg_9 : decode mX6_hasLeg.2.1 9 = .ok (.iconst 1, 1) := by decide +kernel
theorem dX6_hasLeg_10 : decode mX6_hasLeg.2.1 10 = .ok (.isub, 1) := by decide +kernel
theorem dX6_hasLeg_11 : decode mX6_hasLeg.2.1 11 = .ok (.if_icmp .ge 7, 3) := by decide +kernel
theorem dX6_hasLeg_14 : decode mX6_hasLeg.2.1 14 = .ok (.iconst 1, 1) := by decide +kernel
theorem dX6_hasLeg_15 : decode mX6_hasLeg.2.1 15 = .ok (.goto 4, 3) := by decide +kernel
theorem dX6_hasLeg_18 : decode mX6_hasLeg.2.1 18 = .ok (.iconst 0, 1) := by decide +kernel
theorem dX6_hasLeg_19 : decode mX6_hasLeg.2.1 19 = .ok (.ireturn, 1) := by decide +kernel
theorem dX6_hoursOf_0 : decode mX6_hoursOf.2.1 0 = .ok (.aload_n 0, 1) := by decide +kernel
theorem dX6_hoursOf_1 : decode mX6_hoursOf.2.1 1 = .ok (.iload_n 1, 1) := by decide +kernel
theorem dX6_hoursOf_2 : decode mX6_hoursOf.2.1 2 = .ok (.invokevirtual 41, 3) := by decide +kernel
theorem dX6_hoursOf_5 : decode mX6_hoursOf.2.1 5 = .ok (.ifCond .eq 12, 3) := by decide +kernel
theorem dX6_hoursOf_8 : decode mX6_hoursOf.2.1 8 = .ok (.aload_n 0, 1) := by decide +kernel
theorem dX6_hoursOf_9 : decode mX6_hoursOf.2.1 9 = .ok (.getfield 9, 3) := by decide +kernel
theorem dX6_hoursOf_12 : decode mX6_hoursOf.2.1 12 = .ok (.iload_n 1, 1) := by decide +kernel
theorem dX6_hoursOf_13 : decode mX6_hoursOf.2.1 13 = .ok (.iaload, 1) := by decide +kernel
theorem dX6_hoursOf_14 : decode mX6_hoursOf.2.1 14 = .ok (.goto 4, 3) := by decide +kernel
theorem dX6_hoursOf_17 : decode mX6_hoursOf.2.1 17 = .ok (.iconst 0, 1) := by decide +kernel
theorem dX6_hoursOf_18 : decode mX6_hoursOf.2.1 18 = .ok (.ireturn, 1) := by decide +kernel
theorem dX6_init_0 : decode mX6_init.2.1 0 = .ok (.aload_n 0, 1) := by decide +kernel
theorem dX6_init_1 : decode mX6_init.2.1 1 = .ok (.invokespecial 3, 3) := by decide +kernel
theorem dX6_init_4 : decode mX6_init.2.1 4 = .ok (.aload_n 0, 1) := by decide +kernel
theorem dX6_init_5 : decode mX6_init.2.1 5 = .ok (.bipush 6, 2) := by decide +kernel
theorem dX6_init_7 : decode mX6_init.2.1 7 = .ok (.newarray .int, 2) := by decide +kernel
theorem dX6_init_9 : decode mX6_init.2.1 9 = .ok (.putfield 9, 3) := by decide +kernel
theorem dX6_init_12 : decode mX6_init.2.1 12 = .ok (.aload_n 0, 1) := by decide +kernel
theorem dX6_init_13 : decode mX6_init.2.1 13 = .ok (.bipush 6, 2) := by decide +kernel
theorem dX6_init_15 : decode mX6_init.2.1 15 = .ok (.newarray .int, 2) := by decide +kernel
theorem dX6_init_17 : decode mX6_init.2.1 17 = .ok (.putfield 15, 3) := by decide +kernel
theorem dX6_init_20 : decode mX6_init.2.1 20 = .ok (.aload_n 0, 1) := by decide +kernel
theorem dX6_init_21 : decode mX6_init.2.1 21 = .ok (.bipush 6, 2) := by decide +kernel
theorem dX6_init_23 : decode mX6_init.2.1 23 = .ok (.newarray .boolean, 2) := by decide +kernel
theorem dX6_init_25 : decode mX6_init.2.1 25 = .ok (.putfield 18, 3) := by decide +kernel
theorem dX6_init_28 : decode mX6_init.2.1 28 = .ok (.aload_n 0, 1) := by decide +kernel
theorem dX6_init_29 : decode mX6_init.2.1 29 = .ok (.bipush 60, 2) := by decide +kernel
theorem dX6_init_31 : decode mX6_init.2.1 31 = .ok (.newarray .int, 2) := by decide +kernel
theorem dX6_init_33 : decode mX6_init.2.1 33 = .ok (.putfield 22, 3) := by decide +kernel
theorem dX6_init_36 : decode mX6_init.2.1 36 = .ok (.aload_n 0, 1) := by decide +kernel
theorem dX6_init_37 : decode mX6_init.2.1 37 = .ok (.bipush 60, 2) := by decide +kernel
theorem dX6_init_39 : decode mX6_init.2.1 39 = .ok (.newarray .int, 2) := by decide +kernel
theorem dX6_init_41 : decode mX6_init.2.1 41 = .ok (.putfield 25, 3) := by decide +kernel
theorem dX6_init_44 : decode mX6_init.2.1 44 = .ok (.aload_n 0, 1) := by decide +kernel
theorem dX6_init_45 : decode mX6_init.2.1 45 = .ok (.bipush 60, 2) := by decide +kernel
theorem dX6_init_47 : decode mX6_init.2.1 47 = .ok (.newarray .int, 2) := by decide +kernel
theorem dX6_init_49 : decode mX6_init.2.1 49 = .ok (.putfield 28, 3) := by decide +kernel
theorem dX6_init_52 : decode mX6_init.2.1 52 = .ok (.aload_n 0, 1) := by decide +kernel
theorem dX6_init_53 : decode mX6_init.2.1 53 = .ok (.bipush 60, 2) := by decide +kernel
theorem dX6_init_55 : decode mX6_init.2.1 55 = .ok (.newarray .int, 2) := by decide +kernel
theorem dX6_init_57 : decode mX6_init.2.1 57 = .ok (.putfield 31, 3) := by decide +kernel
theorem dX6_init_60 : decode mX6_init.2.1 60 = .ok (.aload_n 0, 1) := by decide +kernel
theorem dX6_init_61 : decode mX6_init.2.1 61 = .ok (.iconst 0, 1) := by decide +kernel
theorem dX6_init_62 : decode mX6_init.2.1 62 = .ok (.putfield 34, 3) := by decide +kernel
theorem dX6_init_65 : decode mX6_init.2.1 65 = .ok (.aload_n 0, 1) := by decide +kernel
theorem dX6_init_66 : decode mX6_init.2.1 66 = .ok (.iconst 0, 1) := by decide +kernel
theorem dX6_init_67 : decode mX6_init.2.1 67 = .ok (.putfield 38, 3) := by decide +kernel
theorem dX6_init_70 : decode mX6_init.2.1 70 = .ok (.return_, 1) := by decide +kernel
theorem dX6_isLedge_0 : decode mX6_isLedge.2.1 0 = .ok (.aload_n 0, 1) := by decide +kernel
theorem dX6_isLedge_1 : decode mX6_isLedge.2.1 1 = .ok (.iload_n 1, 1) := by decide +kernel
theorem dX6_isLedge_2 : decode mX6_isLedge.2.1 2 = .ok (.invokevirtual 41, 3) := by decide +kernel
theorem dX6_isLedge_5 : decode mX6_isLedge.2.1 5 = .ok (.ifCond .eq 16, 3) := by decide +kernel
theorem dX6_isLedge_8 : decode mX6_isLedge.2.1 8 = .ok (.aload_n 0, 1) := by decide +kernel
theorem dX6_isLedge_9 : decode mX6_isLedge.2.1 9 = .ok (.getfield 18, 3) := by decide +kernel
theorem dX6_isLedge_12 : decode mX6_isLedge.2.1 12 = .ok (.iload_n 1, 1) := by decide +kernel
theorem dX6_isLedge_13 : decode mX6_isLedge.2.1 13 = .ok (.baload, 1) := by decide +kernel
theorem dX6_isLedge_14 : decode mX6_isLedge.2.1 14 = .ok (.ifCond .eq 7, 3) := by decide +kernel
theorem dX6_isLedge_17 : decode mX6_isLedge.2.1 17 = .ok (.iconst 1, 1) := by decide +kernel
theorem dX6_isLedge_18 : decode mX6_isLedge.2.1 18 = .ok (.goto 4, 3) := by decide +kernel
theorem dX6_isLedge_21 : decode mX6_isLedge.2.1 21 = .ok (.iconst 0, 1) := by decide +kernel
theorem dX6_isLedge_22 : decode mX6_isLedge.2.1 22 = .ok (.ireturn, 1) := by decide +kernel
theorem dX6_isShut_0 : decode mX6_isShut.2.1 0 = .ok (.iconst 0, 1) := by decide +kernel
theorem dX6_isShut_1 : decode mX6_isShut.2.1 1 = .ok (.istore 4, 2) := by decide +kernel
theorem dX6_isShut_3 : decode mX6_isShut.2.1 3 = .ok (.iload 4, 2) := by decide +kernel
theorem dX6_isShut_5 : decode mX6_isShut.2.1 5 = .ok (.aload_n 0, 1) := by decide +kernel
theorem dX6_isShut_6 : decode mX6_isShut.2.1 6 = .ok (.getfield 38, 3) := by decide +kernel
theorem dX6_isShut_9 : decode mX6_isShut.2.1 9 = .ok (.if_icmp .ge 62, 3) := by decide +kernel
theorem dX6_isShut_12 : decode mX6_isShut.2.1 12 = .ok (.iload 4, 2) := by decide +kernel
theorem dX6_isShut_14 : decode mX6_isShut.2.1 14 = .ok (.bipush 60, 2) := by decide +kernel
theorem dX6_isShut_16 : decode mX6_isShut.2.1 16 = .ok (.if_icmp .ge 55, 3) := by decide +kernel
theorem dX6_isShut_19 : decode mX6_isShut.2.1 19 = .ok (.aload_n 0, 1) := by decide +kernel
theorem dX6_isShut_20 : decode mX6_isShut.2.1 20 = .ok (.getfield 22, 3) := by decide +kernel
theorem dX6_isShut_23 : decode mX6_isShut.2.1 23 = .ok (.iload 4, 2) := by decide +kernel
theorem dX6_isShut_25 : decode mX6_isShut.2.1 25 = .ok (.iaload, 1) := by decide +kernel
theorem dX6_isShut_26 : decode mX6_isShut.2.1 26 = .ok (.iload_n 1, 1) := by decide +kernel
theorem dX6_isShut_27 : decode mX6_isShut.2.1 27 = .ok (.if_icmp .ne 38, 3) := by decide +kernel
theorem dX6_isShut_30 : decode mX6_isShut.2.1 30 = .ok (.aload_n 0, 1) := by decide +kernel
theorem dX6_isShut_31 : decode mX6_isShut.2.1 31 = .ok (.getfield 31, 3) := by decide +kernel
theorem dX6_isShut_34 : decode mX6_isShut.2.1 34 = .ok (.iload 4, 2) := by decide +kernel
theorem dX6_isShut_36 : decode mX6_isShut.2.1 36 = .ok (.iaload, 1) := by decide +kernel
theorem dX6_isShut_37 : decode mX6_isShut.2.1 37 = .ok (.iload_n 3, 1) := by decide +kernel
theorem dX6_isShut_38 : decode mX6_isShut.2.1 38 = .ok (.if_icmp .gt 27, 3) := by decide +kernel
theorem dX6_isShut_41 : decode mX6_isShut.2.1 41 = .ok (.aload_n 0, 1) := by decide +kernel
theorem dX6_isShut_42 : decode mX6_isShut.2.1 42 = .ok (.getfield 25, 3) := by decide +kernel
theorem dX6_isShut_45 : decode mX6_isShut.2.1 45 = .ok (.iload 4, 2) := by decide +kernel
theorem dX6_isShut_47 : decode mX6_isShut.2.1 47 = .ok (.iaload, 1) := by decide +kernel
theorem dX6_isShut_48 : decode mX6_isShut.2.1 48 = .ok (.iload_n 2, 1) := by decide +kernel
theorem dX6_isShut_49 : decode mX6_isShut.2.1 49 = .ok (.if_icmp .gt 16, 3) := by decide +kernel
theorem dX6_isShut_52 : decode mX6_isShut.2.1 52 = .ok (.iload_n 2, 1) := by decide +kernel
theorem dX6_isShut_53 : decode mX6_isShut.2.1 53 = .ok (.aload_n 0, 1) := by decide +kernel
theorem dX6_isShut_54 : decode mX6_isShut.2.1 54 = .ok (.getfield 28, 3) := by decide +kernel
theorem dX6_isShut_57 : decode mX6_isShut.2.1 57 = .ok (.iload 4, 2) := by decide +kernel
theorem dX6_isShut_59 : decode mX6_isShut.2.1 59 = .ok (.iaload, 1) := by decide +kernel
theorem dX6_isShut_60 : decode mX6_isShut.2.1 60 = .ok (.if_icmp .gt 5, 3) := by decide +kernel
theorem dX6_isShut_63 : decode mX6_isShut.2.1 63 = .ok (.iconst 1, 1) := by decide +kernel
theorem dX6_isShut_64 : decode mX6_isShut.2.1 64 = .ok (.ireturn, 1) := by decide +kernel
theorem dX6_isShut_65 : decode mX6_isShut.2.1 65 = .ok (.iinc 4 1, 3) := by decide +kernel
theorem dX6_isShut_68 : decode mX6_isShut.2.1 68 = .ok (.goto (-65), 3) := by decide +kernel
theorem dX6_isShut_71 : decode mX6_isShut.2.1 71 = .ok (.iconst 0, 1) := by decide +kernel
theorem dX6_isShut_72 : decode mX6_isShut.2.1 72 = .ok (.ireturn, 1) := by decide +kernel
theorem dX6_shutLegs_0 : decode mX6_shutLegs.2.1 0 = .ok (.iconst 0, 1) := by decide +kernel
theorem dX6_shutLegs_1 : decode mX6_shutLegs.2.1 1 = .ok (.istore_n 2, 1) := by decide +kernel
theorem dX6_shutLegs_2 : decode mX6_shutLegs.2.1 2 = .ok (.iconst 0, 1) := by decide +kernel
theorem dX6_shutLegs_3 : decode mX6_shutLegs.2.1 3 = .ok (.istore_n 3, 1) := by decide +kernel
theorem dX6_shutLegs_4 : decode mX6_shutLegs.2.1 4 = .ok (.iload_n 3, 1) := by decide +kernel
theorem dX6_shutLegs_5 : decode mX6_shutLegs.2.1 5 = .ok (.aload_n 0, 1) := by decide +kernel
theorem dX6_shutLegs_6 : decode mX6_shutLegs.2.1 6 = .ok (.getfield 38, 3) := by decide +kernel
theorem dX6_shutLegs_9 : decode mX6_shutLegs.2.1 9 = .ok (.if_icmp .ge 46, 3) := by decide +kernel
theorem dX6_shutLegs_12 : decode mX6_shutLegs.2.1 12 = .ok (.iload_n 3, 1) := by decide +kernel
theorem dX6_shutLegs_13 : decode mX6_shutLegs.2.1 13 = .ok (.bipush 60, 2) := by decide +kernel
theorem dX6_shutLegs_15 : decode mX6_shutLegs.2.1 15 = .ok (.if_icmp .ge 40, 3) := by decide +kernel
theorem dX6_shutLegs_18 : decode mX6_shutLegs.2.1 18 = .ok (.aload_n 0, 1) := by decide +kernel
theorem dX6_shutLegs_19 : decode mX6_shutLegs.2.1 19 = .ok (.getfield 25, 3) := by decide +kernel
theorem dX6_shutLegs_22 : decode mX6_shutLegs.2.1 22 = .ok (.iload_n 3, 1) := by decide +kernel
theorem dX6_shutLegs_23 : decode mX6_shutLegs.2.1 23 = .ok (.iaload, 1) := by decide +kernel
theorem dX6_shutLegs_24 : decode mX6_shutLegs.2.1 24 = .ok (.iload_n 1, 1) := by decide +kernel
theorem dX6_shutLegs_25 : decode mX6_shutLegs.2.1 25 = .ok (.if_icmp .gt 24, 3) := by decide +kernel
theorem dX6_shutLegs_28 : decode mX6_shutLegs.2.1 28 = .ok (.iload_n 1, 1) := by decide +kernel
theorem dX6_shutLegs_29 : decode mX6_shutLegs.2.1 29 = .ok (.aload_n 0, 1) := by decide +kernel
theorem dX6_shutLegs_30 : decode mX6_shutLegs.2.1 30 = .ok (.getfield 28, 3) := by decide +kernel
theorem dX6_shutLegs_33 : decode mX6_shutLegs.2.1 33 = .ok (.iload_n 3, 1) := by decide +kernel
theorem dX6_shutLegs_34 : decode mX6_shutLegs.2.1 34 = .ok (.iaload, 1) := by decide +kernel
theorem dX6_shutLegs_35 : decode mX6_shutLegs.2.1 35 = .ok (.if_icmp .gt 14, 3) := by decide +kernel
theorem dX6_shutLegs_38 : decode mX6_shutLegs.2.1 38 = .ok (.iload_n 2, 1) := by decide +kernel
theorem dX6_shutLegs_39 : decode mX6_shutLegs.2.1 39 = .ok (.iconst 1, 1) := by decide +kernel
theorem dX6_shutLegs_40 : decode mX6_shutLegs.2.1 40 = .ok (.aload_n 0, 1) := by decide +kernel
theorem dX6_shutLegs_41 : decode mX6_shutLegs.2.1 41 = .ok (.getfield 22, 3) := by decide +kernel
theorem dX6_shutLegs_44 : decode mX6_shutLegs.2.1 44 = .ok (.iload_n 3, 1) := by decide +kernel
theorem dX6_shutLegs_45 : decode mX6_shutLegs.2.1 45 = .ok (.iaload, 1) := by decide +kernel
theorem dX6_shutLegs_46 : decode mX6_shutLegs.2.1 46 = .ok (.ishl, 1) := by decide +kernel
theorem dX6_shutLegs_47 : decode mX6_shutLegs.2.1 47 = .ok (.ior, 1) := by decide +kernel
theorem dX6_shutLegs_48 : decode mX6_shutLegs.2.1 48 = .ok (.istore_n 2, 1) := by decide +kernel
theorem dX6_shutLegs_49 : decode mX6_shutLegs.2.1 49 = .ok (.iinc 3 1, 3) := by decide +kernel
theorem dX6_shutLegs_52 : decode mX6_shutLegs.2.1 52 = .ok (.goto (-48), 3) := by decide +kernel
theorem dX6_shutLegs_55 : decode mX6_shutLegs.2.1 55 = .ok (.iload_n 2, 1) := by decide +kernel
theorem dX6_shutLegs_56 : decode mX6_shutLegs.2.1 56 = .ok (.ireturn, 1) := by decide +kernel
theorem dX7_addByte_0 : decode mX7_addByte.2.1 0 = .ok (.aload_n 0, 1) := by decide +kernel
theorem dX7_addByte_1 : decode mX7_addByte.2.1 1 = .ok (.getfield 15, 3) := by decide +kernel
theorem dX7_addByte_4 : decode mX7_addByte.2.1 4 = .ok (.sipush 400, 3) := by decide +kernel
theorem dX7_addByte_7 : decode mX7_addByte.2.1 7 = .ok (.if_icmp .ge 23, 3) := by decide +kernel
theorem dX7_addByte_10 : decode mX7_addByte.2.1 10 = .ok (.aload_n 0, 1) := by decide +kernel
theorem dX7_addByte_11 : decode mX7_addByte.2.1 11 = .ok (.getfield 9, 3) := by decide +kernel
theorem dX7_addByte_14 : decode mX7_addByte.2.1 14 = .ok (.aload_n 0, 1) := by decide +kernel
theorem dX7_addByte_15 : decode mX7_addByte.2.1 15 = .ok (.getfield 15, 3) := by decide +kernel
theorem dX7_addByte_18 : decode mX7_addByte.2.1 18 = .ok (.iload_n 1, 1) := by decide +kernel
theorem dX7_addByte_19 : decode mX7_addByte.2.1 19 = .ok (.iastore, 1) := by decide +kernel
theorem dX7_addByte_20 : decode mX7_addByte.2.1 20 = .ok (.aload_n 0, 1) := by decide +kernel
theorem dX7_addByte_21 : decode mX7_addByte.2.1 21 = .ok (.dup, 1) := by decide +kernel
theorem dX7_addByte_22 : decode mX7_addByte.2.1 22 = .ok (.getfield 15, 3) := by decide +kernel
theorem dX7_addByte_25 : decode mX7_addByte.2.1 25 = .ok (.iconst 1, 1) := by decide +kernel
theorem dX7_addByte_26 : decode mX7_addByte.2.1 26 = .ok (.iadd, 1) := by decide +kernel
theorem dX7_addByte_27 : decode mX7_addByte.2.1 27 = .ok (.putfield 15, 3) := by decide +kernel
theorem dX7_addByte_30 : decode mX7_addByte.2.1 30 = .ok (.return_, 1) := by decide +kernel
theorem dX7_addNumber_0 : decode mX7_addNumber.2.1 0 = .ok (.aload_n 0, 1) := by decide +kernel
theorem dX7_addNumber_1 : decode mX7_addNumber.2.1 1 = .ok (.iload_n 1, 1) := by decide +kernel
theorem dX7_addNumber_2 : decode mX7_addNumber.2.1 2 = .ok (.bipush 24, 2) := by decide +kernel
theorem dX7_addNumber_4 : decode mX7_addNumber.2.1 4 = .ok (.iushr, 1) := by decide +kernel
theorem dX7_addNumber_5 : decode mX7_addNumber.2.1 5 = .ok (.invokevirtual 19, 3) := by decide +kernel
theorem dX7_addNumber_8 : decode mX7_addNumber.2.1 8 = .ok (.aload_n 0, 1) := by decide +kernel
theorem dX7_addNumber_9 : decode mX7_addNumber.2.1 9 = .ok (.iload_n 1, 1) := by decide +kernel
theorem dX7_addNumber_10 : decode mX7_addNumber.2.1 10 = .ok (.bipush 16, 2) := by decide +kernel
theorem dX7_addNumber_12 : decode mX7_addNumber.2.1 12 = .ok (.iushr, 1) := by decide +kernel
theorem dX7_addNumber_13 : decode mX7_addNumber.2.1 13 = .ok (.sipush 255, 3) := by decide +kernel
theorem dX7_addNumber_16 : decode mX7_addNumber.2.1 16 = .ok (.iand, 1) := by decide +kernel
theorem dX7_addNumber_17 : decode mX7_addNumber.2.1 17 = .ok (.invokevirtual 19, 3) := by decide +kernel
theorem dX7_addNumber_20 : decode mX7_addNumber.2.1 20 = .ok (.aload_n 0, 1) := by decide +kernel
theorem dX7_addNumber_21 : decode mX7_addNumber.2.1 21 = .ok (.iload_n 1, 1) := by decide +kernel
theorem dX7_addNumber_22 : decode mX7_addNumber.2.1 22 = .ok (.bipush 8, 2) := by decide +kernel
theorem dX7_addNumber_24 : decode mX7_addNumber.2.1 24 = .ok (.iushr, 1) := by decide +kernel
theorem dX7_addNumber_25 : decode mX7_addNumber.2.1 25 = .ok (.sipush 255, 3) := by decide +kernel
theorem dX7_addNumber_28 : decode mX7_addNumber.2.1 28 = .ok (.iand, 1) := by decide +kernel
theorem dX7_addNumber_29 : decode mX7_addNumber.2.1 29 = .ok (.invokevirtual 19, 3) := by decide +kernel
theorem dX7_addNumber_32 : decode mX7_addNumber.2.1 32 = .ok (.aload_n 0, 1) := by decide +kernel
theorem dX7_addNumber_33 : decode mX7_addNumber.2.1 33 = .ok (.iload_n 1, 1) := by decide +kernel
theorem dX7_addNumber_34 : decode mX7_addNumber.2.1 34 = .ok (.sipush 255, 3) := by decide +kernel
theorem dX7_addNumber_37 : decode mX7_addNumber.2.1 37 = .ok (.iand, 1) := by decide +kernel
theorem dX7_addNumber_38 : decode mX7_addNumber.2.1 38 = .ok (.invokevirtual 19, 3) := by decide +kernel
theorem dX7_addNumber_41 : decode mX7_addNumber.2.1 41 = .ok (.return_, 1) := by decide +kernel
theorem dX7_byteAt_0 : decode mX7_byteAt.2.1 0 = .ok (.iload_n 1, 1) := by decide +kernel
theorem dX7_byteAt_1 : decode mX7_byteAt.2.1 1 = .ok (.ifCond .lt 18, 3) := by decide +kernel
theorem dX7_byteAt_4 : decode mX7_byteAt.2.1 4 = .ok (.iload_n 1, 1) := by decide +kernel
theorem dX7_byteAt_5 : decode mX7_byteAt.2.1 5 = .ok (.aload_n 0, 1) := by decide +kernel
theorem dX7_byteAt_6 : decode mX7_byteAt.2.1 6 = .ok (.getfield 15, 3) := by decide +kernel
theorem dX7_byteAt_9 : decode mX7_byteAt.2.1 9 = .ok (.if_icmp .ge 10, 3) := by decide +kernel
theorem dX7_byteAt_12 : decode mX7_byteAt.2.1 12 = .ok (.iload_n 1, 1) := by decide +kernel
theorem dX7_byteAt_13 : decode mX7_byteAt.2.1 13 = .ok (.sipush 400, 3) := by decide +kernel
theorem dX7_byteAt_16 : decode mX7_byteAt.2.1 16 = .ok (.if_icmp .lt 7, 3) := by decide +kernel
theorem dX7_byteAt_19 : decode mX7_byteAt.2.1 19 = .ok (.iconst (-1), 1) := by decide +kernel
theorem dX7_byteAt_20 : decode mX7_byteAt.2.1 20 = .ok (.goto 9, 3) := by decide +kernel
theorem dX7_byteAt_23 : decode mX7_byteAt.2.1 23 = .ok (.aload_n 0, 1) := by decide +kernel
theorem dX7_byteAt_24 : decode mX7_byteAt.2.1 24 = .ok (.getfield 9, 3) := by decide +kernel
theorem dX7_byteAt_27 : decode mX7_byteAt.2.1 27 = .ok (.iload_n 1, 1) := by decide +kernel
theorem dX7_byteAt_28 : decode mX7_byteAt.2.1 28 = .ok (.iaload, 1) := by decide +kernel
theorem dX7_byteAt_29 : decode mX7_byteAt.2.1 29 = .ok (.ireturn, 1) := by decide +kernel
theorem dX7_init_0 : decode mX7_init.2.1 0 = .ok (.aload_n 0, 1) := by decide +kernel
theorem dX7_init_1 : decode mX7_init.2.1 1 = .ok (.invokespecial 3, 3) := by decide +kernel
theorem dX7_init_4 : decode mX7_init.2.1 4 = .ok (.aload_n 0, 1) := by decide +kernel
theorem dX7_init_5 : decode mX7_init.2.1 5 = .ok (.sipush 400, 3) := by decide +kernel
theorem dX7_init_8 : decode mX7_init.2.1 8 = .ok (.newarray .int, 2) := by decide +kernel
theorem dX7_init_10 : decode mX7_init.2.1 10 = .ok (.putfield 9, 3) := by decide +kernel
theorem dX7_init_13 : decode mX7_init.2.1 13 = .ok (.aload_n 0, 1) := by decide +kernel
theorem dX7_init_14 : decode mX7_init.2.1 14 = .ok (.iconst 0, 1) := by decide +kernel
theorem dX7_init_15 : decode mX7_init.2.1 15 = .ok (.putfield 15, 3) := by decide +kernel
theorem dX7_init_18 : decode mX7_init.2.1 18 = .ok (.return_, 1) := by decide +kernel
theorem dX8_add_0 : decode mX8_add.2.1 0 = .ok (.aload_n 0, 1) := by decide +kernel
theorem dX8_add_1 : decode mX8_add.2.1 1 = .ok (.getfield 21, 3) := by decide +kernel
theorem dX8_add_4 : decode mX8_add.2.1 4 = .ok (.sipush 400, 3) := by decide +kernel
theorem dX8_add_7 : decode mX8_add.2.1 7 = .ok (.if_icmp .gt 46, 3) := by decide +kernel
theorem dX8_add_10 : decode mX8_add.2.1 10 = .ok (.aload_n 0, 1) := by decide +kernel
theorem dX8_add_11 : decode mX8_add.2.1 11 = .ok (.getfield 9, 3) := by decide +kernel
theorem dX8_add_14 : decode mX8_add.2.1 14 = .ok (.aload_n 0, 1) := by decide +kernel
theorem dX8_add_15 : decode mX8_add.2.1 15 = .ok (.getfield 21, 3) := by decide +kernel
theorem dX8_add_18 : decode mX8_add.2.1 18 = .ok (.iload_n 1, 1) := by decide +kernel
theorem dX8_add_19 : decode mX8_add.2.1 19 = .ok (.iastore, 1) := by decide +kernel
theorem dX8_add_20 : decode mX8_add.2.1 20 = .ok (.aload_n 0, 1) := by decide +kernel
theorem dX8_add_21 : decode mX8_add.2.1 21 = .ok (.getfield 15, 3) := by decide +kernel
theorem dX8_add_24 : decode mX8_add.2.1 24 = .ok (.aload_n 0, 1) := by decide +kernel
theorem dX8_add_25 : decode mX8_add.2.1 25 = .ok (.getfield 21, 3) := by decide +kernel
theorem dX8_add_28 : decode mX8_add.2.1 28 = .ok (.aload_n 0, 1) := by decide +kernel
theorem dX8_add_29 : decode mX8_add.2.1 29 = .ok (.getfield 25, 3) := by decide +kernel
theorem dX8_add_32 : decode mX8_add.2.1 32 = .ok (.iastore, 1) := by decide +kernel
theorem dX8_add_33 : decode mX8_add.2.1 33 = .ok (.aload_n 0, 1) := by decide +kernel
theorem dX8_add_34 : decode mX8_add.2.1 34 = .ok (.getfield 18, 3) := by decide +kernel
theorem dX8_add_37 : decode mX8_add.2.1 37 = .ok (.aload_n 0, 1) := by decide +kernel
theorem dX8_add_38 : decode mX8_add.2.1 38 = .ok (.getfield 21, 3) := by decide +kernel
theorem dX8_add_41 : decode mX8_add.2.1 41 = .ok (.iload_n 2, 1) := by decide +kernel
theorem dX8_add_42 : decode mX8_add.2.1 42 = .ok (.iastore, 1) := by decide +kernel
theorem dX8_add_43 : decode mX8_add.2.1 43 = .ok (.aload_n 0, 1) := by decide +kernel
theorem dX8_add_44 : decode mX8_add.2.1 44 = .ok (.dup, 1) := by decide +kernel
theorem dX8_add_45 : decode mX8_add.2.1 45 = .ok (.getfield 21, 3) := by decide +kernel
theorem dX8_add_48 : decode mX8_add.2.1 48 = .ok (.iconst 1, 1) := by decide +kernel
theorem dX8_add_49 : decode mX8_add.2.1 49 = .ok (.iadd, 1) := by decide +kernel
theorem dX8_add_50 : decode mX8_add.2.1 50 = .ok (.putfield 21, 3) := by decide +kernel
theorem dX8_add_53 : decode mX8_add.2.1 53 = .ok (.iload_n 1, 1) := by decide +kernel
theorem dX8_add_54 : decode mX8_add.2.1 54 = .ok (.ireturn, 1) := by decide +kernel
theorem dX8_cutNumber_0 : decode mX8_cutNumber.2.1 0 = .ok (.aload_n 0, 1) := by decide +kernel
theorem dX8_cutNumber_1 : decode mX8_cutNumber.2.1 1 = .ok (.getfield 28, 3) := by decide +kernel
theorem dX8_cutNumber_4 : decode mX8_cutNumber.2.1 4 = .ok (.aload_n 0, 1) := by decide +kernel
theorem dX8_cutNumber_5 : decode mX8_cutNumber.2.1 5 = .ok (.getfield 31, 3) := by decide +kernel
theorem dX8_cutNumber_8 : decode mX8_cutNumber.2.1 8 = .ok (.getfield 39, 3) := by decide +kernel
theorem dX8_cutNumber_11 : decode mX8_cutNumber.2.1 11 = .ok (.if_icmp .ge 33, 3) := by decide +kernel
theorem dX8_cutNumber_14 : decode mX8_cutNumber.2.1 14 = .ok (.aload_n 0, 1) := by decide +kernel
theorem dX8_cutNumber_15 : decode mX8_cutNumber.2.1 15 = .ok (.getfield 31, 3) := by decide +kernel
theorem dX8_cutNumber_18 : decode mX8_cutNumber.2.1 18 = .ok (.aload_n 0, 1) := by decide +kernel
theorem dX8_cutNumber_19 : decode mX8_cutNumber.2.1 19 = .ok (.getfield 28, 3) := by decide +kernel
theorem dX8_cutNumber_22 : decode mX8_cutNumber.2.1 22 = .ok (.invokevirtual 42, 3) := by decide +kernel
theorem dX8_cutNumber_25 : decode mX8_cutNumber.2.1 25 = .ok (.invokestatic 60, 3) := by decide +kernel
theorem dX8_cutNumber_28 : decode mX8_cutNumber.2.1 28 = .ok (.ifCond .eq 16, 3) := by decide +kernel
theorem dX8_cutNumber_31 : decode mX8_cutNumber.2.1 31 = .ok (.aload_n 0, 1) := by decide +kernel
theorem dX8_cutNumber_32 : decode mX8_cutNumber.2.1 32 = .ok (.dup, 1) := by decide +kernel
theorem dX8_cutNumber_33 : decode mX8_cutNumber.2.1 33 = .ok (.getfield 28, 3) := by decide +kernel
theorem dX8_cutNumber_36 : decode mX8_cutNumber.2.1 36 = .ok (.iconst 1, 1) := by decide +kernel
theorem dX8_cutNumber_37 : decode mX8_cutNumber.2.1 37 = .ok (.iadd, 1) := by decide +kernel
theorem dX8_cutNumber_38 : decode mX8_cutNumber.2.1 38 = .ok (.putfield 28, 3) := by decide +kernel
theorem dX8_cutNumber_41 : decode mX8_cutNumber.2.1 41 = .ok (.goto (-41), 3) := by decide +kernel
theorem dX8_cutNumber_44 : decode mX8_cutNumber.2.1 44 = .ok (.aload_n 0, 1) := by decide +kernel
theorem dX8_cutNumber_45 : decode mX8_cutNumber.2.1 45 = .ok (.getfield 28, 3) := by decide +kernel
theorem dX8_cutNumber_48 : decode mX8_cutNumber.2.1 48 = .ok (.aload_n 0, 1) := by decide +kernel
theorem dX8_cutNumber_49 : decode mX8_cutNumber.2.1 49 = .ok (.getfield 25, 3) := by decide +kernel
theorem dX8_cutNumber_52 : decode mX8_cutNumber.2.1 52 = .ok (.isub, 1) := by decide +kernel
theorem dX8_cutNumber_53 : decode mX8_cutNumber.2.1 53 = .ok (.iconst 4, 1) := by decide +kernel
theorem dX8_cutNumber_54 : decode mX8_cutNumber.2.1 54 = .ok (.if_icmp .le 10, 3) := by decide +kernel
theorem dX8_cutNumber_57 : decode mX8_cutNumber.2.1 57 = .ok (.aload_n 0, 1) := by decide +kernel
theorem dX8_cutNumber_58 : decode mX8_cutNumber.2.1 58 = .ok (.iconst 1, 1) := by decide +kernel
theorem dX8_cutNumber_59 : decode mX8_cutNumber.2.1 59 = .ok (.iconst 0, 1) := by decide +kernel
theorem dX8_cutNumber_60 : decode mX8_cutNumber.2.1 60 = .ok (.invokevirtual 50, 3) := by decide +kernel
theorem dX8_cutNumber_63 : decode mX8_cutNumber.2.1 63 = .ok (.ireturn, 1) := by decide +kernel
theorem dX8_cutNumber_64 : decode mX8_cutNumber.2.1 64 = .ok (.iconst 0, 1) := by decide +kernel
theorem dX8_cutNumber_65 : decode mX8_cutNumber.2.1 65 = .ok (.istore_n 1, 1) := by decide +kernel
theorem dX8_cutNumber_66 : decode mX8_cutNumber.2.1 66 = .ok (.aload_n 0, 1) := by decide +kernel
theorem dX8_cutNumber_67 : decode mX8_cutNumber.2.1 67 = .ok (.getfield 25, 3) := by decide +kernel
theorem dX8_cutNumber_70 : decode mX8_cutNumber.2.1 70 = .ok (.istore_n 2, 1) := by decide +kernel
theorem dX8_cutNumber_71 : decode mX8_cutNumber.2.1 71 = .ok (.iload_n 2, 1) := by decide +kernel
theorem dX8_cutNumber_72 : decode mX8_cutNumber.2.1 72 = .ok (.aload_n 0, 1) := by decide +kernel
theorem dX8_cutNumber_73 : decode mX8_cutNumber.2.1 73 = .ok (.getfield 28, 3) := by decide +kernel
theorem dX8_cutNumber_76 : decode mX8_cutNumber.2.1 76 = .ok (.if_icmp .ge 26, 3) := by decide +kernel
theorem dX8_cutNumber_79 : decode mX8_cutNumber.2.1 79 = .ok (.iload_n 1, 1) := by decide +kernel
theorem dX8_cutNumber_80 : decode mX8_cutNumber.2.1 80 = .ok (.bipush 10, 2) := by decide +kernel
theorem dX8_cutNumber_82 : decode mX8_cutNumber.2.1 82 = .ok (.imul, 1) := by decide +kernel
theorem dX8_cutNumber_83 : decode mX8_cutNumber.2.1 83 = .ok (.aload_n 0, 1) := by decide +kernel
theorem dX8_cutNumber_84 : decode mX8_cutNumber.2.1 84 = .ok (.getfield 31, 3) := by decide +kernel
theorem dX8_cutNumber_87 : decode mX8_cutNumber.2.1 87 = .ok (.iload_n 2, 1) := by decide +kernel
theorem dX8_cutNumber_88 : decode mX8_cutNumber.2.1 88 = .ok (.invokevirtual 42, 3) := by decide +kernel
theorem dX8_cutNumber_91 : decode mX8_cutNumber.2.1 91 = .ok (.iadd, 1) := by decide +kernel
theorem dX8_cutNumber_92 : decode mX8_cutNumber.2.1 92 = .ok (.bipush 48, 2) := by decide +kernel
theorem dX8_cutNumber_94 : decode mX8_cutNumber.2.1 94 = .ok (.isub, 1) := by decide +kernel
theorem dX8_cutNumber_95 : decode mX8_cutNumber.2.1 95 = .ok (.istore_n 1, 1) := by decide +kernel
theorem dX8_cutNumber_96 : decode mX8_cutNumber.2.1 96 = .ok (.iinc 2 1, 3) := by decide +kernel
theorem dX8_cutNumber_99 : decode mX8_cutNumber.2.1 99 = .ok (.goto (-28), 3) := by decide +kernel
theorem dX8_cutNumber_102 : decode mX8_cutNumber.2.1 102 = .ok (.aload_n 0, 1) := by decide +kernel
theorem dX8_cutNumber_103 : decode mX8_cutNumber.2.1 103 = .ok (.iconst 2, 1) := by decide +kernel
theorem dX8_cutNumber_104 : decode mX8_cutNumber.2.1 104 = .ok (.iload_n 1, 1) := by decide +kernel
theorem dX8_cutNumber_105 : decode mX8_cutNumber.2.1 105 = .ok (.invokevirtual 50, 3) := by decide +kernel
theorem dX8_cutNumber_108 : decode mX8_cutNumber.2.1 108 = .ok (.ireturn, 1) := by decide +kernel
theorem dX8_cutTape_0 : decode mX8_cutTape.2.1 0 = .ok (.aload_n 0, 1) := by decide +kernel
theorem dX8_cutTape_1 : decode mX8_cutTape.2.1 1 = .ok (.iconst 0, 1) := by decide +kernel
theorem dX8_cutTape_2 : decode mX8_cutTape.2.1 2 = .ok (.putfield 21, 3) := by decide +kernel
theorem dX8_cutTape_5 : decode mX8_cutTape.2.1 5 = .ok (.aload_n 0, 1) := by decide +kernel
theorem dX8_cutTape_6 : decode mX8_cutTape.2.1 6 = .ok (.iconst 0, 1) := by decide +kernel
theorem dX8_cutTape_7 : decode mX8_cutTape.2.1 7 = .ok (.putfield 28, 3) := by decide +kernel
theorem dX8_cutTape_10 : decode mX8_cutTape.2.1 10 = .ok (.iconst 1, 1) := by decide +kernel
theorem dX8_cutTape_11 : decode mX8_cutTape.2.1 11 = .ok (.istore_n 1, 1) := by decide +kernel
theorem dX8_cutTape_12 : decode mX8_cutTape.2.1 12 = .ok (.iconst 0, 1) := by decide +kernel
theorem dX8_cutTape_13 : decode mX8_cutTape.2.1 13 = .ok (.istore_n 2, 1) := by decide +kernel
theorem dX8_cutTape_14 : decode mX8_cutTape.2.1 14 = .ok (.iload_n 2, 1) := by decide +kernel
theorem dX8_cutTape_15 : decode mX8_cutTape.2.1 15 = .ok (.sipush 400, 3) := by decide +kernel
theorem dX8_cutTape_18 : decode mX8_cutTape.2.1 18 = .ok (.if_icmp .gt 18, 3) := by decide +kernel
theorem dX8_cutTape_21 : decode mX8_cutTape.2.1 21 = .ok (.iload_n 1, 1) := by decide +kernel
theorem dX8_cutTape_22 : decode mX8_cutTape.2.1 22 = .ok (.ifCond .eq 14, 3) := by decide +kernel
theorem dX8_cutTape_25 : decode mX8_cutTape.2.1 25 = .ok (.aload_n 0, 1) := by decide +kernel
theorem dX8_cutTape_26 : decode mX8_cutTape.2.1 26 = .ok (.invokevirtual 35, 3) := by decide +kernel
theorem dX8_cutTape_29 : decode mX8_cutTape.2.1 29 = .ok (.istore_n 1, 1) := by decide +kernel
theorem dX8_cutTape_30 : decode mX8_cutTape.2.1 30 = .ok (.iinc 2 1, 3) := by decide +kernel
theorem dX8_cutTape_33 : decode mX8_cutTape.2.1 33 = .ok (.goto (-19), 3) := by decide +kernel
theorem dX8_cutTape_36 : decode mX8_cutTape.2.1 36 = .ok (.return_, 1) := by decide +kernel
theorem dX8_cutToken_0 : decode mX8_cutToken.2.1 0 = .ok (.aload_n 0, 1) := by decide +kernel
theorem dX8_cutToken_1 : decode mX8_cutToken.2.1 1 = .ok (.aload_n 0, 1) := by decide +kernel
theorem dX8_cutToken_2 : decode mX8_cutToken.2.1 2 = .ok (.getfield 28, 3) := by decide +kernel
theorem dX8_cutToken_5 : decode mX8_cutToken.2.1 5 = .ok (.putfield 25, 3) := by decide +kernel
theorem dX8_cutToken_8 : decode mX8_cutToken.2.1 8 = .ok (.aload_n 0, 1) := by decide +kernel
theorem dX8_cutToken_9 : decode mX8_cutToken.2.1 9 = .ok (.getfield 25, 3) := by decide +kernel
theorem dX8_cutToken_12 : decode mX8_cutToken.2.1 12 = .ok (.aload_n 0, 1) := by decide +kernel
theorem dX8_cutToken_13 : decode mX8_cutToken.2.1 13 = .ok (.getfield 31, 3) := by decide +kernel
theorem dX8_cutToken_16 : decode mX8_cutToken.2.1 16 = .ok (.getfield 39, 3) := by decide +kernel
theorem dX8_cutToken_19 : decode mX8_cutToken.2.1 19 = .ok (.if_icmp .ge 33, 3) := by decide +kernel
theorem dX8_cutToken_22 : decode mX8_cutToken.2.1 22 = .ok (.aload_n 0, 1) := by decide +kernel
theorem dX8_cutToken_23 : decode mX8_cutToken.2.1 23 = .ok (.getfield 31, 3) := by decide +kernel
theorem dX8_cutToken_26 : decode mX8_cutToken.2.1 26 = .ok (.aload_n 0, 1) := by decide +kernel
theorem dX8_cutToken_27 : decode mX8_cutToken.2.1 27 = .ok (.getfield 25, 3) := by decide +kernel
theorem dX8_cutToken_30 : decode mX8_cutToken.2.1 30 = .ok (.invokevirtual 42, 3) := by decide +kernel
theorem dX8_cutToken_33 : decode mX8_cutToken.2.1 33 = .ok (.invokestatic 46, 3) := by decide +kernel
theorem dX8_cutToken_36 : decode mX8_cutToken.2.1 36 = .ok (.ifCond .eq 16, 3) := by decide +kernel
theorem dX8_cutToken_39 : decode mX8_cutToken.2.1 39 = .ok (.aload_n 0, 1) := by decide +kernel
theorem dX8_cutToken_40 : decode mX8_cutToken.2.1 40 = .ok (.dup, 1) := by decide +kernel
theorem dX8_cutToken_41 : decode mX8_cutToken.2.1 41 = .ok (.getfield 25, 3) := by decide +kernel
theorem dX8_cutToken_44 : decode mX8_cutToken.2.1 44 = .ok (.iconst 1, 1) := by decide +kernel
theorem dX8_cutToken_45 : decode mX8_cutToken.2.1 45 = .ok (.iadd, 1) := by decide +kernel
theorem dX8_cutToken_46 : decode mX8_cutToken.2.1 46 = .ok (.putfield 25, 3) := by decide +kernel
theorem dX8_cutToken_49 : decode mX8_cutToken.2.1 49 = .ok (.goto (-41), 3) := by decide +kernel
theorem dX8_cutToken_52 : decode mX8_cutToken.2.1 52 = .ok (.aload_n 0, 1) := by decide +kernel
theorem dX8_cutToken_53 : decode mX8_cutToken.2.1 53 = .ok (.getfield 31, 3) := by decide +kernel
theorem dX8_cutToken_56 : decode mX8_cutToken.2.1 56 = .ok (.aload_n 0, 1) := by decide +kernel
theorem dX8_cutToken_57 : decode mX8_cutToken.2.1 57 = .ok (.getfield 25, 3) := by decide +kernel
theorem dX8_cutToken_60 : decode mX8_cutToken.2.1 60 = .ok (.invokevirtual 42, 3) := by decide +kernel
theorem dX8_cutToken_63 : decode mX8_cutToken.2.1 63 = .ok (.istore_n 1, 1) := by decide +kernel
theorem dX8_cutToken_64 : decode mX8_cutToken.2.1 64 = .ok (.aload_n 0, 1) := by decide +kernel
theorem dX8_cutToken_65 : decode mX8_cutToken.2.1 65 = .ok (.iload_n 1, 1) := by decide +kernel
theorem dX8_cutToken_66 : decode mX8_cutToken.2.1 66 = .ok (.iconst (-1), 1) := by decide +kernel
theorem dX8_cutToken_67 : decode mX8_cutToken.2.1 67 = .ok (.if_icmp .ne 10, 3) := by decide +kernel
theorem dX8_cutToken_70 : decode mX8_cutToken.2.1 70 = .ok (.aload_n 0, 1) := by decide +kernel
theorem dX8_cutToken_71 : decode mX8_cutToken.2.1 71 = .ok (.getfield 25, 3) := by decide +kernel
theorem dX8_cutToken_74 : decode mX8_cutToken.2.1 74 = .ok (.goto 9, 3) := by decide +kernel
theorem dX8_cutToken_77 : decode mX8_cutToken.2.1 77 = .ok (.aload_n 0, 1) := by decide +kernel
theorem dX8_cutToken_78 : decode mX8_cutToken.2.1 78 = .ok (.getfield 25, 3) := by decide +kernel
theorem dX8_cutToken_81 : decode mX8_cutToken.2.1 81 = .ok (.iconst 1, 1) := by decide +kernel
theorem dX8_cutToken_82 : decode mX8_cutToken.2.1 82 = .ok (.iadd, 1) := by decide +kernel
theorem dX8_cutToken_83 : decode mX8_cutToken.2.1 83 = .ok (.putfield 28, 3) := by decide +kernel
theorem dX8_cutToken_86 : decode mX8_cutToken.2.1 86 = .ok (.iload_n 1, 1) := by decide +kernel
theorem dX8_cutToken_87 : decode mX8_cutToken.2.1 87 = .ok (.iconst (-1), 1) := by decide +kernel
theorem dX8_cutToken_88 : decode mX8_cutToken.2.1 88 = .ok (.if_icmp .ne 10, 3) := by decide +kernel
theorem dX8_cutToken_91 : decode mX8_cutToken.2.1 91 = .ok (.aload_n 0, 1) := by decide +kernel
theorem dX8_cutToken_92 : decode mX8_cutToken.2.1 92 = .ok (.iconst 0, 1) := by decide +kernel
theorem dX8_cutToken_93 : decode mX8_cutToken.2.1 93 = .ok (.iconst 0, 1) := by decide +kernel
theorem dX8_cutToken_94 : decode mX8_cutToken.2.1 94 = .ok (.invokevirtual 50, 3) := by decide +kernel
theorem dX8_cutToken_97 : decode mX8_cutToken.2.1 97 = .ok (.ireturn, 1) := by decide +kernel
theorem dX8_cutToken_98 : decode mX8_cutToken.2.1 98 = .ok (.iload_n 1, 1) := by decide +kernel
theorem dX8_cutToken_99 : decode mX8_cutToken.2.1 99 = .ok (.invokestatic 54, 3) := by decide +kernel
theorem dX8_cutToken_102 : decode mX8_cutToken.2.1 102 = .ok (.ifCond .eq 8, 3) := by decide +kernel
theorem dX8_cutToken_105 : decode mX8_cutToken.2.1 105 = .ok (.aload_n 0, 1) := by decide +kernel
theorem dX8_cutToken_106 : decode mX8_cutToken.2.1 106 = .ok (.invokevirtual 57, 3) := by decide +kernel
theorem dX8_cutToken_109 : decode mX8_cutToken.2.1 109 = .ok (.ireturn, 1) := by decide +kernel
theorem dX8_cutToken_110 : decode mX8_cutToken.2.1 110 = .ok (.iload_n 1, 1) := by decide +kernel
theorem dX8_cutToken_111 : decode mX8_cutToken.2.1 111 = .ok (.invokestatic 60, 3) := by decide +kernel
theorem dX8_cutToken_114 : decode mX8_cutToken.2.1 114 = .ok (.ifCond .eq 10, 3) := by decide +kernel
theorem dX8_cutToken_117 : decode mX8_cutToken.2.1 117 = .ok (.aload_n 0, 1) := by decide +kernel
theorem dX8_cutToken_118 : decode mX8_cutToken.2.1 118 = .ok (.invokevirtual 63, 3) := by decide +kernel
theorem dX8_cutToken_121 : decode mX8_cutToken.2.1 121 = .ok (.goto 12, 3) := by decide +kernel
theorem dX8_cutToken_124 : decode mX8_cutToken.2.1 124 = .ok (.aload_n 0, 1) := by decide +kernel
theorem dX8_cutToken_125 : decode mX8_cutToken.2.1 125 = .ok (.iload_n 1, 1) := by decide +kernel
theorem dX8_cutToken_126 : decode mX8_cutToken.2.1 126 = .ok (.invokestatic 66, 3) := by decide +kernel
theorem dX8_cutToken_129 : decode mX8_cutToken.2.1 129 = .ok (.iload_n 1, 1) := by decide +kernel
theorem dX8_cutToken_130 : decode mX8_cutToken.2.1 130 = .ok (.invokevirtual 50, 3) := by decide +kernel
theorem dX8_cutToken_133 : decode mX8_cutToken.2.1 133 = .ok (.ireturn, 1) := by decide +kernel
theorem dX8_cutWord_0 : decode mX8_cutWord.2.1 0 = .ok (.aload_n 0, 1) := by decide +kernel
theorem dX8_cutWord_1 : decode mX8_cutWord.2.1 1 = .ok (.getfield 28, 3) := by decide +kernel
theorem dX8_cutWord_4 : decode mX8_cutWord.2.1 4 = .ok (.aload_n 0, 1) := by decide +kernel
theorem dX8_cutWord_5 : decode mX8_cutWord.2.1 5 = .ok (.getfield 31, 3) := by decide +kernel
theorem dX8_cutWord_8 : decode mX8_cutWord.2.1 8 = .ok (.getfield 39, 3) := by decide +kernel
theorem dX8_cutWord_11 : decode mX8_cutWord.2.1 11 = .ok (.if_icmp .ge 33, 3) := by decide +kernel
theorem dX8_cutWord_14 : decode mX8_cutWord.2.1 14 = .ok (.aload_n 0, 1) := by decide +kernel
theorem dX8_cutWord_15 : decode mX8_cutWord.2.1 15 = .ok (.getfield 31, 3) := by decide +kernel
theorem dX8_cutWord_18 : decode mX8_cutWord.2.1 18 = .ok (.aload_n 0, 1) := by decide +kernel
theorem dX8_cutWord_19 : decode mX8_cutWord.2.1 19 = .ok (.getfield 28, 3) := by decide +kernel
theorem dX8_cutWord_22 : decode mX8_cutWord.2.1 22 = .ok (.invokevirtual 42, 3) := by decide +kernel
theorem dX8_cutWord_25 : decode mX8_cutWord.2.1 25 = .ok (.invokestatic 54, 3) := by decide +kernel
theorem dX8_cutWord_28 : decode mX8_cutWord.2.1 28 = .ok (.ifCond .eq 16, 3) := by decide +kernel
theorem dX8_cutWord_31 : decode mX8_cutWord.2.1 31 = .ok (.aload_n 0, 1) := by decide +kernel
theorem dX8_cutWord_32 : decode mX8_cutWord.2.1 32 = .ok (.dup, 1) := by decide +kernel
theorem dX8_cutWord_33 : decode mX8_cutWord.2.1 33 = .ok (.getfield 28, 3) := by decide +kernel
theorem dX8_cutWord_36 : decode mX8_cutWord.2.1 36 = .ok (.iconst 1, 1) := by decide +kernel
theorem dX8_cutWord_37 : decode mX8_cutWord.2.1 37 = .ok (.iadd, 1) := by decide +kernel
theorem dX8_cutWord_38 : decode mX8_cutWord.2.1 38 = .ok (.putfield 28, 3) := by decide +kernel
theorem dX8_cutWord_41 : decode mX8_cutWord.2.1 41 = .ok (.goto (-41), 3) := by decide +kernel
theorem dX8_cutWord_44 : decode mX8_cutWord.2.1 44 = .ok (.aload_n 0, 1) := by decide +kernel
theorem dX8_cutWord_45 : decode mX8_cutWord.2.1 45 = .ok (.ldc 69, 2) := by decide +kernel
theorem dX8_cutWord_47 : decode mX8_cutWord.2.1 47 = .ok (.invokevirtual 71, 3) := by decide +kernel
theorem dX8_cutWord_50 : decode mX8_cutWord.2.1 50 = .ok (.ifCond .eq 10, 3) := by decide +kernel
theorem dX8_cutWord_53 : decode mX8_cutWord.2.1 53 = .ok (.aload_n 0, 1) := by decide +kernel
theorem dX8_cutWord_54 : decode mX8_cutWord.2.1 54 = .ok (.iconst 5, 1) := by decide +kernel
theorem dX8_cutWord_55 : decode mX8_cutWord.2.1 55 = .ok (.iconst 0, 1) := by decide +kernel
theorem dX8_cutWord_56 : decode mX8_cutWord.2.1 56 = .ok (.invokevirtual 50, 3) := by decide +kernel
theorem dX8_cutWord_59 : decode mX8_cutWord.2.1 59 = .ok (.ireturn, 1) := by decide +kernel
theorem dX8_cutWord_60 : decode mX8_cutWord.2.1 60 = .ok (.aload_n 0, 1) := by decide +kernel
theorem dX8_cutWord_61 : decode mX8_cutWord.2.1 61 = .ok (.invokevirtual 75, 3) := by decide +kernel
theorem dX8_cutWord_64 : decode mX8_cutWord.2.1 64 = .ok (.istore_n 1, 1) := by decide +kernel
theorem dX8_cutWord_65 : decode mX8_cutWord.2.1 65 = .ok (.iload_n 1, 1) := by decide +kernel
theorem dX8_cutWord_66 : decode mX8_cutWord.2.1 66 = .ok (.iconst (-1), 1) := by decide +kernel
theorem dX8_cutWord_67 : decode mX8_cutWord.2.1 67 = .ok (.if_icmp .eq 10, 3) := by decide +kernel
theorem dX8_cutWord_70 : decode mX8_cutWord.2.1 70 = .ok (.aload_n 0, 1) := by decide +kernel
theorem dX8_cutWord_71 : decode mX8_cutWord.2.1 71 = .ok (.iconst 3, 1) := by decide +kernel
theorem dX8_cutWord_72 : decode mX8_cutWord.2.1 72 = .ok (.iload_n 1, 1) := by decide +kernel
theorem dX8_cutWord_73 : decode mX8_cutWord.2.1 73 = .ok (.invokevirtual 50, 3) := by decide +kernel
theorem dX8_cutWord_76 : decode mX8_cutWord.2.1 76 = .ok (.ireturn, 1) := by decide +kernel
theorem dX8_cutWord_77 : decode mX8_cutWord.2.1 77 = .ok (.aload_n 0, 1) := by decide +kernel
theorem dX8_cutWord_78 : decode mX8_cutWord.2.1 78 = .ok (.invokevirtual 78, 3) := by decide +kernel
theorem dX8_cutWord_81 : decode mX8_cutWord.2.1 81 = .ok (.istore_n 2, 1) := by decide +kernel
theorem dX8_cutWord_82 : decode mX8_cutWord.2.1 82 = .ok (.aload_n 0, 1) := by decide +kernel
theorem dX8_cutWord_83 : decode mX8_cutWord.2.1 83 = .ok (.iload_n 2, 1) := by decide +kernel
theorem dX8_cutWord_84 : decode mX8_cutWord.2.1 84 = .ok (.iconst (-1), 1) := by decide +kernel
theorem dX8_cutWord_85 : decode mX8_cutWord.2.1 85 = .ok (.if_icmp .ne 7, 3) := by decide +kernel
theorem dX8_cutWord_88 : decode mX8_cutWord.2.1 88 = .ok (.iconst 1, 1) := by decide +kernel
theorem dX8_cutWord_89 : decode mX8_cutWord.2.1 89 = .ok (.goto 4, 3) := by decide +kernel
theorem dX8_cutWord_92 : decode mX8_cutWord.2.1 92 = .ok (.iconst 4, 1) := by decide +kernel
theorem dX8_cutWord_93 : decode mX8_cutWord.2.1 93 = .ok (.iload_n 2, 1) := by decide +kernel
theorem dX8_cutWord_94 : decode mX8_cutWord.2.1 94 = .ok (.invokevirtual 50, 3) := by decide +kernel
theorem dX8_cutWord_97 : decode mX8_cutWord.2.1 97 = .ok (.ireturn, 1) := by decide +kernel
theorem dX8_init_0 : decode mX8_init.2.1 0 = .ok (.aload_n 0, 1) := by decide +kernel
theorem dX8_init_1 : decode mX8_init.2.1 1 = .ok (.invokespecial 3, 3) := by decide +kernel
theorem dX8_init_4 : decode mX8_init.2.1 4 = .ok (.aload_n 0, 1) := by decide +kernel
theorem dX8_init_5 : decode mX8_init.2.1 5 = .ok (.sipush 401, 3) := by decide +kernel
theorem dX8_init_8 : decode mX8_init.2.1 8 = .ok (.newarray .int, 2) := by decide +kernel
theorem dX8_init_10 : decode mX8_init.2.1 10 = .ok (.putfield 9, 3) := by decide +kernel
theorem dX8_init_13 : decode mX8_init.2.1 13 = .ok (.aload_n 0, 1) := by decide +kernel
theorem dX8_init_14 : decode mX8_init.2.1 14 = .ok (.sipush 401, 3) := by decide +kernel
theorem dX8_init_17 : decode mX8_init.2.1 17 = .ok (.newarray .int, 2) := by decide +kernel
theorem dX8_init_19 : decode mX8_init.2.1 19 = .ok (.putfield 15, 3) := by decide +kernel
theorem dX8_init_22 : decode mX8_init.2.1 22 = .ok (.aload_n 0, 1) := by decide +kernel
theorem dX8_init_23 : decode mX8_init.2.1 23 = .ok (.sipush 401, 3) := by decide +kernel
theorem dX8_init_26 : decode mX8_init.2.1 26 = .ok (.newarray .int, 2) := by decide +kernel
theorem dX8_init_28 : decode mX8_init.2.1 28 = .ok (.putfield 18, 3) := by decide +kernel
theorem dX8_init_31 : decode mX8_init.2.1 31 = .ok (.aload_n 0, 1) := by decide +kernel
theorem dX8_init_32 : decode mX8_init.2.1 32 = .ok (.iconst 0, 1) := by decide +kernel
theorem dX8_init_33 : decode mX8_init.2.1 33 = .ok (.putfield 21, 3) := by decide +kernel
theorem dX8_init_36 : decode mX8_init.2.1 36 = .ok (.aload_n 0, 1) := by decide +kernel
theorem dX8_init_37 : decode mX8_init.2.1 37 = .ok (.iconst 0, 1) := by decide +kernel
theorem dX8_init_38 : decode mX8_init.2.1 38 = .ok (.putfield 25, 3) := by decide +kernel
theorem dX8_init_41 : decode mX8_init.2.1 41 = .ok (.aload_n 0, 1) := by decide +kernel
theorem dX8_init_42 : decode mX8_init.2.1 42 = .ok (.iconst 0, 1) := by decide +kernel
theorem dX8_init_43 : decode mX8_init.2.1 43 = .ok (.putfield 28, 3) := by decide +kernel
theorem dX8_init_46 : decode mX8_init.2.1 46 = .ok (.aload_n 0, 1) := by decide +kernel
theorem dX8_init_47 : decode mX8_init.2.1 47 = .ok (.aload_n 1, 1) := by decide +kernel
theorem dX8_init_48 : decode mX8_init.2.1 48 = .ok (.putfield 31, 3) := by decide +kernel
theorem dX8_init_51 : decode mX8_init.2.1 51 = .ok (.return_, 1) := by decide +kernel
theorem dX8_isBlank_0 : decode mX8_isBlank.2.1 0 = .ok (.iload_n 0, 1) := by decide +kernel
theorem dX8_isBlank_1 : decode mX8_isBlank.2.1 1 = .ok (.bipush 32, 2) := by decide +kernel
theorem dX8_isBlank_3 : decode mX8_isBlank.2.1 3 = .ok (.if_icmp .eq 9, 3) := by decide +kernel
theorem dX8_isBlank_6 : decode mX8_isBlank.2.1 6 = .ok (.iload_n 0, 1) := by decide +kernel
theorem dX8_isBlank_7 : decode mX8_isBlank.2.1 7 = .ok (.bipush 10, 2) := by decide +kernel
theorem dX8_isBlank_9 : decode mX8_isBlank.2.1 9 = .ok (.if_icmp .ne 7, 3) := by decide +kernel
theorem dX8_isBlank_12 : decode mX8_isBlank.2.1 12 = .ok (.iconst 1, 1) := by decide +kernel
theorem dX8_isBlank_13 : decode mX8_isBlank.2.1 13 = .ok (.goto 4, 3) := by decide +kernel
theorem dX8_isBlank_16 : decode mX8_isBlank.2.1 16 = .ok (.iconst 0, 1) := by decide +kernel
theorem dX8_isBlank_17 : decode mX8_isBlank.2.1 17 = .ok (.ireturn, 1) := by decide +kernel
theorem dX8_isDigit_0 : decode mX8_isDigit.2.1 0 = .ok (.iload_n 0, 1) := by decide +kernel
theorem dX8_isDigit_1 : decode mX8_isDigit.2.1 1 = .ok (.bipush 48, 2) := by decide +kernel
theorem dX8_isDigit_3 : decode mX8_isDigit.2.1 3 = .ok (.if_icmp .lt 13, 3) := by decide +kernel
theorem dX8_isDigit_6 : decode mX8_isDigit.2.1 6 = .ok (.iload_n 0, 1) := by decide +kernel
theorem dX8_isDigit_7 : decode mX8_isDigit.2.1 7 = .ok (.bipush 57, 2) := by decide +kernel
theorem dX8_isDigit_9 : decode mX8_isDigit.2.1 9 = .ok (.if_icmp .gt 7, 3) := by decide +kernel
theorem dX8_isDigit_12 : decode mX8_isDigit.2.1 12 = .ok (.iconst 1, 1) := by decide +kernel
theorem dX8_isDigit_13 : decode mX8_isDigit.2.1 13 = .ok (.goto 4, 3) := by decide +kernel
theorem dX8_isDigit_16 : decode mX8_isDigit.2.1 16 = .ok (.iconst 0, 1) := by decide +kernel
theorem dX8_isDigit_17 : decode mX8_isDigit.2.1 17 = .ok (.ireturn, 1) := by decide +kernel
theorem dX8_isLetter_0 : decode mX8_isLetter.2.1 0 = .ok (.iload_n 0, 1) := by decide +kernel
theorem dX8_isLetter_1 : decode mX8_isLetter.2.1 1 = .ok (.bipush 97, 2) := by decide +kernel
theorem dX8_isLetter_3 : decode mX8_isLetter.2.1 3 = .ok (.if_icmp .lt 13, 3) := by decide +kernel
theorem dX8_isLetter_6 : decode mX8_isLetter.2.1 6 = .ok (.iload_n 0, 1) := by decide +kernel
theorem dX8_isLetter_7 : decode mX8_isLetter.2.1 7 = .ok (.bipush 122, 2) := by decide +kernel
theorem dX8_isLetter_9 : decode mX8_isLetter.2.1 9 = .ok (.if_icmp .gt 7, 3) := by decide +kernel
theorem dX8_isLetter_12 : decode mX8_isLetter.2.1 12 = .ok (.iconst 1, 1) := by decide +kernel
theorem dX8_isLetter_13 : decode mX8_isLetter.2.1 13 = .ok (.goto 4, 3) := by decide +kernel
theorem dX8_isLetter_16 : decode mX8_isLetter.2.1 16 = .ok (.iconst 0, 1) := by decide +kernel
theorem dX8_isLetter_17 : decode mX8_isLetter.2.1 17 = .ok (.ireturn, 1) := by decide +kernel
theorem dX8_kindSpelt_0 : decode mX8_kindSpelt.2.1 0 = .ok (.aload_n 0, 1) := by decide +kernel
theorem dX8_kindSpelt_1 : decode mX8_kindSpelt.2.1 1 = .ok (.ldc 81, 2) := by decide +kernel
theorem dX8_kindSpelt_3 : decode mX8_kindSpelt.2.1 3 = .ok (.invokevirtual 71, 3) := by decide +kernel
theorem dX8_kindSpelt_6 : decode mX8_kindSpelt.2.1 6 = .ok (.ifCond .eq 7, 3) := by decide +kernel
theorem dX8_kindSpelt_9 : decode mX8_kindSpelt.2.1 9 = .ok (.iconst 0, 1) := by decide +kernel
theorem dX8_kindSpelt_10 : decode mX8_kindSpelt.2.1 10 = .ok (.goto 43, 3) := by decide +kernel
theorem dX8_kindSpelt_13 : decode mX8_kindSpelt.2.1 13 = .ok (.aload_n 0, 1) := by decide +kernel
theorem dX8_kindSpelt_14 : decode mX8_kindSpelt.2.1 14 = .ok (.ldc 83, 2) := by decide +kernel
theorem dX8_kindSpelt_16 : decode mX8_kindSpelt.2.1 16 = .ok (.invokevirtual 71, 3) := by decide +kernel
theorem dX8_kindSpelt_19 : decode mX8_kindSpelt.2.1 19 = .ok (.ifCond .eq 7, 3) := by decide +kernel
theorem dX8_kindSpelt_22 : decode mX8_kindSpelt.2.1 22 = .ok (.iconst 1, 1) := by decide +kernel
theorem dX8_kindSpelt_23 : decode mX8_kindSpelt.2.1 23 = .ok (.goto 30, 3) := by decide +kernel
theorem dX8_kindSpelt_26 : decode mX8_kindSpelt.2.1 26 = .ok (.aload_n 0, 1) := by decide +kernel
theorem dX8_kindSpelt_27 : decode mX8_kindSpelt.2.1 27 = .ok (.ldc 85, 2) := by decide +kernel
theorem dX8_kindSpelt_29 : decode mX8_kindSpelt.2.1 29 = .ok (.invokevirtual 71, 3) := by decide +kernel
theorem dX8_kindSpelt_32 : decode mX8_kindSpelt.2.1 32 = .ok (.ifCond .eq 7, 3) := by decide +kernel
theorem dX8_kindSpelt_35 : decode mX8_kindSpelt.2.1 35 = .ok (.iconst 2, 1) := by decide +kernel
theorem dX8_kindSpelt_36 : decode mX8_kindSpelt.2.1 36 = .ok (.goto 17, 3) := by decide +kernel
theorem dX8_kindSpelt_39 : decode mX8_kindSpelt.2.1 39 = .ok (.aload_n 0, 1) := by decide +kernel
theorem dX8_kindSpelt_40 : decode mX8_kindSpelt.2.1 40 = .ok (.ldc 87, 2) := by decide +kernel
theorem dX8_kindSpelt_42 : decode mX8_kindSpelt.2.1 42 = .ok (.invokevirtual 71, 3) := by decide +kernel
theorem dX8_kindSpelt_45 : decode mX8_kindSpelt.2.1 45 = .ok (.ifCond .eq 7, 3) := by decide +kernel
theorem dX8_kindSpelt_48 : decode mX8_kindSpelt.2.1 48 = .ok (.iconst 3, 1) := by decide +kernel
theorem dX8_kindSpelt_49 : decode mX8_kindSpelt.2.1 49 = .ok (.goto 4, 3) := by decide +kernel
theorem dX8_kindSpelt_52 : decode mX8_kindSpelt.2.1 52 = .ok (.iconst (-1), 1) := by decide +kernel
theorem dX8_kindSpelt_53 : decode mX8_kindSpelt.2.1 53 = .ok (.ireturn, 1) := by decide +kernel
theorem dX8_measureSpelt_0 : decode mX8_measureSpelt.2.1 0 = .ok (.aload_n 0, 1) := by decide +kernel
theorem dX8_measureSpelt_1 : decode mX8_measureSpelt.2.1 1 = .ok (.ldc 89, 2) := by decide +kernel
theorem dX8_measureSpelt_3 : decode mX8_measureSpelt.2.1 3 = .ok (.invokevirtual 71, 3) := by decide +kernel
theorem dX8_measureSpelt_6 : decode mX8_measureSpelt.2.1 6 = .ok (.ifCond .eq 7, 3) := by decide +kernel
theorem dX8_measureSpelt_9 : decode mX8_measureSpelt.2.1 9 = .ok (.iconst 0, 1) := by decide +kernel
theorem dX8_measureSpelt_10 : decode mX8_measureSpelt.2.1 10 = .ok (.goto 30, 3) := by decide +kernel
theorem dX8_measureSpelt_13 : decode mX8_measureSpelt.2.1 13 = .ok (.aload_n 0, 1) := by decide +kernel
theorem dX8_measureSpelt_14 : decode mX8_measureSpelt.2.1 14 = .ok (.ldc 91, 2) := by decide +kernel
theorem dX8_measureSpelt_16 : decode mX8_measureSpelt.2.1 16 = .ok (.invokevirtual 71, 3) := by decide +kernel
theorem dX8_measureSpelt_19 : decode mX8_measureSpelt.2.1 19 = .ok (.ifCond .eq 7, 3) := by decide +kernel
theorem dX8_measureSpelt_22 : decode mX8_measureSpelt.2.1 22 = .ok (.iconst 1, 1) := by decide +kernel
theorem dX8_measureSpelt_23 : decode mX8_measureSpelt.2.1 23 = .ok (.goto 17, 3) := by decide +kernel
theorem dX8_measureSpelt_26 : decode mX8_measureSpelt.2.1 26 = .ok (.aload_n 0, 1) := by decide +kernel
theorem dX8_measureSpelt_27 : decode mX8_measureSpelt.2.1 27 = .ok (.ldc 93, 2) := by decide +kernel
theorem dX8_measureSpelt_29 : decode mX8_measureSpelt.2.1 29 = .ok (.invokevirtual 71, 3) := by decide +kernel
theorem dX8_measureSpelt_32 : decode mX8_measureSpelt.2.1 32 = .ok (.ifCond .eq 7, 3) := by decide +kernel
theorem dX8_measureSpelt_35 : decode mX8_measureSpelt.2.1 35 = .ok (.iconst 2, 1) := by decide +kernel
theorem dX8_measureSpelt_36 : decode mX8_measureSpelt.2.1 36 = .ok (.goto 4, 3) := by decide +kernel
theorem dX8_measureSpelt_39 : decode mX8_measureSpelt.2.1 39 = .ok (.iconst (-1), 1) := by decide +kernel
theorem dX8_measureSpelt_40 : decode mX8_measureSpelt.2.1 40 = .ok (.ireturn, 1) := by decide +kernel
theorem dX8_signType_0 : decode mX8_signType.2.1 0 = .ok (.iload_n 0, 1) := by decide +kernel
theorem dX8_signType_1 : decode mX8_signType.2.1 1 = .ok (.tableswitch 99 45 62 #[96, 99, 99, 99, 99, 99, 99, 99, 99, 99, 99, 99, 99, 90, 93, 87, 87, 87], 87) := by decide +kernel
theorem dX8_signType_88 : decode mX8_signType.2.1 88 = .ok (.bipush 6, 2) := by decide +kernel
theorem dX8_signType_90 : decode mX8_signType.2.1 90 = .ok (.ireturn, 1) := by decide +kernel
theorem dX8_signType_91 : decode mX8_signType.2.1 91 = .ok (.bipush 7, 2) := by decide +kernel
theorem dX8_signType_93 : decode mX8_signType.2.1 93 = .ok (.ireturn, 1) := by decide +kernel
theorem dX8_signType_94 : decode mX8_signType.2.1 94 = .ok (.bipush 8, 2) := by decide +kernel
theorem dX8_signType_96 : decode mX8_signType.2.1 96 = .ok (.ireturn, 1) := by decide +kernel
theorem dX8_signType_97 : decode mX8_signType.2.1 97 = .ok (.bipush 9, 2) := by decide +kernel
theorem dX8_signType_99 : decode mX8_signType.2.1 99 = .ok (.ireturn, 1) := by decide +kernel
theorem dX8_signType_100 : decode mX8_signType.2.1 100 = .ok (.iconst 1, 1) := by decide +kernel
theorem dX8_signType_101 : decode mX8_signType.2.1 101 = .ok (.ireturn, 1) := by decide +kernel
theorem dX8_spells_0 : decode mX8_spells.2.1 0 = .ok (.aload_n 0, 1) := by decide +kernel
theorem dX8_spells_1 : decode mX8_spells.2.1 1 = .ok (.getfield 28, 3) := by decide +kernel
theorem dX8_spells_4 : decode mX8_spells.2.1 4 = .ok (.aload_n 0, 1) := by decide +kernel
theorem dX8_spells_5 : decode mX8_spells.2.1 5 = .ok (.getfield 25, 3) := by decide +kernel
theorem dX8_spells_8 : decode mX8_spells.2.1 8 = .ok (.isub, 1) := by decide +kernel
theorem dX8_spells_9 : decode mX8_spells.2.1 9 = .ok (.aload_n 1, 1) := by decide +kernel
theorem dX8_spells_10 : decode mX8_spells.2.1 10 = .ok (.invokevirtual 95, 3) := by decide +kernel
theorem dX8_spells_13 : decode mX8_spells.2.1 13 = .ok (.if_icmp .eq 5, 3) := by decide +kernel
theorem dX8_spells_16 : decode mX8_spells.2.1 16 = .ok (.iconst 0, 1) := by decide +kernel
theorem dX8_spells_17 : decode mX8_spells.2.1 17 = .ok (.ireturn, 1) := by decide +kernel
theorem dX8_spells_18 : decode mX8_spells.2.1 18 = .ok (.iconst 0, 1) := by decide +kernel
theorem dX8_spells_19 : decode mX8_spells.2.1 19 = .ok (.istore_n 2, 1) := by decide +kernel
theorem dX8_spells_20 : decode mX8_spells.2.1 20 = .ok (.iload_n 2, 1) := by decide +kernel
theorem dX8_spells_21 : decode mX8_spells.2.1 21 = .ok (.aload_n 1, 1) := by decide +kernel
theorem dX8_spells_22 : decode mX8_spells.2.1 22 = .ok (.invokevirtual 95, 3) := by decide +kernel
theorem dX8_spells_25 : decode mX8_spells.2.1 25 = .ok (.if_icmp .ge 32, 3) := by decide +kernel
theorem dX8_spells_28 : decode mX8_spells.2.1 28 = .ok (.aload_n 0, 1) := by decide +kernel
theorem dX8_spells_29 : decode mX8_spells.2.1 29 = .ok (.getfield 31, 3) := by decide +kernel
theorem dX8_spells_32 : decode mX8_spells.2.1 32 = .ok (.aload_n 0, 1) := by decide +kernel
theorem dX8_spells_33 : decode mX8_spells.2.1 33 = .ok (.getfield 25, 3) := by decide +kernel
theorem dX8_spells_36 : decode mX8_spells.2.1 36 = .ok (.iload_n 2, 1) := by decide +kernel
theorem dX8_spells_37 : decode mX8_spells.2.1 37 = .ok (.iadd, 1) := by decide +kernel
theorem dX8_spells_38 : decode mX8_spells.2.1 38 = .ok (.invokevirtual 42, 3) := by decide +kernel
theorem dX8_spells_41 : decode mX8_spells.2.1 41 = .ok (.aload_n 1, 1) := by decide +kernel
theorem dX8_spells_42 : decode mX8_spells.2.1 42 = .ok (.iload_n 2, 1) := by decide +kernel
theorem dX8_spells_43 : decode mX8_spells.2.1 43 = .ok (.invokevirtual 100, 3) := by decide +kernel
theorem dX8_spells_46 : decode mX8_spells.2.1 46 = .ok (.if_icmp .eq 5, 3) := by decide +kernel
theorem dX8_spells_49 : decode mX8_spells.2.1 49 = .ok (.iconst 0, 1) := by decide +kernel
theorem dX8_spells_50 : decode mX8_spells.2.1 50 = .ok (.ireturn, 1) := by decide +kernel
theorem dX8_spells_51 : decode mX8_spells.2.1 51 = .ok (.iinc 2 1, 3) := by decide +kernel
theorem dX8_spells_54 : decode mX8_spells.2.1 54 = .ok (.goto (-34), 3) := by decide +kernel
theorem dX8_spells_57 : decode mX8_spells.2.1 57 = .ok (.iconst 1, 1) := by decide +kernel
theorem dX8_spells_58 : decode mX8_spells.2.1 58 = .ok (.ireturn, 1) := by decide +kernel
theorem dX9_arrive_0 : decode mX9_arrive.2.1 0 = .ok (.aload_n 0, 1) := by decide +kernel
theorem dX9_arrive_1 : decode mX9_arrive.2.1 1 = .ok (.aload_n 0, 1) := by decide +kernel
theorem dX9_arrive_2 : decode mX9_arrive.2.1 2 = .ok (.getfield 21, 3) := by decide +kernel
theorem dX9_arrive_5 : decode mX9_arrive.2.1 5 = .ok (.ifCond .eq 12, 3) := by decide +kernel
theorem dX9_arrive_8 : decode mX9_arrive.2.1 8 = .ok (.aload_n 0, 1) := by decide +kernel
theorem dX9_arrive_9 : decode mX9_arrive.2.1 9 = .ok (.getfield 17, 3) := by decide +kernel
theorem dX9_arrive_12 : decode mX9_arrive.2.1 12 = .ok (.iconst 1, 1) := by decide +kernel
theorem dX9_arrive_13 : decode mX9_arrive.2.1 13 = .ok (.iadd, 1) := by decide +kernel
theorem dX9_arrive_14 : decode mX9_arrive.2.1 14 = .ok (.goto 7, 3) := by decide +kernel
theorem dX9_arrive_17 : decode mX9_arrive.2.1 17 = .ok (.aload_n 0, 1) := by decide +kernel
theorem dX9_arrive_18 : decode mX9_arrive.2.1 18 = .ok (.getfield 17, 3) := by decide +kernel
theorem dX9_arrive_21 : decode mX9_arrive.2.1 21 = .ok (.putfield 31, 3) := by decide +kernel
theorem dX9_arrive_24 : decode mX9_arrive.2.1 24 = .ok (.aload_n 0, 1) := by decide +kernel
theorem dX9_arrive_25 : decode mX9_arrive.2.1 25 = .ok (.iconst (-1), 1) := by decide +kernel
theorem dX9_arrive_26 : decode mX9_arrive.2.1 26 = .ok (.putfield 17, 3) := by decide +kernel
theorem dX9_arrive_29 : decode mX9_arrive.2.1 29 = .ok (.aload_n 0, 1) := by decide +kernel
theorem dX9_arrive_30 : decode mX9_arrive.2.1 30 = .ok (.iconst (-1), 1) := by decide +kernel
theorem dX9_arrive_31 : decode mX9_arrive.2.1 31 = .ok (.putfield 25, 3) := by decide +kernel
theorem dX9_arrive_34 : decode mX9_arrive.2.1 34 = .ok (.return_, 1) := by decide +kernel
theorem dX9_goThrough_0 : decode mX9_goThrough.2.1 0 = .ok (.aload_n 0, 1) := by decide +kernel
theorem dX9_goThrough_1 : decode mX9_goThrough.2.1 1 = .ok (.getfield 17, 3) := by decide +kernel
theorem dX9_goThrough_4 : decode mX9_goThrough.2.1 4 = .ok (.iconst (-1), 1) := by decide +kernel
theorem dX9_goThrough_5 : decode mX9_goThrough.2.1 5 = .ok (.if_icmp .ne 7, 3) := by decide +kernel
theorem dX9_goThrough_8 : decode mX9_goThrough.2.1 8 = .ok (.iconst 1, 1) := by decide +kernel
theorem dX9_goThrough_9 : decode mX9_goThrough.2.1 9 = .ok (.goto 4, 3) := by decide +kernel
theorem dX9_goThrough_12 : decode mX9_goThrough.2.1 12 = .ok (.iconst 0, 1) := by decide +kernel
theorem dX9_goThrough_13 : decode mX9_goThrough.2.1 13 = .ok (.istore_n 3, 1) := by decide +kernel
theorem dX9_goThrough_14 : decode mX9_goThrough.2.1 14 = .ok (.iconst 0, 1) := by decide +kernel
theorem dX9_goThrough_15 : decode mX9_goThrough.2.1 15 = .ok (.istore 4, 2) := by decide +kernel
theorem dX9_goThrough_17 : decode mX9_goThrough.2.1 17 = .ok (.iload 4, 2) := by decide +kernel
theorem dX9_goThrough_19 : decode mX9_goThrough.2.1 19 = .ok (.iconst 3, 1) := by decide +kernel
theorem dX9_goThrough_20 : decode mX9_goThrough.2.1 20 = .ok (.if_icmp .ge 38, 3) := by decide +kernel
theorem dX9_goThrough_23 : decode mX9_goThrough.2.1 23 = .ok (.iload_n 3, 1) := by decide +kernel
theorem dX9_goThrough_24 : decode mX9_goThrough.2.1 24 = .ok (.ifCond .eq 16, 3) := by decide +kernel
theorem dX9_goThrough_27 : decode mX9_goThrough.2.1 27 = .ok (.aload_n 0, 1) := by decide +kernel
theorem dX9_goThrough_28 : decode mX9_goThrough.2.1 28 = .ok (.getfield 11, 3) := by decide +kernel
theorem dX9_goThrough_31 : decode mX9_goThrough.2.1 31 = .ok (.iload 4, 2) := by decide +kernel
theorem dX9_goThrough_33 : decode mX9_goThrough.2.1 33 = .ok (.aaload, 1) := by decide +kernel
theorem dX9_goThrough_34 : decode mX9_goThrough.2.1 34 = .ok (.invokevirtual 41, 3) := by decide +kernel
theorem dX9_goThrough_37 : decode mX9_goThrough.2.1 37 = .ok (.goto 15, 3) := by decide +kernel
theorem dX9_goThrough_40 : decode mX9_goThrough.2.1 40 = .ok (.aload_n 0, 1) := by decide +kernel
theorem dX9_goThrough_41 : decode mX9_goThrough.2.1 41 = .ok (.getfield 11, 3) := by decide +kernel
theorem dX9_goThrough_44 : decode mX9_goThrough.2.1 44 = .ok (.iload 4, 2) := by decide +kernel
theorem dX9_goThrough_46 : decode mX9_goThrough.2.1 46 = .ok (.aaload, 1) := by decide +kernel
theorem dX9_goThrough_47 : decode mX9_goThrough.2.1 47 = .ok (.iload_n 2, 1) := by decide +kernel
theorem dX9_goThrough_48 : decode mX9_goThrough.2.1 48 = .ok (.iload_n 1, 1) := by decide +kernel
theorem dX9_goThrough_49 : decode mX9_goThrough.2.1 49 = .ok (.invokevirtual 44, 3) := by decide +kernel
theorem dX9_goThrough_52 : decode mX9_goThrough.2.1 52 = .ok (.iinc 4 1, 3) := by decide +kernel
theorem dX9_goThrough_55 : decode mX9_goThrough.2.1 55 = .ok (.goto (-38), 3) := by decide +kernel
theorem dX9_goThrough_58 : decode mX9_goThrough.2.1 58 = .ok (.iload_n 3, 1) := by decide +kernel
theorem dX9_goThrough_59 : decode mX9_goThrough.2.1 59 = .ok (.ifCond .ne 17, 3) := by decide +kernel
theorem dX9_goThrough_62 : decode mX9_goThrough.2.1 62 = .ok (.aload_n 0, 1) := by decide +kernel
theorem dX9_goThrough_63 : decode mX9_goThrough.2.1 63 = .ok (.getfield 25, 3) := by decide +kernel
theorem dX9_goThrough_66 : decode mX9_goThrough.2.1 66 = .ok (.iload_n 1, 1) := by decide +kernel
theorem dX9_goThrough_67 : decode mX9_goThrough.2.1 67 = .ok (.iconst 1, 1) := by decide +kernel
theorem dX9_goThrough_68 : decode mX9_goThrough.2.1 68 = .ok (.iadd, 1) := by decide +kernel
theorem dX9_goThrough_69 : decode mX9_goThrough.2.1 69 = .ok (.if_icmp .ne 7, 3) := by decide +kernel
theorem dX9_goThrough_72 : decode mX9_goThrough.2.1 72 = .ok (.aload_n 0, 1) := by decide +kernel
theorem dX9_goThrough_73 : decode mX9_goThrough.2.1 73 = .ok (.invokevirtual 48, 3) := by decide +kernel
theorem dX9_goThrough_76 : decode mX9_goThrough.2.1 76 = .ok (.return_, 1) := by decide +kernel
theorem dX9_init_0 : decode mX9_init.2.1 0 = .ok (.aload_n 0, 1) := by decide +kernel
theorem dX9_init_1 : decode mX9_init.2.1 1 = .ok (.invokespecial 3, 3) := by decide +kernel
theorem dX9_init_4 : decode mX9_init.2.1 4 = .ok (.aload_n 0, 1) := by decide +kernel
theorem dX9_init_5 : decode mX9_init.2.1 5 = .ok (.iconst 3, 1) := by decide +kernel
theorem dX9_init_6 : decode mX9_init.2.1 6 = .ok (.anewarray 9, 3) := by decide +kernel
theorem dX9_init_9 : decode mX9_init.2.1 9 = .ok (.putfield 11, 3) := by decide +kernel
theorem dX9_init_12 : decode mX9_init.2.1 12 = .ok (.aload_n 0, 1) := by decide +kernel
theorem dX9_init_13 : decode mX9_init.2.1 13 = .ok (.iconst (-1), 1) := by decide +kernel
theorem dX9_init_14 : decode mX9_init.2.1 14 = .ok (.putfield 17, 3) := by decide +kernel
theorem dX9_init_17 : decode mX9_init.2.1 17 = .ok (.aload_n 0, 1) := by decide +kernel
theorem dX9_init_18 : decode mX9_init.2.1 18 = .ok (.iconst 0, 1) := by decide +kernel
theorem dX9_init_19 : decode mX9_init.2.1 19 = .ok (.putfield 21, 3) := by decide +kernel
theorem dX9_init_22 : decode mX9_init.2.1 22 = .ok (.aload_n 0, 1) := by decide +kernel
theorem dX9_init_23 : decode mX9_init.2.1 23 = .ok (.iconst (-1), 1) := by decide +kernel
theorem dX9_init_24 : decode mX9_init.2.1 24 = .ok (.putfield 25, 3) := by decide +kernel
theorem dX9_init_27 : decode mX9_init.2.1 27 = .ok (.aload_n 0, 1) := by decide +kernel
theorem dX9_init_28 : decode mX9_init.2.1 28 = .ok (.iconst 0, 1) := by decide +kernel
theorem dX9_init_29 : decode mX9_init.2.1 29 = .ok (.putfield 28, 3) := by decide +kernel
theorem dX9_init_32 : decode mX9_init.2.1 32 = .ok (.aload_n 0, 1) := by decide +kernel
theorem dX9_init_33 : decode mX9_init.2.1 33 = .ok (.iload_n 1, 1) := by decide +kernel
theorem dX9_init_34 : decode mX9_init.2.1 34 = .ok (.putfield 31, 3) := by decide +kernel
theorem dX9_init_37 : decode mX9_init.2.1 37 = .ok (.aload_n 0, 1) := by decide +kernel
theorem dX9_init_38 : decode mX9_init.2.1 38 = .ok (.getfield 11, 3) := by decide +kernel
theorem dX9_init_41 : decode mX9_init.2.1 41 = .ok (.iconst 0, 1) := by decide +kernel
theorem dX9_init_42 : decode mX9_init.2.1 42 = .ok (.new 9, 3) := by decide +kernel
theorem dX9_init_45 : decode mX9_init.2.1 45 = .ok (.dup, 1) := by decide +kernel
theorem dX9_init_46 : decode mX9_init.2.1 46 = .ok (.iload_n 2, 1) := by decide +kernel
theorem dX9_init_47 : decode mX9_init.2.1 47 = .ok (.invokespecial 34, 3) := by decide +kernel
theorem dX9_init_50 : decode mX9_init.2.1 50 = .ok (.aastore, 1) := by decide +kernel
theorem dX9_init_51 : decode mX9_init.2.1 51 = .ok (.aload_n 0, 1) := by decide +kernel
theorem dX9_init_52 : decode mX9_init.2.1 52 = .ok (.getfield 11, 3) := by decide +kernel
theorem dX9_init_55 : decode mX9_init.2.1 55 = .ok (.iconst 1, 1) := by decide +kernel
theorem dX9_init_56 : decode mX9_init.2.1 56 = .ok (.new 9, 3) := by decide +kernel
theorem dX9_init_59 : decode mX9_init.2.1 59 = .ok (.dup, 1) := by decide +kernel
theorem dX9_init_60 : decode mX9_init.2.1 60 = .ok (.iload_n 3, 1) := by decide +kernel
theorem dX9_init_61 : decode mX9_init.2.1 61 = .ok (.invokespecial 34, 3) := by decide +kernel
theorem dX9_init_64 : decode mX9_init.2.1 64 = .ok (.aastore, 1) := by decide +kernel
theorem dX9_init_65 : decode mX9_init.2.1 65 = .ok (.aload_n 0, 1) := by decide +kernel
theorem dX9_init_66 : decode mX9_init.2.1 66 = .ok (.getfield 11, 3) := by decide +kernel
theorem dX9_init_69 : decode mX9_init.2.1 69 = .ok (.iconst 2, 1) := by decide +kernel
theorem dX9_init_70 : decode mX9_init.2.1 70 = .ok (.new 9, 3) := by decide +kernel
theorem dX9_init_73 : decode mX9_init.2.1 73 = .ok (.dup, 1) := by decide +kernel
theorem dX9_init_74 : decode mX9_init.2.1 74 = .ok (.iload 4, 2) := by decide +kernel
theorem dX9_init_76 : decode mX9_init.2.1 76 = .ok (.invokespecial 34, 3) := by decide +kernel
theorem dX9_init_79 : decode mX9_init.2.1 79 = .ok (.aastore, 1) := by decide +kernel
theorem dX9_init_80 : decode mX9_init.2.1 80 = .ok (.return_, 1) := by decide +kernel
theorem dX9_isFit_0 : decode mX9_isFit.2.1 0 = .ok (.iconst 0, 1) := by decide +kernel
theorem dX9_isFit_1 : decode mX9_isFit.2.1 1 = .ok (.istore_n 1, 1) := by decide +kernel
theorem dX9_isFit_2 : decode mX9_isFit.2.1 2 = .ok (.iload_n 1, 1) := by decide +kernel
theorem dX9_isFit_3 : decode mX9_isFit.2.1 3 = .ok (.iconst 3, 1) := by decide +kernel
theorem dX9_isFit_4 : decode mX9_isFit.2.1 4 = .ok (.if_icmp .ge 23, 3) := by decide +kernel
theorem dX9_isFit_7 : decode mX9_isFit.2.1 7 = .ok (.aload_n 0, 1) := by decide +kernel
theorem dX9_isFit_8 : decode mX9_isFit.2.1 8 = .ok (.getfield 11, 3) := by decide +kernel
theorem dX9_isFit_11 : decode mX9_isFit.2.1 11 = .ok (.iload_n 1, 1) := by decide +kernel
theorem dX9_isFit_12 : decode mX9_isFit.2.1 12 = .ok (.aaload, 1) := by decide +kernel
theorem dX9_isFit_13 : decode mX9_isFit.2.1 13 = .ok (.invokevirtual 37, 3) := by decide +kernel
theorem dX9_isFit_16 : decode mX9_isFit.2.1 16 = .ok (.ifCond .ne 5, 3) := by decide +kernel
theorem dX9_isFit_19 : decode mX9_isFit.2.1 19 = .ok (.iconst 0, 1) := by decide +kernel
theorem dX9_isFit_20 : decode mX9_isFit.2.1 20 = .ok (.ireturn, 1) := by decide +kernel
theorem dX9_isFit_21 : decode mX9_isFit.2.1 21 = .ok (.iinc 1 1, 3) := by decide +kernel
theorem dX9_isFit_24 : decode mX9_isFit.2.1 24 = .ok (.goto (-22), 3) := by decide +kernel
theorem dX9_isFit_27 : decode mX9_isFit.2.1 27 = .ok (.iconst 1, 1) := by decide +kernel
theorem dX9_isFit_28 : decode mX9_isFit.2.1 28 = .ok (.ireturn, 1) := by decide +kernel
theorem dX9_leave_0 : decode mX9_leave.2.1 0 = .ok (.aload_n 0, 1) := by decide +kernel
theorem dX9_leave_1 : decode mX9_leave.2.1 1 = .ok (.iconst (-1), 1) := by decide +kernel
theorem dX9_leave_2 : decode mX9_leave.2.1 2 = .ok (.putfield 31, 3) := by decide +kernel
theorem dX9_leave_5 : decode mX9_leave.2.1 5 = .ok (.aload_n 0, 1) := by decide +kernel
theorem dX9_leave_6 : decode mX9_leave.2.1 6 = .ok (.iload_n 1, 1) := by decide +kernel
theorem dX9_leave_7 : decode mX9_leave.2.1 7 = .ok (.putfield 17, 3) := by decide +kernel
theorem dX9_leave_10 : decode mX9_leave.2.1 10 = .ok (.aload_n 0, 1) := by decide +kernel
theorem dX9_leave_11 : decode mX9_leave.2.1 11 = .ok (.iload_n 2, 1) := by decide +kernel
theorem dX9_leave_12 : decode mX9_leave.2.1 12 = .ok (.putfield 21, 3) := by decide +kernel
theorem dX9_leave_15 : decode mX9_leave.2.1 15 = .ok (.aload_n 0, 1) := by decide +kernel
theorem dX9_leave_16 : decode mX9_leave.2.1 16 = .ok (.iload_n 3, 1) := by decide +kernel
theorem dX9_leave_17 : decode mX9_leave.2.1 17 = .ok (.putfield 25, 3) := by decide +kernel
theorem dX9_leave_20 : decode mX9_leave.2.1 20 = .ok (.return_, 1) := by decide +kernel
theorem dX9_muleAt_0 : decode mX9_muleAt.2.1 0 = .ok (.iload_n 1, 1) := by decide +kernel
theorem dX9_muleAt_1 : decode mX9_muleAt.2.1 1 = .ok (.ifCond .lt 8, 3) := by decide +kernel
theorem dX9_muleAt_4 : decode mX9_muleAt.2.1 4 = .ok (.iload_n 1, 1) := by decide +kernel
theorem dX9_muleAt_5 : decode mX9_muleAt.2.1 5 = .ok (.iconst 3, 1) := by decide +kernel
theorem dX9_muleAt_6 : decode mX9_muleAt.2.1 6 = .ok (.if_icmp .lt 7, 3) := by decide +kernel
theorem dX9_muleAt_9 : decode mX9_muleAt.2.1 9 = .ok (.aconst_null, 1) := by decide +kernel
theorem dX9_muleAt_10 : decode mX9_muleAt.2.1 10 = .ok (.goto 9, 3) := by decide +kernel
theorem dX9_muleAt_13 : decode mX9_muleAt.2.1 13 = .ok (.aload_n 0, 1) := by decide +kernel
theorem dX9_muleAt_14 : decode mX9_muleAt.2.1 14 = .ok (.getfield 11, 3) := by decide +kernel
theorem dX9_muleAt_17 : decode mX9_muleAt.2.1 17 = .ok (.iload_n 1, 1) := by decide +kernel
theorem dX9_muleAt_18 : decode mX9_muleAt.2.1 18 = .ok (.aaload, 1) := by decide +kernel
theorem dX9_muleAt_19 : decode mX9_muleAt.2.1 19 = .ok (.areturn, 1) := by decide +kernel
end
section
theorem fX10_10 : q_fl RX10 10 10 0 := ⟨(RX10, TX10, 13), rfl, by decide, Or.inl (q_in (by decide +kernel) (by decide +kernel))⟩
theorem fX10_18 : q_fl RX10 18 10 1 := ⟨(RX10, TX10, 13), rfl, by decide, Or.inl (q_in (by decide +kernel) (by decide +kernel))⟩
theorem fX10_24 : q_fl RX10 24 10 2 := ⟨(RX10, TX10, 13), rfl, by decide, Or.inl (q_in (by decide +kernel) (by decide +kernel))⟩
theorem fX10_30 : q_fl RX10 30 10 3 := ⟨(RX10, TX10, 13), rfl, by decide, Or.inl (q_in (by decide +kernel) (by decide +kernel))⟩
theorem fX10_37 : q_fl RX10 37 10 4 := ⟨(RX10, TX10, 13), rfl, by decide, Or.inl (q_in (by decide +kernel) (by decide +kernel))⟩
theorem fX10_44 : q_fl RX10 44 10 5 := ⟨(RX10, TX10, 13), rfl, by decide, Or.inl (q_in (by decide +kernel) (by decide +kernel))⟩
theorem fX10_53 : q_fl RX10 53 10 6 := ⟨(RX10, TX10, 13), rfl, by decide, Or.inl (q_in (by decide +kernel) (by decide +kernel))⟩
theorem fX10_60 : q_fl RX10 60 10 7 := ⟨(RX10, TX10, 13), rfl, by decide, Or.inl (q_in (by decide +kernel) (by decide +kernel))⟩
theorem fX10_64 : q_fl RX10 64 10 8 := ⟨(RX10, TX10, 13), rfl, by decide, Or.inl (q_in (by decide +kernel) (by decide +kernel))⟩
theorem fX10_68 : q_fl RX10 68 10 9 := ⟨(RX10, TX10, 13), rfl, by decide, Or.inl (q_in (by decide +kernel) (by decide +kernel))⟩
theorem fX10_71 : q_fl RX10 71 10 10 := ⟨(RX10, TX10, 13), rfl, by decide, Or.inl (q_in (by decide +kernel) (by decide +kernel))⟩
theorem fX10_74 : q_fl RX10 74 10 11 := ⟨(RX10, TX10, 13), rfl, by decide, Or.inl (q_in (by decide +kernel) (by decide +kernel))⟩
theorem fX10_77 : q_fl RX10 77 10 12 := ⟨(RX10, TX10, 13), rfl, by decide, Or.inl (q_in (by decide +kernel) (by decide +kernel))⟩
theorem fX10_128 : q_fl RX10 128 4 4 := ⟨(RX4, TX4, 10), rfl, by decide, Or.inr ⟨"MuleRoad", q_inN (by decide +kernel) rfl⟩⟩
theorem fX10_131 : q_fl RX10 131 9 1 := ⟨(RX9, TX9, 6), rfl, by decide, Or.inr ⟨"MuleRoad", q_inN (by decide +kernel) rfl⟩⟩
theorem fX10_134 : q_fl RX10 134 4 5 := ⟨(RX4, TX4, 10), rfl, by decide, Or.inr ⟨"MuleRoad", q_inN (by decide +kernel) rfl⟩⟩
theorem fX10_137 : q_fl RX10 137 3 2 := ⟨(RX3, TX3, 8), rfl, by decide, Or.inr ⟨"MuleRoad", q_inN (by decide +kernel) rfl⟩⟩
theorem fX10_147 : q_fl RX10 147 4 1 := ⟨(RX4, TX4, 10), rfl, by decide, Or.inr ⟨"MuleRoad", q_inN (by decide +kernel) rfl⟩⟩
theorem fX10_150 : q_fl RX10 150 3 0 := ⟨(RX3, TX3, 8), rfl, by decide, Or.inr ⟨"MuleRoad", q_inN (by decide +kernel) rfl⟩⟩
theorem fX10_153 : q_fl RX10 153 4 0 := ⟨(RX4, TX4, 10), rfl, by decide, Or.inr ⟨"MuleRoad", q_inN (by decide +kernel) rfl⟩⟩
theorem fX10_156 : q_fl RX10 156 3 6 := ⟨(RX3, TX3, 8), rfl, by decide, Or.inr ⟨"MuleRoad", q_inN (by decide +kernel) rfl⟩⟩
theorem fX10_162 : q_fl RX10 162 9 5 := ⟨(RX9, TX9, 6), rfl, by decide, Or.inr ⟨"MuleRoad", q_inN (by decide +kernel) rfl⟩⟩
theorem fX10_167 : q_fl RX10 167 4 6 := ⟨(RX4, TX4, 10), rfl, by decide, Or.inr ⟨"MuleRoad", q_inN (by decide +kernel) rfl⟩⟩
theorem fX10_170 : q_fl RX10 170 4 7 := ⟨(RX4, TX4, 10), rfl, by decide, Or.inr ⟨"MuleRoad", q_inN (by decide +kernel) rfl⟩⟩
theorem fX10_181 : q_fl RX10 181 4 2 := ⟨(RX4, TX4, 10), rfl, by decide, Or.inr ⟨"MuleRoad", q_inN (by decide +kernel) rfl⟩⟩
theorem fX10_209 : q_fl RX10 209 9 4 := ⟨(RX9, TX9, 6), rfl, by decide, Or.inr ⟨"MuleRoad", q_inN (by decide +kernel) rfl⟩⟩
theorem fX10_219 : q_fl RX10 219 1 7 := ⟨(RX1, TX1, 9), rfl, by decide, Or.inr ⟨"MuleRoad", q_inN (by decide +kernel) rfl⟩⟩
theorem fX10_224 : q_fl RX10 224 7 1 := ⟨(RX7, TX7, 2), rfl, by decide, Or.inr ⟨"MuleRoad", q_inN (by decide +kernel) rfl⟩⟩
theorem fX10_234 : q_fl RX10 234 5 5 := ⟨(RX5, TX5, 6), rfl, by decide, Or.inr ⟨"MuleRoad", q_inN (by decide +kernel) rfl⟩⟩
theorem fX10_235 : q_fl RX10 235 0 7 := ⟨(RX0, TX0, 8), rfl, by decide, Or.inr ⟨"MuleRoad", q_inN (by decide +kernel) rfl⟩⟩
theorem fX10_238 : q_fl RX10 238 9 2 := ⟨(RX9, TX9, 6), rfl, by decide, Or.inr ⟨"MuleRoad", q_inN (by decide +kernel) rfl⟩⟩
theorem fX10_241 : q_fl RX10 241 9 3 := ⟨(RX9, TX9, 6), rfl, by decide, Or.inr ⟨"MuleRoad", q_inN (by decide +kernel) rfl⟩⟩
theorem fX10_244 : q_fl RX10 244 3 1 := ⟨(RX3, TX3, 8), rfl, by decide, Or.inr ⟨"MuleRoad", q_inN (by decide +kernel) rfl⟩⟩
theorem fX10_247 : q_fl RX10 247 3 4 := ⟨(RX3, TX3, 8), rfl, by decide, Or.inr ⟨"MuleRoad", q_inN (by decide +kernel) rfl⟩⟩
theorem fX10_250 : q_fl RX10 250 3 5 := ⟨(RX3, TX3, 8), rfl, by decide, Or.inr ⟨"MuleRoad", q_inN (by decide +kernel) rfl⟩⟩
theorem fX10_253 : q_fl RX10 253 3 3 := ⟨(RX3, TX3, 8), rfl, by decide, Or.inr ⟨"MuleRoad", q_inN (by decide +kernel) rfl⟩⟩
theorem fX10_256 : q_fl RX10 256 4 3 := ⟨(RX4, TX4, 10), rfl, by decide, Or.inr ⟨"MuleRoad", q_inN (by decide +kernel) rfl⟩⟩
theorem fX10_259 : q_fl RX10 259 4 8 := ⟨(RX4, TX4, 10), rfl, by decide, Or.inr ⟨"MuleRoad", q_inN (by decide +kernel) rfl⟩⟩
theorem fX10_272 : q_fl RX10 272 4 9 := ⟨(RX4, TX4, 10), rfl, by decide, Or.inr ⟨"MuleRoad", q_inN (by decide +kernel) rfl⟩⟩
theorem fX10_279 : q_fl RX10 279 6 7 := ⟨(RX6, TX6, 9), rfl, by decide, Or.inr ⟨"MuleRoad", q_inN (by decide +kernel) rfl⟩⟩
theorem fX10_282 : q_fl RX10 282 6 8 := ⟨(RX6, TX6, 9), rfl, by decide, Or.inr ⟨"MuleRoad", q_inN (by decide +kernel) rfl⟩⟩
theorem fX11_1 : q_fl RX11 1 11 0 := ⟨(RX11, TX11, 58), rfl, by decide, Or.inl (q_in (by decide +kernel) (by decide +kernel))⟩
theorem fX11_13 : q_fl RX11 13 11 3 := ⟨(RX11, TX11, 58), rfl, by decide, Or.inl (q_in (by decide +kernel) (by decide +kernel))⟩
theorem fX11_17 : q_fl RX11 17 11 4 := ⟨(RX11, TX11, 58), rfl, by decide, Or.inl (q_in (by decide +kernel) (by decide +kernel))⟩
theorem fX11_20 : q_fl RX11 20 11 5 := ⟨(RX11, TX11, 58), rfl, by decide, Or.inl (q_in (by decide +kernel) (by decide +kernel))⟩
theorem fX11_24 : q_fl RX11 24 11 7 := ⟨(RX11, TX11, 58), rfl, by decide, Or.inl (q_in (by decide +kernel) (by decide +kernel))⟩
theorem fX11_27 : q_fl RX11 27 11 8 := ⟨(RX11, TX11, 58), rfl, by decide, Or.inl (q_in (by decide +kernel) (by decide +kernel))⟩
theorem fX11_30 : q_fl RX11 30 11 9 := ⟨(RX11, TX11, 58), rfl, by decide, Or.inl (q_in (by decide +kernel) (by decide +kernel))⟩
theorem fX11_33 : q_fl RX11 33 11 10 := ⟨(RX11, TX11, 58), rfl, by decide, Or.inl (q_in (by decide +kernel) (by decide +kernel))⟩
theorem fX11_36 : q_fl RX11 36 11 12 := ⟨(RX11, TX11, 58), rfl, by decide, Or.inl (q_in (by decide +kernel) (by decide +kernel))⟩
theorem fX11_39 : q_fl RX11 39 11 13 := ⟨(RX11, TX11, 58), rfl, by decide, Or.inl (q_in (by decide +kernel) (by decide +kernel))⟩
theorem fX11_42 : q_fl RX11 42 11 14 := ⟨(RX11, TX11, 58), rfl, by decide, Or.inl (q_in (by decide +kernel) (by decide +kernel))⟩
theorem fX11_45 : q_fl RX11 45 11 15 := ⟨(RX11, TX11, 58), rfl, by decide, Or.inl (q_in (by decide +kernel) (by decide +kernel))⟩
theorem fX11_48 : q_fl RX11 48 11 16 := ⟨(RX11, TX11, 58), rfl, by decide, Or.inl (q_in (by decide +kernel) (by decide +kernel))⟩
theorem fX11_51 : q_fl RX11 51 11 17 := ⟨(RX11, TX11, 58), rfl, by decide, Or.inl (q_in (by decide +kernel) (by decide +kernel))⟩
theorem fX11_54 : q_fl RX11 54 11 18 := ⟨(RX11, TX11, 58), rfl, by decide, Or.inl (q_in (by decide +kernel) (by decide +kernel))⟩
theorem fX11_57 : q_fl RX11 57 11 19 := ⟨(RX11, TX11, 58), rfl, by decide, Or.inl (q_in (by decide +kernel) (by decide +kernel))⟩
theorem fX11_60 : q_fl RX11 60 11 21 := ⟨(RX11, TX11, 58), rfl, by decide, Or.inl (q_in (by decide +kernel) (by decide +kernel))⟩
theorem fX11_63 : q_fl RX11 63 11 22 := ⟨(RX11, TX11, 58), rfl, by decide, Or.inl (q_in (by decide +kernel) (by decide +kernel))⟩
theorem fX11_66 : q_fl RX11 66 11 23 := ⟨(RX11, TX11, 58), rfl, by decide, Or.inl (q_in (by decide +kernel) (by decide +kernel))⟩
theorem fX11_69 : q_fl RX11 69 11 24 := ⟨(RX11, TX11, 58), rfl, by decide, Or.inl (q_in (by decide +kernel) (by decide +kernel))⟩
theorem fX11_72 : q_fl RX11 72 11 25 := ⟨(RX11, TX11, 58), rfl, by decide, Or.inl (q_in (by decide +kernel) (by decide +kernel))⟩
theorem fX11_75 : q_fl RX11 75 11 26 := ⟨(RX11, TX11, 58), rfl, by decide, Or.inl (q_in (by decide +kernel) (by decide +kernel))⟩
theorem fX11_78 : q_fl RX11 78 11 27 := ⟨(RX11, TX11, 58), rfl, by decide, Or.inl (q_in (by decide +kernel) (by decide +kernel))⟩
theorem fX11_81 : q_fl RX11 81 11 28 := ⟨(RX11, TX11, 58), rfl, by decide, Or.inl (q_in (by decide +kernel) (by decide +kernel))⟩
theorem fX11_84 : q_fl RX11 84 11 29 := ⟨(RX11, TX11, 58), rfl, by decide, Or.inl (q_in (by decide +kernel) (by decide +kernel))⟩
theorem fX11_87 : q_fl RX11 87 11 30 := ⟨(RX11, TX11, 58), rfl, by decide, Or.inl (q_in (by decide +kernel) (by decide +kernel))⟩
theorem fX11_90 : q_fl RX11 90 11 32 := ⟨(RX11, TX11, 58), rfl, by decide, Or.inl (q_in (by decide +kernel) (by decide +kernel))⟩
theorem fX11_93 : q_fl RX11 93 11 33 := ⟨(RX11, TX11, 58), rfl, by decide, Or.inl (q_in (by decide +kernel) (by decide +kernel))⟩
theorem fX11_96 : q_fl RX11 96 11 34 := ⟨(RX11, TX11, 58), rfl, by decide, Or.inl (q_in (by decide +kernel) (by decide +kernel))⟩
theorem fX11_99 : q_fl RX11 99 11 35 := ⟨(RX11, TX11, 58), rfl, by decide, Or.inl (q_in (by decide +kernel) (by decide +kernel))⟩
theorem fX11_102 : q_fl RX11 102 11 37 := ⟨(RX11, TX11, 58), rfl, by decide, Or.inl (q_in (by decide +kernel) (by decide +kernel))⟩
theorem fX11_105 : q_fl RX11 105 11 38 := ⟨(RX11, TX11, 58), rfl, by decide, Or.inl (q_in (by decide +kernel) (by decide +kernel))⟩
theorem fX11_108 : q_fl RX11 108 11 41 := ⟨(RX11, TX11, 58), rfl, by decide, Or.inl (q_in (by decide +kernel) (by decide +kernel))⟩
theorem fX11_112 : q_fl RX11 112 11 49 := ⟨(RX11, TX11, 58), rfl, by decide, Or.inl (q_in (by decide +kernel) (by decide +kernel))⟩
theorem fX11_115 : q_fl RX11 115 11 51 := ⟨(RX11, TX11, 58), rfl, by decide, Or.inl (q_in (by decide +kernel) (by decide +kernel))⟩
theorem fX11_118 : q_fl RX11 118 11 52 := ⟨(RX11, TX11, 58), rfl, by decide, Or.inl (q_in (by decide +kernel) (by decide +kernel))⟩
theorem fX11_121 : q_fl RX11 121 11 53 := ⟨(RX11, TX11, 58), rfl, by decide, Or.inl (q_in (by decide +kernel) (by decide +kernel))⟩
theorem fX11_124 : q_fl RX11 124 11 54 := ⟨(RX11, TX11, 58), rfl, by decide, Or.inl (q_in (by decide +kernel) (by decide +kernel))⟩
theorem fX11_127 : q_fl RX11 127 11 55 := ⟨(RX11, TX11, 58), rfl, by decide, Or.inl (q_in (by decide +kernel) (by decide +kernel))⟩
theorem fX11_130 : q_fl RX11 130 11 56 := ⟨(RX11, TX11, 58), rfl, by decide, Or.inl (q_in (by decide +kernel) (by decide +kernel))⟩
theorem fX11_133 : q_fl RX11 133 11 57 := ⟨(RX11, TX11, 58), rfl, by decide, Or.inl (q_in (by decide +kernel) (by decide +kernel))⟩
theorem fX11_136 : q_fl RX11 136 11 2 := ⟨(RX11, TX11, 58), rfl, by decide, Or.inl (q_in (by decide +kernel) (by decide +kernel))⟩
theorem fX11_147 : q_fl RX11 147 11 6 := ⟨(RX11, TX11, 58), rfl, by decide, Or.inl (q_in (by decide +kernel) (by decide +kernel))⟩
theorem fX11_150 : q_fl RX11 150 11 1 := ⟨(RX11, TX11, 58), rfl, by decide, Or.inl (q_in (by decide +kernel) (by decide +kernel))⟩
theorem fX11_159 : q_fl RX11 159 11 11 := ⟨(RX11, TX11, 58), rfl, by decide, Or.inl (q_in (by decide +kernel) (by decide +kernel))⟩
theorem fX11_162 : q_fl RX11 162 11 31 := ⟨(RX11, TX11, 58), rfl, by decide, Or.inl (q_in (by decide +kernel) (by decide +kernel))⟩
theorem fX11_165 : q_fl RX11 165 11 20 := ⟨(RX11, TX11, 58), rfl, by decide, Or.inl (q_in (by decide +kernel) (by decide +kernel))⟩
theorem fX11_213 : q_fl RX11 213 11 36 := ⟨(RX11, TX11, 58), rfl, by decide, Or.inl (q_in (by decide +kernel) (by decide +kernel))⟩
theorem fX11_216 : q_fl RX11 216 11 39 := ⟨(RX11, TX11, 58), rfl, by decide, Or.inl (q_in (by decide +kernel) (by decide +kernel))⟩
theorem fX11_219 : q_fl RX11 219 11 40 := ⟨(RX11, TX11, 58), rfl, by decide, Or.inl (q_in (by decide +kernel) (by decide +kernel))⟩
theorem fX11_230 : q_fl RX11 230 11 42 := ⟨(RX11, TX11, 58), rfl, by decide, Or.inl (q_in (by decide +kernel) (by decide +kernel))⟩
theorem fX11_233 : q_fl RX11 233 11 43 := ⟨(RX11, TX11, 58), rfl, by decide, Or.inl (q_in (by decide +kernel) (by decide +kernel))⟩
theorem fX11_236 : q_fl RX11 236 11 44 := ⟨(RX11, TX11, 58), rfl, by decide, Or.inl (q_in (by decide +kernel) (by decide +kernel))⟩
theorem fX11_239 : q_fl RX11 239 11 45 := ⟨(RX11, TX11, 58), rfl, by decide, Or.inl (q_in (by decide +kernel) (by decide +kernel))⟩
theorem fX11_251 : q_fl RX11 251 11 46 := ⟨(RX11, TX11, 58), rfl, by decide, Or.inl (q_in (by decide +kernel) (by decide +kernel))⟩
theorem fX11_264 : q_fl RX11 264 11 47 := ⟨(RX11, TX11, 58), rfl, by decide, Or.inl (q_in (by decide +kernel) (by decide +kernel))⟩
theorem fX11_267 : q_fl RX11 267 11 48 := ⟨(RX11, TX11, 58), rfl, by decide, Or.inl (q_in (by decide +kernel) (by decide +kernel))⟩
theorem fX11_313 : q_fl RX11 313 11 50 := ⟨(RX11, TX11, 58), rfl, by decide, Or.inl (q_in (by decide +kernel) (by decide +kernel))⟩
theorem fX0_9 : q_fl RX0 9 0 0 := ⟨(RX0, TX0, 8), rfl, by decide, Or.inl (q_in (by decide +kernel) (by decide +kernel))⟩
theorem fX0_15 : q_fl RX0 15 0 1 := ⟨(RX0, TX0, 8), rfl, by decide, Or.inl (q_in (by decide +kernel) (by decide +kernel))⟩
theorem fX0_18 : q_fl RX0 18 0 2 := ⟨(RX0, TX0, 8), rfl, by decide, Or.inl (q_in (by decide +kernel) (by decide +kernel))⟩
theorem fX0_21 : q_fl RX0 21 0 3 := ⟨(RX0, TX0, 8), rfl, by decide, Or.inl (q_in (by decide +kernel) (by decide +kernel))⟩
theorem fX0_24 : q_fl RX0 24 0 4 := ⟨(RX0, TX0, 8), rfl, by decide, Or.inl (q_in (by decide +kernel) (by decide +kernel))⟩
theorem fX0_27 : q_fl RX0 27 0 5 := ⟨(RX0, TX0, 8), rfl, by decide, Or.inl (q_in (by decide +kernel) (by decide +kernel))⟩
theorem fX0_31 : q_fl RX0 31 0 6 := ⟨(RX0, TX0, 8), rfl, by decide, Or.inl (q_in (by decide +kernel) (by decide +kernel))⟩
theorem fX0_34 : q_fl RX0 34 0 7 := ⟨(RX0, TX0, 8), rfl, by decide, Or.inl (q_in (by decide +kernel) (by decide +kernel))⟩
theorem fX0_49 : q_fl RX0 49 4 1 := ⟨(RX4, TX4, 10), rfl, by decide, Or.inr ⟨"MuleRoad", q_inN (by decide +kernel) rfl⟩⟩
theorem fX0_54 : q_fl RX0 54 4 8 := ⟨(RX4, TX4, 10), rfl, by decide, Or.inr ⟨"MuleRoad", q_inN (by decide +kernel) rfl⟩⟩
theorem fX0_57 : q_fl RX0 57 4 0 := ⟨(RX4, TX4, 10), rfl, by decide, Or.inr ⟨"MuleRoad", q_inN (by decide +kernel) rfl⟩⟩
theorem fX1_9 : q_fl RX1 9 1 0 := ⟨(RX1, TX1, 9), rfl, by decide, Or.inl (q_in (by decide +kernel) (by decide +kernel))⟩
theorem fX1_15 : q_fl RX1 15 1 1 := ⟨(RX1, TX1, 9), rfl, by decide, Or.inl (q_in (by decide +kernel) (by decide +kernel))⟩
theorem fX1_18 : q_fl RX1 18 1 2 := ⟨(RX1, TX1, 9), rfl, by decide, Or.inl (q_in (by decide +kernel) (by decide +kernel))⟩
theorem fX1_21 : q_fl RX1 21 1 3 := ⟨(RX1, TX1, 9), rfl, by decide, Or.inl (q_in (by decide +kernel) (by decide +kernel))⟩
theorem fX1_24 : q_fl RX1 24 1 4 := ⟨(RX1, TX1, 9), rfl, by decide, Or.inl (q_in (by decide +kernel) (by decide +kernel))⟩
theorem fX1_27 : q_fl RX1 27 1 5 := ⟨(RX1, TX1, 9), rfl, by decide, Or.inl (q_in (by decide +kernel) (by decide +kernel))⟩
theorem fX1_31 : q_fl RX1 31 1 6 := ⟨(RX1, TX1, 9), rfl, by decide, Or.inl (q_in (by decide +kernel) (by decide +kernel))⟩
theorem fX1_34 : q_fl RX1 34 1 7 := ⟨(RX1, TX1, 9), rfl, by decide, Or.inl (q_in (by decide +kernel) (by decide +kernel))⟩
theorem fX1_37 : q_fl RX1 37 1 8 := ⟨(RX1, TX1, 9), rfl, by decide, Or.inl (q_in (by decide +kernel) (by decide +kernel))⟩
theorem fX2_9 : q_fl RX2 9 2 0 := ⟨(RX2, TX2, 4), rfl, by decide, Or.inl (q_in (by decide +kernel) (by decide +kernel))⟩
theorem fX2_15 : q_fl RX2 15 2 1 := ⟨(RX2, TX2, 4), rfl, by decide, Or.inl (q_in (by decide +kernel) (by decide +kernel))⟩
theorem fX2_18 : q_fl RX2 18 2 2 := ⟨(RX2, TX2, 4), rfl, by decide, Or.inl (q_in (by decide +kernel) (by decide +kernel))⟩
theorem fX2_21 : q_fl RX2 21 2 3 := ⟨(RX2, TX2, 4), rfl, by decide, Or.inl (q_in (by decide +kernel) (by decide +kernel))⟩
theorem fX3_9 : q_fl RX3 9 3 1 := ⟨(RX3, TX3, 8), rfl, by decide, Or.inl (q_in (by decide +kernel) (by decide +kernel))⟩
theorem fX3_15 : q_fl RX3 15 3 2 := ⟨(RX3, TX3, 8), rfl, by decide, Or.inl (q_in (by decide +kernel) (by decide +kernel))⟩
theorem fX3_19 : q_fl RX3 19 3 3 := ⟨(RX3, TX3, 8), rfl, by decide, Or.inl (q_in (by decide +kernel) (by decide +kernel))⟩
theorem fX3_22 : q_fl RX3 22 3 4 := ⟨(RX3, TX3, 8), rfl, by decide, Or.inl (q_in (by decide +kernel) (by decide +kernel))⟩
theorem fX3_25 : q_fl RX3 25 3 5 := ⟨(RX3, TX3, 8), rfl, by decide, Or.inl (q_in (by decide +kernel) (by decide +kernel))⟩
theorem fX3_28 : q_fl RX3 28 3 6 := ⟨(RX3, TX3, 8), rfl, by decide, Or.inl (q_in (by decide +kernel) (by decide +kernel))⟩
theorem fX3_31 : q_fl RX3 31 3 7 := ⟨(RX3, TX3, 8), rfl, by decide, Or.inl (q_in (by decide +kernel) (by decide +kernel))⟩
theorem fX3_34 : q_fl RX3 34 3 0 := ⟨(RX3, TX3, 8), rfl, by decide, Or.inl (q_in (by decide +kernel) (by decide +kernel))⟩
theorem fX4_9 : q_fl RX4 9 4 4 := ⟨(RX4, TX4, 10), rfl, by decide, Or.inl (q_in (by decide +kernel) (by decide +kernel))⟩
theorem fX4_15 : q_fl RX4 15 4 6 := ⟨(RX4, TX4, 10), rfl, by decide, Or.inl (q_in (by decide +kernel) (by decide +kernel))⟩
theorem fX4_18 : q_fl RX4 18 4 7 := ⟨(RX4, TX4, 10), rfl, by decide, Or.inl (q_in (by decide +kernel) (by decide +kernel))⟩
theorem fX4_21 : q_fl RX4 21 4 8 := ⟨(RX4, TX4, 10), rfl, by decide, Or.inl (q_in (by decide +kernel) (by decide +kernel))⟩
theorem fX4_24 : q_fl RX4 24 4 9 := ⟨(RX4, TX4, 10), rfl, by decide, Or.inl (q_in (by decide +kernel) (by decide +kernel))⟩
theorem fX4_27 : q_fl RX4 27 4 0 := ⟨(RX4, TX4, 10), rfl, by decide, Or.inl (q_in (by decide +kernel) (by decide +kernel))⟩
theorem fX4_30 : q_fl RX4 30 4 1 := ⟨(RX4, TX4, 10), rfl, by decide, Or.inl (q_in (by decide +kernel) (by decide +kernel))⟩
theorem fX4_33 : q_fl RX4 33 4 5 := ⟨(RX4, TX4, 10), rfl, by decide, Or.inl (q_in (by decide +kernel) (by decide +kernel))⟩
theorem fX4_36 : q_fl RX4 36 4 2 := ⟨(RX4, TX4, 10), rfl, by decide, Or.inl (q_in (by decide +kernel) (by decide +kernel))⟩
theorem fX4_39 : q_fl RX4 39 4 3 := ⟨(RX4, TX4, 10), rfl, by decide, Or.inl (q_in (by decide +kernel) (by decide +kernel))⟩
theorem fX5_9 : q_fl RX5 9 5 1 := ⟨(RX5, TX5, 6), rfl, by decide, Or.inl (q_in (by decide +kernel) (by decide +kernel))⟩
theorem fX5_15 : q_fl RX5 15 5 2 := ⟨(RX5, TX5, 6), rfl, by decide, Or.inl (q_in (by decide +kernel) (by decide +kernel))⟩
theorem fX5_18 : q_fl RX5 18 5 3 := ⟨(RX5, TX5, 6), rfl, by decide, Or.inl (q_in (by decide +kernel) (by decide +kernel))⟩
theorem fX5_21 : q_fl RX5 21 5 4 := ⟨(RX5, TX5, 6), rfl, by decide, Or.inl (q_in (by decide +kernel) (by decide +kernel))⟩
theorem fX5_24 : q_fl RX5 24 5 5 := ⟨(RX5, TX5, 6), rfl, by decide, Or.inl (q_in (by decide +kernel) (by decide +kernel))⟩
theorem fX5_32 : q_fl RX5 32 5 0 := ⟨(RX5, TX5, 6), rfl, by decide, Or.inl (q_in (by decide +kernel) (by decide +kernel))⟩
theorem fX5_60 : q_fl RX5 60 8 4 := ⟨(RX8, TX8, 7), rfl, by decide, Or.inr ⟨"MuleRoad", q_inN (by decide +kernel) rfl⟩⟩
theorem fX5_63 : q_fl RX5 63 8 1 := ⟨(RX8, TX8, 7), rfl, by decide, Or.inr ⟨"MuleRoad", q_inN (by decide +kernel) rfl⟩⟩
theorem fX5_67 : q_fl RX5 67 8 3 := ⟨(RX8, TX8, 7), rfl, by decide, Or.inr ⟨"MuleRoad", q_inN (by decide +kernel) rfl⟩⟩
theorem fX5_70 : q_fl RX5 70 8 2 := ⟨(RX8, TX8, 7), rfl, by decide, Or.inr ⟨"MuleRoad", q_inN (by decide +kernel) rfl⟩⟩
theorem fX6_9 : q_fl RX6 9 6 0 := ⟨(RX6, TX6, 9), rfl, by decide, Or.inl (q_in (by decide +kernel) (by decide +kernel))⟩
theorem fX6_15 : q_fl RX6 15 6 1 := ⟨(RX6, TX6, 9), rfl, by decide, Or.inl (q_in (by decide +kernel) (by decide +kernel))⟩
theorem fX6_18 : q_fl RX6 18 6 2 := ⟨(RX6, TX6, 9), rfl, by decide, Or.inl (q_in (by decide +kernel) (by decide +kernel))⟩
theorem fX6_22 : q_fl RX6 22 6 3 := ⟨(RX6, TX6, 9), rfl, by decide, Or.inl (q_in (by decide +kernel) (by decide +kernel))⟩
theorem fX6_25 : q_fl RX6 25 6 4 := ⟨(RX6, TX6, 9), rfl, by decide, Or.inl (q_in (by decide +kernel) (by decide +kernel))⟩
theorem fX6_28 : q_fl RX6 28 6 5 := ⟨(RX6, TX6, 9), rfl, by decide, Or.inl (q_in (by decide +kernel) (by decide +kernel))⟩
theorem fX6_31 : q_fl RX6 31 6 6 := ⟨(RX6, TX6, 9), rfl, by decide, Or.inl (q_in (by decide +kernel) (by decide +kernel))⟩
theorem fX6_34 : q_fl RX6 34 6 7 := ⟨(RX6, TX6, 9), rfl, by decide, Or.inl (q_in (by decide +kernel) (by decide +kernel))⟩
theorem fX6_38 : q_fl RX6 38 6 8 := ⟨(RX6, TX6, 9), rfl, by decide, Or.inl (q_in (by decide +kernel) (by decide +kernel))⟩
theorem fX7_9 : q_fl RX7 9 7 0 := ⟨(RX7, TX7, 2), rfl, by decide, Or.inl (q_in (by decide +kernel) (by decide +kernel))⟩
theorem fX7_15 : q_fl RX7 15 7 1 := ⟨(RX7, TX7, 2), rfl, by decide, Or.inl (q_in (by decide +kernel) (by decide +kernel))⟩
theorem fX8_9 : q_fl RX8 9 8 1 := ⟨(RX8, TX8, 7), rfl, by decide, Or.inl (q_in (by decide +kernel) (by decide +kernel))⟩
theorem fX8_15 : q_fl RX8 15 8 2 := ⟨(RX8, TX8, 7), rfl, by decide, Or.inl (q_in (by decide +kernel) (by decide +kernel))⟩
theorem fX8_18 : q_fl RX8 18 8 3 := ⟨(RX8, TX8, 7), rfl, by decide, Or.inl (q_in (by decide +kernel) (by decide +kernel))⟩
theorem fX8_21 : q_fl RX8 21 8 4 := ⟨(RX8, TX8, 7), rfl, by decide, Or.inl (q_in (by decide +kernel) (by decide +kernel))⟩
theorem fX8_25 : q_fl RX8 25 8 5 := ⟨(RX8, TX8, 7), rfl, by decide, Or.inl (q_in (by decide +kernel) (by decide +kernel))⟩
theorem fX8_28 : q_fl RX8 28 8 6 := ⟨(RX8, TX8, 7), rfl, by decide, Or.inl (q_in (by decide +kernel) (by decide +kernel))⟩
theorem fX8_31 : q_fl RX8 31 8 0 := ⟨(RX8, TX8, 7), rfl, by decide, Or.inl (q_in (by decide +kernel) (by decide +kernel))⟩
theorem fX8_39 : q_fl RX8 39 7 1 := ⟨(RX7, TX7, 2), rfl, by decide, Or.inr ⟨"MuleRoad", q_inN (by decide +kernel) rfl⟩⟩
theorem fX9_11 : q_fl RX9 11 9 0 := ⟨(RX9, TX9, 6), rfl, by decide, Or.inl (q_in (by decide +kernel) (by decide +kernel))⟩
theorem fX9_17 : q_fl RX9 17 9 2 := ⟨(RX9, TX9, 6), rfl, by decide, Or.inl (q_in (by decide +kernel) (by decide +kernel))⟩
theorem fX9_21 : q_fl RX9 21 9 3 := ⟨(RX9, TX9, 6), rfl, by decide, Or.inl (q_in (by decide +kernel) (by decide +kernel))⟩
theorem fX9_25 : q_fl RX9 25 9 4 := ⟨(RX9, TX9, 6), rfl, by decide, Or.inl (q_in (by decide +kernel) (by decide +kernel))⟩
theorem fX9_28 : q_fl RX9 28 9 5 := ⟨(RX9, TX9, 6), rfl, by decide, Or.inl (q_in (by decide +kernel) (by decide +kernel))⟩
theorem fX9_31 : q_fl RX9 31 9 1 := ⟨(RX9, TX9, 6), rfl, by decide, Or.inl (q_in (by decide +kernel) (by decide +kernel))⟩
theorem lX10_1 : Cond.methodLink RX10 1 objectInit ∈ q_gw := q_in (by decide +kernel) (by decide +kernel)
theorem lX10_9 : Cond.methodLinkNest RX10 9 yX6_init "MuleRoad" ∈ q_nw := q_inN (by decide +kernel) rfl
theorem lX10_36 : Cond.methodLinkNest RX10 36 yX2_init "MuleRoad" ∈ q_nw := q_inN (by decide +kernel) rfl
theorem lX10_43 : Cond.methodLinkNest RX10 43 yX7_init "MuleRoad" ∈ q_nw := q_inN (by decide +kernel) rfl
theorem lX10_50 : Cond.methodLink RX10 50 yX5_init ∈ q_gw := q_in (by decide +kernel) (by decide +kernel)
theorem lX10_59 : Cond.methodLinkNest RX10 59 yX1_init "MuleRoad" ∈ q_nw := q_inN (by decide +kernel) rfl
theorem lX10_80 : Cond.methodLinkNest RX10 80 yX0_init "MuleRoad" ∈ q_nw := q_inN (by decide +kernel) rfl
theorem lX10_81 : Cond.methodLink RX10 81 yX6_addInn ∈ q_gw := q_in (by decide +kernel) (by decide +kernel)
theorem lX10_85 : Cond.methodLink RX10 85 yX6_hasInn ∈ q_gw := q_in (by decide +kernel) (by decide +kernel)
theorem lX10_89 : Cond.methodLink RX10 89 yX10_isStrength ∈ q_gw := q_in (by decide +kernel) (by decide +kernel)
theorem lX10_92 : Cond.methodLink RX10 92 yX9_init ∈ q_gw := q_in (by decide +kernel) (by decide +kernel)
theorem lX10_95 : Cond.methodLink RX10 95 yX6_addTelling ∈ q_gw := q_in (by decide +kernel) (by decide +kernel)
theorem lX10_99 : Cond.methodLink RX10 99 yX6_hasLeg ∈ q_gw := q_in (by decide +kernel) (by decide +kernel)
theorem lX10_102 : Cond.methodLink RX10 102 yX10_isHour ∈ q_gw := q_in (by decide +kernel) (by decide +kernel)
theorem lX10_105 : Cond.methodLink RX10 105 yX6_isShut ∈ q_gw := q_in (by decide +kernel) (by decide +kernel)
theorem lX10_109 : Cond.methodLink RX10 109 yX4_init ∈ q_gw := q_in (by decide +kernel) (by decide +kernel)
theorem lX10_112 : Cond.methodLink RX10 112 yX2_add ∈ q_gw := q_in (by decide +kernel) (by decide +kernel)
theorem lX10_116 : Cond.methodLink RX10 116 yX10_trainAt ∈ q_gw := q_in (by decide +kernel) (by decide +kernel)
theorem lX10_120 : Cond.methodLink RX10 120 yX10_packAt ∈ q_gw := q_in (by decide +kernel) (by decide +kernel)
theorem lX10_124 : Cond.methodLink RX10 124 yX9_muleAt ∈ q_gw := q_in (by decide +kernel) (by decide +kernel)
theorem lX10_143 : Cond.methodLink RX10 143 yX3_load ∈ q_gw := q_in (by decide +kernel) (by decide +kernel)
theorem lX10_159 : Cond.methodLink RX10 159 yX3_bear ∈ q_gw := q_in (by decide +kernel) (by decide +kernel)
theorem lX10_164 : Cond.methodLink RX10 164 yX4_liftOnto ∈ q_gw := q_in (by decide +kernel) (by decide +kernel)
theorem lX10_173 : Cond.methodLink RX10 173 yX3_unload ∈ q_gw := q_in (by decide +kernel) (by decide +kernel)
theorem lX10_177 : Cond.methodLink RX10 177 yX4_putAt ∈ q_gw := q_in (by decide +kernel) (by decide +kernel)
theorem lX10_184 : Cond.methodLink RX10 184 yX10_payFor ∈ q_gw := q_in (by decide +kernel) (by decide +kernel)
theorem lX10_188 : Cond.methodLink RX10 188 yX4_deliver ∈ q_gw := q_in (by decide +kernel) (by decide +kernel)
theorem lX10_191 : Cond.methodLink RX10 191 yX9_isFit ∈ q_gw := q_in (by decide +kernel) (by decide +kernel)
theorem lX10_195 : Cond.methodLink RX10 195 yX6_isLedge ∈ q_gw := q_in (by decide +kernel) (by decide +kernel)
theorem lX10_198 : Cond.methodLink RX10 198 yX10_isTaken ∈ q_gw := q_in (by decide +kernel) (by decide +kernel)
theorem lX10_201 : Cond.methodLink RX10 201 yX6_hoursOf ∈ q_gw := q_in (by decide +kernel) (by decide +kernel)
theorem lX10_205 : Cond.methodLink RX10 205 yX9_leave ∈ q_gw := q_in (by decide +kernel) (by decide +kernel)
theorem lX10_212 : Cond.methodLink RX10 212 yX10_passHour ∈ q_gw := q_in (by decide +kernel) (by decide +kernel)
theorem lX10_215 : Cond.methodLink RX10 215 yX10_findBest ∈ q_gw := q_in (by decide +kernel) (by decide +kernel)
theorem lX10_221 : Cond.methodLink RX10 221 yX1_sideOf ∈ q_gw := q_in (by decide +kernel) (by decide +kernel)
theorem lX10_227 : Cond.methodLink RX10 227 yX7_addNumber ∈ q_gw := q_in (by decide +kernel) (by decide +kernel)
theorem lX10_230 : Cond.methodLink RX10 230 yX5_readInto ∈ q_gw := q_in (by decide +kernel) (by decide +kernel)
theorem lX10_262 : Cond.methodLink RX10 262 yX10_bargainIn ∈ q_gw := q_in (by decide +kernel) (by decide +kernel)
theorem lX10_275 : Cond.methodLink RX10 275 yX2_placeOf ∈ q_gw := q_in (by decide +kernel) (by decide +kernel)
theorem lX10_285 : Cond.methodLink RX10 285 yX10_packsThatAre ∈ q_gw := q_in (by decide +kernel) (by decide +kernel)
theorem lX10_288 : Cond.methodLink RX10 288 yX10_payOfAll ∈ q_gw := q_in (by decide +kernel) (by decide +kernel)
theorem lX10_291 : Cond.methodLink RX10 291 yX6_shutLegs ∈ q_gw := q_in (by decide +kernel) (by decide +kernel)
theorem lX10_294 : Cond.methodLink RX10 294 yX10_holdPacks ∈ q_gw := q_in (by decide +kernel) (by decide +kernel)
theorem lX10_297 : Cond.methodLink RX10 297 yX6_climbsOf ∈ q_gw := q_in (by decide +kernel) (by decide +kernel)
theorem lX10_300 : Cond.methodLink RX10 300 yX9_goThrough ∈ q_gw := q_in (by decide +kernel) (by decide +kernel)
theorem lX10_303 : Cond.methodLink RX10 303 yX10_innOf ∈ q_gw := q_in (by decide +kernel) (by decide +kernel)
theorem lX10_306 : Cond.methodLink RX10 306 yX4_nextLeg ∈ q_gw := q_in (by decide +kernel) (by decide +kernel)
theorem lX10_309 : Cond.methodLink RX10 309 yX1_clear ∈ q_gw := q_in (by decide +kernel) (by decide +kernel)
theorem lX10_312 : Cond.methodLink RX10 312 yX1_add ∈ q_gw := q_in (by decide +kernel) (by decide +kernel)
theorem lX10_314 : Cond.methodLink RX10 314 yX1_findFor ∈ q_gw := q_in (by decide +kernel) (by decide +kernel)
theorem lX10_317 : Cond.methodLink RX10 317 yX0_payFor ∈ q_gw := q_in (by decide +kernel) (by decide +kernel)
theorem lX11_7 : Cond.methodLink RX11 7 objectInit ∈ q_gw := q_in (by decide +kernel) (by decide +kernel)
theorem lX11_139 : Cond.methodLink RX11 139 yX11_within ∈ q_gw := q_in (by decide +kernel) (by decide +kernel)
theorem lX11_143 : Cond.methodLink RX11 143 yX11_isLeg ∈ q_gw := q_in (by decide +kernel) (by decide +kernel)
theorem lX11_153 : Cond.methodLink RX11 153 yX11_isShut ∈ q_gw := q_in (by decide +kernel) (by decide +kernel)
theorem lX11_156 : Cond.methodLink RX11 156 yX11_isInn ∈ q_gw := q_in (by decide +kernel) (by decide +kernel)
theorem lX11_168 : Cond.methodLink RX11 168 yX11_change ∈ q_gw := q_in (by decide +kernel) (by decide +kernel)
theorem lX11_172 : Cond.methodLink RX11 172 yX11_isString ∈ q_gw := q_in (by decide +kernel) (by decide +kernel)
theorem lX11_175 : Cond.methodLink RX11 175 yX11_isPack ∈ q_gw := q_in (by decide +kernel) (by decide +kernel)
theorem lX11_178 : Cond.methodLink RX11 178 yX11_load ∈ q_gw := q_in (by decide +kernel) (by decide +kernel)
theorem lX11_182 : Cond.methodLink RX11 182 yX11_top ∈ q_gw := q_in (by decide +kernel) (by decide +kernel)
theorem lX11_186 : Cond.methodLink RX11 186 yX11_isEven ∈ q_gw := q_in (by decide +kernel) (by decide +kernel)
theorem lX11_189 : Cond.methodLink RX11 189 Lib.Math.min.name ∈ q_gw := q_in (by decide +kernel) (by decide +kernel)
theorem lX11_194 : Cond.methodLink RX11 194 Lib.Math.max.name ∈ q_gw := q_in (by decide +kernel) (by decide +kernel)
theorem lX11_197 : Cond.methodLink RX11 197 yX11_innOf ∈ q_gw := q_in (by decide +kernel) (by decide +kernel)
theorem lX11_200 : Cond.methodLink RX11 200 yX11_holds ∈ q_gw := q_in (by decide +kernel) (by decide +kernel)
theorem lX11_203 : Cond.methodLink RX11 203 yX11_tires ∈ q_gw := q_in (by decide +kernel) (by decide +kernel)
theorem lX11_207 : Cond.methodLink RX11 207 yX11_rests ∈ q_gw := q_in (by decide +kernel) (by decide +kernel)
theorem lX11_210 : Cond.methodLink RX11 210 yX11_goes ∈ q_gw := q_in (by decide +kernel) (by decide +kernel)
theorem lX11_222 : Cond.methodLink RX11 222 yX11_tries ∈ q_gw := q_in (by decide +kernel) (by decide +kernel)
theorem lX11_226 : Cond.methodLink RX11 226 yX11_finds ∈ q_gw := q_in (by decide +kernel) (by decide +kernel)
theorem lX11_242 : Cond.methodLink RX11 242 yX11_isSmall ∈ q_gw := q_in (by decide +kernel) (by decide +kernel)
theorem lX11_245 : Cond.methodLink RX11 245 yX11_see ∈ q_gw := q_in (by decide +kernel) (by decide +kernel)
theorem lX11_248 : Cond.methodLink RX11 248 yX11_isDigit ∈ q_gw := q_in (by decide +kernel) (by decide +kernel)
theorem lX11_254 : Cond.methodLink RX11 254 yJ0_length_8abf5 ∈ q_gw := q_in (by decide +kernel) (by decide +kernel)
theorem lX11_260 : Cond.methodLink RX11 260 yJ0_charAt_5068e ∈ q_gw := q_in (by decide +kernel) (by decide +kernel)
theorem lX11_272 : Cond.methodLink RX11 272 yX11_isWord ∈ q_gw := q_in (by decide +kernel) (by decide +kernel)
theorem lX11_286 : Cond.methodLink RX11 286 yX11_word ∈ q_gw := q_in (by decide +kernel) (by decide +kernel)
theorem lX11_289 : Cond.methodLink RX11 289 yX11_fails ∈ q_gw := q_in (by decide +kernel) (by decide +kernel)
theorem lX11_292 : Cond.methodLink RX11 292 yX11_next ∈ q_gw := q_in (by decide +kernel) (by decide +kernel)
theorem lX11_295 : Cond.methodLink RX11 295 yX11_is ∈ q_gw := q_in (by decide +kernel) (by decide +kernel)
theorem lX11_298 : Cond.methodLink RX11 298 yX11_number ∈ q_gw := q_in (by decide +kernel) (by decide +kernel)
theorem lX11_301 : Cond.methodLink RX11 301 yX11_isWell ∈ q_gw := q_in (by decide +kernel) (by decide +kernel)
theorem lX11_305 : Cond.methodLink RX11 305 yX11_term ∈ q_gw := q_in (by decide +kernel) (by decide +kernel)
theorem lX11_310 : Cond.methodLink RX11 310 yX11_want ∈ q_gw := q_in (by decide +kernel) (by decide +kernel)
theorem lX11_316 : Cond.methodLink RX11 316 yX11_rule ∈ q_gw := q_in (by decide +kernel) (by decide +kernel)
theorem lX11_319 : Cond.methodLink RX11 319 yX11_bargainOf ∈ q_gw := q_in (by decide +kernel) (by decide +kernel)
theorem lX11_322 : Cond.methodLink RX11 322 yX11_holds_ ∈ q_gw := q_in (by decide +kernel) (by decide +kernel)
theorem lX11_324 : Cond.methodLink RX11 324 yX11_worth ∈ q_gw := q_in (by decide +kernel) (by decide +kernel)
theorem lX11_327 : Cond.methodLink RX11 327 yX11_packsOn ∈ q_gw := q_in (by decide +kernel) (by decide +kernel)
theorem lX11_330 : Cond.methodLink RX11 330 yX11_many ∈ q_gw := q_in (by decide +kernel) (by decide +kernel)
theorem lX11_333 : Cond.methodLink RX11 333 yX11_allBrought ∈ q_gw := q_in (by decide +kernel) (by decide +kernel)
theorem lX0_3 : Cond.methodLink RX0 3 objectInit ∈ q_gw := q_in (by decide +kernel) (by decide +kernel)
theorem lX0_37 : Cond.methodLink RX0 37 yX0_holdAll ∈ q_gw := q_in (by decide +kernel) (by decide +kernel)
theorem lX0_41 : Cond.methodLink RX0 41 yX0_measure ∈ q_gw := q_in (by decide +kernel) (by decide +kernel)
theorem lX0_45 : Cond.methodLink RX0 45 yX0_holds ∈ q_gw := q_in (by decide +kernel) (by decide +kernel)
theorem lX1_3 : Cond.methodLink RX1 3 objectInit ∈ q_gw := q_in (by decide +kernel) (by decide +kernel)
theorem lX1_40 : Cond.methodLink RX1 40 yX1_look ∈ q_gw := q_in (by decide +kernel) (by decide +kernel)
theorem lX1_44 : Cond.methodLink RX1 44 yX1_isHopeless ∈ q_gw := q_in (by decide +kernel) (by decide +kernel)
theorem lX1_48 : Cond.methodLink RX1 48 yX1_keep ∈ q_gw := q_in (by decide +kernel) (by decide +kernel)
theorem lX1_52 : Cond.methodLink RX1 52 Lib.Math.abs.name ∈ q_gw := q_in (by decide +kernel) (by decide +kernel)
theorem lX1_58 : Cond.methodLink RX1 58 Lib.Math.min.name ∈ q_gw := q_in (by decide +kernel) (by decide +kernel)
theorem lX2_3 : Cond.methodLink RX2 3 objectInit ∈ q_gw := q_in (by decide +kernel) (by decide +kernel)
theorem lX3_3 : Cond.methodLink RX3 3 objectInit ∈ q_gw := q_in (by decide +kernel) (by decide +kernel)
theorem lX3_37 : Cond.methodLink RX3 37 Lib.Math.abs.name ∈ q_gw := q_in (by decide +kernel) (by decide +kernel)
theorem lX3_43 : Cond.methodLink RX3 43 yX3_load ∈ q_gw := q_in (by decide +kernel) (by decide +kernel)
theorem lX3_47 : Cond.methodLink RX3 47 Lib.Math.min.name ∈ q_gw := q_in (by decide +kernel) (by decide +kernel)
theorem lX3_51 : Cond.methodLink RX3 51 Lib.Math.max.name ∈ q_gw := q_in (by decide +kernel) (by decide +kernel)
theorem lX4_3 : Cond.methodLink RX4 3 objectInit ∈ q_gw := q_in (by decide +kernel) (by decide +kernel)
theorem lX5_3 : Cond.methodLink RX5 3 objectInit ∈ q_gw := q_in (by decide +kernel) (by decide +kernel)
theorem lX5_29 : Cond.methodLink RX5 29 yX8_init ∈ q_gw := q_in (by decide +kernel) (by decide +kernel)
theorem lX5_36 : Cond.methodLink RX5 36 yX0_clear ∈ q_gw := q_in (by decide +kernel) (by decide +kernel)
theorem lX5_41 : Cond.methodLink RX5 41 yX8_cutTape ∈ q_gw := q_in (by decide +kernel) (by decide +kernel)
theorem lX5_44 : Cond.methodLink RX5 44 yX5_moveTo ∈ q_gw := q_in (by decide +kernel) (by decide +kernel)
theorem lX5_48 : Cond.methodLink RX5 48 yX5_isTermAhead ∈ q_gw := q_in (by decide +kernel) (by decide +kernel)
theorem lX5_52 : Cond.methodLink RX5 52 yX5_fail ∈ q_gw := q_in (by decide +kernel) (by decide +kernel)
theorem lX5_56 : Cond.methodLink RX5 56 yX5_readRule ∈ q_gw := q_in (by decide +kernel) (by decide +kernel)
theorem lX5_73 : Cond.methodLink RX5 73 yX5_readTerms ∈ q_gw := q_in (by decide +kernel) (by decide +kernel)
theorem lX5_76 : Cond.methodLink RX5 76 yX5_take ∈ q_gw := q_in (by decide +kernel) (by decide +kernel)
theorem lX5_79 : Cond.methodLink RX5 79 yX5_readAmount ∈ q_gw := q_in (by decide +kernel) (by decide +kernel)
theorem lX5_82 : Cond.methodLink RX5 82 yX5_readTerm ∈ q_gw := q_in (by decide +kernel) (by decide +kernel)
theorem lX5_85 : Cond.methodLink RX5 85 yX0_addTerm ∈ q_gw := q_in (by decide +kernel) (by decide +kernel)
theorem lX5_89 : Cond.methodLink RX5 89 yX0_addRule ∈ q_gw := q_in (by decide +kernel) (by decide +kernel)
theorem lX6_3 : Cond.methodLink RX6 3 objectInit ∈ q_gw := q_in (by decide +kernel) (by decide +kernel)
theorem lX6_41 : Cond.methodLink RX6 41 yX6_hasLeg ∈ q_gw := q_in (by decide +kernel) (by decide +kernel)
theorem lX6_45 : Cond.methodLinkNest RX6 45 yX10_isHour "MuleRoad" ∈ q_nw := q_inN (by decide +kernel) rfl
theorem lX7_3 : Cond.methodLink RX7 3 objectInit ∈ q_gw := q_in (by decide +kernel) (by decide +kernel)
theorem lX7_19 : Cond.methodLink RX7 19 yX7_addByte ∈ q_gw := q_in (by decide +kernel) (by decide +kernel)
theorem lX8_3 : Cond.methodLink RX8 3 objectInit ∈ q_gw := q_in (by decide +kernel) (by decide +kernel)
theorem lX8_35 : Cond.methodLink RX8 35 yX8_cutToken ∈ q_gw := q_in (by decide +kernel) (by decide +kernel)
theorem lX8_42 : Cond.methodLink RX8 42 yX7_byteAt ∈ q_gw := q_in (by decide +kernel) (by decide +kernel)
theorem lX8_46 : Cond.methodLink RX8 46 yX8_isBlank ∈ q_gw := q_in (by decide +kernel) (by decide +kernel)
theorem lX8_50 : Cond.methodLink RX8 50 yX8_add ∈ q_gw := q_in (by decide +kernel) (by decide +kernel)
theorem lX8_54 : Cond.methodLink RX8 54 yX8_isLetter ∈ q_gw := q_in (by decide +kernel) (by decide +kernel)
theorem lX8_57 : Cond.methodLink RX8 57 yX8_cutWord ∈ q_gw := q_in (by decide +kernel) (by decide +kernel)
theorem lX8_60 : Cond.methodLink RX8 60 yX8_isDigit ∈ q_gw := q_in (by decide +kernel) (by decide +kernel)
theorem lX8_63 : Cond.methodLink RX8 63 yX8_cutNumber ∈ q_gw := q_in (by decide +kernel) (by decide +kernel)
theorem lX8_66 : Cond.methodLink RX8 66 yX8_signType ∈ q_gw := q_in (by decide +kernel) (by decide +kernel)
theorem lX8_71 : Cond.methodLink RX8 71 yX8_spells ∈ q_gw := q_in (by decide +kernel) (by decide +kernel)
theorem lX8_75 : Cond.methodLink RX8 75 yX8_kindSpelt ∈ q_gw := q_in (by decide +kernel) (by decide +kernel)
theorem lX8_78 : Cond.methodLink RX8 78 yX8_measureSpelt ∈ q_gw := q_in (by decide +kernel) (by decide +kernel)
theorem lX8_95 : Cond.methodLink RX8 95 yJ0_length_8abf5 ∈ q_gw := q_in (by decide +kernel) (by decide +kernel)
theorem lX8_100 : Cond.methodLink RX8 100 yJ0_charAt_5068e ∈ q_gw := q_in (by decide +kernel) (by decide +kernel)
theorem lX9_3 : Cond.methodLink RX9 3 objectInit ∈ q_gw := q_in (by decide +kernel) (by decide +kernel)
theorem lX9_34 : Cond.methodLink RX9 34 yX3_init ∈ q_gw := q_in (by decide +kernel) (by decide +kernel)
theorem lX9_37 : Cond.methodLink RX9 37 yX3_isFit ∈ q_gw := q_in (by decide +kernel) (by decide +kernel)
theorem lX9_41 : Cond.methodLink RX9 41 yX3_rest ∈ q_gw := q_in (by decide +kernel) (by decide +kernel)
theorem lX9_44 : Cond.methodLink RX9 44 yX3_walk ∈ q_gw := q_in (by decide +kernel) (by decide +kernel)
theorem lX9_48 : Cond.methodLink RX9 48 yX9_arrive ∈ q_gw := q_in (by decide +kernel) (by decide +kernel)
theorem lL_7 : Cond.methodLink RL 7 yX10_brought ∈ q_gw := q_in (by decide +kernel) (by decide +kernel)
theorem lL_15 : Cond.methodLink RL 15 yX10_init ∈ q_gw := q_in (by decide +kernel) (by decide +kernel)
theorem lL_18 : Cond.methodLink RL 18 yX11_init ∈ q_gw := q_in (by decide +kernel) (by decide +kernel)
theorem lL_19 : Cond.methodLink RL 19 yX10_inn ∈ q_gw := q_in (by decide +kernel) (by decide +kernel)
theorem lL_23 : Cond.methodLink RL 23 yX11_inn ∈ q_gw := q_in (by decide +kernel) (by decide +kernel)
theorem lL_24 : Cond.methodLink RL 24 yX10_string ∈ q_gw := q_in (by decide +kernel) (by decide +kernel)
theorem lL_28 : Cond.methodLink RL 28 yX11_string ∈ q_gw := q_in (by decide +kernel) (by decide +kernel)
theorem lL_29 : Cond.methodLink RL 29 yX10_snow ∈ q_gw := q_in (by decide +kernel) (by decide +kernel)
theorem lL_33 : Cond.methodLink RL 33 yX11_snow ∈ q_gw := q_in (by decide +kernel) (by decide +kernel)
theorem lL_34 : Cond.methodLink RL 34 yX10_shut ∈ q_gw := q_in (by decide +kernel) (by decide +kernel)
theorem lL_37 : Cond.methodLink RL 37 yX11_shut ∈ q_gw := q_in (by decide +kernel) (by decide +kernel)
theorem lL_38 : Cond.methodLink RL 38 yX10_pack ∈ q_gw := q_in (by decide +kernel) (by decide +kernel)
theorem lL_41 : Cond.methodLink RL 41 yX11_pack ∈ q_gw := q_in (by decide +kernel) (by decide +kernel)
theorem lL_42 : Cond.methodLink RL 42 yX10_lay ∈ q_gw := q_in (by decide +kernel) (by decide +kernel)
theorem lL_45 : Cond.methodLink RL 45 yX11_lay ∈ q_gw := q_in (by decide +kernel) (by decide +kernel)
theorem lL_46 : Cond.methodLink RL 46 yX10_down ∈ q_gw := q_in (by decide +kernel) (by decide +kernel)
theorem lL_49 : Cond.methodLink RL 49 yX11_down ∈ q_gw := q_in (by decide +kernel) (by decide +kernel)
theorem lL_50 : Cond.methodLink RL 50 yX10_go ∈ q_gw := q_in (by decide +kernel) (by decide +kernel)
theorem lL_54 : Cond.methodLink RL 54 yX11_go ∈ q_gw := q_in (by decide +kernel) (by decide +kernel)
theorem lL_55 : Cond.methodLink RL 55 yX10_hours ∈ q_gw := q_in (by decide +kernel) (by decide +kernel)
theorem lL_58 : Cond.methodLink RL 58 yX11_hours ∈ q_gw := q_in (by decide +kernel) (by decide +kernel)
theorem lL_59 : Cond.methodLink RL 59 yX10_best ∈ q_gw := q_in (by decide +kernel) (by decide +kernel)
theorem lL_63 : Cond.methodLink RL 63 yX11_best ∈ q_gw := q_in (by decide +kernel) (by decide +kernel)
theorem lL_64 : Cond.methodLink RL 64 yX10_bestOf ∈ q_gw := q_in (by decide +kernel) (by decide +kernel)
theorem lL_67 : Cond.methodLink RL 67 yX11_bestOf ∈ q_gw := q_in (by decide +kernel) (by decide +kernel)
theorem lL_68 : Cond.methodLink RL 68 yX10_feed ∈ q_gw := q_in (by decide +kernel) (by decide +kernel)
theorem lL_72 : Cond.methodLink RL 72 yX11_feed ∈ q_gw := q_in (by decide +kernel) (by decide +kernel)
theorem lL_73 : Cond.methodLink RL 73 yX10_end ∈ q_gw := q_in (by decide +kernel) (by decide +kernel)
theorem lL_76 : Cond.methodLink RL 76 yX11_end ∈ q_gw := q_in (by decide +kernel) (by decide +kernel)
theorem lL_77 : Cond.methodLink RL 77 yX10_bargain ∈ q_gw := q_in (by decide +kernel) (by decide +kernel)
theorem lL_81 : Cond.methodLink RL 81 yX11_bargain ∈ q_gw := q_in (by decide +kernel) (by decide +kernel)
theorem lL_82 : Cond.methodLink RL 82 yX10_place ∈ q_gw := q_in (by decide +kernel) (by decide +kernel)
theorem lL_85 : Cond.methodLink RL 85 yX11_place ∈ q_gw := q_in (by decide +kernel) (by decide +kernel)
theorem lL_86 : Cond.methodLink RL 86 yX10_stringOf ∈ q_gw := q_in (by decide +kernel) (by decide +kernel)
theorem lL_89 : Cond.methodLink RL 89 yX11_stringOf ∈ q_gw := q_in (by decide +kernel) (by decide +kernel)
theorem lL_90 : Cond.methodLink RL 90 yX10_muleOf ∈ q_gw := q_in (by decide +kernel) (by decide +kernel)
theorem lL_93 : Cond.methodLink RL 93 yX11_muleOf ∈ q_gw := q_in (by decide +kernel) (by decide +kernel)
theorem lL_94 : Cond.methodLink RL 94 yX10_of ∈ q_gw := q_in (by decide +kernel) (by decide +kernel)
theorem lL_97 : Cond.methodLink RL 97 yX11_of ∈ q_gw := q_in (by decide +kernel) (by decide +kernel)
theorem lL_98 : Cond.methodLink RL 98 yL_brought ∈ q_gw := q_in (by decide +kernel) (by decide +kernel)
theorem lL_103 : Cond.methodLink RL 103 yX11_brought ∈ q_gw := q_in (by decide +kernel) (by decide +kernel)
theorem lL_104 : Cond.methodLink RL 104 yX11_thrown ∈ q_gw := q_in (by decide +kernel) (by decide +kernel)
theorem lL_107 : Cond.methodLink RL 107 yX10_was ∈ q_gw := q_in (by decide +kernel) (by decide +kernel)
theorem lL_110 : Cond.methodLink RL 110 yX11_was ∈ q_gw := q_in (by decide +kernel) (by decide +kernel)
theorem lL_111 : Cond.methodLink RL 111 yX10_count ∈ q_gw := q_in (by decide +kernel) (by decide +kernel)
theorem lL_114 : Cond.methodLink RL 114 yX11_count ∈ q_gw := q_in (by decide +kernel) (by decide +kernel)
theorem tJ0_charAt_5068e : q_mV mJ0_charAt_5068e 1 := ⟨⟨q_in (by decide +kernel) (by decide +kernel), q_in (by decide +kernel) (by decide +kernel), by decide +kernel⟩, q_in (by decide +kernel) (by decide +kernel), q_in (by decide +kernel) (by decide +kernel)⟩
theorem tJ0_length_8abf5 : q_mV mJ0_length_8abf5 0 := ⟨⟨q_in (by decide +kernel) (by decide +kernel), q_in (by decide +kernel) (by decide +kernel), by decide +kernel⟩, q_in (by decide +kernel) (by decide +kernel), q_in (by decide +kernel) (by decide +kernel)⟩
theorem tX0_addRule : q_mV mX0_addRule 1 := ⟨⟨q_in (by decide +kernel) (by decide +kernel), q_in (by decide +kernel) (by decide +kernel), by decide +kernel⟩, q_in (by decide +kernel) (by decide +kernel), q_in (by decide +kernel) (by decide +kernel)⟩
theorem tX0_addTerm : q_mV mX0_addTerm 3 := ⟨⟨q_in (by decide +kernel) (by decide +kernel), q_in (by decide +kernel) (by decide +kernel), by decide +kernel⟩, q_in (by decide +kernel) (by decide +kernel), q_in (by decide +kernel) (by decide +kernel)⟩
theorem tX0_clear : q_mV mX0_clear 0 := ⟨⟨q_in (by decide +kernel) (by decide +kernel), q_in (by decide +kernel) (by decide +kernel), by decide +kernel⟩, q_in (by decide +kernel) (by decide +kernel), q_in (by decide +kernel) (by decide +kernel)⟩
theorem tX0_holdAll : q_mV mX0_holdAll 4 := ⟨⟨q_in (by decide +kernel) (by decide +kernel), q_in (by decide +kernel) (by decide +kernel), by decide +kernel⟩, q_in (by decide +kernel) (by decide +kernel), q_in (by decide +kernel) (by decide +kernel)⟩
theorem tX0_holds : q_mS mX0_holds 3 := ⟨⟨q_in (by decide +kernel) (by decide +kernel), q_in (by decide +kernel) (by decide +kernel), by decide +kernel⟩, q_in (by decide +kernel) (by decide +kernel)⟩
theorem tX0_init : q_mI mX0_init 0 := ⟨⟨q_in (by decide +kernel) (by decide +kernel), q_in (by decide +kernel) (by decide +kernel), by decide +kernel⟩, rfl, q_in (by decide +kernel) (by decide +kernel), rfl⟩
theorem tX0_measure : q_mS mX0_measure 3 := ⟨⟨q_in (by decide +kernel) (by decide +kernel), q_in (by decide +kernel) (by decide +kernel), by decide +kernel⟩, q_in (by decide +kernel) (by decide +kernel)⟩
theorem tX0_payFor : q_mV mX0_payFor 2 := ⟨⟨q_in (by decide +kernel) (by decide +kernel), q_in (by decide +kernel) (by decide +kernel), by decide +kernel⟩, q_in (by decide +kernel) (by decide +kernel), q_in (by decide +kernel) (by decide +kernel)⟩
theorem tX10_bargain : q_mV mX10_bargain 0 := ⟨⟨q_in (by decide +kernel) (by decide +kernel), q_in (by decide +kernel) (by decide +kernel), by decide +kernel⟩, q_in (by decide +kernel) (by decide +kernel), q_in (by decide +kernel) (by decide +kernel)⟩
theorem tX10_bargainIn : q_mV mX10_bargainIn 1 := ⟨⟨q_in (by decide +kernel) (by decide +kernel), q_in (by decide +kernel) (by decide +kernel), by decide +kernel⟩, q_in (by decide +kernel) (by decide +kernel), q_in (by decide +kernel) (by decide +kernel)⟩
theorem tX10_best : q_mV mX10_best 2 := ⟨⟨q_in (by decide +kernel) (by decide +kernel), q_in (by decide +kernel) (by decide +kernel), by decide +kernel⟩, q_in (by decide +kernel) (by decide +kernel), q_in (by decide +kernel) (by decide +kernel)⟩
theorem tX10_bestOf : q_mV mX10_bestOf 3 := ⟨⟨q_in (by decide +kernel) (by decide +kernel), q_in (by decide +kernel) (by decide +kernel), by decide +kernel⟩, q_in (by decide +kernel) (by decide +kernel), q_in (by decide +kernel) (by decide +kernel)⟩
theorem tX10_brought : q_mV mX10_brought 1 := ⟨⟨q_in (by decide +kernel) (by decide +kernel), q_in (by decide +kernel) (by decide +kernel), by decide +kernel⟩, q_in (by decide +kernel) (by decide +kernel), q_in (by decide +kernel) (by decide +kernel)⟩
theorem tX10_count : q_mV mX10_count 1 := ⟨⟨q_in (by decide +kernel) (by decide +kernel), q_in (by decide +kernel) (by decide +kernel), by decide +kernel⟩, q_in (by decide +kernel) (by decide +kernel), q_in (by decide +kernel) (by decide +kernel)⟩
theorem tX10_down : q_mV mX10_down 1 := ⟨⟨q_in (by decide +kernel) (by decide +kernel), q_in (by decide +kernel) (by decide +kernel), by decide +kernel⟩, q_in (by decide +kernel) (by decide +kernel), q_in (by decide +kernel) (by decide +kernel)⟩
theorem tX10_end : q_mV mX10_end 1 := ⟨⟨q_in (by decide +kernel) (by decide +kernel), q_in (by decide +kernel) (by decide +kernel), by decide +kernel⟩, q_in (by decide +kernel) (by decide +kernel), q_in (by decide +kernel) (by decide +kernel)⟩
theorem tX10_feed : q_mV mX10_feed 5 := ⟨⟨q_in (by decide +kernel) (by decide +kernel), q_in (by decide +kernel) (by decide +kernel), by decide +kernel⟩, q_in (by decide +kernel) (by decide +kernel), q_in (by decide +kernel) (by decide +kernel)⟩
theorem tX10_findBest : q_mV mX10_findBest 2 := ⟨⟨q_in (by decide +kernel) (by decide +kernel), q_in (by decide +kernel) (by decide +kernel), by decide +kernel⟩, q_in (by decide +kernel) (by decide +kernel), q_in (by decide +kernel) (by decide +kernel)⟩
theorem tX10_go : q_mV mX10_go 2 := ⟨⟨q_in (by decide +kernel) (by decide +kernel), q_in (by decide +kernel) (by decide +kernel), by decide +kernel⟩, q_in (by decide +kernel) (by decide +kernel), q_in (by decide +kernel) (by decide +kernel)⟩
theorem tX10_holdPacks : q_mV mX10_holdPacks 1 := ⟨⟨q_in (by decide +kernel) (by decide +kernel), q_in (by decide +kernel) (by decide +kernel), by decide +kernel⟩, q_in (by decide +kernel) (by decide +kernel), q_in (by decide +kernel) (by decide +kernel)⟩
theorem tX10_hours : q_mV mX10_hours 1 := ⟨⟨q_in (by decide +kernel) (by decide +kernel), q_in (by decide +kernel) (by decide +kernel), by decide +kernel⟩, q_in (by decide +kernel) (by decide +kernel), q_in (by decide +kernel) (by decide +kernel)⟩
theorem tX10_init : q_mI mX10_init 0 := ⟨⟨q_in (by decide +kernel) (by decide +kernel), q_in (by decide +kernel) (by decide +kernel), by decide +kernel⟩, rfl, q_in (by decide +kernel) (by decide +kernel), rfl⟩
theorem tX10_inn : q_mV mX10_inn 3 := ⟨⟨q_in (by decide +kernel) (by decide +kernel), q_in (by decide +kernel) (by decide +kernel), by decide +kernel⟩, q_in (by decide +kernel) (by decide +kernel), q_in (by decide +kernel) (by decide +kernel)⟩
theorem tX10_innOf : q_mV mX10_innOf 1 := ⟨⟨q_in (by decide +kernel) (by decide +kernel), q_in (by decide +kernel) (by decide +kernel), by decide +kernel⟩, q_in (by decide +kernel) (by decide +kernel), q_in (by decide +kernel) (by decide +kernel)⟩
theorem tX10_isHour : q_mS mX10_isHour 1 := ⟨⟨q_in (by decide +kernel) (by decide +kernel), q_in (by decide +kernel) (by decide +kernel), by decide +kernel⟩, q_in (by decide +kernel) (by decide +kernel)⟩
theorem tX10_isStrength : q_mS mX10_isStrength 1 := ⟨⟨q_in (by decide +kernel) (by decide +kernel), q_in (by decide +kernel) (by decide +kernel), by decide +kernel⟩, q_in (by decide +kernel) (by decide +kernel)⟩
theorem tX10_isTaken : q_mV mX10_isTaken 1 := ⟨⟨q_in (by decide +kernel) (by decide +kernel), q_in (by decide +kernel) (by decide +kernel), by decide +kernel⟩, q_in (by decide +kernel) (by decide +kernel), q_in (by decide +kernel) (by decide +kernel)⟩
theorem tX10_lay : q_mV mX10_lay 4 := ⟨⟨q_in (by decide +kernel) (by decide +kernel), q_in (by decide +kernel) (by decide +kernel), by decide +kernel⟩, q_in (by decide +kernel) (by decide +kernel), q_in (by decide +kernel) (by decide +kernel)⟩
theorem tX10_muleOf : q_mV mX10_muleOf 3 := ⟨⟨q_in (by decide +kernel) (by decide +kernel), q_in (by decide +kernel) (by decide +kernel), by decide +kernel⟩, q_in (by decide +kernel) (by decide +kernel), q_in (by decide +kernel) (by decide +kernel)⟩
theorem tX10_of : q_mV mX10_of 2 := ⟨⟨q_in (by decide +kernel) (by decide +kernel), q_in (by decide +kernel) (by decide +kernel), by decide +kernel⟩, q_in (by decide +kernel) (by decide +kernel), q_in (by decide +kernel) (by decide +kernel)⟩
theorem tX10_pack : q_mV mX10_pack 4 := ⟨⟨q_in (by decide +kernel) (by decide +kernel), q_in (by decide +kernel) (by decide +kernel), by decide +kernel⟩, q_in (by decide +kernel) (by decide +kernel), q_in (by decide +kernel) (by decide +kernel)⟩
theorem tX10_packAt : q_mV mX10_packAt 1 := ⟨⟨q_in (by decide +kernel) (by decide +kernel), q_in (by decide +kernel) (by decide +kernel), by decide +kernel⟩, q_in (by decide +kernel) (by decide +kernel), q_in (by decide +kernel) (by decide +kernel)⟩
theorem tX10_packsThatAre : q_mV mX10_packsThatAre 1 := ⟨⟨q_in (by decide +kernel) (by decide +kernel), q_in (by decide +kernel) (by decide +kernel), by decide +kernel⟩, q_in (by decide +kernel) (by decide +kernel), q_in (by decide +kernel) (by decide +kernel)⟩
theorem tX10_passHour : q_mV mX10_passHour 0 := ⟨⟨q_in (by decide +kernel) (by decide +kernel), q_in (by decide +kernel) (by decide +kernel), by decide +kernel⟩, q_in (by decide +kernel) (by decide +kernel), q_in (by decide +kernel) (by decide +kernel)⟩
theorem tX10_payFor : q_mV mX10_payFor 1 := ⟨⟨q_in (by decide +kernel) (by decide +kernel), q_in (by decide +kernel) (by decide +kernel), by decide +kernel⟩, q_in (by decide +kernel) (by decide +kernel), q_in (by decide +kernel) (by decide +kernel)⟩
theorem tX10_payOfAll : q_mV mX10_payOfAll 0 := ⟨⟨q_in (by decide +kernel) (by decide +kernel), q_in (by decide +kernel) (by decide +kernel), by decide +kernel⟩, q_in (by decide +kernel) (by decide +kernel), q_in (by decide +kernel) (by decide +kernel)⟩
theorem tX10_place : q_mV mX10_place 0 := ⟨⟨q_in (by decide +kernel) (by decide +kernel), q_in (by decide +kernel) (by decide +kernel), by decide +kernel⟩, q_in (by decide +kernel) (by decide +kernel), q_in (by decide +kernel) (by decide +kernel)⟩
theorem tX10_shut : q_mV mX10_shut 3 := ⟨⟨q_in (by decide +kernel) (by decide +kernel), q_in (by decide +kernel) (by decide +kernel), by decide +kernel⟩, q_in (by decide +kernel) (by decide +kernel), q_in (by decide +kernel) (by decide +kernel)⟩
theorem tX10_snow : q_mV mX10_snow 3 := ⟨⟨q_in (by decide +kernel) (by decide +kernel), q_in (by decide +kernel) (by decide +kernel), by decide +kernel⟩, q_in (by decide +kernel) (by decide +kernel), q_in (by decide +kernel) (by decide +kernel)⟩
theorem tX10_string : q_mV mX10_string 4 := ⟨⟨q_in (by decide +kernel) (by decide +kernel), q_in (by decide +kernel) (by decide +kernel), by decide +kernel⟩, q_in (by decide +kernel) (by decide +kernel), q_in (by decide +kernel) (by decide +kernel)⟩
theorem tX10_stringOf : q_mV mX10_stringOf 2 := ⟨⟨q_in (by decide +kernel) (by decide +kernel), q_in (by decide +kernel) (by decide +kernel), by decide +kernel⟩, q_in (by decide +kernel) (by decide +kernel), q_in (by decide +kernel) (by decide +kernel)⟩
theorem tX10_trainAt : q_mV mX10_trainAt 1 := ⟨⟨q_in (by decide +kernel) (by decide +kernel), q_in (by decide +kernel) (by decide +kernel), by decide +kernel⟩, q_in (by decide +kernel) (by decide +kernel), q_in (by decide +kernel) (by decide +kernel)⟩
theorem tX10_was : q_mV mX10_was 2 := ⟨⟨q_in (by decide +kernel) (by decide +kernel), q_in (by decide +kernel) (by decide +kernel), by decide +kernel⟩, q_in (by decide +kernel) (by decide +kernel), q_in (by decide +kernel) (by decide +kernel)⟩
theorem tX11_allBrought : q_mV mX11_allBrought 0 := ⟨⟨q_in (by decide +kernel) (by decide +kernel), q_in (by decide +kernel) (by decide +kernel), by decide +kernel⟩, q_in (by decide +kernel) (by decide +kernel), q_in (by decide +kernel) (by decide +kernel)⟩
theorem tX11_bargain : q_mV mX11_bargain 0 := ⟨⟨q_in (by decide +kernel) (by decide +kernel), q_in (by decide +kernel) (by decide +kernel), by decide +kernel⟩, q_in (by decide +kernel) (by decide +kernel), q_in (by decide +kernel) (by decide +kernel)⟩
theorem tX11_bargainOf : q_mV mX11_bargainOf 1 := ⟨⟨q_in (by decide +kernel) (by decide +kernel), q_in (by decide +kernel) (by decide +kernel), by decide +kernel⟩, q_in (by decide +kernel) (by decide +kernel), q_in (by decide +kernel) (by decide +kernel)⟩
theorem tX11_best : q_mV mX11_best 2 := ⟨⟨q_in (by decide +kernel) (by decide +kernel), q_in (by decide +kernel) (by decide +kernel), by decide +kernel⟩, q_in (by decide +kernel) (by decide +kernel), q_in (by decide +kernel) (by decide +kernel)⟩
theorem tX11_bestOf : q_mV mX11_bestOf 3 := ⟨⟨q_in (by decide +kernel) (by decide +kernel), q_in (by decide +kernel) (by decide +kernel), by decide +kernel⟩, q_in (by decide +kernel) (by decide +kernel), q_in (by decide +kernel) (by decide +kernel)⟩
theorem tX11_brought : q_mV mX11_brought 1 := ⟨⟨q_in (by decide +kernel) (by decide +kernel), q_in (by decide +kernel) (by decide +kernel), by decide +kernel⟩, q_in (by decide +kernel) (by decide +kernel), q_in (by decide +kernel) (by decide +kernel)⟩
theorem tX11_change : q_mV mX11_change 2 := ⟨⟨q_in (by decide +kernel) (by decide +kernel), q_in (by decide +kernel) (by decide +kernel), by decide +kernel⟩, q_in (by decide +kernel) (by decide +kernel), q_in (by decide +kernel) (by decide +kernel)⟩
theorem tX11_count : q_mV mX11_count 1 := ⟨⟨q_in (by decide +kernel) (by decide +kernel), q_in (by decide +kernel) (by decide +kernel), by decide +kernel⟩, q_in (by decide +kernel) (by decide +kernel), q_in (by decide +kernel) (by decide +kernel)⟩
theorem tX11_down : q_mV mX11_down 1 := ⟨⟨q_in (by decide +kernel) (by decide +kernel), q_in (by decide +kernel) (by decide +kernel), by decide +kernel⟩, q_in (by decide +kernel) (by decide +kernel), q_in (by decide +kernel) (by decide +kernel)⟩
theorem tX11_end : q_mV mX11_end 1 := ⟨⟨q_in (by decide +kernel) (by decide +kernel), q_in (by decide +kernel) (by decide +kernel), by decide +kernel⟩, q_in (by decide +kernel) (by decide +kernel), q_in (by decide +kernel) (by decide +kernel)⟩
theorem tX11_fails : q_mV mX11_fails 1 := ⟨⟨q_in (by decide +kernel) (by decide +kernel), q_in (by decide +kernel) (by decide +kernel), by decide +kernel⟩, q_in (by decide +kernel) (by decide +kernel), q_in (by decide +kernel) (by decide +kernel)⟩
theorem tX11_feed : q_mV mX11_feed 5 := ⟨⟨q_in (by decide +kernel) (by decide +kernel), q_in (by decide +kernel) (by decide +kernel), by decide +kernel⟩, q_in (by decide +kernel) (by decide +kernel), q_in (by decide +kernel) (by decide +kernel)⟩
theorem tX11_finds : q_mV mX11_finds 2 := ⟨⟨q_in (by decide +kernel) (by decide +kernel), q_in (by decide +kernel) (by decide +kernel), by decide +kernel⟩, q_in (by decide +kernel) (by decide +kernel), q_in (by decide +kernel) (by decide +kernel)⟩
theorem tX11_go : q_mV mX11_go 2 := ⟨⟨q_in (by decide +kernel) (by decide +kernel), q_in (by decide +kernel) (by decide +kernel), by decide +kernel⟩, q_in (by decide +kernel) (by decide +kernel), q_in (by decide +kernel) (by decide +kernel)⟩
theorem tX11_goes : q_mV mX11_goes 0 := ⟨⟨q_in (by decide +kernel) (by decide +kernel), q_in (by decide +kernel) (by decide +kernel), by decide +kernel⟩, q_in (by decide +kernel) (by decide +kernel), q_in (by decide +kernel) (by decide +kernel)⟩
theorem tX11_holds : q_mV mX11_holds 0 := ⟨⟨q_in (by decide +kernel) (by decide +kernel), q_in (by decide +kernel) (by decide +kernel), by decide +kernel⟩, q_in (by decide +kernel) (by decide +kernel), q_in (by decide +kernel) (by decide +kernel)⟩
theorem tX11_holds_ : q_mV mX11_holds_ 2 := ⟨⟨q_in (by decide +kernel) (by decide +kernel), q_in (by decide +kernel) (by decide +kernel), by decide +kernel⟩, q_in (by decide +kernel) (by decide +kernel), q_in (by decide +kernel) (by decide +kernel)⟩
theorem tX11_hours : q_mV mX11_hours 1 := ⟨⟨q_in (by decide +kernel) (by decide +kernel), q_in (by decide +kernel) (by decide +kernel), by decide +kernel⟩, q_in (by decide +kernel) (by decide +kernel), q_in (by decide +kernel) (by decide +kernel)⟩
theorem tX11_init : q_mI mX11_init 0 := ⟨⟨q_in (by decide +kernel) (by decide +kernel), q_in (by decide +kernel) (by decide +kernel), by decide +kernel⟩, rfl, q_in (by decide +kernel) (by decide +kernel), rfl⟩
theorem tX11_inn : q_mV mX11_inn 3 := ⟨⟨q_in (by decide +kernel) (by decide +kernel), q_in (by decide +kernel) (by decide +kernel), by decide +kernel⟩, q_in (by decide +kernel) (by decide +kernel), q_in (by decide +kernel) (by decide +kernel)⟩
theorem tX11_innOf : q_mV mX11_innOf 1 := ⟨⟨q_in (by decide +kernel) (by decide +kernel), q_in (by decide +kernel) (by decide +kernel), by decide +kernel⟩, q_in (by decide +kernel) (by decide +kernel), q_in (by decide +kernel) (by decide +kernel)⟩
theorem tX11_is : q_mV mX11_is 1 := ⟨⟨q_in (by decide +kernel) (by decide +kernel), q_in (by decide +kernel) (by decide +kernel), by decide +kernel⟩, q_in (by decide +kernel) (by decide +kernel), q_in (by decide +kernel) (by decide +kernel)⟩
theorem tX11_isDigit : q_mS mX11_isDigit 1 := ⟨⟨q_in (by decide +kernel) (by decide +kernel), q_in (by decide +kernel) (by decide +kernel), by decide +kernel⟩, q_in (by decide +kernel) (by decide +kernel)⟩
theorem tX11_isEven : q_mV mX11_isEven 1 := ⟨⟨q_in (by decide +kernel) (by decide +kernel), q_in (by decide +kernel) (by decide +kernel), by decide +kernel⟩, q_in (by decide +kernel) (by decide +kernel), q_in (by decide +kernel) (by decide +kernel)⟩
theorem tX11_isInn : q_mV mX11_isInn 1 := ⟨⟨q_in (by decide +kernel) (by decide +kernel), q_in (by decide +kernel) (by decide +kernel), by decide +kernel⟩, q_in (by decide +kernel) (by decide +kernel), q_in (by decide +kernel) (by decide +kernel)⟩
theorem tX11_isLeg : q_mV mX11_isLeg 1 := ⟨⟨q_in (by decide +kernel) (by decide +kernel), q_in (by decide +kernel) (by decide +kernel), by decide +kernel⟩, q_in (by decide +kernel) (by decide +kernel), q_in (by decide +kernel) (by decide +kernel)⟩
theorem tX11_isPack : q_mV mX11_isPack 1 := ⟨⟨q_in (by decide +kernel) (by decide +kernel), q_in (by decide +kernel) (by decide +kernel), by decide +kernel⟩, q_in (by decide +kernel) (by decide +kernel), q_in (by decide +kernel) (by decide +kernel)⟩
theorem tX11_isShut : q_mV mX11_isShut 3 := ⟨⟨q_in (by decide +kernel) (by decide +kernel), q_in (by decide +kernel) (by decide +kernel), by decide +kernel⟩, q_in (by decide +kernel) (by decide +kernel), q_in (by decide +kernel) (by decide +kernel)⟩
theorem tX11_isSmall : q_mS mX11_isSmall 1 := ⟨⟨q_in (by decide +kernel) (by decide +kernel), q_in (by decide +kernel) (by decide +kernel), by decide +kernel⟩, q_in (by decide +kernel) (by decide +kernel)⟩
theorem tX11_isString : q_mV mX11_isString 1 := ⟨⟨q_in (by decide +kernel) (by decide +kernel), q_in (by decide +kernel) (by decide +kernel), by decide +kernel⟩, q_in (by decide +kernel) (by decide +kernel), q_in (by decide +kernel) (by decide +kernel)⟩
theorem tX11_isWell : q_mV mX11_isWell 0 := ⟨⟨q_in (by decide +kernel) (by decide +kernel), q_in (by decide +kernel) (by decide +kernel), by decide +kernel⟩, q_in (by decide +kernel) (by decide +kernel), q_in (by decide +kernel) (by decide +kernel)⟩
theorem tX11_isWord : q_mV mX11_isWord 1 := ⟨⟨q_in (by decide +kernel) (by decide +kernel), q_in (by decide +kernel) (by decide +kernel), by decide +kernel⟩, q_in (by decide +kernel) (by decide +kernel), q_in (by decide +kernel) (by decide +kernel)⟩
theorem tX11_lay : q_mV mX11_lay 4 := ⟨⟨q_in (by decide +kernel) (by decide +kernel), q_in (by decide +kernel) (by decide +kernel), by decide +kernel⟩, q_in (by decide +kernel) (by decide +kernel), q_in (by decide +kernel) (by decide +kernel)⟩
theorem tX11_load : q_mV mX11_load 2 := ⟨⟨q_in (by decide +kernel) (by decide +kernel), q_in (by decide +kernel) (by decide +kernel), by decide +kernel⟩, q_in (by decide +kernel) (by decide +kernel), q_in (by decide +kernel) (by decide +kernel)⟩
theorem tX11_many : q_mV mX11_many 1 := ⟨⟨q_in (by decide +kernel) (by decide +kernel), q_in (by decide +kernel) (by decide +kernel), by decide +kernel⟩, q_in (by decide +kernel) (by decide +kernel), q_in (by decide +kernel) (by decide +kernel)⟩
theorem tX11_muleOf : q_mV mX11_muleOf 3 := ⟨⟨q_in (by decide +kernel) (by decide +kernel), q_in (by decide +kernel) (by decide +kernel), by decide +kernel⟩, q_in (by decide +kernel) (by decide +kernel), q_in (by decide +kernel) (by decide +kernel)⟩
theorem tX11_next : q_mV mX11_next 0 := ⟨⟨q_in (by decide +kernel) (by decide +kernel), q_in (by decide +kernel) (by decide +kernel), by decide +kernel⟩, q_in (by decide +kernel) (by decide +kernel), q_in (by decide +kernel) (by decide +kernel)⟩
theorem tX11_number : q_mV mX11_number 0 := ⟨⟨q_in (by decide +kernel) (by decide +kernel), q_in (by decide +kernel) (by decide +kernel), by decide +kernel⟩, q_in (by decide +kernel) (by decide +kernel), q_in (by decide +kernel) (by decide +kernel)⟩
theorem tX11_of : q_mV mX11_of 2 := ⟨⟨q_in (by decide +kernel) (by decide +kernel), q_in (by decide +kernel) (by decide +kernel), by decide +kernel⟩, q_in (by decide +kernel) (by decide +kernel), q_in (by decide +kernel) (by decide +kernel)⟩
theorem tX11_pack : q_mV mX11_pack 4 := ⟨⟨q_in (by decide +kernel) (by decide +kernel), q_in (by decide +kernel) (by decide +kernel), by decide +kernel⟩, q_in (by decide +kernel) (by decide +kernel), q_in (by decide +kernel) (by decide +kernel)⟩
theorem tX11_packsOn : q_mV mX11_packsOn 1 := ⟨⟨q_in (by decide +kernel) (by decide +kernel), q_in (by decide +kernel) (by decide +kernel), by decide +kernel⟩, q_in (by decide +kernel) (by decide +kernel), q_in (by decide +kernel) (by decide +kernel)⟩
theorem tX11_place : q_mV mX11_place 0 := ⟨⟨q_in (by decide +kernel) (by decide +kernel), q_in (by decide +kernel) (by decide +kernel), by decide +kernel⟩, q_in (by decide +kernel) (by decide +kernel), q_in (by decide +kernel) (by decide +kernel)⟩
theorem tX11_rests : q_mV mX11_rests 1 := ⟨⟨q_in (by decide +kernel) (by decide +kernel), q_in (by decide +kernel) (by decide +kernel), by decide +kernel⟩, q_in (by decide +kernel) (by decide +kernel), q_in (by decide +kernel) (by decide +kernel)⟩
theorem tX11_rule : q_mV mX11_rule 0 := ⟨⟨q_in (by decide +kernel) (by decide +kernel), q_in (by decide +kernel) (by decide +kernel), by decide +kernel⟩, q_in (by decide +kernel) (by decide +kernel), q_in (by decide +kernel) (by decide +kernel)⟩
theorem tX11_see : q_mV mX11_see 1 := ⟨⟨q_in (by decide +kernel) (by decide +kernel), q_in (by decide +kernel) (by decide +kernel), by decide +kernel⟩, q_in (by decide +kernel) (by decide +kernel), q_in (by decide +kernel) (by decide +kernel)⟩
theorem tX11_shut : q_mV mX11_shut 3 := ⟨⟨q_in (by decide +kernel) (by decide +kernel), q_in (by decide +kernel) (by decide +kernel), by decide +kernel⟩, q_in (by decide +kernel) (by decide +kernel), q_in (by decide +kernel) (by decide +kernel)⟩
theorem tX11_snow : q_mV mX11_snow 3 := ⟨⟨q_in (by decide +kernel) (by decide +kernel), q_in (by decide +kernel) (by decide +kernel), by decide +kernel⟩, q_in (by decide +kernel) (by decide +kernel), q_in (by decide +kernel) (by decide +kernel)⟩
theorem tX11_string : q_mV mX11_string 4 := ⟨⟨q_in (by decide +kernel) (by decide +kernel), q_in (by decide +kernel) (by decide +kernel), by decide +kernel⟩, q_in (by decide +kernel) (by decide +kernel), q_in (by decide +kernel) (by decide +kernel)⟩
theorem tX11_stringOf : q_mV mX11_stringOf 2 := ⟨⟨q_in (by decide +kernel) (by decide +kernel), q_in (by decide +kernel) (by decide +kernel), by decide +kernel⟩, q_in (by decide +kernel) (by decide +kernel), q_in (by decide +kernel) (by decide +kernel)⟩
theorem tX11_term : q_mV mX11_term 1 := ⟨⟨q_in (by decide +kernel) (by decide +kernel), q_in (by decide +kernel) (by decide +kernel), by decide +kernel⟩, q_in (by decide +kernel) (by decide +kernel), q_in (by decide +kernel) (by decide +kernel)⟩
theorem tX11_thrown : q_mV mX11_thrown 0 := ⟨⟨q_in (by decide +kernel) (by decide +kernel), q_in (by decide +kernel) (by decide +kernel), by decide +kernel⟩, q_in (by decide +kernel) (by decide +kernel), q_in (by decide +kernel) (by decide +kernel)⟩
theorem tX11_tires : q_mV mX11_tires 1 := ⟨⟨q_in (by decide +kernel) (by decide +kernel), q_in (by decide +kernel) (by decide +kernel), by decide +kernel⟩, q_in (by decide +kernel) (by decide +kernel), q_in (by decide +kernel) (by decide +kernel)⟩
theorem tX11_top : q_mV mX11_top 1 := ⟨⟨q_in (by decide +kernel) (by decide +kernel), q_in (by decide +kernel) (by decide +kernel), by decide +kernel⟩, q_in (by decide +kernel) (by decide +kernel), q_in (by decide +kernel) (by decide +kernel)⟩
theorem tX11_tries : q_mV mX11_tries 5 := ⟨⟨q_in (by decide +kernel) (by decide +kernel), q_in (by decide +kernel) (by decide +kernel), by decide +kernel⟩, q_in (by decide +kernel) (by decide +kernel), q_in (by decide +kernel) (by decide +kernel)⟩
theorem tX11_want : q_mV mX11_want 1 := ⟨⟨q_in (by decide +kernel) (by decide +kernel), q_in (by decide +kernel) (by decide +kernel), by decide +kernel⟩, q_in (by decide +kernel) (by decide +kernel), q_in (by decide +kernel) (by decide +kernel)⟩
theorem tX11_was : q_mV mX11_was 2 := ⟨⟨q_in (by decide +kernel) (by decide +kernel), q_in (by decide +kernel) (by decide +kernel), by decide +kernel⟩, q_in (by decide +kernel) (by decide +kernel), q_in (by decide +kernel) (by decide +kernel)⟩
theorem tX11_within : q_mS mX11_within 3 := ⟨⟨q_in (by decide +kernel) (by decide +kernel), q_in (by decide +kernel) (by decide +kernel), by decide +kernel⟩, q_in (by decide +kernel) (by decide +kernel)⟩
theorem tX11_word : q_mV mX11_word 0 := ⟨⟨q_in (by decide +kernel) (by decide +kernel), q_in (by decide +kernel) (by decide +kernel), by decide +kernel⟩, q_in (by decide +kernel) (by decide +kernel), q_in (by decide +kernel) (by decide +kernel)⟩
theorem tX11_worth : q_mV mX11_worth 1 := ⟨⟨q_in (by decide +kernel) (by decide +kernel), q_in (by decide +kernel) (by decide +kernel), by decide +kernel⟩, q_in (by decide +kernel) (by decide +kernel), q_in (by decide +kernel) (by decide +kernel)⟩
theorem tX1_add : q_mV mX1_add 2 := ⟨⟨q_in (by decide +kernel) (by decide +kernel), q_in (by decide +kernel) (by decide +kernel), by decide +kernel⟩, q_in (by decide +kernel) (by decide +kernel), q_in (by decide +kernel) (by decide +kernel)⟩
theorem tX1_clear : q_mV mX1_clear 0 := ⟨⟨q_in (by decide +kernel) (by decide +kernel), q_in (by decide +kernel) (by decide +kernel), by decide +kernel⟩, q_in (by decide +kernel) (by decide +kernel), q_in (by decide +kernel) (by decide +kernel)⟩
theorem tX1_findFor : q_mV mX1_findFor 1 := ⟨⟨q_in (by decide +kernel) (by decide +kernel), q_in (by decide +kernel) (by decide +kernel), by decide +kernel⟩, q_in (by decide +kernel) (by decide +kernel), q_in (by decide +kernel) (by decide +kernel)⟩
theorem tX1_init : q_mI mX1_init 0 := ⟨⟨q_in (by decide +kernel) (by decide +kernel), q_in (by decide +kernel) (by decide +kernel), by decide +kernel⟩, rfl, q_in (by decide +kernel) (by decide +kernel), rfl⟩
theorem tX1_isHopeless : q_mV mX1_isHopeless 4 := ⟨⟨q_in (by decide +kernel) (by decide +kernel), q_in (by decide +kernel) (by decide +kernel), by decide +kernel⟩, q_in (by decide +kernel) (by decide +kernel), q_in (by decide +kernel) (by decide +kernel)⟩
theorem tX1_keep : q_mV mX1_keep 2 := ⟨⟨q_in (by decide +kernel) (by decide +kernel), q_in (by decide +kernel) (by decide +kernel), by decide +kernel⟩, q_in (by decide +kernel) (by decide +kernel), q_in (by decide +kernel) (by decide +kernel)⟩
theorem tX1_look : q_mS mX1_look 5 := ⟨⟨q_in (by decide +kernel) (by decide +kernel), q_in (by decide +kernel) (by decide +kernel), by decide +kernel⟩, q_in (by decide +kernel) (by decide +kernel)⟩
theorem tX1_sideOf : q_mV mX1_sideOf 1 := ⟨⟨q_in (by decide +kernel) (by decide +kernel), q_in (by decide +kernel) (by decide +kernel), by decide +kernel⟩, q_in (by decide +kernel) (by decide +kernel), q_in (by decide +kernel) (by decide +kernel)⟩
theorem tX2_add : q_mV mX2_add 3 := ⟨⟨q_in (by decide +kernel) (by decide +kernel), q_in (by decide +kernel) (by decide +kernel), by decide +kernel⟩, q_in (by decide +kernel) (by decide +kernel), q_in (by decide +kernel) (by decide +kernel)⟩
theorem tX2_init : q_mI mX2_init 0 := ⟨⟨q_in (by decide +kernel) (by decide +kernel), q_in (by decide +kernel) (by decide +kernel), by decide +kernel⟩, rfl, q_in (by decide +kernel) (by decide +kernel), rfl⟩
theorem tX2_placeOf : q_mV mX2_placeOf 2 := ⟨⟨q_in (by decide +kernel) (by decide +kernel), q_in (by decide +kernel) (by decide +kernel), by decide +kernel⟩, q_in (by decide +kernel) (by decide +kernel), q_in (by decide +kernel) (by decide +kernel)⟩
theorem tX3_bear : q_mV mX3_bear 3 := ⟨⟨q_in (by decide +kernel) (by decide +kernel), q_in (by decide +kernel) (by decide +kernel), by decide +kernel⟩, q_in (by decide +kernel) (by decide +kernel), q_in (by decide +kernel) (by decide +kernel)⟩
theorem tX3_init : q_mI mX3_init 1 := ⟨⟨q_in (by decide +kernel) (by decide +kernel), q_in (by decide +kernel) (by decide +kernel), by decide +kernel⟩, rfl, q_in (by decide +kernel) (by decide +kernel), rfl⟩
theorem tX3_isFit : q_mV mX3_isFit 0 := ⟨⟨q_in (by decide +kernel) (by decide +kernel), q_in (by decide +kernel) (by decide +kernel), by decide +kernel⟩, q_in (by decide +kernel) (by decide +kernel), q_in (by decide +kernel) (by decide +kernel)⟩
theorem tX3_load : q_mV mX3_load 0 := ⟨⟨q_in (by decide +kernel) (by decide +kernel), q_in (by decide +kernel) (by decide +kernel), by decide +kernel⟩, q_in (by decide +kernel) (by decide +kernel), q_in (by decide +kernel) (by decide +kernel)⟩
theorem tX3_rest : q_mV mX3_rest 0 := ⟨⟨q_in (by decide +kernel) (by decide +kernel), q_in (by decide +kernel) (by decide +kernel), by decide +kernel⟩, q_in (by decide +kernel) (by decide +kernel), q_in (by decide +kernel) (by decide +kernel)⟩
theorem tX3_unload : q_mV mX3_unload 2 := ⟨⟨q_in (by decide +kernel) (by decide +kernel), q_in (by decide +kernel) (by decide +kernel), by decide +kernel⟩, q_in (by decide +kernel) (by decide +kernel), q_in (by decide +kernel) (by decide +kernel)⟩
theorem tX3_walk : q_mV mX3_walk 2 := ⟨⟨q_in (by decide +kernel) (by decide +kernel), q_in (by decide +kernel) (by decide +kernel), by decide +kernel⟩, q_in (by decide +kernel) (by decide +kernel), q_in (by decide +kernel) (by decide +kernel)⟩
theorem tX4_deliver : q_mV mX4_deliver 1 := ⟨⟨q_in (by decide +kernel) (by decide +kernel), q_in (by decide +kernel) (by decide +kernel), by decide +kernel⟩, q_in (by decide +kernel) (by decide +kernel), q_in (by decide +kernel) (by decide +kernel)⟩
theorem tX4_init : q_mI mX4_init 5 := ⟨⟨q_in (by decide +kernel) (by decide +kernel), q_in (by decide +kernel) (by decide +kernel), by decide +kernel⟩, rfl, q_in (by decide +kernel) (by decide +kernel), rfl⟩
theorem tX4_liftOnto : q_mV mX4_liftOnto 3 := ⟨⟨q_in (by decide +kernel) (by decide +kernel), q_in (by decide +kernel) (by decide +kernel), by decide +kernel⟩, q_in (by decide +kernel) (by decide +kernel), q_in (by decide +kernel) (by decide +kernel)⟩
theorem tX4_nextLeg : q_mV mX4_nextLeg 1 := ⟨⟨q_in (by decide +kernel) (by decide +kernel), q_in (by decide +kernel) (by decide +kernel), by decide +kernel⟩, q_in (by decide +kernel) (by decide +kernel), q_in (by decide +kernel) (by decide +kernel)⟩
theorem tX4_putAt : q_mV mX4_putAt 1 := ⟨⟨q_in (by decide +kernel) (by decide +kernel), q_in (by decide +kernel) (by decide +kernel), by decide +kernel⟩, q_in (by decide +kernel) (by decide +kernel), q_in (by decide +kernel) (by decide +kernel)⟩
theorem tX5_fail : q_mV mX5_fail 1 := ⟨⟨q_in (by decide +kernel) (by decide +kernel), q_in (by decide +kernel) (by decide +kernel), by decide +kernel⟩, q_in (by decide +kernel) (by decide +kernel), q_in (by decide +kernel) (by decide +kernel)⟩
theorem tX5_init : q_mI mX5_init 1 := ⟨⟨q_in (by decide +kernel) (by decide +kernel), q_in (by decide +kernel) (by decide +kernel), by decide +kernel⟩, rfl, q_in (by decide +kernel) (by decide +kernel), rfl⟩
theorem tX5_isTermAhead : q_mV mX5_isTermAhead 0 := ⟨⟨q_in (by decide +kernel) (by decide +kernel), q_in (by decide +kernel) (by decide +kernel), by decide +kernel⟩, q_in (by decide +kernel) (by decide +kernel), q_in (by decide +kernel) (by decide +kernel)⟩
theorem tX5_moveTo : q_mV mX5_moveTo 1 := ⟨⟨q_in (by decide +kernel) (by decide +kernel), q_in (by decide +kernel) (by decide +kernel), by decide +kernel⟩, q_in (by decide +kernel) (by decide +kernel), q_in (by decide +kernel) (by decide +kernel)⟩
theorem tX5_readAmount : q_mV mX5_readAmount 1 := ⟨⟨q_in (by decide +kernel) (by decide +kernel), q_in (by decide +kernel) (by decide +kernel), by decide +kernel⟩, q_in (by decide +kernel) (by decide +kernel), q_in (by decide +kernel) (by decide +kernel)⟩
theorem tX5_readInto : q_mV mX5_readInto 1 := ⟨⟨q_in (by decide +kernel) (by decide +kernel), q_in (by decide +kernel) (by decide +kernel), by decide +kernel⟩, q_in (by decide +kernel) (by decide +kernel), q_in (by decide +kernel) (by decide +kernel)⟩
theorem tX5_readRule : q_mV mX5_readRule 1 := ⟨⟨q_in (by decide +kernel) (by decide +kernel), q_in (by decide +kernel) (by decide +kernel), by decide +kernel⟩, q_in (by decide +kernel) (by decide +kernel), q_in (by decide +kernel) (by decide +kernel)⟩
theorem tX5_readTerm : q_mV mX5_readTerm 1 := ⟨⟨q_in (by decide +kernel) (by decide +kernel), q_in (by decide +kernel) (by decide +kernel), by decide +kernel⟩, q_in (by decide +kernel) (by decide +kernel), q_in (by decide +kernel) (by decide +kernel)⟩
theorem tX5_readTerms : q_mV mX5_readTerms 1 := ⟨⟨q_in (by decide +kernel) (by decide +kernel), q_in (by decide +kernel) (by decide +kernel), by decide +kernel⟩, q_in (by decide +kernel) (by decide +kernel), q_in (by decide +kernel) (by decide +kernel)⟩
theorem tX5_take : q_mV mX5_take 1 := ⟨⟨q_in (by decide +kernel) (by decide +kernel), q_in (by decide +kernel) (by decide +kernel), by decide +kernel⟩, q_in (by decide +kernel) (by decide +kernel), q_in (by decide +kernel) (by decide +kernel)⟩
theorem tX6_addInn : q_mV mX6_addInn 3 := ⟨⟨q_in (by decide +kernel) (by decide +kernel), q_in (by decide +kernel) (by decide +kernel), by decide +kernel⟩, q_in (by decide +kernel) (by decide +kernel), q_in (by decide +kernel) (by decide +kernel)⟩
theorem tX6_addTelling : q_mV mX6_addTelling 4 := ⟨⟨q_in (by decide +kernel) (by decide +kernel), q_in (by decide +kernel) (by decide +kernel), by decide +kernel⟩, q_in (by decide +kernel) (by decide +kernel), q_in (by decide +kernel) (by decide +kernel)⟩
theorem tX6_climbsOf : q_mV mX6_climbsOf 1 := ⟨⟨q_in (by decide +kernel) (by decide +kernel), q_in (by decide +kernel) (by decide +kernel), by decide +kernel⟩, q_in (by decide +kernel) (by decide +kernel), q_in (by decide +kernel) (by decide +kernel)⟩
theorem tX6_hasInn : q_mV mX6_hasInn 1 := ⟨⟨q_in (by decide +kernel) (by decide +kernel), q_in (by decide +kernel) (by decide +kernel), by decide +kernel⟩, q_in (by decide +kernel) (by decide +kernel), q_in (by decide +kernel) (by decide +kernel)⟩
theorem tX6_hasLeg : q_mV mX6_hasLeg 1 := ⟨⟨q_in (by decide +kernel) (by decide +kernel), q_in (by decide +kernel) (by decide +kernel), by decide +kernel⟩, q_in (by decide +kernel) (by decide +kernel), q_in (by decide +kernel) (by decide +kernel)⟩
theorem tX6_hoursOf : q_mV mX6_hoursOf 1 := ⟨⟨q_in (by decide +kernel) (by decide +kernel), q_in (by decide +kernel) (by decide +kernel), by decide +kernel⟩, q_in (by decide +kernel) (by decide +kernel), q_in (by decide +kernel) (by decide +kernel)⟩
theorem tX6_init : q_mI mX6_init 0 := ⟨⟨q_in (by decide +kernel) (by decide +kernel), q_in (by decide +kernel) (by decide +kernel), by decide +kernel⟩, rfl, q_in (by decide +kernel) (by decide +kernel), rfl⟩
theorem tX6_isLedge : q_mV mX6_isLedge 1 := ⟨⟨q_in (by decide +kernel) (by decide +kernel), q_in (by decide +kernel) (by decide +kernel), by decide +kernel⟩, q_in (by decide +kernel) (by decide +kernel), q_in (by decide +kernel) (by decide +kernel)⟩
theorem tX6_isShut : q_mV mX6_isShut 3 := ⟨⟨q_in (by decide +kernel) (by decide +kernel), q_in (by decide +kernel) (by decide +kernel), by decide +kernel⟩, q_in (by decide +kernel) (by decide +kernel), q_in (by decide +kernel) (by decide +kernel)⟩
theorem tX6_shutLegs : q_mV mX6_shutLegs 1 := ⟨⟨q_in (by decide +kernel) (by decide +kernel), q_in (by decide +kernel) (by decide +kernel), by decide +kernel⟩, q_in (by decide +kernel) (by decide +kernel), q_in (by decide +kernel) (by decide +kernel)⟩
theorem tX7_addByte : q_mV mX7_addByte 1 := ⟨⟨q_in (by decide +kernel) (by decide +kernel), q_in (by decide +kernel) (by decide +kernel), by decide +kernel⟩, q_in (by decide +kernel) (by decide +kernel), q_in (by decide +kernel) (by decide +kernel)⟩
theorem tX7_addNumber : q_mV mX7_addNumber 1 := ⟨⟨q_in (by decide +kernel) (by decide +kernel), q_in (by decide +kernel) (by decide +kernel), by decide +kernel⟩, q_in (by decide +kernel) (by decide +kernel), q_in (by decide +kernel) (by decide +kernel)⟩
theorem tX7_byteAt : q_mV mX7_byteAt 1 := ⟨⟨q_in (by decide +kernel) (by decide +kernel), q_in (by decide +kernel) (by decide +kernel), by decide +kernel⟩, q_in (by decide +kernel) (by decide +kernel), q_in (by decide +kernel) (by decide +kernel)⟩
theorem tX7_init : q_mI mX7_init 0 := ⟨⟨q_in (by decide +kernel) (by decide +kernel), q_in (by decide +kernel) (by decide +kernel), by decide +kernel⟩, rfl, q_in (by decide +kernel) (by decide +kernel), rfl⟩
theorem tX8_add : q_mV mX8_add 2 := ⟨⟨q_in (by decide +kernel) (by decide +kernel), q_in (by decide +kernel) (by decide +kernel), by decide +kernel⟩, q_in (by decide +kernel) (by decide +kernel), q_in (by decide +kernel) (by decide +kernel)⟩
theorem tX8_cutNumber : q_mV mX8_cutNumber 0 := ⟨⟨q_in (by decide +kernel) (by decide +kernel), q_in (by decide +kernel) (by decide +kernel), by decide +kernel⟩, q_in (by decide +kernel) (by decide +kernel), q_in (by decide +kernel) (by decide +kernel)⟩
theorem tX8_cutTape : q_mV mX8_cutTape 0 := ⟨⟨q_in (by decide +kernel) (by decide +kernel), q_in (by decide +kernel) (by decide +kernel), by decide +kernel⟩, q_in (by decide +kernel) (by decide +kernel), q_in (by decide +kernel) (by decide +kernel)⟩
theorem tX8_cutToken : q_mV mX8_cutToken 0 := ⟨⟨q_in (by decide +kernel) (by decide +kernel), q_in (by decide +kernel) (by decide +kernel), by decide +kernel⟩, q_in (by decide +kernel) (by decide +kernel), q_in (by decide +kernel) (by decide +kernel)⟩
theorem tX8_cutWord : q_mV mX8_cutWord 0 := ⟨⟨q_in (by decide +kernel) (by decide +kernel), q_in (by decide +kernel) (by decide +kernel), by decide +kernel⟩, q_in (by decide +kernel) (by decide +kernel), q_in (by decide +kernel) (by decide +kernel)⟩
theorem tX8_init : q_mI mX8_init 1 := ⟨⟨q_in (by decide +kernel) (by decide +kernel), q_in (by decide +kernel) (by decide +kernel), by decide +kernel⟩, rfl, q_in (by decide +kernel) (by decide +kernel), rfl⟩
theorem tX8_isBlank : q_mS mX8_isBlank 1 := ⟨⟨q_in (by decide +kernel) (by decide +kernel), q_in (by decide +kernel) (by decide +kernel), by decide +kernel⟩, q_in (by decide +kernel) (by decide +kernel)⟩
theorem tX8_isDigit : q_mS mX8_isDigit 1 := ⟨⟨q_in (by decide +kernel) (by decide +kernel), q_in (by decide +kernel) (by decide +kernel), by decide +kernel⟩, q_in (by decide +kernel) (by decide +kernel)⟩
theorem tX8_isLetter : q_mS mX8_isLetter 1 := ⟨⟨q_in (by decide +kernel) (by decide +kernel), q_in (by decide +kernel) (by decide +kernel), by decide +kernel⟩, q_in (by decide +kernel) (by decide +kernel)⟩
theorem tX8_kindSpelt : q_mV mX8_kindSpelt 0 := ⟨⟨q_in (by decide +kernel) (by decide +kernel), q_in (by decide +kernel) (by decide +kernel), by decide +kernel⟩, q_in (by decide +kernel) (by decide +kernel), q_in (by decide +kernel) (by decide +kernel)⟩
theorem tX8_measureSpelt : q_mV mX8_measureSpelt 0 := ⟨⟨q_in (by decide +kernel) (by decide +kernel), q_in (by decide +kernel) (by decide +kernel), by decide +kernel⟩, q_in (by decide +kernel) (by decide +kernel), q_in (by decide +kernel) (by decide +kernel)⟩
theorem tX8_signType : q_mS mX8_signType 1 := ⟨⟨q_in (by decide +kernel) (by decide +kernel), q_in (by decide +kernel) (by decide +kernel), by decide +kernel⟩, q_in (by decide +kernel) (by decide +kernel)⟩
theorem tX8_spells : q_mV mX8_spells 1 := ⟨⟨q_in (by decide +kernel) (by decide +kernel), q_in (by decide +kernel) (by decide +kernel), by decide +kernel⟩, q_in (by decide +kernel) (by decide +kernel), q_in (by decide +kernel) (by decide +kernel)⟩
theorem tX9_arrive : q_mV mX9_arrive 0 := ⟨⟨q_in (by decide +kernel) (by decide +kernel), q_in (by decide +kernel) (by decide +kernel), by decide +kernel⟩, q_in (by decide +kernel) (by decide +kernel), q_in (by decide +kernel) (by decide +kernel)⟩
theorem tX9_goThrough : q_mV mX9_goThrough 2 := ⟨⟨q_in (by decide +kernel) (by decide +kernel), q_in (by decide +kernel) (by decide +kernel), by decide +kernel⟩, q_in (by decide +kernel) (by decide +kernel), q_in (by decide +kernel) (by decide +kernel)⟩
theorem tX9_init : q_mI mX9_init 4 := ⟨⟨q_in (by decide +kernel) (by decide +kernel), q_in (by decide +kernel) (by decide +kernel), by decide +kernel⟩, rfl, q_in (by decide +kernel) (by decide +kernel), rfl⟩
theorem tX9_isFit : q_mV mX9_isFit 0 := ⟨⟨q_in (by decide +kernel) (by decide +kernel), q_in (by decide +kernel) (by decide +kernel), by decide +kernel⟩, q_in (by decide +kernel) (by decide +kernel), q_in (by decide +kernel) (by decide +kernel)⟩
theorem tX9_leave : q_mV mX9_leave 3 := ⟨⟨q_in (by decide +kernel) (by decide +kernel), q_in (by decide +kernel) (by decide +kernel), by decide +kernel⟩, q_in (by decide +kernel) (by decide +kernel), q_in (by decide +kernel) (by decide +kernel)⟩
theorem tX9_muleAt : q_mV mX9_muleAt 1 := ⟨⟨q_in (by decide +kernel) (by decide +kernel), q_in (by decide +kernel) (by decide +kernel), by decide +kernel⟩, q_in (by decide +kernel) (by decide +kernel), q_in (by decide +kernel) (by decide +kernel)⟩
theorem q_wObj : Cond.instanceMethod objectInit ∈ q_gw ∧ Cond.code objectInit ⟨#[0xb1]⟩ 1 none ∈ q_gw := ⟨q_in (by decide +kernel) (by decide +kernel), q_in (by decide +kernel) (by decide +kernel)⟩
theorem q_wmax : Cond.static Lib.Math.max.name ∈ q_gw ∧ Cond.initialized "java/lang/Math" ∈ q_gw ∧ Cond.code Lib.Math.max.name Lib.Math.max.code 2 (some .int) ∈ q_gw := ⟨q_in (by decide +kernel) (by decide +kernel), q_in (by decide +kernel) (by decide +kernel), q_in (by decide +kernel) (by decide +kernel)⟩
theorem q_wmin : Cond.static Lib.Math.min.name ∈ q_gw ∧ Cond.initialized "java/lang/Math" ∈ q_gw ∧ Cond.code Lib.Math.min.name Lib.Math.min.code 2 (some .int) ∈ q_gw := ⟨q_in (by decide +kernel) (by decide +kernel), q_in (by decide +kernel) (by decide +kernel), q_in (by decide +kernel) (by decide +kernel)⟩
theorem q_wabs : Cond.static Lib.Math.abs.name ∈ q_gw ∧ Cond.initialized "java/lang/Math" ∈ q_gw ∧ Cond.code Lib.Math.abs.name Lib.Math.abs.code 1 (some .int) ∈ q_gw := ⟨q_in (by decide +kernel) (by decide +kernel), q_in (by decide +kernel) (by decide +kernel), q_in (by decide +kernel) (by decide +kernel)⟩
theorem kX10_7 : Cond.classLink RX10 7 RX6 ∈ q_gw := q_in (by decide +kernel) (by decide +kernel)
theorem kX10_16 : Cond.classLink RX10 16 RX9 ∈ q_gw := q_in (by decide +kernel) (by decide +kernel)
theorem kX10_22 : Cond.classLink RX10 22 RX4 ∈ q_gw := q_in (by decide +kernel) (by decide +kernel)
theorem kX10_28 : Cond.classLink RX10 28 RX0 ∈ q_gw := q_in (by decide +kernel) (by decide +kernel)
theorem kX10_34 : Cond.classLink RX10 34 RX2 ∈ q_gw := q_in (by decide +kernel) (by decide +kernel)
theorem kX10_41 : Cond.classLink RX10 41 RX7 ∈ q_gw := q_in (by decide +kernel) (by decide +kernel)
theorem kX10_48 : Cond.classLink RX10 48 RX5 ∈ q_gw := q_in (by decide +kernel) (by decide +kernel)
theorem kX10_57 : Cond.classLink RX10 57 RX1 ∈ q_gw := q_in (by decide +kernel) (by decide +kernel)
theorem kX5_27 : Cond.classLink RX5 27 RX8 ∈ q_gw := q_in (by decide +kernel) (by decide +kernel)
theorem kX9_9 : Cond.classLink RX9 9 RX3 ∈ q_gw := q_in (by decide +kernel) (by decide +kernel)
theorem kL_8 : Cond.classLink RL 8 RX10 ∈ q_gw := q_in (by decide +kernel) (by decide +kernel)
theorem kL_16 : Cond.classLink RL 16 RX11 ∈ q_gw := q_in (by decide +kernel) (by decide +kernel)
theorem q_ins0 : Cond.instantiable RX0 8 ∈ q_gw ∧ Cond.initialized RX0 ∈ q_gw := ⟨q_in (by decide +kernel) (by decide +kernel), q_in (by decide +kernel) (by decide +kernel)⟩
theorem q_ins1 : Cond.instantiable RX1 9 ∈ q_gw ∧ Cond.initialized RX1 ∈ q_gw := ⟨q_in (by decide +kernel) (by decide +kernel), q_in (by decide +kernel) (by decide +kernel)⟩
theorem q_ins2 : Cond.instantiable RX2 4 ∈ q_gw ∧ Cond.initialized RX2 ∈ q_gw := ⟨q_in (by decide +kernel) (by decide +kernel), q_in (by decide +kernel) (by decide +kernel)⟩
theorem q_ins3 : Cond.instantiable RX3 8 ∈ q_gw ∧ Cond.initialized RX3 ∈ q_gw := ⟨q_in (by decide +kernel) (by decide +kernel), q_in (by decide +kernel) (by decide +kernel)⟩
theorem q_ins4 : Cond.instantiable RX4 10 ∈ q_gw ∧ Cond.initialized RX4 ∈ q_gw := ⟨q_in (by decide +kernel) (by decide +kernel), q_in (by decide +kernel) (by decide +kernel)⟩
theorem q_ins5 : Cond.instantiable RX5 6 ∈ q_gw ∧ Cond.initialized RX5 ∈ q_gw := ⟨q_in (by decide +kernel) (by decide +kernel), q_in (by decide +kernel) (by decide +kernel)⟩
theorem q_ins6 : Cond.instantiable RX6 9 ∈ q_gw ∧ Cond.initialized RX6 ∈ q_gw := ⟨q_in (by decide +kernel) (by decide +kernel), q_in (by decide +kernel) (by decide +kernel)⟩
theorem q_ins7 : Cond.instantiable RX7 2 ∈ q_gw ∧ Cond.initialized RX7 ∈ q_gw := ⟨q_in (by decide +kernel) (by decide +kernel), q_in (by decide +kernel) (by decide +kernel)⟩
theorem q_ins8 : Cond.instantiable RX8 7 ∈ q_gw ∧ Cond.initialized RX8 ∈ q_gw := ⟨q_in (by decide +kernel) (by decide +kernel), q_in (by decide +kernel) (by decide +kernel)⟩
theorem q_ins9 : Cond.instantiable RX9 6 ∈ q_gw ∧ Cond.initialized RX9 ∈ q_gw := ⟨q_in (by decide +kernel) (by decide +kernel), q_in (by decide +kernel) (by decide +kernel)⟩
theorem q_ins10 : Cond.instantiable RX10 13 ∈ q_gw ∧ Cond.initialized RX10 ∈ q_gw := ⟨q_in (by decide +kernel) (by decide +kernel), q_in (by decide +kernel) (by decide +kernel)⟩
theorem q_ins11 : Cond.instantiable RX11 58 ∈ q_gw ∧ Cond.initialized RX11 ∈ q_gw := ⟨q_in (by decide +kernel) (by decide +kernel), q_in (by decide +kernel) (by decide +kernel)⟩
theorem q_ac_int : Cond.arrayClass .int ∈ q_gw := q_in (by decide +kernel) (by decide +kernel)
theorem q_ac_boolean : Cond.arrayClass .boolean ∈ q_gw := q_in (by decide +kernel) (by decide +kernel)
theorem q_ac_byte : Cond.arrayClass .byte ∈ q_gw := q_in (by decide +kernel) (by decide +kernel)
theorem q_ac_long : Cond.arrayClass .long ∈ q_gw := q_in (by decide +kernel) (by decide +kernel)
end
section
def q_isR (ty : FieldType) : Bool := match ty with
  | .object _ => true
  | .array _ => true
  | _ => false
def q_sT (c k : Nat) : FieldType := match q_pk c with
  | some x => x.1
  | none => q_ty c k
def q_rf (ad : Nat → Nat → Nat) (r : Option (Nat × Nat)) : Value := match r with
  | none => .null
  | some q => .ref (ad q.1 q.2)
def q_tv (ty : FieldType) (x : Int32) (v : Value) : Value := match ty with
  | .object _ => v
  | .array _ => v
  | .long => .long x.toInt64
  | _ => .int x
def q_sv (ad : Nat → Nat → Nat) (h : q_H) (c i k : Nat) : Value := q_tv (q_sT c k) (h.1 c i k) (q_rf ad (h.2.1 c i k))
def q_ce (g : q_G) (ad : Nat → Nat → Nat) (h : q_H) (H : Heap) (c i : Nat) : Prop :=
  (∀ x, q_pk c = some x → H[ad c i]? = some (arrV (g.2.2.1 x.1) x.2 (q_sv ad h c i))) ∧ (q_pk c = none → ∃ q, q_cl[c]? = some q ∧ t_OB (ad c i) (g.2.1.1 c) q.2.2 (g.2.1.2 c) H (q_sv ad h c i))
def q_P (g : q_G) (ad : Nat → Nat → Nat) (h : q_H) (H : Heap) : Prop :=
  (∀ c i, i < h.2.2 c → q_ce g ad h H c i) ∧ (∀ c i d j, i < h.2.2 c → j < h.2.2 d → ad c i = ad d j → c = d ∧ i = j) ∧ (∀ c i, i < h.2.2 c → g.2.2.2.1 ≤ ad c i) ∧ ∀ c i k q, i < h.2.2 c → h.2.1 c i k = some q → q.2 < h.2.2 q.1
def q_A (g : q_G) : Nat → Prop := fun q => g.2.2.2.1 ≤ q
def q_X (g : q_G) : Prop := (∀ s U : State, g.2.2.2.2 s → s.WarmedH U.vm → s.heap.size ≤ U.heap.size → (∀ q : Nat, q < s.heap.size → q < g.2.2.2.1 → U.heap[q]? = s.heap[q]?) → g.2.2.2.2 U) ∧ ∀ (U : State) (f : JFrame) (mk : MethodId) (a : Array Value), g.2.2.2.2 U → g.2.2.2.2 (U.calling f mk a)
def q_K (g : q_G) (U : State) : Prop :=
  (∀ (c : Nat) (q : vw_C), q_cl[c]? = some q → u_Kn U q.1 q.2.1 q.2.2 (g.2.1.1 c) (g.2.1.2 c)) ∧ (∀ c x, q_pk c = some x → ArrOfT U (g.2.2.1 x.1) x.1 ∧ va_RA U (g.2.2.1 x.1) x.1) ∧ (∀ w ∈ q_nw, va_Nw w U) ∧ (∀ C ∈ q_ov, va_AO C U) ∧ g.2.2.2.2 U ∧ q_X g
theorem q_nw_warm {w : Cond} {s U : State} (hw : w ∈ q_nw) (hW : s.WarmedH U.vm) (h : va_Nw w s) : va_Nw w U := by
  have h1 := (List.mem_filter.mp hw).2
  cases w <;> first | exact va_Nw.warmF hW h | exact va_Nw.warmM hW h | (simp [q_isN] at h1)
theorem q_nw_tab {w : Cond} (hw : w ∈ q_nw) : w.onTables = true := by
  have h1 := (List.mem_filter.mp hw).2
  cases w <;> first | rfl | (simp [q_isN] at h1)
theorem q_K.call {g : q_G} {s U : State} {H : Heap} {locs : List Loc} (h : q_K g s) (hW : s.WarmedH U.vm) (hS : va_S (q_A g) s.heap H locs) (hU : U.heap = H) : q_K g U := by
  obtain ⟨h1, h2, h3, h4, h5, h6⟩ := h
  refine ⟨fun c q hq => u_Kn_moved hW.alike (h1 c q hq), fun c x hx => ⟨arrOfT_moved hW.alike (h2 c x hx).1, va_RA.moved hW.alike (h2 c x hx).2⟩, fun w hw => q_nw_warm hw hW (h3 w hw), fun C hC => va_AO.moved hW.alike (h4 C hC), ?_, h6⟩
  refine h6.1 s U h5 hW (by rw [hU]; exact hS.1) (fun q hq hb => ?_)
  rw [hU]
  exact hS.2.1 q hq (fun z => Nat.not_le.mpr hb z)
theorem q_K.blind {g : q_G} {U : State} {f : JFrame} {mk : MethodId} {a : Array Value} (h : q_K g U) : q_K g (U.calling f mk a) := by
  obtain ⟨h1, h2, h3, h4, h5, h6⟩ := h
  exact ⟨fun c q hq => u_Kn_moved (U := U.calling f mk a) (Vm.Alike.refl U.vm) (h1 c q hq), fun c x hx => ⟨arrOfT_moved (E := U.calling f mk a) (Vm.Alike.refl U.vm) (h2 c x hx).1, va_RA.moved (U := U.calling f mk a) (Vm.Alike.refl U.vm) (h2 c x hx).2⟩, fun w hw => va_Nw.same (u := U) (U := U.calling f mk a) (q_nw_tab hw) rfl (h3 w hw), fun C hC => va_AO.moved (U := U.calling f mk a) (Vm.Alike.refl U.vm) (h4 C hC), h6.2 U f mk a h5, h6⟩
def q_c (ad : Nat → Nat → Nat) (v : q_V) : Value := match v with
  | .inl x => x
  | .inr q => .ref (ad q.1 q.2)
def q_vk (h : q_H) (v : q_V) : Prop := match v with
  | .inl _ => True
  | .inr q => q.2 < h.2.2 q.1
def q_sc (v : q_V) : Nat := match v with
  | .inl x => x.category
  | .inr _ => 1
theorem q_c_cat (ad : Nat → Nat → Nat) (v : q_V) : (q_c ad v).category = q_sc v := by
  cases v <;> rfl
def q_L (ad : Nat → Nat → Nat) (h : q_H) (n : Nat) (ls : List (Option q_V)) (L : Array Slot) : Prop :=
  L.size = n ∧ lv_wf L ∧ ls.length = n ∧ ∀ (i : Nat) (v : q_V), ls[i]? = some (some v) → L[i]? = some (Slot.val (q_c ad v)) ∧ q_vk h v ∧ q_sc v = 1
def q_D (g : q_G) (ad0 : Nat → Nat → Nat) (n0 : Nat → Nat) (s : State) (ad : Nat → Nat → Nat) (h : q_H) (H : Heap) (locs : List Loc) : Prop :=
  q_P g ad h H ∧ va_S (q_A g) s.heap H locs ∧ ∀ c, n0 c ≤ h.2.2 c ∧ ∀ i, i < n0 c → ad c i = ad0 c i
def q_Cx (g : q_G) (y : q_M) (p : Program) (s : State) (m : MethodId) (args : Array Value) (meth : Method) (c : Code) : Prop :=
  p.tables.exec = Jvm.exec ∧ c.code = y.2.1 ∧ c.maxLocals = y.2.2.1 ∧ s.vm.findClass y.1.cls = some m.cls ∧ (∀ w ∈ q_gw, w.before args s = true) ∧ meth.sig.returnType = y.2.2.2 ∧ meth.locks = false ∧ meth.name = y.1.name ∧ q_K g s ∧ g.2.2.2.1 ≤ s.heap.size
def q_rt (y : q_M) (pc : Nat) (v : List q_V) : Prop :=
  (∃ x ty, v = [q_I x] ∧ y.2.2.2 = some ty ∧ narrow ty (.int x) = .int x ∧ decode y.2.1 pc = .ok (.ireturn, 1)) ∨ (v = [] ∧ y.2.2.2 = none ∧ decode y.2.1 pc = .ok (.return_, 1)) ∨ ∃ r C, v = [r] ∧ y.2.2.2 = some (.object C) ∧ (r = q_N ∨ ∃ q, r = .inr q) ∧ decode y.2.1 pc = .ok (.areturn, 1)
def q_F (g : q_G) (y : q_M) (R : Room) (K : List q_V → q_H → Prop) (p : Program) (e : Env) (s : State) (m : MethodId) (args : Array Value) (below : List Frame) (meth : Method) (c : Code) (Q : State → Prop) (ad0 : Nat → Nat → Nat) (n0 : Nat → Nat) : Prop :=
  ∀ (pc : Nat) (L : Array Slot) (v : List q_V) (h : q_H) (ad : Nat → Nat → Nat) (H : Heap) (locs : List Loc), K v h → q_D g ad0 n0 s ad h H locs → (∀ x ∈ v, q_vk h x) → q_rt y pc v → W p g.1 e R s m args below meth c H locs R.cells R.slots Q (F0 m pc L (v.map (q_c ad)))
def q_E (g : q_G) (y : q_M) (R : Room) (K : List q_V → q_H → Prop) (u : Nat × Nat) (pc : Nat) (ls : List (Option q_V)) (st : List q_V) (h : q_H) : Prop :=
  ∀ (p : Program) (e : Env) (s : State) (m : MethodId) (args : Array Value) (below : List Frame) (meth : Method) (c : Code) (Q : State → Prop) (ad0 : Nat → Nat → Nat) (n0 : Nat → Nat) (ad : Nat → Nat → Nat) (H : Heap) (locs : List Loc) (L : Array Slot),
    q_Cx g y p s m args meth c → q_F g y R K p e s m args below meth c Q ad0 n0 → q_D g ad0 n0 s ad h H locs → q_L ad h y.2.2.1 ls L → (∀ v ∈ st, q_vk h v) → u.1 ≤ R.cells → u.2 ≤ R.slots → W p g.1 e R s m args below meth c H locs u.1 u.2 Q (F0 m pc L (st.map (q_c ad)))
theorem q_tl {P : q_V → Prop} {a : q_V} {st : List q_V} (h : ∀ v ∈ a :: st, P v) : ∀ v ∈ st, P v := fun v hv => h v (List.mem_cons_of_mem _ hv)
theorem q_hd {P : q_V → Prop} {a : q_V} {st : List q_V} (h : ∀ v ∈ a :: st, P v) : P a := h a List.mem_cons_self
theorem q_cs {P : q_V → Prop} {a : q_V} {st : List q_V} (h1 : P a) (h : ∀ v ∈ st, P v) : ∀ v ∈ a :: st, P v := fun v hv => (List.mem_cons.mp hv).elim (fun e => e ▸ h1) (h v)
def q_ll (ad : Nat → Nat → Nat) (ls : List (Option q_V)) : List (Nat × Value) := (List.range ls.length).filterMap (fun i => (ls[i]?.join).map (fun v => (i, q_c ad v)))
theorem q_ll_mem {ad : Nat → Nat → Nat} {ls : List (Option q_V)} {i : Nat} {x : Value} : (i, x) ∈ q_ll ad ls ↔ ∃ v, ls[i]? = some (some v) ∧ q_c ad v = x := by
  unfold q_ll
  rw [List.mem_filterMap]
  constructor
  · rintro ⟨j, -, h⟩
    cases hj : ls[j]? with
    | none => simp [hj] at h
    | some o =>
      cases o with
      | none => simp [hj] at h
      | some v =>
        simp [hj] at h
        obtain ⟨rfl, h2⟩ := h
        exact ⟨v, hj, h2⟩
  · rintro ⟨v, h1, h2⟩
    refine ⟨i, List.mem_range.mpr (List.getElem?_eq_some_iff.mp h1).1, ?_⟩
    simp [h1, h2]
theorem q_L.has {ad : Nat → Nat → Nat} {h : q_H} {n : Nat} {ls : List (Option q_V)} {L : Array Slot} (hL : q_L ad h n ls L) : lv_has L n (q_ll ad ls) := by
  refine ⟨hL.1, hL.2.1, fun q hq => ?_⟩
  obtain ⟨v, h1, h2⟩ := q_ll_mem.mp hq
  rw [← h2]
  exact (hL.2.2.2 _ v h1).1
theorem q_L.set {ad : Nat → Nat → Nat} {h : q_H} {n i : Nat} {ls : List (Option q_V)} {L L' : Array Slot} {v : q_V} (hL : q_L ad h n ls L) (hv : q_vk h v) (hc : q_sc v = 1) (hL' : lv_has L' n ((i, q_c ad v) :: (q_ll ad ls).filter (fun q => !(q.1 == i) && !(q.1 + 1 == i && q.2.category == 2)))) : q_L ad h n (ls.set i (some v)) L' := by
  refine ⟨hL'.1, hL'.2.1, by rw [List.length_set]; exact hL.2.2.1, fun j w hj => ?_⟩
  by_cases hji : j = i
  · subst hji
    have hlt : j < ls.length := by
      have := (List.getElem?_eq_some_iff.mp hj).1
      rwa [List.length_set] at this
    rw [List.getElem?_set_self hlt] at hj
    cases hj
    exact ⟨hL'.2.2 (j, q_c ad v) List.mem_cons_self, hv, hc⟩
  · rw [List.getElem?_set_ne (Ne.symm hji)] at hj
    obtain ⟨h1, h2, h3⟩ := hL.2.2.2 j w hj
    refine ⟨hL'.2.2 (j, q_c ad w) (List.mem_cons_of_mem _ (List.mem_filter.mpr ⟨q_ll_mem.mpr ⟨w, hj, rfl⟩, ?_⟩)), h2, h3⟩
    simp [hji, q_c_cat, h3]
end
section
def q_rv (v : q_V) : Prop := v = q_N ∨ (∃ a, v = .inl (.ref a)) ∨ ∃ q, v = .inr q
theorem q_rvO {q : Nat × Nat} : q_rv (.inr q) := Or.inr (Or.inr ⟨q, rfl⟩)
theorem q_rvN : q_rv q_N := Or.inl rfl
theorem q_rvA {a : Nat} : q_rv (.inl (.ref a)) := Or.inr (Or.inl ⟨a, rfl⟩)
theorem xe_iadd {g : q_G} {y : q_M} {R : Room} {K : List q_V → q_H → Prop} {u : Nat × Nat} {pc : Nat} {ls : List (Option q_V)} {st : List q_V} {h : q_H} {x z : Int32} (hd : decode y.2.1 pc = .ok (.iadd, 1)) (k : q_E g y R K u (pc + 1) ls (q_I (x + z) :: st) h) : q_E g y R K u pc ls (q_I z :: q_I x :: st) h := by
  intro p e s m args below meth c Q ad0 n0 ad H locs L C F D hL hv h1 h2
  exact lv_iadd C.1 C.2.1 hd (k p e s m args below meth c Q ad0 n0 ad H locs L C F D hL (q_cs trivial (q_tl (q_tl hv))) h1 h2)
theorem xe_isub {g : q_G} {y : q_M} {R : Room} {K : List q_V → q_H → Prop} {u : Nat × Nat} {pc : Nat} {ls : List (Option q_V)} {st : List q_V} {h : q_H} {x z : Int32} (hd : decode y.2.1 pc = .ok (.isub, 1)) (k : q_E g y R K u (pc + 1) ls (q_I (x - z) :: st) h) : q_E g y R K u pc ls (q_I z :: q_I x :: st) h := by
  intro p e s m args below meth c Q ad0 n0 ad H locs L C F D hL hv h1 h2
  exact lv_isub C.1 C.2.1 hd (k p e s m args below meth c Q ad0 n0 ad H locs L C F D hL (q_cs trivial (q_tl (q_tl hv))) h1 h2)
theorem xe_imul {g : q_G} {y : q_M} {R : Room} {K : List q_V → q_H → Prop} {u : Nat × Nat} {pc : Nat} {ls : List (Option q_V)} {st : List q_V} {h : q_H} {x z : Int32} (hd : decode y.2.1 pc = .ok (.imul, 1)) (k : q_E g y R K u (pc + 1) ls (q_I (x * z) :: st) h) : q_E g y R K u pc ls (q_I z :: q_I x :: st) h := by
  intro p e s m args below meth c Q ad0 n0 ad H locs L C F D hL hv h1 h2
  exact lv_imul C.1 C.2.1 hd (k p e s m args below meth c Q ad0 n0 ad H locs L C F D hL (q_cs trivial (q_tl (q_tl hv))) h1 h2)
theorem xe_iand {g : q_G} {y : q_M} {R : Room} {K : List q_V → q_H → Prop} {u : Nat × Nat} {pc : Nat} {ls : List (Option q_V)} {st : List q_V} {h : q_H} {x z : Int32} (hd : decode y.2.1 pc = .ok (.iand, 1)) (k : q_E g y R K u (pc + 1) ls (q_I (x &&& z) :: st) h) : q_E g y R K u pc ls (q_I z :: q_I x :: st) h := by
  intro p e s m args below meth c Q ad0 n0 ad H locs L C F D hL hv h1 h2
  exact lv_iand C.1 C.2.1 hd (k p e s m args below meth c Q ad0 n0 ad H locs L C F D hL (q_cs trivial (q_tl (q_tl hv))) h1 h2)
theorem xe_ior {g : q_G} {y : q_M} {R : Room} {K : List q_V → q_H → Prop} {u : Nat × Nat} {pc : Nat} {ls : List (Option q_V)} {st : List q_V} {h : q_H} {x z : Int32} (hd : decode y.2.1 pc = .ok (.ior, 1)) (k : q_E g y R K u (pc + 1) ls (q_I (x ||| z) :: st) h) : q_E g y R K u pc ls (q_I z :: q_I x :: st) h := by
  intro p e s m args below meth c Q ad0 n0 ad H locs L C F D hL hv h1 h2
  exact lv_ior C.1 C.2.1 hd (k p e s m args below meth c Q ad0 n0 ad H locs L C F D hL (q_cs trivial (q_tl (q_tl hv))) h1 h2)
theorem xe_ishl {g : q_G} {y : q_M} {R : Room} {K : List q_V → q_H → Prop} {u : Nat × Nat} {pc : Nat} {ls : List (Option q_V)} {st : List q_V} {h : q_H} {x z : Int32} (hd : decode y.2.1 pc = .ok (.ishl, 1)) (k : q_E g y R K u (pc + 1) ls (q_I (x <<< (z &&& 31)) :: st) h) : q_E g y R K u pc ls (q_I z :: q_I x :: st) h := by
  intro p e s m args below meth c Q ad0 n0 ad H locs L C F D hL hv h1 h2
  exact lv_ishl C.1 C.2.1 hd (k p e s m args below meth c Q ad0 n0 ad H locs L C F D hL (q_cs trivial (q_tl (q_tl hv))) h1 h2)
theorem xe_ishr {g : q_G} {y : q_M} {R : Room} {K : List q_V → q_H → Prop} {u : Nat × Nat} {pc : Nat} {ls : List (Option q_V)} {st : List q_V} {h : q_H} {x z : Int32} (hd : decode y.2.1 pc = .ok (.ishr, 1)) (k : q_E g y R K u (pc + 1) ls (q_I (x >>> (z &&& 31)) :: st) h) : q_E g y R K u pc ls (q_I z :: q_I x :: st) h := by
  intro p e s m args below meth c Q ad0 n0 ad H locs L C F D hL hv h1 h2
  exact lv_ishr C.1 C.2.1 hd (k p e s m args below meth c Q ad0 n0 ad H locs L C F D hL (q_cs trivial (q_tl (q_tl hv))) h1 h2)
theorem xe_iushr {g : q_G} {y : q_M} {R : Room} {K : List q_V → q_H → Prop} {u : Nat × Nat} {pc : Nat} {ls : List (Option q_V)} {st : List q_V} {h : q_H} {x z : Int32} (hd : decode y.2.1 pc = .ok (.iushr, 1)) (k : q_E g y R K u (pc + 1) ls (q_I ((x.toUInt32 >>> (z.toUInt32 &&& Int32.toUInt32 31)).toInt32) :: st) h) : q_E g y R K u pc ls (q_I z :: q_I x :: st) h := by
  intro p e s m args below meth c Q ad0 n0 ad H locs L C F D hL hv h1 h2
  exact lv_iushr C.1 C.2.1 hd rfl (k p e s m args below meth c Q ad0 n0 ad H locs L C F D hL (q_cs trivial (q_tl (q_tl hv))) h1 h2)
theorem xe_idiv {g : q_G} {y : q_M} {R : Room} {K : List q_V → q_H → Prop} {u : Nat × Nat} {pc : Nat} {ls : List (Option q_V)} {st : List q_V} {h : q_H} {x z : Int32} (hd : decode y.2.1 pc = .ok (.idiv, 1)) (hz : ¬ z = 0) (k : q_E g y R K u (pc + 1) ls (q_I (x / z) :: st) h) : q_E g y R K u pc ls (q_I z :: q_I x :: st) h := by
  intro p e s m args below meth c Q ad0 n0 ad H locs L C F D hL hv h1 h2
  exact lv_idiv C.1 C.2.1 hd hz (k p e s m args below meth c Q ad0 n0 ad H locs L C F D hL (q_cs trivial (q_tl (q_tl hv))) h1 h2)
theorem xe_irem {g : q_G} {y : q_M} {R : Room} {K : List q_V → q_H → Prop} {u : Nat × Nat} {pc : Nat} {ls : List (Option q_V)} {st : List q_V} {h : q_H} {x z : Int32} (hd : decode y.2.1 pc = .ok (.irem, 1)) (hz : ¬ z = 0) (k : q_E g y R K u (pc + 1) ls (q_I (x - x / z * z) :: st) h) : q_E g y R K u pc ls (q_I z :: q_I x :: st) h := by
  intro p e s m args below meth c Q ad0 n0 ad H locs L C F D hL hv h1 h2
  exact lv_irem C.1 C.2.1 hd hz (k p e s m args below meth c Q ad0 n0 ad H locs L C F D hL (q_cs trivial (q_tl (q_tl hv))) h1 h2)
theorem xe_ineg {g : q_G} {y : q_M} {R : Room} {K : List q_V → q_H → Prop} {u : Nat × Nat} {pc : Nat} {ls : List (Option q_V)} {st : List q_V} {h : q_H} {x : Int32} (hd : decode y.2.1 pc = .ok (.ineg, 1)) (k : q_E g y R K u (pc + 1) ls (q_I (-x) :: st) h) : q_E g y R K u pc ls (q_I x :: st) h := by
  intro p e s m args below meth c Q ad0 n0 ad H locs L C F D hL hv h1 h2
  exact lv_ineg C.1 C.2.1 hd (k p e s m args below meth c Q ad0 n0 ad H locs L C F D hL (q_cs trivial (q_tl hv)) h1 h2)
theorem xe_i2b {g : q_G} {y : q_M} {R : Room} {K : List q_V → q_H → Prop} {u : Nat × Nat} {pc : Nat} {ls : List (Option q_V)} {st : List q_V} {h : q_H} {x : Int32} (hd : decode y.2.1 pc = .ok (.i2b, 1)) (k : q_E g y R K u (pc + 1) ls (q_I x.toInt8.toInt32 :: st) h) : q_E g y R K u pc ls (q_I x :: st) h := by
  intro p e s m args below meth c Q ad0 n0 ad H locs L C F D hL hv h1 h2
  exact lv_i2b C.1 C.2.1 hd rfl (k p e s m args below meth c Q ad0 n0 ad H locs L C F D hL (q_cs trivial (q_tl hv)) h1 h2)
theorem xe_i2l {g : q_G} {y : q_M} {R : Room} {K : List q_V → q_H → Prop} {u : Nat × Nat} {pc : Nat} {ls : List (Option q_V)} {st : List q_V} {h : q_H} {x : Int32} (hd : decode y.2.1 pc = .ok (.i2l, 1)) (k : q_E g y R K u (pc + 1) ls (q_J x.toInt64 :: st) h) : q_E g y R K u pc ls (q_I x :: st) h := by
  intro p e s m args below meth c Q ad0 n0 ad H locs L C F D hL hv h1 h2
  exact lv_i2l C.1 C.2.1 hd rfl (k p e s m args below meth c Q ad0 n0 ad H locs L C F D hL (q_cs trivial (q_tl hv)) h1 h2)
theorem xe_iconst {g : q_G} {y : q_M} {R : Room} {K : List q_V → q_H → Prop} {u : Nat × Nat} {pc : Nat} {ls : List (Option q_V)} {st : List q_V} {h : q_H} {n : Int} (v : Int32) (hd : decode y.2.1 pc = .ok (.iconst n, 1)) (he : Int32.ofInt n = v) (k : q_E g y R K u (pc + 1) ls (q_I v :: st) h) : q_E g y R K u pc ls st h := by
  intro p e s m args below meth c Q ad0 n0 ad H locs L C F D hL hv h1 h2
  exact lv_iconst C.1 C.2.1 hd he (k p e s m args below meth c Q ad0 n0 ad H locs L C F D hL (q_cs trivial hv) h1 h2)
theorem xe_bipush {g : q_G} {y : q_M} {R : Room} {K : List q_V → q_H → Prop} {u : Nat × Nat} {pc : Nat} {ls : List (Option q_V)} {st : List q_V} {h : q_H} {n : Int} (v : Int32) (hd : decode y.2.1 pc = .ok (.bipush n, 2)) (he : (Int8.ofInt n).toInt32 = v) (k : q_E g y R K u (pc + 2) ls (q_I v :: st) h) : q_E g y R K u pc ls st h := by
  intro p e s m args below meth c Q ad0 n0 ad H locs L C F D hL hv h1 h2
  exact lv_bipush C.1 C.2.1 hd he (k p e s m args below meth c Q ad0 n0 ad H locs L C F D hL (q_cs trivial hv) h1 h2)
theorem xe_sipush {g : q_G} {y : q_M} {R : Room} {K : List q_V → q_H → Prop} {u : Nat × Nat} {pc : Nat} {ls : List (Option q_V)} {st : List q_V} {h : q_H} {n : Int} (v : Int32) (hd : decode y.2.1 pc = .ok (.sipush n, 3)) (he : (Int16.ofInt n).toInt32 = v) (k : q_E g y R K u (pc + 3) ls (q_I v :: st) h) : q_E g y R K u pc ls st h := by
  intro p e s m args below meth c Q ad0 n0 ad H locs L C F D hL hv h1 h2
  exact lv_sipush C.1 C.2.1 hd he (k p e s m args below meth c Q ad0 n0 ad H locs L C F D hL (q_cs trivial hv) h1 h2)
theorem xe_null {g : q_G} {y : q_M} {R : Room} {K : List q_V → q_H → Prop} {u : Nat × Nat} {pc : Nat} {ls : List (Option q_V)} {st : List q_V} {h : q_H} (hd : decode y.2.1 pc = .ok (.aconst_null, 1)) (k : q_E g y R K u (pc + 1) ls (q_N :: st) h) : q_E g y R K u pc ls st h := by
  intro p e s m args below meth c Q ad0 n0 ad H locs L C F D hL hv h1 h2
  exact lv_null C.1 C.2.1 hd (k p e s m args below meth c Q ad0 n0 ad H locs L C F D hL (q_cs trivial hv) h1 h2)
theorem xe_iload_n {g : q_G} {y : q_M} {R : Room} {K : List q_V → q_H → Prop} {u : Nat × Nat} {pc : Nat} {ls : List (Option q_V)} {st : List q_V} {h : q_H} {k0 : Fin 4} {x : Int32} (hd : decode y.2.1 pc = .ok (.iload_n k0, 1)) (hl : ls[(k0 : Nat)]? = some (some (q_I x))) (k : q_E g y R K u (pc + 1) ls (q_I x :: st) h) : q_E g y R K u pc ls st h := by
  intro p e s m args below meth c Q ad0 n0 ad H locs L C F D hL hv h1 h2
  exact lv_iload_n C.1 C.2.1 hd rfl (hL.2.2.2 _ _ hl).1 (k p e s m args below meth c Q ad0 n0 ad H locs L C F D hL (q_cs trivial hv) h1 h2)
theorem xe_iload {g : q_G} {y : q_M} {R : Room} {K : List q_V → q_H → Prop} {u : Nat × Nat} {pc : Nat} {ls : List (Option q_V)} {st : List q_V} {h : q_H} {i : Nat} {x : Int32} (hd : decode y.2.1 pc = .ok (.iload i, 2)) (hl : ls[i]? = some (some (q_I x))) (k : q_E g y R K u (pc + 2) ls (q_I x :: st) h) : q_E g y R K u pc ls st h := by
  intro p e s m args below meth c Q ad0 n0 ad H locs L C F D hL hv h1 h2
  exact lv_iload C.1 C.2.1 hd (hL.2.2.2 _ _ hl).1 (k p e s m args below meth c Q ad0 n0 ad H locs L C F D hL (q_cs trivial hv) h1 h2)
theorem xe_aload_n {g : q_G} {y : q_M} {R : Room} {K : List q_V → q_H → Prop} {u : Nat × Nat} {pc : Nat} {ls : List (Option q_V)} {st : List q_V} {h : q_H} {k0 : Fin 4} {v : q_V} (hd : decode y.2.1 pc = .ok (.aload_n k0, 1)) (hl : ls[(k0 : Nat)]? = some (some v)) (hr : q_rv v) (k : q_E g y R K u (pc + 1) ls (v :: st) h) : q_E g y R K u pc ls st h := by
  intro p e s m args below meth c Q ad0 n0 ad H locs L C F D hL hv h1 h2
  have hq := hL.2.2.2 _ _ hl
  have k2 := (k p e s m args below meth c Q ad0 n0 ad H locs L C F D hL (q_cs hq.2.1 hv) h1 h2)
  rcases hr with rfl | ⟨a, rfl⟩ | ⟨a, rfl⟩
  · exact lv_aload_nN C.1 C.2.1 hd rfl hq.1 k2
  · exact lv_aload_n C.1 C.2.1 hd rfl hq.1 k2
  · exact lv_aload_n C.1 C.2.1 hd rfl hq.1 k2
theorem xe_aload {g : q_G} {y : q_M} {R : Room} {K : List q_V → q_H → Prop} {u : Nat × Nat} {pc : Nat} {ls : List (Option q_V)} {st : List q_V} {h : q_H} {i : Nat} {v : q_V} (hd : decode y.2.1 pc = .ok (.aload i, 2)) (hl : ls[i]? = some (some v)) (hr : q_rv v) (k : q_E g y R K u (pc + 2) ls (v :: st) h) : q_E g y R K u pc ls st h := by
  intro p e s m args below meth c Q ad0 n0 ad H locs L C F D hL hv h1 h2
  have hq := hL.2.2.2 _ _ hl
  have k2 := (k p e s m args below meth c Q ad0 n0 ad H locs L C F D hL (q_cs hq.2.1 hv) h1 h2)
  rcases hr with rfl | ⟨a, rfl⟩ | ⟨a, rfl⟩
  · exact lv_aloadN C.1 C.2.1 hd hq.1 k2
  · exact lv_aload C.1 C.2.1 hd hq.1 k2
  · exact lv_aload C.1 C.2.1 hd hq.1 k2
theorem xe_istore_n {g : q_G} {y : q_M} {R : Room} {K : List q_V → q_H → Prop} {u : Nat × Nat} {pc : Nat} {ls : List (Option q_V)} {st : List q_V} {h : q_H} {k0 : Fin 4} {x : Int32} (hd : decode y.2.1 pc = .ok (.istore_n k0, 1)) (hi : (k0 : Nat) < y.2.2.1) (k : q_E g y R K u (pc + 1) (ls.set (k0 : Nat) (some (q_I x))) st h) : q_E g y R K u pc ls (q_I x :: st) h := by
  intro p e s m args below meth c Q ad0 n0 ad H locs L C F D hL hv h1 h2
  exact lv_istore_n C.1 C.2.1 hd rfl hL.has hi rfl (fun L2 hL2 => (k p e s m args below meth c Q ad0 n0 ad H locs L2 C F D (hL.set (v := q_I x) trivial rfl hL2) (q_tl hv) h1 h2))
theorem xe_istore {g : q_G} {y : q_M} {R : Room} {K : List q_V → q_H → Prop} {u : Nat × Nat} {pc : Nat} {ls : List (Option q_V)} {st : List q_V} {h : q_H} {i : Nat} {x : Int32} (hd : decode y.2.1 pc = .ok (.istore i, 2)) (hi : i < y.2.2.1) (k : q_E g y R K u (pc + 2) (ls.set i (some (q_I x))) st h) : q_E g y R K u pc ls (q_I x :: st) h := by
  intro p e s m args below meth c Q ad0 n0 ad H locs L C F D hL hv h1 h2
  exact lv_istore C.1 C.2.1 hd hL.has hi rfl (fun L2 hL2 => (k p e s m args below meth c Q ad0 n0 ad H locs L2 C F D (hL.set (v := q_I x) trivial rfl hL2) (q_tl hv) h1 h2))
theorem xe_astore_n {g : q_G} {y : q_M} {R : Room} {K : List q_V → q_H → Prop} {u : Nat × Nat} {pc : Nat} {ls : List (Option q_V)} {st : List q_V} {h : q_H} {k0 : Fin 4} {v : q_V} (hd : decode y.2.1 pc = .ok (.astore_n k0, 1)) (hi : (k0 : Nat) < y.2.2.1) (hr : q_rv v) (k : q_E g y R K u (pc + 1) (ls.set (k0 : Nat) (some v)) st h) : q_E g y R K u pc ls (v :: st) h := by
  intro p e s m args below meth c Q ad0 n0 ad H locs L C F D hL hv h1 h2
  have hq : q_vk h v := q_hd hv
  rcases hr with rfl | ⟨a, rfl⟩ | ⟨a, rfl⟩
  · exact lv_astore_nN C.1 C.2.1 hd rfl hL.has hi rfl (fun L2 hL2 => (k p e s m args below meth c Q ad0 n0 ad H locs L2 C F D (hL.set hq rfl hL2) (q_tl hv) h1 h2))
  · exact lv_astore_n C.1 C.2.1 hd rfl hL.has hi rfl (fun L2 hL2 => (k p e s m args below meth c Q ad0 n0 ad H locs L2 C F D (hL.set hq rfl hL2) (q_tl hv) h1 h2))
  · exact lv_astore_n C.1 C.2.1 hd rfl hL.has hi rfl (fun L2 hL2 => (k p e s m args below meth c Q ad0 n0 ad H locs L2 C F D (hL.set hq rfl hL2) (q_tl hv) h1 h2))
theorem xe_astore {g : q_G} {y : q_M} {R : Room} {K : List q_V → q_H → Prop} {u : Nat × Nat} {pc : Nat} {ls : List (Option q_V)} {st : List q_V} {h : q_H} {i : Nat} {v : q_V} (hd : decode y.2.1 pc = .ok (.astore i, 2)) (hi : i < y.2.2.1) (hr : q_rv v) (k : q_E g y R K u (pc + 2) (ls.set i (some v)) st h) : q_E g y R K u pc ls (v :: st) h := by
  intro p e s m args below meth c Q ad0 n0 ad H locs L C F D hL hv h1 h2
  have hq : q_vk h v := q_hd hv
  rcases hr with rfl | ⟨a, rfl⟩ | ⟨a, rfl⟩
  · exact lv_astoreN C.1 C.2.1 hd hL.has hi rfl (fun L2 hL2 => (k p e s m args below meth c Q ad0 n0 ad H locs L2 C F D (hL.set hq rfl hL2) (q_tl hv) h1 h2))
  · exact lv_astore C.1 C.2.1 hd hL.has hi rfl (fun L2 hL2 => (k p e s m args below meth c Q ad0 n0 ad H locs L2 C F D (hL.set hq rfl hL2) (q_tl hv) h1 h2))
  · exact lv_astore C.1 C.2.1 hd hL.has hi rfl (fun L2 hL2 => (k p e s m args below meth c Q ad0 n0 ad H locs L2 C F D (hL.set hq rfl hL2) (q_tl hv) h1 h2))
theorem xe_iinc {g : q_G} {y : q_M} {R : Room} {K : List q_V → q_H → Prop} {u : Nat × Nat} {pc : Nat} {ls : List (Option q_V)} {st : List q_V} {h : q_H} {i : Nat} {n : Int} {x : Int32} (v : Int32) (hd : decode y.2.1 pc = .ok (.iinc i n, 3)) (hi : i < y.2.2.1) (hl : ls[i]? = some (some (q_I x))) (he : x + Int32.ofInt n = v) (k : q_E g y R K u (pc + 3) (ls.set i (some (q_I v))) st h) : q_E g y R K u pc ls st h := by
  intro p e s m args below meth c Q ad0 n0 ad H locs L C F D hL hv h1 h2
  obtain ⟨j, hj⟩ := List.getElem?_of_mem (q_ll_mem (ad := ad).mpr ⟨q_I x, hl, rfl⟩)
  exact lv_iinc C.1 C.2.1 hd hL.has hj he hi rfl (fun L2 hL2 => (k p e s m args below meth c Q ad0 n0 ad H locs L2 C F D (hL.set (v := q_I v) trivial rfl hL2) hv h1 h2))
theorem xe_dup {g : q_G} {y : q_M} {R : Room} {K : List q_V → q_H → Prop} {u : Nat × Nat} {pc : Nat} {ls : List (Option q_V)} {st : List q_V} {h : q_H} {v : q_V} (hd : decode y.2.1 pc = .ok (.dup, 1)) (hc : q_sc v = 1) (k : q_E g y R K u (pc + 1) ls (v :: v :: st) h) : q_E g y R K u pc ls (v :: st) h := by
  intro p e s m args below meth c Q ad0 n0 ad H locs L C F D hL hv h1 h2
  exact lv_dup C.1 C.2.1 hd (by rw [q_c_cat]; exact hc) (k p e s m args below meth c Q ad0 n0 ad H locs L C F D hL (q_cs (q_hd hv) hv) h1 h2)
theorem xe_pop {g : q_G} {y : q_M} {R : Room} {K : List q_V → q_H → Prop} {u : Nat × Nat} {pc : Nat} {ls : List (Option q_V)} {st : List q_V} {h : q_H} {v : q_V} (hd : decode y.2.1 pc = .ok (.pop, 1)) (hc : q_sc v = 1) (k : q_E g y R K u (pc + 1) ls st h) : q_E g y R K u pc ls (v :: st) h := by
  intro p e s m args below meth c Q ad0 n0 ad H locs L C F D hL hv h1 h2
  exact lv_pop C.1 C.2.1 hd (by rw [q_c_cat]; exact hc) (k p e s m args below meth c Q ad0 n0 ad H locs L C F D hL (q_tl hv) h1 h2)
theorem xe_dup2 {g : q_G} {y : q_M} {R : Room} {K : List q_V → q_H → Prop} {u : Nat × Nat} {pc : Nat} {ls : List (Option q_V)} {st : List q_V} {h : q_H} {v w : q_V} (hd : decode y.2.1 pc = .ok (.dup2, 1)) (hc : q_sc v = 1) (hc2 : q_sc w = 1) (k : q_E g y R K u (pc + 1) ls (v :: w :: v :: w :: st) h) : q_E g y R K u pc ls (v :: w :: st) h := by
  intro p e s m args below meth c Q ad0 n0 ad H locs L C F D hL hv h1 h2
  exact lv_dup2_11 C.1 C.2.1 hd (by rw [q_c_cat]; exact hc) (by rw [q_c_cat]; exact hc2) (k p e s m args below meth c Q ad0 n0 ad H locs L C F D hL (q_cs (q_hd hv) (q_cs (q_hd (q_tl hv)) hv)) h1 h2)
theorem xe_dup_x1 {g : q_G} {y : q_M} {R : Room} {K : List q_V → q_H → Prop} {u : Nat × Nat} {pc : Nat} {ls : List (Option q_V)} {st : List q_V} {h : q_H} {v w : q_V} (hd : decode y.2.1 pc = .ok (.dup_x1, 1)) (hc : q_sc v = 1) (hc2 : q_sc w = 1) (k : q_E g y R K u (pc + 1) ls (v :: w :: v :: st) h) : q_E g y R K u pc ls (v :: w :: st) h := by
  intro p e s m args below meth c Q ad0 n0 ad H locs L C F D hL hv h1 h2
  exact lv_dup_x1 C.1 C.2.1 hd (by rw [q_c_cat]; exact hc) (by rw [q_c_cat]; exact hc2) (k p e s m args below meth c Q ad0 n0 ad H locs L C F D hL (q_cs (q_hd hv) (q_cs (q_hd (q_tl hv)) (q_cs (q_hd hv) (q_tl (q_tl hv))))) h1 h2)
theorem xe_goto {g : q_G} {y : q_M} {R : Room} {K : List q_V → q_H → Prop} {u : Nat × Nat} {pc : Nat} {ls : List (Option q_V)} {st : List q_V} {h : q_H} {off : Int} (tgt : Nat) (hd : decode y.2.1 pc = .ok (.goto off, 3)) (ht : (pc : Int) + off = (tgt : Int)) (k : q_E g y R K u tgt ls st h) : q_E g y R K u pc ls st h := by
  intro p e s m args below meth c Q ad0 n0 ad H locs L C F D hL hv h1 h2
  exact lv_goto C.1 C.2.1 hd ht (k p e s m args below meth c Q ad0 n0 ad H locs L C F D hL hv h1 h2)
theorem xe_if_eq {g : q_G} {y : q_M} {R : Room} {K : List q_V → q_H → Prop} {u : Nat × Nat} {pc : Nat} {ls : List (Option q_V)} {st : List q_V} {h : q_H} {x : Int32} {off : Int} (tgt : Nat) (hd : decode y.2.1 pc = .ok (.ifCond .eq off, 3)) (ht : (pc : Int) + off = (tgt : Int)) (kt : x = 0 → q_E g y R K u tgt ls st h) (kf : ¬ x = 0 → q_E g y R K u (pc + 3) ls st h) : q_E g y R K u pc ls (q_I x :: st) h := by
  intro p e s m args below meth c Q ad0 n0 ad H locs L C F D hL hv h1 h2
  exact lv_if_eq C.1 C.2.1 hd ht (fun z => (kt z p e s m args below meth c Q ad0 n0 ad H locs L C F D hL (q_tl hv) h1 h2)) (fun z => (kf z p e s m args below meth c Q ad0 n0 ad H locs L C F D hL (q_tl hv) h1 h2))
theorem xe_if_ne {g : q_G} {y : q_M} {R : Room} {K : List q_V → q_H → Prop} {u : Nat × Nat} {pc : Nat} {ls : List (Option q_V)} {st : List q_V} {h : q_H} {x : Int32} {off : Int} (tgt : Nat) (hd : decode y.2.1 pc = .ok (.ifCond .ne off, 3)) (ht : (pc : Int) + off = (tgt : Int)) (kt : ¬ x = 0 → q_E g y R K u tgt ls st h) (kf : x = 0 → q_E g y R K u (pc + 3) ls st h) : q_E g y R K u pc ls (q_I x :: st) h := by
  intro p e s m args below meth c Q ad0 n0 ad H locs L C F D hL hv h1 h2
  exact lv_if_ne C.1 C.2.1 hd ht (fun z => (kt z p e s m args below meth c Q ad0 n0 ad H locs L C F D hL (q_tl hv) h1 h2)) (fun z => (kf z p e s m args below meth c Q ad0 n0 ad H locs L C F D hL (q_tl hv) h1 h2))
theorem xe_if_lt {g : q_G} {y : q_M} {R : Room} {K : List q_V → q_H → Prop} {u : Nat × Nat} {pc : Nat} {ls : List (Option q_V)} {st : List q_V} {h : q_H} {x : Int32} {off : Int} (tgt : Nat) (hd : decode y.2.1 pc = .ok (.ifCond .lt off, 3)) (ht : (pc : Int) + off = (tgt : Int)) (kt : x < 0 → q_E g y R K u tgt ls st h) (kf : ¬ x < 0 → q_E g y R K u (pc + 3) ls st h) : q_E g y R K u pc ls (q_I x :: st) h := by
  intro p e s m args below meth c Q ad0 n0 ad H locs L C F D hL hv h1 h2
  exact lv_if_lt C.1 C.2.1 hd ht (fun z => (kt z p e s m args below meth c Q ad0 n0 ad H locs L C F D hL (q_tl hv) h1 h2)) (fun z => (kf z p e s m args below meth c Q ad0 n0 ad H locs L C F D hL (q_tl hv) h1 h2))
theorem xe_if_ge {g : q_G} {y : q_M} {R : Room} {K : List q_V → q_H → Prop} {u : Nat × Nat} {pc : Nat} {ls : List (Option q_V)} {st : List q_V} {h : q_H} {x : Int32} {off : Int} (tgt : Nat) (hd : decode y.2.1 pc = .ok (.ifCond .ge off, 3)) (ht : (pc : Int) + off = (tgt : Int)) (kt : 0 ≤ x → q_E g y R K u tgt ls st h) (kf : ¬ 0 ≤ x → q_E g y R K u (pc + 3) ls st h) : q_E g y R K u pc ls (q_I x :: st) h := by
  intro p e s m args below meth c Q ad0 n0 ad H locs L C F D hL hv h1 h2
  exact lv_if_ge C.1 C.2.1 hd ht (fun z => (kt z p e s m args below meth c Q ad0 n0 ad H locs L C F D hL (q_tl hv) h1 h2)) (fun z => (kf z p e s m args below meth c Q ad0 n0 ad H locs L C F D hL (q_tl hv) h1 h2))
theorem xe_if_gt {g : q_G} {y : q_M} {R : Room} {K : List q_V → q_H → Prop} {u : Nat × Nat} {pc : Nat} {ls : List (Option q_V)} {st : List q_V} {h : q_H} {x : Int32} {off : Int} (tgt : Nat) (hd : decode y.2.1 pc = .ok (.ifCond .gt off, 3)) (ht : (pc : Int) + off = (tgt : Int)) (kt : 0 < x → q_E g y R K u tgt ls st h) (kf : ¬ 0 < x → q_E g y R K u (pc + 3) ls st h) : q_E g y R K u pc ls (q_I x :: st) h := by
  intro p e s m args below meth c Q ad0 n0 ad H locs L C F D hL hv h1 h2
  exact lv_if_gt C.1 C.2.1 hd ht (fun z => (kt z p e s m args below meth c Q ad0 n0 ad H locs L C F D hL (q_tl hv) h1 h2)) (fun z => (kf z p e s m args below meth c Q ad0 n0 ad H locs L C F D hL (q_tl hv) h1 h2))
theorem xe_if_le {g : q_G} {y : q_M} {R : Room} {K : List q_V → q_H → Prop} {u : Nat × Nat} {pc : Nat} {ls : List (Option q_V)} {st : List q_V} {h : q_H} {x : Int32} {off : Int} (tgt : Nat) (hd : decode y.2.1 pc = .ok (.ifCond .le off, 3)) (ht : (pc : Int) + off = (tgt : Int)) (kt : x ≤ 0 → q_E g y R K u tgt ls st h) (kf : ¬ x ≤ 0 → q_E g y R K u (pc + 3) ls st h) : q_E g y R K u pc ls (q_I x :: st) h := by
  intro p e s m args below meth c Q ad0 n0 ad H locs L C F D hL hv h1 h2
  exact lv_if_le C.1 C.2.1 hd ht (fun z => (kt z p e s m args below meth c Q ad0 n0 ad H locs L C F D hL (q_tl hv) h1 h2)) (fun z => (kf z p e s m args below meth c Q ad0 n0 ad H locs L C F D hL (q_tl hv) h1 h2))
theorem xe_ic_eq {g : q_G} {y : q_M} {R : Room} {K : List q_V → q_H → Prop} {u : Nat × Nat} {pc : Nat} {ls : List (Option q_V)} {st : List q_V} {h : q_H} {x z : Int32} {off : Int} (tgt : Nat) (hd : decode y.2.1 pc = .ok (.if_icmp .eq off, 3)) (ht : (pc : Int) + off = (tgt : Int)) (kt : x = z → q_E g y R K u tgt ls st h) (kf : ¬ x = z → q_E g y R K u (pc + 3) ls st h) : q_E g y R K u pc ls (q_I z :: q_I x :: st) h := by
  intro p e s m args below meth c Q ad0 n0 ad H locs L C F D hL hv h1 h2
  exact lv_icmp_eq C.1 C.2.1 hd ht (fun z => (kt z p e s m args below meth c Q ad0 n0 ad H locs L C F D hL (q_tl (q_tl hv)) h1 h2)) (fun z => (kf z p e s m args below meth c Q ad0 n0 ad H locs L C F D hL (q_tl (q_tl hv)) h1 h2))
theorem xe_ic_ne {g : q_G} {y : q_M} {R : Room} {K : List q_V → q_H → Prop} {u : Nat × Nat} {pc : Nat} {ls : List (Option q_V)} {st : List q_V} {h : q_H} {x z : Int32} {off : Int} (tgt : Nat) (hd : decode y.2.1 pc = .ok (.if_icmp .ne off, 3)) (ht : (pc : Int) + off = (tgt : Int)) (kt : ¬ x = z → q_E g y R K u tgt ls st h) (kf : x = z → q_E g y R K u (pc + 3) ls st h) : q_E g y R K u pc ls (q_I z :: q_I x :: st) h := by
  intro p e s m args below meth c Q ad0 n0 ad H locs L C F D hL hv h1 h2
  exact lv_icmp_ne C.1 C.2.1 hd ht (fun z => (kt z p e s m args below meth c Q ad0 n0 ad H locs L C F D hL (q_tl (q_tl hv)) h1 h2)) (fun z => (kf z p e s m args below meth c Q ad0 n0 ad H locs L C F D hL (q_tl (q_tl hv)) h1 h2))
theorem xe_ic_lt {g : q_G} {y : q_M} {R : Room} {K : List q_V → q_H → Prop} {u : Nat × Nat} {pc : Nat} {ls : List (Option q_V)} {st : List q_V} {h : q_H} {x z : Int32} {off : Int} (tgt : Nat) (hd : decode y.2.1 pc = .ok (.if_icmp .lt off, 3)) (ht : (pc : Int) + off = (tgt : Int)) (kt : x < z → q_E g y R K u tgt ls st h) (kf : ¬ x < z → q_E g y R K u (pc + 3) ls st h) : q_E g y R K u pc ls (q_I z :: q_I x :: st) h := by
  intro p e s m args below meth c Q ad0 n0 ad H locs L C F D hL hv h1 h2
  exact lv_icmp_lt C.1 C.2.1 hd ht (fun z => (kt z p e s m args below meth c Q ad0 n0 ad H locs L C F D hL (q_tl (q_tl hv)) h1 h2)) (fun z => (kf z p e s m args below meth c Q ad0 n0 ad H locs L C F D hL (q_tl (q_tl hv)) h1 h2))
theorem xe_ic_ge {g : q_G} {y : q_M} {R : Room} {K : List q_V → q_H → Prop} {u : Nat × Nat} {pc : Nat} {ls : List (Option q_V)} {st : List q_V} {h : q_H} {x z : Int32} {off : Int} (tgt : Nat) (hd : decode y.2.1 pc = .ok (.if_icmp .ge off, 3)) (ht : (pc : Int) + off = (tgt : Int)) (kt : z ≤ x → q_E g y R K u tgt ls st h) (kf : ¬ z ≤ x → q_E g y R K u (pc + 3) ls st h) : q_E g y R K u pc ls (q_I z :: q_I x :: st) h := by
  intro p e s m args below meth c Q ad0 n0 ad H locs L C F D hL hv h1 h2
  exact lv_icmp_ge C.1 C.2.1 hd ht (fun z => (kt z p e s m args below meth c Q ad0 n0 ad H locs L C F D hL (q_tl (q_tl hv)) h1 h2)) (fun z => (kf z p e s m args below meth c Q ad0 n0 ad H locs L C F D hL (q_tl (q_tl hv)) h1 h2))
theorem xe_ic_gt {g : q_G} {y : q_M} {R : Room} {K : List q_V → q_H → Prop} {u : Nat × Nat} {pc : Nat} {ls : List (Option q_V)} {st : List q_V} {h : q_H} {x z : Int32} {off : Int} (tgt : Nat) (hd : decode y.2.1 pc = .ok (.if_icmp .gt off, 3)) (ht : (pc : Int) + off = (tgt : Int)) (kt : z < x → q_E g y R K u tgt ls st h) (kf : ¬ z < x → q_E g y R K u (pc + 3) ls st h) : q_E g y R K u pc ls (q_I z :: q_I x :: st) h := by
  intro p e s m args below meth c Q ad0 n0 ad H locs L C F D hL hv h1 h2
  exact lv_icmp_gt C.1 C.2.1 hd ht (fun z => (kt z p e s m args below meth c Q ad0 n0 ad H locs L C F D hL (q_tl (q_tl hv)) h1 h2)) (fun z => (kf z p e s m args below meth c Q ad0 n0 ad H locs L C F D hL (q_tl (q_tl hv)) h1 h2))
theorem xe_ic_le {g : q_G} {y : q_M} {R : Room} {K : List q_V → q_H → Prop} {u : Nat × Nat} {pc : Nat} {ls : List (Option q_V)} {st : List q_V} {h : q_H} {x z : Int32} {off : Int} (tgt : Nat) (hd : decode y.2.1 pc = .ok (.if_icmp .le off, 3)) (ht : (pc : Int) + off = (tgt : Int)) (kt : x ≤ z → q_E g y R K u tgt ls st h) (kf : ¬ x ≤ z → q_E g y R K u (pc + 3) ls st h) : q_E g y R K u pc ls (q_I z :: q_I x :: st) h := by
  intro p e s m args below meth c Q ad0 n0 ad H locs L C F D hL hv h1 h2
  exact lv_icmp_le C.1 C.2.1 hd ht (fun z => (kt z p e s m args below meth c Q ad0 n0 ad H locs L C F D hL (q_tl (q_tl hv)) h1 h2)) (fun z => (kf z p e s m args below meth c Q ad0 n0 ad H locs L C F D hL (q_tl (q_tl hv)) h1 h2))
theorem xe_ifnullO {g : q_G} {y : q_M} {R : Room} {K : List q_V → q_H → Prop} {u : Nat × Nat} {pc : Nat} {ls : List (Option q_V)} {st : List q_V} {h : q_H} {q : Nat × Nat} {off : Int} (hd : decode y.2.1 pc = .ok (.ifnull off, 3)) (k : q_E g y R K u (pc + 3) ls st h) : q_E g y R K u pc ls (.inr q :: st) h := by
  intro p e s m args below meth c Q ad0 n0 ad H locs L C F D hL hv h1 h2
  exact lv_ifnull C.1 C.2.1 hd (k p e s m args below meth c Q ad0 n0 ad H locs L C F D hL (q_tl hv) h1 h2)
theorem xe_ifnullN {g : q_G} {y : q_M} {R : Room} {K : List q_V → q_H → Prop} {u : Nat × Nat} {pc : Nat} {ls : List (Option q_V)} {st : List q_V} {h : q_H} {off : Int} (tgt : Nat) (hd : decode y.2.1 pc = .ok (.ifnull off, 3)) (ht : (pc : Int) + off = (tgt : Int)) (k : q_E g y R K u tgt ls st h) : q_E g y R K u pc ls (q_N :: st) h := by
  intro p e s m args below meth c Q ad0 n0 ad H locs L C F D hL hv h1 h2
  exact lv_ifnullN C.1 C.2.1 hd ht (k p e s m args below meth c Q ad0 n0 ad H locs L C F D hL (q_tl hv) h1 h2)
theorem xe_ifnonnullO {g : q_G} {y : q_M} {R : Room} {K : List q_V → q_H → Prop} {u : Nat × Nat} {pc : Nat} {ls : List (Option q_V)} {st : List q_V} {h : q_H} {q : Nat × Nat} {off : Int} (tgt : Nat) (hd : decode y.2.1 pc = .ok (.ifnonnull off, 3)) (ht : (pc : Int) + off = (tgt : Int)) (k : q_E g y R K u tgt ls st h) : q_E g y R K u pc ls (.inr q :: st) h := by
  intro p e s m args below meth c Q ad0 n0 ad H locs L C F D hL hv h1 h2
  exact lv_ifnonnull C.1 C.2.1 hd ht (k p e s m args below meth c Q ad0 n0 ad H locs L C F D hL (q_tl hv) h1 h2)
theorem xe_ifnonnullN {g : q_G} {y : q_M} {R : Room} {K : List q_V → q_H → Prop} {u : Nat × Nat} {pc : Nat} {ls : List (Option q_V)} {st : List q_V} {h : q_H} {off : Int} (hd : decode y.2.1 pc = .ok (.ifnonnull off, 3)) (k : q_E g y R K u (pc + 3) ls st h) : q_E g y R K u pc ls (q_N :: st) h := by
  intro p e s m args below meth c Q ad0 n0 ad H locs L C F D hL hv h1 h2
  exact lv_ifnonnullN C.1 C.2.1 hd (k p e s m args below meth c Q ad0 n0 ad H locs L C F D hL (q_tl hv) h1 h2)
theorem xe_swOut {g : q_G} {y : q_M} {R : Room} {K : List q_V → q_H → Prop} {u : Nat × Nat} {pc : Nat} {ls : List (Option q_V)} {st : List q_V} {h : q_H} {dflt lo hi : Int} {offs : Array Int} {len : Nat} {x : Int32} (tgt : Nat) (hd : decode y.2.1 pc = .ok (.tableswitch dflt lo hi offs, len)) (hx : x.toInt < lo ∨ hi < x.toInt) (ht : (pc : Int) + dflt = (tgt : Int)) (k : q_E g y R K u tgt ls st h) : q_E g y R K u pc ls (q_I x :: st) h := by
  intro p e s m args below meth c Q ad0 n0 ad H locs L C F D hL hv h1 h2
  exact lv_tableOut C.1 C.2.1 hd hx ht (k p e s m args below meth c Q ad0 n0 ad H locs L C F D hL (q_tl hv) h1 h2)
theorem xe_swIn {g : q_G} {y : q_M} {R : Room} {K : List q_V → q_H → Prop} {u : Nat × Nat} {pc : Nat} {ls : List (Option q_V)} {st : List q_V} {h : q_H} {dflt lo hi : Int} {offs : Array Int} {len : Nat} {x : Int32} {off : Int} (tgt : Nat) (hd : decode y.2.1 pc = .ok (.tableswitch dflt lo hi offs, len)) (hx1 : ¬ x.toInt < lo) (hx2 : ¬ hi < x.toInt) (ho : offs[(x.toInt - lo).toNat]? = some off) (ht : (pc : Int) + off = (tgt : Int)) (k : q_E g y R K u tgt ls st h) : q_E g y R K u pc ls (q_I x :: st) h := by
  intro p e s m args below meth c Q ad0 n0 ad H locs L C F D hL hv h1 h2
  exact lv_tableIn C.1 C.2.1 hd hx1 hx2 ho ht (k p e s m args below meth c Q ad0 n0 ad H locs L C F D hL (q_tl hv) h1 h2)
theorem xe_iret {g : q_G} {y : q_M} {R : Room} {K : List q_V → q_H → Prop} {u : Nat × Nat} {pc : Nat} {ls : List (Option q_V)} {st : List q_V} {h : q_H} {x : Int32} (ty : FieldType) (hd : decode y.2.1 pc = .ok (.ireturn, 1)) (hy : y.2.2.2 = some ty) (hn : narrow ty (.int x) = .int x) (hk : K [q_I x] h) : q_E g y R K u pc ls [q_I x] h := by
  intro p e s m args below meth c Q ad0 n0 ad H locs L C F D hL hv h1 h2
  exact W.widen h1 h2 (F pc L [q_I x] h ad H locs hk D hv (Or.inl ⟨x, ty, rfl, hy, hn, hd⟩))
theorem xe_vret {g : q_G} {y : q_M} {R : Room} {K : List q_V → q_H → Prop} {u : Nat × Nat} {pc : Nat} {ls : List (Option q_V)} {st : List q_V} {h : q_H} (hd : decode y.2.1 pc = .ok (.return_, 1)) (hy : y.2.2.2 = none) (hk : K [] h) : q_E g y R K u pc ls [] h := by
  intro p e s m args below meth c Q ad0 n0 ad H locs L C F D hL hv h1 h2
  exact W.widen h1 h2 (F pc L [] h ad H locs hk D hv (Or.inr (Or.inl ⟨rfl, hy, hd⟩)))
theorem xe_aretN {g : q_G} {y : q_M} {R : Room} {K : List q_V → q_H → Prop} {u : Nat × Nat} {pc : Nat} {ls : List (Option q_V)} {st : List q_V} {h : q_H} {C0 : String} (hd : decode y.2.1 pc = .ok (.areturn, 1)) (hy : y.2.2.2 = some (.object C0)) (hk : K [q_N] h) : q_E g y R K u pc ls [q_N] h := by
  intro p e s m args below meth c Q ad0 n0 ad H locs L C F D hL hv h1 h2
  exact W.widen h1 h2 (F pc L [q_N] h ad H locs hk D hv (Or.inr (Or.inr ⟨_, C0, rfl, hy, Or.inl rfl, hd⟩)))
theorem xe_aretO {g : q_G} {y : q_M} {R : Room} {K : List q_V → q_H → Prop} {u : Nat × Nat} {pc : Nat} {ls : List (Option q_V)} {st : List q_V} {h : q_H} {q : Nat × Nat} {C0 : String} (hd : decode y.2.1 pc = .ok (.areturn, 1)) (hy : y.2.2.2 = some (.object C0)) (hk : K [.inr q] h) : q_E g y R K u pc ls [.inr q] h := by
  intro p e s m args below meth c Q ad0 n0 ad H locs L C F D hL hv h1 h2
  exact W.widen h1 h2 (F pc L [.inr q] h ad H locs hk D hv (Or.inr (Or.inr ⟨_, C0, rfl, hy, Or.inr ⟨q, rfl⟩, hd⟩)))
end
section
def q_set (h : q_H) (c i k : Nat) (x : Int32) : q_H := (fun d j n => if d = c ∧ j = i ∧ n = k then x else h.1 d j n, h.2)
def q_sr (h : q_H) (c i k : Nat) (r : Option (Nat × Nat)) : q_H := (h.1, fun d j n => if d = c ∧ j = i ∧ n = k then r else h.2.1 d j n, h.2.2)
def q_nu (h : q_H) (c : Nat) : q_H := (fun d j n => if d = c ∧ j = h.2.2 c then 0 else h.1 d j n, fun d j n => if d = c ∧ j = h.2.2 c then none else h.2.1 d j n, fun d => if d = c then h.2.2 c + 1 else h.2.2 d)
def q_rr (r : Option (Nat × Nat)) : q_V := match r with
  | none => q_N
  | some q => .inr q
theorem q_c_rr (ad : Nat → Nat → Nat) (r : Option (Nat × Nat)) : q_c ad (q_rr r) = q_rf ad r := by
  cases r <;> rfl
theorem q_P.upd {g : q_G} {ad : Nat → Nat → Nat} {h h' : q_H} {H H1 : Heap} {c i : Nat} (hP : q_P g ad h H) (hi : i < h.2.2 c) (hn : h'.2.2 = h.2.2) (ho : ∀ d j, ¬ (d = c ∧ j = i) → ∀ k, h'.1 d j k = h.1 d j k ∧ h'.2.1 d j k = h.2.1 d j k) (hr : ∀ k q, h'.2.1 c i k = some q → q.2 < h.2.2 q.1) (hce : q_ce g ad h' H1 c i) (oq : ∀ q : Nat, q ≠ ad c i → H1[q]? = H[q]?) : q_P g ad h' H1 := by
  obtain ⟨p1, p2, p3, p4⟩ := hP
  refine ⟨fun d j hj => ?_, fun d j d' j' h1 h2 => p2 d j d' j' (hn ▸ h1) (hn ▸ h2), fun d j h1 => p3 d j (hn ▸ h1), fun d j k q h1 h2 => ?_⟩
  · rw [hn] at hj
    by_cases e : d = c ∧ j = i
    · obtain ⟨rfl, rfl⟩ := e
      exact hce
    · have hne : ad d j ≠ ad c i := fun z => e (p2 d j c i hj hi z)
      have hs : q_sv ad h' d j = q_sv ad h d j := by
        funext k
        unfold q_sv
        rw [(ho d j e k).1, (ho d j e k).2]
      obtain ⟨a1, a2⟩ := p1 d j hj
      refine ⟨fun x hx => ?_, fun hx => ?_⟩
      · rw [oq _ hne, hs]
        exact a1 x hx
      · obtain ⟨q, b1, b2⟩ := a2 hx
        rw [hs]
        exact ⟨q, b1, b2.kept (oq _ hne)⟩
  · rw [hn] at h1 ⊢
    by_cases e : d = c ∧ j = i
    · obtain ⟨rfl, rfl⟩ := e
      exact hr k q h2
    · rw [(ho d j e k).2] at h2
      exact p4 d j k q h1 h2
theorem q_D.upd {g : q_G} {ad0 : Nat → Nat → Nat} {n0 : Nat → Nat} {s : State} {ad : Nat → Nat → Nat} {h h' : q_H} {H H1 : Heap} {locs : List Loc} {c i k0 : Nat} (D : q_D g ad0 n0 s ad h H locs) (hi : i < h.2.2 c) (hn : h'.2.2 = h.2.2) (ho : ∀ d j, ¬ (d = c ∧ j = i) → ∀ k, h'.1 d j k = h.1 d j k ∧ h'.2.1 d j k = h.2.1 d j k) (hr : ∀ k q, h'.2.1 c i k = some q → q.2 < h.2.2 q.1) (hce : q_ce g ad h' H1 c i) (z : H1.size = H.size) (oq : ∀ q : Nat, q ≠ ad c i → H1[q]? = H[q]?) : q_D g ad0 n0 s ad h' H1 (locs ++ [⟨ad c i, k0⟩]) := by
  obtain ⟨hP, hS, hE⟩ := D
  exact ⟨hP.upd hi hn ho hr hce oq, hS.put z oq (hP.2.2.1 c i hi), fun d => by rw [hn]; exact hE d⟩
theorem q_L.upd {ad : Nat → Nat → Nat} {h h' : q_H} {n : Nat} {ls : List (Option q_V)} {L : Array Slot} (hL : q_L ad h n ls L) (hn : h'.2.2 = h.2.2) : q_L ad h' n ls L := by
  refine ⟨hL.1, hL.2.1, hL.2.2.1, fun i v hi => ?_⟩
  obtain ⟨a1, a2, a3⟩ := hL.2.2.2 i v hi
  refine ⟨a1, ?_, a3⟩
  cases v with
  | inl x => exact trivial
  | inr q =>
    show q.2 < h'.2.2 q.1
    rw [hn]
    exact a2
theorem q_vs {h h' : q_H} {st : List q_V} (hv : ∀ v ∈ st, q_vk h v) (hn : h'.2.2 = h.2.2) : ∀ v ∈ st, q_vk h' v := by
  intro v hm
  have h1 := hv v hm
  cases v with
  | inl x => exact trivial
  | inr q =>
    show q.2 < h'.2.2 q.1
    rw [hn]
    exact h1
theorem q_obj {g : q_G} {ad : Nat → Nat → Nat} {h : q_H} {H : Heap} {c i : Nat} {q : vw_C} (hP : q_P g ad h H) (hi : i < h.2.2 c) (hq : q_cl[c]? = some q) : t_OB (ad c i) (g.2.1.1 c) q.2.2 (g.2.1.2 c) H (fun k => q_tv (q_ty c k) (h.1 c i k) (q_rf ad (h.2.1 c i k))) := by
  have hpk := q_cl_pk c q hq
  obtain ⟨r, b1, b2⟩ := (hP.1 c i hi).2 hpk
  cases b1.symm.trans hq
  have hs : q_sv ad h c i = (fun k => q_tv (q_ty c k) (h.1 c i k) (q_rf ad (h.2.1 c i k))) := by
    funext k
    unfold q_sv q_sT
    rw [hpk]
  rw [← hs]
  exact b2
section QHP
variable {g : q_G} {y : q_M} {R : Room} {K : List q_V → q_H → Prop} {u : Nat × Nat} {pc : Nat} {ls : List (Option q_V)} {st : List q_V} {h : q_H}
theorem xe_get {idx c i k : Nat} {v : q_V} (hd : decode y.2.1 pc = .ok (.getfield idx, 3)) (hf : q_fl y.1.cls idx c k) (hvv : ∀ ad, q_c ad v = q_tv (q_ty c k) (h.1 c i k) (q_rf ad (h.2.1 c i k))) (hvk : (∀ q, h.2.1 c i k = some q → q.2 < h.2.2 q.1) → q_vk h v) (kk : q_E g y R K u (pc + 3) ls (v :: st) h) : q_E g y R K u pc ls (q_O c i :: st) h := by
  intro p e s m args below meth c0 Q ad0 n0 ad H locs L C F D hL hv h1 h2
  have hi : i < h.2.2 c := q_hd hv
  obtain ⟨q, hq, hk, hlk⟩ := hf
  have k2 := kk p e s m args below meth c0 Q ad0 n0 ad H locs L C F D hL (q_cs (hvk (fun r hr => D.1.2.2.2 c i k r hi hr)) (q_tl hv)) h1 h2
  obtain ⟨hx, hb, hml, hown, hts, -, -, -, hK, -⟩ := C
  obtain ⟨cell, q1, q2, q3, q4⟩ := q_obj D.1 hi hq
  obtain ⟨hS, hfc, kC, hkC, hkind⟩ := hK.1 c q hq
  obtain ⟨cf, kf, fi, f, hi2, hsl⟩ := hS k hk
  have hst := (u_facts hfc hkC (u_lays hts (q_cl_ok c q hq).2.2.1 hk) hi2).1
  have hslot : cell.slots[f.slot]? = some (q_c ad v) := by
    rw [hsl, q4 k hk, hvv ad]
  rcases hlk with hlk | ⟨host, hlk⟩
  · exact W.getf hx hb hown (hts _ hlk) hi2 hst q1 (by rw [q3]; exact fun z => by cases z) (v := q_c ad v) hslot rfl rfl hd k2
  · exact va_Wgetf hx hb hown (va_Nw.use (q_nw_tab hlk) (hK.2.2.1 _ hlk)) hi2 hst q1 (by rw [q3]; exact fun z => by cases z) (v := q_c ad v) hslot rfl rfl hd k2
theorem xe_geti {idx c i k : Nat} (hd : decode y.2.1 pc = .ok (.getfield idx, 3)) (hf : q_fl y.1.cls idx c k) (ht : ∀ x v, q_tv (q_ty c k) x v = .int x) (kk : q_E g y R K u (pc + 3) ls (q_I (h.1 c i k) :: st) h) : q_E g y R K u pc ls (q_O c i :: st) h :=
  xe_get (v := q_I (h.1 c i k)) hd hf (fun ad => (ht _ _).symm) (fun _ => trivial) kk
theorem xe_getr {idx c i k : Nat} {r : Option (Nat × Nat)} (hd : decode y.2.1 pc = .ok (.getfield idx, 3)) (hf : q_fl y.1.cls idx c k) (ht : ∀ x v, q_tv (q_ty c k) x v = v) (hr : h.2.1 c i k = r) (kk : q_E g y R K u (pc + 3) ls (q_rr r :: st) h) : q_E g y R K u pc ls (q_O c i :: st) h := by
  refine xe_get hd hf (fun ad => ?_) (fun z => ?_) kk
  · rw [ht, hr, q_c_rr]
  · cases r with
    | none => exact trivial
    | some q => exact z q hr
theorem xe_put {idx c i k : Nat} {v : q_V} {h' : q_H} (hd : decode y.2.1 pc = .ok (.putfield idx, 3)) (hf : q_fl y.1.cls idx c k) (hfin : ∀ q, q_cl[c]? = some q → (q.2.1 k).2.2.2 = false ∨ ((q.2.1 k).2.2.2 = true ∧ y.1.name = "<init>" ∧ (q.2.1 k).1 = y.1.cls ∧ Cond.fieldLink y.1.cls idx (q.2.1 k).1 (q.2.1 k).2.1 (q.2.1 k).2.2.1 ∈ q_gw)) (hn : ∀ ad, narrow (q_ty c k) (q_c ad v) = q_c ad v ∧ fits (q_ty c k) (q_c ad v) = true)
    (hcn : h'.2.2 = h.2.2) (ho : ∀ d j n, ¬ (d = c ∧ j = i ∧ n = k) → h'.1 d j n = h.1 d j n ∧ h'.2.1 d j n = h.2.1 d j n) (hvv : ∀ ad, q_c ad v = q_tv (q_ty c k) (h'.1 c i k) (q_rf ad (h'.2.1 c i k))) (hvk : q_vk h v → (∀ q, h.2.1 c i k = some q → q.2 < h.2.2 q.1) → ∀ q, h'.2.1 c i k = some q → q.2 < h.2.2 q.1) (kk : q_E g y R K u (pc + 3) ls st h') : q_E g y R K u pc ls (v :: q_O c i :: st) h := by
  intro p e s m args below meth c0 Q ad0 n0 ad H locs L C F D hL hv h1 h2
  have hi : i < h.2.2 c := q_hd (q_tl hv)
  obtain ⟨q, hq, hk, hlk⟩ := hf
  obtain ⟨hx, hb, hml, hown, hts, -, -, hmn, hK, -⟩ := id C
  obtain ⟨oty, onm, olay, -⟩ := q_cl_ok c q hq
  obtain ⟨cell, q1, q2, q3, q4⟩ := q_obj D.1 hi hq
  obtain ⟨hS, hfc, kC, hkC, hkind⟩ := hK.1 c q hq
  obtain ⟨cf, kf, fi, f, hi2, hsl⟩ := hS k hk
  have hst := (u_facts hfc hkC (u_lays hts olay hk) hi2).1
  have hap : ∀ a b, a < q.2.2 → b < q.2.2 → a ≠ b → (g.2.1.2 c) a ≠ (g.2.1.2 c) b := by
    intro a b ha hb2 hne
    obtain ⟨_, _, _, fa, hia, ea⟩ := hS a ha
    obtain ⟨_, _, _, fb, hib, eb⟩ := hS b hb2
    rw [← ea, ← eb]
    refine u_apart (u_lays hts olay ha) (u_lays hts olay hb2) hia hib ?_
    rw [(State.fieldFound?_type hia (oty a ha)).1, (State.fieldFound?_type hib (oty b hb2)).1]
    exact onm a ha b hb2 hne
  have hlt : f.slot < cell.slots.size := by rw [hsl]; exact k2_hasslot (q4 k hk)
  have hlay := hts _ (olay _ (u_in_lay hk))
  have fin : ∀ H1 : Heap, H1[ad c i]? = some (cell.setSlot f.slot (q_c ad v)) → H1.size = H.size → (∀ z : Nat, z ≠ ad c i → H1[z]? = H[z]?) → W p g.1 e R s m args below meth c0 H1 (locs ++ [⟨ad c i, f.slot⟩]) u.1 u.2 Q (F0 m (pc + 3) L (st.map (q_c ad))) := by
    intro H1 e1 e2 e3
    have hce : q_ce g ad h' H1 c i := by
      have hpk := q_cl_pk c q hq
      refine ⟨fun x hx => (by rw [hpk] at hx; cases hx), fun _ => ⟨q, hq, ?_⟩⟩
      rw [hsl] at e1
      refine t_OB.to (V := updV (fun k => q_tv (q_ty c k) (h.1 c i k) (q_rf ad (h.2.1 c i k))) k (q_c ad v)) ⟨_, e1, q2, q3, t_set q4 hap hk _⟩ (fun j hj => ?_)
      unfold q_sv q_sT
      rw [hpk]
      by_cases hjk : j = k
      · subst hjk
        simp only [updV, if_pos]
        exact hvv ad
      · simp only [updV, if_neg hjk]
        rw [(ho c i j (fun z => hjk z.2.2)).1, (ho c i j (fun z => hjk z.2.2)).2]
    have D2 : q_D g ad0 n0 s ad h' H1 (locs ++ [⟨ad c i, f.slot⟩]) := D.upd hi hcn (fun d j hne n => ho d j n (fun z => hne ⟨z.1, z.2.1⟩)) (fun n r hr => by
      by_cases hnk : n = k
      · subst hnk
        exact hvk (q_hd hv) (fun r hr => D.1.2.2.2 c i n r hi hr) r hr
      · rw [(ho c i n (fun z => hnk z.2.2)).2] at hr
        exact D.1.2.2.2 c i n r hi hr) hce e2 e3
    exact kk p e s m args below meth c0 Q ad0 n0 ad H1 _ L C F D2 (hL.upd hcn) (q_vs (q_tl (q_tl hv)) hcn) h1 h2
  rcases hfin q hq with hff | ⟨hff, hin, hdc, hl2⟩
  · unfold u_lay at hlay
    rw [if_neg (by rw [hff]; decide)] at hlay
    have h6 := u_store hfc hkC hkind hlay hi2 (oty k hk) (hn ad).1 (hn ad).2
    rcases hlk with hlk | ⟨host, hlk⟩
    · exact W.putK hx hb (f := f) ⟨hown, hts _ hlk, ⟨_, _, _, hi2⟩, hst⟩ (by rw [q2]; exact h6) q1 q3 hlt rfl rfl hd fin
    · exact va_WputK hx hb (f := f) hown (va_Nw.use (q_nw_tab hlk) (hK.2.2.1 _ hlk)) hi2 hst (by rw [q2]; exact h6) q1 q3 hlt rfl rfl hd fin
  · unfold u_lay at hlay
    rw [if_pos hff] at hlay
    have hcf : m.cls = cf := by
      obtain ⟨_, _, c', _, _, _, -, -, hf', -, -, -, hown2, -⟩ := Cond.laysFinal_spec hlay
      have e1 : c' = cf := by have := hi2.symm.trans hf'; simp at this; exact this.1.symm
      rw [hdc] at hown2
      rw [← e1]; exact Option.some.inj (hown.symm.trans hown2)
    have h6 := u_fits hfc hkC hkind (Or.inr hlay) hi2 (oty k hk) (hn ad).1 (hn ad).2
    exact W.putFinK hx hb hown (hts _ hl2) hi2 hst hcf (by rw [hmn]; exact hin) (by rw [q2]; exact h6) q1 q3 hlt rfl rfl hd fin
theorem xe_puti {idx c i k : Nat} {x : Int32} (hd : decode y.2.1 pc = .ok (.putfield idx, 3)) (hf : q_fl y.1.cls idx c k) (hfin : ∀ q, q_cl[c]? = some q → (q.2.1 k).2.2.2 = false ∨ ((q.2.1 k).2.2.2 = true ∧ y.1.name = "<init>" ∧ (q.2.1 k).1 = y.1.cls ∧ Cond.fieldLink y.1.cls idx (q.2.1 k).1 (q.2.1 k).2.1 (q.2.1 k).2.2.1 ∈ q_gw)) (hn : narrow (q_ty c k) (.int x) = .int x ∧ fits (q_ty c k) (.int x) = true) (ht : ∀ x v, q_tv (q_ty c k) x v = .int x) (kk : q_E g y R K u (pc + 3) ls st (q_set h c i k x)) : q_E g y R K u pc ls (q_I x :: q_O c i :: st) h := by
  refine xe_put (v := q_I x) (h' := q_set h c i k x) hd hf hfin (fun _ => hn) rfl (fun d j n hne => ⟨?_, rfl⟩) (fun ad => ?_) (fun _ z => z) kk
  · show (if d = c ∧ j = i ∧ n = k then x else h.1 d j n) = h.1 d j n
    rw [if_neg hne]
  · rw [ht]
    show Value.int x = Value.int (if c = c ∧ i = i ∧ k = k then x else h.1 c i k)
    rw [if_pos ⟨rfl, rfl, rfl⟩]
theorem q_nr {ty : FieldType} (hr : q_isR ty = true) : (narrow ty .null = .null ∧ fits ty .null = true) ∧ ∀ a, narrow ty (.ref a) = .ref a ∧ fits ty (.ref a) = true := by
  cases ty <;> first | exact ⟨⟨rfl, rfl⟩, fun _ => ⟨rfl, rfl⟩⟩ | (simp [q_isR] at hr)
theorem xe_putr {idx c i k : Nat} {r : Option (Nat × Nat)} (hd : decode y.2.1 pc = .ok (.putfield idx, 3)) (hf : q_fl y.1.cls idx c k) (hfin : ∀ q, q_cl[c]? = some q → (q.2.1 k).2.2.2 = false ∨ ((q.2.1 k).2.2.2 = true ∧ y.1.name = "<init>" ∧ (q.2.1 k).1 = y.1.cls ∧ Cond.fieldLink y.1.cls idx (q.2.1 k).1 (q.2.1 k).2.1 (q.2.1 k).2.2.1 ∈ q_gw)) (hR : q_isR (q_ty c k) = true) (ht : ∀ x v, q_tv (q_ty c k) x v = v) (kk : q_E g y R K u (pc + 3) ls st (q_sr h c i k r)) : q_E g y R K u pc ls (q_rr r :: q_O c i :: st) h := by
  refine xe_put (v := q_rr r) (h' := q_sr h c i k r) hd hf hfin (fun ad => ?_) rfl (fun d j n hne => ⟨rfl, ?_⟩) (fun ad => ?_) (fun z1 z q hq => ?_) kk
  · cases r with
    | none => exact (q_nr hR).1
    | some q => exact (q_nr hR).2 _
  · show (if d = c ∧ j = i ∧ n = k then r else h.2.1 d j n) = h.2.1 d j n
    rw [if_neg hne]
  · rw [ht, q_c_rr]
    show q_rf ad r = q_rf ad (if c = c ∧ i = i ∧ k = k then r else h.2.1 c i k)
    rw [if_pos ⟨rfl, rfl, rfl⟩]
  · have e : (if c = c ∧ i = i ∧ k = k then r else h.2.1 c i k) = some q := hq
    rw [if_pos ⟨rfl, rfl, rfl⟩] at e
    subst e
    exact z1
end QHP
end
section
theorem q_arr {g : q_G} {ad : Nat → Nat → Nat} {h : q_H} {H : Heap} {c i : Nat} {x : FieldType × Nat} (hP : q_P g ad h H) (hi : i < h.2.2 c) (hp : q_pk c = some x) : H[ad c i]? = some (arrV (g.2.2.1 x.1) x.2 (fun j => q_tv x.1 (h.1 c i j) (q_rf ad (h.2.1 c i j)))) := by
  rw [(hP.1 c i hi).1 x hp]
  have hs : q_sv ad h c i = (fun j => q_tv x.1 (h.1 c i j) (q_rf ad (h.2.1 c i j))) := by
    funext k
    unfold q_sv q_sT
    rw [hp]
  rw [hs]
section QAR
variable {g : q_G} {y : q_M} {R : Room} {K : List q_V → q_H → Prop} {u : Nat × Nat} {pc : Nat} {ls : List (Option q_V)} {st : List q_V} {h : q_H}
theorem xe_iald {c i n : Nat} {j : Int32} (hd : decode y.2.1 pc = .ok (.iaload, 1)) (hp : q_pk c = some (.int, n)) (hj : vp_in j n) (kk : q_E g y R K u (pc + 1) ls (q_I (h.1 c i j.toNatClampNeg) :: st) h) : q_E g y R K u pc ls (q_I j :: q_O c i :: st) h := by
  intro p e s m args below meth c0 Q ad0 n0 ad H locs L C F D hL hv h1 h2
  have hi : i < h.2.2 c := q_hd (q_tl hv)
  have k2 := kk p e s m args below meth c0 Q ad0 n0 ad H locs L C F D hL (q_cs trivial (q_tl (q_tl hv))) h1 h2
  obtain ⟨hx, hb, hml, hown, hts, -, -, -, hK, -⟩ := C
  have hlt : j.toNatClampNeg < n := Nat.not_le.mp fun q => hj (Or.inr q)
  exact W.iald (v := .int (h.1 c i j.toNatClampNeg)) hx hb (q_arr D.1 hi hp) ((hK.2.1 c _ hp).1 n _) (fun q => by cases q) (by show ¬ (j < 0 ∨ (arrV _ _ _).slots.size ≤ _); rw [arrV_size]; exact hj) (by show (arrV _ _ _).slots[_]? = _; rw [arrV_read _ _ hlt]; rfl) rfl rfl hd k2
theorem xe_bald {c i n : Nat} {j : Int32} (hd : decode y.2.1 pc = .ok (.baload, 1)) (hp : q_pk c = some (.byte, n)) (hj : vp_in j n) (kk : q_E g y R K u (pc + 1) ls (q_I (h.1 c i j.toNatClampNeg) :: st) h) : q_E g y R K u pc ls (q_I j :: q_O c i :: st) h := by
  intro p e s m args below meth c0 Q ad0 n0 ad H locs L C F D hL hv h1 h2
  have hi : i < h.2.2 c := q_hd (q_tl hv)
  have k2 := kk p e s m args below meth c0 Q ad0 n0 ad H locs L C F D hL (q_cs trivial (q_tl (q_tl hv))) h1 h2
  obtain ⟨hx, hb, hml, hown, hts, -, -, -, hK, -⟩ := C
  have hlt : j.toNatClampNeg < n := Nat.not_le.mp fun q => hj (Or.inr q)
  exact W.bald (v := .int (h.1 c i j.toNatClampNeg)) hx hb (q_arr D.1 hi hp) ((hK.2.1 c _ hp).1 n _) (fun q => by cases q) (by show ¬ (j < 0 ∨ (arrV _ _ _).slots.size ≤ _); rw [arrV_size]; exact hj) (by show (arrV _ _ _).slots[_]? = _; rw [arrV_read _ _ hlt]; rfl) rfl rfl hd k2
theorem xe_zald {c i n : Nat} {j : Int32} (hd : decode y.2.1 pc = .ok (.baload, 1)) (hp : q_pk c = some (.boolean, n)) (hj : vp_in j n) (kk : q_E g y R K u (pc + 1) ls (q_I (h.1 c i j.toNatClampNeg) :: st) h) : q_E g y R K u pc ls (q_I j :: q_O c i :: st) h := by
  intro p e s m args below meth c0 Q ad0 n0 ad H locs L C F D hL hv h1 h2
  have hi : i < h.2.2 c := q_hd (q_tl hv)
  have k2 := kk p e s m args below meth c0 Q ad0 n0 ad H locs L C F D hL (q_cs trivial (q_tl (q_tl hv))) h1 h2
  obtain ⟨hx, hb, hml, hown, hts, -, -, -, hK, -⟩ := C
  have hlt : j.toNatClampNeg < n := Nat.not_le.mp fun q => hj (Or.inr q)
  exact W.zald (v := .int (h.1 c i j.toNatClampNeg)) hx hb (q_arr D.1 hi hp) ((hK.2.1 c _ hp).1 n _) (fun q => by cases q) (by show ¬ (j < 0 ∨ (arrV _ _ _).slots.size ≤ _); rw [arrV_size]; exact hj) (by show (arrV _ _ _).slots[_]? = _; rw [arrV_read _ _ hlt]; rfl) rfl rfl hd k2
theorem xe_lald {c i n : Nat} {j : Int32} (hd : decode y.2.1 pc = .ok (.laload, 1)) (hp : q_pk c = some (.long, n)) (hj : vp_in j n) (kk : q_E g y R K u (pc + 1) ls (q_J (h.1 c i j.toNatClampNeg).toInt64 :: st) h) : q_E g y R K u pc ls (q_I j :: q_O c i :: st) h := by
  intro p e s m args below meth c0 Q ad0 n0 ad H locs L C F D hL hv h1 h2
  have hi : i < h.2.2 c := q_hd (q_tl hv)
  have k2 := kk p e s m args below meth c0 Q ad0 n0 ad H locs L C F D hL (q_cs trivial (q_tl (q_tl hv))) h1 h2
  obtain ⟨hx, hb, hml, hown, hts, -, -, -, hK, -⟩ := C
  have hlt : j.toNatClampNeg < n := Nat.not_le.mp fun q => hj (Or.inr q)
  exact W.lald (v := .long (h.1 c i j.toNatClampNeg).toInt64) hx hb (q_arr D.1 hi hp) ((hK.2.1 c _ hp).1 n _) (fun q => by cases q) (by show ¬ (j < 0 ∨ (arrV _ _ _).slots.size ≤ _); rw [arrV_size]; exact hj) (by show (arrV _ _ _).slots[_]? = _; rw [arrV_read _ _ hlt]; rfl) rfl rfl hd k2
theorem xe_aald {c i n : Nat} {j : Int32} {C1 : String} {r : Option (Nat × Nat)} (hd : decode y.2.1 pc = .ok (.aaload, 1)) (hp : q_pk c = some (.object C1, n)) (hj : vp_in j n) (hr : h.2.1 c i j.toNatClampNeg = r) (kk : q_E g y R K u (pc + 1) ls (q_rr r :: st) h) : q_E g y R K u pc ls (q_I j :: q_O c i :: st) h := by
  intro p e s m args below meth c0 Q ad0 n0 ad H locs L C F D hL hv h1 h2
  have hi : i < h.2.2 c := q_hd (q_tl hv)
  have hvk : q_vk h (q_rr r) := by
    cases r with
    | none => exact trivial
    | some q => exact D.1.2.2.2 c i _ q hi hr
  have k2 := kk p e s m args below meth c0 Q ad0 n0 ad H locs L C F D hL (q_cs hvk (q_tl (q_tl hv))) h1 h2
  obtain ⟨hx, hb, hml, hown, hts, -, -, -, hK, -⟩ := C
  have hlt : j.toNatClampNeg < n := Nat.not_le.mp fun q => hj (Or.inr q)
  exact W.aald (v := q_c ad (q_rr r)) (ty := .object C1) hx hb (q_arr D.1 hi hp) ((hK.2.1 c _ hp).1 n _) rfl (fun q => by cases q) (by show ¬ (j < 0 ∨ (arrV _ _ _).slots.size ≤ _); rw [arrV_size]; exact hj) (by show (arrV _ _ _).slots[_]? = _; rw [arrV_read _ _ hlt, q_c_rr, ← hr]; rfl) rfl rfl hd k2
theorem q_D.ast {ad0 : Nat → Nat → Nat} {n0 : Nat → Nat} {s : State} {ad : Nat → Nat → Nat} {H H1 : Heap} {locs : List Loc} {c i n t k0 : Nat} {ty : FieldType} {x : Int32} {v : Value} (D : q_D g ad0 n0 s ad h H locs) (hi : i < h.2.2 c) (hp : q_pk c = some (ty, n)) (hv : ∀ w, q_tv ty x w = v) (e1 : H1[ad c i]? = some ((arrV (g.2.2.1 ty) n (fun j => q_tv ty (h.1 c i j) (q_rf ad (h.2.1 c i j)))).setSlot t v)) (z : H1.size = H.size) (oq : ∀ q : Nat, q ≠ ad c i → H1[q]? = H[q]?) : q_D g ad0 n0 s ad (q_set h c i t x) H1 (locs ++ [⟨ad c i, k0⟩]) := by
  refine D.upd hi rfl (fun d j hne k => ⟨if_neg (fun w => hne ⟨w.1, w.2.1⟩), rfl⟩) (fun k q hq => D.1.2.2.2 c i k q hi hq) ⟨fun x0 hx0 => ?_, fun hx0 => (by rw [hp] at hx0; cases hx0)⟩ z oq
  cases hp.symm.trans hx0
  rw [e1, arrV_store]
  congr 2
  funext j
  unfold q_sv q_sT
  rw [hp]
  by_cases hj : j = t
  · subst hj
    show (if j = j then v else _) = q_tv ty (if c = c ∧ i = i ∧ j = j then x else h.1 c i j) _
    rw [if_pos rfl, if_pos ⟨rfl, rfl, rfl⟩, hv]
  · show (if j = t then v else _) = q_tv ty (if c = c ∧ i = i ∧ j = t then x else h.1 c i j) _
    rw [if_neg hj, if_neg (fun w => hj w.2.2)]
    rfl
theorem xe_iast {c i n : Nat} {j x : Int32} (hd : decode y.2.1 pc = .ok (.iastore, 1)) (hp : q_pk c = some (.int, n)) (hj : vp_in j n) (kk : q_E g y R K u (pc + 1) ls st (q_set h c i j.toNatClampNeg x)) : q_E g y R K u pc ls (q_I x :: q_I j :: q_O c i :: st) h := by
  intro p e s m args below meth c0 Q ad0 n0 ad H locs L C F D hL hv h1 h2
  have hi : i < h.2.2 c := q_hd (q_tl (q_tl hv))
  obtain ⟨hx, hb, hml, hown, hts, -, -, -, hK, -⟩ := id C
  refine W.iast hx hb (q_arr D.1 hi hp) ((hK.2.1 c _ hp).1 n _) (fun q => by cases q) (by show ¬ (j < 0 ∨ (arrV _ _ _).slots.size ≤ _); rw [arrV_size]; exact hj) rfl rfl hd fun H1 e1 z oq => ?_
  exact kk p e s m args below meth c0 Q ad0 n0 ad H1 _ L C F (D.ast hi hp (fun _ => rfl) e1 z oq) (hL.upd rfl) (q_vs (q_tl (q_tl (q_tl hv))) rfl) h1 h2
theorem xe_bast {c i n : Nat} {j x : Int32} (hd : decode y.2.1 pc = .ok (.bastore, 1)) (hp : q_pk c = some (.byte, n)) (hj : vp_in j n) (kk : q_E g y R K u (pc + 1) ls st (q_set h c i j.toNatClampNeg (vp_nar .byte x))) : q_E g y R K u pc ls (q_I x :: q_I j :: q_O c i :: st) h := by
  intro p e s m args below meth c0 Q ad0 n0 ad H locs L C F D hL hv h1 h2
  have hi : i < h.2.2 c := q_hd (q_tl (q_tl hv))
  obtain ⟨hx, hb, hml, hown, hts, -, -, -, hK, -⟩ := id C
  refine W.bast hx hb (q_arr D.1 hi hp) ((hK.2.1 c _ hp).1 n _) (fun q => by cases q) (by show ¬ (j < 0 ∨ (arrV _ _ _).slots.size ≤ _); rw [arrV_size]; exact hj) rfl rfl hd fun H1 e1 z oq => ?_
  exact kk p e s m args below meth c0 Q ad0 n0 ad H1 _ L C F (D.ast hi hp (fun _ => rfl) e1 z oq) (hL.upd rfl) (q_vs (q_tl (q_tl (q_tl hv))) rfl) h1 h2
theorem xe_zast {c i n : Nat} {j x : Int32} (hd : decode y.2.1 pc = .ok (.bastore, 1)) (hp : q_pk c = some (.boolean, n)) (hj : vp_in j n) (kk : q_E g y R K u (pc + 1) ls st (q_set h c i j.toNatClampNeg (vp_nar .boolean x))) : q_E g y R K u pc ls (q_I x :: q_I j :: q_O c i :: st) h := by
  intro p e s m args below meth c0 Q ad0 n0 ad H locs L C F D hL hv h1 h2
  have hi : i < h.2.2 c := q_hd (q_tl (q_tl hv))
  obtain ⟨hx, hb, hml, hown, hts, -, -, -, hK, -⟩ := id C
  refine W.zast hx hb (q_arr D.1 hi hp) ((hK.2.1 c _ hp).1 n _) (fun q => by cases q) (by show ¬ (j < 0 ∨ (arrV _ _ _).slots.size ≤ _); rw [arrV_size]; exact hj) rfl rfl hd fun H1 e1 z oq => ?_
  exact kk p e s m args below meth c0 Q ad0 n0 ad H1 _ L C F (D.ast hi hp (fun _ => rfl) e1 z oq) (hL.upd rfl) (q_vs (q_tl (q_tl (q_tl hv))) rfl) h1 h2
theorem xe_last {c i n : Nat} {j x : Int32} (hd : decode y.2.1 pc = .ok (.lastore, 1)) (hp : q_pk c = some (.long, n)) (hj : vp_in j n) (kk : q_E g y R K u (pc + 1) ls st (q_set h c i j.toNatClampNeg x)) : q_E g y R K u pc ls (q_J x.toInt64 :: q_I j :: q_O c i :: st) h := by
  intro p e s m args below meth c0 Q ad0 n0 ad H locs L C F D hL hv h1 h2
  have hi : i < h.2.2 c := q_hd (q_tl (q_tl hv))
  obtain ⟨hx, hb, hml, hown, hts, -, -, -, hK, -⟩ := id C
  refine W.last hx hb (q_arr D.1 hi hp) ((hK.2.1 c _ hp).1 n _) (fun q => by cases q) (by show ¬ (j < 0 ∨ (arrV _ _ _).slots.size ≤ _); rw [arrV_size]; exact hj) rfl rfl hd fun H1 e1 z oq => ?_
  exact kk p e s m args below meth c0 Q ad0 n0 ad H1 _ L C F (D.ast hi hp (fun _ => rfl) e1 z oq) (hL.upd rfl) (q_vs (q_tl (q_tl (q_tl hv))) rfl) h1 h2
theorem xe_aast {c i n d i2 : Nat} {j : Int32} {q : vw_C} (hd : decode y.2.1 pc = .ok (.aastore, 1)) (hp : q_pk c = some (.object q.1, n)) (hq : q_cl[d]? = some q) (hj : vp_in j n) (kk : q_E g y R K u (pc + 1) ls st (q_sr h c i j.toNatClampNeg (some (d, i2)))) : q_E g y R K u pc ls (q_O d i2 :: q_I j :: q_O c i :: st) h := by
  intro p e s m args below meth c0 Q ad0 n0 ad H locs L C F D hL hv h1 h2
  have hi2 : i2 < h.2.2 d := q_hd hv
  have hi : i < h.2.2 c := q_hd (q_tl (q_tl hv))
  obtain ⟨hx, hb, hml, hown, hts, -, -, -, hK, -⟩ := id C
  have hlt : j.toNatClampNeg < n := Nat.not_le.mp fun q => hj (Or.inr q)
  have h0 : ¬ j < 0 := fun q => hj (Or.inl q)
  obtain ⟨cellV, g1, g2, g3, -⟩ := q_obj D.1 hi2 hq
  have hcls := (hK.1 d q hq).2
  obtain ⟨kA, comp, k1, k2, k3, -⟩ := (hK.2.1 c _ hp).2
  have hcomp : comp = g.2.1.1 d := Option.some.inj (k3.symm.trans hcls.1)
  subst hcomp
  obtain ⟨kC, hkC, -⟩ := hcls.2
  refine W.aast hx hb (q_arr D.1 hi hp) (fun q h => by cases h) (fun h => by cases h) k1 k2 rfl hkC ⟨h0, by show _ < (arrV _ _ _).slots.size; rw [arrV_size]; exact hlt⟩ g1 (fun q h => by rw [g3] at h; cases h) (by rw [g2]; exact hkC) (by rw [g2]; exact va_assign hcls) rfl rfl hd fun H1 e1 z oq => ?_
  have D2 : q_D g ad0 n0 s ad (q_sr h c i j.toNatClampNeg (some (d, i2))) H1 (locs ++ [⟨ad c i, j.toNatClampNeg⟩]) := by
    refine D.upd hi rfl (fun d j hne k => ⟨rfl, if_neg (fun w => hne ⟨w.1, w.2.1⟩)⟩) (fun k r hr => ?_) ⟨fun x0 hx0 => ?_, fun hx0 => (by rw [hp] at hx0; cases hx0)⟩ z oq
    · have e : (if c = c ∧ i = i ∧ k = j.toNatClampNeg then some (d, i2) else h.2.1 c i k) = some r := hr
      by_cases hk : k = j.toNatClampNeg
      · rw [if_pos ⟨rfl, rfl, hk⟩] at e
        cases e
        exact hi2
      · rw [if_neg (fun w => hk w.2.2)] at e
        exact D.1.2.2.2 c i k r hi e
    · cases hp.symm.trans hx0
      rw [e1, arrV_store]
      congr 2
      funext k
      unfold q_sv q_sT
      rw [hp]
      by_cases hk : k = j.toNatClampNeg
      · subst hk
        show (if j.toNatClampNeg = j.toNatClampNeg then Value.ref (ad d i2) else _) = q_rf ad (if c = c ∧ i = i ∧ j.toNatClampNeg = j.toNatClampNeg then some (d, i2) else h.2.1 c i j.toNatClampNeg)
        rw [if_pos rfl, if_pos ⟨rfl, rfl, rfl⟩]
        rfl
      · show (if k = j.toNatClampNeg then Value.ref (ad d i2) else q_rf ad (h.2.1 c i k)) = q_rf ad (if c = c ∧ i = i ∧ k = j.toNatClampNeg then some (d, i2) else h.2.1 c i k)
        rw [if_neg hk, if_neg (fun w => hk w.2.2)]
  exact kk p e s m args below meth c0 Q ad0 n0 ad H1 _ L C F D2 (hL.upd rfl) (q_vs (q_tl (q_tl (q_tl hv))) rfl) h1 h2
end QAR
end
section
theorem q_def {ty : FieldType} (h : ty ≠ .float ∧ ty ≠ .double) : q_tv ty 0 .null = defaultValue ty := by
  cases ty <;> first | rfl | exact absurd rfl h.1 | exact absurd rfl h.2 | decide
theorem q_pk_nf : ∀ c x, q_pk c = some x → x.1 ≠ .float ∧ x.1 ≠ .double := by
  intro c x hx
  unfold q_pk at hx
  split at hx <;> first | (cases hx; exact ⟨by decide, by decide⟩) | (cases hx)
def q_ad (ad : Nat → Nat → Nat) (c n a : Nat) : Nat → Nat → Nat := fun d j => if d = c ∧ j = n then a else ad d j
theorem q_ext {h : q_H} {ad ad' : Nat → Nat → Nat} {st : List q_V} (hv : ∀ v ∈ st, q_vk h v) (he : ∀ c i, i < h.2.2 c → ad' c i = ad c i) : st.map (q_c ad) = st.map (q_c ad') := by
  apply List.map_congr_left
  intro v hm
  have h1 := hv v hm
  cases v with
  | inl x => rfl
  | inr q =>
    show Value.ref (ad q.1 q.2) = Value.ref (ad' q.1 q.2)
    rw [he q.1 q.2 h1]
theorem q_L.ext {ad ad' : Nat → Nat → Nat} {h h' : q_H} {n : Nat} {ls : List (Option q_V)} {L : Array Slot} (hL : q_L ad h n ls L) (he : ∀ c i, i < h.2.2 c → ad' c i = ad c i) (hm : ∀ c, h.2.2 c ≤ h'.2.2 c) : q_L ad' h' n ls L := by
  refine ⟨hL.1, hL.2.1, hL.2.2.1, fun i v hi => ?_⟩
  obtain ⟨a1, a2, a3⟩ := hL.2.2.2 i v hi
  cases v with
  | inl x => exact ⟨a1, trivial, a3⟩
  | inr q =>
    refine ⟨?_, Nat.lt_of_lt_of_le a2 (hm q.1), a3⟩
    rw [a1]
    show some (Slot.val (Value.ref (ad q.1 q.2))) = some (Slot.val (Value.ref (ad' q.1 q.2)))
    rw [he q.1 q.2 a2]
theorem q_vm {h h' : q_H} {st : List q_V} (hv : ∀ v ∈ st, q_vk h v) (hm : ∀ c, h.2.2 c ≤ h'.2.2 c) : ∀ v ∈ st, q_vk h' v := by
  intro v hmem
  have h1 := hv v hmem
  cases v with
  | inl x => exact trivial
  | inr q => exact Nat.lt_of_lt_of_le h1 (hm q.1)
theorem q_nu_le (h : q_H) (c d : Nat) : h.2.2 d ≤ (q_nu h c).2.2 d := by
  show h.2.2 d ≤ if d = c then h.2.2 c + 1 else h.2.2 d
  by_cases e : d = c
  · subst e
    rw [if_pos rfl]
    exact Nat.le_succ _
  · rw [if_neg e]
    exact Nat.le_refl _
theorem q_ad_old {h : q_H} {ad : Nat → Nat → Nat} {c a : Nat} : ∀ d i, i < h.2.2 d → q_ad ad c (h.2.2 c) a d i = ad d i := by
  intro d i hi
  unfold q_ad
  rw [if_neg]
  rintro ⟨rfl, rfl⟩
  exact Nat.lt_irrefl _ hi
theorem q_D.new {g : q_G} {ad0 : Nat → Nat → Nat} {n0 : Nat → Nat} {s : State} {ad : Nat → Nat → Nat} {h : q_H} {H H1 : Heap} {locs : List Loc} {c : Nat} (D : q_D g ad0 n0 s ad h H locs) (hbs : g.2.2.2.1 ≤ s.heap.size) (hce : (∀ x, q_pk c = some x → H1[H.size]? = some (arrV (g.2.2.1 x.1) x.2 (fun j => q_tv (q_sT c j) 0 .null))) ∧ (q_pk c = none → ∃ q, q_cl[c]? = some q ∧ t_OB H.size (g.2.1.1 c) q.2.2 (g.2.1.2 c) H1 (fun k => q_tv (q_sT c k) 0 .null))) (z : H.size ≤ H1.size) (oq : ∀ q : Nat, q < H.size → H1[q]? = H[q]?) : q_D g ad0 n0 s (q_ad ad c (h.2.2 c) H.size) (q_nu h c) H1 locs := by
  obtain ⟨⟨p1, p2, p3, p4⟩, hS, hE⟩ := D
  have hold : ∀ d j, j < h.2.2 d → ad d j < H.size := by
    intro d j hj
    obtain ⟨a1, a2⟩ := p1 d j hj
    cases hp : q_pk d with
    | some x => exact (Array.getElem?_eq_some_iff.mp (a1 x hp)).1
    | none =>
      obtain ⟨q, -, cell, b2, -⟩ := a2 hp
      exact (Array.getElem?_eq_some_iff.mp b2).1
  have hcase : ∀ d j, j < (q_nu h c).2.2 d → j < h.2.2 d ∨ (d = c ∧ j = h.2.2 c) := by
    intro d j hj
    have hj2 : j < (if d = c then h.2.2 c + 1 else h.2.2 d) := hj
    by_cases e : d = c
    · subst e
      rw [if_pos rfl] at hj2
      rcases Nat.lt_or_ge j (h.2.2 d) with q | q
      · exact Or.inl q
      · exact Or.inr ⟨rfl, by omega⟩
    · rw [if_neg e] at hj2
      exact Or.inl hj2
  have hnew : q_ad ad c (h.2.2 c) H.size c (h.2.2 c) = H.size := if_pos ⟨rfl, rfl⟩
  have hrf : ∀ r : Option (Nat × Nat), (∀ q, r = some q → q.2 < h.2.2 q.1) → q_rf (q_ad ad c (h.2.2 c) H.size) r = q_rf ad r := by
    intro r hr
    cases r with
    | none => rfl
    | some q =>
      show Value.ref _ = Value.ref _
      rw [q_ad_old q.1 q.2 (hr q rfl)]
  refine ⟨⟨fun d j hj => ?_, fun d j d' j' hj hj' he => ?_, fun d j hj => ?_, fun d j k q hj hq => ?_⟩, ⟨Nat.le_trans hS.1 z, fun q h1 h2 => (oq q (Nat.lt_of_lt_of_le h1 hS.1)).trans (hS.2.1 q h1 h2), hS.2.2⟩, fun d => ⟨Nat.le_trans (hE d).1 (q_nu_le h c d), fun i hi => ?_⟩⟩
  · rcases hcase d j hj with q | ⟨rfl, rfl⟩
    · have hne : ¬ (d = c ∧ j = h.2.2 c) := by
        rintro ⟨rfl, rfl⟩
        exact Nat.lt_irrefl _ q
      have hs : q_sv (q_ad ad c (h.2.2 c) H.size) (q_nu h c) d j = q_sv ad h d j := by
        funext k
        unfold q_sv
        have e1 : (q_nu h c).1 d j k = h.1 d j k := if_neg hne
        have e2 : (q_nu h c).2.1 d j k = h.2.1 d j k := if_neg hne
        rw [e1, e2, hrf _ (fun r hr => p4 d j k r q hr)]
      obtain ⟨a1, a2⟩ := p1 d j q
      unfold q_ce
      rw [q_ad_old d j q, hs]
      refine ⟨fun x hx => ?_, fun hx => ?_⟩
      · rw [oq _ (hold d j q)]
        exact a1 x hx
      · obtain ⟨r, b1, b2⟩ := a2 hx
        exact ⟨r, b1, b2.kept (oq _ (hold d j q))⟩
    · have hs : q_sv (q_ad ad d (h.2.2 d) H.size) (q_nu h d) d (h.2.2 d) = (fun k => q_tv (q_sT d k) 0 .null) := by
        funext k
        unfold q_sv
        have e1 : (q_nu h d).1 d (h.2.2 d) k = 0 := if_pos ⟨rfl, rfl⟩
        have e2 : (q_nu h d).2.1 d (h.2.2 d) k = none := if_pos ⟨rfl, rfl⟩
        rw [e1, e2]
        rfl
      unfold q_ce
      rw [hnew, hs]
      exact hce
  · rcases hcase d j hj with q | ⟨rfl, rfl⟩
    · rcases hcase d' j' hj' with q' | ⟨rfl, rfl⟩
      · rw [q_ad_old d j q, q_ad_old d' j' q'] at he
        exact p2 d j d' j' q q' he
      · rw [q_ad_old d j q, hnew] at he
        exact absurd he (Nat.ne_of_lt (hold d j q))
    · rcases hcase d' j' hj' with q' | ⟨rfl, rfl⟩
      · rw [hnew, q_ad_old d' j' q'] at he
        exact absurd he.symm (Nat.ne_of_lt (hold d' j' q'))
      · exact ⟨rfl, rfl⟩
  · rcases hcase d j hj with q | ⟨rfl, rfl⟩
    · rw [q_ad_old d j q]
      exact p3 d j q
    · rw [hnew]
      exact Nat.le_trans hbs hS.1
  · rcases hcase d j hj with w | ⟨rfl, rfl⟩
    · have hne : ¬ (d = c ∧ j = h.2.2 c) := by
        rintro ⟨rfl, rfl⟩
        exact Nat.lt_irrefl _ w
      have e2 : (q_nu h c).2.1 d j k = h.2.1 d j k := if_neg hne
      rw [e2] at hq
      exact Nat.lt_of_lt_of_le (p4 d j k q w hq) (q_nu_le h c q.1)
    · have e2 : (q_nu h d).2.1 d (h.2.2 d) k = none := if_pos ⟨rfl, rfl⟩
      rw [e2] at hq
      cases hq
  · rw [q_ad_old d i (Nat.lt_of_lt_of_le hi (hE d).1)]
    exact (hE d).2 i hi
section QNW
variable {g : q_G} {y : q_M} {R : Room} {K : List q_V → q_H → Prop} {u : Nat × Nat} {pc : Nat} {ls : List (Option q_V)} {st : List q_V} {h : q_H}
theorem q_cont {p : Program} {e : Env} {s : State} {m : MethodId} {args : Array Value} {below : List Frame} {meth : Method} {c0 : Code} {Q : State → Prop} {ad0 : Nat → Nat → Nat} {n0 : Nat → Nat} {ad : Nat → Nat → Nat} {H H1 : Heap} {locs : List Loc} {L : Array Slot} {c k1 pc2 : Nat} (C : q_Cx g y p s m args meth c0) (F : q_F g y R K p e s m args below meth c0 Q ad0 n0) (D2 : q_D g ad0 n0 s (q_ad ad c (h.2.2 c) H.size) (q_nu h c) H1 locs) (hL : q_L ad h y.2.2.1 ls L) (hv : ∀ v ∈ st, q_vk h v) (h1 : u.1 + 1 ≤ R.cells) (h2 : u.2 + k1 ≤ R.slots) (kk : q_E g y R K (u.1 + 1, u.2 + k1) pc2 ls (q_O c (h.2.2 c) :: st) (q_nu h c)) : W p g.1 e R s m args below meth c0 H1 locs (u.1 + 1) (u.2 + k1) Q (F0 m pc2 L (.ref H.size :: st.map (q_c ad))) := by
  have k2 := kk p e s m args below meth c0 Q ad0 n0 _ H1 locs L C F D2 (hL.ext q_ad_old (q_nu_le h c)) (q_cs (by show h.2.2 c < if c = c then h.2.2 c + 1 else h.2.2 c; rw [if_pos rfl]; exact Nat.lt_succ_self _) (q_vm hv (q_nu_le h c))) h1 h2
  rw [q_ext hv q_ad_old (ad := ad) (ad' := q_ad ad c (h.2.2 c) H.size)]
  have e : q_ad ad c (h.2.2 c) H.size c (h.2.2 c) = H.size := if_pos ⟨rfl, rfl⟩
  have e2 : (q_O c (h.2.2 c) :: st).map (q_c (q_ad ad c (h.2.2 c) H.size)) = .ref H.size :: st.map (q_c (q_ad ad c (h.2.2 c) H.size)) := by
    show Value.ref (q_ad ad c (h.2.2 c) H.size c (h.2.2 c)) :: _ = _
    rw [e]
  rw [e2] at k2
  exact k2
theorem xe_new {idx c : Nat} {q : vw_C} (hd : decode y.2.1 pc = .ok (.new idx, 3)) (hq : q_cl[c]? = some q) (hc : Cond.classLink y.1.cls idx q.1 ∈ q_gw) (hi : Cond.instantiable q.1 q.2.2 ∈ q_gw) (hn : Cond.initialized q.1 ∈ q_gw) (hr1 : u.1 + 1 ≤ R.cells) (hr2 : u.2 + q.2.2 ≤ R.slots) (kk : q_E g y R K (u.1 + 1, u.2 + q.2.2) (pc + 3) ls (q_O c (h.2.2 c) :: st) (q_nu h c)) : q_E g y R K u pc ls st h := by
  intro p e s m args below meth c0 Q ad0 n0 ad H locs L C F D hL hv h1 h2
  obtain ⟨hx, hb, hml, hown, hts, -, -, -, hK, hbs⟩ := id C
  have hKn := hK.1 c q hq
  obtain ⟨oty, -, olay, onf⟩ := q_cl_ok c q hq
  have hpk := q_cl_pk c q hq
  refine W.newcK hx hb hown (hts _ hc) (hts _ hi) (hts _ hn) rfl hd hr1 hr2 hKn.2.1 rfl fun H1 kC hkC e1 z1 o1 => ?_
  refine q_cont C F (D.new hbs ⟨fun x hx => (by rw [hpk] at hx; cases hx), fun _ => ⟨q, hq, ?_⟩⟩ (by omega) o1) hL hv hr1 hr2 kk
  refine (u_born (q_ty c) hts olay hKn hkC e1 oty).to (fun j hj => ?_)
  unfold q_sT
  rw [hpk]
  exact (q_def (onf j hj)).symm
theorem xe_newa {c n : Nat} {ty : FieldType} {atype : ArrayType} {x : Int32} (hd : decode y.2.1 pc = .ok (.newarray atype, 2)) (hp : q_pk c = some (ty, n)) (hty : newarray.typeOf atype = ty) (hc : Cond.arrayClass ty ∈ q_gw) (hpr : ∀ (U : State) (cA : ClassId), va_RA U cA ty → U.vm.findClass ("[" ++ ty.toString) = some cA) (hx0 : ¬ x < 0) (hx1 : x.toNatClampNeg = n) (hby : n * componentBytes ty ≤ 536870912) (hr1 : u.1 + 1 ≤ R.cells) (hr2 : u.2 + n ≤ R.slots) (kk : q_E g y R K (u.1 + 1, u.2 + n) (pc + 2) ls (q_O c (h.2.2 c) :: st) (q_nu h c)) : q_E g y R K u pc ls (q_I x :: st) h := by
  intro p e s m args below meth c0 Q ad0 n0 ad H locs L C F D hL hv h1 h2
  obtain ⟨hx, hb, hml, hown, hts, -, -, -, hK, hbs⟩ := id C
  subst hty
  refine va_newaK hx hb (hts _ hc) rfl hd rfl hx0 hx1 hby hr1 hr2 rfl fun H1 cA e1 z1 o1 hAr hNm => ?_
  have hcA : cA = g.2.2.1 (newarray.typeOf atype) := Option.some.inj (hNm.symm.trans (hpr s _ (hK.2.1 c _ hp).2))
  subst hcA
  refine q_cont C F (D.new hbs ⟨fun w hw => ?_, fun hw => (by rw [hp] at hw; cases hw)⟩ (by omega) o1) hL (q_tl hv) hr1 hr2 kk
  cases hp.symm.trans hw
  rw [e1]
  congr 2
  funext j
  unfold q_sT
  rw [hp]
  exact (q_def (q_pk_nf c _ hp)).symm
theorem xe_newq {c n idx : Nat} {C1 : String} {x : Int32} (hd : decode y.2.1 pc = .ok (.anewarray idx, 3)) (hp : q_pk c = some (.object C1, n)) (hc : Cond.classLink y.1.cls idx C1 ∈ q_gw) (hov : C1 ∈ q_ov) (hx0 : ¬ x < 0) (hx1 : x.toNatClampNeg = n) (hby : n * 4 ≤ 536870912) (hr1 : u.1 + 1 ≤ R.cells) (hr2 : u.2 + n ≤ R.slots) (kk : q_E g y R K (u.1 + 1, u.2 + n) (pc + 3) ls (q_O c (h.2.2 c) :: st) (q_nu h c)) : q_E g y R K u pc ls (q_I x :: st) h := by
  intro p e s m args below meth c0 Q ad0 n0 ad H locs L C F D hL hv h1 h2
  obtain ⟨hx, hb, hml, hown, hts, -, -, -, hK, hbs⟩ := id C
  subst hx1
  refine W.anew hx hb hown (hts _ hc) (va_AO.use (hK.2.2.2.1 C1 hov)) rfl hd rfl hx0 hby hr1 hr2 fun cA kA comp f1 f2 f3 f4 => ?_
  generalize hH1 : H.push ({ cls := cA, slots := Array.replicate x.toNatClampNeg .null, vm := .none } : Cell) = H1
  have z1 : H1.size = H.size + 1 := by rw [← hH1, Array.size_push]
  have e1 : H1[H.size]? = some (arrV cA x.toNatClampNeg (fun _ => .null)) := by rw [← hH1, Array.getElem?_push_size, ← arrV_new]
  have o1 : ∀ q : Nat, q < H.size → H1[q]? = H[q]? := fun q hq => by rw [← hH1, Array.getElem?_push, if_neg (Nat.ne_of_lt hq)]
  obtain ⟨kA', comp', k1, k2, k3, k4⟩ := (hK.2.1 c _ hp).2
  have hcA : cA = g.2.2.1 (.object C1) := Option.some.inj (f1.symm.trans k4)
  subst hcA
  refine q_cont C F (D.new hbs ⟨fun w hw => ?_, fun hw => (by rw [hp] at hw; cases hw)⟩ (by omega) o1) hL (q_tl hv) hr1 hr2 kk
  cases hp.symm.trans hw
  rw [e1]
  congr 2
  funext j
  unfold q_sT
  rw [hp]
  rfl
end QNW
end
section
def q_Pc (g : q_G) (as : List q_V) (h : q_H) (ad : Nat → Nat → Nat) : Array Value → State → Prop := fun v U => v = (as.map (q_c ad)).toArray ∧ q_P g ad h U.heap ∧ q_K g U ∧ g.2.2.2.1 ≤ U.heap.size
def q_Qc (g : q_G) (h : q_H) (ad : Nat → Nat → Nat) (K : List q_V → q_H → Prop) : Array Value → State → Outcome → State → Prop := fun _ s0 oc t => ∃ (v : List q_V) (h' : q_H) (ad' : Nat → Nat → Nat), oc = .returned ((v.map (q_c ad')).head?) ∧ v.length ≤ 1 ∧ K v h' ∧ q_P g ad' h' t.heap ∧ (∀ x ∈ v, q_vk h' x) ∧ (∀ c, h.2.2 c ≤ h'.2.2 c ∧ ∀ i, i < h.2.2 c → ad' c i = ad c i) ∧ va_F (q_A g) s0 t
def q_Ct (g : q_G) (y : q_M) (R : Room) (as : List q_V) (h : q_H) (K : List q_V → q_H → Prop) : Prop := (∀ v ∈ as, q_vk h v) → ∀ ad, Met g.1 y.1 (q_wy y) R (q_Pc g as h ad) (q_Qc g h ad K) R.cells R.slots (q_A g)
theorem q_blind {g : q_G} {as : List q_V} {h : q_H} {ad : Nat → Nat → Nat} : FrameBlind (q_Pc g as h ad) := fun _ _ _ _ q => ⟨q.1, q.2.1, q.2.2.1.blind, q.2.2.2⟩
theorem q_args : ∀ (vs : List Value) (k : Nat), (∀ v ∈ vs, v.category = 1) → ∀ (i : Nat) (v : Value), vs[i]? = some v → (k + i, v) ∈ lv_args k vs := by
  intro vs
  induction vs with
  | nil => intro k _ i v hi; simp at hi
  | cons a vs ih =>
    intro k hc i v hi
    have ha : ¬ a.category = 2 := by
      have := hc a List.mem_cons_self
      omega
    unfold lv_args
    rw [if_neg ha]
    cases i with
    | zero =>
      simp at hi
      subst hi
      exact List.mem_cons_self
    | succ i =>
      have := ih (k + 1) (fun v hv => hc v (List.mem_cons_of_mem _ hv)) i v (by simpa using hi)
      rw [show k + (i + 1) = k + 1 + i by omega]
      exact List.mem_cons_of_mem _ this
theorem q_sl : ∀ (vs : List Value), (∀ v ∈ vs, v.category = 1) → (lg_sl vs).length = vs.length := by
  intro vs
  induction vs with
  | nil => intro _; rfl
  | cons a vs ih =>
    intro hc
    have ha : ¬ a.category = 2 := by
      have := hc a List.mem_cons_self
      omega
    have h2 := ih (fun v hv => hc v (List.mem_cons_of_mem _ hv))
    unfold lg_sl at h2 ⊢
    simp [List.flatMap_cons, ha, h2]
theorem q_mk {g : q_G} {y : q_M} {R : Room} {K : List q_V → q_H → Prop} {as : List q_V} {ls : List (Option q_V)} {h : q_H} (hpl : plainName y.1.cls = true) (hls : ls = as.map some ++ List.replicate (y.2.2.1 - as.length) none) (hn : as.length ≤ y.2.2.1) (hc : ∀ v ∈ as, q_sc v = 1) (hE : (∀ v ∈ as, q_vk h v) → q_E g y R K (0, 0) 0 ls [] h) : q_Ct g y R as h K := by
  intro hvk ad
  refine Met.ofW (cc := y.2.1) (maxL := y.2.2.1) (ret := y.2.2.2) hpl rfl ?_
  intro p e s m args below meth c s₁ B hml hv
  obtain ⟨rfl, hP, hK, hbs⟩ := hv
  have hx := B.exec
  have hb := B.bytes
  have hr := B.returns
  have hts := atoms_spec (ws := q_wy y) B.pre
  have hown : s.vm.findClass y.1.cls = some m.cls := findClass_of_methodNamed B.named
  have hlocks := B.notSynchronized
  have hnm : meth.name = y.1.name := (name_of_methodNamed B.named B.method).1
  have hcat : ∀ v ∈ as.map (q_c ad), v.category = 1 := by
    intro v hv
    obtain ⟨w, hw, rfl⟩ := List.mem_map.mp hv
    rw [q_c_cat]
    exact hc w hw
  have hlen : (lg_sl (as.map (q_c ad))).length = as.length := by rw [q_sl _ hcat, List.length_map]
  have hl := lv_entry (as.map (q_c ad)) (n := y.2.2.1) (by rw [hlen]; exact hn)
  rw [lg_entry_eq]
  generalize (lg_sl (as.map (q_c ad)) ++ List.replicate (y.2.2.1 - (lg_sl (as.map (q_c ad))).length) Slot.unset).toArray = L at hl ⊢
  have hL : q_L ad h y.2.2.1 ls L := by
    refine ⟨hl.1, hl.2.1, by rw [hls, List.length_append, List.length_map, List.length_replicate]; omega, fun i v hi => ?_⟩
    rw [hls] at hi
    by_cases hil : i < as.length
    · rw [List.getElem?_append_left (by rw [List.length_map]; exact hil), List.getElem?_map] at hi
      cases ha : as[i]? with
      | none => rw [ha] at hi; simp at hi
      | some w =>
        rw [ha] at hi
        simp at hi
        subst hi
        have hmem : w ∈ as := List.mem_of_getElem? ha
        refine ⟨?_, hvk w hmem, hc w hmem⟩
        have := q_args (as.map (q_c ad)) 0 hcat i (q_c ad w) (by rw [List.getElem?_map, ha]; rfl)
        rw [Nat.zero_add] at this
        exact hl.2.2 (i, q_c ad w) this
    · rw [List.getElem?_append_right (by rw [List.length_map]; omega), List.getElem?_replicate] at hi
      split at hi <;> simp at hi
  refine hE hvk p e s m _ below meth c _ ad h.2.2 ad s.heap [] L ⟨hx, hb, hml, hown, fun w hw => hts w (List.mem_cons_of_mem _ hw), hr, hlocks, hnm, hK, hbs⟩ ?_ ⟨hP, va_S.rf, fun c => ⟨Nat.le_refl _, fun _ _ => rfl⟩⟩ hL (fun v hv => by cases hv) (Nat.zero_le _) (Nat.zero_le _)
  intro pc L1 v h1 ad1 H locs hk D hvv hrt
  have hq : v.length ≤ 1 → ∀ t : State, t.heap = H → s.WarmedH t.vm → q_Qc g h ad K (as.map (q_c ad)).toArray s (.returned ((v.map (q_c ad1)).head?)) t := fun hl1 t ht _ => ⟨v, h1, ad1, rfl, hl1, hk, by rw [ht]; exact D.1, hvv, D.2.2, D.2.1.F ht⟩
  rcases hrt with ⟨x, ty, rfl, hy, hnn, hd⟩ | ⟨rfl, hy, hd⟩ | ⟨r, C0, rfl, hy, hrr, hd⟩
  · exact W.zret hx hb (hr.trans hy) hnn (hq (Nat.le_refl _)) D.2.1.2.2 hd
  · exact W.vret hx hb (hr.trans hy) (hq (Nat.zero_le _)) D.2.1.2.2 hd
  · refine W.aret hx hb (hr.trans hy) (Or.inl ⟨_, rfl⟩) ?_ (hq (Nat.le_refl _)) D.2.1.2.2 hd
    rcases hrr with rfl | ⟨q, rfl⟩
    · exact Or.inl rfl
    · exact Or.inr ⟨_, rfl⟩
theorem q_good {y : q_M} (h : Cond.code y.1 y.2.1 y.2.2.1 y.2.2.2 ∈ q_gw) : GoodIn q_gw (q_wy y) := by
  intro w hw
  rcases List.mem_cons.mp hw with rfl | hw
  · exact ⟨h, good_of_word (List.mem_filter.mp h).2⟩
  · exact ⟨hw, good_of_word (List.mem_filter.mp hw).2⟩
theorem q_tL {v : List Value} (h : v.length ≤ 1) : v.head?.toList = v := by
  match v, h with
  | [], _ => rfl
  | [x], _ => rfl
section QCA
variable {g : q_G} {y : q_M} {R : Room} {K : List q_V → q_H → Prop} {u : Nat × Nat} {pc : Nat} {ls : List (Option q_V)} {st : List q_V} {h : q_H}
theorem q_goes {p : Program} {e : Env} {s : State} {m : MethodId} {args : Array Value} {below : List Frame} {meth : Method} {c0 : Code} {Q : State → Prop} {ad0 : Nat → Nat → Nat} {n0 : Nat → Nat} {ad : Nat → Nat → Nat} {H : Heap} {locs : List Loc} {L : Array Slot} {R' : Room} {K' : List q_V → q_H → Prop} {rest : List q_V} {a : Array Value} {st0 : List Value} (C : q_Cx g y p s m args meth c0) (F : q_F g y R K p e s m args below meth c0 Q ad0 n0) (hr : va_Run p g.1 e R s m args below meth c0 H locs u.1 u.2 R'.cells R'.slots (F0 m pc L st0) (rest.map (q_c ad)) (q_Qc g h ad K' a) (q_A g)) (D : q_D g ad0 n0 s ad h H locs) (hL : q_L ad h y.2.2.1 ls L) (hv : ∀ v ∈ rest, q_vk h v) (hm : u.1 + R'.cells ≤ R.cells ∧ u.2 + R'.slots ≤ R.slots)
    (kk : ∀ v h', v.length ≤ 1 → K' v h' → (∀ c, h.2.2 c ≤ h'.2.2 c) → q_E g y R K (u.1 + R'.cells, u.2 + R'.slots) (pc + 3) ls (v ++ rest) h') : W p g.1 e R s m args below meth c0 H locs u.1 u.2 Q (F0 m pc L st0) := by
  intro T hT X
  obtain ⟨vv, st₀, t, T', Ls, h0, X', hLs, e1, e2, ⟨v, h', ad', hvv, hlen, hk, hP, hvk, hex, hF⟩, hgo⟩ := hr T hT X
  cases hvv
  have D2 : q_D g ad0 n0 s ad' h' T'.heap (locs ++ Ls) := by
    obtain ⟨-, hS, hE⟩ := D
    rw [e1]
    unfold va_F at hF
    rw [h0] at hF
    refine ⟨hP, ⟨Nat.le_trans hS.1 hF.1, fun q a1 a2 => (hF.2 q (Nat.lt_of_lt_of_le a1 hS.1) a2).trans (hS.2.1 q a1 a2), fun q hq => ?_⟩, fun c => ⟨Nat.le_trans (hE c).1 (hex c).1, fun i hi => ((hex c).2 i (Nat.lt_of_lt_of_le hi (hE c).1)).trans ((hE c).2 i hi)⟩⟩
    rcases List.mem_append.mp hq with z | z
    · exact hS.2.2 q z
    · exact hLs q z
  have hvr : ∀ x ∈ v ++ rest, q_vk h' x := by
    intro x hx
    rcases List.mem_append.mp hx with z | z
    · exact hvk x z
    · exact q_vm hv (fun c => (hex c).1) x z
  obtain ⟨t2, a1, b1⟩ := kk v h' hlen hk (fun c => (hex c).1) p e s m args below meth c0 Q ad0 n0 ad' T'.heap (locs ++ Ls) L C F D2 (hL.ext (fun c i hi => (hex c).2 i hi) (fun c => (hex c).1)) hvr hm.1 hm.2 T' rfl X'
  refine ⟨t2, hgo t2 ?_, b1⟩
  rw [q_ext hv (fun c i hi => (hex c).2 i hi), q_tL (by rw [List.length_map]; exact hlen), ← List.map_append]
  exact a1
theorem xe_cv {y' : q_M} {idx n c i : Nat} {as rest : List q_V} {R' : Room} {K' : List q_V → q_H → Prop} {q : vw_C} (hd : decode y.2.1 pc = .ok (.invokevirtual idx, 3)) (hk : q_lk y y' idx) (hs : q_mV y' n) (hq : q_cl[c]? = some q) (hqn : q.1 = y'.1.cls) (hC : q_Ct g y' R' (q_O c i :: as) h K') (hst : st = as.reverse ++ q_O c i :: rest) (hn : as.length = n) (hw : (rest.map q_sc).sum ≤ 8) (hR : R'.frames + 1 ≤ R.frames ∧ 8 + (y'.2.2.1 + 11) + R'.locals ≤ R.locals) (hm : u.1 + R'.cells ≤ R.cells ∧ u.2 + R'.slots ≤ R.slots) (kk : ∀ v h', v.length ≤ 1 → K' v h' → (∀ c, h.2.2 c ≤ h'.2.2 c) → q_E g y R K (u.1 + R'.cells, u.2 + R'.slots) (pc + 3) ls (v ++ rest) h') : q_E g y R K u pc ls st h := by
  intro p e s m args below meth c0 Q ad0 n0 ad H locs L C F D hL hv h1 h2
  subst hst
  have hvr : ∀ v ∈ rest, q_vk h v := fun v hm => hv v (List.mem_append_right _ (List.mem_cons_of_mem _ hm))
  have hva : ∀ v ∈ q_O c i :: as, q_vk h v := fun v hm => (List.mem_cons.mp hm).elim (fun e => e ▸ hv _ (List.mem_append_right _ List.mem_cons_self)) (fun z => hv v (List.mem_append_left _ (List.mem_reverse.mpr z)))
  have hi : i < h.2.2 c := hv (q_O c i) (List.mem_append_right _ List.mem_cons_self)
  obtain ⟨hx, hb, hml, hown, hts, -, -, -, hK, hbs⟩ := id C
  obtain ⟨⟨hini, hcode, hdd⟩, hinst, hsel⟩ := hs
  obtain ⟨cell, q1, q2, q3, -⟩ := q_obj D.1 hi hq
  have hpre : PreV s H y'.1.cls (ad c i) (q_Pc g (q_O c i :: as) h ad) (as.map (q_c ad)) := ⟨q_blind, ⟨cell, q1, by rw [q3]; rfl, by rw [q2, ← hqn]; exact (hK.1 c q hq).2.1⟩, fun U hU hW => ⟨rfl, by rw [hU]; exact D.1, hK.call hW D.2.1 hU, by rw [hU]; exact Nat.le_trans hbs D.2.1.1⟩⟩
  have hstk : (F0 m pc L ((as.reverse ++ q_O c i :: rest).map (q_c ad))).stack = (as.map (q_c ad)).reverse ++ .ref (ad c i) :: rest.map (q_c ad) := by
    show (as.reverse ++ q_O c i :: rest).map (q_c ad) = _
    rw [List.map_append, List.map_reverse]
    rfl
  have hcats : ((rest.map (q_c ad)).map fun v => v.category).sum ≤ 8 := by
    rw [List.map_map]
    have e : ((fun v : Value => v.category) ∘ q_c ad) = q_sc := funext (fun v => q_c_cat ad v)
    rw [e]
    exact hw
  rcases hk with hk | ⟨host, hk⟩
  · exact q_goes C F (va_runV (Ts := q_gw) ⟨hx, hb, hml, hown, hts⟩ (hC hva ad) ⟨callB_of n hts (q_good hcode) rfl rfl rfl (hts _ hini) (hts _ hk) hdd hR, hts _ hinst, hts _ hsel⟩ hpre rfl (by rw [List.length_map]; exact hn) hL.1 hstk (lv_room hcats) hd hm) D hL hvr hm kk
  · exact q_goes C F (va_runVN (Ts := q_gw) ⟨hx, hb, hml, hown, hts⟩ (hC hva ad) ⟨va_cnB n hts (q_good hcode) rfl rfl rfl (hK.2.2.1 _ hk) (hts _ hini) hdd hR, hts _ hinst, hts _ hsel⟩ hpre rfl (by rw [List.length_map]; exact hn) hL.1 hstk (lv_room hcats) hd hm) D hL hvr hm kk
theorem xe_cs {y' : q_M} {idx n : Nat} {as rest : List q_V} {R' : Room} {K' : List q_V → q_H → Prop} (hd : decode y.2.1 pc = .ok (.invokestatic idx, 3)) (hk : q_lk y y' idx) (hs : q_mS y' n) (hC : q_Ct g y' R' as h K') (hst : st = as.reverse ++ rest) (hn : as.length = n) (hw : (rest.map q_sc).sum ≤ 8) (hR : R'.frames + 1 ≤ R.frames ∧ 8 + (y'.2.2.1 + 11) + R'.locals ≤ R.locals) (hm : u.1 + R'.cells ≤ R.cells ∧ u.2 + R'.slots ≤ R.slots) (kk : ∀ v h', v.length ≤ 1 → K' v h' → (∀ c, h.2.2 c ≤ h'.2.2 c) → q_E g y R K (u.1 + R'.cells, u.2 + R'.slots) (pc + 3) ls (v ++ rest) h') : q_E g y R K u pc ls st h := by
  intro p e s m args below meth c0 Q ad0 n0 ad H locs L C F D hL hv h1 h2
  subst hst
  have hvr : ∀ v ∈ rest, q_vk h v := fun v hm => hv v (List.mem_append_right _ hm)
  have hva : ∀ v ∈ as, q_vk h v := fun v hm => hv v (List.mem_append_left _ (List.mem_reverse.mpr hm))
  obtain ⟨hx, hb, hml, hown, hts, -, -, -, hK, hbs⟩ := id C
  obtain ⟨⟨hini, hcode, hdd⟩, hstt⟩ := hs
  have hpre : PreS s H (q_Pc g as h ad) (as.map (q_c ad)) := ⟨q_blind, fun U hU hW => ⟨rfl, by rw [hU]; exact D.1, hK.call hW D.2.1 hU, by rw [hU]; exact Nat.le_trans hbs D.2.1.1⟩⟩
  have hstk : (F0 m pc L ((as.reverse ++ rest).map (q_c ad))).stack = (as.map (q_c ad)).reverse ++ rest.map (q_c ad) := by
    show (as.reverse ++ rest).map (q_c ad) = _
    rw [List.map_append, List.map_reverse]
  have hcats : ((rest.map (q_c ad)).map fun v => v.category).sum ≤ 8 := by
    rw [List.map_map]
    have e : ((fun v : Value => v.category) ∘ q_c ad) = q_sc := funext (fun v => q_c_cat ad v)
    rw [e]
    exact hw
  rcases hk with hk | ⟨host, hk⟩
  · exact q_goes C F (va_runS (Ts := q_gw) ⟨hx, hb, hml, hown, hts⟩ (hC hva ad) ⟨callB_of n hts (q_good hcode) rfl rfl rfl (hts _ hini) (hts _ hk) hdd hR, hts _ hstt⟩ hpre rfl (by rw [List.length_map]; exact hn) hL.1 hstk (lv_room hcats) hd hm) D hL hvr hm kk
  · exact q_goes C F (va_runSN (Ts := q_gw) ⟨hx, hb, hml, hown, hts⟩ (hC hva ad) ⟨va_cnB n hts (q_good hcode) rfl rfl rfl (hK.2.2.1 _ hk) (hts _ hini) hdd hR, hts _ hstt, trivial⟩ hpre rfl (by rw [List.length_map]; exact hn) hL.1 hstk (lv_room hcats) hd hm) D hL hvr hm kk
theorem xe_ci {y' : q_M} {idx n c i : Nat} {as rest : List q_V} {R' : Room} {K' : List q_V → q_H → Prop} (hd : decode y.2.1 pc = .ok (.invokespecial idx, 3)) (hk : q_lk y y' idx) (hs : q_mI y' n) (hC : q_Ct g y' R' (q_O c i :: as) h K') (hst : st = as.reverse ++ q_O c i :: rest) (hn : as.length = n) (hw : (rest.map q_sc).sum ≤ 8) (hR : R'.frames + 1 ≤ R.frames ∧ 8 + (y'.2.2.1 + 11) + R'.locals ≤ R.locals) (hm : u.1 + R'.cells ≤ R.cells ∧ u.2 + R'.slots ≤ R.slots) (kk : ∀ v h', v.length ≤ 1 → K' v h' → (∀ c, h.2.2 c ≤ h'.2.2 c) → q_E g y R K (u.1 + R'.cells, u.2 + R'.slots) (pc + 3) ls (v ++ rest) h') : q_E g y R K u pc ls st h := by
  intro p e s m args below meth c0 Q ad0 n0 ad H locs L C F D hL hv h1 h2
  subst hst
  have hvr : ∀ v ∈ rest, q_vk h v := fun v hm => hv v (List.mem_append_right _ (List.mem_cons_of_mem _ hm))
  have hva : ∀ v ∈ q_O c i :: as, q_vk h v := fun v hm => (List.mem_cons.mp hm).elim (fun e => e ▸ hv _ (List.mem_append_right _ List.mem_cons_self)) (fun z => hv v (List.mem_append_left _ (List.mem_reverse.mpr z)))
  obtain ⟨hx, hb, hml, hown, hts, -, -, -, hK, hbs⟩ := id C
  obtain ⟨⟨hini, hcode, hdd⟩, hnm, hinst, hret⟩ := hs
  have hpre : PreS s H (q_Pc g (q_O c i :: as) h ad) (.ref (ad c i) :: as.map (q_c ad)) := ⟨q_blind, fun U hU hW => ⟨rfl, by rw [hU]; exact D.1, hK.call hW D.2.1 hU, by rw [hU]; exact Nat.le_trans hbs D.2.1.1⟩⟩
  have hstk : (F0 m pc L ((as.reverse ++ q_O c i :: rest).map (q_c ad))).stack = (as.map (q_c ad)).reverse ++ .ref (ad c i) :: rest.map (q_c ad) := by
    show (as.reverse ++ q_O c i :: rest).map (q_c ad) = _
    rw [List.map_append, List.map_reverse]
    rfl
  have hcats : ((rest.map (q_c ad)).map fun v => v.category).sum ≤ 8 := by
    rw [List.map_map]
    have e : ((fun v : Value => v.category) ∘ q_c ad) = q_sc := funext (fun v => q_c_cat ad v)
    rw [e]
    exact hw
  have hwy : q_wy y' = Cond.code y'.1 y'.2.1 y'.2.2.1 none :: q_gw := by
    unfold q_wy
    rw [hret]
  rcases hk with hk | ⟨host, hk⟩
  · exact q_goes C F (va_runI (Ts := q_gw) ⟨hx, hb, hml, hown, hts⟩ (hC hva ad) ⟨callB_of n hts (q_good hcode) hwy rfl rfl (hts _ hini) (hts _ hk) hdd hR, hnm, hts _ hinst⟩ hpre rfl (by rw [List.length_map]; exact hn) hL.1 hstk (lv_room hcats) hd hm) D hL hvr hm kk
  · exact q_goes C F (va_runIN (Ts := q_gw) ⟨hx, hb, hml, hown, hts⟩ (hC hva ad) ⟨va_cnB n hts (q_good hcode) hwy rfl rfl (hK.2.2.1 _ hk) (hts _ hini) hdd hR, hnm, hts _ hinst⟩ hpre rfl (by rw [List.length_map]; exact hn) hL.1 hstk (lv_room hcats) hd hm) D hL hvr hm kk
theorem xe_obj {idx : Nat} {c i : Nat} (hd : decode y.2.1 pc = .ok (.invokespecial idx, 3)) (hk : Cond.methodLink y.1.cls idx objectInit ∈ q_gw ∧ Cond.instanceMethod objectInit ∈ q_gw ∧ Cond.code objectInit ⟨#[0xb1]⟩ 1 none ∈ q_gw) (hw : (st.map q_sc).sum ≤ 8) (hR : 1 ≤ R.frames ∧ 20 ≤ R.locals) (kk : q_E g y R K u (pc + 3) ls st h) : q_E g y R K u pc ls (q_O c i :: st) h := by
  intro p e s m args below meth c0 Q ad0 n0 ad H locs L C F D hL hv h1 h2
  have k2 := kk p e s m args below meth c0 Q ad0 n0 ad H locs L C F D hL (q_tl hv) h1 h2
  obtain ⟨hx, hb, hml, hown, hts, -, -, -, hK, hbs⟩ := id C
  have hcats : ((st.map (q_c ad)).map fun v => v.category).sum ≤ 8 := by
    rw [List.map_map]
    have e : ((fun v : Value => v.category) ∘ q_c ad) = q_sc := funext (fun v => q_c_cat ad v)
    rw [e]
    exact hw
  exact W.objInit hx hb hown (hts _ hk.1) (hts _ hk.2.1) (hts _ hk.2.2) rfl (by rw [hml]; exact hL.1) rfl hd hR.1 (by show 2 * 0 + _ + 12 ≤ _; omega) k2
theorem xe_mmax {idx : Nat} {x z : Int32} (hd : decode y.2.1 pc = .ok (.invokestatic idx, 3)) (hk : Cond.methodLink y.1.cls idx Lib.Math.max.name ∈ q_gw ∧ Cond.static Lib.Math.max.name ∈ q_gw ∧ Cond.initialized "java/lang/Math" ∈ q_gw ∧ Cond.code Lib.Math.max.name Lib.Math.max.code 2 (some .int) ∈ q_gw) (hw : (st.map q_sc).sum ≤ 8) (hR : 1 ≤ R.frames ∧ 21 ≤ R.locals) (kk : q_E g y R K u (pc + 3) ls (q_I (if x < z then z else x) :: st) h) : q_E g y R K u pc ls (q_I z :: q_I x :: st) h := by
  intro p e s m args below meth c0 Q ad0 n0 ad H locs L C F D hL hv h1 h2
  have k2 := kk p e s m args below meth c0 Q ad0 n0 ad H locs L C F D hL (q_cs trivial (q_tl (q_tl hv))) h1 h2
  obtain ⟨hx, hb, hml, hown, hts, -, -, -, hK, hbs⟩ := id C
  have hcats : ((st.map (q_c ad)).map fun v => v.category).sum ≤ 8 := by
    rw [List.map_map]
    have e : ((fun v : Value => v.category) ∘ q_c ad) = q_sc := funext (fun v => q_c_cat ad v)
    rw [e]
    exact hw
  exact va_mmax hx hb (by rw [hml]; exact hL.1.symm) hown (hts _ hk.1) (hts _ hk.2.1) (hts _ hk.2.2.1) (hts _ hk.2.2.2) hR.1 (by omega) h1 h2 hd k2
theorem xe_mmin {idx : Nat} {x z : Int32} (hd : decode y.2.1 pc = .ok (.invokestatic idx, 3)) (hk : Cond.methodLink y.1.cls idx Lib.Math.min.name ∈ q_gw ∧ Cond.static Lib.Math.min.name ∈ q_gw ∧ Cond.initialized "java/lang/Math" ∈ q_gw ∧ Cond.code Lib.Math.min.name Lib.Math.min.code 2 (some .int) ∈ q_gw) (hw : (st.map q_sc).sum ≤ 8) (hR : 1 ≤ R.frames ∧ 21 ≤ R.locals) (kk : q_E g y R K u (pc + 3) ls (q_I (if z < x then z else x) :: st) h) : q_E g y R K u pc ls (q_I z :: q_I x :: st) h := by
  intro p e s m args below meth c0 Q ad0 n0 ad H locs L C F D hL hv h1 h2
  have k2 := kk p e s m args below meth c0 Q ad0 n0 ad H locs L C F D hL (q_cs trivial (q_tl (q_tl hv))) h1 h2
  obtain ⟨hx, hb, hml, hown, hts, -, -, -, hK, hbs⟩ := id C
  have hcats : ((st.map (q_c ad)).map fun v => v.category).sum ≤ 8 := by
    rw [List.map_map]
    have e : ((fun v : Value => v.category) ∘ q_c ad) = q_sc := funext (fun v => q_c_cat ad v)
    rw [e]
    exact hw
  exact va_mmin hx hb (by rw [hml]; exact hL.1.symm) hown (hts _ hk.1) (hts _ hk.2.1) (hts _ hk.2.2.1) (hts _ hk.2.2.2) hR.1 (by omega) h1 h2 hd k2
theorem xe_mabs {idx : Nat} {x : Int32} (hd : decode y.2.1 pc = .ok (.invokestatic idx, 3)) (hk : Cond.methodLink y.1.cls idx Lib.Math.abs.name ∈ q_gw ∧ Cond.static Lib.Math.abs.name ∈ q_gw ∧ Cond.initialized "java/lang/Math" ∈ q_gw ∧ Cond.code Lib.Math.abs.name Lib.Math.abs.code 1 (some .int) ∈ q_gw) (hw : (st.map q_sc).sum ≤ 8) (hR : 1 ≤ R.frames ∧ 21 ≤ R.locals) (kk : q_E g y R K u (pc + 3) ls (q_I (if 0 ≤ x then x else 0 - x) :: st) h) : q_E g y R K u pc ls (q_I x :: st) h := by
  intro p e s m args below meth c0 Q ad0 n0 ad H locs L C F D hL hv h1 h2
  have k2 := kk p e s m args below meth c0 Q ad0 n0 ad H locs L C F D hL (q_cs trivial (q_tl hv)) h1 h2
  obtain ⟨hx, hb, hml, hown, hts, -, -, -, hK, hbs⟩ := id C
  have hcats : ((st.map (q_c ad)).map fun v => v.category).sum ≤ 8 := by
    rw [List.map_map]
    have e : ((fun v : Value => v.category) ∘ q_c ad) = q_sc := funext (fun v => q_c_cat ad v)
    rw [e]
    exact hw
  exact va_mabs hx hb (by rw [hml]; exact hL.1.symm) hown (hts _ hk.1) (hts _ hk.2.1) (hts _ hk.2.2.1) (hts _ hk.2.2.2) hR.1 (by omega) h1 h2 hd k2
end QCA
end
