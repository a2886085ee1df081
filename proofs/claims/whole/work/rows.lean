section
/-- a private method of a class that the tables say can be made, by its rows of tables_1 -/
def lw_okq (q : MethodName × Nat) : Prop := (q.1.cls ≠ "java/lang/invoke/MethodHandle" ∧ q.1.cls ≠ "java/lang/invoke/VarHandle") ∧ Cond.instantiable q.1.cls q.2 ∈ tables_1 ∧ Cond.privateMethod q.1 ∈ tables_1 ∧ Cond.instanceMethod q.1 ∈ tables_1
theorem lw_p0 : lw_okq (⟨"MuleRoad", "trainAt", "(I)LMuleRoad$Train;"⟩, 13) := ⟨⟨by decide +kernel, by decide +kernel⟩, List.mem_of_getElem? (i := 23) (by decide +kernel), List.mem_of_getElem? (i := 446) (by decide +kernel), List.mem_of_getElem? (i := 447) (by decide +kernel)⟩
theorem lw_p1 : lw_okq (⟨"MuleRoad", "packAt", "(I)LMuleRoad$Pack;"⟩, 13) := ⟨⟨by decide +kernel, by decide +kernel⟩, List.mem_of_getElem? (i := 23) (by decide +kernel), List.mem_of_getElem? (i := 450) (by decide +kernel), List.mem_of_getElem? (i := 451) (by decide +kernel)⟩
theorem lw_p2 : lw_okq (⟨"MuleRoad", "payFor", "(LMuleRoad$Pack;)I"⟩, 13) := ⟨⟨by decide +kernel, by decide +kernel⟩, List.mem_of_getElem? (i := 23) (by decide +kernel), List.mem_of_getElem? (i := 482) (by decide +kernel), List.mem_of_getElem? (i := 483) (by decide +kernel)⟩
theorem lw_p3 : lw_okq (⟨"MuleRoad", "bargainIn", "(I)I"⟩, 13) := ⟨⟨by decide +kernel, by decide +kernel⟩, List.mem_of_getElem? (i := 23) (by decide +kernel), List.mem_of_getElem? (i := 486) (by decide +kernel), List.mem_of_getElem? (i := 487) (by decide +kernel)⟩
theorem lw_p4 : lw_okq (⟨"MuleRoad$Bargain", "holdAll", "(IILMuleRoad$Pack;I)Z"⟩, 8) := ⟨⟨by decide +kernel, by decide +kernel⟩, List.mem_of_getElem? (i := 201) (by decide +kernel), List.mem_of_getElem? (i := 494) (by decide +kernel), List.mem_of_getElem? (i := 495) (by decide +kernel)⟩
theorem lw_p5 : lw_okq (⟨"MuleRoad", "isTaken", "(I)Z"⟩, 13) := ⟨⟨by decide +kernel, by decide +kernel⟩, List.mem_of_getElem? (i := 23) (by decide +kernel), List.mem_of_getElem? (i := 528) (by decide +kernel), List.mem_of_getElem? (i := 529) (by decide +kernel)⟩
theorem lw_p6 : lw_okq (⟨"MuleRoad", "passHour", "()V"⟩, 13) := ⟨⟨by decide +kernel, by decide +kernel⟩, List.mem_of_getElem? (i := 23) (by decide +kernel), List.mem_of_getElem? (i := 544) (by decide +kernel), List.mem_of_getElem? (i := 545) (by decide +kernel)⟩
theorem lw_p7 : lw_okq (⟨"MuleRoad", "holdPacks", "(I)V"⟩, 13) := ⟨⟨by decide +kernel, by decide +kernel⟩, List.mem_of_getElem? (i := 23) (by decide +kernel), List.mem_of_getElem? (i := 552) (by decide +kernel), List.mem_of_getElem? (i := 553) (by decide +kernel)⟩
theorem lw_p8 : lw_okq (⟨"MuleRoad", "innOf", "(LMuleRoad$Pack;)I"⟩, 13) := ⟨⟨by decide +kernel, by decide +kernel⟩, List.mem_of_getElem? (i := 23) (by decide +kernel), List.mem_of_getElem? (i := 556) (by decide +kernel), List.mem_of_getElem? (i := 557) (by decide +kernel)⟩
theorem lw_p9 : lw_okq (⟨"MuleRoad$Train", "arrive", "()V"⟩, 6) := ⟨⟨by decide +kernel, by decide +kernel⟩, List.mem_of_getElem? (i := 291) (by decide +kernel), List.mem_of_getElem? (i := 586) (by decide +kernel), List.mem_of_getElem? (i := 587) (by decide +kernel)⟩
theorem lw_p10 : lw_okq (⟨"MuleRoad", "findBest", "(II)Z"⟩, 13) := ⟨⟨by decide +kernel, by decide +kernel⟩, List.mem_of_getElem? (i := 23) (by decide +kernel), List.mem_of_getElem? (i := 594) (by decide +kernel), List.mem_of_getElem? (i := 595) (by decide +kernel)⟩
theorem lw_p11 : lw_okq (⟨"MuleRoad$BestLoad", "isHopeless", "(IIII)Z"⟩, 9) := ⟨⟨by decide +kernel, by decide +kernel⟩, List.mem_of_getElem? (i := 167) (by decide +kernel), List.mem_of_getElem? (i := 613) (by decide +kernel), List.mem_of_getElem? (i := 614) (by decide +kernel)⟩
theorem lw_p12 : lw_okq (⟨"MuleRoad$BestLoad", "keep", "(II)V"⟩, 9) := ⟨⟨by decide +kernel, by decide +kernel⟩, List.mem_of_getElem? (i := 167) (by decide +kernel), List.mem_of_getElem? (i := 619) (by decide +kernel), List.mem_of_getElem? (i := 620) (by decide +kernel)⟩
theorem lw_p13 : lw_okq (⟨"MuleRoad$Tape", "addByte", "(I)V"⟩, 2) := ⟨⟨by decide +kernel, by decide +kernel⟩, List.mem_of_getElem? (i := 94) (by decide +kernel), List.mem_of_getElem? (i := 639) (by decide +kernel), List.mem_of_getElem? (i := 640) (by decide +kernel)⟩
theorem lw_p14 : lw_okq (⟨"MuleRoad$Tokens", "cutToken", "()I"⟩, 7) := ⟨⟨by decide +kernel, by decide +kernel⟩, List.mem_of_getElem? (i := 115) (by decide +kernel), List.mem_of_getElem? (i := 663) (by decide +kernel), List.mem_of_getElem? (i := 664) (by decide +kernel)⟩
theorem lw_p15 : lw_okq (⟨"MuleRoad$Tokens", "add", "(II)I"⟩, 7) := ⟨⟨by decide +kernel, by decide +kernel⟩, List.mem_of_getElem? (i := 115) (by decide +kernel), List.mem_of_getElem? (i := 674) (by decide +kernel), List.mem_of_getElem? (i := 675) (by decide +kernel)⟩
def lw_privs_1 : List (MethodName × Nat) := [(⟨"MuleRoad", "trainAt", "(I)LMuleRoad$Train;"⟩, 13), (⟨"MuleRoad", "packAt", "(I)LMuleRoad$Pack;"⟩, 13), (⟨"MuleRoad", "payFor", "(LMuleRoad$Pack;)I"⟩, 13), (⟨"MuleRoad", "bargainIn", "(I)I"⟩, 13), (⟨"MuleRoad$Bargain", "holdAll", "(IILMuleRoad$Pack;I)Z"⟩, 8), (⟨"MuleRoad", "isTaken", "(I)Z"⟩, 13), (⟨"MuleRoad", "passHour", "()V"⟩, 13), (⟨"MuleRoad", "holdPacks", "(I)V"⟩, 13), (⟨"MuleRoad", "innOf", "(LMuleRoad$Pack;)I"⟩, 13), (⟨"MuleRoad$Train", "arrive", "()V"⟩, 6), (⟨"MuleRoad", "findBest", "(II)Z"⟩, 13), (⟨"MuleRoad$BestLoad", "isHopeless", "(IIII)Z"⟩, 9), (⟨"MuleRoad$BestLoad", "keep", "(II)V"⟩, 9), (⟨"MuleRoad$Tape", "addByte", "(I)V"⟩, 2), (⟨"MuleRoad$Tokens", "cutToken", "()I"⟩, 7), (⟨"MuleRoad$Tokens", "add", "(II)I"⟩, 7)]
theorem lw_r1 : ∀ q ∈ lw_privs_1, lw_okq q := List.forall_mem_cons.mpr ⟨lw_p0, List.forall_mem_cons.mpr ⟨lw_p1, List.forall_mem_cons.mpr ⟨lw_p2, List.forall_mem_cons.mpr ⟨lw_p3, List.forall_mem_cons.mpr ⟨lw_p4, List.forall_mem_cons.mpr ⟨lw_p5, List.forall_mem_cons.mpr ⟨lw_p6, List.forall_mem_cons.mpr ⟨lw_p7, List.forall_mem_cons.mpr ⟨lw_p8, List.forall_mem_cons.mpr ⟨lw_p9, List.forall_mem_cons.mpr ⟨lw_p10, List.forall_mem_cons.mpr ⟨lw_p11, List.forall_mem_cons.mpr ⟨lw_p12, List.forall_mem_cons.mpr ⟨lw_p13, List.forall_mem_cons.mpr ⟨lw_p14, List.forall_mem_cons.mpr ⟨lw_p15, fun _ h => absurd h List.not_mem_nil⟩⟩⟩⟩⟩⟩⟩⟩⟩⟩⟩⟩⟩⟩⟩⟩
theorem lw_p16 : lw_okq (⟨"MuleRoad$Tokens", "cutWord", "()I"⟩, 7) := ⟨⟨by decide +kernel, by decide +kernel⟩, List.mem_of_getElem? (i := 115) (by decide +kernel), List.mem_of_getElem? (i := 681) (by decide +kernel), List.mem_of_getElem? (i := 682) (by decide +kernel)⟩
theorem lw_p17 : lw_okq (⟨"MuleRoad$Tokens", "spells", "(Ljava/lang/String;)Z"⟩, 7) := ⟨⟨by decide +kernel, by decide +kernel⟩, List.mem_of_getElem? (i := 115) (by decide +kernel), List.mem_of_getElem? (i := 686) (by decide +kernel), List.mem_of_getElem? (i := 687) (by decide +kernel)⟩
theorem lw_p18 : lw_okq (⟨"MuleRoad$Tokens", "kindSpelt", "()I"⟩, 7) := ⟨⟨by decide +kernel, by decide +kernel⟩, List.mem_of_getElem? (i := 115) (by decide +kernel), List.mem_of_getElem? (i := 738) (by decide +kernel), List.mem_of_getElem? (i := 739) (by decide +kernel)⟩
theorem lw_p19 : lw_okq (⟨"MuleRoad$Tokens", "measureSpelt", "()I"⟩, 7) := ⟨⟨by decide +kernel, by decide +kernel⟩, List.mem_of_getElem? (i := 115) (by decide +kernel), List.mem_of_getElem? (i := 746) (by decide +kernel), List.mem_of_getElem? (i := 747) (by decide +kernel)⟩
theorem lw_p20 : lw_okq (⟨"MuleRoad$Tokens", "cutNumber", "()I"⟩, 7) := ⟨⟨by decide +kernel, by decide +kernel⟩, List.mem_of_getElem? (i := 115) (by decide +kernel), List.mem_of_getElem? (i := 756) (by decide +kernel), List.mem_of_getElem? (i := 757) (by decide +kernel)⟩
theorem lw_p21 : lw_okq (⟨"MuleRoad$Parser", "moveTo", "(I)V"⟩, 6) := ⟨⟨by decide +kernel, by decide +kernel⟩, List.mem_of_getElem? (i := 109) (by decide +kernel), List.mem_of_getElem? (i := 763) (by decide +kernel), List.mem_of_getElem? (i := 764) (by decide +kernel)⟩
theorem lw_p22 : lw_okq (⟨"MuleRoad$Parser", "isTermAhead", "()Z"⟩, 6) := ⟨⟨by decide +kernel, by decide +kernel⟩, List.mem_of_getElem? (i := 109) (by decide +kernel), List.mem_of_getElem? (i := 767) (by decide +kernel), List.mem_of_getElem? (i := 768) (by decide +kernel)⟩
theorem lw_p23 : lw_okq (⟨"MuleRoad$Parser", "fail", "(I)Z"⟩, 6) := ⟨⟨by decide +kernel, by decide +kernel⟩, List.mem_of_getElem? (i := 109) (by decide +kernel), List.mem_of_getElem? (i := 771) (by decide +kernel), List.mem_of_getElem? (i := 772) (by decide +kernel)⟩
theorem lw_p24 : lw_okq (⟨"MuleRoad$Parser", "readRule", "(LMuleRoad$Bargain;)Z"⟩, 6) := ⟨⟨by decide +kernel, by decide +kernel⟩, List.mem_of_getElem? (i := 109) (by decide +kernel), List.mem_of_getElem? (i := 775) (by decide +kernel), List.mem_of_getElem? (i := 776) (by decide +kernel)⟩
theorem lw_p25 : lw_okq (⟨"MuleRoad$Parser", "readTerms", "(LMuleRoad$Bargain;)Z"⟩, 6) := ⟨⟨by decide +kernel, by decide +kernel⟩, List.mem_of_getElem? (i := 109) (by decide +kernel), List.mem_of_getElem? (i := 779) (by decide +kernel), List.mem_of_getElem? (i := 780) (by decide +kernel)⟩
theorem lw_p26 : lw_okq (⟨"MuleRoad$Parser", "readTerm", "(LMuleRoad$Bargain;)Z"⟩, 6) := ⟨⟨by decide +kernel, by decide +kernel⟩, List.mem_of_getElem? (i := 109) (by decide +kernel), List.mem_of_getElem? (i := 783) (by decide +kernel), List.mem_of_getElem? (i := 784) (by decide +kernel)⟩
theorem lw_p27 : lw_okq (⟨"MuleRoad$Parser", "take", "(I)Z"⟩, 6) := ⟨⟨by decide +kernel, by decide +kernel⟩, List.mem_of_getElem? (i := 109) (by decide +kernel), List.mem_of_getElem? (i := 791) (by decide +kernel), List.mem_of_getElem? (i := 792) (by decide +kernel)⟩
theorem lw_p28 : lw_okq (⟨"MuleRoad$Parser", "readAmount", "(LMuleRoad$Bargain;)Z"⟩, 6) := ⟨⟨by decide +kernel, by decide +kernel⟩, List.mem_of_getElem? (i := 109) (by decide +kernel), List.mem_of_getElem? (i := 795) (by decide +kernel), List.mem_of_getElem? (i := 796) (by decide +kernel)⟩
theorem lw_p29 : lw_okq (⟨"MuleRoad", "packsThatAre", "(I)I"⟩, 13) := ⟨⟨by decide +kernel, by decide +kernel⟩, List.mem_of_getElem? (i := 23) (by decide +kernel), List.mem_of_getElem? (i := 832) (by decide +kernel), List.mem_of_getElem? (i := 833) (by decide +kernel)⟩
theorem lw_p30 : lw_okq (⟨"MuleRoad", "payOfAll", "()I"⟩, 13) := ⟨⟨by decide +kernel, by decide +kernel⟩, List.mem_of_getElem? (i := 23) (by decide +kernel), List.mem_of_getElem? (i := 836) (by decide +kernel), List.mem_of_getElem? (i := 837) (by decide +kernel)⟩
theorem lw_p31 : lw_okq (⟨"java/lang/Throwable", "fillInStackTrace", "(I)Ljava/lang/Throwable;"⟩, 6) := ⟨⟨by decide +kernel, by decide +kernel⟩, List.mem_of_getElem? (i := 884) (by decide +kernel), List.mem_of_getElem? (i := 882) (by decide +kernel), List.mem_of_getElem? (i := 883) (by decide +kernel)⟩
def lw_privs_2 : List (MethodName × Nat) := [(⟨"MuleRoad$Tokens", "cutWord", "()I"⟩, 7), (⟨"MuleRoad$Tokens", "spells", "(Ljava/lang/String;)Z"⟩, 7), (⟨"MuleRoad$Tokens", "kindSpelt", "()I"⟩, 7), (⟨"MuleRoad$Tokens", "measureSpelt", "()I"⟩, 7), (⟨"MuleRoad$Tokens", "cutNumber", "()I"⟩, 7), (⟨"MuleRoad$Parser", "moveTo", "(I)V"⟩, 6), (⟨"MuleRoad$Parser", "isTermAhead", "()Z"⟩, 6), (⟨"MuleRoad$Parser", "fail", "(I)Z"⟩, 6), (⟨"MuleRoad$Parser", "readRule", "(LMuleRoad$Bargain;)Z"⟩, 6), (⟨"MuleRoad$Parser", "readTerms", "(LMuleRoad$Bargain;)Z"⟩, 6), (⟨"MuleRoad$Parser", "readTerm", "(LMuleRoad$Bargain;)Z"⟩, 6), (⟨"MuleRoad$Parser", "take", "(I)Z"⟩, 6), (⟨"MuleRoad$Parser", "readAmount", "(LMuleRoad$Bargain;)Z"⟩, 6), (⟨"MuleRoad", "packsThatAre", "(I)I"⟩, 13), (⟨"MuleRoad", "payOfAll", "()I"⟩, 13), (⟨"java/lang/Throwable", "fillInStackTrace", "(I)Ljava/lang/Throwable;"⟩, 6)]
theorem lw_r2 : ∀ q ∈ lw_privs_2, lw_okq q := List.forall_mem_cons.mpr ⟨lw_p16, List.forall_mem_cons.mpr ⟨lw_p17, List.forall_mem_cons.mpr ⟨lw_p18, List.forall_mem_cons.mpr ⟨lw_p19, List.forall_mem_cons.mpr ⟨lw_p20, List.forall_mem_cons.mpr ⟨lw_p21, List.forall_mem_cons.mpr ⟨lw_p22, List.forall_mem_cons.mpr ⟨lw_p23, List.forall_mem_cons.mpr ⟨lw_p24, List.forall_mem_cons.mpr ⟨lw_p25, List.forall_mem_cons.mpr ⟨lw_p26, List.forall_mem_cons.mpr ⟨lw_p27, List.forall_mem_cons.mpr ⟨lw_p28, List.forall_mem_cons.mpr ⟨lw_p29, List.forall_mem_cons.mpr ⟨lw_p30, List.forall_mem_cons.mpr ⟨lw_p31, fun _ h => absurd h List.not_mem_nil⟩⟩⟩⟩⟩⟩⟩⟩⟩⟩⟩⟩⟩⟩⟩⟩
theorem lw_p32 : lw_okq (⟨"MuleRoadModel", "isLeg", "(I)Z"⟩, 58) := ⟨⟨by decide +kernel, by decide +kernel⟩, List.mem_of_getElem? (i := 917) (by decide +kernel), List.mem_of_getElem? (i := 1109) (by decide +kernel), List.mem_of_getElem? (i := 1110) (by decide +kernel)⟩
theorem lw_p33 : lw_okq (⟨"MuleRoadModel", "isShut", "(III)Z"⟩, 58) := ⟨⟨by decide +kernel, by decide +kernel⟩, List.mem_of_getElem? (i := 917) (by decide +kernel), List.mem_of_getElem? (i := 1117) (by decide +kernel), List.mem_of_getElem? (i := 1118) (by decide +kernel)⟩
theorem lw_p34 : lw_okq (⟨"MuleRoadModel", "isInn", "(I)Z"⟩, 58) := ⟨⟨by decide +kernel, by decide +kernel⟩, List.mem_of_getElem? (i := 917) (by decide +kernel), List.mem_of_getElem? (i := 1125) (by decide +kernel), List.mem_of_getElem? (i := 1126) (by decide +kernel)⟩
theorem lw_p35 : lw_okq (⟨"MuleRoadModel", "change", "(II)V"⟩, 58) := ⟨⟨by decide +kernel, by decide +kernel⟩, List.mem_of_getElem? (i := 917) (by decide +kernel), List.mem_of_getElem? (i := 1133) (by decide +kernel), List.mem_of_getElem? (i := 1134) (by decide +kernel)⟩
theorem lw_p36 : lw_okq (⟨"MuleRoadModel", "isString", "(I)Z"⟩, 58) := ⟨⟨by decide +kernel, by decide +kernel⟩, List.mem_of_getElem? (i := 917) (by decide +kernel), List.mem_of_getElem? (i := 1141) (by decide +kernel), List.mem_of_getElem? (i := 1142) (by decide +kernel)⟩
theorem lw_p37 : lw_okq (⟨"MuleRoadModel", "isPack", "(I)Z"⟩, 58) := ⟨⟨by decide +kernel, by decide +kernel⟩, List.mem_of_getElem? (i := 917) (by decide +kernel), List.mem_of_getElem? (i := 1145) (by decide +kernel), List.mem_of_getElem? (i := 1146) (by decide +kernel)⟩
theorem lw_p38 : lw_okq (⟨"MuleRoadModel", "load", "(II)I"⟩, 58) := ⟨⟨by decide +kernel, by decide +kernel⟩, List.mem_of_getElem? (i := 917) (by decide +kernel), List.mem_of_getElem? (i := 1149) (by decide +kernel), List.mem_of_getElem? (i := 1150) (by decide +kernel)⟩
theorem lw_p39 : lw_okq (⟨"MuleRoadModel", "top", "(I)I"⟩, 58) := ⟨⟨by decide +kernel, by decide +kernel⟩, List.mem_of_getElem? (i := 917) (by decide +kernel), List.mem_of_getElem? (i := 1153) (by decide +kernel), List.mem_of_getElem? (i := 1154) (by decide +kernel)⟩
theorem lw_p40 : lw_okq (⟨"MuleRoadModel", "isEven", "(I)Z"⟩, 58) := ⟨⟨by decide +kernel, by decide +kernel⟩, List.mem_of_getElem? (i := 917) (by decide +kernel), List.mem_of_getElem? (i := 1165) (by decide +kernel), List.mem_of_getElem? (i := 1166) (by decide +kernel)⟩
theorem lw_p41 : lw_okq (⟨"MuleRoadModel", "goes", "()V"⟩, 58) := ⟨⟨by decide +kernel, by decide +kernel⟩, List.mem_of_getElem? (i := 917) (by decide +kernel), List.mem_of_getElem? (i := 1173) (by decide +kernel), List.mem_of_getElem? (i := 1174) (by decide +kernel)⟩
theorem lw_p42 : lw_okq (⟨"MuleRoadModel", "holds", "()V"⟩, 58) := ⟨⟨by decide +kernel, by decide +kernel⟩, List.mem_of_getElem? (i := 917) (by decide +kernel), List.mem_of_getElem? (i := 1177) (by decide +kernel), List.mem_of_getElem? (i := 1178) (by decide +kernel)⟩
theorem lw_p43 : lw_okq (⟨"MuleRoadModel", "innOf", "(I)I"⟩, 58) := ⟨⟨by decide +kernel, by decide +kernel⟩, List.mem_of_getElem? (i := 917) (by decide +kernel), List.mem_of_getElem? (i := 1181) (by decide +kernel), List.mem_of_getElem? (i := 1182) (by decide +kernel)⟩
theorem lw_p44 : lw_okq (⟨"MuleRoadModel", "tires", "(I)V"⟩, 58) := ⟨⟨by decide +kernel, by decide +kernel⟩, List.mem_of_getElem? (i := 917) (by decide +kernel), List.mem_of_getElem? (i := 1185) (by decide +kernel), List.mem_of_getElem? (i := 1186) (by decide +kernel)⟩
theorem lw_p45 : lw_okq (⟨"MuleRoadModel", "rests", "(I)V"⟩, 58) := ⟨⟨by decide +kernel, by decide +kernel⟩, List.mem_of_getElem? (i := 917) (by decide +kernel), List.mem_of_getElem? (i := 1190) (by decide +kernel), List.mem_of_getElem? (i := 1191) (by decide +kernel)⟩
theorem lw_p46 : lw_okq (⟨"MuleRoadModel", "finds", "(II)Z"⟩, 58) := ⟨⟨by decide +kernel, by decide +kernel⟩, List.mem_of_getElem? (i := 917) (by decide +kernel), List.mem_of_getElem? (i := 1199) (by decide +kernel), List.mem_of_getElem? (i := 1200) (by decide +kernel)⟩
theorem lw_p47 : lw_okq (⟨"MuleRoadModel", "tries", "(IIIII)V"⟩, 58) := ⟨⟨by decide +kernel, by decide +kernel⟩, List.mem_of_getElem? (i := 917) (by decide +kernel), List.mem_of_getElem? (i := 1203) (by decide +kernel), List.mem_of_getElem? (i := 1204) (by decide +kernel)⟩
def lw_privs_3 : List (MethodName × Nat) := [(⟨"MuleRoadModel", "isLeg", "(I)Z"⟩, 58), (⟨"MuleRoadModel", "isShut", "(III)Z"⟩, 58), (⟨"MuleRoadModel", "isInn", "(I)Z"⟩, 58), (⟨"MuleRoadModel", "change", "(II)V"⟩, 58), (⟨"MuleRoadModel", "isString", "(I)Z"⟩, 58), (⟨"MuleRoadModel", "isPack", "(I)Z"⟩, 58), (⟨"MuleRoadModel", "load", "(II)I"⟩, 58), (⟨"MuleRoadModel", "top", "(I)I"⟩, 58), (⟨"MuleRoadModel", "isEven", "(I)Z"⟩, 58), (⟨"MuleRoadModel", "goes", "()V"⟩, 58), (⟨"MuleRoadModel", "holds", "()V"⟩, 58), (⟨"MuleRoadModel", "innOf", "(I)I"⟩, 58), (⟨"MuleRoadModel", "tires", "(I)V"⟩, 58), (⟨"MuleRoadModel", "rests", "(I)V"⟩, 58), (⟨"MuleRoadModel", "finds", "(II)Z"⟩, 58), (⟨"MuleRoadModel", "tries", "(IIIII)V"⟩, 58)]
theorem lw_r3 : ∀ q ∈ lw_privs_3, lw_okq q := List.forall_mem_cons.mpr ⟨lw_p32, List.forall_mem_cons.mpr ⟨lw_p33, List.forall_mem_cons.mpr ⟨lw_p34, List.forall_mem_cons.mpr ⟨lw_p35, List.forall_mem_cons.mpr ⟨lw_p36, List.forall_mem_cons.mpr ⟨lw_p37, List.forall_mem_cons.mpr ⟨lw_p38, List.forall_mem_cons.mpr ⟨lw_p39, List.forall_mem_cons.mpr ⟨lw_p40, List.forall_mem_cons.mpr ⟨lw_p41, List.forall_mem_cons.mpr ⟨lw_p42, List.forall_mem_cons.mpr ⟨lw_p43, List.forall_mem_cons.mpr ⟨lw_p44, List.forall_mem_cons.mpr ⟨lw_p45, List.forall_mem_cons.mpr ⟨lw_p46, List.forall_mem_cons.mpr ⟨lw_p47, fun _ h => absurd h List.not_mem_nil⟩⟩⟩⟩⟩⟩⟩⟩⟩⟩⟩⟩⟩⟩⟩⟩
theorem lw_p48 : lw_okq (⟨"MuleRoadModel", "next", "()V"⟩, 58) := ⟨⟨by decide +kernel, by decide +kernel⟩, List.mem_of_getElem? (i := 917) (by decide +kernel), List.mem_of_getElem? (i := 1223) (by decide +kernel), List.mem_of_getElem? (i := 1224) (by decide +kernel)⟩
theorem lw_p49 : lw_okq (⟨"MuleRoadModel", "see", "(I)I"⟩, 58) := ⟨⟨by decide +kernel, by decide +kernel⟩, List.mem_of_getElem? (i := 917) (by decide +kernel), List.mem_of_getElem? (i := 1230) (by decide +kernel), List.mem_of_getElem? (i := 1231) (by decide +kernel)⟩
theorem lw_p50 : lw_okq (⟨"MuleRoadModel", "isWell", "()Z"⟩, 58) := ⟨⟨by decide +kernel, by decide +kernel⟩, List.mem_of_getElem? (i := 917) (by decide +kernel), List.mem_of_getElem? (i := 1237) (by decide +kernel), List.mem_of_getElem? (i := 1238) (by decide +kernel)⟩
theorem lw_p51 : lw_okq (⟨"MuleRoadModel", "rule", "()V"⟩, 58) := ⟨⟨by decide +kernel, by decide +kernel⟩, List.mem_of_getElem? (i := 917) (by decide +kernel), List.mem_of_getElem? (i := 1241) (by decide +kernel), List.mem_of_getElem? (i := 1242) (by decide +kernel)⟩
theorem lw_p52 : lw_okq (⟨"MuleRoadModel", "is", "(I)Z"⟩, 58) := ⟨⟨by decide +kernel, by decide +kernel⟩, List.mem_of_getElem? (i := 917) (by decide +kernel), List.mem_of_getElem? (i := 1245) (by decide +kernel), List.mem_of_getElem? (i := 1246) (by decide +kernel)⟩
theorem lw_p53 : lw_okq (⟨"MuleRoadModel", "word", "()I"⟩, 58) := ⟨⟨by decide +kernel, by decide +kernel⟩, List.mem_of_getElem? (i := 917) (by decide +kernel), List.mem_of_getElem? (i := 1249) (by decide +kernel), List.mem_of_getElem? (i := 1250) (by decide +kernel)⟩
theorem lw_p54 : lw_okq (⟨"MuleRoadModel", "isWord", "(Ljava/lang/String;)Z"⟩, 58) := ⟨⟨by decide +kernel, by decide +kernel⟩, List.mem_of_getElem? (i := 917) (by decide +kernel), List.mem_of_getElem? (i := 1254) (by decide +kernel), List.mem_of_getElem? (i := 1255) (by decide +kernel)⟩
theorem lw_p55 : lw_okq (⟨"MuleRoadModel", "fails", "(I)V"⟩, 58) := ⟨⟨by decide +kernel, by decide +kernel⟩, List.mem_of_getElem? (i := 917) (by decide +kernel), List.mem_of_getElem? (i := 1266) (by decide +kernel), List.mem_of_getElem? (i := 1267) (by decide +kernel)⟩
theorem lw_p56 : lw_okq (⟨"MuleRoadModel", "term", "(I)V"⟩, 58) := ⟨⟨by decide +kernel, by decide +kernel⟩, List.mem_of_getElem? (i := 917) (by decide +kernel), List.mem_of_getElem? (i := 1270) (by decide +kernel), List.mem_of_getElem? (i := 1271) (by decide +kernel)⟩
theorem lw_p57 : lw_okq (⟨"MuleRoadModel", "number", "()I"⟩, 58) := ⟨⟨by decide +kernel, by decide +kernel⟩, List.mem_of_getElem? (i := 917) (by decide +kernel), List.mem_of_getElem? (i := 1274) (by decide +kernel), List.mem_of_getElem? (i := 1275) (by decide +kernel)⟩
theorem lw_p58 : lw_okq (⟨"MuleRoadModel", "want", "(I)V"⟩, 58) := ⟨⟨by decide +kernel, by decide +kernel⟩, List.mem_of_getElem? (i := 917) (by decide +kernel), List.mem_of_getElem? (i := 1279) (by decide +kernel), List.mem_of_getElem? (i := 1280) (by decide +kernel)⟩
theorem lw_p59 : lw_okq (⟨"MuleRoadModel", "worth", "(I)I"⟩, 58) := ⟨⟨by decide +kernel, by decide +kernel⟩, List.mem_of_getElem? (i := 917) (by decide +kernel), List.mem_of_getElem? (i := 1291) (by decide +kernel), List.mem_of_getElem? (i := 1292) (by decide +kernel)⟩
theorem lw_p60 : lw_okq (⟨"MuleRoadModel", "bargainOf", "(I)I"⟩, 58) := ⟨⟨by decide +kernel, by decide +kernel⟩, List.mem_of_getElem? (i := 917) (by decide +kernel), List.mem_of_getElem? (i := 1295) (by decide +kernel), List.mem_of_getElem? (i := 1296) (by decide +kernel)⟩
theorem lw_p61 : lw_okq (⟨"MuleRoadModel", "holds", "(II)Z"⟩, 58) := ⟨⟨by decide +kernel, by decide +kernel⟩, List.mem_of_getElem? (i := 917) (by decide +kernel), List.mem_of_getElem? (i := 1299) (by decide +kernel), List.mem_of_getElem? (i := 1300) (by decide +kernel)⟩
theorem lw_p62 : lw_okq (⟨"MuleRoadModel", "packsOn", "(I)I"⟩, 58) := ⟨⟨by decide +kernel, by decide +kernel⟩, List.mem_of_getElem? (i := 917) (by decide +kernel), List.mem_of_getElem? (i := 1307) (by decide +kernel), List.mem_of_getElem? (i := 1308) (by decide +kernel)⟩
theorem lw_p63 : lw_okq (⟨"MuleRoadModel", "many", "(I)I"⟩, 58) := ⟨⟨by decide +kernel, by decide +kernel⟩, List.mem_of_getElem? (i := 917) (by decide +kernel), List.mem_of_getElem? (i := 1327) (by decide +kernel), List.mem_of_getElem? (i := 1328) (by decide +kernel)⟩
def lw_privs_4 : List (MethodName × Nat) := [(⟨"MuleRoadModel", "next", "()V"⟩, 58), (⟨"MuleRoadModel", "see", "(I)I"⟩, 58), (⟨"MuleRoadModel", "isWell", "()Z"⟩, 58), (⟨"MuleRoadModel", "rule", "()V"⟩, 58), (⟨"MuleRoadModel", "is", "(I)Z"⟩, 58), (⟨"MuleRoadModel", "word", "()I"⟩, 58), (⟨"MuleRoadModel", "isWord", "(Ljava/lang/String;)Z"⟩, 58), (⟨"MuleRoadModel", "fails", "(I)V"⟩, 58), (⟨"MuleRoadModel", "term", "(I)V"⟩, 58), (⟨"MuleRoadModel", "number", "()I"⟩, 58), (⟨"MuleRoadModel", "want", "(I)V"⟩, 58), (⟨"MuleRoadModel", "worth", "(I)I"⟩, 58), (⟨"MuleRoadModel", "bargainOf", "(I)I"⟩, 58), (⟨"MuleRoadModel", "holds", "(II)Z"⟩, 58), (⟨"MuleRoadModel", "packsOn", "(I)I"⟩, 58), (⟨"MuleRoadModel", "many", "(I)I"⟩, 58)]
theorem lw_r4 : ∀ q ∈ lw_privs_4, lw_okq q := List.forall_mem_cons.mpr ⟨lw_p48, List.forall_mem_cons.mpr ⟨lw_p49, List.forall_mem_cons.mpr ⟨lw_p50, List.forall_mem_cons.mpr ⟨lw_p51, List.forall_mem_cons.mpr ⟨lw_p52, List.forall_mem_cons.mpr ⟨lw_p53, List.forall_mem_cons.mpr ⟨lw_p54, List.forall_mem_cons.mpr ⟨lw_p55, List.forall_mem_cons.mpr ⟨lw_p56, List.forall_mem_cons.mpr ⟨lw_p57, List.forall_mem_cons.mpr ⟨lw_p58, List.forall_mem_cons.mpr ⟨lw_p59, List.forall_mem_cons.mpr ⟨lw_p60, List.forall_mem_cons.mpr ⟨lw_p61, List.forall_mem_cons.mpr ⟨lw_p62, List.forall_mem_cons.mpr ⟨lw_p63, fun _ h => absurd h List.not_mem_nil⟩⟩⟩⟩⟩⟩⟩⟩⟩⟩⟩⟩⟩⟩⟩⟩
theorem lw_p64 : lw_okq (⟨"MuleRoadModel", "allBrought", "()I"⟩, 58) := ⟨⟨by decide +kernel, by decide +kernel⟩, List.mem_of_getElem? (i := 917) (by decide +kernel), List.mem_of_getElem? (i := 1331) (by decide +kernel), List.mem_of_getElem? (i := 1332) (by decide +kernel)⟩
def lw_privs_5 : List (MethodName × Nat) := [(⟨"MuleRoadModel", "allBrought", "()I"⟩, 58)]
theorem lw_r5 : ∀ q ∈ lw_privs_5, lw_okq q := List.forall_mem_cons.mpr ⟨lw_p64, fun _ h => absurd h List.not_mem_nil⟩
def lw_privs : List (MethodName × Nat) := lw_privs_1 ++ (lw_privs_2 ++ (lw_privs_3 ++ (lw_privs_4 ++ (lw_privs_5))))
def lw_tbl : List Cond := k2_sels lw_privs ++ tables_1
theorem lw_privs_ok : ∀ q ∈ lw_privs, lw_okq q := by
  show ∀ q ∈ lw_privs_1 ++ (lw_privs_2 ++ (lw_privs_3 ++ (lw_privs_4 ++ (lw_privs_5)))), lw_okq q
  exact List.forall_mem_append.mpr ⟨lw_r1, List.forall_mem_append.mpr ⟨lw_r2, List.forall_mem_append.mpr ⟨lw_r3, List.forall_mem_append.mpr ⟨lw_r4, lw_r5⟩⟩⟩⟩
end
section
def RX0 : String := "MuleRoad$Bargain"
def TX0 : u_T := fun k => match k with
  | 0 => ("MuleRoad$Bargain", "termsUpTo", "[I", true)
  | 1 => ("MuleRoad$Bargain", "amounts", "[I", true)
  | 2 => ("MuleRoad$Bargain", "measures", "[I", true)
  | 3 => ("MuleRoad$Bargain", "rels", "[I", true)
  | 4 => ("MuleRoad$Bargain", "numbers", "[I", true)
  | 5 => ("MuleRoad$Bargain", "rules", "I", false)
  | 6 => ("MuleRoad$Bargain", "terms", "I", false)
  | _ => ("MuleRoad$Bargain", "told", "I", false)
def tyX0 : Nat → FieldType := fun k => match k with
  | 0 => .array .int
  | 1 => .array .int
  | 2 => .array .int
  | 3 => .array .int
  | 4 => .array .int
  | 5 => .int
  | 6 => .int
  | _ => .int
theorem nmX0 : ∀ a, a < 8 → ∀ b, b < 8 → a ≠ b → (TX0 a).2.1 ≠ (TX0 b).2.1 := by decide +kernel
theorem tyX0_ok : ∀ k, k < 8 → parseFieldDescriptor (TX0 k).2.2.1 = some (tyX0 k) := by decide +kernel
abbrev cX0_init : ByteArray := prog_2_method_1_code
def yX0_init : MethodName := ⟨RX0, "<init>", "()V"⟩
abbrev cX0_clear : ByteArray := prog_2_method_2_code
def yX0_clear : MethodName := ⟨RX0, "clear", "()V"⟩
abbrev cX0_addTerm : ByteArray := prog_2_method_3_code
def yX0_addTerm : MethodName := ⟨RX0, "addTerm", "(III)V"⟩
abbrev cX0_addRule : ByteArray := prog_2_method_4_code
def yX0_addRule : MethodName := ⟨RX0, "addRule", "(I)V"⟩
abbrev cX0_payFor : ByteArray := prog_2_method_5_code
def yX0_payFor : MethodName := ⟨RX0, "payFor", "(LMuleRoad$Pack;I)I"⟩
abbrev cX0_holdAll : ByteArray := prog_2_method_6_code
def yX0_holdAll : MethodName := ⟨RX0, "holdAll", "(IILMuleRoad$Pack;I)Z"⟩
abbrev cX0_measure : ByteArray := prog_2_method_7_code
def yX0_measure : MethodName := ⟨RX0, "measure", "(ILMuleRoad$Pack;I)I"⟩
abbrev cX0_holds : ByteArray := prog_2_method_8_code
def yX0_holds : MethodName := ⟨RX0, "holds", "(III)Z"⟩
def RX1 : String := "MuleRoad$BestLoad"
def TX1 : u_T := fun k => match k with
  | 0 => ("MuleRoad$BestLoad", "packs", "[I", true)
  | 1 => ("MuleRoad$BestLoad", "weights", "[I", true)
  | 2 => ("MuleRoad$BestLoad", "ahead", "[I", true)
  | 3 => ("MuleRoad$BestLoad", "tried", "[I", true)
  | 4 => ("MuleRoad$BestLoad", "found", "[I", true)
  | 5 => ("MuleRoad$BestLoad", "size", "I", false)
  | 6 => ("MuleRoad$BestLoad", "strength", "I", false)
  | 7 => ("MuleRoad$BestLoad", "load", "I", false)
  | _ => ("MuleRoad$BestLoad", "taken", "I", false)
def tyX1 : Nat → FieldType := fun k => match k with
  | 0 => .array .int
  | 1 => .array .int
  | 2 => .array .int
  | 3 => .array .int
  | 4 => .array .int
  | 5 => .int
  | 6 => .int
  | 7 => .int
  | _ => .int
theorem nmX1 : ∀ a, a < 9 → ∀ b, b < 9 → a ≠ b → (TX1 a).2.1 ≠ (TX1 b).2.1 := by decide +kernel
theorem tyX1_ok : ∀ k, k < 9 → parseFieldDescriptor (TX1 k).2.2.1 = some (tyX1 k) := by decide +kernel
abbrev cX1_init : ByteArray := prog_3_method_1_code
def yX1_init : MethodName := ⟨RX1, "<init>", "()V"⟩
abbrev cX1_clear : ByteArray := prog_3_method_2_code
def yX1_clear : MethodName := ⟨RX1, "clear", "()V"⟩
abbrev cX1_add : ByteArray := prog_3_method_3_code
def yX1_add : MethodName := ⟨RX1, "add", "(II)V"⟩
abbrev cX1_findFor : ByteArray := prog_3_method_4_code
def yX1_findFor : MethodName := ⟨RX1, "findFor", "(I)V"⟩
abbrev cX1_sideOf : ByteArray := prog_3_method_5_code
def yX1_sideOf : MethodName := ⟨RX1, "sideOf", "(I)I"⟩
abbrev cX1_look : ByteArray := prog_3_method_6_code
def yX1_look : MethodName := ⟨RX1, "look", "(LMuleRoad$BestLoad;IIII)V"⟩
abbrev cX1_isHopeless : ByteArray := prog_3_method_7_code
def yX1_isHopeless : MethodName := ⟨RX1, "isHopeless", "(IIII)Z"⟩
abbrev cX1_keep : ByteArray := prog_3_method_8_code
def yX1_keep : MethodName := ⟨RX1, "keep", "(II)V"⟩
def RX2 : String := "MuleRoad$Moves"
def TX2 : u_T := fun k => match k with
  | 0 => ("MuleRoad$Moves", "movedPack", "[I", true)
  | 1 => ("MuleRoad$Moves", "inHour", "[I", true)
  | 2 => ("MuleRoad$Moves", "toPlace", "[I", true)
  | _ => ("MuleRoad$Moves", "size", "I", false)
def tyX2 : Nat → FieldType := fun k => match k with
  | 0 => .array .int
  | 1 => .array .int
  | 2 => .array .int
  | _ => .int
theorem nmX2 : ∀ a, a < 4 → ∀ b, b < 4 → a ≠ b → (TX2 a).2.1 ≠ (TX2 b).2.1 := by decide +kernel
theorem tyX2_ok : ∀ k, k < 4 → parseFieldDescriptor (TX2 k).2.2.1 = some (tyX2 k) := by decide +kernel
abbrev cX2_init : ByteArray := prog_4_method_1_code
def yX2_init : MethodName := ⟨RX2, "<init>", "()V"⟩
abbrev cX2_add : ByteArray := prog_4_method_2_code
def yX2_add : MethodName := ⟨RX2, "add", "(III)V"⟩
abbrev cX2_placeOf : ByteArray := prog_4_method_3_code
def yX2_placeOf : MethodName := ⟨RX2, "placeOf", "(II)I"⟩
def RX3 : String := "MuleRoad$Mule"
def TX3 : u_T := fun k => match k with
  | 0 => ("MuleRoad$Mule", "strength", "I", true)
  | 1 => ("MuleRoad$Mule", "tired", "I", false)
  | 2 => ("MuleRoad$Mule", "lame", "Z", false)
  | 3 => ("MuleRoad$Mule", "wentLame", "I", false)
  | 4 => ("MuleRoad$Mule", "left", "I", false)
  | 5 => ("MuleRoad$Mule", "right", "I", false)
  | 6 => ("MuleRoad$Mule", "top", "I", false)
  | _ => ("MuleRoad$Mule", "topWeight", "I", false)
def tyX3 : Nat → FieldType := fun k => match k with
  | 0 => .int
  | 1 => .int
  | 2 => .boolean
  | 3 => .int
  | 4 => .int
  | 5 => .int
  | 6 => .int
  | _ => .int
theorem nmX3 : ∀ a, a < 8 → ∀ b, b < 8 → a ≠ b → (TX3 a).2.1 ≠ (TX3 b).2.1 := by decide +kernel
theorem tyX3_ok : ∀ k, k < 8 → parseFieldDescriptor (TX3 k).2.2.1 = some (tyX3 k) := by decide +kernel
abbrev cX3_init : ByteArray := prog_5_method_1_code
def yX3_init : MethodName := ⟨RX3, "<init>", "(I)V"⟩
abbrev cX3_load : ByteArray := prog_5_method_2_code
def yX3_load : MethodName := ⟨RX3, "load", "()I"⟩
abbrev cX3_bear : ByteArray := prog_5_method_3_code
def yX3_bear : MethodName := ⟨RX3, "bear", "(III)V"⟩
abbrev cX3_unload : ByteArray := prog_5_method_4_code
def yX3_unload : MethodName := ⟨RX3, "unload", "(II)V"⟩
abbrev cX3_isFit : ByteArray := prog_5_method_5_code
def yX3_isFit : MethodName := ⟨RX3, "isFit", "()Z"⟩
abbrev cX3_walk : ByteArray := prog_5_method_6_code
def yX3_walk : MethodName := ⟨RX3, "walk", "(II)V"⟩
abbrev cX3_rest : ByteArray := prog_5_method_7_code
def yX3_rest : MethodName := ⟨RX3, "rest", "()V"⟩
def RX4 : String := "MuleRoad$Pack"
def TX4 : u_T := fun k => match k with
  | 0 => ("MuleRoad$Pack", "kind", "I", true)
  | 1 => ("MuleRoad$Pack", "weight", "I", true)
  | 2 => ("MuleRoad$Pack", "target", "I", true)
  | 3 => ("MuleRoad$Pack", "came", "I", true)
  | 4 => ("MuleRoad$Pack", "state", "I", false)
  | 5 => ("MuleRoad$Pack", "where", "I", false)
  | 6 => ("MuleRoad$Pack", "mule", "I", false)
  | 7 => ("MuleRoad$Pack", "side", "I", false)
  | 8 => ("MuleRoad$Pack", "held", "I", false)
  | _ => ("MuleRoad$Pack", "pay", "I", false)
def tyX4 : Nat → FieldType := fun k => match k with
  | 0 => .int
  | 1 => .int
  | 2 => .int
  | 3 => .int
  | 4 => .int
  | 5 => .int
  | 6 => .int
  | 7 => .int
  | 8 => .int
  | _ => .int
theorem nmX4 : ∀ a, a < 10 → ∀ b, b < 10 → a ≠ b → (TX4 a).2.1 ≠ (TX4 b).2.1 := by decide +kernel
theorem tyX4_ok : ∀ k, k < 10 → parseFieldDescriptor (TX4 k).2.2.1 = some (tyX4 k) := by decide +kernel
abbrev cX4_init : ByteArray := prog_6_method_1_code
def yX4_init : MethodName := ⟨RX4, "<init>", "(IIIII)V"⟩
abbrev cX4_liftOnto : ByteArray := prog_6_method_2_code
def yX4_liftOnto : MethodName := ⟨RX4, "liftOnto", "(III)V"⟩
abbrev cX4_putAt : ByteArray := prog_6_method_3_code
def yX4_putAt : MethodName := ⟨RX4, "putAt", "(I)V"⟩
abbrev cX4_deliver : ByteArray := prog_6_method_4_code
def yX4_deliver : MethodName := ⟨RX4, "deliver", "(I)V"⟩
abbrev cX4_nextLeg : ByteArray := prog_6_method_5_code
def yX4_nextLeg : MethodName := ⟨RX4, "nextLeg", "(I)I"⟩
def RX5 : String := "MuleRoad$Parser"
def TX5 : u_T := fun k => match k with
  | 0 => ("MuleRoad$Parser", "tokens", "LMuleRoad$Tokens;", true)
  | 1 => ("MuleRoad$Parser", "at", "I", false)
  | 2 => ("MuleRoad$Parser", "type", "I", false)
  | 3 => ("MuleRoad$Parser", "value", "I", false)
  | 4 => ("MuleRoad$Parser", "fault", "I", false)
  | _ => ("MuleRoad$Parser", "faultPlace", "I", false)
def tyX5 : Nat → FieldType := fun k => match k with
  | 0 => .object "MuleRoad$Tokens"
  | 1 => .int
  | 2 => .int
  | 3 => .int
  | 4 => .int
  | _ => .int
theorem nmX5 : ∀ a, a < 6 → ∀ b, b < 6 → a ≠ b → (TX5 a).2.1 ≠ (TX5 b).2.1 := by decide +kernel
theorem tyX5_ok : ∀ k, k < 6 → parseFieldDescriptor (TX5 k).2.2.1 = some (tyX5 k) := by decide +kernel
abbrev cX5_init : ByteArray := prog_7_method_1_code
def yX5_init : MethodName := ⟨RX5, "<init>", "(LMuleRoad$Tape;)V"⟩
abbrev cX5_readInto : ByteArray := prog_7_method_2_code
def yX5_readInto : MethodName := ⟨RX5, "readInto", "(LMuleRoad$Bargain;)I"⟩
abbrev cX5_moveTo : ByteArray := prog_7_method_3_code
def yX5_moveTo : MethodName := ⟨RX5, "moveTo", "(I)V"⟩
abbrev cX5_fail : ByteArray := prog_7_method_4_code
def yX5_fail : MethodName := ⟨RX5, "fail", "(I)Z"⟩
abbrev cX5_take : ByteArray := prog_7_method_5_code
def yX5_take : MethodName := ⟨RX5, "take", "(I)Z"⟩
abbrev cX5_isTermAhead : ByteArray := prog_7_method_6_code
def yX5_isTermAhead : MethodName := ⟨RX5, "isTermAhead", "()Z"⟩
abbrev cX5_readRule : ByteArray := prog_7_method_7_code
def yX5_readRule : MethodName := ⟨RX5, "readRule", "(LMuleRoad$Bargain;)Z"⟩
abbrev cX5_readTerms : ByteArray := prog_7_method_8_code
def yX5_readTerms : MethodName := ⟨RX5, "readTerms", "(LMuleRoad$Bargain;)Z"⟩
abbrev cX5_readTerm : ByteArray := prog_7_method_9_code
def yX5_readTerm : MethodName := ⟨RX5, "readTerm", "(LMuleRoad$Bargain;)Z"⟩
abbrev cX5_readAmount : ByteArray := prog_7_method_10_code
def yX5_readAmount : MethodName := ⟨RX5, "readAmount", "(LMuleRoad$Bargain;)Z"⟩
def RX6 : String := "MuleRoad$Road"
def TX6 : u_T := fun k => match k with
  | 0 => ("MuleRoad$Road", "legHours", "[I", true)
  | 1 => ("MuleRoad$Road", "legClimbs", "[I", true)
  | 2 => ("MuleRoad$Road", "legLedge", "[Z", true)
  | 3 => ("MuleRoad$Road", "snowLeg", "[I", true)
  | 4 => ("MuleRoad$Road", "snowFrom", "[I", true)
  | 5 => ("MuleRoad$Road", "snowTo", "[I", true)
  | 6 => ("MuleRoad$Road", "snowTold", "[I", true)
  | 7 => ("MuleRoad$Road", "inns", "I", false)
  | _ => ("MuleRoad$Road", "tellings", "I", false)
def tyX6 : Nat → FieldType := fun k => match k with
  | 0 => .array .int
  | 1 => .array .int
  | 2 => .array .boolean
  | 3 => .array .int
  | 4 => .array .int
  | 5 => .array .int
  | 6 => .array .int
  | 7 => .int
  | _ => .int
theorem nmX6 : ∀ a, a < 9 → ∀ b, b < 9 → a ≠ b → (TX6 a).2.1 ≠ (TX6 b).2.1 := by decide +kernel
theorem tyX6_ok : ∀ k, k < 9 → parseFieldDescriptor (TX6 k).2.2.1 = some (tyX6 k) := by decide +kernel
abbrev cX6_init : ByteArray := prog_8_method_1_code
def yX6_init : MethodName := ⟨RX6, "<init>", "()V"⟩
abbrev cX6_addInn : ByteArray := prog_8_method_2_code
def yX6_addInn : MethodName := ⟨RX6, "addInn", "(IIZ)I"⟩
abbrev cX6_addTelling : ByteArray := prog_8_method_3_code
def yX6_addTelling : MethodName := ⟨RX6, "addTelling", "(IIII)I"⟩
abbrev cX6_hasInn : ByteArray := prog_8_method_4_code
def yX6_hasInn : MethodName := ⟨RX6, "hasInn", "(I)Z"⟩
abbrev cX6_hasLeg : ByteArray := prog_8_method_5_code
def yX6_hasLeg : MethodName := ⟨RX6, "hasLeg", "(I)Z"⟩
abbrev cX6_hoursOf : ByteArray := prog_8_method_6_code
def yX6_hoursOf : MethodName := ⟨RX6, "hoursOf", "(I)I"⟩
abbrev cX6_climbsOf : ByteArray := prog_8_method_7_code
def yX6_climbsOf : MethodName := ⟨RX6, "climbsOf", "(I)I"⟩
abbrev cX6_isLedge : ByteArray := prog_8_method_8_code
def yX6_isLedge : MethodName := ⟨RX6, "isLedge", "(I)Z"⟩
abbrev cX6_isShut : ByteArray := prog_8_method_9_code
def yX6_isShut : MethodName := ⟨RX6, "isShut", "(III)Z"⟩
abbrev cX6_shutLegs : ByteArray := prog_8_method_10_code
def yX6_shutLegs : MethodName := ⟨RX6, "shutLegs", "(I)I"⟩
def RX7 : String := "MuleRoad$Tape"
def TX7 : u_T := fun k => match k with
  | 0 => ("MuleRoad$Tape", "bytes", "[I", true)
  | _ => ("MuleRoad$Tape", "size", "I", false)
def tyX7 : Nat → FieldType := fun k => match k with
  | 0 => .array .int
  | _ => .int
theorem nmX7 : ∀ a, a < 2 → ∀ b, b < 2 → a ≠ b → (TX7 a).2.1 ≠ (TX7 b).2.1 := by decide +kernel
theorem tyX7_ok : ∀ k, k < 2 → parseFieldDescriptor (TX7 k).2.2.1 = some (tyX7 k) := by decide +kernel
abbrev cX7_init : ByteArray := prog_9_method_1_code
def yX7_init : MethodName := ⟨RX7, "<init>", "()V"⟩
abbrev cX7_addNumber : ByteArray := prog_9_method_2_code
def yX7_addNumber : MethodName := ⟨RX7, "addNumber", "(I)V"⟩
abbrev cX7_addByte : ByteArray := prog_9_method_3_code
def yX7_addByte : MethodName := ⟨RX7, "addByte", "(I)V"⟩
abbrev cX7_byteAt : ByteArray := prog_9_method_4_code
def yX7_byteAt : MethodName := ⟨RX7, "byteAt", "(I)I"⟩
def RX8 : String := "MuleRoad$Tokens"
def TX8 : u_T := fun k => match k with
  | 0 => ("MuleRoad$Tokens", "tape", "LMuleRoad$Tape;", true)
  | 1 => ("MuleRoad$Tokens", "types", "[I", true)
  | 2 => ("MuleRoad$Tokens", "places", "[I", true)
  | 3 => ("MuleRoad$Tokens", "values", "[I", true)
  | 4 => ("MuleRoad$Tokens", "size", "I", false)
  | 5 => ("MuleRoad$Tokens", "from", "I", false)
  | _ => ("MuleRoad$Tokens", "behind", "I", false)
def tyX8 : Nat → FieldType := fun k => match k with
  | 0 => .object "MuleRoad$Tape"
  | 1 => .array .int
  | 2 => .array .int
  | 3 => .array .int
  | 4 => .int
  | 5 => .int
  | _ => .int
theorem nmX8 : ∀ a, a < 7 → ∀ b, b < 7 → a ≠ b → (TX8 a).2.1 ≠ (TX8 b).2.1 := by decide +kernel
theorem tyX8_ok : ∀ k, k < 7 → parseFieldDescriptor (TX8 k).2.2.1 = some (tyX8 k) := by decide +kernel
abbrev cX8_init : ByteArray := prog_10_method_1_code
def yX8_init : MethodName := ⟨RX8, "<init>", "(LMuleRoad$Tape;)V"⟩
abbrev cX8_cutTape : ByteArray := prog_10_method_2_code
def yX8_cutTape : MethodName := ⟨RX8, "cutTape", "()V"⟩
abbrev cX8_cutToken : ByteArray := prog_10_method_3_code
def yX8_cutToken : MethodName := ⟨RX8, "cutToken", "()I"⟩
abbrev cX8_add : ByteArray := prog_10_method_4_code
def yX8_add : MethodName := ⟨RX8, "add", "(II)I"⟩
abbrev cX8_cutWord : ByteArray := prog_10_method_5_code
def yX8_cutWord : MethodName := ⟨RX8, "cutWord", "()I"⟩
abbrev cX8_kindSpelt : ByteArray := prog_10_method_6_code
def yX8_kindSpelt : MethodName := ⟨RX8, "kindSpelt", "()I"⟩
abbrev cX8_measureSpelt : ByteArray := prog_10_method_7_code
def yX8_measureSpelt : MethodName := ⟨RX8, "measureSpelt", "()I"⟩
abbrev cX8_spells : ByteArray := prog_10_method_8_code
def yX8_spells : MethodName := ⟨RX8, "spells", "(Ljava/lang/String;)Z"⟩
abbrev cX8_cutNumber : ByteArray := prog_10_method_9_code
def yX8_cutNumber : MethodName := ⟨RX8, "cutNumber", "()I"⟩
abbrev cX8_signType : ByteArray := prog_10_method_10_code
def yX8_signType : MethodName := ⟨RX8, "signType", "(I)I"⟩
abbrev cX8_isBlank : ByteArray := prog_10_method_11_code
def yX8_isBlank : MethodName := ⟨RX8, "isBlank", "(I)Z"⟩
abbrev cX8_isLetter : ByteArray := prog_10_method_12_code
def yX8_isLetter : MethodName := ⟨RX8, "isLetter", "(I)Z"⟩
abbrev cX8_isDigit : ByteArray := prog_10_method_13_code
def yX8_isDigit : MethodName := ⟨RX8, "isDigit", "(I)Z"⟩
def RX9 : String := "MuleRoad$Train"
def TX9 : u_T := fun k => match k with
  | 0 => ("MuleRoad$Train", "mules", "[LMuleRoad$Mule;", true)
  | 1 => ("MuleRoad$Train", "inn", "I", false)
  | 2 => ("MuleRoad$Train", "leg", "I", false)
  | 3 => ("MuleRoad$Train", "up", "Z", false)
  | 4 => ("MuleRoad$Train", "arrival", "I", false)
  | _ => ("MuleRoad$Train", "packs", "I", false)
def tyX9 : Nat → FieldType := fun k => match k with
  | 0 => .array (.object "MuleRoad$Mule")
  | 1 => .int
  | 2 => .int
  | 3 => .boolean
  | 4 => .int
  | _ => .int
theorem nmX9 : ∀ a, a < 6 → ∀ b, b < 6 → a ≠ b → (TX9 a).2.1 ≠ (TX9 b).2.1 := by decide +kernel
theorem tyX9_ok : ∀ k, k < 6 → parseFieldDescriptor (TX9 k).2.2.1 = some (tyX9 k) := by decide +kernel
abbrev cX9_init : ByteArray := prog_11_method_1_code
def yX9_init : MethodName := ⟨RX9, "<init>", "(IIII)V"⟩
abbrev cX9_muleAt : ByteArray := prog_11_method_2_code
def yX9_muleAt : MethodName := ⟨RX9, "muleAt", "(I)LMuleRoad$Mule;"⟩
abbrev cX9_isFit : ByteArray := prog_11_method_3_code
def yX9_isFit : MethodName := ⟨RX9, "isFit", "()Z"⟩
abbrev cX9_leave : ByteArray := prog_11_method_4_code
def yX9_leave : MethodName := ⟨RX9, "leave", "(IZI)V"⟩
abbrev cX9_goThrough : ByteArray := prog_11_method_5_code
def yX9_goThrough : MethodName := ⟨RX9, "goThrough", "(II)V"⟩
abbrev cX9_arrive : ByteArray := prog_11_method_6_code
def yX9_arrive : MethodName := ⟨RX9, "arrive", "()V"⟩
def RX10 : String := "MuleRoad"
def TX10 : u_T := fun k => match k with
  | 0 => ("MuleRoad", "road", "LMuleRoad$Road;", true)
  | 1 => ("MuleRoad", "trains", "[LMuleRoad$Train;", true)
  | 2 => ("MuleRoad", "packs", "[LMuleRoad$Pack;", true)
  | 3 => ("MuleRoad", "bargains", "[LMuleRoad$Bargain;", true)
  | 4 => ("MuleRoad", "moves", "LMuleRoad$Moves;", true)
  | 5 => ("MuleRoad", "tape", "LMuleRoad$Tape;", true)
  | 6 => ("MuleRoad", "parser", "LMuleRoad$Parser;", true)
  | 7 => ("MuleRoad", "bestLoad", "LMuleRoad$BestLoad;", true)
  | 8 => ("MuleRoad", "trainCount", "I", false)
  | 9 => ("MuleRoad", "packCount", "I", false)
  | 10 => ("MuleRoad", "bargainCount", "I", false)
  | 11 => ("MuleRoad", "faultPlace", "I", false)
  | _ => ("MuleRoad", "hour", "I", false)
def tyX10 : Nat → FieldType := fun k => match k with
  | 0 => .object "MuleRoad$Road"
  | 1 => .array (.object "MuleRoad$Train")
  | 2 => .array (.object "MuleRoad$Pack")
  | 3 => .array (.object "MuleRoad$Bargain")
  | 4 => .object "MuleRoad$Moves"
  | 5 => .object "MuleRoad$Tape"
  | 6 => .object "MuleRoad$Parser"
  | 7 => .object "MuleRoad$BestLoad"
  | 8 => .int
  | 9 => .int
  | 10 => .int
  | 11 => .int
  | _ => .int
theorem nmX10 : ∀ a, a < 13 → ∀ b, b < 13 → a ≠ b → (TX10 a).2.1 ≠ (TX10 b).2.1 := by decide +kernel
theorem tyX10_ok : ∀ k, k < 13 → parseFieldDescriptor (TX10 k).2.2.1 = some (tyX10 k) := by decide +kernel
abbrev cX10_init : ByteArray := prog_1_method_1_code
def yX10_init : MethodName := ⟨RX10, "<init>", "()V"⟩
abbrev cX10_inn : ByteArray := prog_1_method_2_code
def yX10_inn : MethodName := ⟨RX10, "inn", "(IIZ)I"⟩
abbrev cX10_string : ByteArray := prog_1_method_3_code
def yX10_string : MethodName := ⟨RX10, "string", "(IIII)I"⟩
abbrev cX10_snow : ByteArray := prog_1_method_4_code
def yX10_snow : MethodName := ⟨RX10, "snow", "(III)I"⟩
abbrev cX10_shut : ByteArray := prog_1_method_5_code
def yX10_shut : MethodName := ⟨RX10, "shut", "(III)I"⟩
abbrev cX10_pack : ByteArray := prog_1_method_6_code
def yX10_pack : MethodName := ⟨RX10, "pack", "(IIII)I"⟩
abbrev cX10_lay : ByteArray := prog_1_method_7_code
def yX10_lay : MethodName := ⟨RX10, "lay", "(IIII)I"⟩
abbrev cX10_down : ByteArray := prog_1_method_8_code
def yX10_down : MethodName := ⟨RX10, "down", "(I)I"⟩
abbrev cX10_go : ByteArray := prog_1_method_9_code
def yX10_go : MethodName := ⟨RX10, "go", "(IZ)I"⟩
abbrev cX10_hours : ByteArray := prog_1_method_10_code
def yX10_hours : MethodName := ⟨RX10, "hours", "(I)I"⟩
abbrev cX10_best : ByteArray := prog_1_method_11_code
def yX10_best : MethodName := ⟨RX10, "best", "(II)I"⟩
abbrev cX10_bestOf : ByteArray := prog_1_method_12_code
def yX10_bestOf : MethodName := ⟨RX10, "bestOf", "(III)I"⟩
abbrev cX10_feed : ByteArray := prog_1_method_13_code
def yX10_feed : MethodName := ⟨RX10, "feed", "(IIIII)I"⟩
abbrev cX10_end : ByteArray := prog_1_method_14_code
def yX10_end : MethodName := ⟨RX10, "end", "(I)I"⟩
abbrev cX10_bargain : ByteArray := prog_1_method_15_code
def yX10_bargain : MethodName := ⟨RX10, "bargain", "()I"⟩
abbrev cX10_place : ByteArray := prog_1_method_16_code
def yX10_place : MethodName := ⟨RX10, "place", "()I"⟩
abbrev cX10_stringOf : ByteArray := prog_1_method_17_code
def yX10_stringOf : MethodName := ⟨RX10, "stringOf", "(II)I"⟩
abbrev cX10_muleOf : ByteArray := prog_1_method_18_code
def yX10_muleOf : MethodName := ⟨RX10, "muleOf", "(III)I"⟩
abbrev cX10_of : ByteArray := prog_1_method_19_code
def yX10_of : MethodName := ⟨RX10, "of", "(II)I"⟩
abbrev cX10_brought : ByteArray := prog_1_method_20_code
def yX10_brought : MethodName := ⟨RX10, "brought", "(I)I"⟩
abbrev cX10_was : ByteArray := prog_1_method_21_code
def yX10_was : MethodName := ⟨RX10, "was", "(II)I"⟩
abbrev cX10_count : ByteArray := prog_1_method_22_code
def yX10_count : MethodName := ⟨RX10, "count", "(I)I"⟩
abbrev cX10_isHour : ByteArray := prog_1_method_23_code
def yX10_isHour : MethodName := ⟨RX10, "isHour", "(I)Z"⟩
abbrev cX10_isStrength : ByteArray := prog_1_method_24_code
def yX10_isStrength : MethodName := ⟨RX10, "isStrength", "(I)Z"⟩
abbrev cX10_trainAt : ByteArray := prog_1_method_25_code
def yX10_trainAt : MethodName := ⟨RX10, "trainAt", "(I)LMuleRoad$Train;"⟩
abbrev cX10_packAt : ByteArray := prog_1_method_26_code
def yX10_packAt : MethodName := ⟨RX10, "packAt", "(I)LMuleRoad$Pack;"⟩
abbrev cX10_isTaken : ByteArray := prog_1_method_27_code
def yX10_isTaken : MethodName := ⟨RX10, "isTaken", "(I)Z"⟩
abbrev cX10_passHour : ByteArray := prog_1_method_28_code
def yX10_passHour : MethodName := ⟨RX10, "passHour", "()V"⟩
abbrev cX10_holdPacks : ByteArray := prog_1_method_29_code
def yX10_holdPacks : MethodName := ⟨RX10, "holdPacks", "(I)V"⟩
abbrev cX10_innOf : ByteArray := prog_1_method_30_code
def yX10_innOf : MethodName := ⟨RX10, "innOf", "(LMuleRoad$Pack;)I"⟩
abbrev cX10_findBest : ByteArray := prog_1_method_31_code
def yX10_findBest : MethodName := ⟨RX10, "findBest", "(II)Z"⟩
abbrev cX10_bargainIn : ByteArray := prog_1_method_32_code
def yX10_bargainIn : MethodName := ⟨RX10, "bargainIn", "(I)I"⟩
abbrev cX10_payFor : ByteArray := prog_1_method_33_code
def yX10_payFor : MethodName := ⟨RX10, "payFor", "(LMuleRoad$Pack;)I"⟩
abbrev cX10_packsThatAre : ByteArray := prog_1_method_34_code
def yX10_packsThatAre : MethodName := ⟨RX10, "packsThatAre", "(I)I"⟩
abbrev cX10_payOfAll : ByteArray := prog_1_method_35_code
def yX10_payOfAll : MethodName := ⟨RX10, "payOfAll", "()I"⟩
def RX11 : String := "MuleRoadModel"
def TX11 : u_T := fun k => match k with
  | 0 => ("MuleRoadModel", "thrown", "I", false)
  | 1 => ("MuleRoadModel", "hour", "I", false)
  | 2 => ("MuleRoadModel", "inns", "I", false)
  | 3 => ("MuleRoadModel", "legHours", "[I", true)
  | 4 => ("MuleRoadModel", "legClimbs", "[I", true)
  | 5 => ("MuleRoadModel", "isLedge", "[Z", true)
  | 6 => ("MuleRoadModel", "snows", "I", false)
  | 7 => ("MuleRoadModel", "snowLeg", "[I", true)
  | 8 => ("MuleRoadModel", "snowFrom", "[I", true)
  | 9 => ("MuleRoadModel", "snowTo", "[I", true)
  | 10 => ("MuleRoadModel", "snowTold", "[I", true)
  | 11 => ("MuleRoadModel", "strings", "I", false)
  | 12 => ("MuleRoadModel", "atInn", "[I", true)
  | 13 => ("MuleRoadModel", "onLeg", "[I", true)
  | 14 => ("MuleRoadModel", "isUp", "[Z", true)
  | 15 => ("MuleRoadModel", "arrives", "[I", true)
  | 16 => ("MuleRoadModel", "strength", "[I", true)
  | 17 => ("MuleRoadModel", "tired", "[I", true)
  | 18 => ("MuleRoadModel", "isLame", "[Z", true)
  | 19 => ("MuleRoadModel", "lameSince", "[I", true)
  | 20 => ("MuleRoadModel", "packs", "I", false)
  | 21 => ("MuleRoadModel", "kind", "[I", true)
  | 22 => ("MuleRoadModel", "weight", "[I", true)
  | 23 => ("MuleRoadModel", "target", "[I", true)
  | 24 => ("MuleRoadModel", "state", "[I", true)
  | 25 => ("MuleRoadModel", "inn", "[I", true)
  | 26 => ("MuleRoadModel", "mule", "[I", true)
  | 27 => ("MuleRoadModel", "spot", "[I", true)
  | 28 => ("MuleRoadModel", "came", "[I", true)
  | 29 => ("MuleRoadModel", "delivered", "[I", true)
  | 30 => ("MuleRoadModel", "held", "[I", true)
  | 31 => ("MuleRoadModel", "changes", "I", false)
  | 32 => ("MuleRoadModel", "changePack", "[I", true)
  | 33 => ("MuleRoadModel", "changeHour", "[I", true)
  | 34 => ("MuleRoadModel", "changeTo", "[I", true)
  | 35 => ("MuleRoadModel", "look", "[I", true)
  | 36 => ("MuleRoadModel", "looks", "I", false)
  | 37 => ("MuleRoadModel", "tried", "[I", true)
  | 38 => ("MuleRoadModel", "chosen", "[I", true)
  | 39 => ("MuleRoadModel", "bestLoad", "I", false)
  | 40 => ("MuleRoadModel", "bestMany", "I", false)
  | 41 => ("MuleRoadModel", "tape", "[B", true)
  | 42 => ("MuleRoadModel", "taped", "I", false)
  | 43 => ("MuleRoadModel", "at", "I", false)
  | 44 => ("MuleRoadModel", "place", "I", false)
  | 45 => ("MuleRoadModel", "sort", "I", false)
  | 46 => ("MuleRoadModel", "value", "I", false)
  | 47 => ("MuleRoadModel", "fault", "I", false)
  | 48 => ("MuleRoadModel", "faultPlace", "I", false)
  | 49 => ("MuleRoadModel", "lastPlace", "I", false)
  | 50 => ("MuleRoadModel", "bargains", "I", false)
  | 51 => ("MuleRoadModel", "toldIn", "[I", true)
  | 52 => ("MuleRoadModel", "rules", "[I", true)
  | 53 => ("MuleRoadModel", "terms", "[I", true)
  | 54 => ("MuleRoadModel", "brings", "[I", true)
  | 55 => ("MuleRoadModel", "termWhat", "[I", true)
  | 56 => ("MuleRoadModel", "termSign", "[I", true)
  | _ => ("MuleRoadModel", "termNumber", "[I", true)
def tyX11 : Nat → FieldType := fun k => match k with
  | 0 => .int
  | 1 => .int
  | 2 => .int
  | 3 => .array .int
  | 4 => .array .int
  | 5 => .array .boolean
  | 6 => .int
  | 7 => .array .int
  | 8 => .array .int
  | 9 => .array .int
  | 10 => .array .int
  | 11 => .int
  | 12 => .array .int
  | 13 => .array .int
  | 14 => .array .boolean
  | 15 => .array .int
  | 16 => .array .int
  | 17 => .array .int
  | 18 => .array .boolean
  | 19 => .array .int
  | 20 => .int
  | 21 => .array .int
  | 22 => .array .int
  | 23 => .array .int
  | 24 => .array .int
  | 25 => .array .int
  | 26 => .array .int
  | 27 => .array .int
  | 28 => .array .int
  | 29 => .array .int
  | 30 => .array .int
  | 31 => .int
  | 32 => .array .int
  | 33 => .array .int
  | 34 => .array .int
  | 35 => .array .int
  | 36 => .int
  | 37 => .array .int
  | 38 => .array .int
  | 39 => .int
  | 40 => .int
  | 41 => .array .byte
  | 42 => .int
  | 43 => .int
  | 44 => .int
  | 45 => .int
  | 46 => .int
  | 47 => .int
  | 48 => .int
  | 49 => .int
  | 50 => .int
  | 51 => .array .int
  | 52 => .array .int
  | 53 => .array .int
  | 54 => .array .int
  | 55 => .array .int
  | 56 => .array .int
  | _ => .array .int
theorem nmX11 : ∀ a, a < 58 → ∀ b, b < 58 → a ≠ b → (TX11 a).2.1 ≠ (TX11 b).2.1 := by decide +kernel
theorem tyX11_ok : ∀ k, k < 58 → parseFieldDescriptor (TX11 k).2.2.1 = some (tyX11 k) := by decide +kernel
abbrev cX11_thrown : ByteArray := prog_13_method_1_code
def yX11_thrown : MethodName := ⟨RX11, "thrown", "()I"⟩
abbrev cX11_within : ByteArray := prog_13_method_2_code
def yX11_within : MethodName := ⟨RX11, "within", "(III)Z"⟩
abbrev cX11_init : ByteArray := prog_13_method_3_code
def yX11_init : MethodName := ⟨RX11, "<init>", "()V"⟩
abbrev cX11_inn : ByteArray := prog_13_method_4_code
def yX11_inn : MethodName := ⟨RX11, "inn", "(IIZ)I"⟩
abbrev cX11_isInn : ByteArray := prog_13_method_5_code
def yX11_isInn : MethodName := ⟨RX11, "isInn", "(I)Z"⟩
abbrev cX11_isLeg : ByteArray := prog_13_method_6_code
def yX11_isLeg : MethodName := ⟨RX11, "isLeg", "(I)Z"⟩
abbrev cX11_snow : ByteArray := prog_13_method_7_code
def yX11_snow : MethodName := ⟨RX11, "snow", "(III)I"⟩
abbrev cX11_isShut : ByteArray := prog_13_method_8_code
def yX11_isShut : MethodName := ⟨RX11, "isShut", "(III)Z"⟩
abbrev cX11_shut : ByteArray := prog_13_method_9_code
def yX11_shut : MethodName := ⟨RX11, "shut", "(III)I"⟩
abbrev cX11_string : ByteArray := prog_13_method_10_code
def yX11_string : MethodName := ⟨RX11, "string", "(IIII)I"⟩
abbrev cX11_isString : ByteArray := prog_13_method_11_code
def yX11_isString : MethodName := ⟨RX11, "isString", "(I)Z"⟩
abbrev cX11_change : ByteArray := prog_13_method_12_code
def yX11_change : MethodName := ⟨RX11, "change", "(II)V"⟩
abbrev cX11_pack : ByteArray := prog_13_method_13_code
def yX11_pack : MethodName := ⟨RX11, "pack", "(IIII)I"⟩
abbrev cX11_isPack : ByteArray := prog_13_method_14_code
def yX11_isPack : MethodName := ⟨RX11, "isPack", "(I)Z"⟩
abbrev cX11_load : ByteArray := prog_13_method_15_code
def yX11_load : MethodName := ⟨RX11, "load", "(II)I"⟩
abbrev cX11_top : ByteArray := prog_13_method_16_code
def yX11_top : MethodName := ⟨RX11, "top", "(I)I"⟩
abbrev cX11_lay : ByteArray := prog_13_method_17_code
def yX11_lay : MethodName := ⟨RX11, "lay", "(IIII)I"⟩
abbrev cX11_down : ByteArray := prog_13_method_18_code
def yX11_down : MethodName := ⟨RX11, "down", "(I)I"⟩
abbrev cX11_isEven : ByteArray := prog_13_method_19_code
def yX11_isEven : MethodName := ⟨RX11, "isEven", "(I)Z"⟩
abbrev cX11_go : ByteArray := prog_13_method_20_code
def yX11_go : MethodName := ⟨RX11, "go", "(IZ)I"⟩
abbrev cX11_tires : ByteArray := prog_13_method_21_code
def yX11_tires : MethodName := ⟨RX11, "tires", "(I)V"⟩
abbrev cX11_rests : ByteArray := prog_13_method_22_code
def yX11_rests : MethodName := ⟨RX11, "rests", "(I)V"⟩
abbrev cX11_innOf : ByteArray := prog_13_method_23_code
def yX11_innOf : MethodName := ⟨RX11, "innOf", "(I)I"⟩
abbrev cX11_holds : ByteArray := prog_13_method_24_code
def yX11_holds : MethodName := ⟨RX11, "holds", "()V"⟩
abbrev cX11_goes : ByteArray := prog_13_method_25_code
def yX11_goes : MethodName := ⟨RX11, "goes", "()V"⟩
abbrev cX11_hours : ByteArray := prog_13_method_26_code
def yX11_hours : MethodName := ⟨RX11, "hours", "(I)I"⟩
abbrev cX11_tries : ByteArray := prog_13_method_27_code
def yX11_tries : MethodName := ⟨RX11, "tries", "(IIIII)V"⟩
abbrev cX11_finds : ByteArray := prog_13_method_28_code
def yX11_finds : MethodName := ⟨RX11, "finds", "(II)Z"⟩
abbrev cX11_best : ByteArray := prog_13_method_29_code
def yX11_best : MethodName := ⟨RX11, "best", "(II)I"⟩
abbrev cX11_bestOf : ByteArray := prog_13_method_30_code
def yX11_bestOf : MethodName := ⟨RX11, "bestOf", "(III)I"⟩
abbrev cX11_feed : ByteArray := prog_13_method_31_code
def yX11_feed : MethodName := ⟨RX11, "feed", "(IIIII)I"⟩
abbrev cX11_end : ByteArray := prog_13_method_32_code
def yX11_end : MethodName := ⟨RX11, "end", "(I)I"⟩
abbrev cX11_see : ByteArray := prog_13_method_33_code
def yX11_see : MethodName := ⟨RX11, "see", "(I)I"⟩
abbrev cX11_isSmall : ByteArray := prog_13_method_34_code
def yX11_isSmall : MethodName := ⟨RX11, "isSmall", "(I)Z"⟩
abbrev cX11_isDigit : ByteArray := prog_13_method_35_code
def yX11_isDigit : MethodName := ⟨RX11, "isDigit", "(I)Z"⟩
abbrev cX11_next : ByteArray := prog_13_method_36_code
def yX11_next : MethodName := ⟨RX11, "next", "()V"⟩
abbrev cX11_isWord : ByteArray := prog_13_method_37_code
def yX11_isWord : MethodName := ⟨RX11, "isWord", "(Ljava/lang/String;)Z"⟩
abbrev cX11_is : ByteArray := prog_13_method_38_code
def yX11_is : MethodName := ⟨RX11, "is", "(I)Z"⟩
abbrev cX11_fails : ByteArray := prog_13_method_39_code
def yX11_fails : MethodName := ⟨RX11, "fails", "(I)V"⟩
abbrev cX11_isWell : ByteArray := prog_13_method_40_code
def yX11_isWell : MethodName := ⟨RX11, "isWell", "()Z"⟩
abbrev cX11_word : ByteArray := prog_13_method_41_code
def yX11_word : MethodName := ⟨RX11, "word", "()I"⟩
abbrev cX11_term : ByteArray := prog_13_method_42_code
def yX11_term : MethodName := ⟨RX11, "term", "(I)V"⟩
abbrev cX11_number : ByteArray := prog_13_method_43_code
def yX11_number : MethodName := ⟨RX11, "number", "()I"⟩
abbrev cX11_want : ByteArray := prog_13_method_44_code
def yX11_want : MethodName := ⟨RX11, "want", "(I)V"⟩
abbrev cX11_rule : ByteArray := prog_13_method_45_code
def yX11_rule : MethodName := ⟨RX11, "rule", "()V"⟩
abbrev cX11_bargain : ByteArray := prog_13_method_46_code
def yX11_bargain : MethodName := ⟨RX11, "bargain", "()I"⟩
abbrev cX11_place : ByteArray := prog_13_method_47_code
def yX11_place : MethodName := ⟨RX11, "place", "()I"⟩
abbrev cX11_bargainOf : ByteArray := prog_13_method_48_code
def yX11_bargainOf : MethodName := ⟨RX11, "bargainOf", "(I)I"⟩
abbrev cX11_holds_ : ByteArray := prog_13_method_49_code
def yX11_holds_ : MethodName := ⟨RX11, "holds", "(II)Z"⟩
abbrev cX11_worth : ByteArray := prog_13_method_50_code
def yX11_worth : MethodName := ⟨RX11, "worth", "(I)I"⟩
abbrev cX11_brought : ByteArray := prog_13_method_51_code
def yX11_brought : MethodName := ⟨RX11, "brought", "(I)I"⟩
abbrev cX11_packsOn : ByteArray := prog_13_method_52_code
def yX11_packsOn : MethodName := ⟨RX11, "packsOn", "(I)I"⟩
abbrev cX11_stringOf : ByteArray := prog_13_method_53_code
def yX11_stringOf : MethodName := ⟨RX11, "stringOf", "(II)I"⟩
abbrev cX11_muleOf : ByteArray := prog_13_method_54_code
def yX11_muleOf : MethodName := ⟨RX11, "muleOf", "(III)I"⟩
abbrev cX11_of : ByteArray := prog_13_method_55_code
def yX11_of : MethodName := ⟨RX11, "of", "(II)I"⟩
abbrev cX11_was : ByteArray := prog_13_method_56_code
def yX11_was : MethodName := ⟨RX11, "was", "(II)I"⟩
abbrev cX11_many : ByteArray := prog_13_method_57_code
def yX11_many : MethodName := ⟨RX11, "many", "(I)I"⟩
abbrev cX11_allBrought : ByteArray := prog_13_method_58_code
def yX11_allBrought : MethodName := ⟨RX11, "allBrought", "()I"⟩
abbrev cX11_count : ByteArray := prog_13_method_59_code
def yX11_count : MethodName := ⟨RX11, "count", "(I)I"⟩
def RJ9 : String := "java/lang/Math"
def TJ9 : u_T := fun k => match k with
  | _ => ("", "", "", false)
def tyJ9 : Nat → FieldType := fun k => match k with
  | _ => .int
abbrev cJ9_abs_0f7a4 : ByteArray := prog_15_method_59_code
def yJ9_abs_0f7a4 : MethodName := ⟨RJ9, "abs", "(I)I"⟩
abbrev cJ9_max_7cf53 : ByteArray := prog_15_method_65_code
def yJ9_max_7cf53 : MethodName := ⟨RJ9, "max", "(II)I"⟩
abbrev cJ9_min_7cf53 : ByteArray := prog_15_method_69_code
def yJ9_min_7cf53 : MethodName := ⟨RJ9, "min", "(II)I"⟩
def RJ0 : String := "java/lang/String"
def TJ0 : u_T := fun k => match k with
  | _ => ("", "", "", false)
def tyJ0 : Nat → FieldType := fun k => match k with
  | _ => .int
abbrev cJ0_length_8abf5 : ByteArray := prog_17_method_54_code
def yJ0_length_8abf5 : MethodName := ⟨RJ0, "length", "()I"⟩
abbrev cJ0_charAt_5068e : ByteArray := prog_17_method_56_code
def yJ0_charAt_5068e : MethodName := ⟨RJ0, "charAt", "(I)C"⟩
abbrev cJ0_coder_7d493 : ByteArray := prog_17_method_152_code
def yJ0_coder_7d493 : MethodName := ⟨RJ0, "coder", "()B"⟩
abbrev cJ0_isLatin1_aae02 : ByteArray := prog_17_method_154_code
def yJ0_isLatin1_aae02 : MethodName := ⟨RJ0, "isLatin1", "()Z"⟩
abbrev cJ0_checkIndex_df160 : ByteArray := prog_17_method_155_code
def yJ0_checkIndex_df160 : MethodName := ⟨RJ0, "checkIndex", "(II)V"⟩
def RJ1 : String := "java/lang/StringLatin1"
def TJ1 : u_T := fun k => match k with
  | _ => ("", "", "", false)
def tyJ1 : Nat → FieldType := fun k => match k with
  | _ => .int
abbrev cJ1_charAt_3b067 : ByteArray := prog_18_method_2_code
def yJ1_charAt_3b067 : MethodName := ⟨RJ1, "charAt", "([BI)C"⟩
def RJ2 : String := "java/lang/StringUTF16"
def TJ2 : u_T := fun k => match k with
  | _ => ("", "", "", false)
def tyJ2 : Nat → FieldType := fun k => match k with
  | _ => .int
abbrev cJ2_getChar_3b067 : ByteArray := prog_19_method_5_code
def yJ2_getChar_3b067 : MethodName := ⟨RJ2, "getChar", "([BI)C"⟩
abbrev cJ2_length_9d52b : ByteArray := prog_19_method_6_code
def yJ2_length_9d52b : MethodName := ⟨RJ2, "length", "([B)I"⟩
abbrev cJ2_charAt_3b067 : ByteArray := prog_19_method_83_code
def yJ2_charAt_3b067 : MethodName := ⟨RJ2, "charAt", "([BI)C"⟩
abbrev cJ2_checkIndex_2214a : ByteArray := prog_19_method_91_code
def yJ2_checkIndex_2214a : MethodName := ⟨RJ2, "checkIndex", "(I[B)V"⟩
def RJ3 : String := "jdk/internal/util/Preconditions"
def TJ3 : u_T := fun k => match k with
  | _ => ("", "", "", false)
def tyJ3 : Nat → FieldType := fun k => match k with
  | _ => .int
abbrev cJ3_checkIndex_8e157 : ByteArray := prog_22_method_11_code
def yJ3_checkIndex_8e157 : MethodName := ⟨RJ3, "checkIndex", "(IILjava/util/function/BiFunction;)I"⟩
def RL : String := "MuleRoadLaw"
abbrev cL_brought : ByteArray := method_3_code
def yL_brought : MethodName := ⟨RL, "brought", "(LMuleRoad;I[J)I"⟩
abbrev cL_law : ByteArray := code
def yL_law : MethodName := ⟨RL, "law", "([I)Z"⟩
end
section
abbrev q_V : Type := Value ⊕ (Nat × Nat)
abbrev q_H : Type := (Nat → Nat → Nat → Int32) × (Nat → Nat → Nat → Option (Nat × Nat)) × (Nat → Nat)
abbrev q_M : Type := MethodName × ByteArray × Nat × Option FieldType
abbrev q_G : Type := Launch × va_G × (FieldType → ClassId) × Nat × (State → Prop)
abbrev q_I (x : Int32) : q_V := .inl (.int x)
abbrev q_J (x : Int64) : q_V := .inl (.long x)
abbrev q_N : q_V := .inl .null
abbrev q_O (c i : Nat) : q_V := .inr (c, i)
def q_cl : List vw_C := [(RX0, TX0, 8), (RX1, TX1, 9), (RX2, TX2, 4), (RX3, TX3, 8), (RX4, TX4, 10), (RX5, TX5, 6), (RX6, TX6, 9), (RX7, TX7, 2), (RX8, TX8, 7), (RX9, TX9, 6), (RX10, TX10, 13), (RX11, TX11, 58)]
def q_ty (c : Nat) : Nat → FieldType := match c with
  | 0 => tyX0
  | 1 => tyX1
  | 2 => tyX2
  | 3 => tyX3
  | 4 => tyX4
  | 5 => tyX5
  | 6 => tyX6
  | 7 => tyX7
  | 8 => tyX8
  | 9 => tyX9
  | 10 => tyX10
  | 11 => tyX11
  | _ => fun _ => .int
def q_pk (c : Nat) : Option (FieldType × Nat) := match c with
  | 12 => some (.int, 20)
  | 13 => some (.int, 20)
  | 14 => some (.int, 80)
  | 15 => some (.int, 80)
  | 16 => some (.int, 80)
  | 17 => some (.int, 10)
  | 18 => some (.int, 10)
  | 19 => some (.int, 11)
  | 20 => some (.int, 10)
  | 21 => some (.int, 10)
  | 22 => some (.int, 512)
  | 23 => some (.int, 512)
  | 24 => some (.int, 512)
  | 25 => some (.int, 6)
  | 26 => some (.int, 6)
  | 27 => some (.boolean, 6)
  | 28 => some (.int, 60)
  | 29 => some (.int, 60)
  | 30 => some (.int, 60)
  | 31 => some (.int, 60)
  | 32 => some (.int, 400)
  | 33 => some (.int, 401)
  | 34 => some (.int, 401)
  | 35 => some (.int, 401)
  | 36 => some ((.object "MuleRoad$Mule"), 3)
  | 37 => some ((.object "MuleRoad$Train"), 4)
  | 38 => some ((.object "MuleRoad$Pack"), 100)
  | 39 => some ((.object "MuleRoad$Bargain"), 10)
  | 40 => some (.int, 6)
  | 41 => some (.int, 6)
  | 42 => some (.boolean, 6)
  | 43 => some (.int, 60)
  | 44 => some (.int, 60)
  | 45 => some (.int, 60)
  | 46 => some (.int, 60)
  | 47 => some (.int, 4)
  | 48 => some (.int, 4)
  | 49 => some (.boolean, 4)
  | 50 => some (.int, 4)
  | 51 => some (.int, 12)
  | 52 => some (.int, 12)
  | 53 => some (.boolean, 12)
  | 54 => some (.int, 12)
  | 55 => some (.int, 100)
  | 56 => some (.int, 100)
  | 57 => some (.int, 100)
  | 58 => some (.int, 100)
  | 59 => some (.int, 100)
  | 60 => some (.int, 100)
  | 61 => some (.int, 100)
  | 62 => some (.int, 100)
  | 63 => some (.int, 100)
  | 64 => some (.int, 100)
  | 65 => some (.int, 700)
  | 66 => some (.int, 700)
  | 67 => some (.int, 700)
  | 68 => some (.int, 10)
  | 69 => some (.int, 10)
  | 70 => some (.int, 10)
  | 71 => some (.byte, 400)
  | 72 => some (.int, 11)
  | 73 => some (.int, 11)
  | 74 => some (.int, 220)
  | 75 => some (.int, 220)
  | 76 => some (.int, 880)
  | 77 => some (.int, 880)
  | 78 => some (.int, 880)
  | 79 => some (.long, 1)
  | _ => none
def q_gw : List Cond := lw_tbl.filter goodWord
def q_isN (w : Cond) : Bool := match w with
  | .fieldLinkNest _ _ _ _ _ _ => true
  | .methodLinkNest _ _ _ _ => true
  | _ => false
def q_nw : List Cond := lw_tbl.filter q_isN
def q_ov : List String := ["MuleRoad$Mule", "MuleRoad$Train", "MuleRoad$Pack", "MuleRoad$Bargain"]
def q_wy (y : q_M) : List Cond := .code y.1 y.2.1 y.2.2.1 y.2.2.2 :: q_gw
theorem q_in {w : Cond} (h1 : w ∈ lw_tbl) (h2 : goodWord w = true) : w ∈ q_gw := List.mem_filter.mpr ⟨h1, h2⟩
theorem q_inN {w : Cond} (h1 : w ∈ lw_tbl) (h2 : q_isN w = true) : w ∈ q_nw := List.mem_filter.mpr ⟨h1, h2⟩
theorem q_lay0 : ∀ w ∈ u_ws RX0 TX0 8, w ∈ q_gw := by
  intro w hw
  have h1 : (u_ws RX0 TX0 8).all (fun w => decide (w ∈ lw_tbl) && goodWord w) = true := by decide +kernel
  have h2 := List.all_eq_true.mp h1 w hw
  simp only [Bool.and_eq_true, decide_eq_true_eq] at h2
  exact q_in h2.1 h2.2
theorem q_nf0 : ∀ k, k < 8 → q_ty 0 k ≠ .float ∧ q_ty 0 k ≠ .double := by decide +kernel
theorem q_lay1 : ∀ w ∈ u_ws RX1 TX1 9, w ∈ q_gw := by
  intro w hw
  have h1 : (u_ws RX1 TX1 9).all (fun w => decide (w ∈ lw_tbl) && goodWord w) = true := by decide +kernel
  have h2 := List.all_eq_true.mp h1 w hw
  simp only [Bool.and_eq_true, decide_eq_true_eq] at h2
  exact q_in h2.1 h2.2
theorem q_nf1 : ∀ k, k < 9 → q_ty 1 k ≠ .float ∧ q_ty 1 k ≠ .double := by decide +kernel
theorem q_lay2 : ∀ w ∈ u_ws RX2 TX2 4, w ∈ q_gw := by
  intro w hw
  have h1 : (u_ws RX2 TX2 4).all (fun w => decide (w ∈ lw_tbl) && goodWord w) = true := by decide +kernel
  have h2 := List.all_eq_true.mp h1 w hw
  simp only [Bool.and_eq_true, decide_eq_true_eq] at h2
  exact q_in h2.1 h2.2
theorem q_nf2 : ∀ k, k < 4 → q_ty 2 k ≠ .float ∧ q_ty 2 k ≠ .double := by decide +kernel
theorem q_lay3 : ∀ w ∈ u_ws RX3 TX3 8, w ∈ q_gw := by
  intro w hw
  have h1 : (u_ws RX3 TX3 8).all (fun w => decide (w ∈ lw_tbl) && goodWord w) = true := by decide +kernel
  have h2 := List.all_eq_true.mp h1 w hw
  simp only [Bool.and_eq_true, decide_eq_true_eq] at h2
  exact q_in h2.1 h2.2
theorem q_nf3 : ∀ k, k < 8 → q_ty 3 k ≠ .float ∧ q_ty 3 k ≠ .double := by decide +kernel
theorem q_lay4 : ∀ w ∈ u_ws RX4 TX4 10, w ∈ q_gw := by
  intro w hw
  have h1 : (u_ws RX4 TX4 10).all (fun w => decide (w ∈ lw_tbl) && goodWord w) = true := by decide +kernel
  have h2 := List.all_eq_true.mp h1 w hw
  simp only [Bool.and_eq_true, decide_eq_true_eq] at h2
  exact q_in h2.1 h2.2
theorem q_nf4 : ∀ k, k < 10 → q_ty 4 k ≠ .float ∧ q_ty 4 k ≠ .double := by decide +kernel
theorem q_lay5 : ∀ w ∈ u_ws RX5 TX5 6, w ∈ q_gw := by
  intro w hw
  have h1 : (u_ws RX5 TX5 6).all (fun w => decide (w ∈ lw_tbl) && goodWord w) = true := by decide +kernel
  have h2 := List.all_eq_true.mp h1 w hw
  simp only [Bool.and_eq_true, decide_eq_true_eq] at h2
  exact q_in h2.1 h2.2
theorem q_nf5 : ∀ k, k < 6 → q_ty 5 k ≠ .float ∧ q_ty 5 k ≠ .double := by decide +kernel
theorem q_lay6 : ∀ w ∈ u_ws RX6 TX6 9, w ∈ q_gw := by
  intro w hw
  have h1 : (u_ws RX6 TX6 9).all (fun w => decide (w ∈ lw_tbl) && goodWord w) = true := by decide +kernel
  have h2 := List.all_eq_true.mp h1 w hw
  simp only [Bool.and_eq_true, decide_eq_true_eq] at h2
  exact q_in h2.1 h2.2
theorem q_nf6 : ∀ k, k < 9 → q_ty 6 k ≠ .float ∧ q_ty 6 k ≠ .double := by decide +kernel
theorem q_lay7 : ∀ w ∈ u_ws RX7 TX7 2, w ∈ q_gw := by
  intro w hw
  have h1 : (u_ws RX7 TX7 2).all (fun w => decide (w ∈ lw_tbl) && goodWord w) = true := by decide +kernel
  have h2 := List.all_eq_true.mp h1 w hw
  simp only [Bool.and_eq_true, decide_eq_true_eq] at h2
  exact q_in h2.1 h2.2
theorem q_nf7 : ∀ k, k < 2 → q_ty 7 k ≠ .float ∧ q_ty 7 k ≠ .double := by decide +kernel
theorem q_lay8 : ∀ w ∈ u_ws RX8 TX8 7, w ∈ q_gw := by
  intro w hw
  have h1 : (u_ws RX8 TX8 7).all (fun w => decide (w ∈ lw_tbl) && goodWord w) = true := by decide +kernel
  have h2 := List.all_eq_true.mp h1 w hw
  simp only [Bool.and_eq_true, decide_eq_true_eq] at h2
  exact q_in h2.1 h2.2
theorem q_nf8 : ∀ k, k < 7 → q_ty 8 k ≠ .float ∧ q_ty 8 k ≠ .double := by decide +kernel
theorem q_lay9 : ∀ w ∈ u_ws RX9 TX9 6, w ∈ q_gw := by
  intro w hw
  have h1 : (u_ws RX9 TX9 6).all (fun w => decide (w ∈ lw_tbl) && goodWord w) = true := by decide +kernel
  have h2 := List.all_eq_true.mp h1 w hw
  simp only [Bool.and_eq_true, decide_eq_true_eq] at h2
  exact q_in h2.1 h2.2
theorem q_nf9 : ∀ k, k < 6 → q_ty 9 k ≠ .float ∧ q_ty 9 k ≠ .double := by decide +kernel
theorem q_lay10 : ∀ w ∈ u_ws RX10 TX10 13, w ∈ q_gw := by
  intro w hw
  have h1 : (u_ws RX10 TX10 13).all (fun w => decide (w ∈ lw_tbl) && goodWord w) = true := by decide +kernel
  have h2 := List.all_eq_true.mp h1 w hw
  simp only [Bool.and_eq_true, decide_eq_true_eq] at h2
  exact q_in h2.1 h2.2
theorem q_nf10 : ∀ k, k < 13 → q_ty 10 k ≠ .float ∧ q_ty 10 k ≠ .double := by decide +kernel
theorem q_lay11 : ∀ w ∈ u_ws RX11 TX11 58, w ∈ q_gw := by
  intro w hw
  have h1 : (u_ws RX11 TX11 58).all (fun w => decide (w ∈ lw_tbl) && goodWord w) = true := by decide +kernel
  have h2 := List.all_eq_true.mp h1 w hw
  simp only [Bool.and_eq_true, decide_eq_true_eq] at h2
  exact q_in h2.1 h2.2
theorem q_nf11 : ∀ k, k < 58 → q_ty 11 k ≠ .float ∧ q_ty 11 k ≠ .double := by decide +kernel
def q_ok (c : Nat) (q : vw_C) : Prop := (∀ k, k < q.2.2 → parseFieldDescriptor (q.2.1 k).2.2.1 = some (q_ty c k)) ∧ (∀ a, a < q.2.2 → ∀ b, b < q.2.2 → a ≠ b → (q.2.1 a).2.1 ≠ (q.2.1 b).2.1) ∧ (∀ w ∈ u_ws q.1 q.2.1 q.2.2, w ∈ q_gw) ∧ ∀ k, k < q.2.2 → q_ty c k ≠ .float ∧ q_ty c k ≠ .double
theorem q_cl_ok : ∀ (c : Nat) (q : vw_C), q_cl[c]? = some q → q_ok c q := by
  intro c q hq
  match c, hq with
  | 0, hq => cases hq; exact ⟨tyX0_ok, nmX0, q_lay0, q_nf0⟩
  | 1, hq => cases hq; exact ⟨tyX1_ok, nmX1, q_lay1, q_nf1⟩
  | 2, hq => cases hq; exact ⟨tyX2_ok, nmX2, q_lay2, q_nf2⟩
  | 3, hq => cases hq; exact ⟨tyX3_ok, nmX3, q_lay3, q_nf3⟩
  | 4, hq => cases hq; exact ⟨tyX4_ok, nmX4, q_lay4, q_nf4⟩
  | 5, hq => cases hq; exact ⟨tyX5_ok, nmX5, q_lay5, q_nf5⟩
  | 6, hq => cases hq; exact ⟨tyX6_ok, nmX6, q_lay6, q_nf6⟩
  | 7, hq => cases hq; exact ⟨tyX7_ok, nmX7, q_lay7, q_nf7⟩
  | 8, hq => cases hq; exact ⟨tyX8_ok, nmX8, q_lay8, q_nf8⟩
  | 9, hq => cases hq; exact ⟨tyX9_ok, nmX9, q_lay9, q_nf9⟩
  | 10, hq => cases hq; exact ⟨tyX10_ok, nmX10, q_lay10, q_nf10⟩
  | 11, hq => cases hq; exact ⟨tyX11_ok, nmX11, q_lay11, q_nf11⟩
  | k + 12, hq => simp [q_cl] at hq
theorem q_cl_pk : ∀ (c : Nat) (q : vw_C), q_cl[c]? = some q → q_pk c = none := by
  intro c q hq
  match c, hq with
  | 0, hq => rfl
  | 1, hq => rfl
  | 2, hq => rfl
  | 3, hq => rfl
  | 4, hq => rfl
  | 5, hq => rfl
  | 6, hq => rfl
  | 7, hq => rfl
  | 8, hq => rfl
  | 9, hq => rfl
  | 10, hq => rfl
  | 11, hq => rfl
  | k + 12, hq => simp [q_cl] at hq
end
section
def q_isR (ty : FieldType) : Bool := match ty with
  | .object _ => true
  | .array _ => true
  | _ => false
def q_sT (c k : Nat) : FieldType := match q_pk c with
  | some x => x.1
  | none => q_ty c k
def q_rf (ad : Nat → Nat → Nat) (r : Option (Nat × Nat)) : Value := match r with
  | none => .null
  | some q => .ref (ad q.1 q.2)
def q_tv (ty : FieldType) (x : Int32) (v : Value) : Value := match ty with
  | .object _ => v
  | .array _ => v
  | .long => .long x.toInt64
  | _ => .int x
def q_sv (ad : Nat → Nat → Nat) (h : q_H) (c i k : Nat) : Value := q_tv (q_sT c k) (h.1 c i k) (q_rf ad (h.2.1 c i k))
def q_ce (g : q_G) (ad : Nat → Nat → Nat) (h : q_H) (H : Heap) (c i : Nat) : Prop :=
  (∀ x, q_pk c = some x → H[ad c i]? = some (arrV (g.2.2.1 x.1) x.2 (q_sv ad h c i))) ∧ (q_pk c = none → ∃ q, q_cl[c]? = some q ∧ t_OB (ad c i) (g.2.1.1 c) q.2.2 (g.2.1.2 c) H (q_sv ad h c i))
def q_P (g : q_G) (ad : Nat → Nat → Nat) (h : q_H) (H : Heap) : Prop :=
  (∀ c i, i < h.2.2 c → q_ce g ad h H c i) ∧ (∀ c i d j, i < h.2.2 c → j < h.2.2 d → ad c i = ad d j → c = d ∧ i = j) ∧ (∀ c i, i < h.2.2 c → g.2.2.2.1 ≤ ad c i) ∧ ∀ c i k q, i < h.2.2 c → h.2.1 c i k = some q → q.2 < h.2.2 q.1
def q_A (g : q_G) : Nat → Prop := fun q => g.2.2.2.1 ≤ q
def q_X (g : q_G) : Prop := (∀ s U : State, g.2.2.2.2 s → s.WarmedH U.vm → s.heap.size ≤ U.heap.size → (∀ q : Nat, q < s.heap.size → q < g.2.2.2.1 → U.heap[q]? = s.heap[q]?) → g.2.2.2.2 U) ∧ ∀ (U : State) (f : JFrame) (mk : MethodId) (a : Array Value), g.2.2.2.2 U → g.2.2.2.2 (U.calling f mk a)
def q_K (g : q_G) (U : State) : Prop :=
  (∀ (c : Nat) (q : vw_C), q_cl[c]? = some q → u_Kn U q.1 q.2.1 q.2.2 (g.2.1.1 c) (g.2.1.2 c)) ∧ (∀ c x, q_pk c = some x → ArrOfT U (g.2.2.1 x.1) x.1 ∧ va_RA U (g.2.2.1 x.1) x.1) ∧ (∀ w ∈ q_nw, va_Nw w U) ∧ (∀ C ∈ q_ov, va_AO C U) ∧ g.2.2.2.2 U ∧ q_X g
theorem q_nw_warm {w : Cond} {s U : State} (hw : w ∈ q_nw) (hW : s.WarmedH U.vm) (h : va_Nw w s) : va_Nw w U := by
  have h1 := (List.mem_filter.mp hw).2
  cases w <;> first | exact va_Nw.warmF hW h | exact va_Nw.warmM hW h | (simp [q_isN] at h1)
theorem q_nw_tab {w : Cond} (hw : w ∈ q_nw) : w.onTables = true := by
  have h1 := (List.mem_filter.mp hw).2
  cases w <;> first | rfl | (simp [q_isN] at h1)
theorem q_K.call {g : q_G} {s U : State} {H : Heap} {locs : List Loc} (h : q_K g s) (hW : s.WarmedH U.vm) (hS : va_S (q_A g) s.heap H locs) (hU : U.heap = H) : q_K g U := by
  obtain ⟨h1, h2, h3, h4, h5, h6⟩ := h
  refine ⟨fun c q hq => u_Kn_moved hW.alike (h1 c q hq), fun c x hx => ⟨arrOfT_moved hW.alike (h2 c x hx).1, va_RA.moved hW.alike (h2 c x hx).2⟩, fun w hw => q_nw_warm hw hW (h3 w hw), fun C hC => va_AO.moved hW.alike (h4 C hC), ?_, h6⟩
  refine h6.1 s U h5 hW (by rw [hU]; exact hS.1) (fun q hq hb => ?_)
  rw [hU]
  exact hS.2.1 q hq (fun z => Nat.not_le.mpr hb z)
theorem q_K.blind {g : q_G} {U : State} {f : JFrame} {mk : MethodId} {a : Array Value} (h : q_K g U) : q_K g (U.calling f mk a) := by
  obtain ⟨h1, h2, h3, h4, h5, h6⟩ := h
  exact ⟨fun c q hq => u_Kn_moved (U := U.calling f mk a) (Vm.Alike.refl U.vm) (h1 c q hq), fun c x hx => ⟨arrOfT_moved (E := U.calling f mk a) (Vm.Alike.refl U.vm) (h2 c x hx).1, va_RA.moved (U := U.calling f mk a) (Vm.Alike.refl U.vm) (h2 c x hx).2⟩, fun w hw => va_Nw.same (u := U) (U := U.calling f mk a) (q_nw_tab hw) rfl (h3 w hw), fun C hC => va_AO.moved (U := U.calling f mk a) (Vm.Alike.refl U.vm) (h4 C hC), h6.2 U f mk a h5, h6⟩
def q_c (ad : Nat → Nat → Nat) (v : q_V) : Value := match v with
  | .inl x => x
  | .inr q => .ref (ad q.1 q.2)
def q_vk (h : q_H) (v : q_V) : Prop := match v with
  | .inl _ => True
  | .inr q => q.2 < h.2.2 q.1
def q_sc (v : q_V) : Nat := match v with
  | .inl x => x.category
  | .inr _ => 1
theorem q_c_cat (ad : Nat → Nat → Nat) (v : q_V) : (q_c ad v).category = q_sc v := by
  cases v <;> rfl
def q_L (ad : Nat → Nat → Nat) (h : q_H) (n : Nat) (ls : List (Option q_V)) (L : Array Slot) : Prop :=
  L.size = n ∧ lv_wf L ∧ ls.length = n ∧ ∀ (i : Nat) (v : q_V), ls[i]? = some (some v) → L[i]? = some (Slot.val (q_c ad v)) ∧ q_vk h v ∧ q_sc v = 1
def q_D (g : q_G) (ad0 : Nat → Nat → Nat) (n0 : Nat → Nat) (s : State) (ad : Nat → Nat → Nat) (h : q_H) (H : Heap) (locs : List Loc) : Prop :=
  q_P g ad h H ∧ va_S (q_A g) s.heap H locs ∧ ∀ c, n0 c ≤ h.2.2 c ∧ ∀ i, i < n0 c → ad c i = ad0 c i
def q_Cx (g : q_G) (y : q_M) (p : Program) (s : State) (m : MethodId) (args : Array Value) (meth : Method) (c : Code) : Prop :=
  p.tables.exec = Jvm.exec ∧ c.code = y.2.1 ∧ c.maxLocals = y.2.2.1 ∧ s.vm.findClass y.1.cls = some m.cls ∧ (∀ w ∈ q_gw, w.before args s = true) ∧ meth.sig.returnType = y.2.2.2 ∧ meth.locks = false ∧ meth.name = y.1.name ∧ q_K g s ∧ g.2.2.2.1 ≤ s.heap.size
def q_rt (y : q_M) (pc : Nat) (v : List q_V) : Prop :=
  (∃ x ty, v = [q_I x] ∧ y.2.2.2 = some ty ∧ narrow ty (.int x) = .int x ∧ decode y.2.1 pc = .ok (.ireturn, 1)) ∨ (v = [] ∧ y.2.2.2 = none ∧ decode y.2.1 pc = .ok (.return_, 1)) ∨ ∃ r C, v = [r] ∧ y.2.2.2 = some (.object C) ∧ (r = q_N ∨ ∃ q, r = .inr q) ∧ decode y.2.1 pc = .ok (.areturn, 1)
def q_F (g : q_G) (y : q_M) (R : Room) (K : List q_V → q_H → Prop) (p : Program) (e : Env) (s : State) (m : MethodId) (args : Array Value) (below : List Frame) (meth : Method) (c : Code) (Q : State → Prop) (ad0 : Nat → Nat → Nat) (n0 : Nat → Nat) : Prop :=
  ∀ (pc : Nat) (L : Array Slot) (v : List q_V) (h : q_H) (ad : Nat → Nat → Nat) (H : Heap) (locs : List Loc), K v h → q_D g ad0 n0 s ad h H locs → (∀ x ∈ v, q_vk h x) → q_rt y pc v → W p g.1 e R s m args below meth c H locs R.cells R.slots Q (F0 m pc L (v.map (q_c ad)))
def q_E (g : q_G) (y : q_M) (R : Room) (K : List q_V → q_H → Prop) (u : Nat × Nat) (pc : Nat) (ls : List (Option q_V)) (st : List q_V) (h : q_H) : Prop :=
  ∀ (p : Program) (e : Env) (s : State) (m : MethodId) (args : Array Value) (below : List Frame) (meth : Method) (c : Code) (Q : State → Prop) (ad0 : Nat → Nat → Nat) (n0 : Nat → Nat) (ad : Nat → Nat → Nat) (H : Heap) (locs : List Loc) (L : Array Slot),
    q_Cx g y p s m args meth c → q_F g y R K p e s m args below meth c Q ad0 n0 → q_D g ad0 n0 s ad h H locs → q_L ad h y.2.2.1 ls L → (∀ v ∈ st, q_vk h v) → u.1 ≤ R.cells → u.2 ≤ R.slots → W p g.1 e R s m args below meth c H locs u.1 u.2 Q (F0 m pc L (st.map (q_c ad)))
theorem q_tl {P : q_V → Prop} {a : q_V} {st : List q_V} (h : ∀ v ∈ a :: st, P v) : ∀ v ∈ st, P v := fun v hv => h v (List.mem_cons_of_mem _ hv)
theorem q_hd {P : q_V → Prop} {a : q_V} {st : List q_V} (h : ∀ v ∈ a :: st, P v) : P a := h a List.mem_cons_self
theorem q_cs {P : q_V → Prop} {a : q_V} {st : List q_V} (h1 : P a) (h : ∀ v ∈ st, P v) : ∀ v ∈ a :: st, P v := fun v hv => (List.mem_cons.mp hv).elim (fun e => e ▸ h1) (h v)
def q_ll (ad : Nat → Nat → Nat) (ls : List (Option q_V)) : List (Nat × Value) := (List.range ls.length).filterMap (fun i => (ls[i]?.join).map (fun v => (i, q_c ad v)))
theorem q_ll_mem {ad : Nat → Nat → Nat} {ls : List (Option q_V)} {i : Nat} {x : Value} : (i, x) ∈ q_ll ad ls ↔ ∃ v, ls[i]? = some (some v) ∧ q_c ad v = x := by
  unfold q_ll
  rw [List.mem_filterMap]
  constructor
  · rintro ⟨j, -, h⟩
    cases hj : ls[j]? with
    | none => simp [hj] at h
    | some o =>
      cases o with
      | none => simp [hj] at h
      | some v =>
        simp [hj] at h
        obtain ⟨rfl, h2⟩ := h
        exact ⟨v, hj, h2⟩
  · rintro ⟨v, h1, h2⟩
    refine ⟨i, List.mem_range.mpr (List.getElem?_eq_some_iff.mp h1).1, ?_⟩
    simp [h1, h2]
theorem q_L.has {ad : Nat → Nat → Nat} {h : q_H} {n : Nat} {ls : List (Option q_V)} {L : Array Slot} (hL : q_L ad h n ls L) : lv_has L n (q_ll ad ls) := by
  refine ⟨hL.1, hL.2.1, fun q hq => ?_⟩
  obtain ⟨v, h1, h2⟩ := q_ll_mem.mp hq
  rw [← h2]
  exact (hL.2.2.2 _ v h1).1
theorem q_L.set {ad : Nat → Nat → Nat} {h : q_H} {n i : Nat} {ls : List (Option q_V)} {L L' : Array Slot} {v : q_V} (hL : q_L ad h n ls L) (hv : q_vk h v) (hc : q_sc v = 1) (hL' : lv_has L' n ((i, q_c ad v) :: (q_ll ad ls).filter (fun q => !(q.1 == i) && !(q.1 + 1 == i && q.2.category == 2)))) : q_L ad h n (ls.set i (some v)) L' := by
  refine ⟨hL'.1, hL'.2.1, by rw [List.length_set]; exact hL.2.2.1, fun j w hj => ?_⟩
  by_cases hji : j = i
  · subst hji
    have hlt : j < ls.length := by
      have := (List.getElem?_eq_some_iff.mp hj).1
      rwa [List.length_set] at this
    rw [List.getElem?_set_self hlt] at hj
    cases hj
    exact ⟨hL'.2.2 (j, q_c ad v) List.mem_cons_self, hv, hc⟩
  · rw [List.getElem?_set_ne (Ne.symm hji)] at hj
    obtain ⟨h1, h2, h3⟩ := hL.2.2.2 j w hj
    refine ⟨hL'.2.2 (j, q_c ad w) (List.mem_cons_of_mem _ (List.mem_filter.mpr ⟨q_ll_mem.mpr ⟨w, hj, rfl⟩, ?_⟩)), h2, h3⟩
    simp [hji, q_c_cat, h3]
end
section
def q_rv (v : q_V) : Prop := v = q_N ∨ (∃ a, v = .inl (.ref a)) ∨ ∃ q, v = .inr q
theorem q_rvO {q : Nat × Nat} : q_rv (.inr q) := Or.inr (Or.inr ⟨q, rfl⟩)
theorem q_rvN : q_rv q_N := Or.inl rfl
theorem q_rvA {a : Nat} : q_rv (.inl (.ref a)) := Or.inr (Or.inl ⟨a, rfl⟩)
theorem xe_iadd {g : q_G} {y : q_M} {R : Room} {K : List q_V → q_H → Prop} {u : Nat × Nat} {pc : Nat} {ls : List (Option q_V)} {st : List q_V} {h : q_H} {x z : Int32} (hd : decode y.2.1 pc = .ok (.iadd, 1)) (k : q_E g y R K u (pc + 1) ls (q_I (x + z) :: st) h) : q_E g y R K u pc ls (q_I z :: q_I x :: st) h := by
  intro p e s m args below meth c Q ad0 n0 ad H locs L C F D hL hv h1 h2
  exact lv_iadd C.1 C.2.1 hd (k p e s m args below meth c Q ad0 n0 ad H locs L C F D hL (q_cs trivial (q_tl (q_tl hv))) h1 h2)
theorem xe_isub {g : q_G} {y : q_M} {R : Room} {K : List q_V → q_H → Prop} {u : Nat × Nat} {pc : Nat} {ls : List (Option q_V)} {st : List q_V} {h : q_H} {x z : Int32} (hd : decode y.2.1 pc = .ok (.isub, 1)) (k : q_E g y R K u (pc + 1) ls (q_I (x - z) :: st) h) : q_E g y R K u pc ls (q_I z :: q_I x :: st) h := by
  intro p e s m args below meth c Q ad0 n0 ad H locs L C F D hL hv h1 h2
  exact lv_isub C.1 C.2.1 hd (k p e s m args below meth c Q ad0 n0 ad H locs L C F D hL (q_cs trivial (q_tl (q_tl hv))) h1 h2)
theorem xe_imul {g : q_G} {y : q_M} {R : Room} {K : List q_V → q_H → Prop} {u : Nat × Nat} {pc : Nat} {ls : List (Option q_V)} {st : List q_V} {h : q_H} {x z : Int32} (hd : decode y.2.1 pc = .ok (.imul, 1)) (k : q_E g y R K u (pc + 1) ls (q_I (x * z) :: st) h) : q_E g y R K u pc ls (q_I z :: q_I x :: st) h := by
  intro p e s m args below meth c Q ad0 n0 ad H locs L C F D hL hv h1 h2
  exact lv_imul C.1 C.2.1 hd (k p e s m args below meth c Q ad0 n0 ad H locs L C F D hL (q_cs trivial (q_tl (q_tl hv))) h1 h2)
theorem xe_iand {g : q_G} {y : q_M} {R : Room} {K : List q_V → q_H → Prop} {u : Nat × Nat} {pc : Nat} {ls : List (Option q_V)} {st : List q_V} {h : q_H} {x z : Int32} (hd : decode y.2.1 pc = .ok (.iand, 1)) (k : q_E g y R K u (pc + 1) ls (q_I (x &&& z) :: st) h) : q_E g y R K u pc ls (q_I z :: q_I x :: st) h := by
  intro p e s m args below meth c Q ad0 n0 ad H locs L C F D hL hv h1 h2
  exact lv_iand C.1 C.2.1 hd (k p e s m args below meth c Q ad0 n0 ad H locs L C F D hL (q_cs trivial (q_tl (q_tl hv))) h1 h2)
theorem xe_ior {g : q_G} {y : q_M} {R : Room} {K : List q_V → q_H → Prop} {u : Nat × Nat} {pc : Nat} {ls : List (Option q_V)} {st : List q_V} {h : q_H} {x z : Int32} (hd : decode y.2.1 pc = .ok (.ior, 1)) (k : q_E g y R K u (pc + 1) ls (q_I (x ||| z) :: st) h) : q_E g y R K u pc ls (q_I z :: q_I x :: st) h := by
  intro p e s m args below meth c Q ad0 n0 ad H locs L C F D hL hv h1 h2
  exact lv_ior C.1 C.2.1 hd (k p e s m args below meth c Q ad0 n0 ad H locs L C F D hL (q_cs trivial (q_tl (q_tl hv))) h1 h2)
theorem xe_ishl {g : q_G} {y : q_M} {R : Room} {K : List q_V → q_H → Prop} {u : Nat × Nat} {pc : Nat} {ls : List (Option q_V)} {st : List q_V} {h : q_H} {x z : Int32} (hd : decode y.2.1 pc = .ok (.ishl, 1)) (k : q_E g y R K u (pc + 1) ls (q_I (x <<< (z &&& 31)) :: st) h) : q_E g y R K u pc ls (q_I z :: q_I x :: st) h := by
  intro p e s m args below meth c Q ad0 n0 ad H locs L C F D hL hv h1 h2
  exact lv_ishl C.1 C.2.1 hd (k p e s m args below meth c Q ad0 n0 ad H locs L C F D hL (q_cs trivial (q_tl (q_tl hv))) h1 h2)
theorem xe_ishr {g : q_G} {y : q_M} {R : Room} {K : List q_V → q_H → Prop} {u : Nat × Nat} {pc : Nat} {ls : List (Option q_V)} {st : List q_V} {h : q_H} {x z : Int32} (hd : decode y.2.1 pc = .ok (.ishr, 1)) (k : q_E g y R K u (pc + 1) ls (q_I (x >>> (z &&& 31)) :: st) h) : q_E g y R K u pc ls (q_I z :: q_I x :: st) h := by
  intro p e s m args below meth c Q ad0 n0 ad H locs L C F D hL hv h1 h2
  exact lv_ishr C.1 C.2.1 hd (k p e s m args below meth c Q ad0 n0 ad H locs L C F D hL (q_cs trivial (q_tl (q_tl hv))) h1 h2)
theorem xe_iushr {g : q_G} {y : q_M} {R : Room} {K : List q_V → q_H → Prop} {u : Nat × Nat} {pc : Nat} {ls : List (Option q_V)} {st : List q_V} {h : q_H} {x z : Int32} (hd : decode y.2.1 pc = .ok (.iushr, 1)) (k : q_E g y R K u (pc + 1) ls (q_I ((x.toUInt32 >>> (z.toUInt32 &&& Int32.toUInt32 31)).toInt32) :: st) h) : q_E g y R K u pc ls (q_I z :: q_I x :: st) h := by
  intro p e s m args below meth c Q ad0 n0 ad H locs L C F D hL hv h1 h2
  exact lv_iushr C.1 C.2.1 hd rfl (k p e s m args below meth c Q ad0 n0 ad H locs L C F D hL (q_cs trivial (q_tl (q_tl hv))) h1 h2)
theorem xe_idiv {g : q_G} {y : q_M} {R : Room} {K : List q_V → q_H → Prop} {u : Nat × Nat} {pc : Nat} {ls : List (Option q_V)} {st : List q_V} {h : q_H} {x z : Int32} (hd : decode y.2.1 pc = .ok (.idiv, 1)) (hz : ¬ z = 0) (k : q_E g y R K u (pc + 1) ls (q_I (x / z) :: st) h) : q_E g y R K u pc ls (q_I z :: q_I x :: st) h := by
  intro p e s m args below meth c Q ad0 n0 ad H locs L C F D hL hv h1 h2
  exact lv_idiv C.1 C.2.1 hd hz (k p e s m args below meth c Q ad0 n0 ad H locs L C F D hL (q_cs trivial (q_tl (q_tl hv))) h1 h2)
theorem xe_irem {g : q_G} {y : q_M} {R : Room} {K : List q_V → q_H → Prop} {u : Nat × Nat} {pc : Nat} {ls : List (Option q_V)} {st : List q_V} {h : q_H} {x z : Int32} (hd : decode y.2.1 pc = .ok (.irem, 1)) (hz : ¬ z = 0) (k : q_E g y R K u (pc + 1) ls (q_I (x - x / z * z) :: st) h) : q_E g y R K u pc ls (q_I z :: q_I x :: st) h := by
  intro p e s m args below meth c Q ad0 n0 ad H locs L C F D hL hv h1 h2
  exact lv_irem C.1 C.2.1 hd hz (k p e s m args below meth c Q ad0 n0 ad H locs L C F D hL (q_cs trivial (q_tl (q_tl hv))) h1 h2)
theorem xe_ineg {g : q_G} {y : q_M} {R : Room} {K : List q_V → q_H → Prop} {u : Nat × Nat} {pc : Nat} {ls : List (Option q_V)} {st : List q_V} {h : q_H} {x : Int32} (hd : decode y.2.1 pc = .ok (.ineg, 1)) (k : q_E g y R K u (pc + 1) ls (q_I (-x) :: st) h) : q_E g y R K u pc ls (q_I x :: st) h := by
  intro p e s m args below meth c Q ad0 n0 ad H locs L C F D hL hv h1 h2
  exact lv_ineg C.1 C.2.1 hd (k p e s m args below meth c Q ad0 n0 ad H locs L C F D hL (q_cs trivial (q_tl hv)) h1 h2)
theorem xe_i2b {g : q_G} {y : q_M} {R : Room} {K : List q_V → q_H → Prop} {u : Nat × Nat} {pc : Nat} {ls : List (Option q_V)} {st : List q_V} {h : q_H} {x : Int32} (hd : decode y.2.1 pc = .ok (.i2b, 1)) (k : q_E g y R K u (pc + 1) ls (q_I x.toInt8.toInt32 :: st) h) : q_E g y R K u pc ls (q_I x :: st) h := by
  intro p e s m args below meth c Q ad0 n0 ad H locs L C F D hL hv h1 h2
  exact lv_i2b C.1 C.2.1 hd rfl (k p e s m args below meth c Q ad0 n0 ad H locs L C F D hL (q_cs trivial (q_tl hv)) h1 h2)
theorem xe_i2l {g : q_G} {y : q_M} {R : Room} {K : List q_V → q_H → Prop} {u : Nat × Nat} {pc : Nat} {ls : List (Option q_V)} {st : List q_V} {h : q_H} {x : Int32} (hd : decode y.2.1 pc = .ok (.i2l, 1)) (k : q_E g y R K u (pc + 1) ls (q_J x.toInt64 :: st) h) : q_E g y R K u pc ls (q_I x :: st) h := by
  intro p e s m args below meth c Q ad0 n0 ad H locs L C F D hL hv h1 h2
  exact lv_i2l C.1 C.2.1 hd rfl (k p e s m args below meth c Q ad0 n0 ad H locs L C F D hL (q_cs trivial (q_tl hv)) h1 h2)
theorem xe_iconst {g : q_G} {y : q_M} {R : Room} {K : List q_V → q_H → Prop} {u : Nat × Nat} {pc : Nat} {ls : List (Option q_V)} {st : List q_V} {h : q_H} {n : Int} (v : Int32) (hd : decode y.2.1 pc = .ok (.iconst n, 1)) (he : Int32.ofInt n = v) (k : q_E g y R K u (pc + 1) ls (q_I v :: st) h) : q_E g y R K u pc ls st h := by
  intro p e s m args below meth c Q ad0 n0 ad H locs L C F D hL hv h1 h2
  exact lv_iconst C.1 C.2.1 hd he (k p e s m args below meth c Q ad0 n0 ad H locs L C F D hL (q_cs trivial hv) h1 h2)
theorem xe_bipush {g : q_G} {y : q_M} {R : Room} {K : List q_V → q_H → Prop} {u : Nat × Nat} {pc : Nat} {ls : List (Option q_V)} {st : List q_V} {h : q_H} {n : Int} (v : Int32) (hd : decode y.2.1 pc = .ok (.bipush n, 2)) (he : (Int8.ofInt n).toInt32 = v) (k : q_E g y R K u (pc + 2) ls (q_I v :: st) h) : q_E g y R K u pc ls st h := by
  intro p e s m args below meth c Q ad0 n0 ad H locs L C F D hL hv h1 h2
  exact lv_bipush C.1 C.2.1 hd he (k p e s m args below meth c Q ad0 n0 ad H locs L C F D hL (q_cs trivial hv) h1 h2)
theorem xe_sipush {g : q_G} {y : q_M} {R : Room} {K : List q_V → q_H → Prop} {u : Nat × Nat} {pc : Nat} {ls : List (Option q_V)} {st : List q_V} {h : q_H} {n : Int} (v : Int32) (hd : decode y.2.1 pc = .ok (.sipush n, 3)) (he : (Int16.ofInt n).toInt32 = v) (k : q_E g y R K u (pc + 3) ls (q_I v :: st) h) : q_E g y R K u pc ls st h := by
  intro p e s m args below meth c Q ad0 n0 ad H locs L C F D hL hv h1 h2
  exact lv_sipush C.1 C.2.1 hd he (k p e s m args below meth c Q ad0 n0 ad H locs L C F D hL (q_cs trivial hv) h1 h2)
theorem xe_null {g : q_G} {y : q_M} {R : Room} {K : List q_V → q_H → Prop} {u : Nat × Nat} {pc : Nat} {ls : List (Option q_V)} {st : List q_V} {h : q_H} (hd : decode y.2.1 pc = .ok (.aconst_null, 1)) (k : q_E g y R K u (pc + 1) ls (q_N :: st) h) : q_E g y R K u pc ls st h := by
  intro p e s m args below meth c Q ad0 n0 ad H locs L C F D hL hv h1 h2
  exact lv_null C.1 C.2.1 hd (k p e s m args below meth c Q ad0 n0 ad H locs L C F D hL (q_cs trivial hv) h1 h2)
theorem xe_iload_n {g : q_G} {y : q_M} {R : Room} {K : List q_V → q_H → Prop} {u : Nat × Nat} {pc : Nat} {ls : List (Option q_V)} {st : List q_V} {h : q_H} {k0 : Fin 4} {x : Int32} (hd : decode y.2.1 pc = .ok (.iload_n k0, 1)) (hl : ls[(k0 : Nat)]? = some (some (q_I x))) (k : q_E g y R K u (pc + 1) ls (q_I x :: st) h) : q_E g y R K u pc ls st h := by
  intro p e s m args below meth c Q ad0 n0 ad H locs L C F D hL hv h1 h2
  exact lv_iload_n C.1 C.2.1 hd rfl (hL.2.2.2 _ _ hl).1 (k p e s m args below meth c Q ad0 n0 ad H locs L C F D hL (q_cs trivial hv) h1 h2)
theorem xe_iload {g : q_G} {y : q_M} {R : Room} {K : List q_V → q_H → Prop} {u : Nat × Nat} {pc : Nat} {ls : List (Option q_V)} {st : List q_V} {h : q_H} {i : Nat} {x : Int32} (hd : decode y.2.1 pc = .ok (.iload i, 2)) (hl : ls[i]? = some (some (q_I x))) (k : q_E g y R K u (pc + 2) ls (q_I x :: st) h) : q_E g y R K u pc ls st h := by
  intro p e s m args below meth c Q ad0 n0 ad H locs L C F D hL hv h1 h2
  exact lv_iload C.1 C.2.1 hd (hL.2.2.2 _ _ hl).1 (k p e s m args below meth c Q ad0 n0 ad H locs L C F D hL (q_cs trivial hv) h1 h2)
theorem xe_aload_n {g : q_G} {y : q_M} {R : Room} {K : List q_V → q_H → Prop} {u : Nat × Nat} {pc : Nat} {ls : List (Option q_V)} {st : List q_V} {h : q_H} {k0 : Fin 4} {v : q_V} (hd : decode y.2.1 pc = .ok (.aload_n k0, 1)) (hl : ls[(k0 : Nat)]? = some (some v)) (hr : q_rv v) (k : q_E g y R K u (pc + 1) ls (v :: st) h) : q_E g y R K u pc ls st h := by
  intro p e s m args below meth c Q ad0 n0 ad H locs L C F D hL hv h1 h2
  have hq := hL.2.2.2 _ _ hl
  have k2 := (k p e s m args below meth c Q ad0 n0 ad H locs L C F D hL (q_cs hq.2.1 hv) h1 h2)
  rcases hr with rfl | ⟨a, rfl⟩ | ⟨a, rfl⟩
  · exact lv_aload_nN C.1 C.2.1 hd rfl hq.1 k2
  · exact lv_aload_n C.1 C.2.1 hd rfl hq.1 k2
  · exact lv_aload_n C.1 C.2.1 hd rfl hq.1 k2
theorem xe_aload {g : q_G} {y : q_M} {R : Room} {K : List q_V → q_H → Prop} {u : Nat × Nat} {pc : Nat} {ls : List (Option q_V)} {st : List q_V} {h : q_H} {i : Nat} {v : q_V} (hd : decode y.2.1 pc = .ok (.aload i, 2)) (hl : ls[i]? = some (some v)) (hr : q_rv v) (k : q_E g y R K u (pc + 2) ls (v :: st) h) : q_E g y R K u pc ls st h := by
  intro p e s m args below meth c Q ad0 n0 ad H locs L C F D hL hv h1 h2
  have hq := hL.2.2.2 _ _ hl
  have k2 := (k p e s m args below meth c Q ad0 n0 ad H locs L C F D hL (q_cs hq.2.1 hv) h1 h2)
  rcases hr with rfl | ⟨a, rfl⟩ | ⟨a, rfl⟩
  · exact lv_aloadN C.1 C.2.1 hd hq.1 k2
  · exact lv_aload C.1 C.2.1 hd hq.1 k2
  · exact lv_aload C.1 C.2.1 hd hq.1 k2
theorem xe_istore_n {g : q_G} {y : q_M} {R : Room} {K : List q_V → q_H → Prop} {u : Nat × Nat} {pc : Nat} {ls : List (Option q_V)} {st : List q_V} {h : q_H} {k0 : Fin 4} {x : Int32} (hd : decode y.2.1 pc = .ok (.istore_n k0, 1)) (hi : (k0 : Nat) < y.2.2.1) (k : q_E g y R K u (pc + 1) (ls.set (k0 : Nat) (some (q_I x))) st h) : q_E g y R K u pc ls (q_I x :: st) h := by
  intro p e s m args below meth c Q ad0 n0 ad H locs L C F D hL hv h1 h2
  exact lv_istore_n C.1 C.2.1 hd rfl hL.has hi rfl (fun L2 hL2 => (k p e s m args below meth c Q ad0 n0 ad H locs L2 C F D (hL.set (v := q_I x) trivial rfl hL2) (q_tl hv) h1 h2))
theorem xe_istore {g : q_G} {y : q_M} {R : Room} {K : List q_V → q_H → Prop} {u : Nat × Nat} {pc : Nat} {ls : List (Option q_V)} {st : List q_V} {h : q_H} {i : Nat} {x : Int32} (hd : decode y.2.1 pc = .ok (.istore i, 2)) (hi : i < y.2.2.1) (k : q_E g y R K u (pc + 2) (ls.set i (some (q_I x))) st h) : q_E g y R K u pc ls (q_I x :: st) h := by
  intro p e s m args below meth c Q ad0 n0 ad H locs L C F D hL hv h1 h2
  exact lv_istore C.1 C.2.1 hd hL.has hi rfl (fun L2 hL2 => (k p e s m args below meth c Q ad0 n0 ad H locs L2 C F D (hL.set (v := q_I x) trivial rfl hL2) (q_tl hv) h1 h2))
theorem xe_astore_n {g : q_G} {y : q_M} {R : Room} {K : List q_V → q_H → Prop} {u : Nat × Nat} {pc : Nat} {ls : List (Option q_V)} {st : List q_V} {h : q_H} {k0 : Fin 4} {v : q_V} (hd : decode y.2.1 pc = .ok (.astore_n k0, 1)) (hi : (k0 : Nat) < y.2.2.1) (hr : q_rv v) (k : q_E g y R K u (pc + 1) (ls.set (k0 : Nat) (some v)) st h) : q_E g y R K u pc ls (v :: st) h := by
  intro p e s m args below meth c Q ad0 n0 ad H locs L C F D hL hv h1 h2
  have hq : q_vk h v := q_hd hv
  rcases hr with rfl | ⟨a, rfl⟩ | ⟨a, rfl⟩
  · exact lv_astore_nN C.1 C.2.1 hd rfl hL.has hi rfl (fun L2 hL2 => (k p e s m args below meth c Q ad0 n0 ad H locs L2 C F D (hL.set hq rfl hL2) (q_tl hv) h1 h2))
  · exact lv_astore_n C.1 C.2.1 hd rfl hL.has hi rfl (fun L2 hL2 => (k p e s m args below meth c Q ad0 n0 ad H locs L2 C F D (hL.set hq rfl hL2) (q_tl hv) h1 h2))
  · exact lv_astore_n C.1 C.2.1 hd rfl hL.has hi rfl (fun L2 hL2 => (k p e s m args below meth c Q ad0 n0 ad H locs L2 C F D (hL.set hq rfl hL2) (q_tl hv) h1 h2))
theorem xe_astore {g : q_G} {y : q_M} {R : Room} {K : List q_V → q_H → Prop} {u : Nat × Nat} {pc : Nat} {ls : List (Option q_V)} {st : List q_V} {h : q_H} {i : Nat} {v : q_V} (hd : decode y.2.1 pc = .ok (.astore i, 2)) (hi : i < y.2.2.1) (hr : q_rv v) (k : q_E g y R K u (pc + 2) (ls.set i (some v)) st h) : q_E g y R K u pc ls (v :: st) h := by
  intro p e s m args below meth c Q ad0 n0 ad H locs L C F D hL hv h1 h2
  have hq : q_vk h v := q_hd hv
  rcases hr with rfl | ⟨a, rfl⟩ | ⟨a, rfl⟩
  · exact lv_astoreN C.1 C.2.1 hd hL.has hi rfl (fun L2 hL2 => (k p e s m args below meth c Q ad0 n0 ad H locs L2 C F D (hL.set hq rfl hL2) (q_tl hv) h1 h2))
  · exact lv_astore C.1 C.2.1 hd hL.has hi rfl (fun L2 hL2 => (k p e s m args below meth c Q ad0 n0 ad H locs L2 C F D (hL.set hq rfl hL2) (q_tl hv) h1 h2))
  · exact lv_astore C.1 C.2.1 hd hL.has hi rfl (fun L2 hL2 => (k p e s m args below meth c Q ad0 n0 ad H locs L2 C F D (hL.set hq rfl hL2) (q_tl hv) h1 h2))
theorem xe_iinc {g : q_G} {y : q_M} {R : Room} {K : List q_V → q_H → Prop} {u : Nat × Nat} {pc : Nat} {ls : List (Option q_V)} {st : List q_V} {h : q_H} {i : Nat} {n : Int} {x : Int32} (v : Int32) (hd : decode y.2.1 pc = .ok (.iinc i n, 3)) (hi : i < y.2.2.1) (hl : ls[i]? = some (some (q_I x))) (he : x + Int32.ofInt n = v) (k : q_E g y R K u (pc + 3) (ls.set i (some (q_I v))) st h) : q_E g y R K u pc ls st h := by
  intro p e s m args below meth c Q ad0 n0 ad H locs L C F D hL hv h1 h2
  obtain ⟨j, hj⟩ := List.getElem?_of_mem (q_ll_mem (ad := ad).mpr ⟨q_I x, hl, rfl⟩)
  exact lv_iinc C.1 C.2.1 hd hL.has hj he hi rfl (fun L2 hL2 => (k p e s m args below meth c Q ad0 n0 ad H locs L2 C F D (hL.set (v := q_I v) trivial rfl hL2) hv h1 h2))
theorem xe_dup {g : q_G} {y : q_M} {R : Room} {K : List q_V → q_H → Prop} {u : Nat × Nat} {pc : Nat} {ls : List (Option q_V)} {st : List q_V} {h : q_H} {v : q_V} (hd : decode y.2.1 pc = .ok (.dup, 1)) (hc : q_sc v = 1) (k : q_E g y R K u (pc + 1) ls (v :: v :: st) h) : q_E g y R K u pc ls (v :: st) h := by
  intro p e s m args below meth c Q ad0 n0 ad H locs L C F D hL hv h1 h2
  exact lv_dup C.1 C.2.1 hd (by rw [q_c_cat]; exact hc) (k p e s m args below meth c Q ad0 n0 ad H locs L C F D hL (q_cs (q_hd hv) hv) h1 h2)
theorem xe_pop {g : q_G} {y : q_M} {R : Room} {K : List q_V → q_H → Prop} {u : Nat × Nat} {pc : Nat} {ls : List (Option q_V)} {st : List q_V} {h : q_H} {v : q_V} (hd : decode y.2.1 pc = .ok (.pop, 1)) (hc : q_sc v = 1) (k : q_E g y R K u (pc + 1) ls st h) : q_E g y R K u pc ls (v :: st) h := by
  intro p e s m args below meth c Q ad0 n0 ad H locs L C F D hL hv h1 h2
  exact lv_pop C.1 C.2.1 hd (by rw [q_c_cat]; exact hc) (k p e s m args below meth c Q ad0 n0 ad H locs L C F D hL (q_tl hv) h1 h2)
theorem xe_dup2 {g : q_G} {y : q_M} {R : Room} {K : List q_V → q_H → Prop} {u : Nat × Nat} {pc : Nat} {ls : List (Option q_V)} {st : List q_V} {h : q_H} {v w : q_V} (hd : decode y.2.1 pc = .ok (.dup2, 1)) (hc : q_sc v = 1) (hc2 : q_sc w = 1) (k : q_E g y R K u (pc + 1) ls (v :: w :: v :: w :: st) h) : q_E g y R K u pc ls (v :: w :: st) h := by
  intro p e s m args below meth c Q ad0 n0 ad H locs L C F D hL hv h1 h2
  exact lv_dup2_11 C.1 C.2.1 hd (by rw [q_c_cat]; exact hc) (by rw [q_c_cat]; exact hc2) (k p e s m args below meth c Q ad0 n0 ad H locs L C F D hL (q_cs (q_hd hv) (q_cs (q_hd (q_tl hv)) hv)) h1 h2)
theorem xe_dup_x1 {g : q_G} {y : q_M} {R : Room} {K : List q_V → q_H → Prop} {u : Nat × Nat} {pc : Nat} {ls : List (Option q_V)} {st : List q_V} {h : q_H} {v w : q_V} (hd : decode y.2.1 pc = .ok (.dup_x1, 1)) (hc : q_sc v = 1) (hc2 : q_sc w = 1) (k : q_E g y R K u (pc + 1) ls (v :: w :: v :: st) h) : q_E g y R K u pc ls (v :: w :: st) h := by
  intro p e s m args below meth c Q ad0 n0 ad H locs L C F D hL hv h1 h2
  exact lv_dup_x1 C.1 C.2.1 hd (by rw [q_c_cat]; exact hc) (by rw [q_c_cat]; exact hc2) (k p e s m args below meth c Q ad0 n0 ad H locs L C F D hL (q_cs (q_hd hv) (q_cs (q_hd (q_tl hv)) (q_cs (q_hd hv) (q_tl (q_tl hv))))) h1 h2)
theorem xe_goto {g : q_G} {y : q_M} {R : Room} {K : List q_V → q_H → Prop} {u : Nat × Nat} {pc : Nat} {ls : List (Option q_V)} {st : List q_V} {h : q_H} {off : Int} (tgt : Nat) (hd : decode y.2.1 pc = .ok (.goto off, 3)) (ht : (pc : Int) + off = (tgt : Int)) (k : q_E g y R K u tgt ls st h) : q_E g y R K u pc ls st h := by
  intro p e s m args below meth c Q ad0 n0 ad H locs L C F D hL hv h1 h2
  exact lv_goto C.1 C.2.1 hd ht (k p e s m args below meth c Q ad0 n0 ad H locs L C F D hL hv h1 h2)
theorem xe_if_eq {g : q_G} {y : q_M} {R : Room} {K : List q_V → q_H → Prop} {u : Nat × Nat} {pc : Nat} {ls : List (Option q_V)} {st : List q_V} {h : q_H} {x : Int32} {off : Int} (tgt : Nat) (hd : decode y.2.1 pc = .ok (.ifCond .eq off, 3)) (ht : (pc : Int) + off = (tgt : Int)) (kt : x = 0 → q_E g y R K u tgt ls st h) (kf : ¬ x = 0 → q_E g y R K u (pc + 3) ls st h) : q_E g y R K u pc ls (q_I x :: st) h := by
  intro p e s m args below meth c Q ad0 n0 ad H locs L C F D hL hv h1 h2
  exact lv_if_eq C.1 C.2.1 hd ht (fun z => (kt z p e s m args below meth c Q ad0 n0 ad H locs L C F D hL (q_tl hv) h1 h2)) (fun z => (kf z p e s m args below meth c Q ad0 n0 ad H locs L C F D hL (q_tl hv) h1 h2))
theorem xe_if_ne {g : q_G} {y : q_M} {R : Room} {K : List q_V → q_H → Prop} {u : Nat × Nat} {pc : Nat} {ls : List (Option q_V)} {st : List q_V} {h : q_H} {x : Int32} {off : Int} (tgt : Nat) (hd : decode y.2.1 pc = .ok (.ifCond .ne off, 3)) (ht : (pc : Int) + off = (tgt : Int)) (kt : ¬ x = 0 → q_E g y R K u tgt ls st h) (kf : x = 0 → q_E g y R K u (pc + 3) ls st h) : q_E g y R K u pc ls (q_I x :: st) h := by
  intro p e s m args below meth c Q ad0 n0 ad H locs L C F D hL hv h1 h2
  exact lv_if_ne C.1 C.2.1 hd ht (fun z => (kt z p e s m args below meth c Q ad0 n0 ad H locs L C F D hL (q_tl hv) h1 h2)) (fun z => (kf z p e s m args below meth c Q ad0 n0 ad H locs L C F D hL (q_tl hv) h1 h2))
theorem xe_if_lt {g : q_G} {y : q_M} {R : Room} {K : List q_V → q_H → Prop} {u : Nat × Nat} {pc : Nat} {ls : List (Option q_V)} {st : List q_V} {h : q_H} {x : Int32} {off : Int} (tgt : Nat) (hd : decode y.2.1 pc = .ok (.ifCond .lt off, 3)) (ht : (pc : Int) + off = (tgt : Int)) (kt : x < 0 → q_E g y R K u tgt ls st h) (kf : ¬ x < 0 → q_E g y R K u (pc + 3) ls st h) : q_E g y R K u pc ls (q_I x :: st) h := by
  intro p e s m args below meth c Q ad0 n0 ad H locs L C F D hL hv h1 h2
  exact lv_if_lt C.1 C.2.1 hd ht (fun z => (kt z p e s m args below meth c Q ad0 n0 ad H locs L C F D hL (q_tl hv) h1 h2)) (fun z => (kf z p e s m args below meth c Q ad0 n0 ad H locs L C F D hL (q_tl hv) h1 h2))
theorem xe_if_ge {g : q_G} {y : q_M} {R : Room} {K : List q_V → q_H → Prop} {u : Nat × Nat} {pc : Nat} {ls : List (Option q_V)} {st : List q_V} {h : q_H} {x : Int32} {off : Int} (tgt : Nat) (hd : decode y.2.1 pc = .ok (.ifCond .ge off, 3)) (ht : (pc : Int) + off = (tgt : Int)) (kt : 0 ≤ x → q_E g y R K u tgt ls st h) (kf : ¬ 0 ≤ x → q_E g y R K u (pc + 3) ls st h) : q_E g y R K u pc ls (q_I x :: st) h := by
  intro p e s m args below meth c Q ad0 n0 ad H locs L C F D hL hv h1 h2
  exact lv_if_ge C.1 C.2.1 hd ht (fun z => (kt z p e s m args below meth c Q ad0 n0 ad H locs L C F D hL (q_tl hv) h1 h2)) (fun z => (kf z p e s m args below meth c Q ad0 n0 ad H locs L C F D hL (q_tl hv) h1 h2))
theorem xe_if_gt {g : q_G} {y : q_M} {R : Room} {K : List q_V → q_H → Prop} {u : Nat × Nat} {pc : Nat} {ls : List (Option q_V)} {st : List q_V} {h : q_H} {x : Int32} {off : Int} (tgt : Nat) (hd : decode y.2.1 pc = .ok (.ifCond .gt off, 3)) (ht : (pc : Int) + off = (tgt : Int)) (kt : 0 < x → q_E g y R K u tgt ls st h) (kf : ¬ 0 < x → q_E g y R K u (pc + 3) ls st h) : q_E g y R K u pc ls (q_I x :: st) h := by
  intro p e s m args below meth c Q ad0 n0 ad H locs L C F D hL hv h1 h2
  exact lv_if_gt C.1 C.2.1 hd ht (fun z => (kt z p e s m args below meth c Q ad0 n0 ad H locs L C F D hL (q_tl hv) h1 h2)) (fun z => (kf z p e s m args below meth c Q ad0 n0 ad H locs L C F D hL (q_tl hv) h1 h2))
theorem xe_if_le {g : q_G} {y : q_M} {R : Room} {K : List q_V → q_H → Prop} {u : Nat × Nat} {pc : Nat} {ls : List (Option q_V)} {st : List q_V} {h : q_H} {x : Int32} {off : Int} (tgt : Nat) (hd : decode y.2.1 pc = .ok (.ifCond .le off, 3)) (ht : (pc : Int) + off = (tgt : Int)) (kt : x ≤ 0 → q_E g y R K u tgt ls st h) (kf : ¬ x ≤ 0 → q_E g y R K u (pc + 3) ls st h) : q_E g y R K u pc ls (q_I x :: st) h := by
  intro p e s m args below meth c Q ad0 n0 ad H locs L C F D hL hv h1 h2
  exact lv_if_le C.1 C.2.1 hd ht (fun z => (kt z p e s m args below meth c Q ad0 n0 ad H locs L C F D hL (q_tl hv) h1 h2)) (fun z => (kf z p e s m args below meth c Q ad0 n0 ad H locs L C F D hL (q_tl hv) h1 h2))
theorem xe_ic_eq {g : q_G} {y : q_M} {R : Room} {K : List q_V → q_H → Prop} {u : Nat × Nat} {pc : Nat} {ls : List (Option q_V)} {st : List q_V} {h : q_H} {x z : Int32} {off : Int} (tgt : Nat) (hd : decode y.2.1 pc = .ok (.if_icmp .eq off, 3)) (ht : (pc : Int) + off = (tgt : Int)) (kt : x = z → q_E g y R K u tgt ls st h) (kf : ¬ x = z → q_E g y R K u (pc + 3) ls st h) : q_E g y R K u pc ls (q_I z :: q_I x :: st) h := by
  intro p e s m args below meth c Q ad0 n0 ad H locs L C F D hL hv h1 h2
  exact lv_icmp_eq C.1 C.2.1 hd ht (fun z => (kt z p e s m args below meth c Q ad0 n0 ad H locs L C F D hL (q_tl (q_tl hv)) h1 h2)) (fun z => (kf z p e s m args below meth c Q ad0 n0 ad H locs L C F D hL (q_tl (q_tl hv)) h1 h2))
theorem xe_ic_ne {g : q_G} {y : q_M} {R : Room} {K : List q_V → q_H → Prop} {u : Nat × Nat} {pc : Nat} {ls : List (Option q_V)} {st : List q_V} {h : q_H} {x z : Int32} {off : Int} (tgt : Nat) (hd : decode y.2.1 pc = .ok (.if_icmp .ne off, 3)) (ht : (pc : Int) + off = (tgt : Int)) (kt : ¬ x = z → q_E g y R K u tgt ls st h) (kf : x = z → q_E g y R K u (pc + 3) ls st h) : q_E g y R K u pc ls (q_I z :: q_I x :: st) h := by
  intro p e s m args below meth c Q ad0 n0 ad H locs L C F D hL hv h1 h2
  exact lv_icmp_ne C.1 C.2.1 hd ht (fun z => (kt z p e s m args below meth c Q ad0 n0 ad H locs L C F D hL (q_tl (q_tl hv)) h1 h2)) (fun z => (kf z p e s m args below meth c Q ad0 n0 ad H locs L C F D hL (q_tl (q_tl hv)) h1 h2))
theorem xe_ic_lt {g : q_G} {y : q_M} {R : Room} {K : List q_V → q_H → Prop} {u : Nat × Nat} {pc : Nat} {ls : List (Option q_V)} {st : List q_V} {h : q_H} {x z : Int32} {off : Int} (tgt : Nat) (hd : decode y.2.1 pc = .ok (.if_icmp .lt off, 3)) (ht : (pc : Int) + off = (tgt : Int)) (kt : x < z → q_E g y R K u tgt ls st h) (kf : ¬ x < z → q_E g y R K u (pc + 3) ls st h) : q_E g y R K u pc ls (q_I z :: q_I x :: st) h := by
  intro p e s m args below meth c Q ad0 n0 ad H locs L C F D hL hv h1 h2
  exact lv_icmp_lt C.1 C.2.1 hd ht (fun z => (kt z p e s m args below meth c Q ad0 n0 ad H locs L C F D hL (q_tl (q_tl hv)) h1 h2)) (fun z => (kf z p e s m args below meth c Q ad0 n0 ad H locs L C F D hL (q_tl (q_tl hv)) h1 h2))
theorem xe_ic_ge {g : q_G} {y : q_M} {R : Room} {K : List q_V → q_H → Prop} {u : Nat × Nat} {pc : Nat} {ls : List (Option q_V)} {st : List q_V} {h : q_H} {x z : Int32} {off : Int} (tgt : Nat) (hd : decode y.2.1 pc = .ok (.if_icmp .ge off, 3)) (ht : (pc : Int) + off = (tgt : Int)) (kt : z ≤ x → q_E g y R K u tgt ls st h) (kf : ¬ z ≤ x → q_E g y R K u (pc + 3) ls st h) : q_E g y R K u pc ls (q_I z :: q_I x :: st) h := by
  intro p e s m args below meth c Q ad0 n0 ad H locs L C F D hL hv h1 h2
  exact lv_icmp_ge C.1 C.2.1 hd ht (fun z => (kt z p e s m args below meth c Q ad0 n0 ad H locs L C F D hL (q_tl (q_tl hv)) h1 h2)) (fun z => (kf z p e s m args below meth c Q ad0 n0 ad H locs L C F D hL (q_tl (q_tl hv)) h1 h2))
theorem xe_ic_gt {g : q_G} {y : q_M} {R : Room} {K : List q_V → q_H → Prop} {u : Nat × Nat} {pc : Nat} {ls : List (Option q_V)} {st : List q_V} {h : q_H} {x z : Int32} {off : Int} (tgt : Nat) (hd : decode y.2.1 pc = .ok (.if_icmp .gt off, 3)) (ht : (pc : Int) + off = (tgt : Int)) (kt : z < x → q_E g y R K u tgt ls st h) (kf : ¬ z < x → q_E g y R K u (pc + 3) ls st h) : q_E g y R K u pc ls (q_I z :: q_I x :: st) h := by
  intro p e s m args below meth c Q ad0 n0 ad H locs L C F D hL hv h1 h2
  exact lv_icmp_gt C.1 C.2.1 hd ht (fun z => (kt z p e s m args below meth c Q ad0 n0 ad H locs L C F D hL (q_tl (q_tl hv)) h1 h2)) (fun z => (kf z p e s m args below meth c Q ad0 n0 ad H locs L C F D hL (q_tl (q_tl hv)) h1 h2))
theorem xe_ic_le {g : q_G} {y : q_M} {R : Room} {K : List q_V → q_H → Prop} {u : Nat × Nat} {pc : Nat} {ls : List (Option q_V)} {st : List q_V} {h : q_H} {x z : Int32} {off : Int} (tgt : Nat) (hd : decode y.2.1 pc = .ok (.if_icmp .le off, 3)) (ht : (pc : Int) + off = (tgt : Int)) (kt : x ≤ z → q_E g y R K u tgt ls st h) (kf : ¬ x ≤ z → q_E g y R K u (pc + 3) ls st h) : q_E g y R K u pc ls (q_I z :: q_I x :: st) h := by
  intro p e s m args below meth c Q ad0 n0 ad H locs L C F D hL hv h1 h2
  exact lv_icmp_le C.1 C.2.1 hd ht (fun z => (kt z p e s m args below meth c Q ad0 n0 ad H locs L C F D hL (q_tl (q_tl hv)) h1 h2)) (fun z => (kf z p e s m args below meth c Q ad0 n0 ad H locs L C F D hL (q_tl (q_tl hv)) h1 h2))
theorem xe_ifnullO {g : q_G} {y : q_M} {R : Room} {K : List q_V → q_H → Prop} {u : Nat × Nat} {pc : Nat} {ls : List (Option q_V)} {st : List q_V} {h : q_H} {q : Nat × Nat} {off : Int} (hd : decode y.2.1 pc = .ok (.ifnull off, 3)) (k : q_E g y R K u (pc + 3) ls st h) : q_E g y R K u pc ls (.inr q :: st) h := by
  intro p e s m args below meth c Q ad0 n0 ad H locs L C F D hL hv h1 h2
  exact lv_ifnull C.1 C.2.1 hd (k p e s m args below meth c Q ad0 n0 ad H locs L C F D hL (q_tl hv) h1 h2)
theorem xe_ifnullN {g : q_G} {y : q_M} {R : Room} {K : List q_V → q_H → Prop} {u : Nat × Nat} {pc : Nat} {ls : List (Option q_V)} {st : List q_V} {h : q_H} {off : Int} (tgt : Nat) (hd : decode y.2.1 pc = .ok (.ifnull off, 3)) (ht : (pc : Int) + off = (tgt : Int)) (k : q_E g y R K u tgt ls st h) : q_E g y R K u pc ls (q_N :: st) h := by
  intro p e s m args below meth c Q ad0 n0 ad H locs L C F D hL hv h1 h2
  exact lv_ifnullN C.1 C.2.1 hd ht (k p e s m args below meth c Q ad0 n0 ad H locs L C F D hL (q_tl hv) h1 h2)
theorem xe_ifnonnullO {g : q_G} {y : q_M} {R : Room} {K : List q_V → q_H → Prop} {u : Nat × Nat} {pc : Nat} {ls : List (Option q_V)} {st : List q_V} {h : q_H} {q : Nat × Nat} {off : Int} (tgt : Nat) (hd : decode y.2.1 pc = .ok (.ifnonnull off, 3)) (ht : (pc : Int) + off = (tgt : Int)) (k : q_E g y R K u tgt ls st h) : q_E g y R K u pc ls (.inr q :: st) h := by
  intro p e s m args below meth c Q ad0 n0 ad H locs L C F D hL hv h1 h2
  exact lv_ifnonnull C.1 C.2.1 hd ht (k p e s m args below meth c Q ad0 n0 ad H locs L C F D hL (q_tl hv) h1 h2)
theorem xe_ifnonnullN {g : q_G} {y : q_M} {R : Room} {K : List q_V → q_H → Prop} {u : Nat × Nat} {pc : Nat} {ls : List (Option q_V)} {st : List q_V} {h : q_H} {off : Int} (hd : decode y.2.1 pc = .ok (.ifnonnull off, 3)) (k : q_E g y R K u (pc + 3) ls st h) : q_E g y R K u pc ls (q_N :: st) h := by
  intro p e s m args below meth c Q ad0 n0 ad H locs L C F D hL hv h1 h2
  exact lv_ifnonnullN C.1 C.2.1 hd (k p e s m args below meth c Q ad0 n0 ad H locs L C F D hL (q_tl hv) h1 h2)
theorem xe_swOut {g : q_G} {y : q_M} {R : Room} {K : List q_V → q_H → Prop} {u : Nat × Nat} {pc : Nat} {ls : List (Option q_V)} {st : List q_V} {h : q_H} {dflt lo hi : Int} {offs : Array Int} {len : Nat} {x : Int32} (tgt : Nat) (hd : decode y.2.1 pc = .ok (.tableswitch dflt lo hi offs, len)) (hx : x.toInt < lo ∨ hi < x.toInt) (ht : (pc : Int) + dflt = (tgt : Int)) (k : q_E g y R K u tgt ls st h) : q_E g y R K u pc ls (q_I x :: st) h := by
  intro p e s m args below meth c Q ad0 n0 ad H locs L C F D hL hv h1 h2
  exact lv_tableOut C.1 C.2.1 hd hx ht (k p e s m args below meth c Q ad0 n0 ad H locs L C F D hL (q_tl hv) h1 h2)
theorem xe_swIn {g : q_G} {y : q_M} {R : Room} {K : List q_V → q_H → Prop} {u : Nat × Nat} {pc : Nat} {ls : List (Option q_V)} {st : List q_V} {h : q_H} {dflt lo hi : Int} {offs : Array Int} {len : Nat} {x : Int32} {off : Int} (tgt : Nat) (hd : decode y.2.1 pc = .ok (.tableswitch dflt lo hi offs, len)) (hx1 : ¬ x.toInt < lo) (hx2 : ¬ hi < x.toInt) (ho : offs[(x.toInt - lo).toNat]? = some off) (ht : (pc : Int) + off = (tgt : Int)) (k : q_E g y R K u tgt ls st h) : q_E g y R K u pc ls (q_I x :: st) h := by
  intro p e s m args below meth c Q ad0 n0 ad H locs L C F D hL hv h1 h2
  exact lv_tableIn C.1 C.2.1 hd hx1 hx2 ho ht (k p e s m args below meth c Q ad0 n0 ad H locs L C F D hL (q_tl hv) h1 h2)
theorem xe_iret {g : q_G} {y : q_M} {R : Room} {K : List q_V → q_H → Prop} {u : Nat × Nat} {pc : Nat} {ls : List (Option q_V)} {st : List q_V} {h : q_H} {x : Int32} (ty : FieldType) (hd : decode y.2.1 pc = .ok (.ireturn, 1)) (hy : y.2.2.2 = some ty) (hn : narrow ty (.int x) = .int x) (hk : K [q_I x] h) : q_E g y R K u pc ls [q_I x] h := by
  intro p e s m args below meth c Q ad0 n0 ad H locs L C F D hL hv h1 h2
  exact W.widen h1 h2 (F pc L [q_I x] h ad H locs hk D hv (Or.inl ⟨x, ty, rfl, hy, hn, hd⟩))
theorem xe_vret {g : q_G} {y : q_M} {R : Room} {K : List q_V → q_H → Prop} {u : Nat × Nat} {pc : Nat} {ls : List (Option q_V)} {st : List q_V} {h : q_H} (hd : decode y.2.1 pc = .ok (.return_, 1)) (hy : y.2.2.2 = none) (hk : K [] h) : q_E g y R K u pc ls [] h := by
  intro p e s m args below meth c Q ad0 n0 ad H locs L C F D hL hv h1 h2
  exact W.widen h1 h2 (F pc L [] h ad H locs hk D hv (Or.inr (Or.inl ⟨rfl, hy, hd⟩)))
theorem xe_aretN {g : q_G} {y : q_M} {R : Room} {K : List q_V → q_H → Prop} {u : Nat × Nat} {pc : Nat} {ls : List (Option q_V)} {st : List q_V} {h : q_H} {C0 : String} (hd : decode y.2.1 pc = .ok (.areturn, 1)) (hy : y.2.2.2 = some (.object C0)) (hk : K [q_N] h) : q_E g y R K u pc ls [q_N] h := by
  intro p e s m args below meth c Q ad0 n0 ad H locs L C F D hL hv h1 h2
  exact W.widen h1 h2 (F pc L [q_N] h ad H locs hk D hv (Or.inr (Or.inr ⟨_, C0, rfl, hy, Or.inl rfl, hd⟩)))
theorem xe_aretO {g : q_G} {y : q_M} {R : Room} {K : List q_V → q_H → Prop} {u : Nat × Nat} {pc : Nat} {ls : List (Option q_V)} {st : List q_V} {h : q_H} {q : Nat × Nat} {C0 : String} (hd : decode y.2.1 pc = .ok (.areturn, 1)) (hy : y.2.2.2 = some (.object C0)) (hk : K [.inr q] h) : q_E g y R K u pc ls [.inr q] h := by
  intro p e s m args below meth c Q ad0 n0 ad H locs L C F D hL hv h1 h2
  exact W.widen h1 h2 (F pc L [.inr q] h ad H locs hk D hv (Or.inr (Or.inr ⟨_, C0, rfl, hy, Or.inr ⟨q, rfl⟩, hd⟩)))
end
section
def q_fl (own : String) (idx c k : Nat) : Prop := ∃ q : vw_C, q_cl[c]? = some q ∧ k < q.2.2 ∧ (Cond.fieldLink own idx (q.2.1 k).1 (q.2.1 k).2.1 (q.2.1 k).2.2.1 ∈ q_gw ∨ ∃ host, Cond.fieldLinkNest own idx (q.2.1 k).1 (q.2.1 k).2.1 (q.2.1 k).2.2.1 host ∈ q_nw)
def q_set (h : q_H) (c i k : Nat) (x : Int32) : q_H := (fun d j n => if d = c ∧ j = i ∧ n = k then x else h.1 d j n, h.2)
def q_sr (h : q_H) (c i k : Nat) (r : Option (Nat × Nat)) : q_H := (h.1, fun d j n => if d = c ∧ j = i ∧ n = k then r else h.2.1 d j n, h.2.2)
def q_nu (h : q_H) (c : Nat) : q_H := (fun d j n => if d = c ∧ j = h.2.2 c then 0 else h.1 d j n, fun d j n => if d = c ∧ j = h.2.2 c then none else h.2.1 d j n, fun d => if d = c then h.2.2 c + 1 else h.2.2 d)
def q_rr (r : Option (Nat × Nat)) : q_V := match r with
  | none => q_N
  | some q => .inr q
theorem q_c_rr (ad : Nat → Nat → Nat) (r : Option (Nat × Nat)) : q_c ad (q_rr r) = q_rf ad r := by
  cases r <;> rfl
theorem q_P.upd {g : q_G} {ad : Nat → Nat → Nat} {h h' : q_H} {H H1 : Heap} {c i : Nat} (hP : q_P g ad h H) (hi : i < h.2.2 c) (hn : h'.2.2 = h.2.2) (ho : ∀ d j, ¬ (d = c ∧ j = i) → ∀ k, h'.1 d j k = h.1 d j k ∧ h'.2.1 d j k = h.2.1 d j k) (hr : ∀ k q, h'.2.1 c i k = some q → q.2 < h.2.2 q.1) (hce : q_ce g ad h' H1 c i) (oq : ∀ q : Nat, q ≠ ad c i → H1[q]? = H[q]?) : q_P g ad h' H1 := by
  obtain ⟨p1, p2, p3, p4⟩ := hP
  refine ⟨fun d j hj => ?_, fun d j d' j' h1 h2 => p2 d j d' j' (hn ▸ h1) (hn ▸ h2), fun d j h1 => p3 d j (hn ▸ h1), fun d j k q h1 h2 => ?_⟩
  · rw [hn] at hj
    by_cases e : d = c ∧ j = i
    · obtain ⟨rfl, rfl⟩ := e
      exact hce
    · have hne : ad d j ≠ ad c i := fun z => e (p2 d j c i hj hi z)
      have hs : q_sv ad h' d j = q_sv ad h d j := by
        funext k
        unfold q_sv
        rw [(ho d j e k).1, (ho d j e k).2]
      obtain ⟨a1, a2⟩ := p1 d j hj
      refine ⟨fun x hx => ?_, fun hx => ?_⟩
      · rw [oq _ hne, hs]
        exact a1 x hx
      · obtain ⟨q, b1, b2⟩ := a2 hx
        rw [hs]
        exact ⟨q, b1, b2.kept (oq _ hne)⟩
  · rw [hn] at h1 ⊢
    by_cases e : d = c ∧ j = i
    · obtain ⟨rfl, rfl⟩ := e
      exact hr k q h2
    · rw [(ho d j e k).2] at h2
      exact p4 d j k q h1 h2
theorem q_D.upd {g : q_G} {ad0 : Nat → Nat → Nat} {n0 : Nat → Nat} {s : State} {ad : Nat → Nat → Nat} {h h' : q_H} {H H1 : Heap} {locs : List Loc} {c i k0 : Nat} (D : q_D g ad0 n0 s ad h H locs) (hi : i < h.2.2 c) (hn : h'.2.2 = h.2.2) (ho : ∀ d j, ¬ (d = c ∧ j = i) → ∀ k, h'.1 d j k = h.1 d j k ∧ h'.2.1 d j k = h.2.1 d j k) (hr : ∀ k q, h'.2.1 c i k = some q → q.2 < h.2.2 q.1) (hce : q_ce g ad h' H1 c i) (z : H1.size = H.size) (oq : ∀ q : Nat, q ≠ ad c i → H1[q]? = H[q]?) : q_D g ad0 n0 s ad h' H1 (locs ++ [⟨ad c i, k0⟩]) := by
  obtain ⟨hP, hS, hE⟩ := D
  exact ⟨hP.upd hi hn ho hr hce oq, hS.put z oq (hP.2.2.1 c i hi), fun d => by rw [hn]; exact hE d⟩
theorem q_L.upd {ad : Nat → Nat → Nat} {h h' : q_H} {n : Nat} {ls : List (Option q_V)} {L : Array Slot} (hL : q_L ad h n ls L) (hn : h'.2.2 = h.2.2) : q_L ad h' n ls L := by
  refine ⟨hL.1, hL.2.1, hL.2.2.1, fun i v hi => ?_⟩
  obtain ⟨a1, a2, a3⟩ := hL.2.2.2 i v hi
  refine ⟨a1, ?_, a3⟩
  cases v with
  | inl x => exact trivial
  | inr q =>
    show q.2 < h'.2.2 q.1
    rw [hn]
    exact a2
theorem q_vs {h h' : q_H} {st : List q_V} (hv : ∀ v ∈ st, q_vk h v) (hn : h'.2.2 = h.2.2) : ∀ v ∈ st, q_vk h' v := by
  intro v hm
  have h1 := hv v hm
  cases v with
  | inl x => exact trivial
  | inr q =>
    show q.2 < h'.2.2 q.1
    rw [hn]
    exact h1
theorem q_obj {g : q_G} {ad : Nat → Nat → Nat} {h : q_H} {H : Heap} {c i : Nat} {q : vw_C} (hP : q_P g ad h H) (hi : i < h.2.2 c) (hq : q_cl[c]? = some q) : t_OB (ad c i) (g.2.1.1 c) q.2.2 (g.2.1.2 c) H (fun k => q_tv (q_ty c k) (h.1 c i k) (q_rf ad (h.2.1 c i k))) := by
  have hpk := q_cl_pk c q hq
  obtain ⟨r, b1, b2⟩ := (hP.1 c i hi).2 hpk
  cases b1.symm.trans hq
  have hs : q_sv ad h c i = (fun k => q_tv (q_ty c k) (h.1 c i k) (q_rf ad (h.2.1 c i k))) := by
    funext k
    unfold q_sv q_sT
    rw [hpk]
  rw [← hs]
  exact b2
section QHP
variable {g : q_G} {y : q_M} {R : Room} {K : List q_V → q_H → Prop} {u : Nat × Nat} {pc : Nat} {ls : List (Option q_V)} {st : List q_V} {h : q_H}
theorem xe_get {idx c i k : Nat} {v : q_V} (hd : decode y.2.1 pc = .ok (.getfield idx, 3)) (hf : q_fl y.1.cls idx c k) (hvv : ∀ ad, q_c ad v = q_tv (q_ty c k) (h.1 c i k) (q_rf ad (h.2.1 c i k))) (hvk : (∀ q, h.2.1 c i k = some q → q.2 < h.2.2 q.1) → q_vk h v) (kk : q_E g y R K u (pc + 3) ls (v :: st) h) : q_E g y R K u pc ls (q_O c i :: st) h := by
  intro p e s m args below meth c0 Q ad0 n0 ad H locs L C F D hL hv h1 h2
  have hi : i < h.2.2 c := q_hd hv
  obtain ⟨q, hq, hk, hlk⟩ := hf
  have k2 := kk p e s m args below meth c0 Q ad0 n0 ad H locs L C F D hL (q_cs (hvk (fun r hr => D.1.2.2.2 c i k r hi hr)) (q_tl hv)) h1 h2
  obtain ⟨hx, hb, hml, hown, hts, -, -, -, hK, -⟩ := C
  obtain ⟨cell, q1, q2, q3, q4⟩ := q_obj D.1 hi hq
  obtain ⟨hS, hfc, kC, hkC, hkind⟩ := hK.1 c q hq
  obtain ⟨cf, kf, fi, f, hi2, hsl⟩ := hS k hk
  have hst := (u_facts hfc hkC (u_lays hts (q_cl_ok c q hq).2.2.1 hk) hi2).1
  have hslot : cell.slots[f.slot]? = some (q_c ad v) := by
    rw [hsl, q4 k hk, hvv ad]
  rcases hlk with hlk | ⟨host, hlk⟩
  · exact W.getf hx hb hown (hts _ hlk) hi2 hst q1 (by rw [q3]; exact fun z => by cases z) (v := q_c ad v) hslot rfl rfl hd k2
  · exact va_Wgetf hx hb hown (va_Nw.use (q_nw_tab hlk) (hK.2.2.1 _ hlk)) hi2 hst q1 (by rw [q3]; exact fun z => by cases z) (v := q_c ad v) hslot rfl rfl hd k2
theorem xe_geti {idx c i k : Nat} (hd : decode y.2.1 pc = .ok (.getfield idx, 3)) (hf : q_fl y.1.cls idx c k) (ht : ∀ x v, q_tv (q_ty c k) x v = .int x) (kk : q_E g y R K u (pc + 3) ls (q_I (h.1 c i k) :: st) h) : q_E g y R K u pc ls (q_O c i :: st) h :=
  xe_get (v := q_I (h.1 c i k)) hd hf (fun ad => (ht _ _).symm) (fun _ => trivial) kk
theorem xe_getr {idx c i k : Nat} {r : Option (Nat × Nat)} (hd : decode y.2.1 pc = .ok (.getfield idx, 3)) (hf : q_fl y.1.cls idx c k) (ht : ∀ x v, q_tv (q_ty c k) x v = v) (hr : h.2.1 c i k = r) (kk : q_E g y R K u (pc + 3) ls (q_rr r :: st) h) : q_E g y R K u pc ls (q_O c i :: st) h := by
  refine xe_get hd hf (fun ad => ?_) (fun z => ?_) kk
  · rw [ht, hr, q_c_rr]
  · cases r with
    | none => exact trivial
    | some q => exact z q hr
theorem xe_put {idx c i k : Nat} {v : q_V} {h' : q_H} (hd : decode y.2.1 pc = .ok (.putfield idx, 3)) (hf : q_fl y.1.cls idx c k) (hfin : ∀ q, q_cl[c]? = some q → (q.2.1 k).2.2.2 = false ∨ ((q.2.1 k).2.2.2 = true ∧ y.1.name = "<init>" ∧ (q.2.1 k).1 = y.1.cls ∧ Cond.fieldLink y.1.cls idx (q.2.1 k).1 (q.2.1 k).2.1 (q.2.1 k).2.2.1 ∈ q_gw)) (hn : ∀ ad, narrow (q_ty c k) (q_c ad v) = q_c ad v ∧ fits (q_ty c k) (q_c ad v) = true)
    (hcn : h'.2.2 = h.2.2) (ho : ∀ d j n, ¬ (d = c ∧ j = i ∧ n = k) → h'.1 d j n = h.1 d j n ∧ h'.2.1 d j n = h.2.1 d j n) (hvv : ∀ ad, q_c ad v = q_tv (q_ty c k) (h'.1 c i k) (q_rf ad (h'.2.1 c i k))) (hvk : q_vk h v → (∀ q, h.2.1 c i k = some q → q.2 < h.2.2 q.1) → ∀ q, h'.2.1 c i k = some q → q.2 < h.2.2 q.1) (kk : q_E g y R K u (pc + 3) ls st h') : q_E g y R K u pc ls (v :: q_O c i :: st) h := by
  intro p e s m args below meth c0 Q ad0 n0 ad H locs L C F D hL hv h1 h2
  have hi : i < h.2.2 c := q_hd (q_tl hv)
  obtain ⟨q, hq, hk, hlk⟩ := hf
  obtain ⟨hx, hb, hml, hown, hts, -, -, hmn, hK, -⟩ := id C
  obtain ⟨oty, onm, olay, -⟩ := q_cl_ok c q hq
  obtain ⟨cell, q1, q2, q3, q4⟩ := q_obj D.1 hi hq
  obtain ⟨hS, hfc, kC, hkC, hkind⟩ := hK.1 c q hq
  obtain ⟨cf, kf, fi, f, hi2, hsl⟩ := hS k hk
  have hst := (u_facts hfc hkC (u_lays hts olay hk) hi2).1
  have hap : ∀ a b, a < q.2.2 → b < q.2.2 → a ≠ b → (g.2.1.2 c) a ≠ (g.2.1.2 c) b := by
    intro a b ha hb2 hne
    obtain ⟨_, _, _, fa, hia, ea⟩ := hS a ha
    obtain ⟨_, _, _, fb, hib, eb⟩ := hS b hb2
    rw [← ea, ← eb]
    refine u_apart (u_lays hts olay ha) (u_lays hts olay hb2) hia hib ?_
    rw [(State.fieldFound?_type hia (oty a ha)).1, (State.fieldFound?_type hib (oty b hb2)).1]
    exact onm a ha b hb2 hne
  have hlt : f.slot < cell.slots.size := by rw [hsl]; exact k2_hasslot (q4 k hk)
  have hlay := hts _ (olay _ (u_in_lay hk))
  have fin : ∀ H1 : Heap, H1[ad c i]? = some (cell.setSlot f.slot (q_c ad v)) → H1.size = H.size → (∀ z : Nat, z ≠ ad c i → H1[z]? = H[z]?) → W p g.1 e R s m args below meth c0 H1 (locs ++ [⟨ad c i, f.slot⟩]) u.1 u.2 Q (F0 m (pc + 3) L (st.map (q_c ad))) := by
    intro H1 e1 e2 e3
    have hce : q_ce g ad h' H1 c i := by
      have hpk := q_cl_pk c q hq
      refine ⟨fun x hx => (by rw [hpk] at hx; cases hx), fun _ => ⟨q, hq, ?_⟩⟩
      rw [hsl] at e1
      refine t_OB.to (V := updV (fun k => q_tv (q_ty c k) (h.1 c i k) (q_rf ad (h.2.1 c i k))) k (q_c ad v)) ⟨_, e1, q2, q3, t_set q4 hap hk _⟩ (fun j hj => ?_)
      unfold q_sv q_sT
      rw [hpk]
      by_cases hjk : j = k
      · subst hjk
        simp only [updV, if_pos]
        exact hvv ad
      · simp only [updV, if_neg hjk]
        rw [(ho c i j (fun z => hjk z.2.2)).1, (ho c i j (fun z => hjk z.2.2)).2]
    have D2 : q_D g ad0 n0 s ad h' H1 (locs ++ [⟨ad c i, f.slot⟩]) := D.upd hi hcn (fun d j hne n => ho d j n (fun z => hne ⟨z.1, z.2.1⟩)) (fun n r hr => by
      by_cases hnk : n = k
      · subst hnk
        exact hvk (q_hd hv) (fun r hr => D.1.2.2.2 c i n r hi hr) r hr
      · rw [(ho c i n (fun z => hnk z.2.2)).2] at hr
        exact D.1.2.2.2 c i n r hi hr) hce e2 e3
    exact kk p e s m args below meth c0 Q ad0 n0 ad H1 _ L C F D2 (hL.upd hcn) (q_vs (q_tl (q_tl hv)) hcn) h1 h2
  rcases hfin q hq with hff | ⟨hff, hin, hdc, hl2⟩
  · unfold u_lay at hlay
    rw [if_neg (by rw [hff]; decide)] at hlay
    have h6 := u_store hfc hkC hkind hlay hi2 (oty k hk) (hn ad).1 (hn ad).2
    rcases hlk with hlk | ⟨host, hlk⟩
    · exact W.putK hx hb (f := f) ⟨hown, hts _ hlk, ⟨_, _, _, hi2⟩, hst⟩ (by rw [q2]; exact h6) q1 q3 hlt rfl rfl hd fin
    · exact va_WputK hx hb (f := f) hown (va_Nw.use (q_nw_tab hlk) (hK.2.2.1 _ hlk)) hi2 hst (by rw [q2]; exact h6) q1 q3 hlt rfl rfl hd fin
  · unfold u_lay at hlay
    rw [if_pos hff] at hlay
    have hcf : m.cls = cf := by
      obtain ⟨_, _, c', _, _, _, -, -, hf', -, -, -, hown2, -⟩ := Cond.laysFinal_spec hlay
      have e1 : c' = cf := by have := hi2.symm.trans hf'; simp at this; exact this.1.symm
      rw [hdc] at hown2
      rw [← e1]; exact Option.some.inj (hown.symm.trans hown2)
    have h6 := u_fits hfc hkC hkind (Or.inr hlay) hi2 (oty k hk) (hn ad).1 (hn ad).2
    exact W.putFinK hx hb hown (hts _ hl2) hi2 hst hcf (by rw [hmn]; exact hin) (by rw [q2]; exact h6) q1 q3 hlt rfl rfl hd fin
theorem xe_puti {idx c i k : Nat} {x : Int32} (hd : decode y.2.1 pc = .ok (.putfield idx, 3)) (hf : q_fl y.1.cls idx c k) (hfin : ∀ q, q_cl[c]? = some q → (q.2.1 k).2.2.2 = false ∨ ((q.2.1 k).2.2.2 = true ∧ y.1.name = "<init>" ∧ (q.2.1 k).1 = y.1.cls ∧ Cond.fieldLink y.1.cls idx (q.2.1 k).1 (q.2.1 k).2.1 (q.2.1 k).2.2.1 ∈ q_gw)) (hn : narrow (q_ty c k) (.int x) = .int x ∧ fits (q_ty c k) (.int x) = true) (ht : ∀ x v, q_tv (q_ty c k) x v = .int x) (kk : q_E g y R K u (pc + 3) ls st (q_set h c i k x)) : q_E g y R K u pc ls (q_I x :: q_O c i :: st) h := by
  refine xe_put (v := q_I x) (h' := q_set h c i k x) hd hf hfin (fun _ => hn) rfl (fun d j n hne => ⟨?_, rfl⟩) (fun ad => ?_) (fun _ z => z) kk
  · show (if d = c ∧ j = i ∧ n = k then x else h.1 d j n) = h.1 d j n
    rw [if_neg hne]
  · rw [ht]
    show Value.int x = Value.int (if c = c ∧ i = i ∧ k = k then x else h.1 c i k)
    rw [if_pos ⟨rfl, rfl, rfl⟩]
theorem q_nr {ty : FieldType} (hr : q_isR ty = true) : (narrow ty .null = .null ∧ fits ty .null = true) ∧ ∀ a, narrow ty (.ref a) = .ref a ∧ fits ty (.ref a) = true := by
  cases ty <;> first | exact ⟨⟨rfl, rfl⟩, fun _ => ⟨rfl, rfl⟩⟩ | (simp [q_isR] at hr)
theorem xe_putr {idx c i k : Nat} {r : Option (Nat × Nat)} (hd : decode y.2.1 pc = .ok (.putfield idx, 3)) (hf : q_fl y.1.cls idx c k) (hfin : ∀ q, q_cl[c]? = some q → (q.2.1 k).2.2.2 = false ∨ ((q.2.1 k).2.2.2 = true ∧ y.1.name = "<init>" ∧ (q.2.1 k).1 = y.1.cls ∧ Cond.fieldLink y.1.cls idx (q.2.1 k).1 (q.2.1 k).2.1 (q.2.1 k).2.2.1 ∈ q_gw)) (hR : q_isR (q_ty c k) = true) (ht : ∀ x v, q_tv (q_ty c k) x v = v) (kk : q_E g y R K u (pc + 3) ls st (q_sr h c i k r)) : q_E g y R K u pc ls (q_rr r :: q_O c i :: st) h := by
  refine xe_put (v := q_rr r) (h' := q_sr h c i k r) hd hf hfin (fun ad => ?_) rfl (fun d j n hne => ⟨rfl, ?_⟩) (fun ad => ?_) (fun z1 z q hq => ?_) kk
  · cases r with
    | none => exact (q_nr hR).1
    | some q => exact (q_nr hR).2 _
  · show (if d = c ∧ j = i ∧ n = k then r else h.2.1 d j n) = h.2.1 d j n
    rw [if_neg hne]
  · rw [ht, q_c_rr]
    show q_rf ad r = q_rf ad (if c = c ∧ i = i ∧ k = k then r else h.2.1 c i k)
    rw [if_pos ⟨rfl, rfl, rfl⟩]
  · have e : (if c = c ∧ i = i ∧ k = k then r else h.2.1 c i k) = some q := hq
    rw [if_pos ⟨rfl, rfl, rfl⟩] at e
    subst e
    exact z1
end QHP
end
section
theorem q_arr {g : q_G} {ad : Nat → Nat → Nat} {h : q_H} {H : Heap} {c i : Nat} {x : FieldType × Nat} (hP : q_P g ad h H) (hi : i < h.2.2 c) (hp : q_pk c = some x) : H[ad c i]? = some (arrV (g.2.2.1 x.1) x.2 (fun j => q_tv x.1 (h.1 c i j) (q_rf ad (h.2.1 c i j)))) := by
  rw [(hP.1 c i hi).1 x hp]
  have hs : q_sv ad h c i = (fun j => q_tv x.1 (h.1 c i j) (q_rf ad (h.2.1 c i j))) := by
    funext k
    unfold q_sv q_sT
    rw [hp]
  rw [hs]
section QAR
variable {g : q_G} {y : q_M} {R : Room} {K : List q_V → q_H → Prop} {u : Nat × Nat} {pc : Nat} {ls : List (Option q_V)} {st : List q_V} {h : q_H}
theorem xe_iald {c i n : Nat} {j : Int32} (hd : decode y.2.1 pc = .ok (.iaload, 1)) (hp : q_pk c = some (.int, n)) (hj : vp_in j n) (kk : q_E g y R K u (pc + 1) ls (q_I (h.1 c i j.toNatClampNeg) :: st) h) : q_E g y R K u pc ls (q_I j :: q_O c i :: st) h := by
  intro p e s m args below meth c0 Q ad0 n0 ad H locs L C F D hL hv h1 h2
  have hi : i < h.2.2 c := q_hd (q_tl hv)
  have k2 := kk p e s m args below meth c0 Q ad0 n0 ad H locs L C F D hL (q_cs trivial (q_tl (q_tl hv))) h1 h2
  obtain ⟨hx, hb, hml, hown, hts, -, -, -, hK, -⟩ := C
  have hlt : j.toNatClampNeg < n := Nat.not_le.mp fun q => hj (Or.inr q)
  exact W.iald (v := .int (h.1 c i j.toNatClampNeg)) hx hb (q_arr D.1 hi hp) ((hK.2.1 c _ hp).1 n _) (fun q => by cases q) (by show ¬ (j < 0 ∨ (arrV _ _ _).slots.size ≤ _); rw [arrV_size]; exact hj) (by show (arrV _ _ _).slots[_]? = _; rw [arrV_read _ _ hlt]; rfl) rfl rfl hd k2
theorem xe_bald {c i n : Nat} {j : Int32} (hd : decode y.2.1 pc = .ok (.baload, 1)) (hp : q_pk c = some (.byte, n)) (hj : vp_in j n) (kk : q_E g y R K u (pc + 1) ls (q_I (h.1 c i j.toNatClampNeg) :: st) h) : q_E g y R K u pc ls (q_I j :: q_O c i :: st) h := by
  intro p e s m args below meth c0 Q ad0 n0 ad H locs L C F D hL hv h1 h2
  have hi : i < h.2.2 c := q_hd (q_tl hv)
  have k2 := kk p e s m args below meth c0 Q ad0 n0 ad H locs L C F D hL (q_cs trivial (q_tl (q_tl hv))) h1 h2
  obtain ⟨hx, hb, hml, hown, hts, -, -, -, hK, -⟩ := C
  have hlt : j.toNatClampNeg < n := Nat.not_le.mp fun q => hj (Or.inr q)
  exact W.bald (v := .int (h.1 c i j.toNatClampNeg)) hx hb (q_arr D.1 hi hp) ((hK.2.1 c _ hp).1 n _) (fun q => by cases q) (by show ¬ (j < 0 ∨ (arrV _ _ _).slots.size ≤ _); rw [arrV_size]; exact hj) (by show (arrV _ _ _).slots[_]? = _; rw [arrV_read _ _ hlt]; rfl) rfl rfl hd k2
theorem xe_zald {c i n : Nat} {j : Int32} (hd : decode y.2.1 pc = .ok (.baload, 1)) (hp : q_pk c = some (.boolean, n)) (hj : vp_in j n) (kk : q_E g y R K u (pc + 1) ls (q_I (h.1 c i j.toNatClampNeg) :: st) h) : q_E g y R K u pc ls (q_I j :: q_O c i :: st) h := by
  intro p e s m args below meth c0 Q ad0 n0 ad H locs L C F D hL hv h1 h2
  have hi : i < h.2.2 c := q_hd (q_tl hv)
  have k2 := kk p e s m args below meth c0 Q ad0 n0 ad H locs L C F D hL (q_cs trivial (q_tl (q_tl hv))) h1 h2
  obtain ⟨hx, hb, hml, hown, hts, -, -, -, hK, -⟩ := C
  have hlt : j.toNatClampNeg < n := Nat.not_le.mp fun q => hj (Or.inr q)
  exact W.zald (v := .int (h.1 c i j.toNatClampNeg)) hx hb (q_arr D.1 hi hp) ((hK.2.1 c _ hp).1 n _) (fun q => by cases q) (by show ¬ (j < 0 ∨ (arrV _ _ _).slots.size ≤ _); rw [arrV_size]; exact hj) (by show (arrV _ _ _).slots[_]? = _; rw [arrV_read _ _ hlt]; rfl) rfl rfl hd k2
theorem xe_lald {c i n : Nat} {j : Int32} (hd : decode y.2.1 pc = .ok (.laload, 1)) (hp : q_pk c = some (.long, n)) (hj : vp_in j n) (kk : q_E g y R K u (pc + 1) ls (q_J (h.1 c i j.toNatClampNeg).toInt64 :: st) h) : q_E g y R K u pc ls (q_I j :: q_O c i :: st) h := by
  intro p e s m args below meth c0 Q ad0 n0 ad H locs L C F D hL hv h1 h2
  have hi : i < h.2.2 c := q_hd (q_tl hv)
  have k2 := kk p e s m args below meth c0 Q ad0 n0 ad H locs L C F D hL (q_cs trivial (q_tl (q_tl hv))) h1 h2
  obtain ⟨hx, hb, hml, hown, hts, -, -, -, hK, -⟩ := C
  have hlt : j.toNatClampNeg < n := Nat.not_le.mp fun q => hj (Or.inr q)
  exact W.lald (v := .long (h.1 c i j.toNatClampNeg).toInt64) hx hb (q_arr D.1 hi hp) ((hK.2.1 c _ hp).1 n _) (fun q => by cases q) (by show ¬ (j < 0 ∨ (arrV _ _ _).slots.size ≤ _); rw [arrV_size]; exact hj) (by show (arrV _ _ _).slots[_]? = _; rw [arrV_read _ _ hlt]; rfl) rfl rfl hd k2
theorem xe_aald {c i n : Nat} {j : Int32} {C1 : String} {r : Option (Nat × Nat)} (hd : decode y.2.1 pc = .ok (.aaload, 1)) (hp : q_pk c = some (.object C1, n)) (hj : vp_in j n) (hr : h.2.1 c i j.toNatClampNeg = r) (kk : q_E g y R K u (pc + 1) ls (q_rr r :: st) h) : q_E g y R K u pc ls (q_I j :: q_O c i :: st) h := by
  intro p e s m args below meth c0 Q ad0 n0 ad H locs L C F D hL hv h1 h2
  have hi : i < h.2.2 c := q_hd (q_tl hv)
  have hvk : q_vk h (q_rr r) := by
    cases r with
    | none => exact trivial
    | some q => exact D.1.2.2.2 c i _ q hi hr
  have k2 := kk p e s m args below meth c0 Q ad0 n0 ad H locs L C F D hL (q_cs hvk (q_tl (q_tl hv))) h1 h2
  obtain ⟨hx, hb, hml, hown, hts, -, -, -, hK, -⟩ := C
  have hlt : j.toNatClampNeg < n := Nat.not_le.mp fun q => hj (Or.inr q)
  exact W.aald (v := q_c ad (q_rr r)) (ty := .object C1) hx hb (q_arr D.1 hi hp) ((hK.2.1 c _ hp).1 n _) rfl (fun q => by cases q) (by show ¬ (j < 0 ∨ (arrV _ _ _).slots.size ≤ _); rw [arrV_size]; exact hj) (by show (arrV _ _ _).slots[_]? = _; rw [arrV_read _ _ hlt, q_c_rr, ← hr]; rfl) rfl rfl hd k2
theorem q_D.ast {ad0 : Nat → Nat → Nat} {n0 : Nat → Nat} {s : State} {ad : Nat → Nat → Nat} {H H1 : Heap} {locs : List Loc} {c i n t k0 : Nat} {ty : FieldType} {x : Int32} {v : Value} (D : q_D g ad0 n0 s ad h H locs) (hi : i < h.2.2 c) (hp : q_pk c = some (ty, n)) (hv : ∀ w, q_tv ty x w = v) (e1 : H1[ad c i]? = some ((arrV (g.2.2.1 ty) n (fun j => q_tv ty (h.1 c i j) (q_rf ad (h.2.1 c i j)))).setSlot t v)) (z : H1.size = H.size) (oq : ∀ q : Nat, q ≠ ad c i → H1[q]? = H[q]?) : q_D g ad0 n0 s ad (q_set h c i t x) H1 (locs ++ [⟨ad c i, k0⟩]) := by
  refine D.upd hi rfl (fun d j hne k => ⟨if_neg (fun w => hne ⟨w.1, w.2.1⟩), rfl⟩) (fun k q hq => D.1.2.2.2 c i k q hi hq) ⟨fun x0 hx0 => ?_, fun hx0 => (by rw [hp] at hx0; cases hx0)⟩ z oq
  cases hp.symm.trans hx0
  rw [e1, arrV_store]
  congr 2
  funext j
  unfold q_sv q_sT
  rw [hp]
  by_cases hj : j = t
  · subst hj
    show (if j = j then v else _) = q_tv ty (if c = c ∧ i = i ∧ j = j then x else h.1 c i j) _
    rw [if_pos rfl, if_pos ⟨rfl, rfl, rfl⟩, hv]
  · show (if j = t then v else _) = q_tv ty (if c = c ∧ i = i ∧ j = t then x else h.1 c i j) _
    rw [if_neg hj, if_neg (fun w => hj w.2.2)]
    rfl
theorem xe_iast {c i n : Nat} {j x : Int32} (hd : decode y.2.1 pc = .ok (.iastore, 1)) (hp : q_pk c = some (.int, n)) (hj : vp_in j n) (kk : q_E g y R K u (pc + 1) ls st (q_set h c i j.toNatClampNeg x)) : q_E g y R K u pc ls (q_I x :: q_I j :: q_O c i :: st) h := by
  intro p e s m args below meth c0 Q ad0 n0 ad H locs L C F D hL hv h1 h2
  have hi : i < h.2.2 c := q_hd (q_tl (q_tl hv))
  obtain ⟨hx, hb, hml, hown, hts, -, -, -, hK, -⟩ := id C
  refine W.iast hx hb (q_arr D.1 hi hp) ((hK.2.1 c _ hp).1 n _) (fun q => by cases q) (by show ¬ (j < 0 ∨ (arrV _ _ _).slots.size ≤ _); rw [arrV_size]; exact hj) rfl rfl hd fun H1 e1 z oq => ?_
  exact kk p e s m args below meth c0 Q ad0 n0 ad H1 _ L C F (D.ast hi hp (fun _ => rfl) e1 z oq) (hL.upd rfl) (q_vs (q_tl (q_tl (q_tl hv))) rfl) h1 h2
theorem xe_bast {c i n : Nat} {j x : Int32} (hd : decode y.2.1 pc = .ok (.bastore, 1)) (hp : q_pk c = some (.byte, n)) (hj : vp_in j n) (kk : q_E g y R K u (pc + 1) ls st (q_set h c i j.toNatClampNeg (vp_nar .byte x))) : q_E g y R K u pc ls (q_I x :: q_I j :: q_O c i :: st) h := by
  intro p e s m args below meth c0 Q ad0 n0 ad H locs L C F D hL hv h1 h2
  have hi : i < h.2.2 c := q_hd (q_tl (q_tl hv))
  obtain ⟨hx, hb, hml, hown, hts, -, -, -, hK, -⟩ := id C
  refine W.bast hx hb (q_arr D.1 hi hp) ((hK.2.1 c _ hp).1 n _) (fun q => by cases q) (by show ¬ (j < 0 ∨ (arrV _ _ _).slots.size ≤ _); rw [arrV_size]; exact hj) rfl rfl hd fun H1 e1 z oq => ?_
  exact kk p e s m args below meth c0 Q ad0 n0 ad H1 _ L C F (D.ast hi hp (fun _ => rfl) e1 z oq) (hL.upd rfl) (q_vs (q_tl (q_tl (q_tl hv))) rfl) h1 h2
theorem xe_zast {c i n : Nat} {j x : Int32} (hd : decode y.2.1 pc = .ok (.bastore, 1)) (hp : q_pk c = some (.boolean, n)) (hj : vp_in j n) (kk : q_E g y R K u (pc + 1) ls st (q_set h c i j.toNatClampNeg (vp_nar .boolean x))) : q_E g y R K u pc ls (q_I x :: q_I j :: q_O c i :: st) h := by
  intro p e s m args below meth c0 Q ad0 n0 ad H locs L C F D hL hv h1 h2
  have hi : i < h.2.2 c := q_hd (q_tl (q_tl hv))
  obtain ⟨hx, hb, hml, hown, hts, -, -, -, hK, -⟩ := id C
  refine W.zast hx hb (q_arr D.1 hi hp) ((hK.2.1 c _ hp).1 n _) (fun q => by cases q) (by show ¬ (j < 0 ∨ (arrV _ _ _).slots.size ≤ _); rw [arrV_size]; exact hj) rfl rfl hd fun H1 e1 z oq => ?_
  exact kk p e s m args below meth c0 Q ad0 n0 ad H1 _ L C F (D.ast hi hp (fun _ => rfl) e1 z oq) (hL.upd rfl) (q_vs (q_tl (q_tl (q_tl hv))) rfl) h1 h2
theorem xe_last {c i n : Nat} {j x : Int32} (hd : decode y.2.1 pc = .ok (.lastore, 1)) (hp : q_pk c = some (.long, n)) (hj : vp_in j n) (kk : q_E g y R K u (pc + 1) ls st (q_set h c i j.toNatClampNeg x)) : q_E g y R K u pc ls (q_J x.toInt64 :: q_I j :: q_O c i :: st) h := by
  intro p e s m args below meth c0 Q ad0 n0 ad H locs L C F D hL hv h1 h2
  have hi : i < h.2.2 c := q_hd (q_tl (q_tl hv))
  obtain ⟨hx, hb, hml, hown, hts, -, -, -, hK, -⟩ := id C
  refine W.last hx hb (q_arr D.1 hi hp) ((hK.2.1 c _ hp).1 n _) (fun q => by cases q) (by show ¬ (j < 0 ∨ (arrV _ _ _).slots.size ≤ _); rw [arrV_size]; exact hj) rfl rfl hd fun H1 e1 z oq => ?_
  exact kk p e s m args below meth c0 Q ad0 n0 ad H1 _ L C F (D.ast hi hp (fun _ => rfl) e1 z oq) (hL.upd rfl) (q_vs (q_tl (q_tl (q_tl hv))) rfl) h1 h2
theorem xe_aast {c i n d i2 : Nat} {j : Int32} {q : vw_C} (hd : decode y.2.1 pc = .ok (.aastore, 1)) (hp : q_pk c = some (.object q.1, n)) (hq : q_cl[d]? = some q) (hj : vp_in j n) (kk : q_E g y R K u (pc + 1) ls st (q_sr h c i j.toNatClampNeg (some (d, i2)))) : q_E g y R K u pc ls (q_O d i2 :: q_I j :: q_O c i :: st) h := by
  intro p e s m args below meth c0 Q ad0 n0 ad H locs L C F D hL hv h1 h2
  have hi2 : i2 < h.2.2 d := q_hd hv
  have hi : i < h.2.2 c := q_hd (q_tl (q_tl hv))
  obtain ⟨hx, hb, hml, hown, hts, -, -, -, hK, -⟩ := id C
  have hlt : j.toNatClampNeg < n := Nat.not_le.mp fun q => hj (Or.inr q)
  have h0 : ¬ j < 0 := fun q => hj (Or.inl q)
  obtain ⟨cellV, g1, g2, g3, -⟩ := q_obj D.1 hi2 hq
  have hcls := (hK.1 d q hq).2
  obtain ⟨kA, comp, k1, k2, k3, -⟩ := (hK.2.1 c _ hp).2
  have hcomp : comp = g.2.1.1 d := Option.some.inj (k3.symm.trans hcls.1)
  subst hcomp
  obtain ⟨kC, hkC, -⟩ := hcls.2
  refine W.aast hx hb (q_arr D.1 hi hp) (fun q h => by cases h) (fun h => by cases h) k1 k2 rfl hkC ⟨h0, by show _ < (arrV _ _ _).slots.size; rw [arrV_size]; exact hlt⟩ g1 (fun q h => by rw [g3] at h; cases h) (by rw [g2]; exact hkC) (by rw [g2]; exact va_assign hcls) rfl rfl hd fun H1 e1 z oq => ?_
  have D2 : q_D g ad0 n0 s ad (q_sr h c i j.toNatClampNeg (some (d, i2))) H1 (locs ++ [⟨ad c i, j.toNatClampNeg⟩]) := by
    refine D.upd hi rfl (fun d j hne k => ⟨rfl, if_neg (fun w => hne ⟨w.1, w.2.1⟩)⟩) (fun k r hr => ?_) ⟨fun x0 hx0 => ?_, fun hx0 => (by rw [hp] at hx0; cases hx0)⟩ z oq
    · have e : (if c = c ∧ i = i ∧ k = j.toNatClampNeg then some (d, i2) else h.2.1 c i k) = some r := hr
      by_cases hk : k = j.toNatClampNeg
      · rw [if_pos ⟨rfl, rfl, hk⟩] at e
        cases e
        exact hi2
      · rw [if_neg (fun w => hk w.2.2)] at e
        exact D.1.2.2.2 c i k r hi e
    · cases hp.symm.trans hx0
      rw [e1, arrV_store]
      congr 2
      funext k
      unfold q_sv q_sT
      rw [hp]
      by_cases hk : k = j.toNatClampNeg
      · subst hk
        show (if j.toNatClampNeg = j.toNatClampNeg then Value.ref (ad d i2) else _) = q_rf ad (if c = c ∧ i = i ∧ j.toNatClampNeg = j.toNatClampNeg then some (d, i2) else h.2.1 c i j.toNatClampNeg)
        rw [if_pos rfl, if_pos ⟨rfl, rfl, rfl⟩]
        rfl
      · show (if k = j.toNatClampNeg then Value.ref (ad d i2) else q_rf ad (h.2.1 c i k)) = q_rf ad (if c = c ∧ i = i ∧ k = j.toNatClampNeg then some (d, i2) else h.2.1 c i k)
        rw [if_neg hk, if_neg (fun w => hk w.2.2)]
  exact kk p e s m args below meth c0 Q ad0 n0 ad H1 _ L C F D2 (hL.upd rfl) (q_vs (q_tl (q_tl (q_tl hv))) rfl) h1 h2
end QAR
end
section
theorem q_def {ty : FieldType} (h : ty ≠ .float ∧ ty ≠ .double) : q_tv ty 0 .null = defaultValue ty := by
  cases ty <;> first | rfl | exact absurd rfl h.1 | exact absurd rfl h.2 | decide
theorem q_pk_nf : ∀ c x, q_pk c = some x → x.1 ≠ .float ∧ x.1 ≠ .double := by
  intro c x hx
  unfold q_pk at hx
  split at hx <;> first | (cases hx; exact ⟨by decide, by decide⟩) | (cases hx)
def q_ad (ad : Nat → Nat → Nat) (c n a : Nat) : Nat → Nat → Nat := fun d j => if d = c ∧ j = n then a else ad d j
theorem q_ext {h : q_H} {ad ad' : Nat → Nat → Nat} {st : List q_V} (hv : ∀ v ∈ st, q_vk h v) (he : ∀ c i, i < h.2.2 c → ad' c i = ad c i) : st.map (q_c ad) = st.map (q_c ad') := by
  apply List.map_congr_left
  intro v hm
  have h1 := hv v hm
  cases v with
  | inl x => rfl
  | inr q =>
    show Value.ref (ad q.1 q.2) = Value.ref (ad' q.1 q.2)
    rw [he q.1 q.2 h1]
theorem q_L.ext {ad ad' : Nat → Nat → Nat} {h h' : q_H} {n : Nat} {ls : List (Option q_V)} {L : Array Slot} (hL : q_L ad h n ls L) (he : ∀ c i, i < h.2.2 c → ad' c i = ad c i) (hm : ∀ c, h.2.2 c ≤ h'.2.2 c) : q_L ad' h' n ls L := by
  refine ⟨hL.1, hL.2.1, hL.2.2.1, fun i v hi => ?_⟩
  obtain ⟨a1, a2, a3⟩ := hL.2.2.2 i v hi
  cases v with
  | inl x => exact ⟨a1, trivial, a3⟩
  | inr q =>
    refine ⟨?_, Nat.lt_of_lt_of_le a2 (hm q.1), a3⟩
    rw [a1]
    show some (Slot.val (Value.ref (ad q.1 q.2))) = some (Slot.val (Value.ref (ad' q.1 q.2)))
    rw [he q.1 q.2 a2]
theorem q_vm {h h' : q_H} {st : List q_V} (hv : ∀ v ∈ st, q_vk h v) (hm : ∀ c, h.2.2 c ≤ h'.2.2 c) : ∀ v ∈ st, q_vk h' v := by
  intro v hmem
  have h1 := hv v hmem
  cases v with
  | inl x => exact trivial
  | inr q => exact Nat.lt_of_lt_of_le h1 (hm q.1)
theorem q_nu_le (h : q_H) (c d : Nat) : h.2.2 d ≤ (q_nu h c).2.2 d := by
  show h.2.2 d ≤ if d = c then h.2.2 c + 1 else h.2.2 d
  by_cases e : d = c
  · subst e
    rw [if_pos rfl]
    exact Nat.le_succ _
  · rw [if_neg e]
    exact Nat.le_refl _
theorem q_ad_old {h : q_H} {ad : Nat → Nat → Nat} {c a : Nat} : ∀ d i, i < h.2.2 d → q_ad ad c (h.2.2 c) a d i = ad d i := by
  intro d i hi
  unfold q_ad
  rw [if_neg]
  rintro ⟨rfl, rfl⟩
  exact Nat.lt_irrefl _ hi
theorem q_D.new {g : q_G} {ad0 : Nat → Nat → Nat} {n0 : Nat → Nat} {s : State} {ad : Nat → Nat → Nat} {h : q_H} {H H1 : Heap} {locs : List Loc} {c : Nat} (D : q_D g ad0 n0 s ad h H locs) (hbs : g.2.2.2.1 ≤ s.heap.size) (hce : (∀ x, q_pk c = some x → H1[H.size]? = some (arrV (g.2.2.1 x.1) x.2 (fun j => q_tv (q_sT c j) 0 .null))) ∧ (q_pk c = none → ∃ q, q_cl[c]? = some q ∧ t_OB H.size (g.2.1.1 c) q.2.2 (g.2.1.2 c) H1 (fun k => q_tv (q_sT c k) 0 .null))) (z : H.size ≤ H1.size) (oq : ∀ q : Nat, q < H.size → H1[q]? = H[q]?) : q_D g ad0 n0 s (q_ad ad c (h.2.2 c) H.size) (q_nu h c) H1 locs := by
  obtain ⟨⟨p1, p2, p3, p4⟩, hS, hE⟩ := D
  have hold : ∀ d j, j < h.2.2 d → ad d j < H.size := by
    intro d j hj
    obtain ⟨a1, a2⟩ := p1 d j hj
    cases hp : q_pk d with
    | some x => exact (Array.getElem?_eq_some_iff.mp (a1 x hp)).1
    | none =>
      obtain ⟨q, -, cell, b2, -⟩ := a2 hp
      exact (Array.getElem?_eq_some_iff.mp b2).1
  have hcase : ∀ d j, j < (q_nu h c).2.2 d → j < h.2.2 d ∨ (d = c ∧ j = h.2.2 c) := by
    intro d j hj
    have hj2 : j < (if d = c then h.2.2 c + 1 else h.2.2 d) := hj
    by_cases e : d = c
    · subst e
      rw [if_pos rfl] at hj2
      rcases Nat.lt_or_ge j (h.2.2 d) with q | q
      · exact Or.inl q
      · exact Or.inr ⟨rfl, by omega⟩
    · rw [if_neg e] at hj2
      exact Or.inl hj2
  have hnew : q_ad ad c (h.2.2 c) H.size c (h.2.2 c) = H.size := if_pos ⟨rfl, rfl⟩
  have hrf : ∀ r : Option (Nat × Nat), (∀ q, r = some q → q.2 < h.2.2 q.1) → q_rf (q_ad ad c (h.2.2 c) H.size) r = q_rf ad r := by
    intro r hr
    cases r with
    | none => rfl
    | some q =>
      show Value.ref _ = Value.ref _
      rw [q_ad_old q.1 q.2 (hr q rfl)]
  refine ⟨⟨fun d j hj => ?_, fun d j d' j' hj hj' he => ?_, fun d j hj => ?_, fun d j k q hj hq => ?_⟩, ⟨Nat.le_trans hS.1 z, fun q h1 h2 => (oq q (Nat.lt_of_lt_of_le h1 hS.1)).trans (hS.2.1 q h1 h2), hS.2.2⟩, fun d => ⟨Nat.le_trans (hE d).1 (q_nu_le h c d), fun i hi => ?_⟩⟩
  · rcases hcase d j hj with q | ⟨rfl, rfl⟩
    · have hne : ¬ (d = c ∧ j = h.2.2 c) := by
        rintro ⟨rfl, rfl⟩
        exact Nat.lt_irrefl _ q
      have hs : q_sv (q_ad ad c (h.2.2 c) H.size) (q_nu h c) d j = q_sv ad h d j := by
        funext k
        unfold q_sv
        have e1 : (q_nu h c).1 d j k = h.1 d j k := if_neg hne
        have e2 : (q_nu h c).2.1 d j k = h.2.1 d j k := if_neg hne
        rw [e1, e2, hrf _ (fun r hr => p4 d j k r q hr)]
      obtain ⟨a1, a2⟩ := p1 d j q
      unfold q_ce
      rw [q_ad_old d j q, hs]
      refine ⟨fun x hx => ?_, fun hx => ?_⟩
      · rw [oq _ (hold d j q)]
        exact a1 x hx
      · obtain ⟨r, b1, b2⟩ := a2 hx
        exact ⟨r, b1, b2.kept (oq _ (hold d j q))⟩
    · have hs : q_sv (q_ad ad d (h.2.2 d) H.size) (q_nu h d) d (h.2.2 d) = (fun k => q_tv (q_sT d k) 0 .null) := by
        funext k
        unfold q_sv
        have e1 : (q_nu h d).1 d (h.2.2 d) k = 0 := if_pos ⟨rfl, rfl⟩
        have e2 : (q_nu h d).2.1 d (h.2.2 d) k = none := if_pos ⟨rfl, rfl⟩
        rw [e1, e2]
        rfl
      unfold q_ce
      rw [hnew, hs]
      exact hce
  · rcases hcase d j hj with q | ⟨rfl, rfl⟩
    · rcases hcase d' j' hj' with q' | ⟨rfl, rfl⟩
      · rw [q_ad_old d j q, q_ad_old d' j' q'] at he
        exact p2 d j d' j' q q' he
      · rw [q_ad_old d j q, hnew] at he
        exact absurd he (Nat.ne_of_lt (hold d j q))
    · rcases hcase d' j' hj' with q' | ⟨rfl, rfl⟩
      · rw [hnew, q_ad_old d' j' q'] at he
        exact absurd he.symm (Nat.ne_of_lt (hold d' j' q'))
      · exact ⟨rfl, rfl⟩
  · rcases hcase d j hj with q | ⟨rfl, rfl⟩
    · rw [q_ad_old d j q]
      exact p3 d j q
    · rw [hnew]
      exact Nat.le_trans hbs hS.1
  · rcases hcase d j hj with w | ⟨rfl, rfl⟩
    · have hne : ¬ (d = c ∧ j = h.2.2 c) := by
        rintro ⟨rfl, rfl⟩
        exact Nat.lt_irrefl _ w
      have e2 : (q_nu h c).2.1 d j k = h.2.1 d j k := if_neg hne
      rw [e2] at hq
      exact Nat.lt_of_lt_of_le (p4 d j k q w hq) (q_nu_le h c q.1)
    · have e2 : (q_nu h d).2.1 d (h.2.2 d) k = none := if_pos ⟨rfl, rfl⟩
      rw [e2] at hq
      cases hq
  · rw [q_ad_old d i (Nat.lt_of_lt_of_le hi (hE d).1)]
    exact (hE d).2 i hi
section QNW
variable {g : q_G} {y : q_M} {R : Room} {K : List q_V → q_H → Prop} {u : Nat × Nat} {pc : Nat} {ls : List (Option q_V)} {st : List q_V} {h : q_H}
theorem q_cont {p : Program} {e : Env} {s : State} {m : MethodId} {args : Array Value} {below : List Frame} {meth : Method} {c0 : Code} {Q : State → Prop} {ad0 : Nat → Nat → Nat} {n0 : Nat → Nat} {ad : Nat → Nat → Nat} {H H1 : Heap} {locs : List Loc} {L : Array Slot} {c k1 pc2 : Nat} (C : q_Cx g y p s m args meth c0) (F : q_F g y R K p e s m args below meth c0 Q ad0 n0) (D2 : q_D g ad0 n0 s (q_ad ad c (h.2.2 c) H.size) (q_nu h c) H1 locs) (hL : q_L ad h y.2.2.1 ls L) (hv : ∀ v ∈ st, q_vk h v) (h1 : u.1 + 1 ≤ R.cells) (h2 : u.2 + k1 ≤ R.slots) (kk : q_E g y R K (u.1 + 1, u.2 + k1) pc2 ls (q_O c (h.2.2 c) :: st) (q_nu h c)) : W p g.1 e R s m args below meth c0 H1 locs (u.1 + 1) (u.2 + k1) Q (F0 m pc2 L (.ref H.size :: st.map (q_c ad))) := by
  have k2 := kk p e s m args below meth c0 Q ad0 n0 _ H1 locs L C F D2 (hL.ext q_ad_old (q_nu_le h c)) (q_cs (by show h.2.2 c < if c = c then h.2.2 c + 1 else h.2.2 c; rw [if_pos rfl]; exact Nat.lt_succ_self _) (q_vm hv (q_nu_le h c))) h1 h2
  rw [q_ext hv q_ad_old (ad := ad) (ad' := q_ad ad c (h.2.2 c) H.size)]
  have e : q_ad ad c (h.2.2 c) H.size c (h.2.2 c) = H.size := if_pos ⟨rfl, rfl⟩
  have e2 : (q_O c (h.2.2 c) :: st).map (q_c (q_ad ad c (h.2.2 c) H.size)) = .ref H.size :: st.map (q_c (q_ad ad c (h.2.2 c) H.size)) := by
    show Value.ref (q_ad ad c (h.2.2 c) H.size c (h.2.2 c)) :: _ = _
    rw [e]
  rw [e2] at k2
  exact k2
theorem xe_new {idx c : Nat} {q : vw_C} (hd : decode y.2.1 pc = .ok (.new idx, 3)) (hq : q_cl[c]? = some q) (hc : Cond.classLink y.1.cls idx q.1 ∈ q_gw) (hi : Cond.instantiable q.1 q.2.2 ∈ q_gw) (hn : Cond.initialized q.1 ∈ q_gw) (hr1 : u.1 + 1 ≤ R.cells) (hr2 : u.2 + q.2.2 ≤ R.slots) (kk : q_E g y R K (u.1 + 1, u.2 + q.2.2) (pc + 3) ls (q_O c (h.2.2 c) :: st) (q_nu h c)) : q_E g y R K u pc ls st h := by
  intro p e s m args below meth c0 Q ad0 n0 ad H locs L C F D hL hv h1 h2
  obtain ⟨hx, hb, hml, hown, hts, -, -, -, hK, hbs⟩ := id C
  have hKn := hK.1 c q hq
  obtain ⟨oty, -, olay, onf⟩ := q_cl_ok c q hq
  have hpk := q_cl_pk c q hq
  refine W.newcK hx hb hown (hts _ hc) (hts _ hi) (hts _ hn) rfl hd hr1 hr2 hKn.2.1 rfl fun H1 kC hkC e1 z1 o1 => ?_
  refine q_cont C F (D.new hbs ⟨fun x hx => (by rw [hpk] at hx; cases hx), fun _ => ⟨q, hq, ?_⟩⟩ (by omega) o1) hL hv hr1 hr2 kk
  refine (u_born (q_ty c) hts olay hKn hkC e1 oty).to (fun j hj => ?_)
  unfold q_sT
  rw [hpk]
  exact (q_def (onf j hj)).symm
theorem xe_newa {c n : Nat} {ty : FieldType} {atype : ArrayType} {x : Int32} (hd : decode y.2.1 pc = .ok (.newarray atype, 2)) (hp : q_pk c = some (ty, n)) (hty : newarray.typeOf atype = ty) (hc : Cond.arrayClass ty ∈ q_gw) (hpr : ∀ (U : State) (cA : ClassId), va_RA U cA ty → U.vm.findClass ("[" ++ ty.toString) = some cA) (hx0 : ¬ x < 0) (hx1 : x.toNatClampNeg = n) (hby : n * componentBytes ty ≤ 536870912) (hr1 : u.1 + 1 ≤ R.cells) (hr2 : u.2 + n ≤ R.slots) (kk : q_E g y R K (u.1 + 1, u.2 + n) (pc + 2) ls (q_O c (h.2.2 c) :: st) (q_nu h c)) : q_E g y R K u pc ls (q_I x :: st) h := by
  intro p e s m args below meth c0 Q ad0 n0 ad H locs L C F D hL hv h1 h2
  obtain ⟨hx, hb, hml, hown, hts, -, -, -, hK, hbs⟩ := id C
  subst hty
  refine va_newaK hx hb (hts _ hc) rfl hd rfl hx0 hx1 hby hr1 hr2 rfl fun H1 cA e1 z1 o1 hAr hNm => ?_
  have hcA : cA = g.2.2.1 (newarray.typeOf atype) := Option.some.inj (hNm.symm.trans (hpr s _ (hK.2.1 c _ hp).2))
  subst hcA
  refine q_cont C F (D.new hbs ⟨fun w hw => ?_, fun hw => (by rw [hp] at hw; cases hw)⟩ (by omega) o1) hL (q_tl hv) hr1 hr2 kk
  cases hp.symm.trans hw
  rw [e1]
  congr 2
  funext j
  unfold q_sT
  rw [hp]
  exact (q_def (q_pk_nf c _ hp)).symm
theorem xe_newq {c n idx : Nat} {C1 : String} {x : Int32} (hd : decode y.2.1 pc = .ok (.anewarray idx, 3)) (hp : q_pk c = some (.object C1, n)) (hc : Cond.classLink y.1.cls idx C1 ∈ q_gw) (hov : C1 ∈ q_ov) (hx0 : ¬ x < 0) (hx1 : x.toNatClampNeg = n) (hby : n * 4 ≤ 536870912) (hr1 : u.1 + 1 ≤ R.cells) (hr2 : u.2 + n ≤ R.slots) (kk : q_E g y R K (u.1 + 1, u.2 + n) (pc + 3) ls (q_O c (h.2.2 c) :: st) (q_nu h c)) : q_E g y R K u pc ls (q_I x :: st) h := by
  intro p e s m args below meth c0 Q ad0 n0 ad H locs L C F D hL hv h1 h2
  obtain ⟨hx, hb, hml, hown, hts, -, -, -, hK, hbs⟩ := id C
  subst hx1
  refine W.anew hx hb hown (hts _ hc) (va_AO.use (hK.2.2.2.1 C1 hov)) rfl hd rfl hx0 hby hr1 hr2 fun cA kA comp f1 f2 f3 f4 => ?_
  generalize hH1 : H.push ({ cls := cA, slots := Array.replicate x.toNatClampNeg .null, vm := .none } : Cell) = H1
  have z1 : H1.size = H.size + 1 := by rw [← hH1, Array.size_push]
  have e1 : H1[H.size]? = some (arrV cA x.toNatClampNeg (fun _ => .null)) := by rw [← hH1, Array.getElem?_push_size, ← arrV_new]
  have o1 : ∀ q : Nat, q < H.size → H1[q]? = H[q]? := fun q hq => by rw [← hH1, Array.getElem?_push, if_neg (Nat.ne_of_lt hq)]
  obtain ⟨kA', comp', k1, k2, k3, k4⟩ := (hK.2.1 c _ hp).2
  have hcA : cA = g.2.2.1 (.object C1) := Option.some.inj (f1.symm.trans k4)
  subst hcA
  refine q_cont C F (D.new hbs ⟨fun w hw => ?_, fun hw => (by rw [hp] at hw; cases hw)⟩ (by omega) o1) hL (q_tl hv) hr1 hr2 kk
  cases hp.symm.trans hw
  rw [e1]
  congr 2
  funext j
  unfold q_sT
  rw [hp]
  rfl
end QNW
end
section
def q_Pc (g : q_G) (as : List q_V) (h : q_H) (ad : Nat → Nat → Nat) : Array Value → State → Prop := fun v U => v = (as.map (q_c ad)).toArray ∧ q_P g ad h U.heap ∧ q_K g U ∧ g.2.2.2.1 ≤ U.heap.size
def q_Qc (g : q_G) (h : q_H) (ad : Nat → Nat → Nat) (K : List q_V → q_H → Prop) : Array Value → State → Outcome → State → Prop := fun _ s0 oc t => ∃ (v : List q_V) (h' : q_H) (ad' : Nat → Nat → Nat), oc = .returned ((v.map (q_c ad')).head?) ∧ v.length ≤ 1 ∧ K v h' ∧ q_P g ad' h' t.heap ∧ (∀ x ∈ v, q_vk h' x) ∧ (∀ c, h.2.2 c ≤ h'.2.2 c ∧ ∀ i, i < h.2.2 c → ad' c i = ad c i) ∧ va_F (q_A g) s0 t
def q_Ct (g : q_G) (y : q_M) (R : Room) (as : List q_V) (h : q_H) (K : List q_V → q_H → Prop) : Prop := ∀ ad, Met g.1 y.1 (q_wy y) R (q_Pc g as h ad) (q_Qc g h ad K) R.cells R.slots (q_A g)
theorem q_blind {g : q_G} {as : List q_V} {h : q_H} {ad : Nat → Nat → Nat} : FrameBlind (q_Pc g as h ad) := fun _ _ _ _ q => ⟨q.1, q.2.1, q.2.2.1.blind, q.2.2.2⟩
theorem q_args : ∀ (vs : List Value) (k : Nat), (∀ v ∈ vs, v.category = 1) → ∀ (i : Nat) (v : Value), vs[i]? = some v → (k + i, v) ∈ lv_args k vs := by
  intro vs
  induction vs with
  | nil => intro k _ i v hi; simp at hi
  | cons a vs ih =>
    intro k hc i v hi
    have ha : ¬ a.category = 2 := by
      have := hc a List.mem_cons_self
      omega
    unfold lv_args
    rw [if_neg ha]
    cases i with
    | zero =>
      simp at hi
      subst hi
      exact List.mem_cons_self
    | succ i =>
      have := ih (k + 1) (fun v hv => hc v (List.mem_cons_of_mem _ hv)) i v (by simpa using hi)
      rw [show k + (i + 1) = k + 1 + i by omega]
      exact List.mem_cons_of_mem _ this
theorem q_sl : ∀ (vs : List Value), (∀ v ∈ vs, v.category = 1) → (lg_sl vs).length = vs.length := by
  intro vs
  induction vs with
  | nil => intro _; rfl
  | cons a vs ih =>
    intro hc
    have ha : ¬ a.category = 2 := by
      have := hc a List.mem_cons_self
      omega
    have h2 := ih (fun v hv => hc v (List.mem_cons_of_mem _ hv))
    unfold lg_sl at h2 ⊢
    simp [List.flatMap_cons, ha, h2]
theorem q_mk {g : q_G} {y : q_M} {R : Room} {K : List q_V → q_H → Prop} {as : List q_V} {ls : List (Option q_V)} {h : q_H} (hpl : plainName y.1.cls = true) (hls : ls = as.map some ++ List.replicate (y.2.2.1 - as.length) none) (hn : as.length ≤ y.2.2.1) (hc : ∀ v ∈ as, q_sc v = 1) (hvk : ∀ v ∈ as, q_vk h v) (hE : q_E g y R K (0, 0) 0 ls [] h) : q_Ct g y R as h K := by
  intro ad
  refine Met.ofW (cc := y.2.1) (maxL := y.2.2.1) (ret := y.2.2.2) hpl rfl ?_
  intro p e s m args below meth c s₁ B hml hv
  obtain ⟨rfl, hP, hK, hbs⟩ := hv
  have hx := B.exec
  have hb := B.bytes
  have hr := B.returns
  have hts := atoms_spec (ws := q_wy y) B.pre
  have hown : s.vm.findClass y.1.cls = some m.cls := findClass_of_methodNamed B.named
  have hlocks := B.notSynchronized
  have hnm : meth.name = y.1.name := (name_of_methodNamed B.named B.method).1
  have hcat : ∀ v ∈ as.map (q_c ad), v.category = 1 := by
    intro v hv
    obtain ⟨w, hw, rfl⟩ := List.mem_map.mp hv
    rw [q_c_cat]
    exact hc w hw
  have hlen : (lg_sl (as.map (q_c ad))).length = as.length := by rw [q_sl _ hcat, List.length_map]
  have hl := lv_entry (as.map (q_c ad)) (n := y.2.2.1) (by rw [hlen]; exact hn)
  rw [lg_entry_eq]
  generalize (lg_sl (as.map (q_c ad)) ++ List.replicate (y.2.2.1 - (lg_sl (as.map (q_c ad))).length) Slot.unset).toArray = L at hl ⊢
  have hL : q_L ad h y.2.2.1 ls L := by
    refine ⟨hl.1, hl.2.1, by rw [hls, List.length_append, List.length_map, List.length_replicate]; omega, fun i v hi => ?_⟩
    rw [hls] at hi
    by_cases hil : i < as.length
    · rw [List.getElem?_append_left (by rw [List.length_map]; exact hil), List.getElem?_map] at hi
      cases ha : as[i]? with
      | none => rw [ha] at hi; simp at hi
      | some w =>
        rw [ha] at hi
        simp at hi
        subst hi
        have hmem : w ∈ as := List.mem_of_getElem? ha
        refine ⟨?_, hvk w hmem, hc w hmem⟩
        have := q_args (as.map (q_c ad)) 0 hcat i (q_c ad w) (by rw [List.getElem?_map, ha]; rfl)
        rw [Nat.zero_add] at this
        exact hl.2.2 (i, q_c ad w) this
    · rw [List.getElem?_append_right (by rw [List.length_map]; omega), List.getElem?_replicate] at hi
      split at hi <;> simp at hi
  refine hE p e s m _ below meth c _ ad h.2.2 ad s.heap [] L ⟨hx, hb, hml, hown, fun w hw => hts w (List.mem_cons_of_mem _ hw), hr, hlocks, hnm, hK, hbs⟩ ?_ ⟨hP, va_S.rf, fun c => ⟨Nat.le_refl _, fun _ _ => rfl⟩⟩ hL (fun v hv => by cases hv) (Nat.zero_le _) (Nat.zero_le _)
  intro pc L1 v h1 ad1 H locs hk D hvv hrt
  have hq : v.length ≤ 1 → ∀ t : State, t.heap = H → s.WarmedH t.vm → q_Qc g h ad K (as.map (q_c ad)).toArray s (.returned ((v.map (q_c ad1)).head?)) t := fun hl1 t ht _ => ⟨v, h1, ad1, rfl, hl1, hk, by rw [ht]; exact D.1, hvv, D.2.2, D.2.1.F ht⟩
  rcases hrt with ⟨x, ty, rfl, hy, hnn, hd⟩ | ⟨rfl, hy, hd⟩ | ⟨r, C0, rfl, hy, hrr, hd⟩
  · exact W.zret hx hb (hr.trans hy) hnn (hq (Nat.le_refl _)) D.2.1.2.2 hd
  · exact W.vret hx hb (hr.trans hy) (hq (Nat.zero_le _)) D.2.1.2.2 hd
  · refine W.aret hx hb (hr.trans hy) (Or.inl ⟨_, rfl⟩) ?_ (hq (Nat.le_refl _)) D.2.1.2.2 hd
    rcases hrr with rfl | ⟨q, rfl⟩
    · exact Or.inl rfl
    · exact Or.inr ⟨_, rfl⟩
theorem q_good {y : q_M} (h : Cond.code y.1 y.2.1 y.2.2.1 y.2.2.2 ∈ q_gw) : GoodIn q_gw (q_wy y) := by
  intro w hw
  rcases List.mem_cons.mp hw with rfl | hw
  · exact ⟨h, good_of_word (List.mem_filter.mp h).2⟩
  · exact ⟨hw, good_of_word (List.mem_filter.mp hw).2⟩
def q_lk (y y' : q_M) (idx : Nat) : Prop := Cond.methodLink y.1.cls idx y'.1 ∈ q_gw ∨ ∃ host, Cond.methodLinkNest y.1.cls idx y'.1 host ∈ q_nw
def q_nm (y' : q_M) (n : Nat) : Prop := Cond.initialized y'.1.cls ∈ q_gw ∧ Cond.code y'.1 y'.2.1 y'.2.2.1 y'.2.2.2 ∈ q_gw ∧ (y'.1.cls ≠ "java/lang/invoke/MethodHandle" ∧ y'.1.cls ≠ "java/lang/invoke/VarHandle" ∧ (parseMethodDescriptor y'.1.desc).map (fun d => d.parameters.length) = some n)
def q_mV (y' : q_M) (n : Nat) : Prop := q_nm y' n ∧ Cond.instanceMethod y'.1 ∈ q_gw ∧ Cond.selects y'.1.cls y'.1 y'.1 ∈ q_gw
def q_mS (y' : q_M) (n : Nat) : Prop := q_nm y' n ∧ Cond.static y'.1 ∈ q_gw
def q_mI (y' : q_M) (n : Nat) : Prop := q_nm y' n ∧ y'.1.name = "<init>" ∧ Cond.instanceMethod y'.1 ∈ q_gw ∧ y'.2.2.2 = none
theorem q_tL {v : List Value} (h : v.length ≤ 1) : v.head?.toList = v := by
  match v, h with
  | [], _ => rfl
  | [x], _ => rfl
section QCA
variable {g : q_G} {y : q_M} {R : Room} {K : List q_V → q_H → Prop} {u : Nat × Nat} {pc : Nat} {ls : List (Option q_V)} {st : List q_V} {h : q_H}
theorem q_goes {p : Program} {e : Env} {s : State} {m : MethodId} {args : Array Value} {below : List Frame} {meth : Method} {c0 : Code} {Q : State → Prop} {ad0 : Nat → Nat → Nat} {n0 : Nat → Nat} {ad : Nat → Nat → Nat} {H : Heap} {locs : List Loc} {L : Array Slot} {R' : Room} {K' : List q_V → q_H → Prop} {rest : List q_V} {a : Array Value} {st0 : List Value} (C : q_Cx g y p s m args meth c0) (F : q_F g y R K p e s m args below meth c0 Q ad0 n0) (hr : va_Run p g.1 e R s m args below meth c0 H locs u.1 u.2 R'.cells R'.slots (F0 m pc L st0) (rest.map (q_c ad)) (q_Qc g h ad K' a) (q_A g)) (D : q_D g ad0 n0 s ad h H locs) (hL : q_L ad h y.2.2.1 ls L) (hv : ∀ v ∈ rest, q_vk h v) (hm : u.1 + R'.cells ≤ R.cells ∧ u.2 + R'.slots ≤ R.slots)
    (kk : ∀ v h', v.length ≤ 1 → K' v h' → (∀ c, h.2.2 c ≤ h'.2.2 c) → q_E g y R K (u.1 + R'.cells, u.2 + R'.slots) (pc + 3) ls (v ++ rest) h') : W p g.1 e R s m args below meth c0 H locs u.1 u.2 Q (F0 m pc L st0) := by
  intro T hT X
  obtain ⟨vv, st₀, t, T', Ls, h0, X', hLs, e1, e2, ⟨v, h', ad', hvv, hlen, hk, hP, hvk, hex, hF⟩, hgo⟩ := hr T hT X
  cases hvv
  have D2 : q_D g ad0 n0 s ad' h' T'.heap (locs ++ Ls) := by
    obtain ⟨-, hS, hE⟩ := D
    rw [e1]
    unfold va_F at hF
    rw [h0] at hF
    refine ⟨hP, ⟨Nat.le_trans hS.1 hF.1, fun q a1 a2 => (hF.2 q (Nat.lt_of_lt_of_le a1 hS.1) a2).trans (hS.2.1 q a1 a2), fun q hq => ?_⟩, fun c => ⟨Nat.le_trans (hE c).1 (hex c).1, fun i hi => ((hex c).2 i (Nat.lt_of_lt_of_le hi (hE c).1)).trans ((hE c).2 i hi)⟩⟩
    rcases List.mem_append.mp hq with z | z
    · exact hS.2.2 q z
    · exact hLs q z
  have hvr : ∀ x ∈ v ++ rest, q_vk h' x := by
    intro x hx
    rcases List.mem_append.mp hx with z | z
    · exact hvk x z
    · exact q_vm hv (fun c => (hex c).1) x z
  obtain ⟨t2, a1, b1⟩ := kk v h' hlen hk (fun c => (hex c).1) p e s m args below meth c0 Q ad0 n0 ad' T'.heap (locs ++ Ls) L C F D2 (hL.ext (fun c i hi => (hex c).2 i hi) (fun c => (hex c).1)) hvr hm.1 hm.2 T' rfl X'
  refine ⟨t2, hgo t2 ?_, b1⟩
  rw [q_ext hv (fun c i hi => (hex c).2 i hi), q_tL (by rw [List.length_map]; exact hlen), ← List.map_append]
  exact a1
theorem xe_cv {y' : q_M} {idx n c i : Nat} {as rest : List q_V} {R' : Room} {K' : List q_V → q_H → Prop} {q : vw_C} (hd : decode y.2.1 pc = .ok (.invokevirtual idx, 3)) (hk : q_lk y y' idx) (hs : q_mV y' n) (hq : q_cl[c]? = some q) (hqn : q.1 = y'.1.cls) (hC : q_Ct g y' R' (q_O c i :: as) h K') (hst : st = as.reverse ++ q_O c i :: rest) (hn : as.length = n) (hw : (rest.map q_sc).sum ≤ 8) (hR : R'.frames + 1 ≤ R.frames ∧ 8 + (y'.2.2.1 + 11) + R'.locals ≤ R.locals) (hm : u.1 + R'.cells ≤ R.cells ∧ u.2 + R'.slots ≤ R.slots) (kk : ∀ v h', v.length ≤ 1 → K' v h' → (∀ c, h.2.2 c ≤ h'.2.2 c) → q_E g y R K (u.1 + R'.cells, u.2 + R'.slots) (pc + 3) ls (v ++ rest) h') : q_E g y R K u pc ls st h := by
  intro p e s m args below meth c0 Q ad0 n0 ad H locs L C F D hL hv h1 h2
  subst hst
  have hvr : ∀ v ∈ rest, q_vk h v := fun v hm => hv v (List.mem_append_right _ (List.mem_cons_of_mem _ hm))
  have hi : i < h.2.2 c := hv (q_O c i) (List.mem_append_right _ List.mem_cons_self)
  obtain ⟨hx, hb, hml, hown, hts, -, -, -, hK, hbs⟩ := id C
  obtain ⟨⟨hini, hcode, hdd⟩, hinst, hsel⟩ := hs
  obtain ⟨cell, q1, q2, q3, -⟩ := q_obj D.1 hi hq
  have hpre : PreV s H y'.1.cls (ad c i) (q_Pc g (q_O c i :: as) h ad) (as.map (q_c ad)) := ⟨q_blind, ⟨cell, q1, by rw [q3]; rfl, by rw [q2, ← hqn]; exact (hK.1 c q hq).2.1⟩, fun U hU hW => ⟨rfl, by rw [hU]; exact D.1, hK.call hW D.2.1 hU, by rw [hU]; exact Nat.le_trans hbs D.2.1.1⟩⟩
  have hstk : (F0 m pc L ((as.reverse ++ q_O c i :: rest).map (q_c ad))).stack = (as.map (q_c ad)).reverse ++ .ref (ad c i) :: rest.map (q_c ad) := by
    show (as.reverse ++ q_O c i :: rest).map (q_c ad) = _
    rw [List.map_append, List.map_reverse]
    rfl
  have hcats : ((rest.map (q_c ad)).map fun v => v.category).sum ≤ 8 := by
    rw [List.map_map]
    have e : ((fun v : Value => v.category) ∘ q_c ad) = q_sc := funext (fun v => q_c_cat ad v)
    rw [e]
    exact hw
  rcases hk with hk | ⟨host, hk⟩
  · exact q_goes C F (va_runV (Ts := q_gw) ⟨hx, hb, hml, hown, hts⟩ (hC ad) ⟨callB_of n hts (q_good hcode) rfl rfl rfl (hts _ hini) (hts _ hk) hdd hR, hts _ hinst, hts _ hsel⟩ hpre rfl (by rw [List.length_map]; exact hn) hL.1 hstk (lv_room hcats) hd hm) D hL hvr hm kk
  · exact q_goes C F (va_runVN (Ts := q_gw) ⟨hx, hb, hml, hown, hts⟩ (hC ad) ⟨va_cnB n hts (q_good hcode) rfl rfl rfl (hK.2.2.1 _ hk) (hts _ hini) hdd hR, hts _ hinst, hts _ hsel⟩ hpre rfl (by rw [List.length_map]; exact hn) hL.1 hstk (lv_room hcats) hd hm) D hL hvr hm kk
theorem xe_cs {y' : q_M} {idx n : Nat} {as rest : List q_V} {R' : Room} {K' : List q_V → q_H → Prop} (hd : decode y.2.1 pc = .ok (.invokestatic idx, 3)) (hk : q_lk y y' idx) (hs : q_mS y' n) (hC : q_Ct g y' R' as h K') (hst : st = as.reverse ++ rest) (hn : as.length = n) (hw : (rest.map q_sc).sum ≤ 8) (hR : R'.frames + 1 ≤ R.frames ∧ 8 + (y'.2.2.1 + 11) + R'.locals ≤ R.locals) (hm : u.1 + R'.cells ≤ R.cells ∧ u.2 + R'.slots ≤ R.slots) (kk : ∀ v h', v.length ≤ 1 → K' v h' → (∀ c, h.2.2 c ≤ h'.2.2 c) → q_E g y R K (u.1 + R'.cells, u.2 + R'.slots) (pc + 3) ls (v ++ rest) h') : q_E g y R K u pc ls st h := by
  intro p e s m args below meth c0 Q ad0 n0 ad H locs L C F D hL hv h1 h2
  subst hst
  have hvr : ∀ v ∈ rest, q_vk h v := fun v hm => hv v (List.mem_append_right _ hm)
  obtain ⟨hx, hb, hml, hown, hts, -, -, -, hK, hbs⟩ := id C
  obtain ⟨⟨hini, hcode, hdd⟩, hstt⟩ := hs
  have hpre : PreS s H (q_Pc g as h ad) (as.map (q_c ad)) := ⟨q_blind, fun U hU hW => ⟨rfl, by rw [hU]; exact D.1, hK.call hW D.2.1 hU, by rw [hU]; exact Nat.le_trans hbs D.2.1.1⟩⟩
  have hstk : (F0 m pc L ((as.reverse ++ rest).map (q_c ad))).stack = (as.map (q_c ad)).reverse ++ rest.map (q_c ad) := by
    show (as.reverse ++ rest).map (q_c ad) = _
    rw [List.map_append, List.map_reverse]
  have hcats : ((rest.map (q_c ad)).map fun v => v.category).sum ≤ 8 := by
    rw [List.map_map]
    have e : ((fun v : Value => v.category) ∘ q_c ad) = q_sc := funext (fun v => q_c_cat ad v)
    rw [e]
    exact hw
  rcases hk with hk | ⟨host, hk⟩
  · exact q_goes C F (va_runS (Ts := q_gw) ⟨hx, hb, hml, hown, hts⟩ (hC ad) ⟨callB_of n hts (q_good hcode) rfl rfl rfl (hts _ hini) (hts _ hk) hdd hR, hts _ hstt⟩ hpre rfl (by rw [List.length_map]; exact hn) hL.1 hstk (lv_room hcats) hd hm) D hL hvr hm kk
  · exact q_goes C F (va_runSN (Ts := q_gw) ⟨hx, hb, hml, hown, hts⟩ (hC ad) ⟨va_cnB n hts (q_good hcode) rfl rfl rfl (hK.2.2.1 _ hk) (hts _ hini) hdd hR, hts _ hstt, trivial⟩ hpre rfl (by rw [List.length_map]; exact hn) hL.1 hstk (lv_room hcats) hd hm) D hL hvr hm kk
theorem xe_ci {y' : q_M} {idx n c i : Nat} {as rest : List q_V} {R' : Room} {K' : List q_V → q_H → Prop} (hd : decode y.2.1 pc = .ok (.invokespecial idx, 3)) (hk : q_lk y y' idx) (hs : q_mI y' n) (hC : q_Ct g y' R' (q_O c i :: as) h K') (hst : st = as.reverse ++ q_O c i :: rest) (hn : as.length = n) (hw : (rest.map q_sc).sum ≤ 8) (hR : R'.frames + 1 ≤ R.frames ∧ 8 + (y'.2.2.1 + 11) + R'.locals ≤ R.locals) (hm : u.1 + R'.cells ≤ R.cells ∧ u.2 + R'.slots ≤ R.slots) (kk : ∀ v h', v.length ≤ 1 → K' v h' → (∀ c, h.2.2 c ≤ h'.2.2 c) → q_E g y R K (u.1 + R'.cells, u.2 + R'.slots) (pc + 3) ls (v ++ rest) h') : q_E g y R K u pc ls st h := by
  intro p e s m args below meth c0 Q ad0 n0 ad H locs L C F D hL hv h1 h2
  subst hst
  have hvr : ∀ v ∈ rest, q_vk h v := fun v hm => hv v (List.mem_append_right _ (List.mem_cons_of_mem _ hm))
  obtain ⟨hx, hb, hml, hown, hts, -, -, -, hK, hbs⟩ := id C
  obtain ⟨⟨hini, hcode, hdd⟩, hnm, hinst, hret⟩ := hs
  have hpre : PreS s H (q_Pc g (q_O c i :: as) h ad) (.ref (ad c i) :: as.map (q_c ad)) := ⟨q_blind, fun U hU hW => ⟨rfl, by rw [hU]; exact D.1, hK.call hW D.2.1 hU, by rw [hU]; exact Nat.le_trans hbs D.2.1.1⟩⟩
  have hstk : (F0 m pc L ((as.reverse ++ q_O c i :: rest).map (q_c ad))).stack = (as.map (q_c ad)).reverse ++ .ref (ad c i) :: rest.map (q_c ad) := by
    show (as.reverse ++ q_O c i :: rest).map (q_c ad) = _
    rw [List.map_append, List.map_reverse]
    rfl
  have hcats : ((rest.map (q_c ad)).map fun v => v.category).sum ≤ 8 := by
    rw [List.map_map]
    have e : ((fun v : Value => v.category) ∘ q_c ad) = q_sc := funext (fun v => q_c_cat ad v)
    rw [e]
    exact hw
  have hwy : q_wy y' = Cond.code y'.1 y'.2.1 y'.2.2.1 none :: q_gw := by
    unfold q_wy
    rw [hret]
  rcases hk with hk | ⟨host, hk⟩
  · exact q_goes C F (va_runI (Ts := q_gw) ⟨hx, hb, hml, hown, hts⟩ (hC ad) ⟨callB_of n hts (q_good hcode) hwy rfl rfl (hts _ hini) (hts _ hk) hdd hR, hnm, hts _ hinst⟩ hpre rfl (by rw [List.length_map]; exact hn) hL.1 hstk (lv_room hcats) hd hm) D hL hvr hm kk
  · exact q_goes C F (va_runIN (Ts := q_gw) ⟨hx, hb, hml, hown, hts⟩ (hC ad) ⟨va_cnB n hts (q_good hcode) hwy rfl rfl (hK.2.2.1 _ hk) (hts _ hini) hdd hR, hnm, hts _ hinst⟩ hpre rfl (by rw [List.length_map]; exact hn) hL.1 hstk (lv_room hcats) hd hm) D hL hvr hm kk
theorem xe_obj {idx : Nat} {c i : Nat} (hd : decode y.2.1 pc = .ok (.invokespecial idx, 3)) (hk : Cond.methodLink y.1.cls idx objectInit ∈ q_gw ∧ Cond.instanceMethod objectInit ∈ q_gw ∧ Cond.code objectInit ⟨#[0xb1]⟩ 1 none ∈ q_gw) (hw : (st.map q_sc).sum ≤ 8) (hR : 1 ≤ R.frames ∧ 20 ≤ R.locals) (kk : q_E g y R K u (pc + 3) ls st h) : q_E g y R K u pc ls (q_O c i :: st) h := by
  intro p e s m args below meth c0 Q ad0 n0 ad H locs L C F D hL hv h1 h2
  have k2 := kk p e s m args below meth c0 Q ad0 n0 ad H locs L C F D hL (q_tl hv) h1 h2
  obtain ⟨hx, hb, hml, hown, hts, -, -, -, hK, hbs⟩ := id C
  have hcats : ((st.map (q_c ad)).map fun v => v.category).sum ≤ 8 := by
    rw [List.map_map]
    have e : ((fun v : Value => v.category) ∘ q_c ad) = q_sc := funext (fun v => q_c_cat ad v)
    rw [e]
    exact hw
  exact W.objInit hx hb hown (hts _ hk.1) (hts _ hk.2.1) (hts _ hk.2.2) rfl (by rw [hml]; exact hL.1) rfl hd hR.1 (by show 2 * 0 + _ + 12 ≤ _; omega) k2
theorem xe_mmax {idx : Nat} {x z : Int32} (hd : decode y.2.1 pc = .ok (.invokestatic idx, 3)) (hk : Cond.methodLink y.1.cls idx Lib.Math.max.name ∈ q_gw ∧ Cond.static Lib.Math.max.name ∈ q_gw ∧ Cond.initialized "java/lang/Math" ∈ q_gw ∧ Cond.code Lib.Math.max.name Lib.Math.max.code 2 (some .int) ∈ q_gw) (hw : (st.map q_sc).sum ≤ 8) (hR : 1 ≤ R.frames ∧ 21 ≤ R.locals) (kk : q_E g y R K u (pc + 3) ls (q_I (if x < z then z else x) :: st) h) : q_E g y R K u pc ls (q_I z :: q_I x :: st) h := by
  intro p e s m args below meth c0 Q ad0 n0 ad H locs L C F D hL hv h1 h2
  have k2 := kk p e s m args below meth c0 Q ad0 n0 ad H locs L C F D hL (q_cs trivial (q_tl (q_tl hv))) h1 h2
  obtain ⟨hx, hb, hml, hown, hts, -, -, -, hK, hbs⟩ := id C
  have hcats : ((st.map (q_c ad)).map fun v => v.category).sum ≤ 8 := by
    rw [List.map_map]
    have e : ((fun v : Value => v.category) ∘ q_c ad) = q_sc := funext (fun v => q_c_cat ad v)
    rw [e]
    exact hw
  exact va_mmax hx hb (by rw [hml]; exact hL.1.symm) hown (hts _ hk.1) (hts _ hk.2.1) (hts _ hk.2.2.1) (hts _ hk.2.2.2) hR.1 (by omega) h1 h2 hd k2
theorem xe_mmin {idx : Nat} {x z : Int32} (hd : decode y.2.1 pc = .ok (.invokestatic idx, 3)) (hk : Cond.methodLink y.1.cls idx Lib.Math.min.name ∈ q_gw ∧ Cond.static Lib.Math.min.name ∈ q_gw ∧ Cond.initialized "java/lang/Math" ∈ q_gw ∧ Cond.code Lib.Math.min.name Lib.Math.min.code 2 (some .int) ∈ q_gw) (hw : (st.map q_sc).sum ≤ 8) (hR : 1 ≤ R.frames ∧ 21 ≤ R.locals) (kk : q_E g y R K u (pc + 3) ls (q_I (if z < x then z else x) :: st) h) : q_E g y R K u pc ls (q_I z :: q_I x :: st) h := by
  intro p e s m args below meth c0 Q ad0 n0 ad H locs L C F D hL hv h1 h2
  have k2 := kk p e s m args below meth c0 Q ad0 n0 ad H locs L C F D hL (q_cs trivial (q_tl (q_tl hv))) h1 h2
  obtain ⟨hx, hb, hml, hown, hts, -, -, -, hK, hbs⟩ := id C
  have hcats : ((st.map (q_c ad)).map fun v => v.category).sum ≤ 8 := by
    rw [List.map_map]
    have e : ((fun v : Value => v.category) ∘ q_c ad) = q_sc := funext (fun v => q_c_cat ad v)
    rw [e]
    exact hw
  exact va_mmin hx hb (by rw [hml]; exact hL.1.symm) hown (hts _ hk.1) (hts _ hk.2.1) (hts _ hk.2.2.1) (hts _ hk.2.2.2) hR.1 (by omega) h1 h2 hd k2
theorem xe_mabs {idx : Nat} {x : Int32} (hd : decode y.2.1 pc = .ok (.invokestatic idx, 3)) (hk : Cond.methodLink y.1.cls idx Lib.Math.abs.name ∈ q_gw ∧ Cond.static Lib.Math.abs.name ∈ q_gw ∧ Cond.initialized "java/lang/Math" ∈ q_gw ∧ Cond.code Lib.Math.abs.name Lib.Math.abs.code 1 (some .int) ∈ q_gw) (hw : (st.map q_sc).sum ≤ 8) (hR : 1 ≤ R.frames ∧ 21 ≤ R.locals) (kk : q_E g y R K u (pc + 3) ls (q_I (if 0 ≤ x then x else 0 - x) :: st) h) : q_E g y R K u pc ls (q_I x :: st) h := by
  intro p e s m args below meth c0 Q ad0 n0 ad H locs L C F D hL hv h1 h2
  have k2 := kk p e s m args below meth c0 Q ad0 n0 ad H locs L C F D hL (q_cs trivial (q_tl hv)) h1 h2
  obtain ⟨hx, hb, hml, hown, hts, -, -, -, hK, hbs⟩ := id C
  have hcats : ((st.map (q_c ad)).map fun v => v.category).sum ≤ 8 := by
    rw [List.map_map]
    have e : ((fun v : Value => v.category) ∘ q_c ad) = q_sc := funext (fun v => q_c_cat ad v)
    rw [e]
    exact hw
  exact va_mabs hx hb (by rw [hml]; exact hL.1.symm) hown (hts _ hk.1) (hts _ hk.2.1) (hts _ hk.2.2.1) (hts _ hk.2.2.2) hR.1 (by omega) h1 h2 hd k2
end QCA
end
