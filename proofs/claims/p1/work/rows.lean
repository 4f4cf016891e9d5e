section
-- ===== PART A: goes FIRST, ahead of the names: the tables' words, and 'selects' of the private methods out of them =====
/-- a private method of a class that the tables say can be made, by its rows of tables_1 -/
def lw_okq (q : MethodName × Nat) : Prop := (q.1.cls ≠ "java/lang/invoke/MethodHandle" ∧ q.1.cls ≠ "java/lang/invoke/VarHandle") ∧ Cond.instantiable q.1.cls q.2 ∈ tables_1 ∧ Cond.privateMethod q.1 ∈ tables_1 ∧ Cond.instanceMethod q.1 ∈ tables_1
theorem lw_p0 : lw_okq (⟨"HalfFair$FairReader", "readClause", "(I)V"⟩, 3) := ⟨⟨by decide +kernel, by decide +kernel⟩, List.mem_of_getElem? (i := 55) (by decide +kernel), List.mem_of_getElem? (i := 450) (by decide +kernel), List.mem_of_getElem? (i := 451) (by decide +kernel)⟩
theorem lw_p1 : lw_okq (⟨"HalfFair$FairReader", "isTooMany", "(I)Z"⟩, 3) := ⟨⟨by decide +kernel, by decide +kernel⟩, List.mem_of_getElem? (i := 55) (by decide +kernel), List.mem_of_getElem? (i := 516) (by decide +kernel), List.mem_of_getElem? (i := 517) (by decide +kernel)⟩
theorem lw_p2 : lw_okq (⟨"HalfFair$FairReader", "numberTold", "(II)I"⟩, 3) := ⟨⟨by decide +kernel, by decide +kernel⟩, List.mem_of_getElem? (i := 55) (by decide +kernel), List.mem_of_getElem? (i := 520) (by decide +kernel), List.mem_of_getElem? (i := 521) (by decide +kernel)⟩
theorem lw_p3 : lw_okq (⟨"HalfFair$FairReader", "readHalf", "()V"⟩, 3) := ⟨⟨by decide +kernel, by decide +kernel⟩, List.mem_of_getElem? (i := 55) (by decide +kernel), List.mem_of_getElem? (i := 529) (by decide +kernel), List.mem_of_getElem? (i := 530) (by decide +kernel)⟩
theorem lw_p4 : lw_okq (⟨"HalfFair$FairReader", "readForged", "()V"⟩, 3) := ⟨⟨by decide +kernel, by decide +kernel⟩, List.mem_of_getElem? (i := 55) (by decide +kernel), List.mem_of_getElem? (i := 533) (by decide +kernel), List.mem_of_getElem? (i := 534) (by decide +kernel)⟩
theorem lw_p5 : lw_okq (⟨"HalfFair$FairReader", "readBuyer", "()V"⟩, 3) := ⟨⟨by decide +kernel, by decide +kernel⟩, List.mem_of_getElem? (i := 55) (by decide +kernel), List.mem_of_getElem? (i := 537) (by decide +kernel), List.mem_of_getElem? (i := 538) (by decide +kernel)⟩
theorem lw_p6 : lw_okq (⟨"HalfFair$FairReader", "readClub", "()V"⟩, 3) := ⟨⟨by decide +kernel, by decide +kernel⟩, List.mem_of_getElem? (i := 55) (by decide +kernel), List.mem_of_getElem? (i := 541) (by decide +kernel), List.mem_of_getElem? (i := 542) (by decide +kernel)⟩
theorem lw_p7 : lw_okq (⟨"HalfFair$Scene", "look", "(LHalfFair$Told;)V"⟩, 6) := ⟨⟨by decide +kernel, by decide +kernel⟩, List.mem_of_getElem? (i := 198) (by decide +kernel), List.mem_of_getElem? (i := 579) (by decide +kernel), List.mem_of_getElem? (i := 580) (by decide +kernel)⟩
theorem lw_p8 : lw_okq (⟨"HalfFair", "forgetPast", "()V"⟩, 17) := ⟨⟨by decide +kernel, by decide +kernel⟩, List.mem_of_getElem? (i := 23) (by decide +kernel), List.mem_of_getElem? (i := 595) (by decide +kernel), List.mem_of_getElem? (i := 596) (by decide +kernel)⟩
theorem lw_p9 : lw_okq (⟨"HalfFair$RuleReader", "readClause", "(LHalfFair$Rule;)V"⟩, 4) := ⟨⟨by decide +kernel, by decide +kernel⟩, List.mem_of_getElem? (i := 71) (by decide +kernel), List.mem_of_getElem? (i := 646) (by decide +kernel), List.mem_of_getElem? (i := 647) (by decide +kernel)⟩
theorem lw_p10 : lw_okq (⟨"HalfFair$RuleReader", "readSum", "()V"⟩, 4) := ⟨⟨by decide +kernel, by decide +kernel⟩, List.mem_of_getElem? (i := 71) (by decide +kernel), List.mem_of_getElem? (i := 654) (by decide +kernel), List.mem_of_getElem? (i := 655) (by decide +kernel)⟩
theorem lw_p11 : lw_okq (⟨"HalfFair$RuleReader", "readValue", "()V"⟩, 4) := ⟨⟨by decide +kernel, by decide +kernel⟩, List.mem_of_getElem? (i := 71) (by decide +kernel), List.mem_of_getElem? (i := 658) (by decide +kernel), List.mem_of_getElem? (i := 659) (by decide +kernel)⟩
theorem lw_p12 : lw_okq (⟨"HalfFair$RuleReader", "emit", "(I)V"⟩, 4) := ⟨⟨by decide +kernel, by decide +kernel⟩, List.mem_of_getElem? (i := 71) (by decide +kernel), List.mem_of_getElem? (i := 665) (by decide +kernel), List.mem_of_getElem? (i := 666) (by decide +kernel)⟩
theorem lw_p13 : lw_okq (⟨"HalfFair$RuleReader", "countPart", "(I)V"⟩, 4) := ⟨⟨by decide +kernel, by decide +kernel⟩, List.mem_of_getElem? (i := 71) (by decide +kernel), List.mem_of_getElem? (i := 669) (by decide +kernel), List.mem_of_getElem? (i := 670) (by decide +kernel)⟩
theorem lw_p14 : lw_okq (⟨"HalfFair$RuleReader", "takeOperation", "()I"⟩, 4) := ⟨⟨by decide +kernel, by decide +kernel⟩, List.mem_of_getElem? (i := 71) (by decide +kernel), List.mem_of_getElem? (i := 673) (by decide +kernel), List.mem_of_getElem? (i := 674) (by decide +kernel)⟩
theorem lw_p15 : lw_okq (⟨"HalfFair$RuleReader", "readTest", "(I)V"⟩, 4) := ⟨⟨by decide +kernel, by decide +kernel⟩, List.mem_of_getElem? (i := 71) (by decide +kernel), List.mem_of_getElem? (i := 679) (by decide +kernel), List.mem_of_getElem? (i := 680) (by decide +kernel)⟩
def lw_privs_1 : List (MethodName × Nat) := [(⟨"HalfFair$FairReader", "readClause", "(I)V"⟩, 3), (⟨"HalfFair$FairReader", "isTooMany", "(I)Z"⟩, 3), (⟨"HalfFair$FairReader", "numberTold", "(II)I"⟩, 3), (⟨"HalfFair$FairReader", "readHalf", "()V"⟩, 3), (⟨"HalfFair$FairReader", "readForged", "()V"⟩, 3), (⟨"HalfFair$FairReader", "readBuyer", "()V"⟩, 3), (⟨"HalfFair$FairReader", "readClub", "()V"⟩, 3), (⟨"HalfFair$Scene", "look", "(LHalfFair$Told;)V"⟩, 6), (⟨"HalfFair", "forgetPast", "()V"⟩, 17), (⟨"HalfFair$RuleReader", "readClause", "(LHalfFair$Rule;)V"⟩, 4), (⟨"HalfFair$RuleReader", "readSum", "()V"⟩, 4), (⟨"HalfFair$RuleReader", "readValue", "()V"⟩, 4), (⟨"HalfFair$RuleReader", "emit", "(I)V"⟩, 4), (⟨"HalfFair$RuleReader", "countPart", "(I)V"⟩, 4), (⟨"HalfFair$RuleReader", "takeOperation", "()I"⟩, 4), (⟨"HalfFair$RuleReader", "readTest", "(I)V"⟩, 4)]
theorem lw_r1 : ∀ q ∈ lw_privs_1, lw_okq q := List.forall_mem_cons.mpr ⟨lw_p0, List.forall_mem_cons.mpr ⟨lw_p1, List.forall_mem_cons.mpr ⟨lw_p2, List.forall_mem_cons.mpr ⟨lw_p3, List.forall_mem_cons.mpr ⟨lw_p4, List.forall_mem_cons.mpr ⟨lw_p5, List.forall_mem_cons.mpr ⟨lw_p6, List.forall_mem_cons.mpr ⟨lw_p7, List.forall_mem_cons.mpr ⟨lw_p8, List.forall_mem_cons.mpr ⟨lw_p9, List.forall_mem_cons.mpr ⟨lw_p10, List.forall_mem_cons.mpr ⟨lw_p11, List.forall_mem_cons.mpr ⟨lw_p12, List.forall_mem_cons.mpr ⟨lw_p13, List.forall_mem_cons.mpr ⟨lw_p14, List.forall_mem_cons.mpr ⟨lw_p15, fun _ h => absurd h List.not_mem_nil⟩⟩⟩⟩⟩⟩⟩⟩⟩⟩⟩⟩⟩⟩⟩⟩
theorem lw_p16 : lw_okq (⟨"HalfFair$RuleReader", "readFact", "(I)V"⟩, 4) := ⟨⟨by decide +kernel, by decide +kernel⟩, List.mem_of_getElem? (i := 71) (by decide +kernel), List.mem_of_getElem? (i := 683) (by decide +kernel), List.mem_of_getElem? (i := 684) (by decide +kernel)⟩
theorem lw_p17 : lw_okq (⟨"HalfFair$RuleReader", "takeComparison", "()I"⟩, 4) := ⟨⟨by decide +kernel, by decide +kernel⟩, List.mem_of_getElem? (i := 71) (by decide +kernel), List.mem_of_getElem? (i := 688) (by decide +kernel), List.mem_of_getElem? (i := 689) (by decide +kernel)⟩
theorem lw_p18 : lw_okq (⟨"HalfFair$RuleReader", "takeSign", "()I"⟩, 4) := ⟨⟨by decide +kernel, by decide +kernel⟩, List.mem_of_getElem? (i := 71) (by decide +kernel), List.mem_of_getElem? (i := 692) (by decide +kernel), List.mem_of_getElem? (i := 693) (by decide +kernel)⟩
theorem lw_p19 : lw_okq (⟨"HalfFair$RuleReader", "closeBracket", "()V"⟩, 4) := ⟨⟨by decide +kernel, by decide +kernel⟩, List.mem_of_getElem? (i := 71) (by decide +kernel), List.mem_of_getElem? (i := 696) (by decide +kernel), List.mem_of_getElem? (i := 697) (by decide +kernel)⟩
theorem lw_p20 : lw_okq (⟨"HalfFair$RuleReader", "takeJoint", "()I"⟩, 4) := ⟨⟨by decide +kernel, by decide +kernel⟩, List.mem_of_getElem? (i := 71) (by decide +kernel), List.mem_of_getElem? (i := 700) (by decide +kernel), List.mem_of_getElem? (i := 701) (by decide +kernel)⟩
theorem lw_p21 : lw_okq (⟨"HalfFair$Pairs", "bestOf", "(II)I"⟩, 2) := ⟨⟨by decide +kernel, by decide +kernel⟩, List.mem_of_getElem? (i := 273) (by decide +kernel), List.mem_of_getElem? (i := 762) (by decide +kernel), List.mem_of_getElem? (i := 763) (by decide +kernel)⟩
theorem lw_p22 : lw_okq (⟨"HalfFair$Pairs", "pairWorth", "(II)I"⟩, 2) := ⟨⟨by decide +kernel, by decide +kernel⟩, List.mem_of_getElem? (i := 273) (by decide +kernel), List.mem_of_getElem? (i := 772) (by decide +kernel), List.mem_of_getElem? (i := 773) (by decide +kernel)⟩
theorem lw_p23 : lw_okq (⟨"HalfFair", "rememberScene", "()V"⟩, 17) := ⟨⟨by decide +kernel, by decide +kernel⟩, List.mem_of_getElem? (i := 23) (by decide +kernel), List.mem_of_getElem? (i := 791) (by decide +kernel), List.mem_of_getElem? (i := 792) (by decide +kernel)⟩
theorem lw_p24 : lw_okq (⟨"HalfFair", "isTheirs", "(II)Z"⟩, 17) := ⟨⟨by decide +kernel, by decide +kernel⟩, List.mem_of_getElem? (i := 23) (by decide +kernel), List.mem_of_getElem? (i := 840) (by decide +kernel), List.mem_of_getElem? (i := 841) (by decide +kernel)⟩
theorem lw_p25 : lw_okq (⟨"HalfFair", "isFair", "()Z"⟩, 17) := ⟨⟨by decide +kernel, by decide +kernel⟩, List.mem_of_getElem? (i := 23) (by decide +kernel), List.mem_of_getElem? (i := 856) (by decide +kernel), List.mem_of_getElem? (i := 857) (by decide +kernel)⟩
theorem lw_p26 : lw_okq (⟨"HalfFair", "isRule", "(I)Z"⟩, 17) := ⟨⟨by decide +kernel, by decide +kernel⟩, List.mem_of_getElem? (i := 23) (by decide +kernel), List.mem_of_getElem? (i := 860) (by decide +kernel), List.mem_of_getElem? (i := 861) (by decide +kernel)⟩
theorem lw_p27 : lw_okq (⟨"HalfFair$Market", "drawnWay", "(I)I"⟩, 10) := ⟨⟨by decide +kernel, by decide +kernel⟩, List.mem_of_getElem? (i := 328) (by decide +kernel), List.mem_of_getElem? (i := 872) (by decide +kernel), List.mem_of_getElem? (i := 873) (by decide +kernel)⟩
theorem lw_p28 : lw_okq (⟨"HalfFair$Market", "nextDraw", "()I"⟩, 10) := ⟨⟨by decide +kernel, by decide +kernel⟩, List.mem_of_getElem? (i := 328) (by decide +kernel), List.mem_of_getElem? (i := 876) (by decide +kernel), List.mem_of_getElem? (i := 877) (by decide +kernel)⟩
theorem lw_p29 : lw_okq (⟨"HalfFair$Market", "buyAll", "()V"⟩, 10) := ⟨⟨by decide +kernel, by decide +kernel⟩, List.mem_of_getElem? (i := 328) (by decide +kernel), List.mem_of_getElem? (i := 885) (by decide +kernel), List.mem_of_getElem? (i := 886) (by decide +kernel)⟩
theorem lw_p30 : lw_okq (⟨"HalfFair$Market", "wantedAt", "(I)I"⟩, 10) := ⟨⟨by decide +kernel, by decide +kernel⟩, List.mem_of_getElem? (i := 328) (by decide +kernel), List.mem_of_getElem? (i := 890) (by decide +kernel), List.mem_of_getElem? (i := 891) (by decide +kernel)⟩
theorem lw_p31 : lw_okq (⟨"HalfFair$Market", "tellWords", "(I)V"⟩, 10) := ⟨⟨by decide +kernel, by decide +kernel⟩, List.mem_of_getElem? (i := 328) (by decide +kernel), List.mem_of_getElem? (i := 899) (by decide +kernel), List.mem_of_getElem? (i := 900) (by decide +kernel)⟩
def lw_privs_2 : List (MethodName × Nat) := [(⟨"HalfFair$RuleReader", "readFact", "(I)V"⟩, 4), (⟨"HalfFair$RuleReader", "takeComparison", "()I"⟩, 4), (⟨"HalfFair$RuleReader", "takeSign", "()I"⟩, 4), (⟨"HalfFair$RuleReader", "closeBracket", "()V"⟩, 4), (⟨"HalfFair$RuleReader", "takeJoint", "()I"⟩, 4), (⟨"HalfFair$Pairs", "bestOf", "(II)I"⟩, 2), (⟨"HalfFair$Pairs", "pairWorth", "(II)I"⟩, 2), (⟨"HalfFair", "rememberScene", "()V"⟩, 17), (⟨"HalfFair", "isTheirs", "(II)Z"⟩, 17), (⟨"HalfFair", "isFair", "()Z"⟩, 17), (⟨"HalfFair", "isRule", "(I)Z"⟩, 17), (⟨"HalfFair$Market", "drawnWay", "(I)I"⟩, 10), (⟨"HalfFair$Market", "nextDraw", "()I"⟩, 10), (⟨"HalfFair$Market", "buyAll", "()V"⟩, 10), (⟨"HalfFair$Market", "wantedAt", "(I)I"⟩, 10), (⟨"HalfFair$Market", "tellWords", "(I)V"⟩, 10)]
theorem lw_r2 : ∀ q ∈ lw_privs_2, lw_okq q := List.forall_mem_cons.mpr ⟨lw_p16, List.forall_mem_cons.mpr ⟨lw_p17, List.forall_mem_cons.mpr ⟨lw_p18, List.forall_mem_cons.mpr ⟨lw_p19, List.forall_mem_cons.mpr ⟨lw_p20, List.forall_mem_cons.mpr ⟨lw_p21, List.forall_mem_cons.mpr ⟨lw_p22, List.forall_mem_cons.mpr ⟨lw_p23, List.forall_mem_cons.mpr ⟨lw_p24, List.forall_mem_cons.mpr ⟨lw_p25, List.forall_mem_cons.mpr ⟨lw_p26, List.forall_mem_cons.mpr ⟨lw_p27, List.forall_mem_cons.mpr ⟨lw_p28, List.forall_mem_cons.mpr ⟨lw_p29, List.forall_mem_cons.mpr ⟨lw_p30, List.forall_mem_cons.mpr ⟨lw_p31, fun _ h => absurd h List.not_mem_nil⟩⟩⟩⟩⟩⟩⟩⟩⟩⟩⟩⟩⟩⟩⟩⟩
theorem lw_p32 : lw_okq (⟨"HalfFair$Market", "sumByRule", "(I)J"⟩, 10) := ⟨⟨by decide +kernel, by decide +kernel⟩, List.mem_of_getElem? (i := 328) (by decide +kernel), List.mem_of_getElem? (i := 910) (by decide +kernel), List.mem_of_getElem? (i := 911) (by decide +kernel)⟩
theorem lw_p33 : lw_okq (⟨"HalfFair$Market", "valueOf", "(II)J"⟩, 10) := ⟨⟨by decide +kernel, by decide +kernel⟩, List.mem_of_getElem? (i := 328) (by decide +kernel), List.mem_of_getElem? (i := 914) (by decide +kernel), List.mem_of_getElem? (i := 915) (by decide +kernel)⟩
theorem lw_p34 : lw_okq (⟨"HalfFair$Market", "wayByRule", "()I"⟩, 10) := ⟨⟨by decide +kernel, by decide +kernel⟩, List.mem_of_getElem? (i := 328) (by decide +kernel), List.mem_of_getElem? (i := 925) (by decide +kernel), List.mem_of_getElem? (i := 926) (by decide +kernel)⟩
theorem lw_p35 : lw_okq (⟨"HalfFair", "isSet", "(I)Z"⟩, 17) := ⟨⟨by decide +kernel, by decide +kernel⟩, List.mem_of_getElem? (i := 23) (by decide +kernel), List.mem_of_getElem? (i := 936) (by decide +kernel), List.mem_of_getElem? (i := 937) (by decide +kernel)⟩
theorem lw_p36 : lw_okq (⟨"HalfFair$Pairs", "firstPartner", "(II)I"⟩, 2) := ⟨⟨by decide +kernel, by decide +kernel⟩, List.mem_of_getElem? (i := 273) (by decide +kernel), List.mem_of_getElem? (i := 948) (by decide +kernel), List.mem_of_getElem? (i := 949) (by decide +kernel)⟩
theorem lw_p37 : lw_okq (⟨"HalfFair$Walker", "spread", "(II)V"⟩, 11) := ⟨⟨by decide +kernel, by decide +kernel⟩, List.mem_of_getElem? (i := 286) (by decide +kernel), List.mem_of_getElem? (i := 966) (by decide +kernel), List.mem_of_getElem? (i := 967) (by decide +kernel)⟩
theorem lw_p38 : lw_okq (⟨"HalfFair$Walker", "goOn", "(Z)V"⟩, 11) := ⟨⟨by decide +kernel, by decide +kernel⟩, List.mem_of_getElem? (i := 286) (by decide +kernel), List.mem_of_getElem? (i := 970) (by decide +kernel), List.mem_of_getElem? (i := 971) (by decide +kernel)⟩
theorem lw_p39 : lw_okq (⟨"HalfFair$Walker", "choose", "(IIII)V"⟩, 11) := ⟨⟨by decide +kernel, by decide +kernel⟩, List.mem_of_getElem? (i := 286) (by decide +kernel), List.mem_of_getElem? (i := 975) (by decide +kernel), List.mem_of_getElem? (i := 976) (by decide +kernel)⟩
theorem lw_p40 : lw_okq (⟨"HalfFair$Walker", "weigh", "(III)V"⟩, 11) := ⟨⟨by decide +kernel, by decide +kernel⟩, List.mem_of_getElem? (i := 286) (by decide +kernel), List.mem_of_getElem? (i := 979) (by decide +kernel), List.mem_of_getElem? (i := 980) (by decide +kernel)⟩
theorem lw_p41 : lw_okq (⟨"HalfFair", "unseenBy", "(I)I"⟩, 17) := ⟨⟨by decide +kernel, by decide +kernel⟩, List.mem_of_getElem? (i := 23) (by decide +kernel), List.mem_of_getElem? (i := 993) (by decide +kernel), List.mem_of_getElem? (i := 994) (by decide +kernel)⟩
theorem lw_p42 : lw_okq (⟨"HalfFair", "gainOf", "(II)I"⟩, 17) := ⟨⟨by decide +kernel, by decide +kernel⟩, List.mem_of_getElem? (i := 23) (by decide +kernel), List.mem_of_getElem? (i := 1006) (by decide +kernel), List.mem_of_getElem? (i := 1007) (by decide +kernel)⟩
theorem lw_p43 : lw_okq (⟨"HalfFair", "fittingShape", "(II)I"⟩, 17) := ⟨⟨by decide +kernel, by decide +kernel⟩, List.mem_of_getElem? (i := 23) (by decide +kernel), List.mem_of_getElem? (i := 1015) (by decide +kernel), List.mem_of_getElem? (i := 1016) (by decide +kernel)⟩
theorem lw_p44 : lw_okq (⟨"HalfFair", "hourSold", "(LHalfFair$Rule;II)I"⟩, 17) := ⟨⟨by decide +kernel, by decide +kernel⟩, List.mem_of_getElem? (i := 23) (by decide +kernel), List.mem_of_getElem? (i := 1023) (by decide +kernel), List.mem_of_getElem? (i := 1024) (by decide +kernel)⟩
theorem lw_p45 : lw_okq (⟨"HalfFair", "hoursByRule", "()I"⟩, 17) := ⟨⟨by decide +kernel, by decide +kernel⟩, List.mem_of_getElem? (i := 23) (by decide +kernel), List.mem_of_getElem? (i := 1027) (by decide +kernel), List.mem_of_getElem? (i := 1028) (by decide +kernel)⟩
theorem lw_p46 : lw_okq (⟨"HalfFair$Trials", "gatherPairs", "(LHalfFair$Told;)I"⟩, 7) := ⟨⟨by decide +kernel, by decide +kernel⟩, List.mem_of_getElem? (i := 239) (by decide +kernel), List.mem_of_getElem? (i := 1056) (by decide +kernel), List.mem_of_getElem? (i := 1057) (by decide +kernel)⟩
theorem lw_p47 : lw_okq (⟨"HalfFair$Trials", "clearedByTrials", "()I"⟩, 7) := ⟨⟨by decide +kernel, by decide +kernel⟩, List.mem_of_getElem? (i := 239) (by decide +kernel), List.mem_of_getElem? (i := 1061) (by decide +kernel), List.mem_of_getElem? (i := 1062) (by decide +kernel)⟩
def lw_privs_3 : List (MethodName × Nat) := [(⟨"HalfFair$Market", "sumByRule", "(I)J"⟩, 10), (⟨"HalfFair$Market", "valueOf", "(II)J"⟩, 10), (⟨"HalfFair$Market", "wayByRule", "()I"⟩, 10), (⟨"HalfFair", "isSet", "(I)Z"⟩, 17), (⟨"HalfFair$Pairs", "firstPartner", "(II)I"⟩, 2), (⟨"HalfFair$Walker", "spread", "(II)V"⟩, 11), (⟨"HalfFair$Walker", "goOn", "(Z)V"⟩, 11), (⟨"HalfFair$Walker", "choose", "(IIII)V"⟩, 11), (⟨"HalfFair$Walker", "weigh", "(III)V"⟩, 11), (⟨"HalfFair", "unseenBy", "(I)I"⟩, 17), (⟨"HalfFair", "gainOf", "(II)I"⟩, 17), (⟨"HalfFair", "fittingShape", "(II)I"⟩, 17), (⟨"HalfFair", "hourSold", "(LHalfFair$Rule;II)I"⟩, 17), (⟨"HalfFair", "hoursByRule", "()I"⟩, 17), (⟨"HalfFair$Trials", "gatherPairs", "(LHalfFair$Told;)I"⟩, 7), (⟨"HalfFair$Trials", "clearedByTrials", "()I"⟩, 7)]
theorem lw_r3 : ∀ q ∈ lw_privs_3, lw_okq q := List.forall_mem_cons.mpr ⟨lw_p32, List.forall_mem_cons.mpr ⟨lw_p33, List.forall_mem_cons.mpr ⟨lw_p34, List.forall_mem_cons.mpr ⟨lw_p35, List.forall_mem_cons.mpr ⟨lw_p36, List.forall_mem_cons.mpr ⟨lw_p37, List.forall_mem_cons.mpr ⟨lw_p38, List.forall_mem_cons.mpr ⟨lw_p39, List.forall_mem_cons.mpr ⟨lw_p40, List.forall_mem_cons.mpr ⟨lw_p41, List.forall_mem_cons.mpr ⟨lw_p42, List.forall_mem_cons.mpr ⟨lw_p43, List.forall_mem_cons.mpr ⟨lw_p44, List.forall_mem_cons.mpr ⟨lw_p45, List.forall_mem_cons.mpr ⟨lw_p46, List.forall_mem_cons.mpr ⟨lw_p47, fun _ h => absurd h List.not_mem_nil⟩⟩⟩⟩⟩⟩⟩⟩⟩⟩⟩⟩⟩⟩⟩⟩
theorem lw_p48 : lw_okq (⟨"HalfFair$Trials", "hitsAll", "(II)Z"⟩, 7) := ⟨⟨by decide +kernel, by decide +kernel⟩, List.mem_of_getElem? (i := 239) (by decide +kernel), List.mem_of_getElem? (i := 1066) (by decide +kernel), List.mem_of_getElem? (i := 1067) (by decide +kernel)⟩
theorem lw_p49 : lw_okq (⟨"HalfFairModel", "four", "(I)V"⟩, 37) := ⟨⟨by decide +kernel, by decide +kernel⟩, List.mem_of_getElem? (i := 1118) (by decide +kernel), List.mem_of_getElem? (i := 1240) (by decide +kernel), List.mem_of_getElem? (i := 1241) (by decide +kernel)⟩
theorem lw_p50 : lw_okq (⟨"HalfFairModel", "readsAll", "()Z"⟩, 37) := ⟨⟨by decide +kernel, by decide +kernel⟩, List.mem_of_getElem? (i := 1118) (by decide +kernel), List.mem_of_getElem? (i := 1252) (by decide +kernel), List.mem_of_getElem? (i := 1253) (by decide +kernel)⟩
theorem lw_p51 : lw_okq (⟨"HalfFairModel", "clauseHere", "()Z"⟩, 37) := ⟨⟨by decide +kernel, by decide +kernel⟩, List.mem_of_getElem? (i := 1118) (by decide +kernel), List.mem_of_getElem? (i := 1256) (by decide +kernel), List.mem_of_getElem? (i := 1257) (by decide +kernel)⟩
theorem lw_p52 : lw_okq (⟨"HalfFairModel", "see", "()I"⟩, 37) := ⟨⟨by decide +kernel, by decide +kernel⟩, List.mem_of_getElem? (i := 1118) (by decide +kernel), List.mem_of_getElem? (i := 1260) (by decide +kernel), List.mem_of_getElem? (i := 1261) (by decide +kernel)⟩
theorem lw_p53 : lw_okq (⟨"HalfFairModel", "isFairWord", "()Z"⟩, 37) := ⟨⟨by decide +kernel, by decide +kernel⟩, List.mem_of_getElem? (i := 1118) (by decide +kernel), List.mem_of_getElem? (i := 1264) (by decide +kernel), List.mem_of_getElem? (i := 1265) (by decide +kernel)⟩
theorem lw_p54 : lw_okq (⟨"HalfFairModel", "isWord", "(J)Z"⟩, 37) := ⟨⟨by decide +kernel, by decide +kernel⟩, List.mem_of_getElem? (i := 1118) (by decide +kernel), List.mem_of_getElem? (i := 1269) (by decide +kernel), List.mem_of_getElem? (i := 1270) (by decide +kernel)⟩
theorem lw_p55 : lw_okq (⟨"HalfFairModel", "isLetter", "(I)Z"⟩, 37) := ⟨⟨by decide +kernel, by decide +kernel⟩, List.mem_of_getElem? (i := 1118) (by decide +kernel), List.mem_of_getElem? (i := 1273) (by decide +kernel), List.mem_of_getElem? (i := 1274) (by decide +kernel)⟩
theorem lw_p56 : lw_okq (⟨"HalfFairModel", "fails", "(II)Z"⟩, 37) := ⟨⟨by decide +kernel, by decide +kernel⟩, List.mem_of_getElem? (i := 1118) (by decide +kernel), List.mem_of_getElem? (i := 1286) (by decide +kernel), List.mem_of_getElem? (i := 1287) (by decide +kernel)⟩
theorem lw_p57 : lw_okq (⟨"HalfFairModel", "fairLineHere", "(I)Z"⟩, 37) := ⟨⟨by decide +kernel, by decide +kernel⟩, List.mem_of_getElem? (i := 1118) (by decide +kernel), List.mem_of_getElem? (i := 1290) (by decide +kernel), List.mem_of_getElem? (i := 1291) (by decide +kernel)⟩
theorem lw_p58 : lw_okq (⟨"HalfFairModel", "areStallsHere", "(I)Z"⟩, 37) := ⟨⟨by decide +kernel, by decide +kernel⟩, List.mem_of_getElem? (i := 1118) (by decide +kernel), List.mem_of_getElem? (i := 1294) (by decide +kernel), List.mem_of_getElem? (i := 1295) (by decide +kernel)⟩
theorem lw_p59 : lw_okq (⟨"HalfFairModel", "passWord", "()V"⟩, 37) := ⟨⟨by decide +kernel, by decide +kernel⟩, List.mem_of_getElem? (i := 1118) (by decide +kernel), List.mem_of_getElem? (i := 1298) (by decide +kernel), List.mem_of_getElem? (i := 1299) (by decide +kernel)⟩
theorem lw_p60 : lw_okq (⟨"HalfFairModel", "cellHere", "(III)Z"⟩, 37) := ⟨⟨by decide +kernel, by decide +kernel⟩, List.mem_of_getElem? (i := 1118) (by decide +kernel), List.mem_of_getElem? (i := 1302) (by decide +kernel), List.mem_of_getElem? (i := 1303) (by decide +kernel)⟩
theorem lw_p61 : lw_okq (⟨"HalfFairModel", "numberHere", "(II)Z"⟩, 37) := ⟨⟨by decide +kernel, by decide +kernel⟩, List.mem_of_getElem? (i := 1118) (by decide +kernel), List.mem_of_getElem? (i := 1306) (by decide +kernel), List.mem_of_getElem? (i := 1307) (by decide +kernel)⟩
theorem lw_p62 : lw_okq (⟨"HalfFairModel", "isDigit", "(I)Z"⟩, 37) := ⟨⟨by decide +kernel, by decide +kernel⟩, List.mem_of_getElem? (i := 1118) (by decide +kernel), List.mem_of_getElem? (i := 1310) (by decide +kernel), List.mem_of_getElem? (i := 1311) (by decide +kernel)⟩
theorem lw_p63 : lw_okq (⟨"HalfFairModel", "isHalfHere", "(I)Z"⟩, 37) := ⟨⟨by decide +kernel, by decide +kernel⟩, List.mem_of_getElem? (i := 1118) (by decide +kernel), List.mem_of_getElem? (i := 1317) (by decide +kernel), List.mem_of_getElem? (i := 1318) (by decide +kernel)⟩
def lw_privs_4 : List (MethodName × Nat) := [(⟨"HalfFair$Trials", "hitsAll", "(II)Z"⟩, 7), (⟨"HalfFairModel", "four", "(I)V"⟩, 37), (⟨"HalfFairModel", "readsAll", "()Z"⟩, 37), (⟨"HalfFairModel", "clauseHere", "()Z"⟩, 37), (⟨"HalfFairModel", "see", "()I"⟩, 37), (⟨"HalfFairModel", "isFairWord", "()Z"⟩, 37), (⟨"HalfFairModel", "isWord", "(J)Z"⟩, 37), (⟨"HalfFairModel", "isLetter", "(I)Z"⟩, 37), (⟨"HalfFairModel", "fails", "(II)Z"⟩, 37), (⟨"HalfFairModel", "fairLineHere", "(I)Z"⟩, 37), (⟨"HalfFairModel", "areStallsHere", "(I)Z"⟩, 37), (⟨"HalfFairModel", "passWord", "()V"⟩, 37), (⟨"HalfFairModel", "cellHere", "(III)Z"⟩, 37), (⟨"HalfFairModel", "numberHere", "(II)Z"⟩, 37), (⟨"HalfFairModel", "isDigit", "(I)Z"⟩, 37), (⟨"HalfFairModel", "isHalfHere", "(I)Z"⟩, 37)]
theorem lw_r4 : ∀ q ∈ lw_privs_4, lw_okq q := List.forall_mem_cons.mpr ⟨lw_p48, List.forall_mem_cons.mpr ⟨lw_p49, List.forall_mem_cons.mpr ⟨lw_p50, List.forall_mem_cons.mpr ⟨lw_p51, List.forall_mem_cons.mpr ⟨lw_p52, List.forall_mem_cons.mpr ⟨lw_p53, List.forall_mem_cons.mpr ⟨lw_p54, List.forall_mem_cons.mpr ⟨lw_p55, List.forall_mem_cons.mpr ⟨lw_p56, List.forall_mem_cons.mpr ⟨lw_p57, List.forall_mem_cons.mpr ⟨lw_p58, List.forall_mem_cons.mpr ⟨lw_p59, List.forall_mem_cons.mpr ⟨lw_p60, List.forall_mem_cons.mpr ⟨lw_p61, List.forall_mem_cons.mpr ⟨lw_p62, List.forall_mem_cons.mpr ⟨lw_p63, fun _ h => absurd h List.not_mem_nil⟩⟩⟩⟩⟩⟩⟩⟩⟩⟩⟩⟩⟩⟩⟩⟩
theorem lw_p64 : lw_okq (⟨"HalfFairModel", "isForgedHere", "()Z"⟩, 37) := ⟨⟨by decide +kernel, by decide +kernel⟩, List.mem_of_getElem? (i := 1118) (by decide +kernel), List.mem_of_getElem? (i := 1321) (by decide +kernel), List.mem_of_getElem? (i := 1322) (by decide +kernel)⟩
theorem lw_p65 : lw_okq (⟨"HalfFairModel", "isBuyerHere", "(I)Z"⟩, 37) := ⟨⟨by decide +kernel, by decide +kernel⟩, List.mem_of_getElem? (i := 1118) (by decide +kernel), List.mem_of_getElem? (i := 1325) (by decide +kernel), List.mem_of_getElem? (i := 1326) (by decide +kernel)⟩
theorem lw_p66 : lw_okq (⟨"HalfFairModel", "isClubHere", "()Z"⟩, 37) := ⟨⟨by decide +kernel, by decide +kernel⟩, List.mem_of_getElem? (i := 1118) (by decide +kernel), List.mem_of_getElem? (i := 1329) (by decide +kernel), List.mem_of_getElem? (i := 1330) (by decide +kernel)⟩
theorem lw_p67 : lw_okq (⟨"HalfFairModel", "isOnceHere", "(IIII)Z"⟩, 37) := ⟨⟨by decide +kernel, by decide +kernel⟩, List.mem_of_getElem? (i := 1118) (by decide +kernel), List.mem_of_getElem? (i := 1336) (by decide +kernel), List.mem_of_getElem? (i := 1337) (by decide +kernel)⟩
theorem lw_p68 : lw_okq (⟨"HalfFairModel", "isDoingHere", "(I)Z"⟩, 37) := ⟨⟨by decide +kernel, by decide +kernel⟩, List.mem_of_getElem? (i := 1118) (by decide +kernel), List.mem_of_getElem? (i := 1340) (by decide +kernel), List.mem_of_getElem? (i := 1341) (by decide +kernel)⟩
theorem lw_p69 : lw_okq (⟨"HalfFairModel", "sum", "()Z"⟩, 37) := ⟨⟨by decide +kernel, by decide +kernel⟩, List.mem_of_getElem? (i := 1118) (by decide +kernel), List.mem_of_getElem? (i := 1344) (by decide +kernel), List.mem_of_getElem? (i := 1345) (by decide +kernel)⟩
theorem lw_p70 : lw_okq (⟨"HalfFairModel", "term", "()Z"⟩, 37) := ⟨⟨by decide +kernel, by decide +kernel⟩, List.mem_of_getElem? (i := 1118) (by decide +kernel), List.mem_of_getElem? (i := 1348) (by decide +kernel), List.mem_of_getElem? (i := 1349) (by decide +kernel)⟩
theorem lw_p71 : lw_okq (⟨"HalfFairModel", "value", "()Z"⟩, 37) := ⟨⟨by decide +kernel, by decide +kernel⟩, List.mem_of_getElem? (i := 1118) (by decide +kernel), List.mem_of_getElem? (i := 1352) (by decide +kernel), List.mem_of_getElem? (i := 1353) (by decide +kernel)⟩
theorem lw_p72 : lw_okq (⟨"HalfFairModel", "makes", "(I)Z"⟩, 37) := ⟨⟨by decide +kernel, by decide +kernel⟩, List.mem_of_getElem? (i := 1118) (by decide +kernel), List.mem_of_getElem? (i := 1357) (by decide +kernel), List.mem_of_getElem? (i := 1358) (by decide +kernel)⟩
theorem lw_p73 : lw_okq (⟨"HalfFairModel", "puts", "(II)V"⟩, 37) := ⟨⟨by decide +kernel, by decide +kernel⟩, List.mem_of_getElem? (i := 1118) (by decide +kernel), List.mem_of_getElem? (i := 1361) (by decide +kernel), List.mem_of_getElem? (i := 1362) (by decide +kernel)⟩
theorem lw_p74 : lw_okq (⟨"HalfFairModel", "wordHere", "()I"⟩, 37) := ⟨⟨by decide +kernel, by decide +kernel⟩, List.mem_of_getElem? (i := 1118) (by decide +kernel), List.mem_of_getElem? (i := 1365) (by decide +kernel), List.mem_of_getElem? (i := 1366) (by decide +kernel)⟩
theorem lw_p75 : lw_okq (⟨"HalfFairModel", "takesWord", "(J)Z"⟩, 37) := ⟨⟨by decide +kernel, by decide +kernel⟩, List.mem_of_getElem? (i := 1118) (by decide +kernel), List.mem_of_getElem? (i := 1381) (by decide +kernel), List.mem_of_getElem? (i := 1382) (by decide +kernel)⟩
theorem lw_p76 : lw_okq (⟨"HalfFairModel", "tested", "()Z"⟩, 37) := ⟨⟨by decide +kernel, by decide +kernel⟩, List.mem_of_getElem? (i := 1118) (by decide +kernel), List.mem_of_getElem? (i := 1385) (by decide +kernel), List.mem_of_getElem? (i := 1386) (by decide +kernel)⟩
theorem lw_p77 : lw_okq (⟨"HalfFairModel", "fact", "()Z"⟩, 37) := ⟨⟨by decide +kernel, by decide +kernel⟩, List.mem_of_getElem? (i := 1118) (by decide +kernel), List.mem_of_getElem? (i := 1389) (by decide +kernel), List.mem_of_getElem? (i := 1390) (by decide +kernel)⟩
theorem lw_p78 : lw_okq (⟨"HalfFairModel", "opens", "(I)Z"⟩, 37) := ⟨⟨by decide +kernel, by decide +kernel⟩, List.mem_of_getElem? (i := 1118) (by decide +kernel), List.mem_of_getElem? (i := 1394) (by decide +kernel), List.mem_of_getElem? (i := 1395) (by decide +kernel)⟩
theorem lw_p79 : lw_okq (⟨"HalfFairModel", "compare", "()Z"⟩, 37) := ⟨⟨by decide +kernel, by decide +kernel⟩, List.mem_of_getElem? (i := 1118) (by decide +kernel), List.mem_of_getElem? (i := 1398) (by decide +kernel), List.mem_of_getElem? (i := 1399) (by decide +kernel)⟩
def lw_privs_5 : List (MethodName × Nat) := [(⟨"HalfFairModel", "isForgedHere", "()Z"⟩, 37), (⟨"HalfFairModel", "isBuyerHere", "(I)Z"⟩, 37), (⟨"HalfFairModel", "isClubHere", "()Z"⟩, 37), (⟨"HalfFairModel", "isOnceHere", "(IIII)Z"⟩, 37), (⟨"HalfFairModel", "isDoingHere", "(I)Z"⟩, 37), (⟨"HalfFairModel", "sum", "()Z"⟩, 37), (⟨"HalfFairModel", "term", "()Z"⟩, 37), (⟨"HalfFairModel", "value", "()Z"⟩, 37), (⟨"HalfFairModel", "makes", "(I)Z"⟩, 37), (⟨"HalfFairModel", "puts", "(II)V"⟩, 37), (⟨"HalfFairModel", "wordHere", "()I"⟩, 37), (⟨"HalfFairModel", "takesWord", "(J)Z"⟩, 37), (⟨"HalfFairModel", "tested", "()Z"⟩, 37), (⟨"HalfFairModel", "fact", "()Z"⟩, 37), (⟨"HalfFairModel", "opens", "(I)Z"⟩, 37), (⟨"HalfFairModel", "compare", "()Z"⟩, 37)]
theorem lw_r5 : ∀ q ∈ lw_privs_5, lw_okq q := List.forall_mem_cons.mpr ⟨lw_p64, List.forall_mem_cons.mpr ⟨lw_p65, List.forall_mem_cons.mpr ⟨lw_p66, List.forall_mem_cons.mpr ⟨lw_p67, List.forall_mem_cons.mpr ⟨lw_p68, List.forall_mem_cons.mpr ⟨lw_p69, List.forall_mem_cons.mpr ⟨lw_p70, List.forall_mem_cons.mpr ⟨lw_p71, List.forall_mem_cons.mpr ⟨lw_p72, List.forall_mem_cons.mpr ⟨lw_p73, List.forall_mem_cons.mpr ⟨lw_p74, List.forall_mem_cons.mpr ⟨lw_p75, List.forall_mem_cons.mpr ⟨lw_p76, List.forall_mem_cons.mpr ⟨lw_p77, List.forall_mem_cons.mpr ⟨lw_p78, List.forall_mem_cons.mpr ⟨lw_p79, fun _ h => absurd h List.not_mem_nil⟩⟩⟩⟩⟩⟩⟩⟩⟩⟩⟩⟩⟩⟩⟩⟩
theorem lw_p80 : lw_okq (⟨"HalfFairModel", "closes", "()V"⟩, 37) := ⟨⟨by decide +kernel, by decide +kernel⟩, List.mem_of_getElem? (i := 1118) (by decide +kernel), List.mem_of_getElem? (i := 1402) (by decide +kernel), List.mem_of_getElem? (i := 1403) (by decide +kernel)⟩
theorem lw_p81 : lw_okq (⟨"HalfFairModel", "settles", "(I)V"⟩, 37) := ⟨⟨by decide +kernel, by decide +kernel⟩, List.mem_of_getElem? (i := 1118) (by decide +kernel), List.mem_of_getElem? (i := 1406) (by decide +kernel), List.mem_of_getElem? (i := 1407) (by decide +kernel)⟩
theorem lw_p82 : lw_okq (⟨"HalfFairModel", "isInside", "()Z"⟩, 37) := ⟨⟨by decide +kernel, by decide +kernel⟩, List.mem_of_getElem? (i := 1118) (by decide +kernel), List.mem_of_getElem? (i := 1413) (by decide +kernel), List.mem_of_getElem? (i := 1414) (by decide +kernel)⟩
theorem lw_p83 : lw_okq (⟨"HalfFairModel", "allSee", "()V"⟩, 37) := ⟨⟨by decide +kernel, by decide +kernel⟩, List.mem_of_getElem? (i := 1118) (by decide +kernel), List.mem_of_getElem? (i := 1423) (by decide +kernel), List.mem_of_getElem? (i := 1424) (by decide +kernel)⟩
theorem lw_p84 : lw_okq (⟨"HalfFairModel", "buyerOf", "(II)I"⟩, 37) := ⟨⟨by decide +kernel, by decide +kernel⟩, List.mem_of_getElem? (i := 1118) (by decide +kernel), List.mem_of_getElem? (i := 1427) (by decide +kernel), List.mem_of_getElem? (i := 1428) (by decide +kernel)⟩
theorem lw_p85 : lw_okq (⟨"HalfFairModel", "stallAt", "(II)I"⟩, 37) := ⟨⟨by decide +kernel, by decide +kernel⟩, List.mem_of_getElem? (i := 1118) (by decide +kernel), List.mem_of_getElem? (i := 1431) (by decide +kernel), List.mem_of_getElem? (i := 1432) (by decide +kernel)⟩
theorem lw_p86 : lw_okq (⟨"HalfFairModel", "spotAt", "(II)I"⟩, 37) := ⟨⟨by decide +kernel, by decide +kernel⟩, List.mem_of_getElem? (i := 1118) (by decide +kernel), List.mem_of_getElem? (i := 1435) (by decide +kernel), List.mem_of_getElem? (i := 1436) (by decide +kernel)⟩
theorem lw_p87 : lw_okq (⟨"HalfFairModel", "atStall", "(I)I"⟩, 37) := ⟨⟨by decide +kernel, by decide +kernel⟩, List.mem_of_getElem? (i := 1118) (by decide +kernel), List.mem_of_getElem? (i := 1439) (by decide +kernel), List.mem_of_getElem? (i := 1440) (by decide +kernel)⟩
theorem lw_p88 : lw_okq (⟨"HalfFairModel", "halfOf", "(II)I"⟩, 37) := ⟨⟨by decide +kernel, by decide +kernel⟩, List.mem_of_getElem? (i := 1118) (by decide +kernel), List.mem_of_getElem? (i := 1443) (by decide +kernel), List.mem_of_getElem? (i := 1444) (by decide +kernel)⟩
theorem lw_p89 : lw_okq (⟨"HalfFairModel", "fillsWorth", "()V"⟩, 37) := ⟨⟨by decide +kernel, by decide +kernel⟩, List.mem_of_getElem? (i := 1118) (by decide +kernel), List.mem_of_getElem? (i := 1447) (by decide +kernel), List.mem_of_getElem? (i := 1448) (by decide +kernel)⟩
theorem lw_p90 : lw_okq (⟨"HalfFairModel", "leastOf", "(I)I"⟩, 37) := ⟨⟨by decide +kernel, by decide +kernel⟩, List.mem_of_getElem? (i := 1118) (by decide +kernel), List.mem_of_getElem? (i := 1451) (by decide +kernel), List.mem_of_getElem? (i := 1452) (by decide +kernel)⟩
theorem lw_p91 : lw_okq (⟨"HalfFairModel", "fitOf", "(II)I"⟩, 37) := ⟨⟨by decide +kernel, by decide +kernel⟩, List.mem_of_getElem? (i := 1118) (by decide +kernel), List.mem_of_getElem? (i := 1455) (by decide +kernel), List.mem_of_getElem? (i := 1456) (by decide +kernel)⟩
theorem lw_p92 : lw_okq (⟨"HalfFairModel", "fitTold", "(II)I"⟩, 37) := ⟨⟨by decide +kernel, by decide +kernel⟩, List.mem_of_getElem? (i := 1118) (by decide +kernel), List.mem_of_getElem? (i := 1459) (by decide +kernel), List.mem_of_getElem? (i := 1460) (by decide +kernel)⟩
theorem lw_p93 : lw_okq (⟨"HalfFairModel", "apart", "(II)I"⟩, 37) := ⟨⟨by decide +kernel, by decide +kernel⟩, List.mem_of_getElem? (i := 1118) (by decide +kernel), List.mem_of_getElem? (i := 1463) (by decide +kernel), List.mem_of_getElem? (i := 1464) (by decide +kernel)⟩
theorem lw_p94 : lw_okq (⟨"HalfFairModel", "isSet", "(I)Z"⟩, 37) := ⟨⟨by decide +kernel, by decide +kernel⟩, List.mem_of_getElem? (i := 1118) (by decide +kernel), List.mem_of_getElem? (i := 1471) (by decide +kernel), List.mem_of_getElem? (i := 1472) (by decide +kernel)⟩
theorem lw_p95 : lw_okq (⟨"HalfFairModel", "isFair", "()Z"⟩, 37) := ⟨⟨by decide +kernel, by decide +kernel⟩, List.mem_of_getElem? (i := 1118) (by decide +kernel), List.mem_of_getElem? (i := 1475) (by decide +kernel), List.mem_of_getElem? (i := 1476) (by decide +kernel)⟩
def lw_privs_6 : List (MethodName × Nat) := [(⟨"HalfFairModel", "closes", "()V"⟩, 37), (⟨"HalfFairModel", "settles", "(I)V"⟩, 37), (⟨"HalfFairModel", "isInside", "()Z"⟩, 37), (⟨"HalfFairModel", "allSee", "()V"⟩, 37), (⟨"HalfFairModel", "buyerOf", "(II)I"⟩, 37), (⟨"HalfFairModel", "stallAt", "(II)I"⟩, 37), (⟨"HalfFairModel", "spotAt", "(II)I"⟩, 37), (⟨"HalfFairModel", "atStall", "(I)I"⟩, 37), (⟨"HalfFairModel", "halfOf", "(II)I"⟩, 37), (⟨"HalfFairModel", "fillsWorth", "()V"⟩, 37), (⟨"HalfFairModel", "leastOf", "(I)I"⟩, 37), (⟨"HalfFairModel", "fitOf", "(II)I"⟩, 37), (⟨"HalfFairModel", "fitTold", "(II)I"⟩, 37), (⟨"HalfFairModel", "apart", "(II)I"⟩, 37), (⟨"HalfFairModel", "isSet", "(I)Z"⟩, 37), (⟨"HalfFairModel", "isFair", "()Z"⟩, 37)]
theorem lw_r6 : ∀ q ∈ lw_privs_6, lw_okq q := List.forall_mem_cons.mpr ⟨lw_p80, List.forall_mem_cons.mpr ⟨lw_p81, List.forall_mem_cons.mpr ⟨lw_p82, List.forall_mem_cons.mpr ⟨lw_p83, List.forall_mem_cons.mpr ⟨lw_p84, List.forall_mem_cons.mpr ⟨lw_p85, List.forall_mem_cons.mpr ⟨lw_p86, List.forall_mem_cons.mpr ⟨lw_p87, List.forall_mem_cons.mpr ⟨lw_p88, List.forall_mem_cons.mpr ⟨lw_p89, List.forall_mem_cons.mpr ⟨lw_p90, List.forall_mem_cons.mpr ⟨lw_p91, List.forall_mem_cons.mpr ⟨lw_p92, List.forall_mem_cons.mpr ⟨lw_p93, List.forall_mem_cons.mpr ⟨lw_p94, List.forall_mem_cons.mpr ⟨lw_p95, fun _ h => absurd h List.not_mem_nil⟩⟩⟩⟩⟩⟩⟩⟩⟩⟩⟩⟩⟩⟩⟩⟩
theorem lw_p96 : lw_okq (⟨"HalfFairModel", "isHalf", "(I)Z"⟩, 37) := ⟨⟨by decide +kernel, by decide +kernel⟩, List.mem_of_getElem? (i := 1118) (by decide +kernel), List.mem_of_getElem? (i := 1483) (by decide +kernel), List.mem_of_getElem? (i := 1484) (by decide +kernel)⟩
theorem lw_p97 : lw_okq (⟨"HalfFairModel", "priceOf", "(I)I"⟩, 37) := ⟨⟨by decide +kernel, by decide +kernel⟩, List.mem_of_getElem? (i := 1118) (by decide +kernel), List.mem_of_getElem? (i := 1492) (by decide +kernel), List.mem_of_getElem? (i := 1493) (by decide +kernel)⟩
theorem lw_p98 : lw_okq (⟨"HalfFairModel", "isDusk", "()Z"⟩, 37) := ⟨⟨by decide +kernel, by decide +kernel⟩, List.mem_of_getElem? (i := 1118) (by decide +kernel), List.mem_of_getElem? (i := 1496) (by decide +kernel), List.mem_of_getElem? (i := 1497) (by decide +kernel)⟩
theorem lw_p99 : lw_okq (⟨"HalfFairModel", "isBuyer", "(I)Z"⟩, 37) := ⟨⟨by decide +kernel, by decide +kernel⟩, List.mem_of_getElem? (i := 1118) (by decide +kernel), List.mem_of_getElem? (i := 1508) (by decide +kernel), List.mem_of_getElem? (i := 1509) (by decide +kernel)⟩
theorem lw_p100 : lw_okq (⟨"HalfFairModel", "hasOf", "(I)I"⟩, 37) := ⟨⟨by decide +kernel, by decide +kernel⟩, List.mem_of_getElem? (i := 1118) (by decide +kernel), List.mem_of_getElem? (i := 1512) (by decide +kernel), List.mem_of_getElem? (i := 1513) (by decide +kernel)⟩
theorem lw_p101 : lw_okq (⟨"HalfFairModel", "sawOf", "(I)I"⟩, 37) := ⟨⟨by decide +kernel, by decide +kernel⟩, List.mem_of_getElem? (i := 1118) (by decide +kernel), List.mem_of_getElem? (i := 1516) (by decide +kernel), List.mem_of_getElem? (i := 1517) (by decide +kernel)⟩
theorem lw_p102 : lw_okq (⟨"HalfFairModel", "keepsAct", "()V"⟩, 37) := ⟨⟨by decide +kernel, by decide +kernel⟩, List.mem_of_getElem? (i := 1118) (by decide +kernel), List.mem_of_getElem? (i := 1534) (by decide +kernel), List.mem_of_getElem? (i := 1535) (by decide +kernel)⟩
theorem lw_p103 : lw_okq (⟨"HalfFairModel", "goes", "(II)V"⟩, 37) := ⟨⟨by decide +kernel, by decide +kernel⟩, List.mem_of_getElem? (i := 1118) (by decide +kernel), List.mem_of_getElem? (i := 1538) (by decide +kernel), List.mem_of_getElem? (i := 1539) (by decide +kernel)⟩
theorem lw_p104 : lw_okq (⟨"HalfFairModel", "hourComes", "()V"⟩, 37) := ⟨⟨by decide +kernel, by decide +kernel⟩, List.mem_of_getElem? (i := 1118) (by decide +kernel), List.mem_of_getElem? (i := 1542) (by decide +kernel), List.mem_of_getElem? (i := 1543) (by decide +kernel)⟩
theorem lw_p105 : lw_okq (⟨"HalfFairModel", "canBuy", "(II)Z"⟩, 37) := ⟨⟨by decide +kernel, by decide +kernel⟩, List.mem_of_getElem? (i := 1118) (by decide +kernel), List.mem_of_getElem? (i := 1550) (by decide +kernel), List.mem_of_getElem? (i := 1551) (by decide +kernel)⟩
theorem lw_p106 : lw_okq (⟨"HalfFairModel", "buys", "(II)V"⟩, 37) := ⟨⟨by decide +kernel, by decide +kernel⟩, List.mem_of_getElem? (i := 1118) (by decide +kernel), List.mem_of_getElem? (i := 1554) (by decide +kernel), List.mem_of_getElem? (i := 1555) (by decide +kernel)⟩
theorem lw_p107 : lw_okq (⟨"HalfFairModel", "far", "(II)I"⟩, 37) := ⟨⟨by decide +kernel, by decide +kernel⟩, List.mem_of_getElem? (i := 1118) (by decide +kernel), List.mem_of_getElem? (i := 1562) (by decide +kernel), List.mem_of_getElem? (i := 1563) (by decide +kernel)⟩
theorem lw_p108 : lw_okq (⟨"HalfFairModel", "areTheirs", "(IIII)Z"⟩, 37) := ⟨⟨by decide +kernel, by decide +kernel⟩, List.mem_of_getElem? (i := 1118) (by decide +kernel), List.mem_of_getElem? (i := 1573) (by decide +kernel), List.mem_of_getElem? (i := 1574) (by decide +kernel)⟩
theorem lw_p109 : lw_okq (⟨"HalfFairModel", "isRule", "(I)Z"⟩, 37) := ⟨⟨by decide +kernel, by decide +kernel⟩, List.mem_of_getElem? (i := 1118) (by decide +kernel), List.mem_of_getElem? (i := 1585) (by decide +kernel), List.mem_of_getElem? (i := 1586) (by decide +kernel)⟩
theorem lw_p110 : lw_okq (⟨"HalfFairModel", "passes", "(I)V"⟩, 37) := ⟨⟨by decide +kernel, by decide +kernel⟩, List.mem_of_getElem? (i := 1118) (by decide +kernel), List.mem_of_getElem? (i := 1590) (by decide +kernel), List.mem_of_getElem? (i := 1591) (by decide +kernel)⟩
theorem lw_p111 : lw_okq (⟨"HalfFairModel", "buysAll", "(II)V"⟩, 37) := ⟨⟨by decide +kernel, by decide +kernel⟩, List.mem_of_getElem? (i := 1118) (by decide +kernel), List.mem_of_getElem? (i := 1594) (by decide +kernel), List.mem_of_getElem? (i := 1595) (by decide +kernel)⟩
def lw_privs_7 : List (MethodName × Nat) := [(⟨"HalfFairModel", "isHalf", "(I)Z"⟩, 37), (⟨"HalfFairModel", "priceOf", "(I)I"⟩, 37), (⟨"HalfFairModel", "isDusk", "()Z"⟩, 37), (⟨"HalfFairModel", "isBuyer", "(I)Z"⟩, 37), (⟨"HalfFairModel", "hasOf", "(I)I"⟩, 37), (⟨"HalfFairModel", "sawOf", "(I)I"⟩, 37), (⟨"HalfFairModel", "keepsAct", "()V"⟩, 37), (⟨"HalfFairModel", "goes", "(II)V"⟩, 37), (⟨"HalfFairModel", "hourComes", "()V"⟩, 37), (⟨"HalfFairModel", "canBuy", "(II)Z"⟩, 37), (⟨"HalfFairModel", "buys", "(II)V"⟩, 37), (⟨"HalfFairModel", "far", "(II)I"⟩, 37), (⟨"HalfFairModel", "areTheirs", "(IIII)Z"⟩, 37), (⟨"HalfFairModel", "isRule", "(I)Z"⟩, 37), (⟨"HalfFairModel", "passes", "(I)V"⟩, 37), (⟨"HalfFairModel", "buysAll", "(II)V"⟩, 37)]
theorem lw_r7 : ∀ q ∈ lw_privs_7, lw_okq q := List.forall_mem_cons.mpr ⟨lw_p96, List.forall_mem_cons.mpr ⟨lw_p97, List.forall_mem_cons.mpr ⟨lw_p98, List.forall_mem_cons.mpr ⟨lw_p99, List.forall_mem_cons.mpr ⟨lw_p100, List.forall_mem_cons.mpr ⟨lw_p101, List.forall_mem_cons.mpr ⟨lw_p102, List.forall_mem_cons.mpr ⟨lw_p103, List.forall_mem_cons.mpr ⟨lw_p104, List.forall_mem_cons.mpr ⟨lw_p105, List.forall_mem_cons.mpr ⟨lw_p106, List.forall_mem_cons.mpr ⟨lw_p107, List.forall_mem_cons.mpr ⟨lw_p108, List.forall_mem_cons.mpr ⟨lw_p109, List.forall_mem_cons.mpr ⟨lw_p110, List.forall_mem_cons.mpr ⟨lw_p111, fun _ h => absurd h List.not_mem_nil⟩⟩⟩⟩⟩⟩⟩⟩⟩⟩⟩⟩⟩⟩⟩⟩
theorem lw_p112 : lw_okq (⟨"HalfFairModel", "nextFor", "(II)I"⟩, 37) := ⟨⟨by decide +kernel, by decide +kernel⟩, List.mem_of_getElem? (i := 1118) (by decide +kernel), List.mem_of_getElem? (i := 1598) (by decide +kernel), List.mem_of_getElem? (i := 1599) (by decide +kernel)⟩
theorem lw_p113 : lw_okq (⟨"HalfFairModel", "wordsFor", "(II)V"⟩, 37) := ⟨⟨by decide +kernel, by decide +kernel⟩, List.mem_of_getElem? (i := 1118) (by decide +kernel), List.mem_of_getElem? (i := 1602) (by decide +kernel), List.mem_of_getElem? (i := 1603) (by decide +kernel)⟩
theorem lw_p114 : lw_okq (⟨"HalfFairModel", "wordsOf", "(I)V"⟩, 37) := ⟨⟨by decide +kernel, by decide +kernel⟩, List.mem_of_getElem? (i := 1118) (by decide +kernel), List.mem_of_getElem? (i := 1606) (by decide +kernel), List.mem_of_getElem? (i := 1607) (by decide +kernel)⟩
theorem lw_p115 : lw_okq (⟨"HalfFairModel", "fitting", "(III)I"⟩, 37) := ⟨⟨by decide +kernel, by decide +kernel⟩, List.mem_of_getElem? (i := 1118) (by decide +kernel), List.mem_of_getElem? (i := 1610) (by decide +kernel), List.mem_of_getElem? (i := 1611) (by decide +kernel)⟩
theorem lw_p116 : lw_okq (⟨"HalfFairModel", "atStalls", "()I"⟩, 37) := ⟨⟨by decide +kernel, by decide +kernel⟩, List.mem_of_getElem? (i := 1118) (by decide +kernel), List.mem_of_getElem? (i := 1614) (by decide +kernel), List.mem_of_getElem? (i := 1615) (by decide +kernel)⟩
theorem lw_p117 : lw_okq (⟨"HalfFairModel", "summedBy", "(II)J"⟩, 37) := ⟨⟨by decide +kernel, by decide +kernel⟩, List.mem_of_getElem? (i := 1118) (by decide +kernel), List.mem_of_getElem? (i := 1618) (by decide +kernel), List.mem_of_getElem? (i := 1619) (by decide +kernel)⟩
theorem lw_p118 : lw_okq (⟨"HalfFairModel", "reckons", "(III)J"⟩, 37) := ⟨⟨by decide +kernel, by decide +kernel⟩, List.mem_of_getElem? (i := 1118) (by decide +kernel), List.mem_of_getElem? (i := 1622) (by decide +kernel), List.mem_of_getElem? (i := 1623) (by decide +kernel)⟩
theorem lw_p119 : lw_okq (⟨"HalfFairModel", "push", "(J)V"⟩, 37) := ⟨⟨by decide +kernel, by decide +kernel⟩, List.mem_of_getElem? (i := 1118) (by decide +kernel), List.mem_of_getElem? (i := 1626) (by decide +kernel), List.mem_of_getElem? (i := 1627) (by decide +kernel)⟩
theorem lw_p120 : lw_okq (⟨"HalfFairModel", "pop", "()J"⟩, 37) := ⟨⟨by decide +kernel, by decide +kernel⟩, List.mem_of_getElem? (i := 1118) (by decide +kernel), List.mem_of_getElem? (i := 1630) (by decide +kernel), List.mem_of_getElem? (i := 1631) (by decide +kernel)⟩
theorem lw_p121 : lw_okq (⟨"HalfFairModel", "goingBy", "(II)I"⟩, 37) := ⟨⟨by decide +kernel, by decide +kernel⟩, List.mem_of_getElem? (i := 1118) (by decide +kernel), List.mem_of_getElem? (i := 1637) (by decide +kernel), List.mem_of_getElem? (i := 1638) (by decide +kernel)⟩
theorem lw_p122 : lw_okq (⟨"HalfFairModel", "walksTill", "(II)V"⟩, 37) := ⟨⟨by decide +kernel, by decide +kernel⟩, List.mem_of_getElem? (i := 1118) (by decide +kernel), List.mem_of_getElem? (i := 1646) (by decide +kernel), List.mem_of_getElem? (i := 1647) (by decide +kernel)⟩
theorem lw_p123 : lw_okq (⟨"HalfFairModel", "walksOn", "(IZ)V"⟩, 37) := ⟨⟨by decide +kernel, by decide +kernel⟩, List.mem_of_getElem? (i := 1118) (by decide +kernel), List.mem_of_getElem? (i := 1653) (by decide +kernel), List.mem_of_getElem? (i := 1654) (by decide +kernel)⟩
theorem lw_p124 : lw_okq (⟨"HalfFairModel", "offers", "(II)V"⟩, 37) := ⟨⟨by decide +kernel, by decide +kernel⟩, List.mem_of_getElem? (i := 1118) (by decide +kernel), List.mem_of_getElem? (i := 1657) (by decide +kernel), List.mem_of_getElem? (i := 1658) (by decide +kernel)⟩
theorem lw_p125 : lw_okq (⟨"HalfFairModel", "goingsFor", "(I)I"⟩, 37) := ⟨⟨by decide +kernel, by decide +kernel⟩, List.mem_of_getElem? (i := 1118) (by decide +kernel), List.mem_of_getElem? (i := 1661) (by decide +kernel), List.mem_of_getElem? (i := 1662) (by decide +kernel)⟩
theorem lw_p126 : lw_okq (⟨"HalfFairModel", "unseen", "(I)I"⟩, 37) := ⟨⟨by decide +kernel, by decide +kernel⟩, List.mem_of_getElem? (i := 1118) (by decide +kernel), List.mem_of_getElem? (i := 1669) (by decide +kernel), List.mem_of_getElem? (i := 1670) (by decide +kernel)⟩
theorem lw_p127 : lw_okq (⟨"HalfFairModel", "givesFor", "(II)I"⟩, 37) := ⟨⟨by decide +kernel, by decide +kernel⟩, List.mem_of_getElem? (i := 1118) (by decide +kernel), List.mem_of_getElem? (i := 1680) (by decide +kernel), List.mem_of_getElem? (i := 1681) (by decide +kernel)⟩
def lw_privs_8 : List (MethodName × Nat) := [(⟨"HalfFairModel", "nextFor", "(II)I"⟩, 37), (⟨"HalfFairModel", "wordsFor", "(II)V"⟩, 37), (⟨"HalfFairModel", "wordsOf", "(I)V"⟩, 37), (⟨"HalfFairModel", "fitting", "(III)I"⟩, 37), (⟨"HalfFairModel", "atStalls", "()I"⟩, 37), (⟨"HalfFairModel", "summedBy", "(II)J"⟩, 37), (⟨"HalfFairModel", "reckons", "(III)J"⟩, 37), (⟨"HalfFairModel", "push", "(J)V"⟩, 37), (⟨"HalfFairModel", "pop", "()J"⟩, 37), (⟨"HalfFairModel", "goingBy", "(II)I"⟩, 37), (⟨"HalfFairModel", "walksTill", "(II)V"⟩, 37), (⟨"HalfFairModel", "walksOn", "(IZ)V"⟩, 37), (⟨"HalfFairModel", "offers", "(II)V"⟩, 37), (⟨"HalfFairModel", "goingsFor", "(I)I"⟩, 37), (⟨"HalfFairModel", "unseen", "(I)I"⟩, 37), (⟨"HalfFairModel", "givesFor", "(II)I"⟩, 37)]
theorem lw_r8 : ∀ q ∈ lw_privs_8, lw_okq q := List.forall_mem_cons.mpr ⟨lw_p112, List.forall_mem_cons.mpr ⟨lw_p113, List.forall_mem_cons.mpr ⟨lw_p114, List.forall_mem_cons.mpr ⟨lw_p115, List.forall_mem_cons.mpr ⟨lw_p116, List.forall_mem_cons.mpr ⟨lw_p117, List.forall_mem_cons.mpr ⟨lw_p118, List.forall_mem_cons.mpr ⟨lw_p119, List.forall_mem_cons.mpr ⟨lw_p120, List.forall_mem_cons.mpr ⟨lw_p121, List.forall_mem_cons.mpr ⟨lw_p122, List.forall_mem_cons.mpr ⟨lw_p123, List.forall_mem_cons.mpr ⟨lw_p124, List.forall_mem_cons.mpr ⟨lw_p125, List.forall_mem_cons.mpr ⟨lw_p126, List.forall_mem_cons.mpr ⟨lw_p127, fun _ h => absurd h List.not_mem_nil⟩⟩⟩⟩⟩⟩⟩⟩⟩⟩⟩⟩⟩⟩⟩⟩
theorem lw_p128 : lw_okq (⟨"HalfFairModel", "criedFor", "(II)I"⟩, 37) := ⟨⟨by decide +kernel, by decide +kernel⟩, List.mem_of_getElem? (i := 1118) (by decide +kernel), List.mem_of_getElem? (i := 1688) (by decide +kernel), List.mem_of_getElem? (i := 1689) (by decide +kernel)⟩
theorem lw_p129 : lw_okq (⟨"HalfFairModel", "isOwnShape", "(III)Z"⟩, 37) := ⟨⟨by decide +kernel, by decide +kernel⟩, List.mem_of_getElem? (i := 1118) (by decide +kernel), List.mem_of_getElem? (i := 1692) (by decide +kernel), List.mem_of_getElem? (i := 1693) (by decide +kernel)⟩
theorem lw_p130 : lw_okq (⟨"HalfFairModel", "hoursAhead", "()I"⟩, 37) := ⟨⟨by decide +kernel, by decide +kernel⟩, List.mem_of_getElem? (i := 1118) (by decide +kernel), List.mem_of_getElem? (i := 1700) (by decide +kernel), List.mem_of_getElem? (i := 1701) (by decide +kernel)⟩
theorem lw_p131 : lw_okq (⟨"HalfFairModel", "keeps", "()V"⟩, 37) := ⟨⟨by decide +kernel, by decide +kernel⟩, List.mem_of_getElem? (i := 1118) (by decide +kernel), List.mem_of_getElem? (i := 1704) (by decide +kernel), List.mem_of_getElem? (i := 1705) (by decide +kernel)⟩
theorem lw_p132 : lw_okq (⟨"HalfFairModel", "soldFrom", "(IIII)I"⟩, 37) := ⟨⟨by decide +kernel, by decide +kernel⟩, List.mem_of_getElem? (i := 1118) (by decide +kernel), List.mem_of_getElem? (i := 1708) (by decide +kernel), List.mem_of_getElem? (i := 1709) (by decide +kernel)⟩
theorem lw_p133 : lw_okq (⟨"HalfFairModel", "putsBack", "()V"⟩, 37) := ⟨⟨by decide +kernel, by decide +kernel⟩, List.mem_of_getElem? (i := 1118) (by decide +kernel), List.mem_of_getElem? (i := 1712) (by decide +kernel), List.mem_of_getElem? (i := 1713) (by decide +kernel)⟩
theorem lw_p134 : lw_okq (⟨"HalfFairModel", "isTried", "(I)Z"⟩, 37) := ⟨⟨by decide +kernel, by decide +kernel⟩, List.mem_of_getElem? (i := 1118) (by decide +kernel), List.mem_of_getElem? (i := 1724) (by decide +kernel), List.mem_of_getElem? (i := 1725) (by decide +kernel)⟩
theorem lw_p135 : lw_okq (⟨"HalfFairModel", "drawsHour", "(II)V"⟩, 37) := ⟨⟨by decide +kernel, by decide +kernel⟩, List.mem_of_getElem? (i := 1118) (by decide +kernel), List.mem_of_getElem? (i := 1738) (by decide +kernel), List.mem_of_getElem? (i := 1739) (by decide +kernel)⟩
theorem lw_p136 : lw_okq (⟨"HalfFairModel", "draw", "(I)I"⟩, 37) := ⟨⟨by decide +kernel, by decide +kernel⟩, List.mem_of_getElem? (i := 1118) (by decide +kernel), List.mem_of_getElem? (i := 1742) (by decide +kernel), List.mem_of_getElem? (i := 1743) (by decide +kernel)⟩
def lw_privs_9 : List (MethodName × Nat) := [(⟨"HalfFairModel", "criedFor", "(II)I"⟩, 37), (⟨"HalfFairModel", "isOwnShape", "(III)Z"⟩, 37), (⟨"HalfFairModel", "hoursAhead", "()I"⟩, 37), (⟨"HalfFairModel", "keeps", "()V"⟩, 37), (⟨"HalfFairModel", "soldFrom", "(IIII)I"⟩, 37), (⟨"HalfFairModel", "putsBack", "()V"⟩, 37), (⟨"HalfFairModel", "isTried", "(I)Z"⟩, 37), (⟨"HalfFairModel", "drawsHour", "(II)V"⟩, 37), (⟨"HalfFairModel", "draw", "(I)I"⟩, 37)]
theorem lw_r9 : ∀ q ∈ lw_privs_9, lw_okq q := List.forall_mem_cons.mpr ⟨lw_p128, List.forall_mem_cons.mpr ⟨lw_p129, List.forall_mem_cons.mpr ⟨lw_p130, List.forall_mem_cons.mpr ⟨lw_p131, List.forall_mem_cons.mpr ⟨lw_p132, List.forall_mem_cons.mpr ⟨lw_p133, List.forall_mem_cons.mpr ⟨lw_p134, List.forall_mem_cons.mpr ⟨lw_p135, List.forall_mem_cons.mpr ⟨lw_p136, fun _ h => absurd h List.not_mem_nil⟩⟩⟩⟩⟩⟩⟩⟩⟩
def lw_privs : List (MethodName × Nat) := lw_privs_1 ++ (lw_privs_2 ++ (lw_privs_3 ++ (lw_privs_4 ++ (lw_privs_5 ++ (lw_privs_6 ++ (lw_privs_7 ++ (lw_privs_8 ++ (lw_privs_9))))))))
def lw_tbl : List Cond := k2_sels lw_privs ++ tables_1
theorem lw_privs_ok : ∀ q ∈ lw_privs, lw_okq q := by
  show ∀ q ∈ lw_privs_1 ++ (lw_privs_2 ++ (lw_privs_3 ++ (lw_privs_4 ++ (lw_privs_5 ++ (lw_privs_6 ++ (lw_privs_7 ++ (lw_privs_8 ++ (lw_privs_9)))))))), lw_okq q
  exact List.forall_mem_append.mpr ⟨lw_r1, List.forall_mem_append.mpr ⟨lw_r2, List.forall_mem_append.mpr ⟨lw_r3, List.forall_mem_append.mpr ⟨lw_r4, List.forall_mem_append.mpr ⟨lw_r5, List.forall_mem_append.mpr ⟨lw_r6, List.forall_mem_append.mpr ⟨lw_r7, List.forall_mem_append.mpr ⟨lw_r8, lw_r9⟩⟩⟩⟩⟩⟩⟩⟩
end
section
theorem goodIn_r {big : List Cond} (ws : List Cond) (ps : List Nat) (hp : ws = ps.filterMap (fun i => big[i]?)) (h : ws.all goodWord = true) : GoodIn big ws := by
  intro w hw
  have h1 := List.all_eq_true.mp h w hw
  rw [hp] at hw
  obtain ⟨i, -, hi⟩ := List.mem_filterMap.mp hw
  have hm : w ∈ big := by first | exact List.mem_of_getElem? hi | exact List.getElem?_mem hi
  exact ⟨hm, good_of_word h1⟩
theorem goodIn_app {big a b : List Cond} (ha : GoodIn big a) (hb : GoodIn big b) : GoodIn big (a ++ b) := fun w h => (List.mem_append.mp h).elim (ha w) (hb w)
theorem goodIn_ca {big a b : List Cond} {c : Cond} (ha : GoodIn big (c :: a)) (hb : GoodIn big b) : GoodIn big (c :: (a ++ b)) := fun w h => (List.mem_cons.mp h).elim (fun e => ha w (List.mem_cons.mpr (Or.inl e))) (fun h => (List.mem_append.mp h).elim (fun h => ha w (List.mem_cons.mpr (Or.inr h))) (hb w))
theorem goodIn_sub {big ws : List Cond} (hm : ∀ w ∈ ws, w ∈ big) (h : ws.all goodWord = true) : GoodIn big ws := fun w hw => ⟨hm w hw, good_of_word (List.all_eq_true.mp h w hw)⟩

def RX0 : String := "HalfFair$FairReader"
def TX0 : u_T := fun k => match k with
  | 0 => ("HalfFair$FairReader", "tape", "LHalfFair$Tape;", false)
  | 1 => ("HalfFair$FairReader", "told", "LHalfFair$Told;", false)
  | _ => ("HalfFair$FairReader", "kindsTold", "I", false)
def tyX0 : Nat → FieldType := fun k => match k with
  | 0 => .object "HalfFair$Tape"
  | 1 => .object "HalfFair$Told"
  | _ => .int
abbrev wsX00 : List Cond := u_ws RX0 TX0 3
theorem nmX0 : ∀ a, a < 3 → ∀ b, b < 3 → a ≠ b → (TX0 a).2.1 ≠ (TX0 b).2.1 := by decide +kernel
theorem tyX0_ok : ∀ k, k < 3 → parseFieldDescriptor (TX0 k).2.2.1 = some (tyX0 k) := by decide +kernel
abbrev cX0_init : ByteArray := prog_2_method_1_code
def yX0_init : MethodName := ⟨RX0, "<init>", "()V"⟩
def RX1 : String := "HalfFair$Image"
def TX1 : u_T := fun k => match k with
  | 0 => ("HalfFair$Image", "told", "LHalfFair$Told;", false)
  | 1 => ("HalfFair$Image", "scene", "LHalfFair$Scene;", true)
  | 2 => ("HalfFair$Image", "trials", "LHalfFair$Trials;", true)
  | _ => ("HalfFair$Image", "x", "I", false)
def tyX1 : Nat → FieldType := fun k => match k with
  | 0 => .object "HalfFair$Told"
  | 1 => .object "HalfFair$Scene"
  | 2 => .object "HalfFair$Trials"
  | _ => .int
abbrev wsX10 : List Cond := u_ws RX1 TX1 4
theorem nmX1 : ∀ a, a < 4 → ∀ b, b < 4 → a ≠ b → (TX1 a).2.1 ≠ (TX1 b).2.1 := by decide +kernel
theorem tyX1_ok : ∀ k, k < 4 → parseFieldDescriptor (TX1 k).2.2.1 = some (tyX1 k) := by decide +kernel
abbrev cX1_init : ByteArray := prog_3_method_1_code
def yX1_init : MethodName := ⟨RX1, "<init>", "()V"⟩
def RX2 : String := "HalfFair$Market"
def TX2 : u_T := fun k => match k with
  | 0 => ("HalfFair$Market", "stack", "[J", true)
  | 1 => ("HalfFair$Market", "told", "LHalfFair$Told;", false)
  | 2 => ("HalfFair$Market", "scene", "LHalfFair$Scene;", false)
  | 3 => ("HalfFair$Market", "rule", "LHalfFair$Rule;", false)
  | 4 => ("HalfFair$Market", "words", "[I", true)
  | 5 => ("HalfFair$Market", "buyer", "I", false)
  | 6 => ("HalfFair$Market", "saw", "I", false)
  | 7 => ("HalfFair$Market", "stalls", "I", false)
  | 8 => ("HalfFair$Market", "bought", "I", false)
  | _ => ("HalfFair$Market", "x", "I", false)
def tyX2 : Nat → FieldType := fun k => match k with
  | 0 => .array .long
  | 1 => .object "HalfFair$Told"
  | 2 => .object "HalfFair$Scene"
  | 3 => .object "HalfFair$Rule"
  | 4 => .array .int
  | 5 => .int
  | 6 => .int
  | 7 => .int
  | 8 => .int
  | _ => .int
abbrev wsX20 : List Cond := u_ws RX2 TX2 10
theorem nmX2 : ∀ a, a < 10 → ∀ b, b < 10 → a ≠ b → (TX2 a).2.1 ≠ (TX2 b).2.1 := by decide +kernel
theorem tyX2_ok : ∀ k, k < 10 → parseFieldDescriptor (TX2 k).2.2.1 = some (tyX2 k) := by decide +kernel
abbrev cX2_init : ByteArray := prog_4_method_1_code
def yX2_init : MethodName := ⟨RX2, "<init>", "()V"⟩
def RX3 : String := "HalfFair$Pairs"
def TX3 : u_T := fun k => match k with
  | 0 => ("HalfFair$Pairs", "told", "LHalfFair$Told;", false)
  | _ => ("HalfFair$Pairs", "known", "[I", true)
def tyX3 : Nat → FieldType := fun k => match k with
  | 0 => .object "HalfFair$Told"
  | _ => .array .int
abbrev wsX30 : List Cond := u_ws RX3 TX3 2
theorem nmX3 : ∀ a, a < 2 → ∀ b, b < 2 → a ≠ b → (TX3 a).2.1 ≠ (TX3 b).2.1 := by decide +kernel
theorem tyX3_ok : ∀ k, k < 2 → parseFieldDescriptor (TX3 k).2.2.1 = some (tyX3 k) := by decide +kernel
abbrev cX3_init : ByteArray := prog_5_method_1_code
def yX3_init : MethodName := ⟨RX3, "<init>", "()V"⟩
def RX4 : String := "HalfFair$Rule"
def TX4 : u_T := fun k => match k with
  | 0 => ("HalfFair$Rule", "clauses", "I", false)
  | 1 => ("HalfFair$Rule", "kind", "[I", true)
  | 2 => ("HalfFair$Rule", "start", "[I", true)
  | 3 => ("HalfFair$Rule", "middle", "[I", true)
  | 4 => ("HalfFair$Rule", "end", "[I", true)
  | _ => ("HalfFair$Rule", "code", "[I", false)
def tyX4 : Nat → FieldType := fun k => match k with
  | 0 => .int
  | 1 => .array .int
  | 2 => .array .int
  | 3 => .array .int
  | 4 => .array .int
  | _ => .array .int
abbrev wsX40 : List Cond := u_ws RX4 TX4 6
theorem nmX4 : ∀ a, a < 6 → ∀ b, b < 6 → a ≠ b → (TX4 a).2.1 ≠ (TX4 b).2.1 := by decide +kernel
theorem tyX4_ok : ∀ k, k < 6 → parseFieldDescriptor (TX4 k).2.2.1 = some (tyX4 k) := by decide +kernel
abbrev cX4_init : ByteArray := prog_6_method_1_code
def yX4_init : MethodName := ⟨RX4, "<init>", "()V"⟩
def RX5 : String := "HalfFair$RuleReader"
def TX5 : u_T := fun k => match k with
  | 0 => ("HalfFair$RuleReader", "tape", "LHalfFair$Tape;", false)
  | 1 => ("HalfFair$RuleReader", "code", "[I", true)
  | 2 => ("HalfFair$RuleReader", "length", "I", false)
  | _ => ("HalfFair$RuleReader", "parts", "I", false)
def tyX5 : Nat → FieldType := fun k => match k with
  | 0 => .object "HalfFair$Tape"
  | 1 => .array .int
  | 2 => .int
  | _ => .int
abbrev wsX50 : List Cond := u_ws RX5 TX5 4
theorem nmX5 : ∀ a, a < 4 → ∀ b, b < 4 → a ≠ b → (TX5 a).2.1 ≠ (TX5 b).2.1 := by decide +kernel
theorem tyX5_ok : ∀ k, k < 4 → parseFieldDescriptor (TX5 k).2.2.1 = some (tyX5 k) := by decide +kernel
abbrev cX5_init : ByteArray := prog_7_method_1_code
def yX5_init : MethodName := ⟨RX5, "<init>", "()V"⟩
def RX6 : String := "HalfFair$Scene"
def TX6 : u_T := fun k => match k with
  | 0 => ("HalfFair$Scene", "hour", "I", false)
  | 1 => ("HalfFair$Scene", "purse", "[I", true)
  | 2 => ("HalfFair$Scene", "spot", "[I", true)
  | 3 => ("HalfFair$Scene", "seen", "[I", true)
  | 4 => ("HalfFair$Scene", "has", "[I", true)
  | _ => ("HalfFair$Scene", "at", "[I", true)
def tyX6 : Nat → FieldType := fun k => match k with
  | 0 => .int
  | 1 => .array .int
  | 2 => .array .int
  | 3 => .array .int
  | 4 => .array .int
  | _ => .array .int
abbrev wsX60 : List Cond := u_ws RX6 TX6 6
theorem nmX6 : ∀ a, a < 6 → ∀ b, b < 6 → a ≠ b → (TX6 a).2.1 ≠ (TX6 b).2.1 := by decide +kernel
theorem tyX6_ok : ∀ k, k < 6 → parseFieldDescriptor (TX6 k).2.2.1 = some (tyX6 k) := by decide +kernel
abbrev cX6_init : ByteArray := prog_8_method_1_code
def yX6_init : MethodName := ⟨RX6, "<init>", "()V"⟩
def RX7 : String := "HalfFair$Tape"
def TX7 : u_T := fun k => match k with
  | 0 => ("HalfFair$Tape", "bytes", "[I", true)
  | 1 => ("HalfFair$Tape", "length", "I", false)
  | 2 => ("HalfFair$Tape", "place", "I", false)
  | _ => ("HalfFair$Tape", "fault", "I", false)
def tyX7 : Nat → FieldType := fun k => match k with
  | 0 => .array .int
  | 1 => .int
  | 2 => .int
  | _ => .int
abbrev wsX70 : List Cond := u_ws RX7 TX7 4
theorem nmX7 : ∀ a, a < 4 → ∀ b, b < 4 → a ≠ b → (TX7 a).2.1 ≠ (TX7 b).2.1 := by decide +kernel
theorem tyX7_ok : ∀ k, k < 4 → parseFieldDescriptor (TX7 k).2.2.1 = some (tyX7 k) := by decide +kernel
abbrev cX7_init : ByteArray := prog_9_method_1_code
def yX7_init : MethodName := ⟨RX7, "<init>", "()V"⟩
def RX8 : String := "HalfFair$Told"
def TX8 : u_T := fun k => match k with
  | 0 => ("HalfFair$Told", "stalls", "I", false)
  | 1 => ("HalfFair$Told", "shift", "I", false)
  | 2 => ("HalfFair$Told", "halves", "I", false)
  | 3 => ("HalfFair$Told", "buyers", "I", false)
  | 4 => ("HalfFair$Told", "near", "I", false)
  | 5 => ("HalfFair$Told", "dusk", "I", false)
  | 6 => ("HalfFair$Told", "duskPrice", "I", false)
  | 7 => ("HalfFair$Told", "hear", "I", false)
  | 8 => ("HalfFair$Told", "forged", "I", false)
  | 9 => ("HalfFair$Told", "stall", "[I", true)
  | 10 => ("HalfFair$Told", "shape", "[I", true)
  | 11 => ("HalfFair$Told", "side", "[I", true)
  | 12 => ("HalfFair$Told", "price", "[I", true)
  | 13 => ("HalfFair$Told", "purse", "[I", true)
  | 14 => ("HalfFair$Told", "spot", "[I", true)
  | 15 => ("HalfFair$Told", "club", "[I", true)
  | 16 => ("HalfFair$Told", "fitting", "[I", true)
  | _ => ("HalfFair$Told", "nearly", "[I", true)
def tyX8 : Nat → FieldType := fun k => match k with
  | 0 => .int
  | 1 => .int
  | 2 => .int
  | 3 => .int
  | 4 => .int
  | 5 => .int
  | 6 => .int
  | 7 => .int
  | 8 => .int
  | 9 => .array .int
  | 10 => .array .int
  | 11 => .array .int
  | 12 => .array .int
  | 13 => .array .int
  | 14 => .array .int
  | 15 => .array .int
  | 16 => .array .int
  | _ => .array .int
abbrev wsX80 : List Cond := u_ws RX8 TX8 18
theorem nmX8 : ∀ a, a < 18 → ∀ b, b < 18 → a ≠ b → (TX8 a).2.1 ≠ (TX8 b).2.1 := by decide +kernel
theorem tyX8_ok : ∀ k, k < 18 → parseFieldDescriptor (TX8 k).2.2.1 = some (tyX8 k) := by decide +kernel
abbrev cX8_init : ByteArray := prog_10_method_1_code
def yX8_init : MethodName := ⟨RX8, "<init>", "()V"⟩
def RX9 : String := "HalfFair$Trials"
def TX9 : u_T := fun k => match k with
  | 0 => ("HalfFair$Trials", "size", "I", false)
  | 1 => ("HalfFair$Trials", "fewest", "I", false)
  | 2 => ("HalfFair$Trials", "honest", "I", false)
  | 3 => ("HalfFair$Trials", "pair", "[I", true)
  | 4 => ("HalfFair$Trials", "one", "[I", true)
  | 5 => ("HalfFair$Trials", "other", "[I", true)
  | _ => ("HalfFair$Trials", "fitted", "[Z", true)
def tyX9 : Nat → FieldType := fun k => match k with
  | 0 => .int
  | 1 => .int
  | 2 => .int
  | 3 => .array .int
  | 4 => .array .int
  | 5 => .array .int
  | _ => .array .boolean
abbrev wsX90 : List Cond := u_ws RX9 TX9 7
theorem nmX9 : ∀ a, a < 7 → ∀ b, b < 7 → a ≠ b → (TX9 a).2.1 ≠ (TX9 b).2.1 := by decide +kernel
theorem tyX9_ok : ∀ k, k < 7 → parseFieldDescriptor (TX9 k).2.2.1 = some (tyX9 k) := by decide +kernel
abbrev cX9_init : ByteArray := prog_11_method_1_code
def yX9_init : MethodName := ⟨RX9, "<init>", "()V"⟩
def RX10 : String := "HalfFair$Walker"
def TX10 : u_T := fun k => match k with
  | 0 => ("HalfFair$Walker", "here", "[I", false)
  | 1 => ("HalfFair$Walker", "next", "[I", false)
  | 2 => ("HalfFair$Walker", "ways", "[I", true)
  | 3 => ("HalfFair$Walker", "stallOf", "[I", true)
  | 4 => ("HalfFair$Walker", "told", "LHalfFair$Told;", false)
  | 5 => ("HalfFair$Walker", "pairs", "LHalfFair$Pairs;", false)
  | 6 => ("HalfFair$Walker", "has", "I", false)
  | 7 => ("HalfFair$Walker", "purse", "I", false)
  | 8 => ("HalfFair$Walker", "bestWays", "I", false)
  | 9 => ("HalfFair$Walker", "most", "I", false)
  | _ => ("HalfFair$Walker", "bought", "I", false)
def tyX10 : Nat → FieldType := fun k => match k with
  | 0 => .array .int
  | 1 => .array .int
  | 2 => .array .int
  | 3 => .array .int
  | 4 => .object "HalfFair$Told"
  | 5 => .object "HalfFair$Pairs"
  | 6 => .int
  | 7 => .int
  | 8 => .int
  | 9 => .int
  | _ => .int
abbrev wsX100 : List Cond := u_ws RX10 TX10 11
theorem nmX10 : ∀ a, a < 11 → ∀ b, b < 11 → a ≠ b → (TX10 a).2.1 ≠ (TX10 b).2.1 := by decide +kernel
theorem tyX10_ok : ∀ k, k < 11 → parseFieldDescriptor (TX10 k).2.2.1 = some (tyX10 k) := by decide +kernel
abbrev cX10_init : ByteArray := prog_12_method_1_code
def yX10_init : MethodName := ⟨RX10, "<init>", "()V"⟩
def RX11 : String := "HalfFair"
def TX11 : u_T := fun k => match k with
  | 0 => ("HalfFair", "tape", "LHalfFair$Tape;", true)
  | 1 => ("HalfFair", "fairReader", "LHalfFair$FairReader;", true)
  | 2 => ("HalfFair", "ruleReader", "LHalfFair$RuleReader;", true)
  | 3 => ("HalfFair", "rules", "[LHalfFair$Rule;", true)
  | 4 => ("HalfFair", "ruleCount", "I", false)
  | 5 => ("HalfFair", "told", "LHalfFair$Told;", false)
  | 6 => ("HalfFair", "scene", "LHalfFair$Scene;", true)
  | 7 => ("HalfFair", "spare", "LHalfFair$Scene;", true)
  | 8 => ("HalfFair", "past", "[LHalfFair$Scene;", true)
  | 9 => ("HalfFair", "pastFirst", "I", false)
  | 10 => ("HalfFair", "pastCount", "I", false)
  | 11 => ("HalfFair", "trials", "LHalfFair$Trials;", true)
  | 12 => ("HalfFair", "images", "[LHalfFair$Image;", true)
  | 13 => ("HalfFair", "pairs", "LHalfFair$Pairs;", true)
  | 14 => ("HalfFair", "walker", "LHalfFair$Walker;", true)
  | 15 => ("HalfFair", "market", "LHalfFair$Market;", true)
  | _ => ("HalfFair", "x", "I", false)
def tyX11 : Nat → FieldType := fun k => match k with
  | 0 => .object "HalfFair$Tape"
  | 1 => .object "HalfFair$FairReader"
  | 2 => .object "HalfFair$RuleReader"
  | 3 => .array (.object "HalfFair$Rule")
  | 4 => .int
  | 5 => .object "HalfFair$Told"
  | 6 => .object "HalfFair$Scene"
  | 7 => .object "HalfFair$Scene"
  | 8 => .array (.object "HalfFair$Scene")
  | 9 => .int
  | 10 => .int
  | 11 => .object "HalfFair$Trials"
  | 12 => .array (.object "HalfFair$Image")
  | 13 => .object "HalfFair$Pairs"
  | 14 => .object "HalfFair$Walker"
  | 15 => .object "HalfFair$Market"
  | _ => .int
abbrev wsX110 : List Cond := u_ws RX11 TX11 17
theorem nmX11 : ∀ a, a < 17 → ∀ b, b < 17 → a ≠ b → (TX11 a).2.1 ≠ (TX11 b).2.1 := by decide +kernel
theorem tyX11_ok : ∀ k, k < 17 → parseFieldDescriptor (TX11 k).2.2.1 = some (tyX11 k) := by decide +kernel
def RX12 : String := "HalfFairModel"
def TX12 : u_T := fun k => match k with
  | 0 => ("HalfFairModel", "tape", "[B", true)
  | 1 => ("HalfFairModel", "taped", "I", false)
  | 2 => ("HalfFairModel", "rules", "I", false)
  | 3 => ("HalfFairModel", "sign", "[I", true)
  | 4 => ("HalfFairModel", "length", "[I", true)
  | 5 => ("HalfFairModel", "clause", "[I", true)
  | 6 => ("HalfFairModel", "clauses", "[I", true)
  | 7 => ("HalfFairModel", "read", "[I", true)
  | 8 => ("HalfFairModel", "next", "I", false)
  | 9 => ("HalfFairModel", "wrong", "I", false)
  | 10 => ("HalfFairModel", "number", "I", false)
  | 11 => ("HalfFairModel", "text", "I", false)
  | 12 => ("HalfFairModel", "made", "I", false)
  | 13 => ("HalfFairModel", "deep", "I", false)
  | 14 => ("HalfFairModel", "lines", "I", false)
  | 15 => ("HalfFairModel", "open", "[I", true)
  | 16 => ("HalfFairModel", "opened", "I", false)
  | 17 => ("HalfFairModel", "stack", "[J", true)
  | 18 => ("HalfFairModel", "top", "I", false)
  | 19 => ("HalfFairModel", "word", "[J", true)
  | 20 => ("HalfFairModel", "said", "[I", true)
  | 21 => ("HalfFairModel", "x", "I", false)
  | 22 => ("HalfFairModel", "worth", "[I", true)
  | 23 => ("HalfFairModel", "mate", "[I", true)
  | 24 => ("HalfFairModel", "wasSaid", "[I", true)
  | 25 => ("HalfFairModel", "undone", "I", false)
  | 26 => ("HalfFairModel", "boughtNow", "I", false)
  | 27 => ("HalfFairModel", "wayBy", "[I", true)
  | 28 => ("HalfFairModel", "wayThen", "[I", true)
  | 29 => ("HalfFairModel", "walkMost", "I", false)
  | 30 => ("HalfFairModel", "walkGoing", "I", false)
  | 31 => ("HalfFairModel", "walkSet", "I", false)
  | 32 => ("HalfFairModel", "kept", "[I", true)
  | 33 => ("HalfFairModel", "drawX", "J", false)
  | 34 => ("HalfFairModel", "images", "[I", true)
  | 35 => ("HalfFairModel", "imageX", "[I", true)
  | _ => ("HalfFairModel", "isMade", "[Z", true)
def tyX12 : Nat → FieldType := fun k => match k with
  | 0 => .array .byte
  | 1 => .int
  | 2 => .int
  | 3 => .array .int
  | 4 => .array .int
  | 5 => .array .int
  | 6 => .array .int
  | 7 => .array .int
  | 8 => .int
  | 9 => .int
  | 10 => .int
  | 11 => .int
  | 12 => .int
  | 13 => .int
  | 14 => .int
  | 15 => .array .int
  | 16 => .int
  | 17 => .array .long
  | 18 => .int
  | 19 => .array .long
  | 20 => .array .int
  | 21 => .int
  | 22 => .array .int
  | 23 => .array .int
  | 24 => .array .int
  | 25 => .int
  | 26 => .int
  | 27 => .array .int
  | 28 => .array .int
  | 29 => .int
  | 30 => .int
  | 31 => .int
  | 32 => .array .int
  | 33 => .long
  | 34 => .array .int
  | 35 => .array .int
  | _ => .array .boolean
abbrev wsX120 : List Cond := u_ws RX12 TX12 37
theorem nmX12 : ∀ a, a < 37 → ∀ b, b < 37 → a ≠ b → (TX12 a).2.1 ≠ (TX12 b).2.1 := by decide +kernel
theorem tyX12_ok : ∀ k, k < 37 → parseFieldDescriptor (TX12 k).2.2.1 = some (tyX12 k) := by decide +kernel
def RJ0 : String := "java/lang/String"
def TJ0 : u_T := fun k => match k with
  | _ => ("", "", "", false)
def tyJ0 : Nat → FieldType := fun k => match k with
  | _ => .int
abbrev wsJ00 : List Cond := u_ws RJ0 TJ0 0
theorem nmJ0 : ∀ a, a < 0 → ∀ b, b < 0 → a ≠ b → (TJ0 a).2.1 ≠ (TJ0 b).2.1 := by decide +kernel
theorem tyJ0_ok : ∀ k, k < 0 → parseFieldDescriptor (TJ0 k).2.2.1 = some (tyJ0 k) := by decide +kernel
def RJ1 : String := "java/lang/StringLatin1"
def TJ1 : u_T := fun k => match k with
  | _ => ("", "", "", false)
def tyJ1 : Nat → FieldType := fun k => match k with
  | _ => .int
abbrev wsJ10 : List Cond := u_ws RJ1 TJ1 0
theorem nmJ1 : ∀ a, a < 0 → ∀ b, b < 0 → a ≠ b → (TJ1 a).2.1 ≠ (TJ1 b).2.1 := by decide +kernel
theorem tyJ1_ok : ∀ k, k < 0 → parseFieldDescriptor (TJ1 k).2.2.1 = some (tyJ1 k) := by decide +kernel
def RJ3 : String := "jdk/internal/util/Preconditions"
def TJ3 : u_T := fun k => match k with
  | _ => ("", "", "", false)
def tyJ3 : Nat → FieldType := fun k => match k with
  | _ => .int
abbrev wsJ30 : List Cond := u_ws RJ3 TJ3 0
theorem nmJ3 : ∀ a, a < 0 → ∀ b, b < 0 → a ≠ b → (TJ3 a).2.1 ≠ (TJ3 b).2.1 := by decide +kernel
theorem tyJ3_ok : ∀ k, k < 0 → parseFieldDescriptor (TJ3 k).2.2.1 = some (tyJ3 k) := by decide +kernel
def RJ6 : String := "java/lang/Integer"
def TJ6 : u_T := fun k => match k with
  | _ => ("", "", "", false)
def tyJ6 : Nat → FieldType := fun k => match k with
  | _ => .int
abbrev wsJ60 : List Cond := u_ws RJ6 TJ6 0
theorem nmJ6 : ∀ a, a < 0 → ∀ b, b < 0 → a ≠ b → (TJ6 a).2.1 ≠ (TJ6 b).2.1 := by decide +kernel
theorem tyJ6_ok : ∀ k, k < 0 → parseFieldDescriptor (TJ6 k).2.2.1 = some (tyJ6 k) := by decide +kernel
def RL : String := "HalfFairLaw"
abbrev cL_law : ByteArray := code
end
section
theorem gu_X1 : GoodIn lw_tbl (u_ws RX1 TX1 4) := goodIn_r _ [1237, 1239, 1241, 1243] (by decide +kernel) (by decide +kernel)
theorem gu_X2 : GoodIn lw_tbl (u_ws RX2 TX2 10) := goodIn_r _ [482, 484, 486, 488, 490, 492, 494, 496, 498, 500] (by decide +kernel) (by decide +kernel)
theorem gu_X3 : GoodIn lw_tbl (u_ws RX3 TX3 2) := goodIn_r _ [417, 419] (by decide +kernel) (by decide +kernel)
theorem gu_X4 : GoodIn lw_tbl (u_ws RX4 TX4 6) := goodIn_r _ [767, 769, 771, 773, 775, 777] (by decide +kernel) (by decide +kernel)
theorem gu_X5 : GoodIn lw_tbl (u_ws RX5 TX5 4) := goodIn_r _ [217, 219, 221, 223] (by decide +kernel) (by decide +kernel)
theorem gu_X6 : GoodIn lw_tbl (u_ws RX6 TX6 6) := goodIn_r _ [361, 363, 365, 367, 369, 371] (by decide +kernel) (by decide +kernel)
theorem gu_X7 : GoodIn lw_tbl (u_ws RX7 TX7 4) := goodIn_r _ [181, 183, 185, 187] (by decide +kernel) (by decide +kernel)
theorem gu_X8 : GoodIn lw_tbl (u_ws RX8 TX8 18) := goodIn_r _ [297, 299, 301, 303, 305, 307, 309, 311, 313, 315, 317, 319, 321, 323, 325, 327, 329, 331] (by decide +kernel) (by decide +kernel)
theorem gu_X9 : GoodIn lw_tbl (u_ws RX9 TX9 7) := goodIn_r _ [391, 393, 395, 397, 399, 401, 403] (by decide +kernel) (by decide +kernel)
theorem gu_X10 : GoodIn lw_tbl (u_ws RX10 TX10 11) := goodIn_r _ [441, 443, 445, 447, 449, 451, 453, 455, 457, 459, 461] (by decide +kernel) (by decide +kernel)
def TB0 : List Cond := [.methodLink RX7 3 objectInit, .instanceMethod objectInit, .code objectInit ⟨#[0xb1]⟩ 1 none, .arrayClass .int, .fieldLink RX7 9 "HalfFair$Tape" "bytes" "[I", .methodLink RX0 3 objectInit, .methodLink RX5 3 objectInit, .fieldLink RX5 9 "HalfFair$RuleReader" "code" "[I", .methodLink RX8 3 objectInit, .fieldLink RX8 9 "HalfFair$Told" "dusk" "I", .fieldLink RX8 15 "HalfFair$Told" "duskPrice" "I", .fieldLink RX8 18 "HalfFair$Told" "hear" "I", .fieldLink RX8 21 "HalfFair$Told" "stall" "[I", .fieldLink RX8 25 "HalfFair$Told" "shape" "[I", .fieldLink RX8 28 "HalfFair$Told" "side" "[I", .fieldLink RX8 31 "HalfFair$Told" "price" "[I", .fieldLink RX8 34 "HalfFair$Told" "purse" "[I", .fieldLink RX8 37 "HalfFair$Told" "spot" "[I", .fieldLink RX8 40 "HalfFair$Told" "club" "[I", .fieldLink RX8 43 "HalfFair$Told" "fitting" "[I", .fieldLink RX8 46 "HalfFair$Told" "nearly" "[I", .methodLink RX6 3 objectInit, .fieldLink RX6 9 "HalfFair$Scene" "purse" "[I", .fieldLink RX6 15 "HalfFair$Scene" "spot" "[I", .fieldLink RX6 18 "HalfFair$Scene" "seen" "[I", .fieldLink RX6 21 "HalfFair$Scene" "has" "[I", .fieldLink RX6 24 "HalfFair$Scene" "at" "[I", .methodLink RX9 3 objectInit, .fieldLink RX9 11 "HalfFair$Trials" "pair" "[I", .fieldLink RX9 15 "HalfFair$Trials" "one" "[I", .fieldLink RX9 18 "HalfFair$Trials" "other" "[I", .arrayClass .boolean, .fieldLink RX9 21 "HalfFair$Trials" "fitted" "[Z", .methodLink RX3 3 objectInit, .fieldLink RX3 11 "HalfFair$Pairs" "known" "[I", .methodLink RX10 3 objectInit, .fieldLink RX10 11 "HalfFair$Walker" "here" "[I", .fieldLink RX10 15 "HalfFair$Walker" "next" "[I", .fieldLink RX10 18 "HalfFair$Walker" "ways" "[I", .fieldLink RX10 21 "HalfFair$Walker" "stallOf" "[I"]
theorem gt_0 : GoodIn lw_tbl TB0 := goodIn_r _ [172, 165, 166, 190, 173, 196, 212, 214, 233, 256, 258, 260, 266, 269, 273, 277, 280, 283, 286, 290, 294, 339, 344, 348, 352, 354, 358, 380, 387, 388, 389, 406, 390, 414, 416, 427, 428, 429, 430, 431] (by decide +kernel) (by decide +kernel)
def TB1 : List Cond := [.methodLink RX2 3 objectInit, .arrayClass .long, .fieldLink RX2 11 "HalfFair$Market" "stack" "[J", .fieldLink RX2 17 "HalfFair$Market" "words" "[I", .methodLink RX4 1 objectInit, .fieldLink RX4 9 "HalfFair$Rule" "kind" "[I", .fieldLink RX4 13 "HalfFair$Rule" "start" "[I", .fieldLink RX4 16 "HalfFair$Rule" "middle" "[I", .fieldLink RX4 19 "HalfFair$Rule" "end" "[I", .fieldLink RX4 22 "HalfFair$Rule" "code" "[I", .methodLink RX1 1 objectInit, .classLink RX1 7 RX6, .instantiable RX6 6, .initialized RX6, .code yX6_init cX6_init 1 none, .instanceMethod yX6_init, .fieldLink RX1 10 "HalfFair$Image" "scene" "LHalfFair$Scene;", .classLink RX1 16 RX9, .instantiable RX9 7, .initialized RX9, .code yX9_init cX9_init 1 none, .instanceMethod yX9_init, .fieldLink RX1 19 "HalfFair$Image" "trials" "LHalfFair$Trials;"]
theorem gt_1 : GoodIn lw_tbl TB1 := goodIn_r _ [469, 503, 470, 474, 749, 752, 755, 758, 761, 764, 1226, 1227, 335, 143, 338, 337, 1232, 1229, 376, 144, 379, 378, 1234] (by decide +kernel) (by decide +kernel)
def TB : List Cond := u_ws RX1 TX1 4 ++ (u_ws RX2 TX2 10 ++ (u_ws RX3 TX3 2 ++ (u_ws RX4 TX4 6 ++ (u_ws RX5 TX5 4 ++ (u_ws RX6 TX6 6 ++ (u_ws RX7 TX7 4 ++ (u_ws RX8 TX8 18 ++ (u_ws RX9 TX9 7 ++ (u_ws RX10 TX10 11 ++ (TB0 ++ (TB1)))))))))))
theorem TB_ok : GoodIn lw_tbl TB := goodIn_app gu_X1 (goodIn_app gu_X2 (goodIn_app gu_X3 (goodIn_app gu_X4 (goodIn_app gu_X5 (goodIn_app gu_X6 (goodIn_app gu_X7 (goodIn_app gu_X8 (goodIn_app gu_X9 (goodIn_app gu_X10 (goodIn_app gt_0 (gt_1)))))))))))
theorem i_X1 : ∀ w ∈ u_ws RX1 TX1 4, w ∈ TB := fun _ h => List.mem_append_left _ h
theorem i_X2 : ∀ w ∈ u_ws RX2 TX2 10, w ∈ TB := fun _ h => List.mem_append_right _ (List.mem_append_left _ h)
theorem i_X3 : ∀ w ∈ u_ws RX3 TX3 2, w ∈ TB := fun _ h => List.mem_append_right _ (List.mem_append_right _ (List.mem_append_left _ h))
theorem i_X4 : ∀ w ∈ u_ws RX4 TX4 6, w ∈ TB := fun _ h => List.mem_append_right _ (List.mem_append_right _ (List.mem_append_right _ (List.mem_append_left _ h)))
theorem i_X5 : ∀ w ∈ u_ws RX5 TX5 4, w ∈ TB := fun _ h => List.mem_append_right _ (List.mem_append_right _ (List.mem_append_right _ (List.mem_append_right _ (List.mem_append_left _ h))))
theorem i_X6 : ∀ w ∈ u_ws RX6 TX6 6, w ∈ TB := fun _ h => List.mem_append_right _ (List.mem_append_right _ (List.mem_append_right _ (List.mem_append_right _ (List.mem_append_right _ (List.mem_append_left _ h)))))
theorem i_X7 : ∀ w ∈ u_ws RX7 TX7 4, w ∈ TB := fun _ h => List.mem_append_right _ (List.mem_append_right _ (List.mem_append_right _ (List.mem_append_right _ (List.mem_append_right _ (List.mem_append_right _ (List.mem_append_left _ h))))))
theorem i_X8 : ∀ w ∈ u_ws RX8 TX8 18, w ∈ TB := fun _ h => List.mem_append_right _ (List.mem_append_right _ (List.mem_append_right _ (List.mem_append_right _ (List.mem_append_right _ (List.mem_append_right _ (List.mem_append_right _ (List.mem_append_left _ h)))))))
theorem i_X9 : ∀ w ∈ u_ws RX9 TX9 7, w ∈ TB := fun _ h => List.mem_append_right _ (List.mem_append_right _ (List.mem_append_right _ (List.mem_append_right _ (List.mem_append_right _ (List.mem_append_right _ (List.mem_append_right _ (List.mem_append_right _ (List.mem_append_left _ h))))))))
theorem i_X10 : ∀ w ∈ u_ws RX10 TX10 11, w ∈ TB := fun _ h => List.mem_append_right _ (List.mem_append_right _ (List.mem_append_right _ (List.mem_append_right _ (List.mem_append_right _ (List.mem_append_right _ (List.mem_append_right _ (List.mem_append_right _ (List.mem_append_right _ (List.mem_append_left _ h)))))))))
theorem it_0 : ∀ w ∈ TB0, w ∈ TB := fun _ h => List.mem_append_right _ (List.mem_append_right _ (List.mem_append_right _ (List.mem_append_right _ (List.mem_append_right _ (List.mem_append_right _ (List.mem_append_right _ (List.mem_append_right _ (List.mem_append_right _ (List.mem_append_right _ (List.mem_append_left _ h))))))))))
theorem it_1 : ∀ w ∈ TB1, w ∈ TB := fun _ h => List.mem_append_right _ (List.mem_append_right _ (List.mem_append_right _ (List.mem_append_right _ (List.mem_append_right _ (List.mem_append_right _ (List.mem_append_right _ (List.mem_append_right _ (List.mem_append_right _ (List.mem_append_right _ (List.mem_append_right _ (h)))))))))))
theorem q_0 : (Cond.methodLink RX7 3 objectInit) ∈ TB := it_0 _ (List.mem_of_getElem? (i := 0) rfl)
theorem q_1 : (Cond.instanceMethod objectInit) ∈ TB := it_0 _ (List.mem_of_getElem? (i := 1) rfl)
theorem q_2 : (Cond.code objectInit ⟨#[0xb1]⟩ 1 none) ∈ TB := it_0 _ (List.mem_of_getElem? (i := 2) rfl)
theorem q_3 : (Cond.arrayClass .int) ∈ TB := it_0 _ (List.mem_of_getElem? (i := 3) rfl)
theorem q_4 : (Cond.fieldLink RX7 9 "HalfFair$Tape" "bytes" "[I") ∈ TB := it_0 _ (List.mem_of_getElem? (i := 4) rfl)
theorem q_5 : (Cond.methodLink RX0 3 objectInit) ∈ TB := it_0 _ (List.mem_of_getElem? (i := 5) rfl)
theorem q_6 : (Cond.methodLink RX5 3 objectInit) ∈ TB := it_0 _ (List.mem_of_getElem? (i := 6) rfl)
theorem q_7 : (Cond.fieldLink RX5 9 "HalfFair$RuleReader" "code" "[I") ∈ TB := it_0 _ (List.mem_of_getElem? (i := 7) rfl)
theorem q_8 : (Cond.methodLink RX8 3 objectInit) ∈ TB := it_0 _ (List.mem_of_getElem? (i := 8) rfl)
theorem q_9 : (Cond.fieldLink RX8 9 "HalfFair$Told" "dusk" "I") ∈ TB := it_0 _ (List.mem_of_getElem? (i := 9) rfl)
theorem q_10 : (Cond.fieldLink RX8 15 "HalfFair$Told" "duskPrice" "I") ∈ TB := it_0 _ (List.mem_of_getElem? (i := 10) rfl)
theorem q_11 : (Cond.fieldLink RX8 18 "HalfFair$Told" "hear" "I") ∈ TB := it_0 _ (List.mem_of_getElem? (i := 11) rfl)
theorem q_12 : (Cond.fieldLink RX8 21 "HalfFair$Told" "stall" "[I") ∈ TB := it_0 _ (List.mem_of_getElem? (i := 12) rfl)
theorem q_13 : (Cond.fieldLink RX8 25 "HalfFair$Told" "shape" "[I") ∈ TB := it_0 _ (List.mem_of_getElem? (i := 13) rfl)
theorem q_14 : (Cond.fieldLink RX8 28 "HalfFair$Told" "side" "[I") ∈ TB := it_0 _ (List.mem_of_getElem? (i := 14) rfl)
theorem q_15 : (Cond.fieldLink RX8 31 "HalfFair$Told" "price" "[I") ∈ TB := it_0 _ (List.mem_of_getElem? (i := 15) rfl)
theorem q_16 : (Cond.fieldLink RX8 34 "HalfFair$Told" "purse" "[I") ∈ TB := it_0 _ (List.mem_of_getElem? (i := 16) rfl)
theorem q_17 : (Cond.fieldLink RX8 37 "HalfFair$Told" "spot" "[I") ∈ TB := it_0 _ (List.mem_of_getElem? (i := 17) rfl)
theorem q_18 : (Cond.fieldLink RX8 40 "HalfFair$Told" "club" "[I") ∈ TB := it_0 _ (List.mem_of_getElem? (i := 18) rfl)
theorem q_19 : (Cond.fieldLink RX8 43 "HalfFair$Told" "fitting" "[I") ∈ TB := it_0 _ (List.mem_of_getElem? (i := 19) rfl)
theorem q_20 : (Cond.fieldLink RX8 46 "HalfFair$Told" "nearly" "[I") ∈ TB := it_0 _ (List.mem_of_getElem? (i := 20) rfl)
theorem q_21 : (Cond.methodLink RX6 3 objectInit) ∈ TB := it_0 _ (List.mem_of_getElem? (i := 21) rfl)
theorem q_22 : (Cond.fieldLink RX6 9 "HalfFair$Scene" "purse" "[I") ∈ TB := it_0 _ (List.mem_of_getElem? (i := 22) rfl)
theorem q_23 : (Cond.fieldLink RX6 15 "HalfFair$Scene" "spot" "[I") ∈ TB := it_0 _ (List.mem_of_getElem? (i := 23) rfl)
theorem q_24 : (Cond.fieldLink RX6 18 "HalfFair$Scene" "seen" "[I") ∈ TB := it_0 _ (List.mem_of_getElem? (i := 24) rfl)
theorem q_25 : (Cond.fieldLink RX6 21 "HalfFair$Scene" "has" "[I") ∈ TB := it_0 _ (List.mem_of_getElem? (i := 25) rfl)
theorem q_26 : (Cond.fieldLink RX6 24 "HalfFair$Scene" "at" "[I") ∈ TB := it_0 _ (List.mem_of_getElem? (i := 26) rfl)
theorem q_27 : (Cond.methodLink RX9 3 objectInit) ∈ TB := it_0 _ (List.mem_of_getElem? (i := 27) rfl)
theorem q_28 : (Cond.fieldLink RX9 11 "HalfFair$Trials" "pair" "[I") ∈ TB := it_0 _ (List.mem_of_getElem? (i := 28) rfl)
theorem q_29 : (Cond.fieldLink RX9 15 "HalfFair$Trials" "one" "[I") ∈ TB := it_0 _ (List.mem_of_getElem? (i := 29) rfl)
theorem q_30 : (Cond.fieldLink RX9 18 "HalfFair$Trials" "other" "[I") ∈ TB := it_0 _ (List.mem_of_getElem? (i := 30) rfl)
theorem q_31 : (Cond.arrayClass .boolean) ∈ TB := it_0 _ (List.mem_of_getElem? (i := 31) rfl)
theorem q_32 : (Cond.fieldLink RX9 21 "HalfFair$Trials" "fitted" "[Z") ∈ TB := it_0 _ (List.mem_of_getElem? (i := 32) rfl)
theorem q_33 : (Cond.methodLink RX3 3 objectInit) ∈ TB := it_0 _ (List.mem_of_getElem? (i := 33) rfl)
theorem q_34 : (Cond.fieldLink RX3 11 "HalfFair$Pairs" "known" "[I") ∈ TB := it_0 _ (List.mem_of_getElem? (i := 34) rfl)
theorem q_35 : (Cond.methodLink RX10 3 objectInit) ∈ TB := it_0 _ (List.mem_of_getElem? (i := 35) rfl)
theorem q_36 : (Cond.fieldLink RX10 11 "HalfFair$Walker" "here" "[I") ∈ TB := it_0 _ (List.mem_of_getElem? (i := 36) rfl)
theorem q_37 : (Cond.fieldLink RX10 15 "HalfFair$Walker" "next" "[I") ∈ TB := it_0 _ (List.mem_of_getElem? (i := 37) rfl)
theorem q_38 : (Cond.fieldLink RX10 18 "HalfFair$Walker" "ways" "[I") ∈ TB := it_0 _ (List.mem_of_getElem? (i := 38) rfl)
theorem q_39 : (Cond.fieldLink RX10 21 "HalfFair$Walker" "stallOf" "[I") ∈ TB := it_0 _ (List.mem_of_getElem? (i := 39) rfl)
theorem q_40 : (Cond.methodLink RX2 3 objectInit) ∈ TB := it_1 _ (List.mem_of_getElem? (i := 0) rfl)
theorem q_41 : (Cond.arrayClass .long) ∈ TB := it_1 _ (List.mem_of_getElem? (i := 1) rfl)
theorem q_42 : (Cond.fieldLink RX2 11 "HalfFair$Market" "stack" "[J") ∈ TB := it_1 _ (List.mem_of_getElem? (i := 2) rfl)
theorem q_43 : (Cond.fieldLink RX2 17 "HalfFair$Market" "words" "[I") ∈ TB := it_1 _ (List.mem_of_getElem? (i := 3) rfl)
theorem q_44 : (Cond.methodLink RX4 1 objectInit) ∈ TB := it_1 _ (List.mem_of_getElem? (i := 4) rfl)
theorem q_45 : (Cond.fieldLink RX4 9 "HalfFair$Rule" "kind" "[I") ∈ TB := it_1 _ (List.mem_of_getElem? (i := 5) rfl)
theorem q_46 : (Cond.fieldLink RX4 13 "HalfFair$Rule" "start" "[I") ∈ TB := it_1 _ (List.mem_of_getElem? (i := 6) rfl)
theorem q_47 : (Cond.fieldLink RX4 16 "HalfFair$Rule" "middle" "[I") ∈ TB := it_1 _ (List.mem_of_getElem? (i := 7) rfl)
theorem q_48 : (Cond.fieldLink RX4 19 "HalfFair$Rule" "end" "[I") ∈ TB := it_1 _ (List.mem_of_getElem? (i := 8) rfl)
theorem q_49 : (Cond.fieldLink RX4 22 "HalfFair$Rule" "code" "[I") ∈ TB := it_1 _ (List.mem_of_getElem? (i := 9) rfl)
theorem q_50 : (Cond.methodLink RX1 1 objectInit) ∈ TB := it_1 _ (List.mem_of_getElem? (i := 10) rfl)
theorem q_51 : (Cond.classLink RX1 7 RX6) ∈ TB := it_1 _ (List.mem_of_getElem? (i := 11) rfl)
theorem q_52 : (Cond.instantiable RX6 6) ∈ TB := it_1 _ (List.mem_of_getElem? (i := 12) rfl)
theorem q_53 : (Cond.initialized RX6) ∈ TB := it_1 _ (List.mem_of_getElem? (i := 13) rfl)
theorem q_54 : (Cond.code yX6_init cX6_init 1 none) ∈ TB := it_1 _ (List.mem_of_getElem? (i := 14) rfl)
theorem q_55 : (Cond.instanceMethod yX6_init) ∈ TB := it_1 _ (List.mem_of_getElem? (i := 15) rfl)
theorem q_56 : (Cond.fieldLink RX1 10 "HalfFair$Image" "scene" "LHalfFair$Scene;") ∈ TB := it_1 _ (List.mem_of_getElem? (i := 16) rfl)
theorem q_57 : (Cond.classLink RX1 16 RX9) ∈ TB := it_1 _ (List.mem_of_getElem? (i := 17) rfl)
theorem q_58 : (Cond.instantiable RX9 7) ∈ TB := it_1 _ (List.mem_of_getElem? (i := 18) rfl)
theorem q_59 : (Cond.initialized RX9) ∈ TB := it_1 _ (List.mem_of_getElem? (i := 19) rfl)
theorem q_60 : (Cond.code yX9_init cX9_init 1 none) ∈ TB := it_1 _ (List.mem_of_getElem? (i := 20) rfl)
theorem q_61 : (Cond.instanceMethod yX9_init) ∈ TB := it_1 _ (List.mem_of_getElem? (i := 21) rfl)
theorem q_62 : (Cond.fieldLink RX1 19 "HalfFair$Image" "trials" "LHalfFair$Trials;") ∈ TB := it_1 _ (List.mem_of_getElem? (i := 22) rfl)
def nwA : Nat → String := fun i => match i with | 0 => "HalfFair" | 1 => "HalfFair" | 2 => "HalfFair" | 3 => "HalfFair" | 4 => "HalfFair" | 5 => "HalfFair" | 6 => "HalfFair" | 7 => "HalfFair" | 8 => "HalfFair" | 9 => "HalfFair$FairReader" | 10 => "HalfFair$RuleReader" | 11 => "HalfFair" | 12 => "HalfFair$Image" | _ => "HalfFair$Image"
def nwI : Nat → Nat := fun i => match i with | 0 => 9 | 1 => 18 | 2 => 25 | 3 => 38 | 4 => 45 | 5 => 59 | 6 => 72 | 7 => 79 | 8 => 86 | 9 => 17 | 10 => 21 | 11 => 326 | 12 => 9 | _ => 18
def nwY : Nat → MethodName := fun i => match i with | 0 => ⟨"HalfFair$Tape", "<init>", "()V"⟩ | 1 => ⟨"HalfFair$FairReader", "<init>", "()V"⟩ | 2 => ⟨"HalfFair$RuleReader", "<init>", "()V"⟩ | 3 => ⟨"HalfFair$Told", "<init>", "()V"⟩ | 4 => ⟨"HalfFair$Scene", "<init>", "()V"⟩ | 5 => ⟨"HalfFair$Trials", "<init>", "()V"⟩ | 6 => ⟨"HalfFair$Pairs", "<init>", "()V"⟩ | 7 => ⟨"HalfFair$Walker", "<init>", "()V"⟩ | 8 => ⟨"HalfFair$Market", "<init>", "()V"⟩ | 9 => ⟨"HalfFair$Told", "<init>", "()V"⟩ | 10 => ⟨"HalfFair$Rule", "<init>", "()V"⟩ | 11 => ⟨"HalfFair$Image", "<init>", "()V"⟩ | 12 => ⟨"HalfFair$Scene", "<init>", "()V"⟩ | _ => ⟨"HalfFair$Trials", "<init>", "()V"⟩
def nwP : Nat → Nat := fun i => match i with | 0 => 169 | 1 => 193 | 2 => 209 | 3 => 230 | 4 => 336 | 5 => 377 | 6 => 411 | 7 => 424 | 8 => 466 | 9 => 577 | 10 => 746 | 11 => 1223 | 12 => 1228 | _ => 1230
theorem nw_in : ∀ i, i < 14 → lw_tbl[nwP i]? = some (Cond.methodLinkNest (nwA i) (nwI i) (nwY i) "HalfFair") := by decide +kernel
theorem df_X6 : ∀ j, j < 6 → defaultValue (tyX6 j) = vp_V ([.int 0, .null, .null, .null, .null, .null]) j := by decide +kernel
theorem df_X9 : ∀ j, j < 7 → defaultValue (tyX9 j) = vp_V ([.int 0, .int 0, .int 0, .null, .null, .null, .null]) j := by decide +kernel
end
section
-- ===== the environment of every contract: tables, nest links, strings =====
section HZ
variable {p : Program} {l : Launch} {e : Env} {R : Room} {s : State} {m : MethodId} {args : Array Value} {below : List Frame} {meth : Method} {c : Code} {H : Heap} {locs : List Loc} {cells slots : Nat} {Q : State → Prop}
variable {cc : ByteArray} {pc : Nat} {ls : Array Slot} {rest : List Value} {D : va_G} {cl : List vw_C} {A : Nat → Prop} {a : Nat} {tys : List (ClassId × FieldType)} {ws : va_W} {H0 : Heap}
theorem hz_ev {x : Int32} (y : Int32) (h : x = y) (k : W p l e R s m args below meth c H locs cells slots Q (F0 m pc ls (.int y :: rest))) : W p l e R s m args below meth c H locs cells slots Q (F0 m pc ls (.int x :: rest)) := h ▸ k
theorem hz_evl {x : Int64} (y : Int64) (h : x = y) (k : W p l e R s m args below meth c H locs cells slots Q (F0 m pc ls (.long y :: rest))) : W p l e R s m args below meth c H locs cells slots Q (F0 m pc ls (.long x :: rest)) := h ▸ k
theorem hz_evr {x : Value} (y : Value) (h : x = y) (k : W p l e R s m args below meth c H locs cells slots Q (F0 m pc ls (y :: rest))) : W p l e R s m args below meth c H locs cells slots Q (F0 m pc ls (x :: rest)) := h ▸ k
theorem hz_RA {U : State} {c1 c2 : ClassId} {ty : FieldType} (h1 : va_RA U c1 ty) (h2 : va_RA U c2 ty) : c1 = c2 := by
  cases ty with
  | object C =>
    obtain ⟨_, _, -, -, -, h⟩ := h1
    obtain ⟨_, _, -, -, -, h'⟩ := h2
    exact Option.some.inj (h.symm.trans h')
  | _ => exact Option.some.inj (Eq.trans (Eq.symm h1) h2)
theorem hz_newa (hexec : p.tables.exec = Jvm.exec) (hb : c.code = cc) {atype : ArrayType} (harr : (Cond.arrayClass (newarray.typeOf atype)).before args s = true) {ty : FieldType} (hty : newarray.typeOf atype = ty) (hK : va_K D cl tys s) (hP : va_P D cl ws H) (hD : va_D A ws) (hS : va_S A H0 H locs) (hA : ∀ q, H0.size ≤ q → A q)
    {n : Int32} {N' : Nat} {a0 : vp_A} (ha : ∀ cA : ClassId, vp_cell cA a0 = arrV cA N' (fun _ => defaultValue ty)) (hn : ¬ n < 0) (hN : n.toNatClampNeg = N') (hbytes : N' * componentBytes ty ≤ 536870912) (hcells : cells + 1 ≤ R.cells) (hslots : slots + N' ≤ R.slots) (hdg : decode cc pc = .ok (.newarray atype, 2)) (t0 : Nat) {c0 : ClassId} (ht : tys[t0]? = some (c0, ty))
    (kk : ∀ (q : Nat) (H1 : Heap), va_P D cl (ws ++ [(q, .inl (c0, a0))]) H1 → va_D A (ws ++ [(q, .inl (c0, a0))]) → va_S A H0 H1 locs →
      W p l e R s m args below meth c H1 locs (cells + 1) (slots + N') Q (F0 m (pc + 2) ls (.ref q :: rest))) : W p l e R s m args below meth c H locs cells slots Q (F0 m pc ls (.int n :: rest)) := by
  refine va_newa hexec hb harr hty hK hP hD hS hA ha hn hN hbytes hcells hslots hdg (fun q cA H1 hK' hP' hD' hS' => ?_)
  have h1 := (hK'.2 tys.length (cA, ty) (by simp)).2
  have h2 := (hK.2 t0 _ ht).2
  have h3 : cA = c0 := hz_RA h1 h2
  subst h3
  exact kk q H1 hP' hD' hS'
theorem hz_newq (hexec : p.tables.exec = Jvm.exec) (hb : c.code = cc) {own C : String} {index : Nat} (hown : s.vm.findClass own = some m.cls) (hclink : (Cond.classLink own index C).before args s = true) (hover : va_AO C s) (hK : va_K D cl tys s) (hP : va_P D cl ws H) (hD : va_D A ws) (hS : va_S A H0 H locs) (hA : ∀ q, H0.size ≤ q → A q)
    {n : Int32} {N' : Nat} (hn : ¬ n < 0) (hN : n.toNatClampNeg = N') (hbytes : N' * 4 ≤ 536870912) (hcells : cells + 1 ≤ R.cells) (hslots : slots + N' ≤ R.slots) (hdg : decode cc pc = .ok (.anewarray index, 3)) (t0 : Nat) {c0 : ClassId} (ht : tys[t0]? = some (c0, .object C))
    (kk : ∀ (q : Nat) (H1 : Heap), va_P D cl (ws ++ [(q, .inl (c0, N', .inr (.inr (.inr (.inr (fun _ => none))))))]) H1 → va_D A (ws ++ [(q, .inl (c0, N', .inr (.inr (.inr (.inr (fun _ => none))))))]) → va_S A H0 H1 locs →
      W p l e R s m args below meth c H1 locs (cells + 1) (slots + N') Q (F0 m (pc + 3) ls (.ref q :: rest))) : W p l e R s m args below meth c H locs cells slots Q (F0 m pc ls (.int n :: rest)) := by
  refine va_newq hexec hb hown hclink hover hK hP hD hS hA hn hN hbytes hcells hslots hdg (fun q cA H1 hK' hP' hD' hS' => ?_)
  have h1 := (hK'.2 tys.length (cA, .object C) (by simp)).2
  have h2 := (hK.2 t0 _ ht).2
  have h3 : cA = c0 := hz_RA h1 h2
  subst h3
  exact kk q H1 hP' hD' hS'
theorem hz_keep {H1 : Heap} (hP : va_P D cl ws H) (hk : ∀ q : Nat, q < H.size → ¬ (fun _ : Nat => False) q → H1[q]? = H[q]?) : va_P D cl ws H1 := hP.kept (fun k q h => hk q.1 ((hP k q h).lt) (fun z => z))
end HZ
def hz_Nst (U : State) : Prop := ∀ i : Nat, i < 14 → va_Nw (.methodLinkNest (nwA i) (nwI i) (nwY i) "HalfFair") U
theorem hz_Nst.warm {s U : State} (hW : s.WarmedH U.vm) (h : hz_Nst s) : hz_Nst U := fun i hi => va_Nw.warmM hW (h i hi)
theorem hz_Nst.same {s U : State} (hv : s.vm = U.vm) (h : hz_Nst s) : hz_Nst U := fun i hi => va_Nw.same rfl hv (h i hi)
abbrev classes : List vw_C := [(RX0, TX0, 3), (RX1, TX1, 4), (RX2, TX2, 10), (RX3, TX3, 2), (RX4, TX4, 6), (RX5, TX5, 4), (RX6, TX6, 6), (RX7, TX7, 4), (RX8, TX8, 18), (RX9, TX9, 7), (RX10, TX10, 11), (RX11, TX11, 17), (RX12, TX12, 37)]
abbrev TY (cs : Nat → ClassId) : List (ClassId × FieldType) := [(cs 0, .int), (cs 1, .byte), (cs 2, .boolean), (cs 3, .long), (cs 4, .object RX4), (cs 5, .object RX6), (cs 6, .object RX1)]
def hz_len : List Nat := [45, 7]
def hz_byt : List (List Int32) := [[115, 116, 97, 108, 108, 115, 32, 104, 97, 108, 102, 32, 102, 111, 114, 103, 101, 100, 32, 98, 117, 121, 101, 114, 32, 99, 108, 117, 98, 32, 110, 101, 97, 114, 32, 100, 117, 115, 107, 32, 104, 101, 97, 114, 32], [98, 117, 121, 32, 103, 111, 32]]
def hz_EV (D : va_G) (cs : Nat → ClassId) (kK kV : Nat → Nat) (A : Nat → Prop) (U : State) (H : Heap) : Prop :=
  va_K D classes (TY cs) U ∧ hz_Nst U ∧ (va_AO RX4 U ∧ va_AO RX6 U ∧ va_AO RX1 U) ∧ vk_S 2 hz_len hz_byt kK kV A U H ∧ va_Z "java/lang/String" "COMPACT_STRINGS" "Z" (.int 1) A U H ∧ va_Zq "jdk/internal/util/Preconditions" "SIOOBE_FORMATTER" "Ljava/util/function/BiFunction;" A U H ∧ (vk_R RX0 51 "stalls half forged buyer club near dusk hear " (kK 0) U ∧ vk_R RX5 58 "buy go " (kK 1) U)
theorem hz_EV.call {D : va_G} {cs : Nat → ClassId} {kK kV : Nat → Nat} {A B : Nat → Prop} {s U : State} {H : Heap} {locs : List Loc} (h : hz_EV D cs kK kV A s s.heap) (hS : va_S A s.heap H locs) (hAB : ∀ q, B q → A q) (hU : U.heap = H) (hW : s.WarmedH U.vm) : hz_EV D cs kK kV B U U.heap := by
  obtain ⟨h1, h2, ⟨h3, h4, h5⟩, h6, h7, h8, h9, h10⟩ := h
  rw [hU]
  have hv := hW.alike
  exact ⟨va_K.moved hv h1, h2.warm hW, ⟨va_AO.moved hv h3, va_AO.moved hv h4, va_AO.moved hv h5⟩, ((h6.kept hS.2.1).narrow hAB).moved hv, ((h7.kept hS.2.1).narrow hAB).moved hv, ((h8.kept hS.2.1).narrow hAB).moved hv, h9.warm hW, h10.warm hW⟩
theorem hz_EV.blind {D : va_G} {cs : Nat → ClassId} {kK kV : Nat → Nat} {A : Nat → Prop} {U : State} {g : JFrame} {mk : MethodId} {a : Array Value} (h : hz_EV D cs kK kV A U U.heap) : hz_EV D cs kK kV A (U.calling g mk a) (U.calling g mk a).heap := by
  obtain ⟨h1, h2, ⟨h3, h4, h5⟩, h6, h7, h8, h9, h10⟩ := h
  have hv : U.vm.Alike (U.calling g mk a).vm := Vm.Alike.refl U.vm
  exact ⟨va_K.moved hv h1, h2.same rfl, ⟨va_AO.moved hv h3, va_AO.moved hv h4, va_AO.moved hv h5⟩, vk_S.moved hv h6, va_Z.moved hv h7, va_Zq.moved hv h8, h9.same rfl, h10.same rfl⟩
/-- the start of a method that writes: its world, the room from sz on -/
def hz_C (D : va_G) (cs : Nat → ClassId) (kK kV : Nat → Nat) (sz : Nat) (ws : va_W) : State → Prop := fun U => U.heap.size = sz ∧ va_P D classes ws U.heap ∧ va_D (fun _ => True) ws ∧ hz_EV D cs kK kV (va_A ws sz) U U.heap
/-- the start of a method that writes nothing -/
def hz_P (D : va_G) (cs : Nat → ClassId) (kK kV : Nat → Nat) (ws : va_W) : State → Prop := fun U => va_P D classes ws U.heap ∧ hz_EV D cs kK kV (fun _ => False) U U.heap
theorem hz_C.blind {D : va_G} {cs : Nat → ClassId} {kK kV : Nat → Nat} {sz : Nat} {ws : va_W} {av : List Value} : FrameBlind (va_Pc av (hz_C D cs kK kV sz ws)) := fun _ _ _ _ h => ⟨h.1, h.2.1, h.2.2.1, h.2.2.2.1, hz_EV.blind h.2.2.2.2⟩
theorem hz_P.blind {D : va_G} {cs : Nat → ClassId} {kK kV : Nat → Nat} {ws : va_W} {av : List Value} : FrameBlind (va_Pc av (hz_P D cs kK kV ws)) := fun _ _ _ _ h => ⟨h.1, h.2.1, hz_EV.blind h.2.2⟩
theorem hz_C.mk {D : va_G} {cs : Nat → ClassId} {kK kV : Nat → Nat} {A : Nat → Prop} {ws : va_W} {s : State} {H : Heap} {locs : List Loc} {av : List Value} (hP : va_P D classes ws H) (hD : va_D A ws) (hE : hz_EV D cs kK kV A s s.heap) (hS : va_S A s.heap H locs) (hF : ∀ q, va_A ws H.size q → A q) : ∀ U : State, U.heap = H → s.WarmedH U.vm → va_Pc av (hz_C D cs kK kV H.size ws) av.toArray U := fun U hU hW => ⟨rfl, by rw [hU], by rw [hU]; exact hP, hD.weaken (fun _ _ _ _ => trivial), hE.call hS hF hU hW⟩
theorem hz_P.mk {D : va_G} {cs : Nat → ClassId} {kK kV : Nat → Nat} {A : Nat → Prop} {ws : va_W} {s : State} {H : Heap} {locs : List Loc} {av : List Value} (hP : va_P D classes ws H) (hE : hz_EV D cs kK kV A s s.heap) (hS : va_S A s.heap H locs) : ∀ U : State, U.heap = H → s.WarmedH U.vm → va_Pc av (hz_P D cs kK kV ws) av.toArray U := fun U hU hW => ⟨rfl, by rw [hU]; exact hP, hE.call hS (fun _ h => h.elim) hU hW⟩
def hz_w (y : MethodName) (b : ByteArray) (n : Nat) (r : Option FieldType) : List Cond := .code y b n r :: TB
theorem hz_gw {y : MethodName} {b : ByteArray} {n : Nat} {r : Option FieldType} (h : Cond.code y b n r ∈ TB) : GoodIn TB (hz_w y b n r) := fun w hw => by
  rcases List.mem_cons.mp hw with rfl | hw
  · exact ⟨h, (TB_ok _ h).2⟩
  · exact ⟨hw, (TB_ok _ hw).2⟩
theorem hz_gV {own C : String} {idx : Nat} {y : MethodName} {b : ByteArray} {n : Nat} {r : Option FieldType} (h1 : Cond.methodLink own idx y ∈ TB) (h2 : Cond.instanceMethod y ∈ TB) (h3 : Cond.selects C y y ∈ TB) (h4 : Cond.initialized C ∈ TB) (h : Cond.code y b n r ∈ TB) : GoodIn TB (wsV own idx C y (hz_w y b n r)) := fun w hw => by
  rcases List.mem_append.mp hw with hw | hw
  · have hm : w ∈ TB := by
      simp only [List.mem_cons, List.not_mem_nil, or_false] at hw
      rcases hw with rfl | rfl | rfl | rfl <;> assumption
    exact ⟨hm, (TB_ok _ hm).2⟩
  · exact hz_gw h w hw
theorem hz_gS {own : String} {idx : Nat} {y : MethodName} {b : ByteArray} {n : Nat} {r : Option FieldType} (h1 : Cond.methodLink own idx y ∈ TB) (h2 : Cond.static y ∈ TB) (h4 : Cond.initialized y.cls ∈ TB) (h : Cond.code y b n r ∈ TB) : GoodIn TB (va_wsS own idx y (hz_w y b n r)) := fun w hw => by
  rcases List.mem_append.mp hw with hw | hw
  · have hm : w ∈ TB := by
      simp only [List.mem_cons, List.not_mem_nil, or_false] at hw
      rcases hw with rfl | rfl | rfl <;> assumption
    exact ⟨hm, (TB_ok _ hm).2⟩
  · exact hz_gw h w hw
theorem hz_no {x : Int32} (h1 : ¬ x < 0) (h2 : ¬ (0 : Int32) ≤ x) : False := h2 (Int32.not_lt.mp h1)
end
section
theorem dX7_init_0 : decode cX7_init 0 = .ok (.aload_n 0, 1) := by decide +kernel
theorem dX7_init_1 : decode cX7_init 1 = .ok (.invokespecial 3, 3) := by decide +kernel
theorem dX7_init_4 : decode cX7_init 4 = .ok (.aload_n 0, 1) := by decide +kernel
theorem dX7_init_5 : decode cX7_init 5 = .ok (.sipush 400, 3) := by decide +kernel
theorem dX7_init_8 : decode cX7_init 8 = .ok (.newarray .int, 2) := by decide +kernel
theorem dX7_init_10 : decode cX7_init 10 = .ok (.putfield 9, 3) := by decide +kernel
theorem dX7_init_13 : decode cX7_init 13 = .ok (.return_, 1) := by decide +kernel
set_option maxHeartbeats 4000000 in
set_option maxRecDepth 100000 in
theorem c_X7_init (l : Launch) (D : va_G) (cs : Nat → ClassId) (kK kV : Nat → Nat) (h0 : Nat) (sz : Nat) : Met l yX7_init (hz_w yX7_init cX7_init 1 none) ({ frames := 1, cells := 1, slots := 400, locals := 12 }) (va_Pc [.ref h0] (hz_C D cs kK kV sz [(h0, .inr (7, [.null, .int 0, .int 0, .int 0]))])) (va_Qv (fun (_ : Unit) => True) (fun _ t => ∃ (g : Nat → Nat), va_P D classes [(h0, .inr (7, [.ref (g 0), .int 0, .int 0, .int 0])), (g 0, .inl (cs 0, 400, .inl (fun _ => 0)))] t.heap ∧ va_D (va_A [(h0, .inr (7, [.null, .int 0, .int 0, .int 0]))] sz) [(h0, .inr (7, [.ref (g 0), .int 0, .int 0, .int 0])), (g 0, .inl (cs 0, 400, .inl (fun _ => 0)))]) (va_A [(h0, .inr (7, [.null, .int 0, .int 0, .int 0]))] sz)) 1 400 (va_A [(h0, .inr (7, [.null, .int 0, .int 0, .int 0]))] sz) := by
  refine Met.ofW (cc := cX7_init) (maxL := 1) (ret := none) (by decide) rfl ?_
  intro p e s m args below meth c s₁ B hml hv
  obtain ⟨rfl, hsz, hP, hD0, hE⟩ := hv
  have hx := B.exec
  have hb := B.bytes
  have hr := B.returns
  have hT : ∀ w ∈ TB, w.before _ s = true := fun w h => atoms_spec (ws := hz_w yX7_init cX7_init 1 none) B.pre w (List.mem_cons_of_mem _ h)
  have hown : s.vm.findClass RX7 = some m.cls := findClass_of_methodNamed B.named
  have hlocks := B.notSynchronized
  have hin : meth.name = "<init>" := (name_of_methodNamed B.named B.method).1
  clear B
  subst hsz
  have hD := hD0.self (sz := s.heap.size)
  generalize hAe : va_A [(h0, .inr (7, [.null, .int 0, .int 0, .int 0]))] s.heap.size = A at hD hE ⊢
  have hA : ∀ q : Nat, s.heap.size ≤ q → A q := fun q h => by rw [← hAe]; exact Or.inr h
  clear hAe hD0
  have hS : va_S A s.heap s.heap [] := va_S.rf
  have hK := hE.1
  have hl := lv_entry ([.ref h0]) (n := 1) (Nat.le_of_ble_eq_true rfl)
  rw [lg_entry_eq]
  generalize (lg_sl ([.ref h0]) ++ List.replicate (1 - (lg_sl ([.ref h0])).length) Slot.unset).toArray = ls at hl ⊢
  have hl : lv_has ls 1 [(0, .ref h0)] := hl
  obtain ⟨H, eH⟩ : ∃ z, z = s.heap := ⟨_, rfl⟩
  have hP : va_P D classes [(h0, .inr (7, [.null, .int 0, .int 0, .int 0]))] H := by rw [eH]; exact hP
  have hS : va_S A s.heap H [] := by rw [eH]; exact hS
  rw [← eH]
  clear eH
  refine lv_aload_n hx hb dX7_init_0 rfl (lv_at hl 0 rfl) ?_
  refine W.objInit hx hb hown (hT _ q_0) (hT _ q_1) (hT _ q_2) rfl (by rw [hml]; exact hl.1) rfl dX7_init_1 (Nat.le_of_ble_eq_true rfl) (Nat.le_of_ble_eq_true rfl) ?_
  refine W.eq (g2 := F0 m 4 ls []) rfl ?_
  refine lv_aload_n hx hb dX7_init_4 rfl (lv_at hl 0 rfl) ?_
  refine lv_sipush (v := 400) hx hb dX7_init_5 (by decide) ?_
  refine hz_newa (atype := .int) (ty := .int) (N' := 400) (a0 := (400, .inl (fun _ => 0))) hx hb (hT _ q_3) rfl hK hP hD hS hA (fun _ => rfl) (by decide) (by decide) (Nat.le_of_ble_eq_true rfl) (Nat.le_of_ble_eq_true rfl) (Nat.le_of_ble_eq_true rfl) dX7_init_8 0 rfl (fun n_1 H hP hD hS => ?_)
  have hP : va_P D classes [(h0, .inr (7, [.null, .int 0, .int 0, .int 0])), (n_1, .inl (cs 0, 400, .inl (fun _ => 0)))] H := hP
  have hD : va_D A [(h0, .inr (7, [.null, .int 0, .int 0, .int 0])), (n_1, .inl (cs 0, 400, .inl (fun _ => 0)))] := hD
  refine W.widen (k := 1) (n := 400) (Nat.le_of_ble_eq_true rfl) (Nat.le_of_ble_eq_true rfl) ?_
  refine va_putF (D := D) (ci := 7) (v := .ref n_1) (ty := .array .int) (C := RX7) (T := TX7) (N := 4) hx hb hT i_X7 tyX7 tyX7_ok nmX7 hown hK hP hD hS 0 rfl rfl 0 (by decide) (hT _ q_4) (fun _ h9 => h9) rfl hin rfl (by decide +kernel) rfl rfl (Nat.le_of_ble_eq_true rfl) dX7_init_10 (fun H locs hP hD hS => ?_)
  have hP : va_P D classes [(h0, .inr (7, [.ref n_1, .int 0, .int 0, .int 0])), (n_1, .inl (cs 0, 400, .inl (fun _ => 0)))] H := hP
  have hD : va_D A [(h0, .inr (7, [.ref n_1, .int 0, .int 0, .int 0])), (n_1, .inl (cs 0, 400, .inl (fun _ => 0)))] := hD
  exact W.vret hx hb hr (fun t ht hW => ⟨⟨(), rfl, trivial, (fun k => match k with | 0 => n_1 | _ => 0), by rw [ht]; exact hP.sub [0, 1] rfl, hD.sub [0, 1] (by decide) rfl⟩, hS.F ht⟩) hS.2.2 dX7_init_13
theorem dX0_init_0 : decode cX0_init 0 = .ok (.aload_n 0, 1) := by decide +kernel
theorem dX0_init_1 : decode cX0_init 1 = .ok (.invokespecial 3, 3) := by decide +kernel
theorem dX0_init_4 : decode cX0_init 4 = .ok (.return_, 1) := by decide +kernel
set_option maxHeartbeats 4000000 in
set_option maxRecDepth 100000 in
theorem c_X0_init (l : Launch) (D : va_G) (cs : Nat → ClassId) (kK kV : Nat → Nat) (h0 : Nat) (sz : Nat) : Met l yX0_init (hz_w yX0_init cX0_init 1 none) ({ frames := 1, cells := 0, slots := 0, locals := 12 }) (va_Pc [.ref h0] (hz_C D cs kK kV sz [(h0, .inr (0, [.null, .null, .int 0]))])) (va_Qv (fun (_ : Unit) => True) (fun _ t => ∃ (g : Nat → Nat), va_P D classes [(h0, .inr (0, [.null, .null, .int 0]))] t.heap ∧ va_D (va_A [(h0, .inr (0, [.null, .null, .int 0]))] sz) [(h0, .inr (0, [.null, .null, .int 0]))]) (va_A [(h0, .inr (0, [.null, .null, .int 0]))] sz)) 0 0 (va_A [(h0, .inr (0, [.null, .null, .int 0]))] sz) := by
  refine Met.ofW (cc := cX0_init) (maxL := 1) (ret := none) (by decide) rfl ?_
  intro p e s m args below meth c s₁ B hml hv
  obtain ⟨rfl, hsz, hP, hD0, hE⟩ := hv
  have hx := B.exec
  have hb := B.bytes
  have hr := B.returns
  have hT : ∀ w ∈ TB, w.before _ s = true := fun w h => atoms_spec (ws := hz_w yX0_init cX0_init 1 none) B.pre w (List.mem_cons_of_mem _ h)
  have hown : s.vm.findClass RX0 = some m.cls := findClass_of_methodNamed B.named
  have hlocks := B.notSynchronized
  have hin : meth.name = "<init>" := (name_of_methodNamed B.named B.method).1
  clear B
  subst hsz
  have hD := hD0.self (sz := s.heap.size)
  generalize hAe : va_A [(h0, .inr (0, [.null, .null, .int 0]))] s.heap.size = A at hD hE ⊢
  have hA : ∀ q : Nat, s.heap.size ≤ q → A q := fun q h => by rw [← hAe]; exact Or.inr h
  clear hAe hD0
  have hS : va_S A s.heap s.heap [] := va_S.rf
  have hK := hE.1
  have hl := lv_entry ([.ref h0]) (n := 1) (Nat.le_of_ble_eq_true rfl)
  rw [lg_entry_eq]
  generalize (lg_sl ([.ref h0]) ++ List.replicate (1 - (lg_sl ([.ref h0])).length) Slot.unset).toArray = ls at hl ⊢
  have hl : lv_has ls 1 [(0, .ref h0)] := hl
  obtain ⟨H, eH⟩ : ∃ z, z = s.heap := ⟨_, rfl⟩
  have hP : va_P D classes [(h0, .inr (0, [.null, .null, .int 0]))] H := by rw [eH]; exact hP
  have hS : va_S A s.heap H [] := by rw [eH]; exact hS
  rw [← eH]
  clear eH
  refine lv_aload_n hx hb dX0_init_0 rfl (lv_at hl 0 rfl) ?_
  refine W.objInit hx hb hown (hT _ q_5) (hT _ q_1) (hT _ q_2) rfl (by rw [hml]; exact hl.1) rfl dX0_init_1 (Nat.le_of_ble_eq_true rfl) (Nat.le_of_ble_eq_true rfl) ?_
  refine W.eq (g2 := F0 m 4 ls []) rfl ?_
  exact W.vret hx hb hr (fun t ht hW => ⟨⟨(), rfl, trivial, (fun k => match k with  | _ => 0), by rw [ht]; exact hP.sub [0] rfl, hD.sub [0] (by decide) rfl⟩, hS.F ht⟩) hS.2.2 dX0_init_4
theorem dX5_init_0 : decode cX5_init 0 = .ok (.aload_n 0, 1) := by decide +kernel
theorem dX5_init_1 : decode cX5_init 1 = .ok (.invokespecial 3, 3) := by decide +kernel
theorem dX5_init_4 : decode cX5_init 4 = .ok (.aload_n 0, 1) := by decide +kernel
theorem dX5_init_5 : decode cX5_init 5 = .ok (.sipush 400, 3) := by decide +kernel
theorem dX5_init_8 : decode cX5_init 8 = .ok (.newarray .int, 2) := by decide +kernel
theorem dX5_init_10 : decode cX5_init 10 = .ok (.putfield 9, 3) := by decide +kernel
theorem dX5_init_13 : decode cX5_init 13 = .ok (.return_, 1) := by decide +kernel
set_option maxHeartbeats 4000000 in
set_option maxRecDepth 100000 in
theorem c_X5_init (l : Launch) (D : va_G) (cs : Nat → ClassId) (kK kV : Nat → Nat) (h0 : Nat) (sz : Nat) : Met l yX5_init (hz_w yX5_init cX5_init 1 none) ({ frames := 1, cells := 1, slots := 400, locals := 12 }) (va_Pc [.ref h0] (hz_C D cs kK kV sz [(h0, .inr (5, [.null, .null, .int 0, .int 0]))])) (va_Qv (fun (_ : Unit) => True) (fun _ t => ∃ (g : Nat → Nat), va_P D classes [(h0, .inr (5, [.null, .ref (g 0), .int 0, .int 0]))] t.heap ∧ va_D (va_A [(h0, .inr (5, [.null, .null, .int 0, .int 0]))] sz) [(h0, .inr (5, [.null, .ref (g 0), .int 0, .int 0]))]) (va_A [(h0, .inr (5, [.null, .null, .int 0, .int 0]))] sz)) 1 400 (va_A [(h0, .inr (5, [.null, .null, .int 0, .int 0]))] sz) := by
  refine Met.ofW (cc := cX5_init) (maxL := 1) (ret := none) (by decide) rfl ?_
  intro p e s m args below meth c s₁ B hml hv
  obtain ⟨rfl, hsz, hP, hD0, hE⟩ := hv
  have hx := B.exec
  have hb := B.bytes
  have hr := B.returns
  have hT : ∀ w ∈ TB, w.before _ s = true := fun w h => atoms_spec (ws := hz_w yX5_init cX5_init 1 none) B.pre w (List.mem_cons_of_mem _ h)
  have hown : s.vm.findClass RX5 = some m.cls := findClass_of_methodNamed B.named
  have hlocks := B.notSynchronized
  have hin : meth.name = "<init>" := (name_of_methodNamed B.named B.method).1
  clear B
  subst hsz
  have hD := hD0.self (sz := s.heap.size)
  generalize hAe : va_A [(h0, .inr (5, [.null, .null, .int 0, .int 0]))] s.heap.size = A at hD hE ⊢
  have hA : ∀ q : Nat, s.heap.size ≤ q → A q := fun q h => by rw [← hAe]; exact Or.inr h
  clear hAe hD0
  have hS : va_S A s.heap s.heap [] := va_S.rf
  have hK := hE.1
  have hl := lv_entry ([.ref h0]) (n := 1) (Nat.le_of_ble_eq_true rfl)
  rw [lg_entry_eq]
  generalize (lg_sl ([.ref h0]) ++ List.replicate (1 - (lg_sl ([.ref h0])).length) Slot.unset).toArray = ls at hl ⊢
  have hl : lv_has ls 1 [(0, .ref h0)] := hl
  obtain ⟨H, eH⟩ : ∃ z, z = s.heap := ⟨_, rfl⟩
  have hP : va_P D classes [(h0, .inr (5, [.null, .null, .int 0, .int 0]))] H := by rw [eH]; exact hP
  have hS : va_S A s.heap H [] := by rw [eH]; exact hS
  rw [← eH]
  clear eH
  refine lv_aload_n hx hb dX5_init_0 rfl (lv_at hl 0 rfl) ?_
  refine W.objInit hx hb hown (hT _ q_6) (hT _ q_1) (hT _ q_2) rfl (by rw [hml]; exact hl.1) rfl dX5_init_1 (Nat.le_of_ble_eq_true rfl) (Nat.le_of_ble_eq_true rfl) ?_
  refine W.eq (g2 := F0 m 4 ls []) rfl ?_
  refine lv_aload_n hx hb dX5_init_4 rfl (lv_at hl 0 rfl) ?_
  refine lv_sipush (v := 400) hx hb dX5_init_5 (by decide) ?_
  refine hz_newa (atype := .int) (ty := .int) (N' := 400) (a0 := (400, .inl (fun _ => 0))) hx hb (hT _ q_3) rfl hK hP hD hS hA (fun _ => rfl) (by decide) (by decide) (Nat.le_of_ble_eq_true rfl) (Nat.le_of_ble_eq_true rfl) (Nat.le_of_ble_eq_true rfl) dX5_init_8 0 rfl (fun n_1 H hP hD hS => ?_)
  have hP : va_P D classes [(h0, .inr (5, [.null, .null, .int 0, .int 0])), (n_1, .inl (cs 0, 400, .inl (fun _ => 0)))] H := hP
  have hD : va_D A [(h0, .inr (5, [.null, .null, .int 0, .int 0])), (n_1, .inl (cs 0, 400, .inl (fun _ => 0)))] := hD
  refine W.widen (k := 1) (n := 400) (Nat.le_of_ble_eq_true rfl) (Nat.le_of_ble_eq_true rfl) ?_
  refine va_putF (D := D) (ci := 5) (v := .ref n_1) (ty := .array .int) (C := RX5) (T := TX5) (N := 4) hx hb hT i_X5 tyX5 tyX5_ok nmX5 hown hK hP hD hS 0 rfl rfl 1 (by decide) (hT _ q_7) (fun _ h9 => h9) rfl hin rfl (by decide +kernel) rfl rfl (Nat.le_of_ble_eq_true rfl) dX5_init_10 (fun H locs hP hD hS => ?_)
  have hP : va_P D classes [(h0, .inr (5, [.null, .ref n_1, .int 0, .int 0])), (n_1, .inl (cs 0, 400, .inl (fun _ => 0)))] H := hP
  have hD : va_D A [(h0, .inr (5, [.null, .ref n_1, .int 0, .int 0])), (n_1, .inl (cs 0, 400, .inl (fun _ => 0)))] := hD
  exact W.vret hx hb hr (fun t ht hW => ⟨⟨(), rfl, trivial, (fun k => match k with | 0 => n_1 | _ => 0), by rw [ht]; exact hP.sub [0] rfl, hD.sub [0] (by decide) rfl⟩, hS.F ht⟩) hS.2.2 dX5_init_13
theorem dX8_init_0 : decode cX8_init 0 = .ok (.aload_n 0, 1) := by decide +kernel
theorem dX8_init_1 : decode cX8_init 1 = .ok (.invokespecial 3, 3) := by decide +kernel
theorem dX8_init_4 : decode cX8_init 4 = .ok (.aload_n 0, 1) := by decide +kernel
theorem dX8_init_5 : decode cX8_init 5 = .ok (.bipush 12, 2) := by decide +kernel
theorem dX8_init_7 : decode cX8_init 7 = .ok (.putfield 9, 3) := by decide +kernel
theorem dX8_init_10 : decode cX8_init 10 = .ok (.aload_n 0, 1) := by decide +kernel
theorem dX8_init_11 : decode cX8_init 11 = .ok (.iconst 5, 1) := by decide +kernel
theorem dX8_init_12 : decode cX8_init 12 = .ok (.putfield 15, 3) := by decide +kernel
theorem dX8_init_15 : decode cX8_init 15 = .ok (.aload_n 0, 1) := by decide +kernel
theorem dX8_init_16 : decode cX8_init 16 = .ok (.iconst 1, 1) := by decide +kernel
theorem dX8_init_17 : decode cX8_init 17 = .ok (.putfield 18, 3) := by decide +kernel
theorem dX8_init_20 : decode cX8_init 20 = .ok (.aload_n 0, 1) := by decide +kernel
theorem dX8_init_21 : decode cX8_init 21 = .ok (.bipush 12, 2) := by decide +kernel
theorem dX8_init_23 : decode cX8_init 23 = .ok (.newarray .int, 2) := by decide +kernel
theorem dX8_init_25 : decode cX8_init 25 = .ok (.putfield 21, 3) := by decide +kernel
theorem dX8_init_28 : decode cX8_init 28 = .ok (.aload_n 0, 1) := by decide +kernel
theorem dX8_init_29 : decode cX8_init 29 = .ok (.bipush 12, 2) := by decide +kernel
theorem dX8_init_31 : decode cX8_init 31 = .ok (.newarray .int, 2) := by decide +kernel
theorem dX8_init_33 : decode cX8_init 33 = .ok (.putfield 25, 3) := by decide +kernel
theorem dX8_init_36 : decode cX8_init 36 = .ok (.aload_n 0, 1) := by decide +kernel
theorem dX8_init_37 : decode cX8_init 37 = .ok (.bipush 12, 2) := by decide +kernel
theorem dX8_init_39 : decode cX8_init 39 = .ok (.newarray .int, 2) := by decide +kernel
theorem dX8_init_41 : decode cX8_init 41 = .ok (.putfield 28, 3) := by decide +kernel
theorem dX8_init_44 : decode cX8_init 44 = .ok (.aload_n 0, 1) := by decide +kernel
theorem dX8_init_45 : decode cX8_init 45 = .ok (.bipush 12, 2) := by decide +kernel
theorem dX8_init_47 : decode cX8_init 47 = .ok (.newarray .int, 2) := by decide +kernel
theorem dX8_init_49 : decode cX8_init 49 = .ok (.putfield 31, 3) := by decide +kernel
theorem dX8_init_52 : decode cX8_init 52 = .ok (.aload_n 0, 1) := by decide +kernel
theorem dX8_init_53 : decode cX8_init 53 = .ok (.iconst 4, 1) := by decide +kernel
theorem dX8_init_54 : decode cX8_init 54 = .ok (.newarray .int, 2) := by decide +kernel
theorem dX8_init_56 : decode cX8_init 56 = .ok (.putfield 34, 3) := by decide +kernel
theorem dX8_init_59 : decode cX8_init 59 = .ok (.aload_n 0, 1) := by decide +kernel
theorem dX8_init_60 : decode cX8_init 60 = .ok (.iconst 4, 1) := by decide +kernel
theorem dX8_init_61 : decode cX8_init 61 = .ok (.newarray .int, 2) := by decide +kernel
theorem dX8_init_63 : decode cX8_init 63 = .ok (.putfield 37, 3) := by decide +kernel
theorem dX8_init_66 : decode cX8_init 66 = .ok (.aload_n 0, 1) := by decide +kernel
theorem dX8_init_67 : decode cX8_init 67 = .ok (.iconst 4, 1) := by decide +kernel
theorem dX8_init_68 : decode cX8_init 68 = .ok (.newarray .int, 2) := by decide +kernel
theorem dX8_init_70 : decode cX8_init 70 = .ok (.putfield 40, 3) := by decide +kernel
theorem dX8_init_73 : decode cX8_init 73 = .ok (.aload_n 0, 1) := by decide +kernel
theorem dX8_init_74 : decode cX8_init 74 = .ok (.bipush 12, 2) := by decide +kernel
theorem dX8_init_76 : decode cX8_init 76 = .ok (.newarray .int, 2) := by decide +kernel
theorem dX8_init_78 : decode cX8_init 78 = .ok (.putfield 43, 3) := by decide +kernel
theorem dX8_init_81 : decode cX8_init 81 = .ok (.aload_n 0, 1) := by decide +kernel
theorem dX8_init_82 : decode cX8_init 82 = .ok (.bipush 12, 2) := by decide +kernel
theorem dX8_init_84 : decode cX8_init 84 = .ok (.newarray .int, 2) := by decide +kernel
theorem dX8_init_86 : decode cX8_init 86 = .ok (.putfield 46, 3) := by decide +kernel
theorem dX8_init_89 : decode cX8_init 89 = .ok (.return_, 1) := by decide +kernel
set_option maxHeartbeats 4000000 in
set_option maxRecDepth 100000 in
theorem c_X8_init (l : Launch) (D : va_G) (cs : Nat → ClassId) (kK kV : Nat → Nat) (h0 : Nat) (sz : Nat) : Met l yX8_init (hz_w yX8_init cX8_init 1 none) ({ frames := 1, cells := 9, slots := 84, locals := 12 }) (va_Pc [.ref h0] (hz_C D cs kK kV sz [(h0, .inr (8, [.int 0, .int 0, .int 0, .int 0, .int 0, .int 0, .int 0, .int 0, .int 0, .null, .null, .null, .null, .null, .null, .null, .null, .null]))])) (va_Qv (fun (_ : Unit) => True) (fun _ t => ∃ (g : Nat → Nat), va_P D classes [(h0, .inr (8, [.int 0, .int 0, .int 0, .int 0, .int 0, .int 12, .int 5, .int 1, .int 0, .ref (g 0), .ref (g 1), .ref (g 2), .ref (g 3), .ref (g 4), .ref (g 5), .ref (g 6), .ref (g 7), .ref (g 8)]))] t.heap ∧ va_D (va_A [(h0, .inr (8, [.int 0, .int 0, .int 0, .int 0, .int 0, .int 0, .int 0, .int 0, .int 0, .null, .null, .null, .null, .null, .null, .null, .null, .null]))] sz) [(h0, .inr (8, [.int 0, .int 0, .int 0, .int 0, .int 0, .int 12, .int 5, .int 1, .int 0, .ref (g 0), .ref (g 1), .ref (g 2), .ref (g 3), .ref (g 4), .ref (g 5), .ref (g 6), .ref (g 7), .ref (g 8)]))]) (va_A [(h0, .inr (8, [.int 0, .int 0, .int 0, .int 0, .int 0, .int 0, .int 0, .int 0, .int 0, .null, .null, .null, .null, .null, .null, .null, .null, .null]))] sz)) 9 84 (va_A [(h0, .inr (8, [.int 0, .int 0, .int 0, .int 0, .int 0, .int 0, .int 0, .int 0, .int 0, .null, .null, .null, .null, .null, .null, .null, .null, .null]))] sz) := by
  refine Met.ofW (cc := cX8_init) (maxL := 1) (ret := none) (by decide) rfl ?_
  intro p e s m args below meth c s₁ B hml hv
  obtain ⟨rfl, hsz, hP, hD0, hE⟩ := hv
  have hx := B.exec
  have hb := B.bytes
  have hr := B.returns
  have hT : ∀ w ∈ TB, w.before _ s = true := fun w h => atoms_spec (ws := hz_w yX8_init cX8_init 1 none) B.pre w (List.mem_cons_of_mem _ h)
  have hown : s.vm.findClass RX8 = some m.cls := findClass_of_methodNamed B.named
  have hlocks := B.notSynchronized
  have hin : meth.name = "<init>" := (name_of_methodNamed B.named B.method).1
  clear B
  subst hsz
  have hD := hD0.self (sz := s.heap.size)
  generalize hAe : va_A [(h0, .inr (8, [.int 0, .int 0, .int 0, .int 0, .int 0, .int 0, .int 0, .int 0, .int 0, .null, .null, .null, .null, .null, .null, .null, .null, .null]))] s.heap.size = A at hD hE ⊢
  have hA : ∀ q : Nat, s.heap.size ≤ q → A q := fun q h => by rw [← hAe]; exact Or.inr h
  clear hAe hD0
  have hS : va_S A s.heap s.heap [] := va_S.rf
  have hK := hE.1
  have hl := lv_entry ([.ref h0]) (n := 1) (Nat.le_of_ble_eq_true rfl)
  rw [lg_entry_eq]
  generalize (lg_sl ([.ref h0]) ++ List.replicate (1 - (lg_sl ([.ref h0])).length) Slot.unset).toArray = ls at hl ⊢
  have hl : lv_has ls 1 [(0, .ref h0)] := hl
  obtain ⟨H, eH⟩ : ∃ z, z = s.heap := ⟨_, rfl⟩
  have hP : va_P D classes [(h0, .inr (8, [.int 0, .int 0, .int 0, .int 0, .int 0, .int 0, .int 0, .int 0, .int 0, .null, .null, .null, .null, .null, .null, .null, .null, .null]))] H := by rw [eH]; exact hP
  have hS : va_S A s.heap H [] := by rw [eH]; exact hS
  rw [← eH]
  clear eH
  refine lv_aload_n hx hb dX8_init_0 rfl (lv_at hl 0 rfl) ?_
  refine W.objInit hx hb hown (hT _ q_8) (hT _ q_1) (hT _ q_2) rfl (by rw [hml]; exact hl.1) rfl dX8_init_1 (Nat.le_of_ble_eq_true rfl) (Nat.le_of_ble_eq_true rfl) ?_
  refine W.eq (g2 := F0 m 4 ls []) rfl ?_
  refine lv_aload_n hx hb dX8_init_4 rfl (lv_at hl 0 rfl) ?_
  refine lv_bipush (v := 12) hx hb dX8_init_5 (by decide) ?_
  refine va_put (D := D) (ci := 8) (v := .int 12) (ty := .int) (C := RX8) (T := TX8) (N := 18) hx hb hT i_X8 tyX8 tyX8_ok nmX8 hown hK hP hD hS 0 rfl rfl 5 (by decide) (hT _ q_9) (fun _ h9 => h9) rfl (by decide +kernel) rfl rfl (Nat.le_of_ble_eq_true rfl) dX8_init_7 (fun H locs hP hD hS => ?_)
  have hP : va_P D classes [(h0, .inr (8, [.int 0, .int 0, .int 0, .int 0, .int 0, .int 12, .int 0, .int 0, .int 0, .null, .null, .null, .null, .null, .null, .null, .null, .null]))] H := hP
  have hD : va_D A [(h0, .inr (8, [.int 0, .int 0, .int 0, .int 0, .int 0, .int 12, .int 0, .int 0, .int 0, .null, .null, .null, .null, .null, .null, .null, .null, .null]))] := hD
  refine lv_aload_n hx hb dX8_init_10 rfl (lv_at hl 0 rfl) ?_
  refine lv_iconst (v := 5) hx hb dX8_init_11 (by decide) ?_
  refine va_put (D := D) (ci := 8) (v := .int 5) (ty := .int) (C := RX8) (T := TX8) (N := 18) hx hb hT i_X8 tyX8 tyX8_ok nmX8 hown hK hP hD hS 0 rfl rfl 6 (by decide) (hT _ q_10) (fun _ h9 => h9) rfl (by decide +kernel) rfl rfl (Nat.le_of_ble_eq_true rfl) dX8_init_12 (fun H locs hP hD hS => ?_)
  have hP : va_P D classes [(h0, .inr (8, [.int 0, .int 0, .int 0, .int 0, .int 0, .int 12, .int 5, .int 0, .int 0, .null, .null, .null, .null, .null, .null, .null, .null, .null]))] H := hP
  have hD : va_D A [(h0, .inr (8, [.int 0, .int 0, .int 0, .int 0, .int 0, .int 12, .int 5, .int 0, .int 0, .null, .null, .null, .null, .null, .null, .null, .null, .null]))] := hD
  refine lv_aload_n hx hb dX8_init_15 rfl (lv_at hl 0 rfl) ?_
  refine lv_iconst (v := 1) hx hb dX8_init_16 (by decide) ?_
  refine va_put (D := D) (ci := 8) (v := .int 1) (ty := .int) (C := RX8) (T := TX8) (N := 18) hx hb hT i_X8 tyX8 tyX8_ok nmX8 hown hK hP hD hS 0 rfl rfl 7 (by decide) (hT _ q_11) (fun _ h9 => h9) rfl (by decide +kernel) rfl rfl (Nat.le_of_ble_eq_true rfl) dX8_init_17 (fun H locs hP hD hS => ?_)
  have hP : va_P D classes [(h0, .inr (8, [.int 0, .int 0, .int 0, .int 0, .int 0, .int 12, .int 5, .int 1, .int 0, .null, .null, .null, .null, .null, .null, .null, .null, .null]))] H := hP
  have hD : va_D A [(h0, .inr (8, [.int 0, .int 0, .int 0, .int 0, .int 0, .int 12, .int 5, .int 1, .int 0, .null, .null, .null, .null, .null, .null, .null, .null, .null]))] := hD
  refine lv_aload_n hx hb dX8_init_20 rfl (lv_at hl 0 rfl) ?_
  refine lv_bipush (v := 12) hx hb dX8_init_21 (by decide) ?_
  refine hz_newa (atype := .int) (ty := .int) (N' := 12) (a0 := (12, .inl (fun _ => 0))) hx hb (hT _ q_3) rfl hK hP hD hS hA (fun _ => rfl) (by decide) (by decide) (Nat.le_of_ble_eq_true rfl) (Nat.le_of_ble_eq_true rfl) (Nat.le_of_ble_eq_true rfl) dX8_init_23 0 rfl (fun n_1 H hP hD hS => ?_)
  have hP : va_P D classes [(h0, .inr (8, [.int 0, .int 0, .int 0, .int 0, .int 0, .int 12, .int 5, .int 1, .int 0, .null, .null, .null, .null, .null, .null, .null, .null, .null])), (n_1, .inl (cs 0, 12, .inl (fun _ => 0)))] H := hP
  have hD : va_D A [(h0, .inr (8, [.int 0, .int 0, .int 0, .int 0, .int 0, .int 12, .int 5, .int 1, .int 0, .null, .null, .null, .null, .null, .null, .null, .null, .null])), (n_1, .inl (cs 0, 12, .inl (fun _ => 0)))] := hD
  refine W.widen (k := 1) (n := 12) (Nat.le_of_ble_eq_true rfl) (Nat.le_of_ble_eq_true rfl) ?_
  refine va_putF (D := D) (ci := 8) (v := .ref n_1) (ty := .array .int) (C := RX8) (T := TX8) (N := 18) hx hb hT i_X8 tyX8 tyX8_ok nmX8 hown hK hP hD hS 0 rfl rfl 9 (by decide) (hT _ q_12) (fun _ h9 => h9) rfl hin rfl (by decide +kernel) rfl rfl (Nat.le_of_ble_eq_true rfl) dX8_init_25 (fun H locs hP hD hS => ?_)
  have hP : va_P D classes [(h0, .inr (8, [.int 0, .int 0, .int 0, .int 0, .int 0, .int 12, .int 5, .int 1, .int 0, .ref n_1, .null, .null, .null, .null, .null, .null, .null, .null])), (n_1, .inl (cs 0, 12, .inl (fun _ => 0)))] H := hP
  have hD : va_D A [(h0, .inr (8, [.int 0, .int 0, .int 0, .int 0, .int 0, .int 12, .int 5, .int 1, .int 0, .ref n_1, .null, .null, .null, .null, .null, .null, .null, .null])), (n_1, .inl (cs 0, 12, .inl (fun _ => 0)))] := hD
  refine lv_aload_n hx hb dX8_init_28 rfl (lv_at hl 0 rfl) ?_
  refine lv_bipush (v := 12) hx hb dX8_init_29 (by decide) ?_
  refine hz_newa (atype := .int) (ty := .int) (N' := 12) (a0 := (12, .inl (fun _ => 0))) hx hb (hT _ q_3) rfl hK hP hD hS hA (fun _ => rfl) (by decide) (by decide) (Nat.le_of_ble_eq_true rfl) (Nat.le_of_ble_eq_true rfl) (Nat.le_of_ble_eq_true rfl) dX8_init_31 0 rfl (fun n_2 H hP hD hS => ?_)
  have hP : va_P D classes [(h0, .inr (8, [.int 0, .int 0, .int 0, .int 0, .int 0, .int 12, .int 5, .int 1, .int 0, .ref n_1, .null, .null, .null, .null, .null, .null, .null, .null])), (n_1, .inl (cs 0, 12, .inl (fun _ => 0))), (n_2, .inl (cs 0, 12, .inl (fun _ => 0)))] H := hP
  have hD : va_D A [(h0, .inr (8, [.int 0, .int 0, .int 0, .int 0, .int 0, .int 12, .int 5, .int 1, .int 0, .ref n_1, .null, .null, .null, .null, .null, .null, .null, .null])), (n_1, .inl (cs 0, 12, .inl (fun _ => 0))), (n_2, .inl (cs 0, 12, .inl (fun _ => 0)))] := hD
  refine W.widen (k := 2) (n := 24) (Nat.le_of_ble_eq_true rfl) (Nat.le_of_ble_eq_true rfl) ?_
  refine va_putF (D := D) (ci := 8) (v := .ref n_2) (ty := .array .int) (C := RX8) (T := TX8) (N := 18) hx hb hT i_X8 tyX8 tyX8_ok nmX8 hown hK hP hD hS 0 rfl rfl 10 (by decide) (hT _ q_13) (fun _ h9 => h9) rfl hin rfl (by decide +kernel) rfl rfl (Nat.le_of_ble_eq_true rfl) dX8_init_33 (fun H locs hP hD hS => ?_)
  have hP : va_P D classes [(h0, .inr (8, [.int 0, .int 0, .int 0, .int 0, .int 0, .int 12, .int 5, .int 1, .int 0, .ref n_1, .ref n_2, .null, .null, .null, .null, .null, .null, .null])), (n_1, .inl (cs 0, 12, .inl (fun _ => 0))), (n_2, .inl (cs 0, 12, .inl (fun _ => 0)))] H := hP
  have hD : va_D A [(h0, .inr (8, [.int 0, .int 0, .int 0, .int 0, .int 0, .int 12, .int 5, .int 1, .int 0, .ref n_1, .ref n_2, .null, .null, .null, .null, .null, .null, .null])), (n_1, .inl (cs 0, 12, .inl (fun _ => 0))), (n_2, .inl (cs 0, 12, .inl (fun _ => 0)))] := hD
  refine lv_aload_n hx hb dX8_init_36 rfl (lv_at hl 0 rfl) ?_
  refine lv_bipush (v := 12) hx hb dX8_init_37 (by decide) ?_
  refine hz_newa (atype := .int) (ty := .int) (N' := 12) (a0 := (12, .inl (fun _ => 0))) hx hb (hT _ q_3) rfl hK hP hD hS hA (fun _ => rfl) (by decide) (by decide) (Nat.le_of_ble_eq_true rfl) (Nat.le_of_ble_eq_true rfl) (Nat.le_of_ble_eq_true rfl) dX8_init_39 0 rfl (fun n_3 H hP hD hS => ?_)
  have hP : va_P D classes [(h0, .inr (8, [.int 0, .int 0, .int 0, .int 0, .int 0, .int 12, .int 5, .int 1, .int 0, .ref n_1, .ref n_2, .null, .null, .null, .null, .null, .null, .null])), (n_1, .inl (cs 0, 12, .inl (fun _ => 0))), (n_2, .inl (cs 0, 12, .inl (fun _ => 0))), (n_3, .inl (cs 0, 12, .inl (fun _ => 0)))] H := hP
  have hD : va_D A [(h0, .inr (8, [.int 0, .int 0, .int 0, .int 0, .int 0, .int 12, .int 5, .int 1, .int 0, .ref n_1, .ref n_2, .null, .null, .null, .null, .null, .null, .null])), (n_1, .inl (cs 0, 12, .inl (fun _ => 0))), (n_2, .inl (cs 0, 12, .inl (fun _ => 0))), (n_3, .inl (cs 0, 12, .inl (fun _ => 0)))] := hD
  refine W.widen (k := 3) (n := 36) (Nat.le_of_ble_eq_true rfl) (Nat.le_of_ble_eq_true rfl) ?_
  refine va_putF (D := D) (ci := 8) (v := .ref n_3) (ty := .array .int) (C := RX8) (T := TX8) (N := 18) hx hb hT i_X8 tyX8 tyX8_ok nmX8 hown hK hP hD hS 0 rfl rfl 11 (by decide) (hT _ q_14) (fun _ h9 => h9) rfl hin rfl (by decide +kernel) rfl rfl (Nat.le_of_ble_eq_true rfl) dX8_init_41 (fun H locs hP hD hS => ?_)
  have hP : va_P D classes [(h0, .inr (8, [.int 0, .int 0, .int 0, .int 0, .int 0, .int 12, .int 5, .int 1, .int 0, .ref n_1, .ref n_2, .ref n_3, .null, .null, .null, .null, .null, .null])), (n_1, .inl (cs 0, 12, .inl (fun _ => 0))), (n_2, .inl (cs 0, 12, .inl (fun _ => 0))), (n_3, .inl (cs 0, 12, .inl (fun _ => 0)))] H := hP
  have hD : va_D A [(h0, .inr (8, [.int 0, .int 0, .int 0, .int 0, .int 0, .int 12, .int 5, .int 1, .int 0, .ref n_1, .ref n_2, .ref n_3, .null, .null, .null, .null, .null, .null])), (n_1, .inl (cs 0, 12, .inl (fun _ => 0))), (n_2, .inl (cs 0, 12, .inl (fun _ => 0))), (n_3, .inl (cs 0, 12, .inl (fun _ => 0)))] := hD
  refine lv_aload_n hx hb dX8_init_44 rfl (lv_at hl 0 rfl) ?_
  refine lv_bipush (v := 12) hx hb dX8_init_45 (by decide) ?_
  refine hz_newa (atype := .int) (ty := .int) (N' := 12) (a0 := (12, .inl (fun _ => 0))) hx hb (hT _ q_3) rfl hK hP hD hS hA (fun _ => rfl) (by decide) (by decide) (Nat.le_of_ble_eq_true rfl) (Nat.le_of_ble_eq_true rfl) (Nat.le_of_ble_eq_true rfl) dX8_init_47 0 rfl (fun n_4 H hP hD hS => ?_)
  have hP : va_P D classes [(h0, .inr (8, [.int 0, .int 0, .int 0, .int 0, .int 0, .int 12, .int 5, .int 1, .int 0, .ref n_1, .ref n_2, .ref n_3, .null, .null, .null, .null, .null, .null])), (n_1, .inl (cs 0, 12, .inl (fun _ => 0))), (n_2, .inl (cs 0, 12, .inl (fun _ => 0))), (n_3, .inl (cs 0, 12, .inl (fun _ => 0))), (n_4, .inl (cs 0, 12, .inl (fun _ => 0)))] H := hP
  have hD : va_D A [(h0, .inr (8, [.int 0, .int 0, .int 0, .int 0, .int 0, .int 12, .int 5, .int 1, .int 0, .ref n_1, .ref n_2, .ref n_3, .null, .null, .null, .null, .null, .null])), (n_1, .inl (cs 0, 12, .inl (fun _ => 0))), (n_2, .inl (cs 0, 12, .inl (fun _ => 0))), (n_3, .inl (cs 0, 12, .inl (fun _ => 0))), (n_4, .inl (cs 0, 12, .inl (fun _ => 0)))] := hD
  refine W.widen (k := 4) (n := 48) (Nat.le_of_ble_eq_true rfl) (Nat.le_of_ble_eq_true rfl) ?_
  refine va_putF (D := D) (ci := 8) (v := .ref n_4) (ty := .array .int) (C := RX8) (T := TX8) (N := 18) hx hb hT i_X8 tyX8 tyX8_ok nmX8 hown hK hP hD hS 0 rfl rfl 12 (by decide) (hT _ q_15) (fun _ h9 => h9) rfl hin rfl (by decide +kernel) rfl rfl (Nat.le_of_ble_eq_true rfl) dX8_init_49 (fun H locs hP hD hS => ?_)
  have hP : va_P D classes [(h0, .inr (8, [.int 0, .int 0, .int 0, .int 0, .int 0, .int 12, .int 5, .int 1, .int 0, .ref n_1, .ref n_2, .ref n_3, .ref n_4, .null, .null, .null, .null, .null])), (n_1, .inl (cs 0, 12, .inl (fun _ => 0))), (n_2, .inl (cs 0, 12, .inl (fun _ => 0))), (n_3, .inl (cs 0, 12, .inl (fun _ => 0))), (n_4, .inl (cs 0, 12, .inl (fun _ => 0)))] H := hP
  have hD : va_D A [(h0, .inr (8, [.int 0, .int 0, .int 0, .int 0, .int 0, .int 12, .int 5, .int 1, .int 0, .ref n_1, .ref n_2, .ref n_3, .ref n_4, .null, .null, .null, .null, .null])), (n_1, .inl (cs 0, 12, .inl (fun _ => 0))), (n_2, .inl (cs 0, 12, .inl (fun _ => 0))), (n_3, .inl (cs 0, 12, .inl (fun _ => 0))), (n_4, .inl (cs 0, 12, .inl (fun _ => 0)))] := hD
  refine lv_aload_n hx hb dX8_init_52 rfl (lv_at hl 0 rfl) ?_
  refine lv_iconst (v := 4) hx hb dX8_init_53 (by decide) ?_
  refine hz_newa (atype := .int) (ty := .int) (N' := 4) (a0 := (4, .inl (fun _ => 0))) hx hb (hT _ q_3) rfl hK hP hD hS hA (fun _ => rfl) (by decide) (by decide) (Nat.le_of_ble_eq_true rfl) (Nat.le_of_ble_eq_true rfl) (Nat.le_of_ble_eq_true rfl) dX8_init_54 0 rfl (fun n_5 H hP hD hS => ?_)
  have hP : va_P D classes [(h0, .inr (8, [.int 0, .int 0, .int 0, .int 0, .int 0, .int 12, .int 5, .int 1, .int 0, .ref n_1, .ref n_2, .ref n_3, .ref n_4, .null, .null, .null, .null, .null])), (n_1, .inl (cs 0, 12, .inl (fun _ => 0))), (n_2, .inl (cs 0, 12, .inl (fun _ => 0))), (n_3, .inl (cs 0, 12, .inl (fun _ => 0))), (n_4, .inl (cs 0, 12, .inl (fun _ => 0))), (n_5, .inl (cs 0, 4, .inl (fun _ => 0)))] H := hP
  have hD : va_D A [(h0, .inr (8, [.int 0, .int 0, .int 0, .int 0, .int 0, .int 12, .int 5, .int 1, .int 0, .ref n_1, .ref n_2, .ref n_3, .ref n_4, .null, .null, .null, .null, .null])), (n_1, .inl (cs 0, 12, .inl (fun _ => 0))), (n_2, .inl (cs 0, 12, .inl (fun _ => 0))), (n_3, .inl (cs 0, 12, .inl (fun _ => 0))), (n_4, .inl (cs 0, 12, .inl (fun _ => 0))), (n_5, .inl (cs 0, 4, .inl (fun _ => 0)))] := hD
  refine W.widen (k := 5) (n := 52) (Nat.le_of_ble_eq_true rfl) (Nat.le_of_ble_eq_true rfl) ?_
  refine va_putF (D := D) (ci := 8) (v := .ref n_5) (ty := .array .int) (C := RX8) (T := TX8) (N := 18) hx hb hT i_X8 tyX8 tyX8_ok nmX8 hown hK hP hD hS 0 rfl rfl 13 (by decide) (hT _ q_16) (fun _ h9 => h9) rfl hin rfl (by decide +kernel) rfl rfl (Nat.le_of_ble_eq_true rfl) dX8_init_56 (fun H locs hP hD hS => ?_)
  have hP : va_P D classes [(h0, .inr (8, [.int 0, .int 0, .int 0, .int 0, .int 0, .int 12, .int 5, .int 1, .int 0, .ref n_1, .ref n_2, .ref n_3, .ref n_4, .ref n_5, .null, .null, .null, .null])), (n_1, .inl (cs 0, 12, .inl (fun _ => 0))), (n_2, .inl (cs 0, 12, .inl (fun _ => 0))), (n_3, .inl (cs 0, 12, .inl (fun _ => 0))), (n_4, .inl (cs 0, 12, .inl (fun _ => 0))), (n_5, .inl (cs 0, 4, .inl (fun _ => 0)))] H := hP
  have hD : va_D A [(h0, .inr (8, [.int 0, .int 0, .int 0, .int 0, .int 0, .int 12, .int 5, .int 1, .int 0, .ref n_1, .ref n_2, .ref n_3, .ref n_4, .ref n_5, .null, .null, .null, .null])), (n_1, .inl (cs 0, 12, .inl (fun _ => 0))), (n_2, .inl (cs 0, 12, .inl (fun _ => 0))), (n_3, .inl (cs 0, 12, .inl (fun _ => 0))), (n_4, .inl (cs 0, 12, .inl (fun _ => 0))), (n_5, .inl (cs 0, 4, .inl (fun _ => 0)))] := hD
  refine lv_aload_n hx hb dX8_init_59 rfl (lv_at hl 0 rfl) ?_
  refine lv_iconst (v := 4) hx hb dX8_init_60 (by decide) ?_
  refine hz_newa (atype := .int) (ty := .int) (N' := 4) (a0 := (4, .inl (fun _ => 0))) hx hb (hT _ q_3) rfl hK hP hD hS hA (fun _ => rfl) (by decide) (by decide) (Nat.le_of_ble_eq_true rfl) (Nat.le_of_ble_eq_true rfl) (Nat.le_of_ble_eq_true rfl) dX8_init_61 0 rfl (fun n_6 H hP hD hS => ?_)
  have hP : va_P D classes [(h0, .inr (8, [.int 0, .int 0, .int 0, .int 0, .int 0, .int 12, .int 5, .int 1, .int 0, .ref n_1, .ref n_2, .ref n_3, .ref n_4, .ref n_5, .null, .null, .null, .null])), (n_1, .inl (cs 0, 12, .inl (fun _ => 0))), (n_2, .inl (cs 0, 12, .inl (fun _ => 0))), (n_3, .inl (cs 0, 12, .inl (fun _ => 0))), (n_4, .inl (cs 0, 12, .inl (fun _ => 0))), (n_5, .inl (cs 0, 4, .inl (fun _ => 0))), (n_6, .inl (cs 0, 4, .inl (fun _ => 0)))] H := hP
  have hD : va_D A [(h0, .inr (8, [.int 0, .int 0, .int 0, .int 0, .int 0, .int 12, .int 5, .int 1, .int 0, .ref n_1, .ref n_2, .ref n_3, .ref n_4, .ref n_5, .null, .null, .null, .null])), (n_1, .inl (cs 0, 12, .inl (fun _ => 0))), (n_2, .inl (cs 0, 12, .inl (fun _ => 0))), (n_3, .inl (cs 0, 12, .inl (fun _ => 0))), (n_4, .inl (cs 0, 12, .inl (fun _ => 0))), (n_5, .inl (cs 0, 4, .inl (fun _ => 0))), (n_6, .inl (cs 0, 4, .inl (fun _ => 0)))] := hD
  refine W.widen (k := 6) (n := 56) (Nat.le_of_ble_eq_true rfl) (Nat.le_of_ble_eq_true rfl) ?_
  refine va_putF (D := D) (ci := 8) (v := .ref n_6) (ty := .array .int) (C := RX8) (T := TX8) (N := 18) hx hb hT i_X8 tyX8 tyX8_ok nmX8 hown hK hP hD hS 0 rfl rfl 14 (by decide) (hT _ q_17) (fun _ h9 => h9) rfl hin rfl (by decide +kernel) rfl rfl (Nat.le_of_ble_eq_true rfl) dX8_init_63 (fun H locs hP hD hS => ?_)
  have hP : va_P D classes [(h0, .inr (8, [.int 0, .int 0, .int 0, .int 0, .int 0, .int 12, .int 5, .int 1, .int 0, .ref n_1, .ref n_2, .ref n_3, .ref n_4, .ref n_5, .ref n_6, .null, .null, .null])), (n_1, .inl (cs 0, 12, .inl (fun _ => 0))), (n_2, .inl (cs 0, 12, .inl (fun _ => 0))), (n_3, .inl (cs 0, 12, .inl (fun _ => 0))), (n_4, .inl (cs 0, 12, .inl (fun _ => 0))), (n_5, .inl (cs 0, 4, .inl (fun _ => 0))), (n_6, .inl (cs 0, 4, .inl (fun _ => 0)))] H := hP
  have hD : va_D A [(h0, .inr (8, [.int 0, .int 0, .int 0, .int 0, .int 0, .int 12, .int 5, .int 1, .int 0, .ref n_1, .ref n_2, .ref n_3, .ref n_4, .ref n_5, .ref n_6, .null, .null, .null])), (n_1, .inl (cs 0, 12, .inl (fun _ => 0))), (n_2, .inl (cs 0, 12, .inl (fun _ => 0))), (n_3, .inl (cs 0, 12, .inl (fun _ => 0))), (n_4, .inl (cs 0, 12, .inl (fun _ => 0))), (n_5, .inl (cs 0, 4, .inl (fun _ => 0))), (n_6, .inl (cs 0, 4, .inl (fun _ => 0)))] := hD
  refine lv_aload_n hx hb dX8_init_66 rfl (lv_at hl 0 rfl) ?_
  refine lv_iconst (v := 4) hx hb dX8_init_67 (by decide) ?_
  refine hz_newa (atype := .int) (ty := .int) (N' := 4) (a0 := (4, .inl (fun _ => 0))) hx hb (hT _ q_3) rfl hK hP hD hS hA (fun _ => rfl) (by decide) (by decide) (Nat.le_of_ble_eq_true rfl) (Nat.le_of_ble_eq_true rfl) (Nat.le_of_ble_eq_true rfl) dX8_init_68 0 rfl (fun n_7 H hP hD hS => ?_)
  have hP : va_P D classes [(h0, .inr (8, [.int 0, .int 0, .int 0, .int 0, .int 0, .int 12, .int 5, .int 1, .int 0, .ref n_1, .ref n_2, .ref n_3, .ref n_4, .ref n_5, .ref n_6, .null, .null, .null])), (n_1, .inl (cs 0, 12, .inl (fun _ => 0))), (n_2, .inl (cs 0, 12, .inl (fun _ => 0))), (n_3, .inl (cs 0, 12, .inl (fun _ => 0))), (n_4, .inl (cs 0, 12, .inl (fun _ => 0))), (n_5, .inl (cs 0, 4, .inl (fun _ => 0))), (n_6, .inl (cs 0, 4, .inl (fun _ => 0))), (n_7, .inl (cs 0, 4, .inl (fun _ => 0)))] H := hP
  have hD : va_D A [(h0, .inr (8, [.int 0, .int 0, .int 0, .int 0, .int 0, .int 12, .int 5, .int 1, .int 0, .ref n_1, .ref n_2, .ref n_3, .ref n_4, .ref n_5, .ref n_6, .null, .null, .null])), (n_1, .inl (cs 0, 12, .inl (fun _ => 0))), (n_2, .inl (cs 0, 12, .inl (fun _ => 0))), (n_3, .inl (cs 0, 12, .inl (fun _ => 0))), (n_4, .inl (cs 0, 12, .inl (fun _ => 0))), (n_5, .inl (cs 0, 4, .inl (fun _ => 0))), (n_6, .inl (cs 0, 4, .inl (fun _ => 0))), (n_7, .inl (cs 0, 4, .inl (fun _ => 0)))] := hD
  refine W.widen (k := 7) (n := 60) (Nat.le_of_ble_eq_true rfl) (Nat.le_of_ble_eq_true rfl) ?_
  refine va_putF (D := D) (ci := 8) (v := .ref n_7) (ty := .array .int) (C := RX8) (T := TX8) (N := 18) hx hb hT i_X8 tyX8 tyX8_ok nmX8 hown hK hP hD hS 0 rfl rfl 15 (by decide) (hT _ q_18) (fun _ h9 => h9) rfl hin rfl (by decide +kernel) rfl rfl (Nat.le_of_ble_eq_true rfl) dX8_init_70 (fun H locs hP hD hS => ?_)
  have hP : va_P D classes [(h0, .inr (8, [.int 0, .int 0, .int 0, .int 0, .int 0, .int 12, .int 5, .int 1, .int 0, .ref n_1, .ref n_2, .ref n_3, .ref n_4, .ref n_5, .ref n_6, .ref n_7, .null, .null])), (n_1, .inl (cs 0, 12, .inl (fun _ => 0))), (n_2, .inl (cs 0, 12, .inl (fun _ => 0))), (n_3, .inl (cs 0, 12, .inl (fun _ => 0))), (n_4, .inl (cs 0, 12, .inl (fun _ => 0))), (n_5, .inl (cs 0, 4, .inl (fun _ => 0))), (n_6, .inl (cs 0, 4, .inl (fun _ => 0))), (n_7, .inl (cs 0, 4, .inl (fun _ => 0)))] H := hP
  have hD : va_D A [(h0, .inr (8, [.int 0, .int 0, .int 0, .int 0, .int 0, .int 12, .int 5, .int 1, .int 0, .ref n_1, .ref n_2, .ref n_3, .ref n_4, .ref n_5, .ref n_6, .ref n_7, .null, .null])), (n_1, .inl (cs 0, 12, .inl (fun _ => 0))), (n_2, .inl (cs 0, 12, .inl (fun _ => 0))), (n_3, .inl (cs 0, 12, .inl (fun _ => 0))), (n_4, .inl (cs 0, 12, .inl (fun _ => 0))), (n_5, .inl (cs 0, 4, .inl (fun _ => 0))), (n_6, .inl (cs 0, 4, .inl (fun _ => 0))), (n_7, .inl (cs 0, 4, .inl (fun _ => 0)))] := hD
  refine lv_aload_n hx hb dX8_init_73 rfl (lv_at hl 0 rfl) ?_
  refine lv_bipush (v := 12) hx hb dX8_init_74 (by decide) ?_
  refine hz_newa (atype := .int) (ty := .int) (N' := 12) (a0 := (12, .inl (fun _ => 0))) hx hb (hT _ q_3) rfl hK hP hD hS hA (fun _ => rfl) (by decide) (by decide) (Nat.le_of_ble_eq_true rfl) (Nat.le_of_ble_eq_true rfl) (Nat.le_of_ble_eq_true rfl) dX8_init_76 0 rfl (fun n_8 H hP hD hS => ?_)
  have hP : va_P D classes [(h0, .inr (8, [.int 0, .int 0, .int 0, .int 0, .int 0, .int 12, .int 5, .int 1, .int 0, .ref n_1, .ref n_2, .ref n_3, .ref n_4, .ref n_5, .ref n_6, .ref n_7, .null, .null])), (n_1, .inl (cs 0, 12, .inl (fun _ => 0))), (n_2, .inl (cs 0, 12, .inl (fun _ => 0))), (n_3, .inl (cs 0, 12, .inl (fun _ => 0))), (n_4, .inl (cs 0, 12, .inl (fun _ => 0))), (n_5, .inl (cs 0, 4, .inl (fun _ => 0))), (n_6, .inl (cs 0, 4, .inl (fun _ => 0))), (n_7, .inl (cs 0, 4, .inl (fun _ => 0))), (n_8, .inl (cs 0, 12, .inl (fun _ => 0)))] H := hP
  have hD : va_D A [(h0, .inr (8, [.int 0, .int 0, .int 0, .int 0, .int 0, .int 12, .int 5, .int 1, .int 0, .ref n_1, .ref n_2, .ref n_3, .ref n_4, .ref n_5, .ref n_6, .ref n_7, .null, .null])), (n_1, .inl (cs 0, 12, .inl (fun _ => 0))), (n_2, .inl (cs 0, 12, .inl (fun _ => 0))), (n_3, .inl (cs 0, 12, .inl (fun _ => 0))), (n_4, .inl (cs 0, 12, .inl (fun _ => 0))), (n_5, .inl (cs 0, 4, .inl (fun _ => 0))), (n_6, .inl (cs 0, 4, .inl (fun _ => 0))), (n_7, .inl (cs 0, 4, .inl (fun _ => 0))), (n_8, .inl (cs 0, 12, .inl (fun _ => 0)))] := hD
  refine W.widen (k := 8) (n := 72) (Nat.le_of_ble_eq_true rfl) (Nat.le_of_ble_eq_true rfl) ?_
  refine va_putF (D := D) (ci := 8) (v := .ref n_8) (ty := .array .int) (C := RX8) (T := TX8) (N := 18) hx hb hT i_X8 tyX8 tyX8_ok nmX8 hown hK hP hD hS 0 rfl rfl 16 (by decide) (hT _ q_19) (fun _ h9 => h9) rfl hin rfl (by decide +kernel) rfl rfl (Nat.le_of_ble_eq_true rfl) dX8_init_78 (fun H locs hP hD hS => ?_)
  have hP : va_P D classes [(h0, .inr (8, [.int 0, .int 0, .int 0, .int 0, .int 0, .int 12, .int 5, .int 1, .int 0, .ref n_1, .ref n_2, .ref n_3, .ref n_4, .ref n_5, .ref n_6, .ref n_7, .ref n_8, .null])), (n_1, .inl (cs 0, 12, .inl (fun _ => 0))), (n_2, .inl (cs 0, 12, .inl (fun _ => 0))), (n_3, .inl (cs 0, 12, .inl (fun _ => 0))), (n_4, .inl (cs 0, 12, .inl (fun _ => 0))), (n_5, .inl (cs 0, 4, .inl (fun _ => 0))), (n_6, .inl (cs 0, 4, .inl (fun _ => 0))), (n_7, .inl (cs 0, 4, .inl (fun _ => 0))), (n_8, .inl (cs 0, 12, .inl (fun _ => 0)))] H := hP
  have hD : va_D A [(h0, .inr (8, [.int 0, .int 0, .int 0, .int 0, .int 0, .int 12, .int 5, .int 1, .int 0, .ref n_1, .ref n_2, .ref n_3, .ref n_4, .ref n_5, .ref n_6, .ref n_7, .ref n_8, .null])), (n_1, .inl (cs 0, 12, .inl (fun _ => 0))), (n_2, .inl (cs 0, 12, .inl (fun _ => 0))), (n_3, .inl (cs 0, 12, .inl (fun _ => 0))), (n_4, .inl (cs 0, 12, .inl (fun _ => 0))), (n_5, .inl (cs 0, 4, .inl (fun _ => 0))), (n_6, .inl (cs 0, 4, .inl (fun _ => 0))), (n_7, .inl (cs 0, 4, .inl (fun _ => 0))), (n_8, .inl (cs 0, 12, .inl (fun _ => 0)))] := hD
  refine lv_aload_n hx hb dX8_init_81 rfl (lv_at hl 0 rfl) ?_
  refine lv_bipush (v := 12) hx hb dX8_init_82 (by decide) ?_
  refine hz_newa (atype := .int) (ty := .int) (N' := 12) (a0 := (12, .inl (fun _ => 0))) hx hb (hT _ q_3) rfl hK hP hD hS hA (fun _ => rfl) (by decide) (by decide) (Nat.le_of_ble_eq_true rfl) (Nat.le_of_ble_eq_true rfl) (Nat.le_of_ble_eq_true rfl) dX8_init_84 0 rfl (fun n_9 H hP hD hS => ?_)
  have hP : va_P D classes [(h0, .inr (8, [.int 0, .int 0, .int 0, .int 0, .int 0, .int 12, .int 5, .int 1, .int 0, .ref n_1, .ref n_2, .ref n_3, .ref n_4, .ref n_5, .ref n_6, .ref n_7, .ref n_8, .null])), (n_1, .inl (cs 0, 12, .inl (fun _ => 0))), (n_2, .inl (cs 0, 12, .inl (fun _ => 0))), (n_3, .inl (cs 0, 12, .inl (fun _ => 0))), (n_4, .inl (cs 0, 12, .inl (fun _ => 0))), (n_5, .inl (cs 0, 4, .inl (fun _ => 0))), (n_6, .inl (cs 0, 4, .inl (fun _ => 0))), (n_7, .inl (cs 0, 4, .inl (fun _ => 0))), (n_8, .inl (cs 0, 12, .inl (fun _ => 0))), (n_9, .inl (cs 0, 12, .inl (fun _ => 0)))] H := hP
  have hD : va_D A [(h0, .inr (8, [.int 0, .int 0, .int 0, .int 0, .int 0, .int 12, .int 5, .int 1, .int 0, .ref n_1, .ref n_2, .ref n_3, .ref n_4, .ref n_5, .ref n_6, .ref n_7, .ref n_8, .null])), (n_1, .inl (cs 0, 12, .inl (fun _ => 0))), (n_2, .inl (cs 0, 12, .inl (fun _ => 0))), (n_3, .inl (cs 0, 12, .inl (fun _ => 0))), (n_4, .inl (cs 0, 12, .inl (fun _ => 0))), (n_5, .inl (cs 0, 4, .inl (fun _ => 0))), (n_6, .inl (cs 0, 4, .inl (fun _ => 0))), (n_7, .inl (cs 0, 4, .inl (fun _ => 0))), (n_8, .inl (cs 0, 12, .inl (fun _ => 0))), (n_9, .inl (cs 0, 12, .inl (fun _ => 0)))] := hD
  refine W.widen (k := 9) (n := 84) (Nat.le_of_ble_eq_true rfl) (Nat.le_of_ble_eq_true rfl) ?_
  refine va_putF (D := D) (ci := 8) (v := .ref n_9) (ty := .array .int) (C := RX8) (T := TX8) (N := 18) hx hb hT i_X8 tyX8 tyX8_ok nmX8 hown hK hP hD hS 0 rfl rfl 17 (by decide) (hT _ q_20) (fun _ h9 => h9) rfl hin rfl (by decide +kernel) rfl rfl (Nat.le_of_ble_eq_true rfl) dX8_init_86 (fun H locs hP hD hS => ?_)
  have hP : va_P D classes [(h0, .inr (8, [.int 0, .int 0, .int 0, .int 0, .int 0, .int 12, .int 5, .int 1, .int 0, .ref n_1, .ref n_2, .ref n_3, .ref n_4, .ref n_5, .ref n_6, .ref n_7, .ref n_8, .ref n_9])), (n_1, .inl (cs 0, 12, .inl (fun _ => 0))), (n_2, .inl (cs 0, 12, .inl (fun _ => 0))), (n_3, .inl (cs 0, 12, .inl (fun _ => 0))), (n_4, .inl (cs 0, 12, .inl (fun _ => 0))), (n_5, .inl (cs 0, 4, .inl (fun _ => 0))), (n_6, .inl (cs 0, 4, .inl (fun _ => 0))), (n_7, .inl (cs 0, 4, .inl (fun _ => 0))), (n_8, .inl (cs 0, 12, .inl (fun _ => 0))), (n_9, .inl (cs 0, 12, .inl (fun _ => 0)))] H := hP
  have hD : va_D A [(h0, .inr (8, [.int 0, .int 0, .int 0, .int 0, .int 0, .int 12, .int 5, .int 1, .int 0, .ref n_1, .ref n_2, .ref n_3, .ref n_4, .ref n_5, .ref n_6, .ref n_7, .ref n_8, .ref n_9])), (n_1, .inl (cs 0, 12, .inl (fun _ => 0))), (n_2, .inl (cs 0, 12, .inl (fun _ => 0))), (n_3, .inl (cs 0, 12, .inl (fun _ => 0))), (n_4, .inl (cs 0, 12, .inl (fun _ => 0))), (n_5, .inl (cs 0, 4, .inl (fun _ => 0))), (n_6, .inl (cs 0, 4, .inl (fun _ => 0))), (n_7, .inl (cs 0, 4, .inl (fun _ => 0))), (n_8, .inl (cs 0, 12, .inl (fun _ => 0))), (n_9, .inl (cs 0, 12, .inl (fun _ => 0)))] := hD
  exact W.vret hx hb hr (fun t ht hW => ⟨⟨(), rfl, trivial, (fun k => match k with | 0 => n_1 | 1 => n_2 | 2 => n_3 | 3 => n_4 | 4 => n_5 | 5 => n_6 | 6 => n_7 | 7 => n_8 | 8 => n_9 | _ => 0), by rw [ht]; exact hP.sub [0] rfl, hD.sub [0] (by decide) rfl⟩, hS.F ht⟩) hS.2.2 dX8_init_89
theorem dX6_init_0 : decode cX6_init 0 = .ok (.aload_n 0, 1) := by decide +kernel
theorem dX6_init_1 : decode cX6_init 1 = .ok (.invokespecial 3, 3) := by decide +kernel
theorem dX6_init_4 : decode cX6_init 4 = .ok (.aload_n 0, 1) := by decide +kernel
theorem dX6_init_5 : decode cX6_init 5 = .ok (.iconst 4, 1) := by decide +kernel
theorem dX6_init_6 : decode cX6_init 6 = .ok (.newarray .int, 2) := by decide +kernel
theorem dX6_init_8 : decode cX6_init 8 = .ok (.putfield 9, 3) := by decide +kernel
theorem dX6_init_11 : decode cX6_init 11 = .ok (.aload_n 0, 1) := by decide +kernel
theorem dX6_init_12 : decode cX6_init 12 = .ok (.iconst 4, 1) := by decide +kernel
theorem dX6_init_13 : decode cX6_init 13 = .ok (.newarray .int, 2) := by decide +kernel
theorem dX6_init_15 : decode cX6_init 15 = .ok (.putfield 15, 3) := by decide +kernel
theorem dX6_init_18 : decode cX6_init 18 = .ok (.aload_n 0, 1) := by decide +kernel
theorem dX6_init_19 : decode cX6_init 19 = .ok (.iconst 4, 1) := by decide +kernel
theorem dX6_init_20 : decode cX6_init 20 = .ok (.newarray .int, 2) := by decide +kernel
theorem dX6_init_22 : decode cX6_init 22 = .ok (.putfield 18, 3) := by decide +kernel
theorem dX6_init_25 : decode cX6_init 25 = .ok (.aload_n 0, 1) := by decide +kernel
theorem dX6_init_26 : decode cX6_init 26 = .ok (.iconst 4, 1) := by decide +kernel
theorem dX6_init_27 : decode cX6_init 27 = .ok (.newarray .int, 2) := by decide +kernel
theorem dX6_init_29 : decode cX6_init 29 = .ok (.putfield 21, 3) := by decide +kernel
theorem dX6_init_32 : decode cX6_init 32 = .ok (.aload_n 0, 1) := by decide +kernel
theorem dX6_init_33 : decode cX6_init 33 = .ok (.bipush 8, 2) := by decide +kernel
theorem dX6_init_35 : decode cX6_init 35 = .ok (.newarray .int, 2) := by decide +kernel
theorem dX6_init_37 : decode cX6_init 37 = .ok (.putfield 24, 3) := by decide +kernel
theorem dX6_init_40 : decode cX6_init 40 = .ok (.return_, 1) := by decide +kernel
set_option maxHeartbeats 4000000 in
set_option maxRecDepth 100000 in
theorem c_X6_init (l : Launch) (D : va_G) (cs : Nat → ClassId) (kK kV : Nat → Nat) (h0 : Nat) (sz : Nat) : Met l yX6_init (hz_w yX6_init cX6_init 1 none) ({ frames := 1, cells := 5, slots := 24, locals := 12 }) (va_Pc [.ref h0] (hz_C D cs kK kV sz [(h0, .inr (6, [.int 0, .null, .null, .null, .null, .null]))])) (va_Qv (fun (_ : Unit) => True) (fun _ t => ∃ (g : Nat → Nat), va_P D classes [(h0, .inr (6, [.int 0, .ref (g 0), .ref (g 1), .ref (g 2), .ref (g 3), .ref (g 4)])), (g 0, .inl (cs 0, 4, .inl (fun _ => 0))), (g 1, .inl (cs 0, 4, .inl (fun _ => 0))), (g 2, .inl (cs 0, 4, .inl (fun _ => 0))), (g 3, .inl (cs 0, 4, .inl (fun _ => 0))), (g 4, .inl (cs 0, 8, .inl (fun _ => 0)))] t.heap ∧ va_D (va_A [(h0, .inr (6, [.int 0, .null, .null, .null, .null, .null]))] sz) [(h0, .inr (6, [.int 0, .ref (g 0), .ref (g 1), .ref (g 2), .ref (g 3), .ref (g 4)])), (g 0, .inl (cs 0, 4, .inl (fun _ => 0))), (g 1, .inl (cs 0, 4, .inl (fun _ => 0))), (g 2, .inl (cs 0, 4, .inl (fun _ => 0))), (g 3, .inl (cs 0, 4, .inl (fun _ => 0))), (g 4, .inl (cs 0, 8, .inl (fun _ => 0)))]) (va_A [(h0, .inr (6, [.int 0, .null, .null, .null, .null, .null]))] sz)) 5 24 (va_A [(h0, .inr (6, [.int 0, .null, .null, .null, .null, .null]))] sz) := by
  refine Met.ofW (cc := cX6_init) (maxL := 1) (ret := none) (by decide) rfl ?_
  intro p e s m args below meth c s₁ B hml hv
  obtain ⟨rfl, hsz, hP, hD0, hE⟩ := hv
  have hx := B.exec
  have hb := B.bytes
  have hr := B.returns
  have hT : ∀ w ∈ TB, w.before _ s = true := fun w h => atoms_spec (ws := hz_w yX6_init cX6_init 1 none) B.pre w (List.mem_cons_of_mem _ h)
  have hown : s.vm.findClass RX6 = some m.cls := findClass_of_methodNamed B.named
  have hlocks := B.notSynchronized
  have hin : meth.name = "<init>" := (name_of_methodNamed B.named B.method).1
  clear B
  subst hsz
  have hD := hD0.self (sz := s.heap.size)
  generalize hAe : va_A [(h0, .inr (6, [.int 0, .null, .null, .null, .null, .null]))] s.heap.size = A at hD hE ⊢
  have hA : ∀ q : Nat, s.heap.size ≤ q → A q := fun q h => by rw [← hAe]; exact Or.inr h
  clear hAe hD0
  have hS : va_S A s.heap s.heap [] := va_S.rf
  have hK := hE.1
  have hl := lv_entry ([.ref h0]) (n := 1) (Nat.le_of_ble_eq_true rfl)
  rw [lg_entry_eq]
  generalize (lg_sl ([.ref h0]) ++ List.replicate (1 - (lg_sl ([.ref h0])).length) Slot.unset).toArray = ls at hl ⊢
  have hl : lv_has ls 1 [(0, .ref h0)] := hl
  obtain ⟨H, eH⟩ : ∃ z, z = s.heap := ⟨_, rfl⟩
  have hP : va_P D classes [(h0, .inr (6, [.int 0, .null, .null, .null, .null, .null]))] H := by rw [eH]; exact hP
  have hS : va_S A s.heap H [] := by rw [eH]; exact hS
  rw [← eH]
  clear eH
  refine lv_aload_n hx hb dX6_init_0 rfl (lv_at hl 0 rfl) ?_
  refine W.objInit hx hb hown (hT _ q_21) (hT _ q_1) (hT _ q_2) rfl (by rw [hml]; exact hl.1) rfl dX6_init_1 (Nat.le_of_ble_eq_true rfl) (Nat.le_of_ble_eq_true rfl) ?_
  refine W.eq (g2 := F0 m 4 ls []) rfl ?_
  refine lv_aload_n hx hb dX6_init_4 rfl (lv_at hl 0 rfl) ?_
  refine lv_iconst (v := 4) hx hb dX6_init_5 (by decide) ?_
  refine hz_newa (atype := .int) (ty := .int) (N' := 4) (a0 := (4, .inl (fun _ => 0))) hx hb (hT _ q_3) rfl hK hP hD hS hA (fun _ => rfl) (by decide) (by decide) (Nat.le_of_ble_eq_true rfl) (Nat.le_of_ble_eq_true rfl) (Nat.le_of_ble_eq_true rfl) dX6_init_6 0 rfl (fun n_1 H hP hD hS => ?_)
  have hP : va_P D classes [(h0, .inr (6, [.int 0, .null, .null, .null, .null, .null])), (n_1, .inl (cs 0, 4, .inl (fun _ => 0)))] H := hP
  have hD : va_D A [(h0, .inr (6, [.int 0, .null, .null, .null, .null, .null])), (n_1, .inl (cs 0, 4, .inl (fun _ => 0)))] := hD
  refine W.widen (k := 1) (n := 4) (Nat.le_of_ble_eq_true rfl) (Nat.le_of_ble_eq_true rfl) ?_
  refine va_putF (D := D) (ci := 6) (v := .ref n_1) (ty := .array .int) (C := RX6) (T := TX6) (N := 6) hx hb hT i_X6 tyX6 tyX6_ok nmX6 hown hK hP hD hS 0 rfl rfl 1 (by decide) (hT _ q_22) (fun _ h9 => h9) rfl hin rfl (by decide +kernel) rfl rfl (Nat.le_of_ble_eq_true rfl) dX6_init_8 (fun H locs hP hD hS => ?_)
  have hP : va_P D classes [(h0, .inr (6, [.int 0, .ref n_1, .null, .null, .null, .null])), (n_1, .inl (cs 0, 4, .inl (fun _ => 0)))] H := hP
  have hD : va_D A [(h0, .inr (6, [.int 0, .ref n_1, .null, .null, .null, .null])), (n_1, .inl (cs 0, 4, .inl (fun _ => 0)))] := hD
  refine lv_aload_n hx hb dX6_init_11 rfl (lv_at hl 0 rfl) ?_
  refine lv_iconst (v := 4) hx hb dX6_init_12 (by decide) ?_
  refine hz_newa (atype := .int) (ty := .int) (N' := 4) (a0 := (4, .inl (fun _ => 0))) hx hb (hT _ q_3) rfl hK hP hD hS hA (fun _ => rfl) (by decide) (by decide) (Nat.le_of_ble_eq_true rfl) (Nat.le_of_ble_eq_true rfl) (Nat.le_of_ble_eq_true rfl) dX6_init_13 0 rfl (fun n_2 H hP hD hS => ?_)
  have hP : va_P D classes [(h0, .inr (6, [.int 0, .ref n_1, .null, .null, .null, .null])), (n_1, .inl (cs 0, 4, .inl (fun _ => 0))), (n_2, .inl (cs 0, 4, .inl (fun _ => 0)))] H := hP
  have hD : va_D A [(h0, .inr (6, [.int 0, .ref n_1, .null, .null, .null, .null])), (n_1, .inl (cs 0, 4, .inl (fun _ => 0))), (n_2, .inl (cs 0, 4, .inl (fun _ => 0)))] := hD
  refine W.widen (k := 2) (n := 8) (Nat.le_of_ble_eq_true rfl) (Nat.le_of_ble_eq_true rfl) ?_
  refine va_putF (D := D) (ci := 6) (v := .ref n_2) (ty := .array .int) (C := RX6) (T := TX6) (N := 6) hx hb hT i_X6 tyX6 tyX6_ok nmX6 hown hK hP hD hS 0 rfl rfl 2 (by decide) (hT _ q_23) (fun _ h9 => h9) rfl hin rfl (by decide +kernel) rfl rfl (Nat.le_of_ble_eq_true rfl) dX6_init_15 (fun H locs hP hD hS => ?_)
  have hP : va_P D classes [(h0, .inr (6, [.int 0, .ref n_1, .ref n_2, .null, .null, .null])), (n_1, .inl (cs 0, 4, .inl (fun _ => 0))), (n_2, .inl (cs 0, 4, .inl (fun _ => 0)))] H := hP
  have hD : va_D A [(h0, .inr (6, [.int 0, .ref n_1, .ref n_2, .null, .null, .null])), (n_1, .inl (cs 0, 4, .inl (fun _ => 0))), (n_2, .inl (cs 0, 4, .inl (fun _ => 0)))] := hD
  refine lv_aload_n hx hb dX6_init_18 rfl (lv_at hl 0 rfl) ?_
  refine lv_iconst (v := 4) hx hb dX6_init_19 (by decide) ?_
  refine hz_newa (atype := .int) (ty := .int) (N' := 4) (a0 := (4, .inl (fun _ => 0))) hx hb (hT _ q_3) rfl hK hP hD hS hA (fun _ => rfl) (by decide) (by decide) (Nat.le_of_ble_eq_true rfl) (Nat.le_of_ble_eq_true rfl) (Nat.le_of_ble_eq_true rfl) dX6_init_20 0 rfl (fun n_3 H hP hD hS => ?_)
  have hP : va_P D classes [(h0, .inr (6, [.int 0, .ref n_1, .ref n_2, .null, .null, .null])), (n_1, .inl (cs 0, 4, .inl (fun _ => 0))), (n_2, .inl (cs 0, 4, .inl (fun _ => 0))), (n_3, .inl (cs 0, 4, .inl (fun _ => 0)))] H := hP
  have hD : va_D A [(h0, .inr (6, [.int 0, .ref n_1, .ref n_2, .null, .null, .null])), (n_1, .inl (cs 0, 4, .inl (fun _ => 0))), (n_2, .inl (cs 0, 4, .inl (fun _ => 0))), (n_3, .inl (cs 0, 4, .inl (fun _ => 0)))] := hD
  refine W.widen (k := 3) (n := 12) (Nat.le_of_ble_eq_true rfl) (Nat.le_of_ble_eq_true rfl) ?_
  refine va_putF (D := D) (ci := 6) (v := .ref n_3) (ty := .array .int) (C := RX6) (T := TX6) (N := 6) hx hb hT i_X6 tyX6 tyX6_ok nmX6 hown hK hP hD hS 0 rfl rfl 3 (by decide) (hT _ q_24) (fun _ h9 => h9) rfl hin rfl (by decide +kernel) rfl rfl (Nat.le_of_ble_eq_true rfl) dX6_init_22 (fun H locs hP hD hS => ?_)
  have hP : va_P D classes [(h0, .inr (6, [.int 0, .ref n_1, .ref n_2, .ref n_3, .null, .null])), (n_1, .inl (cs 0, 4, .inl (fun _ => 0))), (n_2, .inl (cs 0, 4, .inl (fun _ => 0))), (n_3, .inl (cs 0, 4, .inl (fun _ => 0)))] H := hP
  have hD : va_D A [(h0, .inr (6, [.int 0, .ref n_1, .ref n_2, .ref n_3, .null, .null])), (n_1, .inl (cs 0, 4, .inl (fun _ => 0))), (n_2, .inl (cs 0, 4, .inl (fun _ => 0))), (n_3, .inl (cs 0, 4, .inl (fun _ => 0)))] := hD
  refine lv_aload_n hx hb dX6_init_25 rfl (lv_at hl 0 rfl) ?_
  refine lv_iconst (v := 4) hx hb dX6_init_26 (by decide) ?_
  refine hz_newa (atype := .int) (ty := .int) (N' := 4) (a0 := (4, .inl (fun _ => 0))) hx hb (hT _ q_3) rfl hK hP hD hS hA (fun _ => rfl) (by decide) (by decide) (Nat.le_of_ble_eq_true rfl) (Nat.le_of_ble_eq_true rfl) (Nat.le_of_ble_eq_true rfl) dX6_init_27 0 rfl (fun n_4 H hP hD hS => ?_)
  have hP : va_P D classes [(h0, .inr (6, [.int 0, .ref n_1, .ref n_2, .ref n_3, .null, .null])), (n_1, .inl (cs 0, 4, .inl (fun _ => 0))), (n_2, .inl (cs 0, 4, .inl (fun _ => 0))), (n_3, .inl (cs 0, 4, .inl (fun _ => 0))), (n_4, .inl (cs 0, 4, .inl (fun _ => 0)))] H := hP
  have hD : va_D A [(h0, .inr (6, [.int 0, .ref n_1, .ref n_2, .ref n_3, .null, .null])), (n_1, .inl (cs 0, 4, .inl (fun _ => 0))), (n_2, .inl (cs 0, 4, .inl (fun _ => 0))), (n_3, .inl (cs 0, 4, .inl (fun _ => 0))), (n_4, .inl (cs 0, 4, .inl (fun _ => 0)))] := hD
  refine W.widen (k := 4) (n := 16) (Nat.le_of_ble_eq_true rfl) (Nat.le_of_ble_eq_true rfl) ?_
  refine va_putF (D := D) (ci := 6) (v := .ref n_4) (ty := .array .int) (C := RX6) (T := TX6) (N := 6) hx hb hT i_X6 tyX6 tyX6_ok nmX6 hown hK hP hD hS 0 rfl rfl 4 (by decide) (hT _ q_25) (fun _ h9 => h9) rfl hin rfl (by decide +kernel) rfl rfl (Nat.le_of_ble_eq_true rfl) dX6_init_29 (fun H locs hP hD hS => ?_)
  have hP : va_P D classes [(h0, .inr (6, [.int 0, .ref n_1, .ref n_2, .ref n_3, .ref n_4, .null])), (n_1, .inl (cs 0, 4, .inl (fun _ => 0))), (n_2, .inl (cs 0, 4, .inl (fun _ => 0))), (n_3, .inl (cs 0, 4, .inl (fun _ => 0))), (n_4, .inl (cs 0, 4, .inl (fun _ => 0)))] H := hP
  have hD : va_D A [(h0, .inr (6, [.int 0, .ref n_1, .ref n_2, .ref n_3, .ref n_4, .null])), (n_1, .inl (cs 0, 4, .inl (fun _ => 0))), (n_2, .inl (cs 0, 4, .inl (fun _ => 0))), (n_3, .inl (cs 0, 4, .inl (fun _ => 0))), (n_4, .inl (cs 0, 4, .inl (fun _ => 0)))] := hD
  refine lv_aload_n hx hb dX6_init_32 rfl (lv_at hl 0 rfl) ?_
  refine lv_bipush (v := 8) hx hb dX6_init_33 (by decide) ?_
  refine hz_newa (atype := .int) (ty := .int) (N' := 8) (a0 := (8, .inl (fun _ => 0))) hx hb (hT _ q_3) rfl hK hP hD hS hA (fun _ => rfl) (by decide) (by decide) (Nat.le_of_ble_eq_true rfl) (Nat.le_of_ble_eq_true rfl) (Nat.le_of_ble_eq_true rfl) dX6_init_35 0 rfl (fun n_5 H hP hD hS => ?_)
  have hP : va_P D classes [(h0, .inr (6, [.int 0, .ref n_1, .ref n_2, .ref n_3, .ref n_4, .null])), (n_1, .inl (cs 0, 4, .inl (fun _ => 0))), (n_2, .inl (cs 0, 4, .inl (fun _ => 0))), (n_3, .inl (cs 0, 4, .inl (fun _ => 0))), (n_4, .inl (cs 0, 4, .inl (fun _ => 0))), (n_5, .inl (cs 0, 8, .inl (fun _ => 0)))] H := hP
  have hD : va_D A [(h0, .inr (6, [.int 0, .ref n_1, .ref n_2, .ref n_3, .ref n_4, .null])), (n_1, .inl (cs 0, 4, .inl (fun _ => 0))), (n_2, .inl (cs 0, 4, .inl (fun _ => 0))), (n_3, .inl (cs 0, 4, .inl (fun _ => 0))), (n_4, .inl (cs 0, 4, .inl (fun _ => 0))), (n_5, .inl (cs 0, 8, .inl (fun _ => 0)))] := hD
  refine W.widen (k := 5) (n := 24) (Nat.le_of_ble_eq_true rfl) (Nat.le_of_ble_eq_true rfl) ?_
  refine va_putF (D := D) (ci := 6) (v := .ref n_5) (ty := .array .int) (C := RX6) (T := TX6) (N := 6) hx hb hT i_X6 tyX6 tyX6_ok nmX6 hown hK hP hD hS 0 rfl rfl 5 (by decide) (hT _ q_26) (fun _ h9 => h9) rfl hin rfl (by decide +kernel) rfl rfl (Nat.le_of_ble_eq_true rfl) dX6_init_37 (fun H locs hP hD hS => ?_)
  have hP : va_P D classes [(h0, .inr (6, [.int 0, .ref n_1, .ref n_2, .ref n_3, .ref n_4, .ref n_5])), (n_1, .inl (cs 0, 4, .inl (fun _ => 0))), (n_2, .inl (cs 0, 4, .inl (fun _ => 0))), (n_3, .inl (cs 0, 4, .inl (fun _ => 0))), (n_4, .inl (cs 0, 4, .inl (fun _ => 0))), (n_5, .inl (cs 0, 8, .inl (fun _ => 0)))] H := hP
  have hD : va_D A [(h0, .inr (6, [.int 0, .ref n_1, .ref n_2, .ref n_3, .ref n_4, .ref n_5])), (n_1, .inl (cs 0, 4, .inl (fun _ => 0))), (n_2, .inl (cs 0, 4, .inl (fun _ => 0))), (n_3, .inl (cs 0, 4, .inl (fun _ => 0))), (n_4, .inl (cs 0, 4, .inl (fun _ => 0))), (n_5, .inl (cs 0, 8, .inl (fun _ => 0)))] := hD
  exact W.vret hx hb hr (fun t ht hW => ⟨⟨(), rfl, trivial, (fun k => match k with | 0 => n_1 | 1 => n_2 | 2 => n_3 | 3 => n_4 | 4 => n_5 | _ => 0), by rw [ht]; exact hP.sub [0, 1, 2, 3, 4, 5] rfl, hD.sub [0, 1, 2, 3, 4, 5] (by decide) rfl⟩, hS.F ht⟩) hS.2.2 dX6_init_40
theorem dX9_init_0 : decode cX9_init 0 = .ok (.aload_n 0, 1) := by decide +kernel
theorem dX9_init_1 : decode cX9_init 1 = .ok (.invokespecial 3, 3) := by decide +kernel
theorem dX9_init_4 : decode cX9_init 4 = .ok (.aload_n 0, 1) := by decide +kernel
theorem dX9_init_5 : decode cX9_init 5 = .ok (.bipush 12, 2) := by decide +kernel
theorem dX9_init_7 : decode cX9_init 7 = .ok (.newarray .int, 2) := by decide +kernel
theorem dX9_init_9 : decode cX9_init 9 = .ok (.putfield 11, 3) := by decide +kernel
theorem dX9_init_12 : decode cX9_init 12 = .ok (.aload_n 0, 1) := by decide +kernel
theorem dX9_init_13 : decode cX9_init 13 = .ok (.bipush 12, 2) := by decide +kernel
theorem dX9_init_15 : decode cX9_init 15 = .ok (.newarray .int, 2) := by decide +kernel
theorem dX9_init_17 : decode cX9_init 17 = .ok (.putfield 15, 3) := by decide +kernel
theorem dX9_init_20 : decode cX9_init 20 = .ok (.aload_n 0, 1) := by decide +kernel
theorem dX9_init_21 : decode cX9_init 21 = .ok (.bipush 12, 2) := by decide +kernel
theorem dX9_init_23 : decode cX9_init 23 = .ok (.newarray .int, 2) := by decide +kernel
theorem dX9_init_25 : decode cX9_init 25 = .ok (.putfield 18, 3) := by decide +kernel
theorem dX9_init_28 : decode cX9_init 28 = .ok (.aload_n 0, 1) := by decide +kernel
theorem dX9_init_29 : decode cX9_init 29 = .ok (.bipush 12, 2) := by decide +kernel
theorem dX9_init_31 : decode cX9_init 31 = .ok (.newarray .boolean, 2) := by decide +kernel
theorem dX9_init_33 : decode cX9_init 33 = .ok (.putfield 21, 3) := by decide +kernel
theorem dX9_init_36 : decode cX9_init 36 = .ok (.return_, 1) := by decide +kernel
set_option maxHeartbeats 4000000 in
set_option maxRecDepth 100000 in
theorem c_X9_init (l : Launch) (D : va_G) (cs : Nat → ClassId) (kK kV : Nat → Nat) (h0 : Nat) (sz : Nat) : Met l yX9_init (hz_w yX9_init cX9_init 1 none) ({ frames := 1, cells := 4, slots := 48, locals := 12 }) (va_Pc [.ref h0] (hz_C D cs kK kV sz [(h0, .inr (9, [.int 0, .int 0, .int 0, .null, .null, .null, .null]))])) (va_Qv (fun (_ : Unit) => True) (fun _ t => ∃ (g : Nat → Nat), va_P D classes [(h0, .inr (9, [.int 0, .int 0, .int 0, .ref (g 0), .ref (g 1), .ref (g 2), .ref (g 3)])), (g 1, .inl (cs 0, 12, .inl (fun _ => 0))), (g 2, .inl (cs 0, 12, .inl (fun _ => 0))), (g 3, .inl (cs 2, 12, .inl (fun _ => 0)))] t.heap ∧ va_D (va_A [(h0, .inr (9, [.int 0, .int 0, .int 0, .null, .null, .null, .null]))] sz) [(h0, .inr (9, [.int 0, .int 0, .int 0, .ref (g 0), .ref (g 1), .ref (g 2), .ref (g 3)])), (g 1, .inl (cs 0, 12, .inl (fun _ => 0))), (g 2, .inl (cs 0, 12, .inl (fun _ => 0))), (g 3, .inl (cs 2, 12, .inl (fun _ => 0)))]) (va_A [(h0, .inr (9, [.int 0, .int 0, .int 0, .null, .null, .null, .null]))] sz)) 4 48 (va_A [(h0, .inr (9, [.int 0, .int 0, .int 0, .null, .null, .null, .null]))] sz) := by
  refine Met.ofW (cc := cX9_init) (maxL := 1) (ret := none) (by decide) rfl ?_
  intro p e s m args below meth c s₁ B hml hv
  obtain ⟨rfl, hsz, hP, hD0, hE⟩ := hv
  have hx := B.exec
  have hb := B.bytes
  have hr := B.returns
  have hT : ∀ w ∈ TB, w.before _ s = true := fun w h => atoms_spec (ws := hz_w yX9_init cX9_init 1 none) B.pre w (List.mem_cons_of_mem _ h)
  have hown : s.vm.findClass RX9 = some m.cls := findClass_of_methodNamed B.named
  have hlocks := B.notSynchronized
  have hin : meth.name = "<init>" := (name_of_methodNamed B.named B.method).1
  clear B
  subst hsz
  have hD := hD0.self (sz := s.heap.size)
  generalize hAe : va_A [(h0, .inr (9, [.int 0, .int 0, .int 0, .null, .null, .null, .null]))] s.heap.size = A at hD hE ⊢
  have hA : ∀ q : Nat, s.heap.size ≤ q → A q := fun q h => by rw [← hAe]; exact Or.inr h
  clear hAe hD0
  have hS : va_S A s.heap s.heap [] := va_S.rf
  have hK := hE.1
  have hl := lv_entry ([.ref h0]) (n := 1) (Nat.le_of_ble_eq_true rfl)
  rw [lg_entry_eq]
  generalize (lg_sl ([.ref h0]) ++ List.replicate (1 - (lg_sl ([.ref h0])).length) Slot.unset).toArray = ls at hl ⊢
  have hl : lv_has ls 1 [(0, .ref h0)] := hl
  obtain ⟨H, eH⟩ : ∃ z, z = s.heap := ⟨_, rfl⟩
  have hP : va_P D classes [(h0, .inr (9, [.int 0, .int 0, .int 0, .null, .null, .null, .null]))] H := by rw [eH]; exact hP
  have hS : va_S A s.heap H [] := by rw [eH]; exact hS
  rw [← eH]
  clear eH
  refine lv_aload_n hx hb dX9_init_0 rfl (lv_at hl 0 rfl) ?_
  refine W.objInit hx hb hown (hT _ q_27) (hT _ q_1) (hT _ q_2) rfl (by rw [hml]; exact hl.1) rfl dX9_init_1 (Nat.le_of_ble_eq_true rfl) (Nat.le_of_ble_eq_true rfl) ?_
  refine W.eq (g2 := F0 m 4 ls []) rfl ?_
  refine lv_aload_n hx hb dX9_init_4 rfl (lv_at hl 0 rfl) ?_
  refine lv_bipush (v := 12) hx hb dX9_init_5 (by decide) ?_
  refine hz_newa (atype := .int) (ty := .int) (N' := 12) (a0 := (12, .inl (fun _ => 0))) hx hb (hT _ q_3) rfl hK hP hD hS hA (fun _ => rfl) (by decide) (by decide) (Nat.le_of_ble_eq_true rfl) (Nat.le_of_ble_eq_true rfl) (Nat.le_of_ble_eq_true rfl) dX9_init_7 0 rfl (fun n_1 H hP hD hS => ?_)
  have hP : va_P D classes [(h0, .inr (9, [.int 0, .int 0, .int 0, .null, .null, .null, .null])), (n_1, .inl (cs 0, 12, .inl (fun _ => 0)))] H := hP
  have hD : va_D A [(h0, .inr (9, [.int 0, .int 0, .int 0, .null, .null, .null, .null])), (n_1, .inl (cs 0, 12, .inl (fun _ => 0)))] := hD
  refine W.widen (k := 1) (n := 12) (Nat.le_of_ble_eq_true rfl) (Nat.le_of_ble_eq_true rfl) ?_
  refine va_putF (D := D) (ci := 9) (v := .ref n_1) (ty := .array .int) (C := RX9) (T := TX9) (N := 7) hx hb hT i_X9 tyX9 tyX9_ok nmX9 hown hK hP hD hS 0 rfl rfl 3 (by decide) (hT _ q_28) (fun _ h9 => h9) rfl hin rfl (by decide +kernel) rfl rfl (Nat.le_of_ble_eq_true rfl) dX9_init_9 (fun H locs hP hD hS => ?_)
  have hP : va_P D classes [(h0, .inr (9, [.int 0, .int 0, .int 0, .ref n_1, .null, .null, .null])), (n_1, .inl (cs 0, 12, .inl (fun _ => 0)))] H := hP
  have hD : va_D A [(h0, .inr (9, [.int 0, .int 0, .int 0, .ref n_1, .null, .null, .null])), (n_1, .inl (cs 0, 12, .inl (fun _ => 0)))] := hD
  refine lv_aload_n hx hb dX9_init_12 rfl (lv_at hl 0 rfl) ?_
  refine lv_bipush (v := 12) hx hb dX9_init_13 (by decide) ?_
  refine hz_newa (atype := .int) (ty := .int) (N' := 12) (a0 := (12, .inl (fun _ => 0))) hx hb (hT _ q_3) rfl hK hP hD hS hA (fun _ => rfl) (by decide) (by decide) (Nat.le_of_ble_eq_true rfl) (Nat.le_of_ble_eq_true rfl) (Nat.le_of_ble_eq_true rfl) dX9_init_15 0 rfl (fun n_2 H hP hD hS => ?_)
  have hP : va_P D classes [(h0, .inr (9, [.int 0, .int 0, .int 0, .ref n_1, .null, .null, .null])), (n_1, .inl (cs 0, 12, .inl (fun _ => 0))), (n_2, .inl (cs 0, 12, .inl (fun _ => 0)))] H := hP
  have hD : va_D A [(h0, .inr (9, [.int 0, .int 0, .int 0, .ref n_1, .null, .null, .null])), (n_1, .inl (cs 0, 12, .inl (fun _ => 0))), (n_2, .inl (cs 0, 12, .inl (fun _ => 0)))] := hD
  refine W.widen (k := 2) (n := 24) (Nat.le_of_ble_eq_true rfl) (Nat.le_of_ble_eq_true rfl) ?_
  refine va_putF (D := D) (ci := 9) (v := .ref n_2) (ty := .array .int) (C := RX9) (T := TX9) (N := 7) hx hb hT i_X9 tyX9 tyX9_ok nmX9 hown hK hP hD hS 0 rfl rfl 4 (by decide) (hT _ q_29) (fun _ h9 => h9) rfl hin rfl (by decide +kernel) rfl rfl (Nat.le_of_ble_eq_true rfl) dX9_init_17 (fun H locs hP hD hS => ?_)
  have hP : va_P D classes [(h0, .inr (9, [.int 0, .int 0, .int 0, .ref n_1, .ref n_2, .null, .null])), (n_1, .inl (cs 0, 12, .inl (fun _ => 0))), (n_2, .inl (cs 0, 12, .inl (fun _ => 0)))] H := hP
  have hD : va_D A [(h0, .inr (9, [.int 0, .int 0, .int 0, .ref n_1, .ref n_2, .null, .null])), (n_1, .inl (cs 0, 12, .inl (fun _ => 0))), (n_2, .inl (cs 0, 12, .inl (fun _ => 0)))] := hD
  refine lv_aload_n hx hb dX9_init_20 rfl (lv_at hl 0 rfl) ?_
  refine lv_bipush (v := 12) hx hb dX9_init_21 (by decide) ?_
  refine hz_newa (atype := .int) (ty := .int) (N' := 12) (a0 := (12, .inl (fun _ => 0))) hx hb (hT _ q_3) rfl hK hP hD hS hA (fun _ => rfl) (by decide) (by decide) (Nat.le_of_ble_eq_true rfl) (Nat.le_of_ble_eq_true rfl) (Nat.le_of_ble_eq_true rfl) dX9_init_23 0 rfl (fun n_3 H hP hD hS => ?_)
  have hP : va_P D classes [(h0, .inr (9, [.int 0, .int 0, .int 0, .ref n_1, .ref n_2, .null, .null])), (n_1, .inl (cs 0, 12, .inl (fun _ => 0))), (n_2, .inl (cs 0, 12, .inl (fun _ => 0))), (n_3, .inl (cs 0, 12, .inl (fun _ => 0)))] H := hP
  have hD : va_D A [(h0, .inr (9, [.int 0, .int 0, .int 0, .ref n_1, .ref n_2, .null, .null])), (n_1, .inl (cs 0, 12, .inl (fun _ => 0))), (n_2, .inl (cs 0, 12, .inl (fun _ => 0))), (n_3, .inl (cs 0, 12, .inl (fun _ => 0)))] := hD
  refine W.widen (k := 3) (n := 36) (Nat.le_of_ble_eq_true rfl) (Nat.le_of_ble_eq_true rfl) ?_
  refine va_putF (D := D) (ci := 9) (v := .ref n_3) (ty := .array .int) (C := RX9) (T := TX9) (N := 7) hx hb hT i_X9 tyX9 tyX9_ok nmX9 hown hK hP hD hS 0 rfl rfl 5 (by decide) (hT _ q_30) (fun _ h9 => h9) rfl hin rfl (by decide +kernel) rfl rfl (Nat.le_of_ble_eq_true rfl) dX9_init_25 (fun H locs hP hD hS => ?_)
  have hP : va_P D classes [(h0, .inr (9, [.int 0, .int 0, .int 0, .ref n_1, .ref n_2, .ref n_3, .null])), (n_1, .inl (cs 0, 12, .inl (fun _ => 0))), (n_2, .inl (cs 0, 12, .inl (fun _ => 0))), (n_3, .inl (cs 0, 12, .inl (fun _ => 0)))] H := hP
  have hD : va_D A [(h0, .inr (9, [.int 0, .int 0, .int 0, .ref n_1, .ref n_2, .ref n_3, .null])), (n_1, .inl (cs 0, 12, .inl (fun _ => 0))), (n_2, .inl (cs 0, 12, .inl (fun _ => 0))), (n_3, .inl (cs 0, 12, .inl (fun _ => 0)))] := hD
  refine lv_aload_n hx hb dX9_init_28 rfl (lv_at hl 0 rfl) ?_
  refine lv_bipush (v := 12) hx hb dX9_init_29 (by decide) ?_
  refine hz_newa (atype := .boolean) (ty := .boolean) (N' := 12) (a0 := (12, .inl (fun _ => 0))) hx hb (hT _ q_31) rfl hK hP hD hS hA (fun _ => rfl) (by decide) (by decide) (Nat.le_of_ble_eq_true rfl) (Nat.le_of_ble_eq_true rfl) (Nat.le_of_ble_eq_true rfl) dX9_init_31 2 rfl (fun n_4 H hP hD hS => ?_)
  have hP : va_P D classes [(h0, .inr (9, [.int 0, .int 0, .int 0, .ref n_1, .ref n_2, .ref n_3, .null])), (n_1, .inl (cs 0, 12, .inl (fun _ => 0))), (n_2, .inl (cs 0, 12, .inl (fun _ => 0))), (n_3, .inl (cs 0, 12, .inl (fun _ => 0))), (n_4, .inl (cs 2, 12, .inl (fun _ => 0)))] H := hP
  have hD : va_D A [(h0, .inr (9, [.int 0, .int 0, .int 0, .ref n_1, .ref n_2, .ref n_3, .null])), (n_1, .inl (cs 0, 12, .inl (fun _ => 0))), (n_2, .inl (cs 0, 12, .inl (fun _ => 0))), (n_3, .inl (cs 0, 12, .inl (fun _ => 0))), (n_4, .inl (cs 2, 12, .inl (fun _ => 0)))] := hD
  refine W.widen (k := 4) (n := 48) (Nat.le_of_ble_eq_true rfl) (Nat.le_of_ble_eq_true rfl) ?_
  refine va_putF (D := D) (ci := 9) (v := .ref n_4) (ty := .array .boolean) (C := RX9) (T := TX9) (N := 7) hx hb hT i_X9 tyX9 tyX9_ok nmX9 hown hK hP hD hS 0 rfl rfl 6 (by decide) (hT _ q_32) (fun _ h9 => h9) rfl hin rfl (by decide +kernel) rfl rfl (Nat.le_of_ble_eq_true rfl) dX9_init_33 (fun H locs hP hD hS => ?_)
  have hP : va_P D classes [(h0, .inr (9, [.int 0, .int 0, .int 0, .ref n_1, .ref n_2, .ref n_3, .ref n_4])), (n_1, .inl (cs 0, 12, .inl (fun _ => 0))), (n_2, .inl (cs 0, 12, .inl (fun _ => 0))), (n_3, .inl (cs 0, 12, .inl (fun _ => 0))), (n_4, .inl (cs 2, 12, .inl (fun _ => 0)))] H := hP
  have hD : va_D A [(h0, .inr (9, [.int 0, .int 0, .int 0, .ref n_1, .ref n_2, .ref n_3, .ref n_4])), (n_1, .inl (cs 0, 12, .inl (fun _ => 0))), (n_2, .inl (cs 0, 12, .inl (fun _ => 0))), (n_3, .inl (cs 0, 12, .inl (fun _ => 0))), (n_4, .inl (cs 2, 12, .inl (fun _ => 0)))] := hD
  exact W.vret hx hb hr (fun t ht hW => ⟨⟨(), rfl, trivial, (fun k => match k with | 0 => n_1 | 1 => n_2 | 2 => n_3 | 3 => n_4 | _ => 0), by rw [ht]; exact hP.sub [0, 2, 3, 4] rfl, hD.sub [0, 2, 3, 4] (by decide) rfl⟩, hS.F ht⟩) hS.2.2 dX9_init_36
theorem dX3_init_0 : decode cX3_init 0 = .ok (.aload_n 0, 1) := by decide +kernel
theorem dX3_init_1 : decode cX3_init 1 = .ok (.invokespecial 3, 3) := by decide +kernel
theorem dX3_init_4 : decode cX3_init 4 = .ok (.aload_n 0, 1) := by decide +kernel
theorem dX3_init_5 : decode cX3_init 5 = .ok (.sipush 4096, 3) := by decide +kernel
theorem dX3_init_8 : decode cX3_init 8 = .ok (.newarray .int, 2) := by decide +kernel
theorem dX3_init_10 : decode cX3_init 10 = .ok (.putfield 11, 3) := by decide +kernel
theorem dX3_init_13 : decode cX3_init 13 = .ok (.return_, 1) := by decide +kernel
set_option maxHeartbeats 4000000 in
set_option maxRecDepth 100000 in
theorem c_X3_init (l : Launch) (D : va_G) (cs : Nat → ClassId) (kK kV : Nat → Nat) (h0 : Nat) (sz : Nat) : Met l yX3_init (hz_w yX3_init cX3_init 1 none) ({ frames := 1, cells := 1, slots := 4096, locals := 12 }) (va_Pc [.ref h0] (hz_C D cs kK kV sz [(h0, .inr (3, [.null, .null]))])) (va_Qv (fun (_ : Unit) => True) (fun _ t => ∃ (g : Nat → Nat), va_P D classes [(h0, .inr (3, [.null, .ref (g 0)]))] t.heap ∧ va_D (va_A [(h0, .inr (3, [.null, .null]))] sz) [(h0, .inr (3, [.null, .ref (g 0)]))]) (va_A [(h0, .inr (3, [.null, .null]))] sz)) 1 4096 (va_A [(h0, .inr (3, [.null, .null]))] sz) := by
  refine Met.ofW (cc := cX3_init) (maxL := 1) (ret := none) (by decide) rfl ?_
  intro p e s m args below meth c s₁ B hml hv
  obtain ⟨rfl, hsz, hP, hD0, hE⟩ := hv
  have hx := B.exec
  have hb := B.bytes
  have hr := B.returns
  have hT : ∀ w ∈ TB, w.before _ s = true := fun w h => atoms_spec (ws := hz_w yX3_init cX3_init 1 none) B.pre w (List.mem_cons_of_mem _ h)
  have hown : s.vm.findClass RX3 = some m.cls := findClass_of_methodNamed B.named
  have hlocks := B.notSynchronized
  have hin : meth.name = "<init>" := (name_of_methodNamed B.named B.method).1
  clear B
  subst hsz
  have hD := hD0.self (sz := s.heap.size)
  generalize hAe : va_A [(h0, .inr (3, [.null, .null]))] s.heap.size = A at hD hE ⊢
  have hA : ∀ q : Nat, s.heap.size ≤ q → A q := fun q h => by rw [← hAe]; exact Or.inr h
  clear hAe hD0
  have hS : va_S A s.heap s.heap [] := va_S.rf
  have hK := hE.1
  have hl := lv_entry ([.ref h0]) (n := 1) (Nat.le_of_ble_eq_true rfl)
  rw [lg_entry_eq]
  generalize (lg_sl ([.ref h0]) ++ List.replicate (1 - (lg_sl ([.ref h0])).length) Slot.unset).toArray = ls at hl ⊢
  have hl : lv_has ls 1 [(0, .ref h0)] := hl
  obtain ⟨H, eH⟩ : ∃ z, z = s.heap := ⟨_, rfl⟩
  have hP : va_P D classes [(h0, .inr (3, [.null, .null]))] H := by rw [eH]; exact hP
  have hS : va_S A s.heap H [] := by rw [eH]; exact hS
  rw [← eH]
  clear eH
  refine lv_aload_n hx hb dX3_init_0 rfl (lv_at hl 0 rfl) ?_
  refine W.objInit hx hb hown (hT _ q_33) (hT _ q_1) (hT _ q_2) rfl (by rw [hml]; exact hl.1) rfl dX3_init_1 (Nat.le_of_ble_eq_true rfl) (Nat.le_of_ble_eq_true rfl) ?_
  refine W.eq (g2 := F0 m 4 ls []) rfl ?_
  refine lv_aload_n hx hb dX3_init_4 rfl (lv_at hl 0 rfl) ?_
  refine lv_sipush (v := 4096) hx hb dX3_init_5 (by decide) ?_
  refine hz_newa (atype := .int) (ty := .int) (N' := 4096) (a0 := (4096, .inl (fun _ => 0))) hx hb (hT _ q_3) rfl hK hP hD hS hA (fun _ => rfl) (by decide) (by decide) (Nat.le_of_ble_eq_true rfl) (Nat.le_of_ble_eq_true rfl) (Nat.le_of_ble_eq_true rfl) dX3_init_8 0 rfl (fun n_1 H hP hD hS => ?_)
  have hP : va_P D classes [(h0, .inr (3, [.null, .null])), (n_1, .inl (cs 0, 4096, .inl (fun _ => 0)))] H := hP
  have hD : va_D A [(h0, .inr (3, [.null, .null])), (n_1, .inl (cs 0, 4096, .inl (fun _ => 0)))] := hD
  refine W.widen (k := 1) (n := 4096) (Nat.le_of_ble_eq_true rfl) (Nat.le_of_ble_eq_true rfl) ?_
  refine va_putF (D := D) (ci := 3) (v := .ref n_1) (ty := .array .int) (C := RX3) (T := TX3) (N := 2) hx hb hT i_X3 tyX3 tyX3_ok nmX3 hown hK hP hD hS 0 rfl rfl 1 (by decide) (hT _ q_34) (fun _ h9 => h9) rfl hin rfl (by decide +kernel) rfl rfl (Nat.le_of_ble_eq_true rfl) dX3_init_10 (fun H locs hP hD hS => ?_)
  have hP : va_P D classes [(h0, .inr (3, [.null, .ref n_1])), (n_1, .inl (cs 0, 4096, .inl (fun _ => 0)))] H := hP
  have hD : va_D A [(h0, .inr (3, [.null, .ref n_1])), (n_1, .inl (cs 0, 4096, .inl (fun _ => 0)))] := hD
  exact W.vret hx hb hr (fun t ht hW => ⟨⟨(), rfl, trivial, (fun k => match k with | 0 => n_1 | _ => 0), by rw [ht]; exact hP.sub [0] rfl, hD.sub [0] (by decide) rfl⟩, hS.F ht⟩) hS.2.2 dX3_init_13
theorem dX10_init_0 : decode cX10_init 0 = .ok (.aload_n 0, 1) := by decide +kernel
theorem dX10_init_1 : decode cX10_init 1 = .ok (.invokespecial 3, 3) := by decide +kernel
theorem dX10_init_4 : decode cX10_init 4 = .ok (.aload_n 0, 1) := by decide +kernel
theorem dX10_init_5 : decode cX10_init 5 = .ok (.sipush 2048, 3) := by decide +kernel
theorem dX10_init_8 : decode cX10_init 8 = .ok (.newarray .int, 2) := by decide +kernel
theorem dX10_init_10 : decode cX10_init 10 = .ok (.putfield 11, 3) := by decide +kernel
theorem dX10_init_13 : decode cX10_init 13 = .ok (.aload_n 0, 1) := by decide +kernel
theorem dX10_init_14 : decode cX10_init 14 = .ok (.sipush 2048, 3) := by decide +kernel
theorem dX10_init_17 : decode cX10_init 17 = .ok (.newarray .int, 2) := by decide +kernel
theorem dX10_init_19 : decode cX10_init 19 = .ok (.putfield 15, 3) := by decide +kernel
theorem dX10_init_22 : decode cX10_init 22 = .ok (.aload_n 0, 1) := by decide +kernel
theorem dX10_init_23 : decode cX10_init 23 = .ok (.sipush 256, 3) := by decide +kernel
theorem dX10_init_26 : decode cX10_init 26 = .ok (.newarray .int, 2) := by decide +kernel
theorem dX10_init_28 : decode cX10_init 28 = .ok (.putfield 18, 3) := by decide +kernel
theorem dX10_init_31 : decode cX10_init 31 = .ok (.aload_n 0, 1) := by decide +kernel
theorem dX10_init_32 : decode cX10_init 32 = .ok (.bipush 12, 2) := by decide +kernel
theorem dX10_init_34 : decode cX10_init 34 = .ok (.newarray .int, 2) := by decide +kernel
theorem dX10_init_36 : decode cX10_init 36 = .ok (.putfield 21, 3) := by decide +kernel
theorem dX10_init_39 : decode cX10_init 39 = .ok (.return_, 1) := by decide +kernel
set_option maxHeartbeats 4000000 in
set_option maxRecDepth 100000 in
theorem c_X10_init (l : Launch) (D : va_G) (cs : Nat → ClassId) (kK kV : Nat → Nat) (h0 : Nat) (sz : Nat) : Met l yX10_init (hz_w yX10_init cX10_init 1 none) ({ frames := 1, cells := 4, slots := 4364, locals := 12 }) (va_Pc [.ref h0] (hz_C D cs kK kV sz [(h0, .inr (10, [.null, .null, .null, .null, .null, .null, .int 0, .int 0, .int 0, .int 0, .int 0]))])) (va_Qv (fun (_ : Unit) => True) (fun _ t => ∃ (g : Nat → Nat), va_P D classes [(h0, .inr (10, [.ref (g 0), .ref (g 1), .ref (g 2), .ref (g 3), .null, .null, .int 0, .int 0, .int 0, .int 0, .int 0]))] t.heap ∧ va_D (va_A [(h0, .inr (10, [.null, .null, .null, .null, .null, .null, .int 0, .int 0, .int 0, .int 0, .int 0]))] sz) [(h0, .inr (10, [.ref (g 0), .ref (g 1), .ref (g 2), .ref (g 3), .null, .null, .int 0, .int 0, .int 0, .int 0, .int 0]))]) (va_A [(h0, .inr (10, [.null, .null, .null, .null, .null, .null, .int 0, .int 0, .int 0, .int 0, .int 0]))] sz)) 4 4364 (va_A [(h0, .inr (10, [.null, .null, .null, .null, .null, .null, .int 0, .int 0, .int 0, .int 0, .int 0]))] sz) := by
  refine Met.ofW (cc := cX10_init) (maxL := 1) (ret := none) (by decide) rfl ?_
  intro p e s m args below meth c s₁ B hml hv
  obtain ⟨rfl, hsz, hP, hD0, hE⟩ := hv
  have hx := B.exec
  have hb := B.bytes
  have hr := B.returns
  have hT : ∀ w ∈ TB, w.before _ s = true := fun w h => atoms_spec (ws := hz_w yX10_init cX10_init 1 none) B.pre w (List.mem_cons_of_mem _ h)
  have hown : s.vm.findClass RX10 = some m.cls := findClass_of_methodNamed B.named
  have hlocks := B.notSynchronized
  have hin : meth.name = "<init>" := (name_of_methodNamed B.named B.method).1
  clear B
  subst hsz
  have hD := hD0.self (sz := s.heap.size)
  generalize hAe : va_A [(h0, .inr (10, [.null, .null, .null, .null, .null, .null, .int 0, .int 0, .int 0, .int 0, .int 0]))] s.heap.size = A at hD hE ⊢
  have hA : ∀ q : Nat, s.heap.size ≤ q → A q := fun q h => by rw [← hAe]; exact Or.inr h
  clear hAe hD0
  have hS : va_S A s.heap s.heap [] := va_S.rf
  have hK := hE.1
  have hl := lv_entry ([.ref h0]) (n := 1) (Nat.le_of_ble_eq_true rfl)
  rw [lg_entry_eq]
  generalize (lg_sl ([.ref h0]) ++ List.replicate (1 - (lg_sl ([.ref h0])).length) Slot.unset).toArray = ls at hl ⊢
  have hl : lv_has ls 1 [(0, .ref h0)] := hl
  obtain ⟨H, eH⟩ : ∃ z, z = s.heap := ⟨_, rfl⟩
  have hP : va_P D classes [(h0, .inr (10, [.null, .null, .null, .null, .null, .null, .int 0, .int 0, .int 0, .int 0, .int 0]))] H := by rw [eH]; exact hP
  have hS : va_S A s.heap H [] := by rw [eH]; exact hS
  rw [← eH]
  clear eH
  refine lv_aload_n hx hb dX10_init_0 rfl (lv_at hl 0 rfl) ?_
  refine W.objInit hx hb hown (hT _ q_35) (hT _ q_1) (hT _ q_2) rfl (by rw [hml]; exact hl.1) rfl dX10_init_1 (Nat.le_of_ble_eq_true rfl) (Nat.le_of_ble_eq_true rfl) ?_
  refine W.eq (g2 := F0 m 4 ls []) rfl ?_
  refine lv_aload_n hx hb dX10_init_4 rfl (lv_at hl 0 rfl) ?_
  refine lv_sipush (v := 2048) hx hb dX10_init_5 (by decide) ?_
  refine hz_newa (atype := .int) (ty := .int) (N' := 2048) (a0 := (2048, .inl (fun _ => 0))) hx hb (hT _ q_3) rfl hK hP hD hS hA (fun _ => rfl) (by decide) (by decide) (Nat.le_of_ble_eq_true rfl) (Nat.le_of_ble_eq_true rfl) (Nat.le_of_ble_eq_true rfl) dX10_init_8 0 rfl (fun n_1 H hP hD hS => ?_)
  have hP : va_P D classes [(h0, .inr (10, [.null, .null, .null, .null, .null, .null, .int 0, .int 0, .int 0, .int 0, .int 0])), (n_1, .inl (cs 0, 2048, .inl (fun _ => 0)))] H := hP
  have hD : va_D A [(h0, .inr (10, [.null, .null, .null, .null, .null, .null, .int 0, .int 0, .int 0, .int 0, .int 0])), (n_1, .inl (cs 0, 2048, .inl (fun _ => 0)))] := hD
  refine W.widen (k := 1) (n := 2048) (Nat.le_of_ble_eq_true rfl) (Nat.le_of_ble_eq_true rfl) ?_
  refine va_put (D := D) (ci := 10) (v := .ref n_1) (ty := .array .int) (C := RX10) (T := TX10) (N := 11) hx hb hT i_X10 tyX10 tyX10_ok nmX10 hown hK hP hD hS 0 rfl rfl 0 (by decide) (hT _ q_36) (fun _ h9 => h9) rfl (by decide +kernel) rfl rfl (Nat.le_of_ble_eq_true rfl) dX10_init_10 (fun H locs hP hD hS => ?_)
  have hP : va_P D classes [(h0, .inr (10, [.ref n_1, .null, .null, .null, .null, .null, .int 0, .int 0, .int 0, .int 0, .int 0])), (n_1, .inl (cs 0, 2048, .inl (fun _ => 0)))] H := hP
  have hD : va_D A [(h0, .inr (10, [.ref n_1, .null, .null, .null, .null, .null, .int 0, .int 0, .int 0, .int 0, .int 0])), (n_1, .inl (cs 0, 2048, .inl (fun _ => 0)))] := hD
  refine lv_aload_n hx hb dX10_init_13 rfl (lv_at hl 0 rfl) ?_
  refine lv_sipush (v := 2048) hx hb dX10_init_14 (by decide) ?_
  refine hz_newa (atype := .int) (ty := .int) (N' := 2048) (a0 := (2048, .inl (fun _ => 0))) hx hb (hT _ q_3) rfl hK hP hD hS hA (fun _ => rfl) (by decide) (by decide) (Nat.le_of_ble_eq_true rfl) (Nat.le_of_ble_eq_true rfl) (Nat.le_of_ble_eq_true rfl) dX10_init_17 0 rfl (fun n_2 H hP hD hS => ?_)
  have hP : va_P D classes [(h0, .inr (10, [.ref n_1, .null, .null, .null, .null, .null, .int 0, .int 0, .int 0, .int 0, .int 0])), (n_1, .inl (cs 0, 2048, .inl (fun _ => 0))), (n_2, .inl (cs 0, 2048, .inl (fun _ => 0)))] H := hP
  have hD : va_D A [(h0, .inr (10, [.ref n_1, .null, .null, .null, .null, .null, .int 0, .int 0, .int 0, .int 0, .int 0])), (n_1, .inl (cs 0, 2048, .inl (fun _ => 0))), (n_2, .inl (cs 0, 2048, .inl (fun _ => 0)))] := hD
  refine W.widen (k := 2) (n := 4096) (Nat.le_of_ble_eq_true rfl) (Nat.le_of_ble_eq_true rfl) ?_
  refine va_put (D := D) (ci := 10) (v := .ref n_2) (ty := .array .int) (C := RX10) (T := TX10) (N := 11) hx hb hT i_X10 tyX10 tyX10_ok nmX10 hown hK hP hD hS 0 rfl rfl 1 (by decide) (hT _ q_37) (fun _ h9 => h9) rfl (by decide +kernel) rfl rfl (Nat.le_of_ble_eq_true rfl) dX10_init_19 (fun H locs hP hD hS => ?_)
  have hP : va_P D classes [(h0, .inr (10, [.ref n_1, .ref n_2, .null, .null, .null, .null, .int 0, .int 0, .int 0, .int 0, .int 0])), (n_1, .inl (cs 0, 2048, .inl (fun _ => 0))), (n_2, .inl (cs 0, 2048, .inl (fun _ => 0)))] H := hP
  have hD : va_D A [(h0, .inr (10, [.ref n_1, .ref n_2, .null, .null, .null, .null, .int 0, .int 0, .int 0, .int 0, .int 0])), (n_1, .inl (cs 0, 2048, .inl (fun _ => 0))), (n_2, .inl (cs 0, 2048, .inl (fun _ => 0)))] := hD
  refine lv_aload_n hx hb dX10_init_22 rfl (lv_at hl 0 rfl) ?_
  refine lv_sipush (v := 256) hx hb dX10_init_23 (by decide) ?_
  refine hz_newa (atype := .int) (ty := .int) (N' := 256) (a0 := (256, .inl (fun _ => 0))) hx hb (hT _ q_3) rfl hK hP hD hS hA (fun _ => rfl) (by decide) (by decide) (Nat.le_of_ble_eq_true rfl) (Nat.le_of_ble_eq_true rfl) (Nat.le_of_ble_eq_true rfl) dX10_init_26 0 rfl (fun n_3 H hP hD hS => ?_)
  have hP : va_P D classes [(h0, .inr (10, [.ref n_1, .ref n_2, .null, .null, .null, .null, .int 0, .int 0, .int 0, .int 0, .int 0])), (n_1, .inl (cs 0, 2048, .inl (fun _ => 0))), (n_2, .inl (cs 0, 2048, .inl (fun _ => 0))), (n_3, .inl (cs 0, 256, .inl (fun _ => 0)))] H := hP
  have hD : va_D A [(h0, .inr (10, [.ref n_1, .ref n_2, .null, .null, .null, .null, .int 0, .int 0, .int 0, .int 0, .int 0])), (n_1, .inl (cs 0, 2048, .inl (fun _ => 0))), (n_2, .inl (cs 0, 2048, .inl (fun _ => 0))), (n_3, .inl (cs 0, 256, .inl (fun _ => 0)))] := hD
  refine W.widen (k := 3) (n := 4352) (Nat.le_of_ble_eq_true rfl) (Nat.le_of_ble_eq_true rfl) ?_
  refine va_putF (D := D) (ci := 10) (v := .ref n_3) (ty := .array .int) (C := RX10) (T := TX10) (N := 11) hx hb hT i_X10 tyX10 tyX10_ok nmX10 hown hK hP hD hS 0 rfl rfl 2 (by decide) (hT _ q_38) (fun _ h9 => h9) rfl hin rfl (by decide +kernel) rfl rfl (Nat.le_of_ble_eq_true rfl) dX10_init_28 (fun H locs hP hD hS => ?_)
  have hP : va_P D classes [(h0, .inr (10, [.ref n_1, .ref n_2, .ref n_3, .null, .null, .null, .int 0, .int 0, .int 0, .int 0, .int 0])), (n_1, .inl (cs 0, 2048, .inl (fun _ => 0))), (n_2, .inl (cs 0, 2048, .inl (fun _ => 0))), (n_3, .inl (cs 0, 256, .inl (fun _ => 0)))] H := hP
  have hD : va_D A [(h0, .inr (10, [.ref n_1, .ref n_2, .ref n_3, .null, .null, .null, .int 0, .int 0, .int 0, .int 0, .int 0])), (n_1, .inl (cs 0, 2048, .inl (fun _ => 0))), (n_2, .inl (cs 0, 2048, .inl (fun _ => 0))), (n_3, .inl (cs 0, 256, .inl (fun _ => 0)))] := hD
  refine lv_aload_n hx hb dX10_init_31 rfl (lv_at hl 0 rfl) ?_
  refine lv_bipush (v := 12) hx hb dX10_init_32 (by decide) ?_
  refine hz_newa (atype := .int) (ty := .int) (N' := 12) (a0 := (12, .inl (fun _ => 0))) hx hb (hT _ q_3) rfl hK hP hD hS hA (fun _ => rfl) (by decide) (by decide) (Nat.le_of_ble_eq_true rfl) (Nat.le_of_ble_eq_true rfl) (Nat.le_of_ble_eq_true rfl) dX10_init_34 0 rfl (fun n_4 H hP hD hS => ?_)
  have hP : va_P D classes [(h0, .inr (10, [.ref n_1, .ref n_2, .ref n_3, .null, .null, .null, .int 0, .int 0, .int 0, .int 0, .int 0])), (n_1, .inl (cs 0, 2048, .inl (fun _ => 0))), (n_2, .inl (cs 0, 2048, .inl (fun _ => 0))), (n_3, .inl (cs 0, 256, .inl (fun _ => 0))), (n_4, .inl (cs 0, 12, .inl (fun _ => 0)))] H := hP
  have hD : va_D A [(h0, .inr (10, [.ref n_1, .ref n_2, .ref n_3, .null, .null, .null, .int 0, .int 0, .int 0, .int 0, .int 0])), (n_1, .inl (cs 0, 2048, .inl (fun _ => 0))), (n_2, .inl (cs 0, 2048, .inl (fun _ => 0))), (n_3, .inl (cs 0, 256, .inl (fun _ => 0))), (n_4, .inl (cs 0, 12, .inl (fun _ => 0)))] := hD
  refine W.widen (k := 4) (n := 4364) (Nat.le_of_ble_eq_true rfl) (Nat.le_of_ble_eq_true rfl) ?_
  refine va_putF (D := D) (ci := 10) (v := .ref n_4) (ty := .array .int) (C := RX10) (T := TX10) (N := 11) hx hb hT i_X10 tyX10 tyX10_ok nmX10 hown hK hP hD hS 0 rfl rfl 3 (by decide) (hT _ q_39) (fun _ h9 => h9) rfl hin rfl (by decide +kernel) rfl rfl (Nat.le_of_ble_eq_true rfl) dX10_init_36 (fun H locs hP hD hS => ?_)
  have hP : va_P D classes [(h0, .inr (10, [.ref n_1, .ref n_2, .ref n_3, .ref n_4, .null, .null, .int 0, .int 0, .int 0, .int 0, .int 0])), (n_1, .inl (cs 0, 2048, .inl (fun _ => 0))), (n_2, .inl (cs 0, 2048, .inl (fun _ => 0))), (n_3, .inl (cs 0, 256, .inl (fun _ => 0))), (n_4, .inl (cs 0, 12, .inl (fun _ => 0)))] H := hP
  have hD : va_D A [(h0, .inr (10, [.ref n_1, .ref n_2, .ref n_3, .ref n_4, .null, .null, .int 0, .int 0, .int 0, .int 0, .int 0])), (n_1, .inl (cs 0, 2048, .inl (fun _ => 0))), (n_2, .inl (cs 0, 2048, .inl (fun _ => 0))), (n_3, .inl (cs 0, 256, .inl (fun _ => 0))), (n_4, .inl (cs 0, 12, .inl (fun _ => 0)))] := hD
  exact W.vret hx hb hr (fun t ht hW => ⟨⟨(), rfl, trivial, (fun k => match k with | 0 => n_1 | 1 => n_2 | 2 => n_3 | 3 => n_4 | _ => 0), by rw [ht]; exact hP.sub [0] rfl, hD.sub [0] (by decide) rfl⟩, hS.F ht⟩) hS.2.2 dX10_init_39
theorem dX2_init_0 : decode cX2_init 0 = .ok (.aload_n 0, 1) := by decide +kernel
theorem dX2_init_1 : decode cX2_init 1 = .ok (.invokespecial 3, 3) := by decide +kernel
theorem dX2_init_4 : decode cX2_init 4 = .ok (.aload_n 0, 1) := by decide +kernel
theorem dX2_init_5 : decode cX2_init 5 = .ok (.bipush 60, 2) := by decide +kernel
theorem dX2_init_7 : decode cX2_init 7 = .ok (.newarray .long, 2) := by decide +kernel
theorem dX2_init_9 : decode cX2_init 9 = .ok (.putfield 11, 3) := by decide +kernel
theorem dX2_init_12 : decode cX2_init 12 = .ok (.aload_n 0, 1) := by decide +kernel
theorem dX2_init_13 : decode cX2_init 13 = .ok (.bipush 13, 2) := by decide +kernel
theorem dX2_init_15 : decode cX2_init 15 = .ok (.newarray .int, 2) := by decide +kernel
theorem dX2_init_17 : decode cX2_init 17 = .ok (.putfield 17, 3) := by decide +kernel
theorem dX2_init_20 : decode cX2_init 20 = .ok (.return_, 1) := by decide +kernel
set_option maxHeartbeats 4000000 in
set_option maxRecDepth 100000 in
theorem c_X2_init (l : Launch) (D : va_G) (cs : Nat → ClassId) (kK kV : Nat → Nat) (h0 : Nat) (sz : Nat) : Met l yX2_init (hz_w yX2_init cX2_init 1 none) ({ frames := 1, cells := 2, slots := 73, locals := 12 }) (va_Pc [.ref h0] (hz_C D cs kK kV sz [(h0, .inr (2, [.null, .null, .null, .null, .null, .int 0, .int 0, .int 0, .int 0, .int 0]))])) (va_Qv (fun (_ : Unit) => True) (fun _ t => ∃ (g : Nat → Nat), va_P D classes [(h0, .inr (2, [.ref (g 0), .null, .null, .null, .ref (g 1), .int 0, .int 0, .int 0, .int 0, .int 0]))] t.heap ∧ va_D (va_A [(h0, .inr (2, [.null, .null, .null, .null, .null, .int 0, .int 0, .int 0, .int 0, .int 0]))] sz) [(h0, .inr (2, [.ref (g 0), .null, .null, .null, .ref (g 1), .int 0, .int 0, .int 0, .int 0, .int 0]))]) (va_A [(h0, .inr (2, [.null, .null, .null, .null, .null, .int 0, .int 0, .int 0, .int 0, .int 0]))] sz)) 2 73 (va_A [(h0, .inr (2, [.null, .null, .null, .null, .null, .int 0, .int 0, .int 0, .int 0, .int 0]))] sz) := by
  refine Met.ofW (cc := cX2_init) (maxL := 1) (ret := none) (by decide) rfl ?_
  intro p e s m args below meth c s₁ B hml hv
  obtain ⟨rfl, hsz, hP, hD0, hE⟩ := hv
  have hx := B.exec
  have hb := B.bytes
  have hr := B.returns
  have hT : ∀ w ∈ TB, w.before _ s = true := fun w h => atoms_spec (ws := hz_w yX2_init cX2_init 1 none) B.pre w (List.mem_cons_of_mem _ h)
  have hown : s.vm.findClass RX2 = some m.cls := findClass_of_methodNamed B.named
  have hlocks := B.notSynchronized
  have hin : meth.name = "<init>" := (name_of_methodNamed B.named B.method).1
  clear B
  subst hsz
  have hD := hD0.self (sz := s.heap.size)
  generalize hAe : va_A [(h0, .inr (2, [.null, .null, .null, .null, .null, .int 0, .int 0, .int 0, .int 0, .int 0]))] s.heap.size = A at hD hE ⊢
  have hA : ∀ q : Nat, s.heap.size ≤ q → A q := fun q h => by rw [← hAe]; exact Or.inr h
  clear hAe hD0
  have hS : va_S A s.heap s.heap [] := va_S.rf
  have hK := hE.1
  have hl := lv_entry ([.ref h0]) (n := 1) (Nat.le_of_ble_eq_true rfl)
  rw [lg_entry_eq]
  generalize (lg_sl ([.ref h0]) ++ List.replicate (1 - (lg_sl ([.ref h0])).length) Slot.unset).toArray = ls at hl ⊢
  have hl : lv_has ls 1 [(0, .ref h0)] := hl
  obtain ⟨H, eH⟩ : ∃ z, z = s.heap := ⟨_, rfl⟩
  have hP : va_P D classes [(h0, .inr (2, [.null, .null, .null, .null, .null, .int 0, .int 0, .int 0, .int 0, .int 0]))] H := by rw [eH]; exact hP
  have hS : va_S A s.heap H [] := by rw [eH]; exact hS
  rw [← eH]
  clear eH
  refine lv_aload_n hx hb dX2_init_0 rfl (lv_at hl 0 rfl) ?_
  refine W.objInit hx hb hown (hT _ q_40) (hT _ q_1) (hT _ q_2) rfl (by rw [hml]; exact hl.1) rfl dX2_init_1 (Nat.le_of_ble_eq_true rfl) (Nat.le_of_ble_eq_true rfl) ?_
  refine W.eq (g2 := F0 m 4 ls []) rfl ?_
  refine lv_aload_n hx hb dX2_init_4 rfl (lv_at hl 0 rfl) ?_
  refine lv_bipush (v := 60) hx hb dX2_init_5 (by decide) ?_
  refine hz_newa (atype := .long) (ty := .long) (N' := 60) (a0 := (60, .inr (.inl (fun _ => 0)))) hx hb (hT _ q_41) rfl hK hP hD hS hA (fun _ => rfl) (by decide) (by decide) (Nat.le_of_ble_eq_true rfl) (Nat.le_of_ble_eq_true rfl) (Nat.le_of_ble_eq_true rfl) dX2_init_7 3 rfl (fun n_1 H hP hD hS => ?_)
  have hP : va_P D classes [(h0, .inr (2, [.null, .null, .null, .null, .null, .int 0, .int 0, .int 0, .int 0, .int 0])), (n_1, .inl (cs 3, 60, .inr (.inl (fun _ => 0))))] H := hP
  have hD : va_D A [(h0, .inr (2, [.null, .null, .null, .null, .null, .int 0, .int 0, .int 0, .int 0, .int 0])), (n_1, .inl (cs 3, 60, .inr (.inl (fun _ => 0))))] := hD
  refine W.widen (k := 1) (n := 60) (Nat.le_of_ble_eq_true rfl) (Nat.le_of_ble_eq_true rfl) ?_
  refine va_putF (D := D) (ci := 2) (v := .ref n_1) (ty := .array .long) (C := RX2) (T := TX2) (N := 10) hx hb hT i_X2 tyX2 tyX2_ok nmX2 hown hK hP hD hS 0 rfl rfl 0 (by decide) (hT _ q_42) (fun _ h9 => h9) rfl hin rfl (by decide +kernel) rfl rfl (Nat.le_of_ble_eq_true rfl) dX2_init_9 (fun H locs hP hD hS => ?_)
  have hP : va_P D classes [(h0, .inr (2, [.ref n_1, .null, .null, .null, .null, .int 0, .int 0, .int 0, .int 0, .int 0])), (n_1, .inl (cs 3, 60, .inr (.inl (fun _ => 0))))] H := hP
  have hD : va_D A [(h0, .inr (2, [.ref n_1, .null, .null, .null, .null, .int 0, .int 0, .int 0, .int 0, .int 0])), (n_1, .inl (cs 3, 60, .inr (.inl (fun _ => 0))))] := hD
  refine lv_aload_n hx hb dX2_init_12 rfl (lv_at hl 0 rfl) ?_
  refine lv_bipush (v := 13) hx hb dX2_init_13 (by decide) ?_
  refine hz_newa (atype := .int) (ty := .int) (N' := 13) (a0 := (13, .inl (fun _ => 0))) hx hb (hT _ q_3) rfl hK hP hD hS hA (fun _ => rfl) (by decide) (by decide) (Nat.le_of_ble_eq_true rfl) (Nat.le_of_ble_eq_true rfl) (Nat.le_of_ble_eq_true rfl) dX2_init_15 0 rfl (fun n_2 H hP hD hS => ?_)
  have hP : va_P D classes [(h0, .inr (2, [.ref n_1, .null, .null, .null, .null, .int 0, .int 0, .int 0, .int 0, .int 0])), (n_1, .inl (cs 3, 60, .inr (.inl (fun _ => 0)))), (n_2, .inl (cs 0, 13, .inl (fun _ => 0)))] H := hP
  have hD : va_D A [(h0, .inr (2, [.ref n_1, .null, .null, .null, .null, .int 0, .int 0, .int 0, .int 0, .int 0])), (n_1, .inl (cs 3, 60, .inr (.inl (fun _ => 0)))), (n_2, .inl (cs 0, 13, .inl (fun _ => 0)))] := hD
  refine W.widen (k := 2) (n := 73) (Nat.le_of_ble_eq_true rfl) (Nat.le_of_ble_eq_true rfl) ?_
  refine va_putF (D := D) (ci := 2) (v := .ref n_2) (ty := .array .int) (C := RX2) (T := TX2) (N := 10) hx hb hT i_X2 tyX2 tyX2_ok nmX2 hown hK hP hD hS 0 rfl rfl 4 (by decide) (hT _ q_43) (fun _ h9 => h9) rfl hin rfl (by decide +kernel) rfl rfl (Nat.le_of_ble_eq_true rfl) dX2_init_17 (fun H locs hP hD hS => ?_)
  have hP : va_P D classes [(h0, .inr (2, [.ref n_1, .null, .null, .null, .ref n_2, .int 0, .int 0, .int 0, .int 0, .int 0])), (n_1, .inl (cs 3, 60, .inr (.inl (fun _ => 0)))), (n_2, .inl (cs 0, 13, .inl (fun _ => 0)))] H := hP
  have hD : va_D A [(h0, .inr (2, [.ref n_1, .null, .null, .null, .ref n_2, .int 0, .int 0, .int 0, .int 0, .int 0])), (n_1, .inl (cs 3, 60, .inr (.inl (fun _ => 0)))), (n_2, .inl (cs 0, 13, .inl (fun _ => 0)))] := hD
  exact W.vret hx hb hr (fun t ht hW => ⟨⟨(), rfl, trivial, (fun k => match k with | 0 => n_1 | 1 => n_2 | _ => 0), by rw [ht]; exact hP.sub [0] rfl, hD.sub [0] (by decide) rfl⟩, hS.F ht⟩) hS.2.2 dX2_init_20
theorem dX4_init_0 : decode cX4_init 0 = .ok (.aload_n 0, 1) := by decide +kernel
theorem dX4_init_1 : decode cX4_init 1 = .ok (.invokespecial 1, 3) := by decide +kernel
theorem dX4_init_4 : decode cX4_init 4 = .ok (.aload_n 0, 1) := by decide +kernel
theorem dX4_init_5 : decode cX4_init 5 = .ok (.bipush 12, 2) := by decide +kernel
theorem dX4_init_7 : decode cX4_init 7 = .ok (.newarray .int, 2) := by decide +kernel
theorem dX4_init_9 : decode cX4_init 9 = .ok (.putfield 9, 3) := by decide +kernel
theorem dX4_init_12 : decode cX4_init 12 = .ok (.aload_n 0, 1) := by decide +kernel
theorem dX4_init_13 : decode cX4_init 13 = .ok (.bipush 12, 2) := by decide +kernel
theorem dX4_init_15 : decode cX4_init 15 = .ok (.newarray .int, 2) := by decide +kernel
theorem dX4_init_17 : decode cX4_init 17 = .ok (.putfield 13, 3) := by decide +kernel
theorem dX4_init_20 : decode cX4_init 20 = .ok (.aload_n 0, 1) := by decide +kernel
theorem dX4_init_21 : decode cX4_init 21 = .ok (.bipush 12, 2) := by decide +kernel
theorem dX4_init_23 : decode cX4_init 23 = .ok (.newarray .int, 2) := by decide +kernel
theorem dX4_init_25 : decode cX4_init 25 = .ok (.putfield 16, 3) := by decide +kernel
theorem dX4_init_28 : decode cX4_init 28 = .ok (.aload_n 0, 1) := by decide +kernel
theorem dX4_init_29 : decode cX4_init 29 = .ok (.bipush 12, 2) := by decide +kernel
theorem dX4_init_31 : decode cX4_init 31 = .ok (.newarray .int, 2) := by decide +kernel
theorem dX4_init_33 : decode cX4_init 33 = .ok (.putfield 19, 3) := by decide +kernel
theorem dX4_init_36 : decode cX4_init 36 = .ok (.aload_n 0, 1) := by decide +kernel
theorem dX4_init_37 : decode cX4_init 37 = .ok (.iconst 0, 1) := by decide +kernel
theorem dX4_init_38 : decode cX4_init 38 = .ok (.newarray .int, 2) := by decide +kernel
theorem dX4_init_40 : decode cX4_init 40 = .ok (.putfield 22, 3) := by decide +kernel
theorem dX4_init_43 : decode cX4_init 43 = .ok (.return_, 1) := by decide +kernel
set_option maxHeartbeats 4000000 in
set_option maxRecDepth 100000 in
theorem c_X4_init (l : Launch) (D : va_G) (cs : Nat → ClassId) (kK kV : Nat → Nat) (h0 : Nat) (sz : Nat) : Met l yX4_init (hz_w yX4_init cX4_init 1 none) ({ frames := 1, cells := 5, slots := 48, locals := 12 }) (va_Pc [.ref h0] (hz_C D cs kK kV sz [(h0, .inr (4, [.int 0, .null, .null, .null, .null, .null]))])) (va_Qv (fun (_ : Unit) => True) (fun _ t => ∃ (g : Nat → Nat), va_P D classes [(h0, .inr (4, [.int 0, .ref (g 0), .ref (g 1), .ref (g 2), .ref (g 3), .ref (g 4)]))] t.heap ∧ va_D (va_A [(h0, .inr (4, [.int 0, .null, .null, .null, .null, .null]))] sz) [(h0, .inr (4, [.int 0, .ref (g 0), .ref (g 1), .ref (g 2), .ref (g 3), .ref (g 4)]))]) (va_A [(h0, .inr (4, [.int 0, .null, .null, .null, .null, .null]))] sz)) 5 48 (va_A [(h0, .inr (4, [.int 0, .null, .null, .null, .null, .null]))] sz) := by
  refine Met.ofW (cc := cX4_init) (maxL := 1) (ret := none) (by decide) rfl ?_
  intro p e s m args below meth c s₁ B hml hv
  obtain ⟨rfl, hsz, hP, hD0, hE⟩ := hv
  have hx := B.exec
  have hb := B.bytes
  have hr := B.returns
  have hT : ∀ w ∈ TB, w.before _ s = true := fun w h => atoms_spec (ws := hz_w yX4_init cX4_init 1 none) B.pre w (List.mem_cons_of_mem _ h)
  have hown : s.vm.findClass RX4 = some m.cls := findClass_of_methodNamed B.named
  have hlocks := B.notSynchronized
  have hin : meth.name = "<init>" := (name_of_methodNamed B.named B.method).1
  clear B
  subst hsz
  have hD := hD0.self (sz := s.heap.size)
  generalize hAe : va_A [(h0, .inr (4, [.int 0, .null, .null, .null, .null, .null]))] s.heap.size = A at hD hE ⊢
  have hA : ∀ q : Nat, s.heap.size ≤ q → A q := fun q h => by rw [← hAe]; exact Or.inr h
  clear hAe hD0
  have hS : va_S A s.heap s.heap [] := va_S.rf
  have hK := hE.1
  have hl := lv_entry ([.ref h0]) (n := 1) (Nat.le_of_ble_eq_true rfl)
  rw [lg_entry_eq]
  generalize (lg_sl ([.ref h0]) ++ List.replicate (1 - (lg_sl ([.ref h0])).length) Slot.unset).toArray = ls at hl ⊢
  have hl : lv_has ls 1 [(0, .ref h0)] := hl
  obtain ⟨H, eH⟩ : ∃ z, z = s.heap := ⟨_, rfl⟩
  have hP : va_P D classes [(h0, .inr (4, [.int 0, .null, .null, .null, .null, .null]))] H := by rw [eH]; exact hP
  have hS : va_S A s.heap H [] := by rw [eH]; exact hS
  rw [← eH]
  clear eH
  refine lv_aload_n hx hb dX4_init_0 rfl (lv_at hl 0 rfl) ?_
  refine W.objInit hx hb hown (hT _ q_44) (hT _ q_1) (hT _ q_2) rfl (by rw [hml]; exact hl.1) rfl dX4_init_1 (Nat.le_of_ble_eq_true rfl) (Nat.le_of_ble_eq_true rfl) ?_
  refine W.eq (g2 := F0 m 4 ls []) rfl ?_
  refine lv_aload_n hx hb dX4_init_4 rfl (lv_at hl 0 rfl) ?_
  refine lv_bipush (v := 12) hx hb dX4_init_5 (by decide) ?_
  refine hz_newa (atype := .int) (ty := .int) (N' := 12) (a0 := (12, .inl (fun _ => 0))) hx hb (hT _ q_3) rfl hK hP hD hS hA (fun _ => rfl) (by decide) (by decide) (Nat.le_of_ble_eq_true rfl) (Nat.le_of_ble_eq_true rfl) (Nat.le_of_ble_eq_true rfl) dX4_init_7 0 rfl (fun n_1 H hP hD hS => ?_)
  have hP : va_P D classes [(h0, .inr (4, [.int 0, .null, .null, .null, .null, .null])), (n_1, .inl (cs 0, 12, .inl (fun _ => 0)))] H := hP
  have hD : va_D A [(h0, .inr (4, [.int 0, .null, .null, .null, .null, .null])), (n_1, .inl (cs 0, 12, .inl (fun _ => 0)))] := hD
  refine W.widen (k := 1) (n := 12) (Nat.le_of_ble_eq_true rfl) (Nat.le_of_ble_eq_true rfl) ?_
  refine va_putF (D := D) (ci := 4) (v := .ref n_1) (ty := .array .int) (C := RX4) (T := TX4) (N := 6) hx hb hT i_X4 tyX4 tyX4_ok nmX4 hown hK hP hD hS 0 rfl rfl 1 (by decide) (hT _ q_45) (fun _ h9 => h9) rfl hin rfl (by decide +kernel) rfl rfl (Nat.le_of_ble_eq_true rfl) dX4_init_9 (fun H locs hP hD hS => ?_)
  have hP : va_P D classes [(h0, .inr (4, [.int 0, .ref n_1, .null, .null, .null, .null])), (n_1, .inl (cs 0, 12, .inl (fun _ => 0)))] H := hP
  have hD : va_D A [(h0, .inr (4, [.int 0, .ref n_1, .null, .null, .null, .null])), (n_1, .inl (cs 0, 12, .inl (fun _ => 0)))] := hD
  refine lv_aload_n hx hb dX4_init_12 rfl (lv_at hl 0 rfl) ?_
  refine lv_bipush (v := 12) hx hb dX4_init_13 (by decide) ?_
  refine hz_newa (atype := .int) (ty := .int) (N' := 12) (a0 := (12, .inl (fun _ => 0))) hx hb (hT _ q_3) rfl hK hP hD hS hA (fun _ => rfl) (by decide) (by decide) (Nat.le_of_ble_eq_true rfl) (Nat.le_of_ble_eq_true rfl) (Nat.le_of_ble_eq_true rfl) dX4_init_15 0 rfl (fun n_2 H hP hD hS => ?_)
  have hP : va_P D classes [(h0, .inr (4, [.int 0, .ref n_1, .null, .null, .null, .null])), (n_1, .inl (cs 0, 12, .inl (fun _ => 0))), (n_2, .inl (cs 0, 12, .inl (fun _ => 0)))] H := hP
  have hD : va_D A [(h0, .inr (4, [.int 0, .ref n_1, .null, .null, .null, .null])), (n_1, .inl (cs 0, 12, .inl (fun _ => 0))), (n_2, .inl (cs 0, 12, .inl (fun _ => 0)))] := hD
  refine W.widen (k := 2) (n := 24) (Nat.le_of_ble_eq_true rfl) (Nat.le_of_ble_eq_true rfl) ?_
  refine va_putF (D := D) (ci := 4) (v := .ref n_2) (ty := .array .int) (C := RX4) (T := TX4) (N := 6) hx hb hT i_X4 tyX4 tyX4_ok nmX4 hown hK hP hD hS 0 rfl rfl 2 (by decide) (hT _ q_46) (fun _ h9 => h9) rfl hin rfl (by decide +kernel) rfl rfl (Nat.le_of_ble_eq_true rfl) dX4_init_17 (fun H locs hP hD hS => ?_)
  have hP : va_P D classes [(h0, .inr (4, [.int 0, .ref n_1, .ref n_2, .null, .null, .null])), (n_1, .inl (cs 0, 12, .inl (fun _ => 0))), (n_2, .inl (cs 0, 12, .inl (fun _ => 0)))] H := hP
  have hD : va_D A [(h0, .inr (4, [.int 0, .ref n_1, .ref n_2, .null, .null, .null])), (n_1, .inl (cs 0, 12, .inl (fun _ => 0))), (n_2, .inl (cs 0, 12, .inl (fun _ => 0)))] := hD
  refine lv_aload_n hx hb dX4_init_20 rfl (lv_at hl 0 rfl) ?_
  refine lv_bipush (v := 12) hx hb dX4_init_21 (by decide) ?_
  refine hz_newa (atype := .int) (ty := .int) (N' := 12) (a0 := (12, .inl (fun _ => 0))) hx hb (hT _ q_3) rfl hK hP hD hS hA (fun _ => rfl) (by decide) (by decide) (Nat.le_of_ble_eq_true rfl) (Nat.le_of_ble_eq_true rfl) (Nat.le_of_ble_eq_true rfl) dX4_init_23 0 rfl (fun n_3 H hP hD hS => ?_)
  have hP : va_P D classes [(h0, .inr (4, [.int 0, .ref n_1, .ref n_2, .null, .null, .null])), (n_1, .inl (cs 0, 12, .inl (fun _ => 0))), (n_2, .inl (cs 0, 12, .inl (fun _ => 0))), (n_3, .inl (cs 0, 12, .inl (fun _ => 0)))] H := hP
  have hD : va_D A [(h0, .inr (4, [.int 0, .ref n_1, .ref n_2, .null, .null, .null])), (n_1, .inl (cs 0, 12, .inl (fun _ => 0))), (n_2, .inl (cs 0, 12, .inl (fun _ => 0))), (n_3, .inl (cs 0, 12, .inl (fun _ => 0)))] := hD
  refine W.widen (k := 3) (n := 36) (Nat.le_of_ble_eq_true rfl) (Nat.le_of_ble_eq_true rfl) ?_
  refine va_putF (D := D) (ci := 4) (v := .ref n_3) (ty := .array .int) (C := RX4) (T := TX4) (N := 6) hx hb hT i_X4 tyX4 tyX4_ok nmX4 hown hK hP hD hS 0 rfl rfl 3 (by decide) (hT _ q_47) (fun _ h9 => h9) rfl hin rfl (by decide +kernel) rfl rfl (Nat.le_of_ble_eq_true rfl) dX4_init_25 (fun H locs hP hD hS => ?_)
  have hP : va_P D classes [(h0, .inr (4, [.int 0, .ref n_1, .ref n_2, .ref n_3, .null, .null])), (n_1, .inl (cs 0, 12, .inl (fun _ => 0))), (n_2, .inl (cs 0, 12, .inl (fun _ => 0))), (n_3, .inl (cs 0, 12, .inl (fun _ => 0)))] H := hP
  have hD : va_D A [(h0, .inr (4, [.int 0, .ref n_1, .ref n_2, .ref n_3, .null, .null])), (n_1, .inl (cs 0, 12, .inl (fun _ => 0))), (n_2, .inl (cs 0, 12, .inl (fun _ => 0))), (n_3, .inl (cs 0, 12, .inl (fun _ => 0)))] := hD
  refine lv_aload_n hx hb dX4_init_28 rfl (lv_at hl 0 rfl) ?_
  refine lv_bipush (v := 12) hx hb dX4_init_29 (by decide) ?_
  refine hz_newa (atype := .int) (ty := .int) (N' := 12) (a0 := (12, .inl (fun _ => 0))) hx hb (hT _ q_3) rfl hK hP hD hS hA (fun _ => rfl) (by decide) (by decide) (Nat.le_of_ble_eq_true rfl) (Nat.le_of_ble_eq_true rfl) (Nat.le_of_ble_eq_true rfl) dX4_init_31 0 rfl (fun n_4 H hP hD hS => ?_)
  have hP : va_P D classes [(h0, .inr (4, [.int 0, .ref n_1, .ref n_2, .ref n_3, .null, .null])), (n_1, .inl (cs 0, 12, .inl (fun _ => 0))), (n_2, .inl (cs 0, 12, .inl (fun _ => 0))), (n_3, .inl (cs 0, 12, .inl (fun _ => 0))), (n_4, .inl (cs 0, 12, .inl (fun _ => 0)))] H := hP
  have hD : va_D A [(h0, .inr (4, [.int 0, .ref n_1, .ref n_2, .ref n_3, .null, .null])), (n_1, .inl (cs 0, 12, .inl (fun _ => 0))), (n_2, .inl (cs 0, 12, .inl (fun _ => 0))), (n_3, .inl (cs 0, 12, .inl (fun _ => 0))), (n_4, .inl (cs 0, 12, .inl (fun _ => 0)))] := hD
  refine W.widen (k := 4) (n := 48) (Nat.le_of_ble_eq_true rfl) (Nat.le_of_ble_eq_true rfl) ?_
  refine va_putF (D := D) (ci := 4) (v := .ref n_4) (ty := .array .int) (C := RX4) (T := TX4) (N := 6) hx hb hT i_X4 tyX4 tyX4_ok nmX4 hown hK hP hD hS 0 rfl rfl 4 (by decide) (hT _ q_48) (fun _ h9 => h9) rfl hin rfl (by decide +kernel) rfl rfl (Nat.le_of_ble_eq_true rfl) dX4_init_33 (fun H locs hP hD hS => ?_)
  have hP : va_P D classes [(h0, .inr (4, [.int 0, .ref n_1, .ref n_2, .ref n_3, .ref n_4, .null])), (n_1, .inl (cs 0, 12, .inl (fun _ => 0))), (n_2, .inl (cs 0, 12, .inl (fun _ => 0))), (n_3, .inl (cs 0, 12, .inl (fun _ => 0))), (n_4, .inl (cs 0, 12, .inl (fun _ => 0)))] H := hP
  have hD : va_D A [(h0, .inr (4, [.int 0, .ref n_1, .ref n_2, .ref n_3, .ref n_4, .null])), (n_1, .inl (cs 0, 12, .inl (fun _ => 0))), (n_2, .inl (cs 0, 12, .inl (fun _ => 0))), (n_3, .inl (cs 0, 12, .inl (fun _ => 0))), (n_4, .inl (cs 0, 12, .inl (fun _ => 0)))] := hD
  refine lv_aload_n hx hb dX4_init_36 rfl (lv_at hl 0 rfl) ?_
  refine lv_iconst (v := 0) hx hb dX4_init_37 (by decide) ?_
  refine hz_newa (atype := .int) (ty := .int) (N' := 0) (a0 := (0, .inl (fun _ => 0))) hx hb (hT _ q_3) rfl hK hP hD hS hA (fun _ => rfl) (by decide) (by decide) (Nat.le_of_ble_eq_true rfl) (Nat.le_of_ble_eq_true rfl) (Nat.le_of_ble_eq_true rfl) dX4_init_38 0 rfl (fun n_5 H hP hD hS => ?_)
  have hP : va_P D classes [(h0, .inr (4, [.int 0, .ref n_1, .ref n_2, .ref n_3, .ref n_4, .null])), (n_1, .inl (cs 0, 12, .inl (fun _ => 0))), (n_2, .inl (cs 0, 12, .inl (fun _ => 0))), (n_3, .inl (cs 0, 12, .inl (fun _ => 0))), (n_4, .inl (cs 0, 12, .inl (fun _ => 0))), (n_5, .inl (cs 0, 0, .inl (fun _ => 0)))] H := hP
  have hD : va_D A [(h0, .inr (4, [.int 0, .ref n_1, .ref n_2, .ref n_3, .ref n_4, .null])), (n_1, .inl (cs 0, 12, .inl (fun _ => 0))), (n_2, .inl (cs 0, 12, .inl (fun _ => 0))), (n_3, .inl (cs 0, 12, .inl (fun _ => 0))), (n_4, .inl (cs 0, 12, .inl (fun _ => 0))), (n_5, .inl (cs 0, 0, .inl (fun _ => 0)))] := hD
  refine W.widen (k := 5) (n := 48) (Nat.le_of_ble_eq_true rfl) (Nat.le_of_ble_eq_true rfl) ?_
  refine va_put (D := D) (ci := 4) (v := .ref n_5) (ty := .array .int) (C := RX4) (T := TX4) (N := 6) hx hb hT i_X4 tyX4 tyX4_ok nmX4 hown hK hP hD hS 0 rfl rfl 5 (by decide) (hT _ q_49) (fun _ h9 => h9) rfl (by decide +kernel) rfl rfl (Nat.le_of_ble_eq_true rfl) dX4_init_40 (fun H locs hP hD hS => ?_)
  have hP : va_P D classes [(h0, .inr (4, [.int 0, .ref n_1, .ref n_2, .ref n_3, .ref n_4, .ref n_5])), (n_1, .inl (cs 0, 12, .inl (fun _ => 0))), (n_2, .inl (cs 0, 12, .inl (fun _ => 0))), (n_3, .inl (cs 0, 12, .inl (fun _ => 0))), (n_4, .inl (cs 0, 12, .inl (fun _ => 0))), (n_5, .inl (cs 0, 0, .inl (fun _ => 0)))] H := hP
  have hD : va_D A [(h0, .inr (4, [.int 0, .ref n_1, .ref n_2, .ref n_3, .ref n_4, .ref n_5])), (n_1, .inl (cs 0, 12, .inl (fun _ => 0))), (n_2, .inl (cs 0, 12, .inl (fun _ => 0))), (n_3, .inl (cs 0, 12, .inl (fun _ => 0))), (n_4, .inl (cs 0, 12, .inl (fun _ => 0))), (n_5, .inl (cs 0, 0, .inl (fun _ => 0)))] := hD
  exact W.vret hx hb hr (fun t ht hW => ⟨⟨(), rfl, trivial, (fun k => match k with | 0 => n_1 | 1 => n_2 | 2 => n_3 | 3 => n_4 | 4 => n_5 | _ => 0), by rw [ht]; exact hP.sub [0] rfl, hD.sub [0] (by decide) rfl⟩, hS.F ht⟩) hS.2.2 dX4_init_43
theorem dX1_init_0 : decode cX1_init 0 = .ok (.aload_n 0, 1) := by decide +kernel
theorem dX1_init_1 : decode cX1_init 1 = .ok (.invokespecial 1, 3) := by decide +kernel
theorem dX1_init_4 : decode cX1_init 4 = .ok (.aload_n 0, 1) := by decide +kernel
theorem dX1_init_5 : decode cX1_init 5 = .ok (.new 7, 3) := by decide +kernel
theorem dX1_init_8 : decode cX1_init 8 = .ok (.dup, 1) := by decide +kernel
theorem dX1_init_9 : decode cX1_init 9 = .ok (.invokespecial 9, 3) := by decide +kernel
theorem dX1_init_12 : decode cX1_init 12 = .ok (.putfield 10, 3) := by decide +kernel
theorem dX1_init_15 : decode cX1_init 15 = .ok (.aload_n 0, 1) := by decide +kernel
theorem dX1_init_16 : decode cX1_init 16 = .ok (.new 16, 3) := by decide +kernel
theorem dX1_init_19 : decode cX1_init 19 = .ok (.dup, 1) := by decide +kernel
theorem dX1_init_20 : decode cX1_init 20 = .ok (.invokespecial 18, 3) := by decide +kernel
theorem dX1_init_23 : decode cX1_init 23 = .ok (.putfield 19, 3) := by decide +kernel
theorem dX1_init_26 : decode cX1_init 26 = .ok (.return_, 1) := by decide +kernel
set_option maxHeartbeats 4000000 in
set_option maxRecDepth 100000 in
theorem c_X1_init (l : Launch) (D : va_G) (cs : Nat → ClassId) (kK kV : Nat → Nat) (h0 : Nat) (sz : Nat) : Met l yX1_init (hz_w yX1_init cX1_init 1 none) ({ frames := 2, cells := 11, slots := 85, locals := 32 }) (va_Pc [.ref h0] (hz_C D cs kK kV sz [(h0, .inr (1, [.null, .null, .null, .int 0]))])) (va_Qv (fun (_ : Unit) => True) (fun _ t => ∃ (g : Nat → Nat), va_P D classes [(h0, .inr (1, [.null, .ref (g 0), .ref (g 6), .int 0])), (g 0, .inr (6, [.int 0, .ref (g 1), .ref (g 2), .ref (g 3), .ref (g 4), .ref (g 5)])), (g 1, .inl (cs 0, 4, .inl (fun _ => 0))), (g 2, .inl (cs 0, 4, .inl (fun _ => 0))), (g 3, .inl (cs 0, 4, .inl (fun _ => 0))), (g 4, .inl (cs 0, 4, .inl (fun _ => 0))), (g 5, .inl (cs 0, 8, .inl (fun _ => 0))), (g 6, .inr (9, [.int 0, .int 0, .int 0, .ref (g 7), .ref (g 8), .ref (g 9), .ref (g 10)])), (g 8, .inl (cs 0, 12, .inl (fun _ => 0))), (g 9, .inl (cs 0, 12, .inl (fun _ => 0))), (g 10, .inl (cs 2, 12, .inl (fun _ => 0)))] t.heap ∧ va_D (va_A [(h0, .inr (1, [.null, .null, .null, .int 0]))] sz) [(h0, .inr (1, [.null, .ref (g 0), .ref (g 6), .int 0])), (g 0, .inr (6, [.int 0, .ref (g 1), .ref (g 2), .ref (g 3), .ref (g 4), .ref (g 5)])), (g 1, .inl (cs 0, 4, .inl (fun _ => 0))), (g 2, .inl (cs 0, 4, .inl (fun _ => 0))), (g 3, .inl (cs 0, 4, .inl (fun _ => 0))), (g 4, .inl (cs 0, 4, .inl (fun _ => 0))), (g 5, .inl (cs 0, 8, .inl (fun _ => 0))), (g 6, .inr (9, [.int 0, .int 0, .int 0, .ref (g 7), .ref (g 8), .ref (g 9), .ref (g 10)])), (g 8, .inl (cs 0, 12, .inl (fun _ => 0))), (g 9, .inl (cs 0, 12, .inl (fun _ => 0))), (g 10, .inl (cs 2, 12, .inl (fun _ => 0)))]) (va_A [(h0, .inr (1, [.null, .null, .null, .int 0]))] sz)) 11 85 (va_A [(h0, .inr (1, [.null, .null, .null, .int 0]))] sz) := by
  refine Met.ofW (cc := cX1_init) (maxL := 1) (ret := none) (by decide) rfl ?_
  intro p e s m args below meth c s₁ B hml hv
  obtain ⟨rfl, hsz, hP, hD0, hE⟩ := hv
  have hx := B.exec
  have hb := B.bytes
  have hr := B.returns
  have hT : ∀ w ∈ TB, w.before _ s = true := fun w h => atoms_spec (ws := hz_w yX1_init cX1_init 1 none) B.pre w (List.mem_cons_of_mem _ h)
  have hown : s.vm.findClass RX1 = some m.cls := findClass_of_methodNamed B.named
  have hlocks := B.notSynchronized
  have hin : meth.name = "<init>" := (name_of_methodNamed B.named B.method).1
  clear B
  subst hsz
  have hD := hD0.self (sz := s.heap.size)
  generalize hAe : va_A [(h0, .inr (1, [.null, .null, .null, .int 0]))] s.heap.size = A at hD hE ⊢
  have hA : ∀ q : Nat, s.heap.size ≤ q → A q := fun q h => by rw [← hAe]; exact Or.inr h
  clear hAe hD0
  have hS : va_S A s.heap s.heap [] := va_S.rf
  have hK := hE.1
  have hl := lv_entry ([.ref h0]) (n := 1) (Nat.le_of_ble_eq_true rfl)
  rw [lg_entry_eq]
  generalize (lg_sl ([.ref h0]) ++ List.replicate (1 - (lg_sl ([.ref h0])).length) Slot.unset).toArray = ls at hl ⊢
  have hl : lv_has ls 1 [(0, .ref h0)] := hl
  obtain ⟨H, eH⟩ : ∃ z, z = s.heap := ⟨_, rfl⟩
  have hP : va_P D classes [(h0, .inr (1, [.null, .null, .null, .int 0]))] H := by rw [eH]; exact hP
  have hS : va_S A s.heap H [] := by rw [eH]; exact hS
  rw [← eH]
  clear eH
  refine lv_aload_n hx hb dX1_init_0 rfl (lv_at hl 0 rfl) ?_
  refine W.objInit hx hb hown (hT _ q_50) (hT _ q_1) (hT _ q_2) rfl (by rw [hml]; exact hl.1) rfl dX1_init_1 (Nat.le_of_ble_eq_true rfl) (Nat.le_of_ble_eq_true rfl) ?_
  refine W.eq (g2 := F0 m 4 ls []) rfl ?_
  refine lv_aload_n hx hb dX1_init_4 rfl (lv_at hl 0 rfl) ?_
  refine va_new (D := D) (ci := 6) (fs := [.int 0, .null, .null, .null, .null, .null]) (C := RX6) (T := TX6) (N := 6) hx hb hT i_X6 tyX6 tyX6_ok hown (hT _ q_51) (hT _ q_52) (hT _ q_53) hK hP hD hS hA rfl df_X6 (Nat.le_of_ble_eq_true rfl) (Nat.le_of_ble_eq_true rfl) dX1_init_5 (fun n_1 H hP hD hS => ?_)
  have hP : va_P D classes [(h0, .inr (1, [.null, .null, .null, .int 0])), (n_1, .inr (6, [.int 0, .null, .null, .null, .null, .null]))] H := hP
  have hD : va_D A [(h0, .inr (1, [.null, .null, .null, .int 0])), (n_1, .inr (6, [.int 0, .null, .null, .null, .null, .null]))] := hD
  refine W.widen (k := 1) (n := 6) (Nat.le_of_ble_eq_true rfl) (Nat.le_of_ble_eq_true rfl) ?_
  refine lv_dup hx hb dX1_init_8 rfl ?_
  have hFc := va_free (wc := [(n_1, .inr (6, [.int 0, .null, .null, .null, .null, .null]))]) hD hS hA [1] rfl
  refine va_callv (va_runIN (As := []) (rest := [.ref n_1, .ref h0]) ⟨hx, hb, hml, hown, hT⟩ (c_X6_init l D cs kK kV n_1 H.size) ⟨va_cnB 0 hT (hz_gw q_54) rfl rfl rfl (hE.2.1 12 (by decide)) (hT _ q_53) (by decide +kernel) ⟨(Nat.le_of_ble_eq_true rfl), (Nat.le_of_ble_eq_true rfl)⟩, rfl, hT _ q_55⟩ ⟨hz_C.blind, hz_C.mk (hP.sub (ws' := [(n_1, .inr (6, [.int 0, .null, .null, .null, .null, .null]))]) [1] rfl) (hD.sub (ws' := [(n_1, .inr (6, [.int 0, .null, .null, .null, .null, .null]))]) [1] (by decide) rfl) hE hS hFc⟩ rfl rfl hl.1 rfl (lv_room (Nat.le_of_ble_eq_true rfl)) dX1_init_9 ⟨(Nat.le_of_ble_eq_true rfl), (Nat.le_of_ble_eq_true rfl)⟩) hS (fun q _ h => hFc q h) hFc (fun u t H1 locs ht hvm hw hB hz1 hk1 hS => ?_)
  obtain ⟨g_3, hP1, hD1⟩ := hB
  rw [ht] at hP1
  obtain ⟨hP, hD⟩ := va_join (wr := [(h0, .inr (1, [.null, .null, .null, .int 0]))]) (w1 := [(n_1, .inr (6, [.int 0, .ref (g_3 0), .ref (g_3 1), .ref (g_3 2), .ref (g_3 3), .ref (g_3 4)])), (g_3 0, .inl (cs 0, 4, .inl (fun _ => 0))), (g_3 1, .inl (cs 0, 4, .inl (fun _ => 0))), (g_3 2, .inl (cs 0, 4, .inl (fun _ => 0))), (g_3 3, .inl (cs 0, 4, .inl (fun _ => 0))), (g_3 4, .inl (cs 0, 8, .inl (fun _ => 0)))]) hP hD [1] [0] rfl rfl (by decide) (by decide) hk1 hFc hP1 hD1
  generalize H1 = H at hP hS ⊢
  have hP : va_P D classes [(h0, .inr (1, [.null, .null, .null, .int 0])), (n_1, .inr (6, [.int 0, .ref (g_3 0), .ref (g_3 1), .ref (g_3 2), .ref (g_3 3), .ref (g_3 4)])), (g_3 0, .inl (cs 0, 4, .inl (fun _ => 0))), (g_3 1, .inl (cs 0, 4, .inl (fun _ => 0))), (g_3 2, .inl (cs 0, 4, .inl (fun _ => 0))), (g_3 3, .inl (cs 0, 4, .inl (fun _ => 0))), (g_3 4, .inl (cs 0, 8, .inl (fun _ => 0)))] H := hP
  have hD : va_D A [(h0, .inr (1, [.null, .null, .null, .int 0])), (n_1, .inr (6, [.int 0, .ref (g_3 0), .ref (g_3 1), .ref (g_3 2), .ref (g_3 3), .ref (g_3 4)])), (g_3 0, .inl (cs 0, 4, .inl (fun _ => 0))), (g_3 1, .inl (cs 0, 4, .inl (fun _ => 0))), (g_3 2, .inl (cs 0, 4, .inl (fun _ => 0))), (g_3 3, .inl (cs 0, 4, .inl (fun _ => 0))), (g_3 4, .inl (cs 0, 8, .inl (fun _ => 0)))] := hD
  clear hk1 hFc hP1 hD1 hz1
  refine W.widen (k := 6) (n := 30) (Nat.le_of_ble_eq_true rfl) (Nat.le_of_ble_eq_true rfl) ?_
  refine va_putF (D := D) (ci := 1) (v := .ref n_1) (ty := .object "HalfFair$Scene") (C := RX1) (T := TX1) (N := 4) hx hb hT i_X1 tyX1 tyX1_ok nmX1 hown hK hP hD hS 0 rfl rfl 1 (by decide) (hT _ q_56) (fun _ h9 => h9) rfl hin rfl (by decide +kernel) rfl rfl (Nat.le_of_ble_eq_true rfl) dX1_init_12 (fun H locs hP hD hS => ?_)
  have hP : va_P D classes [(h0, .inr (1, [.null, .ref n_1, .null, .int 0])), (n_1, .inr (6, [.int 0, .ref (g_3 0), .ref (g_3 1), .ref (g_3 2), .ref (g_3 3), .ref (g_3 4)])), (g_3 0, .inl (cs 0, 4, .inl (fun _ => 0))), (g_3 1, .inl (cs 0, 4, .inl (fun _ => 0))), (g_3 2, .inl (cs 0, 4, .inl (fun _ => 0))), (g_3 3, .inl (cs 0, 4, .inl (fun _ => 0))), (g_3 4, .inl (cs 0, 8, .inl (fun _ => 0)))] H := hP
  have hD : va_D A [(h0, .inr (1, [.null, .ref n_1, .null, .int 0])), (n_1, .inr (6, [.int 0, .ref (g_3 0), .ref (g_3 1), .ref (g_3 2), .ref (g_3 3), .ref (g_3 4)])), (g_3 0, .inl (cs 0, 4, .inl (fun _ => 0))), (g_3 1, .inl (cs 0, 4, .inl (fun _ => 0))), (g_3 2, .inl (cs 0, 4, .inl (fun _ => 0))), (g_3 3, .inl (cs 0, 4, .inl (fun _ => 0))), (g_3 4, .inl (cs 0, 8, .inl (fun _ => 0)))] := hD
  refine lv_aload_n hx hb dX1_init_15 rfl (lv_at hl 0 rfl) ?_
  refine va_new (D := D) (ci := 9) (fs := [.int 0, .int 0, .int 0, .null, .null, .null, .null]) (C := RX9) (T := TX9) (N := 7) hx hb hT i_X9 tyX9 tyX9_ok hown (hT _ q_57) (hT _ q_58) (hT _ q_59) hK hP hD hS hA rfl df_X9 (Nat.le_of_ble_eq_true rfl) (Nat.le_of_ble_eq_true rfl) dX1_init_16 (fun n_4 H hP hD hS => ?_)
  have hP : va_P D classes [(h0, .inr (1, [.null, .ref n_1, .null, .int 0])), (n_1, .inr (6, [.int 0, .ref (g_3 0), .ref (g_3 1), .ref (g_3 2), .ref (g_3 3), .ref (g_3 4)])), (g_3 0, .inl (cs 0, 4, .inl (fun _ => 0))), (g_3 1, .inl (cs 0, 4, .inl (fun _ => 0))), (g_3 2, .inl (cs 0, 4, .inl (fun _ => 0))), (g_3 3, .inl (cs 0, 4, .inl (fun _ => 0))), (g_3 4, .inl (cs 0, 8, .inl (fun _ => 0))), (n_4, .inr (9, [.int 0, .int 0, .int 0, .null, .null, .null, .null]))] H := hP
  have hD : va_D A [(h0, .inr (1, [.null, .ref n_1, .null, .int 0])), (n_1, .inr (6, [.int 0, .ref (g_3 0), .ref (g_3 1), .ref (g_3 2), .ref (g_3 3), .ref (g_3 4)])), (g_3 0, .inl (cs 0, 4, .inl (fun _ => 0))), (g_3 1, .inl (cs 0, 4, .inl (fun _ => 0))), (g_3 2, .inl (cs 0, 4, .inl (fun _ => 0))), (g_3 3, .inl (cs 0, 4, .inl (fun _ => 0))), (g_3 4, .inl (cs 0, 8, .inl (fun _ => 0))), (n_4, .inr (9, [.int 0, .int 0, .int 0, .null, .null, .null, .null]))] := hD
  refine W.widen (k := 7) (n := 37) (Nat.le_of_ble_eq_true rfl) (Nat.le_of_ble_eq_true rfl) ?_
  refine lv_dup hx hb dX1_init_19 rfl ?_
  have hFc := va_free (wc := [(n_4, .inr (9, [.int 0, .int 0, .int 0, .null, .null, .null, .null]))]) hD hS hA [7] rfl
  refine va_callv (va_runIN (As := []) (rest := [.ref n_4, .ref h0]) ⟨hx, hb, hml, hown, hT⟩ (c_X9_init l D cs kK kV n_4 H.size) ⟨va_cnB 0 hT (hz_gw q_60) rfl rfl rfl (hE.2.1 13 (by decide)) (hT _ q_59) (by decide +kernel) ⟨(Nat.le_of_ble_eq_true rfl), (Nat.le_of_ble_eq_true rfl)⟩, rfl, hT _ q_61⟩ ⟨hz_C.blind, hz_C.mk (hP.sub (ws' := [(n_4, .inr (9, [.int 0, .int 0, .int 0, .null, .null, .null, .null]))]) [7] rfl) (hD.sub (ws' := [(n_4, .inr (9, [.int 0, .int 0, .int 0, .null, .null, .null, .null]))]) [7] (by decide) rfl) hE hS hFc⟩ rfl rfl hl.1 rfl (lv_room (Nat.le_of_ble_eq_true rfl)) dX1_init_20 ⟨(Nat.le_of_ble_eq_true rfl), (Nat.le_of_ble_eq_true rfl)⟩) hS (fun q _ h => hFc q h) hFc (fun u t H1 locs ht hvm hw hB hz1 hk1 hS => ?_)
  obtain ⟨g_6, hP1, hD1⟩ := hB
  rw [ht] at hP1
  obtain ⟨hP, hD⟩ := va_join (wr := [(h0, .inr (1, [.null, .ref n_1, .null, .int 0])), (n_1, .inr (6, [.int 0, .ref (g_3 0), .ref (g_3 1), .ref (g_3 2), .ref (g_3 3), .ref (g_3 4)])), (g_3 0, .inl (cs 0, 4, .inl (fun _ => 0))), (g_3 1, .inl (cs 0, 4, .inl (fun _ => 0))), (g_3 2, .inl (cs 0, 4, .inl (fun _ => 0))), (g_3 3, .inl (cs 0, 4, .inl (fun _ => 0))), (g_3 4, .inl (cs 0, 8, .inl (fun _ => 0)))]) (w1 := [(n_4, .inr (9, [.int 0, .int 0, .int 0, .ref (g_6 0), .ref (g_6 1), .ref (g_6 2), .ref (g_6 3)])), (g_6 1, .inl (cs 0, 12, .inl (fun _ => 0))), (g_6 2, .inl (cs 0, 12, .inl (fun _ => 0))), (g_6 3, .inl (cs 2, 12, .inl (fun _ => 0)))]) hP hD [7] [0, 1, 2, 3, 4, 5, 6] rfl rfl (by decide) (by decide) hk1 hFc hP1 hD1
  generalize H1 = H at hP hS ⊢
  have hP : va_P D classes [(h0, .inr (1, [.null, .ref n_1, .null, .int 0])), (n_1, .inr (6, [.int 0, .ref (g_3 0), .ref (g_3 1), .ref (g_3 2), .ref (g_3 3), .ref (g_3 4)])), (g_3 0, .inl (cs 0, 4, .inl (fun _ => 0))), (g_3 1, .inl (cs 0, 4, .inl (fun _ => 0))), (g_3 2, .inl (cs 0, 4, .inl (fun _ => 0))), (g_3 3, .inl (cs 0, 4, .inl (fun _ => 0))), (g_3 4, .inl (cs 0, 8, .inl (fun _ => 0))), (n_4, .inr (9, [.int 0, .int 0, .int 0, .ref (g_6 0), .ref (g_6 1), .ref (g_6 2), .ref (g_6 3)])), (g_6 1, .inl (cs 0, 12, .inl (fun _ => 0))), (g_6 2, .inl (cs 0, 12, .inl (fun _ => 0))), (g_6 3, .inl (cs 2, 12, .inl (fun _ => 0)))] H := hP
  have hD : va_D A [(h0, .inr (1, [.null, .ref n_1, .null, .int 0])), (n_1, .inr (6, [.int 0, .ref (g_3 0), .ref (g_3 1), .ref (g_3 2), .ref (g_3 3), .ref (g_3 4)])), (g_3 0, .inl (cs 0, 4, .inl (fun _ => 0))), (g_3 1, .inl (cs 0, 4, .inl (fun _ => 0))), (g_3 2, .inl (cs 0, 4, .inl (fun _ => 0))), (g_3 3, .inl (cs 0, 4, .inl (fun _ => 0))), (g_3 4, .inl (cs 0, 8, .inl (fun _ => 0))), (n_4, .inr (9, [.int 0, .int 0, .int 0, .ref (g_6 0), .ref (g_6 1), .ref (g_6 2), .ref (g_6 3)])), (g_6 1, .inl (cs 0, 12, .inl (fun _ => 0))), (g_6 2, .inl (cs 0, 12, .inl (fun _ => 0))), (g_6 3, .inl (cs 2, 12, .inl (fun _ => 0)))] := hD
  clear hk1 hFc hP1 hD1 hz1
  refine W.widen (k := 11) (n := 85) (Nat.le_of_ble_eq_true rfl) (Nat.le_of_ble_eq_true rfl) ?_
  refine va_putF (D := D) (ci := 1) (v := .ref n_4) (ty := .object "HalfFair$Trials") (C := RX1) (T := TX1) (N := 4) hx hb hT i_X1 tyX1 tyX1_ok nmX1 hown hK hP hD hS 0 rfl rfl 2 (by decide) (hT _ q_62) (fun _ h9 => h9) rfl hin rfl (by decide +kernel) rfl rfl (Nat.le_of_ble_eq_true rfl) dX1_init_23 (fun H locs hP hD hS => ?_)
  have hP : va_P D classes [(h0, .inr (1, [.null, .ref n_1, .ref n_4, .int 0])), (n_1, .inr (6, [.int 0, .ref (g_3 0), .ref (g_3 1), .ref (g_3 2), .ref (g_3 3), .ref (g_3 4)])), (g_3 0, .inl (cs 0, 4, .inl (fun _ => 0))), (g_3 1, .inl (cs 0, 4, .inl (fun _ => 0))), (g_3 2, .inl (cs 0, 4, .inl (fun _ => 0))), (g_3 3, .inl (cs 0, 4, .inl (fun _ => 0))), (g_3 4, .inl (cs 0, 8, .inl (fun _ => 0))), (n_4, .inr (9, [.int 0, .int 0, .int 0, .ref (g_6 0), .ref (g_6 1), .ref (g_6 2), .ref (g_6 3)])), (g_6 1, .inl (cs 0, 12, .inl (fun _ => 0))), (g_6 2, .inl (cs 0, 12, .inl (fun _ => 0))), (g_6 3, .inl (cs 2, 12, .inl (fun _ => 0)))] H := hP
  have hD : va_D A [(h0, .inr (1, [.null, .ref n_1, .ref n_4, .int 0])), (n_1, .inr (6, [.int 0, .ref (g_3 0), .ref (g_3 1), .ref (g_3 2), .ref (g_3 3), .ref (g_3 4)])), (g_3 0, .inl (cs 0, 4, .inl (fun _ => 0))), (g_3 1, .inl (cs 0, 4, .inl (fun _ => 0))), (g_3 2, .inl (cs 0, 4, .inl (fun _ => 0))), (g_3 3, .inl (cs 0, 4, .inl (fun _ => 0))), (g_3 4, .inl (cs 0, 8, .inl (fun _ => 0))), (n_4, .inr (9, [.int 0, .int 0, .int 0, .ref (g_6 0), .ref (g_6 1), .ref (g_6 2), .ref (g_6 3)])), (g_6 1, .inl (cs 0, 12, .inl (fun _ => 0))), (g_6 2, .inl (cs 0, 12, .inl (fun _ => 0))), (g_6 3, .inl (cs 2, 12, .inl (fun _ => 0)))] := hD
  exact W.vret hx hb hr (fun t ht hW => ⟨⟨(), rfl, trivial, (fun k => match k with | 0 => n_1 | 1 => g_3 0 | 2 => g_3 1 | 3 => g_3 2 | 4 => g_3 3 | 5 => g_3 4 | 6 => n_4 | 7 => g_6 0 | 8 => g_6 1 | 9 => g_6 2 | 10 => g_6 3 | _ => 0), by rw [ht]; exact hP.sub [0, 1, 2, 3, 4, 5, 6, 7, 8, 9, 10] rfl, hD.sub [0, 1, 2, 3, 4, 5, 6, 7, 8, 9, 10] (by decide) rfl⟩, hS.F ht⟩) hS.2.2 dX1_init_26
end
