/-- a private method of a class that the tables say can be made, by its rows of tables_1 -/
def lw_okq (q : MethodName × Nat) : Prop := (q.1.cls ≠ "java/lang/invoke/MethodHandle" ∧ q.1.cls ≠ "java/lang/invoke/VarHandle") ∧ Cond.instantiable q.1.cls q.2 ∈ tables_1 ∧ Cond.privateMethod q.1 ∈ tables_1 ∧ Cond.instanceMethod q.1 ∈ tables_1
theorem lw_p0 : lw_okq (⟨"ReliefGales", "tell", "(I)I"⟩, 7) := ⟨⟨by decide +kernel, by decide +kernel⟩, List.mem_of_getElem? (i := 17) (by decide +kernel), List.mem_of_getElem? (i := 171) (by decide +kernel), List.mem_of_getElem? (i := 172) (by decide +kernel)⟩
theorem lw_p1 : lw_okq (⟨"ReliefGales$Light", "isBesideBrother", "(I)Z"⟩, 15) := ⟨⟨by decide +kernel, by decide +kernel⟩, List.mem_of_getElem? (i := 25) (by decide +kernel), List.mem_of_getElem? (i := 241) (by decide +kernel), List.mem_of_getElem? (i := 242) (by decide +kernel)⟩
theorem lw_p2 : lw_okq (⟨"ReliefGales$Light", "burnOil", "(I)V"⟩, 15) := ⟨⟨by decide +kernel, by decide +kernel⟩, List.mem_of_getElem? (i := 25) (by decide +kernel), List.mem_of_getElem? (i := 307) (by decide +kernel), List.mem_of_getElem? (i := 308) (by decide +kernel)⟩
theorem lw_p3 : lw_okq (⟨"ReliefGales$Light", "blowGale", "(I)V"⟩, 15) := ⟨⟨by decide +kernel, by decide +kernel⟩, List.mem_of_getElem? (i := 25) (by decide +kernel), List.mem_of_getElem? (i := 315) (by decide +kernel), List.mem_of_getElem? (i := 316) (by decide +kernel)⟩
theorem lw_p4 : lw_okq (⟨"ReliefGales$Light", "longestStanding", "(I)I"⟩, 15) := ⟨⟨by decide +kernel, by decide +kernel⟩, List.mem_of_getElem? (i := 25) (by decide +kernel), List.mem_of_getElem? (i := 319) (by decide +kernel), List.mem_of_getElem? (i := 320) (by decide +kernel)⟩
theorem lw_p5 : lw_okq (⟨"ReliefGales$Light", "relieve", "(II)V"⟩, 15) := ⟨⟨by decide +kernel, by decide +kernel⟩, List.mem_of_getElem? (i := 25) (by decide +kernel), List.mem_of_getElem? (i := 323) (by decide +kernel), List.mem_of_getElem? (i := 324) (by decide +kernel)⟩
theorem lw_p6 : lw_okq (⟨"ReliefGales$Light", "meetInMidAir", "(III)V"⟩, 15) := ⟨⟨by decide +kernel, by decide +kernel⟩, List.mem_of_getElem? (i := 25) (by decide +kernel), List.mem_of_getElem? (i := 332) (by decide +kernel), List.mem_of_getElem? (i := 333) (by decide +kernel)⟩
theorem lw_p7 : lw_okq (⟨"ReliefGales", "startTrial", "()V"⟩, 7) := ⟨⟨by decide +kernel, by decide +kernel⟩, List.mem_of_getElem? (i := 17) (by decide +kernel), List.mem_of_getElem? (i := 353) (by decide +kernel), List.mem_of_getElem? (i := 354) (by decide +kernel)⟩
theorem lw_p8 : lw_okq (⟨"ReliefGales", "staysLit", "(II)Z"⟩, 7) := ⟨⟨by decide +kernel, by decide +kernel⟩, List.mem_of_getElem? (i := 17) (by decide +kernel), List.mem_of_getElem? (i := 424) (by decide +kernel), List.mem_of_getElem? (i := 425) (by decide +kernel)⟩
theorem lw_p9 : lw_okq (⟨"ReliefGales", "sheetAt", "(I)LReliefGales$Sheet;"⟩, 7) := ⟨⟨by decide +kernel, by decide +kernel⟩, List.mem_of_getElem? (i := 17) (by decide +kernel), List.mem_of_getElem? (i := 590) (by decide +kernel), List.mem_of_getElem? (i := 591) (by decide +kernel)⟩
theorem lw_p10 : lw_okq (⟨"ReliefGales", "countKindsThatRead", "(LReliefGales$Sheet;I)I"⟩, 7) := ⟨⟨by decide +kernel, by decide +kernel⟩, List.mem_of_getElem? (i := 17) (by decide +kernel), List.mem_of_getElem? (i := 641) (by decide +kernel), List.mem_of_getElem? (i := 642) (by decide +kernel)⟩
theorem lw_p11 : lw_okq (⟨"ReliefGales", "trialReads", "(LReliefGales$Sheet;I)Z"⟩, 7) := ⟨⟨by decide +kernel, by decide +kernel⟩, List.mem_of_getElem? (i := 17) (by decide +kernel), List.mem_of_getElem? (i := 646) (by decide +kernel), List.mem_of_getElem? (i := 647) (by decide +kernel)⟩
theorem lw_p12 : lw_okq (⟨"ReliefGalesModel", "becomes", "(II)I"⟩, 21) := ⟨⟨by decide +kernel, by decide +kernel⟩, List.mem_of_getElem? (i := 675) (by decide +kernel), List.mem_of_getElem? (i := 752) (by decide +kernel), List.mem_of_getElem? (i := 753) (by decide +kernel)⟩
theorem lw_p13 : lw_okq (⟨"ReliefGalesModel", "finds", "(I)I"⟩, 21) := ⟨⟨by decide +kernel, by decide +kernel⟩, List.mem_of_getElem? (i := 675) (by decide +kernel), List.mem_of_getElem? (i := 757) (by decide +kernel), List.mem_of_getElem? (i := 758) (by decide +kernel)⟩
theorem lw_p14 : lw_okq (⟨"ReliefGalesModel", "seconds", "(I)I"⟩, 21) := ⟨⟨by decide +kernel, by decide +kernel⟩, List.mem_of_getElem? (i := 675) (by decide +kernel), List.mem_of_getElem? (i := 765) (by decide +kernel), List.mem_of_getElem? (i := 766) (by decide +kernel)⟩
theorem lw_p15 : lw_okq (⟨"ReliefGalesModel", "adds", "(III)V"⟩, 21) := ⟨⟨by decide +kernel, by decide +kernel⟩, List.mem_of_getElem? (i := 675) (by decide +kernel), List.mem_of_getElem? (i := 781) (by decide +kernel), List.mem_of_getElem? (i := 782) (by decide +kernel)⟩
def lw_privs_1 : List (MethodName × Nat) := [(⟨"ReliefGales", "tell", "(I)I"⟩, 7), (⟨"ReliefGales$Light", "isBesideBrother", "(I)Z"⟩, 15), (⟨"ReliefGales$Light", "burnOil", "(I)V"⟩, 15), (⟨"ReliefGales$Light", "blowGale", "(I)V"⟩, 15), (⟨"ReliefGales$Light", "longestStanding", "(I)I"⟩, 15), (⟨"ReliefGales$Light", "relieve", "(II)V"⟩, 15), (⟨"ReliefGales$Light", "meetInMidAir", "(III)V"⟩, 15), (⟨"ReliefGales", "startTrial", "()V"⟩, 7), (⟨"ReliefGales", "staysLit", "(II)Z"⟩, 7), (⟨"ReliefGales", "sheetAt", "(I)LReliefGales$Sheet;"⟩, 7), (⟨"ReliefGales", "countKindsThatRead", "(LReliefGales$Sheet;I)I"⟩, 7), (⟨"ReliefGales", "trialReads", "(LReliefGales$Sheet;I)Z"⟩, 7), (⟨"ReliefGalesModel", "becomes", "(II)I"⟩, 21), (⟨"ReliefGalesModel", "finds", "(I)I"⟩, 21), (⟨"ReliefGalesModel", "seconds", "(I)I"⟩, 21), (⟨"ReliefGalesModel", "adds", "(III)V"⟩, 21)]
theorem lw_r1 : ∀ q ∈ lw_privs_1, lw_okq q := List.forall_mem_cons.mpr ⟨lw_p0, List.forall_mem_cons.mpr ⟨lw_p1, List.forall_mem_cons.mpr ⟨lw_p2, List.forall_mem_cons.mpr ⟨lw_p3, List.forall_mem_cons.mpr ⟨lw_p4, List.forall_mem_cons.mpr ⟨lw_p5, List.forall_mem_cons.mpr ⟨lw_p6, List.forall_mem_cons.mpr ⟨lw_p7, List.forall_mem_cons.mpr ⟨lw_p8, List.forall_mem_cons.mpr ⟨lw_p9, List.forall_mem_cons.mpr ⟨lw_p10, List.forall_mem_cons.mpr ⟨lw_p11, List.forall_mem_cons.mpr ⟨lw_p12, List.forall_mem_cons.mpr ⟨lw_p13, List.forall_mem_cons.mpr ⟨lw_p14, List.forall_mem_cons.mpr ⟨lw_p15, fun _ h => absurd h List.not_mem_nil⟩⟩⟩⟩⟩⟩⟩⟩⟩⟩⟩⟩⟩⟩⟩⟩
theorem lw_p16 : lw_okq (⟨"ReliefGalesModel", "puts", "(III)V"⟩, 21) := ⟨⟨by decide +kernel, by decide +kernel⟩, List.mem_of_getElem? (i := 675) (by decide +kernel), List.mem_of_getElem? (i := 785) (by decide +kernel), List.mem_of_getElem? (i := 786) (by decide +kernel)⟩
theorem lw_p17 : lw_okq (⟨"ReliefGalesModel", "isOne", "(I)Z"⟩, 21) := ⟨⟨by decide +kernel, by decide +kernel⟩, List.mem_of_getElem? (i := 675) (by decide +kernel), List.mem_of_getElem? (i := 793) (by decide +kernel), List.mem_of_getElem? (i := 794) (by decide +kernel)⟩
theorem lw_p18 : lw_okq (⟨"ReliefGalesModel", "uses", "(I)I"⟩, 21) := ⟨⟨by decide +kernel, by decide +kernel⟩, List.mem_of_getElem? (i := 675) (by decide +kernel), List.mem_of_getElem? (i := 797) (by decide +kernel), List.mem_of_getElem? (i := 798) (by decide +kernel)⟩
theorem lw_p19 : lw_okq (⟨"ReliefGalesModel", "its", "(II)I"⟩, 21) := ⟨⟨by decide +kernel, by decide +kernel⟩, List.mem_of_getElem? (i := 675) (by decide +kernel), List.mem_of_getElem? (i := 801) (by decide +kernel), List.mem_of_getElem? (i := 802) (by decide +kernel)⟩
theorem lw_p20 : lw_okq (⟨"ReliefGalesModel", "besideBrother", "(I)Z"⟩, 21) := ⟨⟨by decide +kernel, by decide +kernel⟩, List.mem_of_getElem? (i := 675) (by decide +kernel), List.mem_of_getElem? (i := 805) (by decide +kernel), List.mem_of_getElem? (i := 806) (by decide +kernel)⟩
theorem lw_p21 : lw_okq (⟨"ReliefGalesModel", "isBrother", "(I)Z"⟩, 21) := ⟨⟨by decide +kernel, by decide +kernel⟩, List.mem_of_getElem? (i := 675) (by decide +kernel), List.mem_of_getElem? (i := 809) (by decide +kernel), List.mem_of_getElem? (i := 810) (by decide +kernel)⟩
theorem lw_p22 : lw_okq (⟨"ReliefGalesModel", "brings", "(II)I"⟩, 21) := ⟨⟨by decide +kernel, by decide +kernel⟩, List.mem_of_getElem? (i := 675) (by decide +kernel), List.mem_of_getElem? (i := 817) (by decide +kernel), List.mem_of_getElem? (i := 818) (by decide +kernel)⟩
theorem lw_p23 : lw_okq (⟨"ReliefGalesModel", "tells", "(II)I"⟩, 21) := ⟨⟨by decide +kernel, by decide +kernel⟩, List.mem_of_getElem? (i := 675) (by decide +kernel), List.mem_of_getElem? (i := 821) (by decide +kernel), List.mem_of_getElem? (i := 822) (by decide +kernel)⟩
theorem lw_p24 : lw_okq (⟨"ReliefGalesModel", "turnsOn", "(II)I"⟩, 21) := ⟨⟨by decide +kernel, by decide +kernel⟩, List.mem_of_getElem? (i := 675) (by decide +kernel), List.mem_of_getElem? (i := 829) (by decide +kernel), List.mem_of_getElem? (i := 830) (by decide +kernel)⟩
theorem lw_p25 : lw_okq (⟨"ReliefGalesModel", "passes", "(I)V"⟩, 21) := ⟨⟨by decide +kernel, by decide +kernel⟩, List.mem_of_getElem? (i := 675) (by decide +kernel), List.mem_of_getElem? (i := 847) (by decide +kernel), List.mem_of_getElem? (i := 848) (by decide +kernel)⟩
theorem lw_p26 : lw_okq (⟨"ReliefGalesModel", "oneDay", "()V"⟩, 21) := ⟨⟨by decide +kernel, by decide +kernel⟩, List.mem_of_getElem? (i := 675) (by decide +kernel), List.mem_of_getElem? (i := 851) (by decide +kernel), List.mem_of_getElem? (i := 852) (by decide +kernel)⟩
theorem lw_p27 : lw_okq (⟨"ReliefGalesModel", "usesAll", "()I"⟩, 21) := ⟨⟨by decide +kernel, by decide +kernel⟩, List.mem_of_getElem? (i := 675) (by decide +kernel), List.mem_of_getElem? (i := 855) (by decide +kernel), List.mem_of_getElem? (i := 856) (by decide +kernel)⟩
theorem lw_p28 : lw_okq (⟨"ReliefGalesModel", "first", "(I)I"⟩, 21) := ⟨⟨by decide +kernel, by decide +kernel⟩, List.mem_of_getElem? (i := 675) (by decide +kernel), List.mem_of_getElem? (i := 862) (by decide +kernel), List.mem_of_getElem? (i := 863) (by decide +kernel)⟩
theorem lw_p29 : lw_okq (⟨"ReliefGalesModel", "relieves", "(I)V"⟩, 21) := ⟨⟨by decide +kernel, by decide +kernel⟩, List.mem_of_getElem? (i := 675) (by decide +kernel), List.mem_of_getElem? (i := 866) (by decide +kernel), List.mem_of_getElem? (i := 867) (by decide +kernel)⟩
theorem lw_p30 : lw_okq (⟨"ReliefGalesModel", "onSet", "()I"⟩, 21) := ⟨⟨by decide +kernel, by decide +kernel⟩, List.mem_of_getElem? (i := 675) (by decide +kernel), List.mem_of_getElem? (i := 870) (by decide +kernel), List.mem_of_getElem? (i := 871) (by decide +kernel)⟩
theorem lw_p31 : lw_okq (⟨"ReliefGalesModel", "moveAll", "(Z[I)V"⟩, 21) := ⟨⟨by decide +kernel, by decide +kernel⟩, List.mem_of_getElem? (i := 675) (by decide +kernel), List.mem_of_getElem? (i := 888) (by decide +kernel), List.mem_of_getElem? (i := 889) (by decide +kernel)⟩
def lw_privs_2 : List (MethodName × Nat) := [(⟨"ReliefGalesModel", "puts", "(III)V"⟩, 21), (⟨"ReliefGalesModel", "isOne", "(I)Z"⟩, 21), (⟨"ReliefGalesModel", "uses", "(I)I"⟩, 21), (⟨"ReliefGalesModel", "its", "(II)I"⟩, 21), (⟨"ReliefGalesModel", "besideBrother", "(I)Z"⟩, 21), (⟨"ReliefGalesModel", "isBrother", "(I)Z"⟩, 21), (⟨"ReliefGalesModel", "brings", "(II)I"⟩, 21), (⟨"ReliefGalesModel", "tells", "(II)I"⟩, 21), (⟨"ReliefGalesModel", "turnsOn", "(II)I"⟩, 21), (⟨"ReliefGalesModel", "passes", "(I)V"⟩, 21), (⟨"ReliefGalesModel", "oneDay", "()V"⟩, 21), (⟨"ReliefGalesModel", "usesAll", "()I"⟩, 21), (⟨"ReliefGalesModel", "first", "(I)I"⟩, 21), (⟨"ReliefGalesModel", "relieves", "(I)V"⟩, 21), (⟨"ReliefGalesModel", "onSet", "()I"⟩, 21), (⟨"ReliefGalesModel", "moveAll", "(Z[I)V"⟩, 21)]
theorem lw_r2 : ∀ q ∈ lw_privs_2, lw_okq q := List.forall_mem_cons.mpr ⟨lw_p16, List.forall_mem_cons.mpr ⟨lw_p17, List.forall_mem_cons.mpr ⟨lw_p18, List.forall_mem_cons.mpr ⟨lw_p19, List.forall_mem_cons.mpr ⟨lw_p20, List.forall_mem_cons.mpr ⟨lw_p21, List.forall_mem_cons.mpr ⟨lw_p22, List.forall_mem_cons.mpr ⟨lw_p23, List.forall_mem_cons.mpr ⟨lw_p24, List.forall_mem_cons.mpr ⟨lw_p25, List.forall_mem_cons.mpr ⟨lw_p26, List.forall_mem_cons.mpr ⟨lw_p27, List.forall_mem_cons.mpr ⟨lw_p28, List.forall_mem_cons.mpr ⟨lw_p29, List.forall_mem_cons.mpr ⟨lw_p30, List.forall_mem_cons.mpr ⟨lw_p31, fun _ h => absurd h List.not_mem_nil⟩⟩⟩⟩⟩⟩⟩⟩⟩⟩⟩⟩⟩⟩⟩⟩
theorem lw_p32 : lw_okq (⟨"ReliefGalesModel", "nextRelief", "(I)I"⟩, 21) := ⟨⟨by decide +kernel, by decide +kernel⟩, List.mem_of_getElem? (i := 675) (by decide +kernel), List.mem_of_getElem? (i := 900) (by decide +kernel), List.mem_of_getElem? (i := 901) (by decide +kernel)⟩
theorem lw_p33 : lw_okq (⟨"ReliefGalesModel", "wordsOfAll", "()I"⟩, 21) := ⟨⟨by decide +kernel, by decide +kernel⟩, List.mem_of_getElem? (i := 675) (by decide +kernel), List.mem_of_getElem? (i := 937) (by decide +kernel), List.mem_of_getElem? (i := 938) (by decide +kernel)⟩
theorem lw_p34 : lw_okq (⟨"ReliefGalesModel", "advance", "()V"⟩, 21) := ⟨⟨by decide +kernel, by decide +kernel⟩, List.mem_of_getElem? (i := 675) (by decide +kernel), List.mem_of_getElem? (i := 965) (by decide +kernel), List.mem_of_getElem? (i := 966) (by decide +kernel)⟩
theorem lw_p35 : lw_okq (⟨"ReliefGalesModel", "byteAt", "(I)I"⟩, 21) := ⟨⟨by decide +kernel, by decide +kernel⟩, List.mem_of_getElem? (i := 675) (by decide +kernel), List.mem_of_getElem? (i := 969) (by decide +kernel), List.mem_of_getElem? (i := 970) (by decide +kernel)⟩
theorem lw_p36 : lw_okq (⟨"ReliefGalesModel", "wantItem", "()V"⟩, 21) := ⟨⟨by decide +kernel, by decide +kernel⟩, List.mem_of_getElem? (i := 675) (by decide +kernel), List.mem_of_getElem? (i := 982) (by decide +kernel), List.mem_of_getElem? (i := 983) (by decide +kernel)⟩
theorem lw_p37 : lw_okq (⟨"ReliefGalesModel", "kindHere", "()I"⟩, 21) := ⟨⟨by decide +kernel, by decide +kernel⟩, List.mem_of_getElem? (i := 675) (by decide +kernel), List.mem_of_getElem? (i := 986) (by decide +kernel), List.mem_of_getElem? (i := 987) (by decide +kernel)⟩
theorem lw_p38 : lw_okq (⟨"ReliefGalesModel", "isWord", "(J)Z"⟩, 21) := ⟨⟨by decide +kernel, by decide +kernel⟩, List.mem_of_getElem? (i := 675) (by decide +kernel), List.mem_of_getElem? (i := 991) (by decide +kernel), List.mem_of_getElem? (i := 992) (by decide +kernel)⟩
theorem lw_p39 : lw_okq (⟨"ReliefGalesModel", "wantOne", "(I)V"⟩, 21) := ⟨⟨by decide +kernel, by decide +kernel⟩, List.mem_of_getElem? (i := 675) (by decide +kernel), List.mem_of_getElem? (i := 1000) (by decide +kernel), List.mem_of_getElem? (i := 1001) (by decide +kernel)⟩
theorem lw_p40 : lw_okq (⟨"ReliefGalesModel", "mayKnow", "()I"⟩, 21) := ⟨⟨by decide +kernel, by decide +kernel⟩, List.mem_of_getElem? (i := 675) (by decide +kernel), List.mem_of_getElem? (i := 1005) (by decide +kernel), List.mem_of_getElem? (i := 1006) (by decide +kernel)⟩
theorem lw_p41 : lw_okq (⟨"ReliefGalesModel", "wantNumber", "(II)I"⟩, 21) := ⟨⟨by decide +kernel, by decide +kernel⟩, List.mem_of_getElem? (i := 675) (by decide +kernel), List.mem_of_getElem? (i := 1010) (by decide +kernel), List.mem_of_getElem? (i := 1011) (by decide +kernel)⟩
theorem lw_p42 : lw_okq (⟨"ReliefGalesModel", "wantLight", "(III)V"⟩, 21) := ⟨⟨by decide +kernel, by decide +kernel⟩, List.mem_of_getElem? (i := 675) (by decide +kernel), List.mem_of_getElem? (i := 1016) (by decide +kernel), List.mem_of_getElem? (i := 1017) (by decide +kernel)⟩
theorem lw_p43 : lw_okq (⟨"ReliefGalesModel", "isPart", "(III)Z"⟩, 21) := ⟨⟨by decide +kernel, by decide +kernel⟩, List.mem_of_getElem? (i := 675) (by decide +kernel), List.mem_of_getElem? (i := 1042) (by decide +kernel), List.mem_of_getElem? (i := 1043) (by decide +kernel)⟩
theorem lw_p44 : lw_okq (⟨"ReliefGalesModel", "badSheet", "(I)I"⟩, 21) := ⟨⟨by decide +kernel, by decide +kernel⟩, List.mem_of_getElem? (i := 675) (by decide +kernel), List.mem_of_getElem? (i := 1050) (by decide +kernel), List.mem_of_getElem? (i := 1051) (by decide +kernel)⟩
theorem lw_p45 : lw_okq (⟨"ReliefGalesModel", "isSo", "(II)Z"⟩, 21) := ⟨⟨by decide +kernel, by decide +kernel⟩, List.mem_of_getElem? (i := 675) (by decide +kernel), List.mem_of_getElem? (i := 1063) (by decide +kernel), List.mem_of_getElem? (i := 1064) (by decide +kernel)⟩
theorem lw_p46 : lw_okq (⟨"ReliefGalesModel", "galesOf", "()I"⟩, 21) := ⟨⟨by decide +kernel, by decide +kernel⟩, List.mem_of_getElem? (i := 675) (by decide +kernel), List.mem_of_getElem? (i := 1083) (by decide +kernel), List.mem_of_getElem? (i := 1084) (by decide +kernel)⟩
def lw_privs_3 : List (MethodName × Nat) := [(⟨"ReliefGalesModel", "nextRelief", "(I)I"⟩, 21), (⟨"ReliefGalesModel", "wordsOfAll", "()I"⟩, 21), (⟨"ReliefGalesModel", "advance", "()V"⟩, 21), (⟨"ReliefGalesModel", "byteAt", "(I)I"⟩, 21), (⟨"ReliefGalesModel", "wantItem", "()V"⟩, 21), (⟨"ReliefGalesModel", "kindHere", "()I"⟩, 21), (⟨"ReliefGalesModel", "isWord", "(J)Z"⟩, 21), (⟨"ReliefGalesModel", "wantOne", "(I)V"⟩, 21), (⟨"ReliefGalesModel", "mayKnow", "()I"⟩, 21), (⟨"ReliefGalesModel", "wantNumber", "(II)I"⟩, 21), (⟨"ReliefGalesModel", "wantLight", "(III)V"⟩, 21), (⟨"ReliefGalesModel", "isPart", "(III)Z"⟩, 21), (⟨"ReliefGalesModel", "badSheet", "(I)I"⟩, 21), (⟨"ReliefGalesModel", "isSo", "(II)Z"⟩, 21), (⟨"ReliefGalesModel", "galesOf", "()I"⟩, 21)]
theorem lw_r3 : ∀ q ∈ lw_privs_3, lw_okq q := List.forall_mem_cons.mpr ⟨lw_p32, List.forall_mem_cons.mpr ⟨lw_p33, List.forall_mem_cons.mpr ⟨lw_p34, List.forall_mem_cons.mpr ⟨lw_p35, List.forall_mem_cons.mpr ⟨lw_p36, List.forall_mem_cons.mpr ⟨lw_p37, List.forall_mem_cons.mpr ⟨lw_p38, List.forall_mem_cons.mpr ⟨lw_p39, List.forall_mem_cons.mpr ⟨lw_p40, List.forall_mem_cons.mpr ⟨lw_p41, List.forall_mem_cons.mpr ⟨lw_p42, List.forall_mem_cons.mpr ⟨lw_p43, List.forall_mem_cons.mpr ⟨lw_p44, List.forall_mem_cons.mpr ⟨lw_p45, List.forall_mem_cons.mpr ⟨lw_p46, fun _ h => absurd h List.not_mem_nil⟩⟩⟩⟩⟩⟩⟩⟩⟩⟩⟩⟩⟩⟩⟩
def lw_privs : List (MethodName × Nat) := lw_privs_1 ++ (lw_privs_2 ++ (lw_privs_3))
def lw_tbl : List Cond := k2_sels lw_privs ++ tables_1
theorem lw_privs_ok : ∀ q ∈ lw_privs, lw_okq q := by
  show ∀ q ∈ lw_privs_1 ++ (lw_privs_2 ++ (lw_privs_3)), lw_okq q
  exact List.forall_mem_append.mpr ⟨lw_r1, List.forall_mem_append.mpr ⟨lw_r2, lw_r3⟩⟩

theorem goodIn_r {big : List Cond} (ws : List Cond) (ps : List Nat) (hp : ws = ps.filterMap (fun i => big[i]?)) (h : ws.all goodWord = true) : GoodIn big ws := by
  intro w hw
  have h1 := List.all_eq_true.mp h w hw
  rw [hp] at hw
  obtain ⟨i, -, hi⟩ := List.mem_filterMap.mp hw
  have hm : w ∈ big := by first | exact List.mem_of_getElem? hi | exact List.getElem?_mem hi
  exact ⟨hm, good_of_word h1⟩
theorem goodIn_app {big a b : List Cond} (ha : GoodIn big a) (hb : GoodIn big b) : GoodIn big (a ++ b) := fun w h => (List.mem_append.mp h).elim (ha w) (hb w)
theorem goodIn_ca {big a b : List Cond} {c : Cond} (ha : GoodIn big (c :: a)) (hb : GoodIn big b) : GoodIn big (c :: (a ++ b)) := fun w h => (List.mem_cons.mp h).elim (fun e => ha w (List.mem_cons.mpr (Or.inl e))) (fun h => (List.mem_append.mp h).elim (fun h => ha w (List.mem_cons.mpr (Or.inr h))) (hb w))
theorem goodIn_sub {big ws : List Cond} (hm : ∀ w ∈ ws, w ∈ big) (h : ws.all goodWord = true) : GoodIn big ws := fun w hw => ⟨hm w hw, good_of_word (List.all_eq_true.mp h w hw)⟩
def RX0 : String := "ReliefGales$Kinds"
def TX0 : u_T := fun k => match k with
  | _ => ("", "", "", false)
def tyX0 : Nat → FieldType := fun k => match k with
  | _ => .int
abbrev wsX00 : List Cond := u_ws RX0 TX0 0
theorem nmX0 : ∀ a, a < 0 → ∀ b, b < 0 → a ≠ b → (TX0 a).2.1 ≠ (TX0 b).2.1 := by decide +kernel
theorem tyX0_ok : ∀ k, k < 0 → parseFieldDescriptor (TX0 k).2.2.1 = some (tyX0 k) := by decide +kernel
abbrev cX0_isOrIsUnder : ByteArray := prog_2_method_2_code
def yX0_isOrIsUnder : MethodName := ⟨RX0, "isOrIsUnder", "(II)Z"⟩
abbrev cX0_uses : ByteArray := prog_2_method_3_code
def yX0_uses : MethodName := ⟨RX0, "uses", "(IZ)I"⟩
abbrev cX0_brings : ByteArray := prog_2_method_4_code
def yX0_brings : MethodName := ⟨RX0, "brings", "(II)I"⟩
abbrev cX0_tells : ByteArray := prog_2_method_5_code
def yX0_tells : MethodName := ⟨RX0, "tells", "(II)I"⟩
def RX1 : String := "ReliefGales$Light"
def TX1 : u_T := fun k => match k with
  | 0 => ("ReliefGales$Light", "seas", "[I", true)
  | 1 => ("ReliefGales$Light", "dayNow", "I", false)
  | 2 => ("ReliefGales$Light", "rockHeight", "I", false)
  | 3 => ("ReliefGales$Light", "galeCount", "I", false)
  | 4 => ("ReliefGales$Light", "oilLeft", "I", false)
  | 5 => ("ReliefGales$Light", "bedCount", "I", false)
  | 6 => ("ReliefGales$Light", "darkDays", "I", false)
  | 7 => ("ReliefGales$Light", "crew", "I", false)
  | 8 => ("ReliefGales$Light", "kinds", "[I", true)
  | 9 => ("ReliefGales$Light", "stands", "[I", true)
  | 10 => ("ReliefGales$Light", "sinces", "[I", true)
  | 11 => ("ReliefGales$Light", "words", "[I", true)
  | 12 => ("ReliefGales$Light", "mets", "[I", true)
  | 13 => ("ReliefGales$Light", "wentUp", "I", false)
  | _ => ("ReliefGales$Light", "wentDown", "I", false)
def tyX1 : Nat → FieldType := fun k => match k with
  | 0 => .array .int
  | 1 => .int
  | 2 => .int
  | 3 => .int
  | 4 => .int
  | 5 => .int
  | 6 => .int
  | 7 => .int
  | 8 => .array .int
  | 9 => .array .int
  | 10 => .array .int
  | 11 => .array .int
  | 12 => .array .int
  | 13 => .int
  | _ => .int
abbrev wsX10 : List Cond := u_ws RX1 TX1 15
theorem nmX1 : ∀ a, a < 15 → ∀ b, b < 15 → a ≠ b → (TX1 a).2.1 ≠ (TX1 b).2.1 := by decide +kernel
theorem tyX1_ok : ∀ k, k < 15 → parseFieldDescriptor (TX1 k).2.2.1 = some (tyX1 k) := by decide +kernel
abbrev cX1_init : ByteArray := prog_3_method_1_code
def yX1_init : MethodName := ⟨RX1, "<init>", "()V"⟩
abbrev cX1_becomeLike : ByteArray := prog_3_method_2_code
def yX1_becomeLike : MethodName := ⟨RX1, "becomeLike", "(LReliefGales$Light;)V"⟩
abbrev cX1_measure : ByteArray := prog_3_method_3_code
def yX1_measure : MethodName := ⟨RX1, "measure", "(I)I"⟩
abbrev cX1_putMeasure : ByteArray := prog_3_method_4_code
def yX1_putMeasure : MethodName := ⟨RX1, "putMeasure", "(II)V"⟩
abbrev cX1_seaOn : ByteArray := prog_3_method_5_code
def yX1_seaOn : MethodName := ⟨RX1, "seaOn", "(I)I"⟩
abbrev cX1_hasGaleOn : ByteArray := prog_3_method_6_code
def yX1_hasGaleOn : MethodName := ⟨RX1, "hasGaleOn", "(I)Z"⟩
abbrev cX1_secondsOn : ByteArray := prog_3_method_7_code
def yX1_secondsOn : MethodName := ⟨RX1, "secondsOn", "(I)I"⟩
abbrev cX1_countGaleDays : ByteArray := prog_3_method_8_code
def yX1_countGaleDays : MethodName := ⟨RX1, "countGaleDays", "()I"⟩
abbrev cX1_isFull : ByteArray := prog_3_method_9_code
def yX1_isFull : MethodName := ⟨RX1, "isFull", "()Z"⟩
abbrev cX1_hasKeeper : ByteArray := prog_3_method_10_code
def yX1_hasKeeper : MethodName := ⟨RX1, "hasKeeper", "(I)Z"⟩
abbrev cX1_addKeeper : ByteArray := prog_3_method_11_code
def yX1_addKeeper : MethodName := ⟨RX1, "addKeeper", "(I)I"⟩
abbrev cX1_putStand : ByteArray := prog_3_method_12_code
def yX1_putStand : MethodName := ⟨RX1, "putStand", "(II)I"⟩
abbrev cX1_putWords : ByteArray := prog_3_method_13_code
def yX1_putWords : MethodName := ⟨RX1, "putWords", "(II)I"⟩
abbrev cX1_putMet : ByteArray := prog_3_method_14_code
def yX1_putMet : MethodName := ⟨RX1, "putMet", "(II)I"⟩
abbrev cX1_setOfOn : ByteArray := prog_3_method_15_code
def yX1_setOfOn : MethodName := ⟨RX1, "setOfOn", "()I"⟩
abbrev cX1_countStanding : ByteArray := prog_3_method_16_code
def yX1_countStanding : MethodName := ⟨RX1, "countStanding", "(I)I"⟩
abbrev cX1_knowsWord : ByteArray := prog_3_method_17_code
def yX1_knowsWord : MethodName := ⟨RX1, "knowsWord", "(II)Z"⟩
abbrev cX1_countKnowing : ByteArray := prog_3_method_18_code
def yX1_countKnowing : MethodName := ⟨RX1, "countKnowing", "(I)I"⟩
abbrev cX1_wordsTogether : ByteArray := prog_3_method_19_code
def yX1_wordsTogether : MethodName := ⟨RX1, "wordsTogether", "()I"⟩
abbrev cX1_usesOf : ByteArray := prog_3_method_20_code
def yX1_usesOf : MethodName := ⟨RX1, "usesOf", "(I)I"⟩
abbrev cX1_isBesideBrother : ByteArray := prog_3_method_21_code
def yX1_isBesideBrother : MethodName := ⟨RX1, "isBesideBrother", "(I)Z"⟩
abbrev cX1_usesTogether : ByteArray := prog_3_method_22_code
def yX1_usesTogether : MethodName := ⟨RX1, "usesTogether", "()I"⟩
abbrev cX1_passDays : ByteArray := prog_3_method_23_code
def yX1_passDays : MethodName := ⟨RX1, "passDays", "(I)V"⟩
abbrev cX1_passDay : ByteArray := prog_3_method_24_code
def yX1_passDay : MethodName := ⟨RX1, "passDay", "()V"⟩
abbrev cX1_burnOil : ByteArray := prog_3_method_25_code
def yX1_burnOil : MethodName := ⟨RX1, "burnOil", "(I)V"⟩
abbrev cX1_blowGale : ByteArray := prog_3_method_26_code
def yX1_blowGale : MethodName := ⟨RX1, "blowGale", "(I)V"⟩
abbrev cX1_relieve : ByteArray := prog_3_method_27_code
def yX1_relieve : MethodName := ⟨RX1, "relieve", "(II)V"⟩
abbrev cX1_meetInMidAir : ByteArray := prog_3_method_28_code
def yX1_meetInMidAir : MethodName := ⟨RX1, "meetInMidAir", "(III)V"⟩
abbrev cX1_leastOf : ByteArray := prog_3_method_29_code
def yX1_leastOf : MethodName := ⟨RX1, "leastOf", "(II)I"⟩
abbrev cX1_longestStanding : ByteArray := prog_3_method_30_code
def yX1_longestStanding : MethodName := ⟨RX1, "longestStanding", "(I)I"⟩
abbrev cX1_haveJustMet : ByteArray := prog_3_method_31_code
def yX1_haveJustMet : MethodName := ⟨RX1, "haveJustMet", "(II)Z"⟩
abbrev cX1_daysToRelief : ByteArray := prog_3_method_32_code
def yX1_daysToRelief : MethodName := ⟨RX1, "daysToRelief", "(I)I"⟩
def RX2 : String := "ReliefGales$Sheet"
def TX2 : u_T := fun k => match k with
  | 0 => ("ReliefGales$Sheet", "numbers", "[J", true)
  | 1 => ("ReliefGales$Sheet", "width", "I", false)
  | _ => ("ReliefGales$Sheet", "size", "I", false)
def tyX2 : Nat → FieldType := fun k => match k with
  | 0 => .array .long
  | 1 => .int
  | _ => .int
abbrev wsX20 : List Cond := u_ws RX2 TX2 3
theorem nmX2 : ∀ a, a < 3 → ∀ b, b < 3 → a ≠ b → (TX2 a).2.1 ≠ (TX2 b).2.1 := by decide +kernel
theorem tyX2_ok : ∀ k, k < 3 → parseFieldDescriptor (TX2 k).2.2.1 = some (tyX2 k) := by decide +kernel
abbrev cX2_init : ByteArray := prog_4_method_1_code
def yX2_init : MethodName := ⟨RX2, "<init>", "()V"⟩
abbrev cX2_isWidth : ByteArray := prog_4_method_2_code
def yX2_isWidth : MethodName := ⟨RX2, "isWidth", "(I)Z"⟩
abbrev cX2_isMissing : ByteArray := prog_4_method_3_code
def yX2_isMissing : MethodName := ⟨RX2, "isMissing", "()Z"⟩
abbrev cX2_layOut : ByteArray := prog_4_method_4_code
def yX2_layOut : MethodName := ⟨RX2, "layOut", "(II)V"⟩
abbrev cX2_put : ByteArray := prog_4_method_5_code
def yX2_put : MethodName := ⟨RX2, "put", "(IJ)V"⟩
abbrev cX2_hasRange : ByteArray := prog_4_method_6_code
def yX2_hasRange : MethodName := ⟨RX2, "hasRange", "(II)Z"⟩
def RX3 : String := "ReliefGales$Tape"
def TX3 : u_T := fun k => match k with
  | 0 => ("ReliefGales$Tape", "bytes", "[I", true)
  | 1 => ("ReliefGales$Tape", "length", "I", false)
  | 2 => ("ReliefGales$Tape", "tokenSort", "I", false)
  | 3 => ("ReliefGales$Tape", "tokenStart", "I", false)
  | 4 => ("ReliefGales$Tape", "tokenEnd", "I", false)
  | _ => ("ReliefGales$Tape", "tokenValue", "I", false)
def tyX3 : Nat → FieldType := fun k => match k with
  | 0 => .array .int
  | 1 => .int
  | 2 => .int
  | 3 => .int
  | 4 => .int
  | _ => .int
abbrev wsX30 : List Cond := u_ws RX3 TX3 6
theorem nmX3 : ∀ a, a < 6 → ∀ b, b < 6 → a ≠ b → (TX3 a).2.1 ≠ (TX3 b).2.1 := by decide +kernel
theorem tyX3_ok : ∀ k, k < 6 → parseFieldDescriptor (TX3 k).2.2.1 = some (tyX3 k) := by decide +kernel
abbrev cX3_init : ByteArray := prog_5_method_1_code
def yX3_init : MethodName := ⟨RX3, "<init>", "()V"⟩
abbrev cX3_append : ByteArray := prog_5_method_2_code
def yX3_append : MethodName := ⟨RX3, "append", "(I)V"⟩
abbrev cX3_goToFirstToken : ByteArray := prog_5_method_3_code
def yX3_goToFirstToken : MethodName := ⟨RX3, "goToFirstToken", "()V"⟩
abbrev cX3_goToNextToken : ByteArray := prog_5_method_4_code
def yX3_goToNextToken : MethodName := ⟨RX3, "goToNextToken", "()V"⟩
abbrev cX3_sortOf : ByteArray := prog_5_method_5_code
def yX3_sortOf : MethodName := ⟨RX3, "sortOf", "(I)I"⟩
abbrev cX3_showsWord : ByteArray := prog_5_method_6_code
def yX3_showsWord : MethodName := ⟨RX3, "showsWord", "(Ljava/lang/String;)Z"⟩
abbrev cX3_takeWord : ByteArray := prog_5_method_7_code
def yX3_takeWord : MethodName := ⟨RX3, "takeWord", "(Ljava/lang/String;)Z"⟩
abbrev cX3_takeNumber : ByteArray := prog_5_method_8_code
def yX3_takeNumber : MethodName := ⟨RX3, "takeNumber", "(II)I"⟩
def RX4 : String := "ReliefGales$Text"
def TX4 : u_T := fun k => match k with
  | _ => ("", "", "", false)
def tyX4 : Nat → FieldType := fun k => match k with
  | _ => .int
abbrev wsX40 : List Cond := u_ws RX4 TX4 0
theorem nmX4 : ∀ a, a < 0 → ∀ b, b < 0 → a ≠ b → (TX4 a).2.1 ≠ (TX4 b).2.1 := by decide +kernel
theorem tyX4_ok : ∀ k, k < 0 → parseFieldDescriptor (TX4 k).2.2.1 = some (tyX4 k) := by decide +kernel
abbrev cX4_takeText : ByteArray := prog_6_method_2_code
def yX4_takeText : MethodName := ⟨RX4, "takeText", "(LReliefGales$Tape;LReliefGales$Light;)I"⟩
abbrev cX4_takeItem : ByteArray := prog_6_method_3_code
def yX4_takeItem : MethodName := ⟨RX4, "takeItem", "(LReliefGales$Tape;LReliefGales$Light;)Z"⟩
abbrev cX4_takeMeasure : ByteArray := prog_6_method_4_code
def yX4_takeMeasure : MethodName := ⟨RX4, "takeMeasure", "(LReliefGales$Tape;LReliefGales$Light;I)Z"⟩
abbrev cX4_kindShown : ByteArray := prog_6_method_5_code
def yX4_kindShown : MethodName := ⟨RX4, "kindShown", "(LReliefGales$Tape;)I"⟩
abbrev cX4_takeKeeper : ByteArray := prog_6_method_6_code
def yX4_takeKeeper : MethodName := ⟨RX4, "takeKeeper", "(LReliefGales$Tape;LReliefGales$Light;I)Z"⟩
abbrev cX4_takeKnownWords : ByteArray := prog_6_method_7_code
def yX4_takeKnownWords : MethodName := ⟨RX4, "takeKnownWords", "(LReliefGales$Tape;LReliefGales$Light;I)Z"⟩
abbrev cX4_takeSea : ByteArray := prog_6_method_8_code
def yX4_takeSea : MethodName := ⟨RX4, "takeSea", "(LReliefGales$Tape;LReliefGales$Light;)Z"⟩
def RX5 : String := "ReliefGales"
def TX5 : u_T := fun k => match k with
  | 0 => ("ReliefGales", "real", "LReliefGales$Light;", true)
  | 1 => ("ReliefGales", "trial", "LReliefGales$Light;", true)
  | 2 => ("ReliefGales", "kept", "LReliefGales$Light;", true)
  | 3 => ("ReliefGales", "isKept", "Z", false)
  | 4 => ("ReliefGales", "tape", "LReliefGales$Tape;", true)
  | 5 => ("ReliefGales", "sheets", "[LReliefGales$Sheet;", true)
  | _ => ("ReliefGales", "findings", "[I", true)
def tyX5 : Nat → FieldType := fun k => match k with
  | 0 => .object "ReliefGales$Light"
  | 1 => .object "ReliefGales$Light"
  | 2 => .object "ReliefGales$Light"
  | 3 => .boolean
  | 4 => .object "ReliefGales$Tape"
  | 5 => .array (.object "ReliefGales$Sheet")
  | _ => .array .int
abbrev wsX50 : List Cond := u_ws RX5 TX5 7
theorem nmX5 : ∀ a, a < 7 → ∀ b, b < 7 → a ≠ b → (TX5 a).2.1 ≠ (TX5 b).2.1 := by decide +kernel
theorem tyX5_ok : ∀ k, k < 7 → parseFieldDescriptor (TX5 k).2.2.1 = some (tyX5 k) := by decide +kernel
abbrev cX5_init : ByteArray := prog_1_method_1_code
def yX5_init : MethodName := ⟨RX5, "<init>", "()V"⟩
abbrev cX5_sea : ByteArray := prog_1_method_2_code
def yX5_sea : MethodName := ⟨RX5, "sea", "(II)I"⟩
abbrev cX5_day : ByteArray := prog_1_method_3_code
def yX5_day : MethodName := ⟨RX5, "day", "(II)I"⟩
abbrev cX5_light : ByteArray := prog_1_method_4_code
def yX5_light : MethodName := ⟨RX5, "light", "(II)I"⟩
abbrev cX5_keeper : ByteArray := prog_1_method_5_code
def yX5_keeper : MethodName := ⟨RX5, "keeper", "(I)I"⟩
abbrev cX5_of : ByteArray := prog_1_method_6_code
def yX5_of : MethodName := ⟨RX5, "of", "(II)I"⟩
abbrev cX5_can : ByteArray := prog_1_method_7_code
def yX5_can : MethodName := ⟨RX5, "can", "(III)I"⟩
abbrev cX5_set : ByteArray := prog_1_method_8_code
def yX5_set : MethodName := ⟨RX5, "set", "(III)I"⟩
abbrev cX5_turn : ByteArray := prog_1_method_9_code
def yX5_turn : MethodName := ⟨RX5, "turn", "(II)I"⟩
abbrev cX5_as : ByteArray := prog_1_method_10_code
def yX5_as : MethodName := ⟨RX5, "as", "(II)I"⟩
abbrev cX5_days : ByteArray := prog_1_method_11_code
def yX5_days : MethodName := ⟨RX5, "days", "(I)I"⟩
abbrev cX5_now : ByteArray := prog_1_method_12_code
def yX5_now : MethodName := ⟨RX5, "now", "(I)I"⟩
abbrev cX5_on : ByteArray := prog_1_method_13_code
def yX5_on : MethodName := ⟨RX5, "on", "(III)I"⟩
abbrev cX5_oil : ByteArray := prog_1_method_14_code
def yX5_oil : MethodName := ⟨RX5, "oil", "(I)I"⟩
abbrev cX5_relief : ByteArray := prog_1_method_15_code
def yX5_relief : MethodName := ⟨RX5, "relief", "()I"⟩
abbrev cX5_ashore : ByteArray := prog_1_method_16_code
def yX5_ashore : MethodName := ⟨RX5, "ashore", "(I)I"⟩
abbrev cX5_knows : ByteArray := prog_1_method_17_code
def yX5_knows : MethodName := ⟨RX5, "knows", "(II)I"⟩
abbrev cX5_dark : ByteArray := prog_1_method_18_code
def yX5_dark : MethodName := ⟨RX5, "dark", "()I"⟩
abbrev cX5_meet : ByteArray := prog_1_method_19_code
def yX5_meet : MethodName := ⟨RX5, "meet", "(II)I"⟩
abbrev cX5_rock : ByteArray := prog_1_method_20_code
def yX5_rock : MethodName := ⟨RX5, "rock", "(I)I"⟩
abbrev cX5_kind : ByteArray := prog_1_method_21_code
def yX5_kind : MethodName := ⟨RX5, "kind", "(II)I"⟩
abbrev cX5_enough : ByteArray := prog_1_method_22_code
def yX5_enough : MethodName := ⟨RX5, "enough", "(I)I"⟩
abbrev cX5_beds : ByteArray := prog_1_method_23_code
def yX5_beds : MethodName := ⟨RX5, "beds", "(I)I"⟩
abbrev cX5_storm : ByteArray := prog_1_method_24_code
def yX5_storm : MethodName := ⟨RX5, "storm", "()I"⟩
abbrev cX5_change : ByteArray := prog_1_method_25_code
def yX5_change : MethodName := ⟨RX5, "change", "(I)I"⟩
abbrev cX5_heard : ByteArray := prog_1_method_26_code
def yX5_heard : MethodName := ⟨RX5, "heard", "(II)I"⟩
abbrev cX5_feed : ByteArray := prog_1_method_27_code
def yX5_feed : MethodName := ⟨RX5, "feed", "(II)I"⟩
abbrev cX5_wipe : ByteArray := prog_1_method_28_code
def yX5_wipe : MethodName := ⟨RX5, "wipe", "()I"⟩
abbrev cX5_text : ByteArray := prog_1_method_29_code
def yX5_text : MethodName := ⟨RX5, "text", "()I"⟩
abbrev cX5_sheet : ByteArray := prog_1_method_30_code
def yX5_sheet : MethodName := ⟨RX5, "sheet", "(III)I"⟩
abbrev cX5_write : ByteArray := prog_1_method_31_code
def yX5_write : MethodName := ⟨RX5, "write", "(IIJ)J"⟩
abbrev cX5_copy : ByteArray := prog_1_method_32_code
def yX5_copy : MethodName := ⟨RX5, "copy", "(IIIII)I"⟩
abbrev cX5_lays : ByteArray := prog_1_method_33_code
def yX5_lays : MethodName := ⟨RX5, "lays", "(I)I"⟩
abbrev cX5_book : ByteArray := prog_1_method_34_code
def yX5_book : MethodName := ⟨RX5, "book", "(I)I"⟩
abbrev cX5_read : ByteArray := prog_1_method_35_code
def yX5_read : MethodName := ⟨RX5, "read", "(II)I"⟩
abbrev cX5_image : ByteArray := prog_1_method_36_code
def yX5_image : MethodName := ⟨RX5, "image", "()I"⟩
abbrev cX5_undo : ByteArray := prog_1_method_37_code
def yX5_undo : MethodName := ⟨RX5, "undo", "()I"⟩
abbrev cX5_tear : ByteArray := prog_1_method_38_code
def yX5_tear : MethodName := ⟨RX5, "tear", "()I"⟩
abbrev cX5_count : ByteArray := prog_1_method_39_code
def yX5_count : MethodName := ⟨RX5, "count", "(I)I"⟩
abbrev cX5_status : ByteArray := prog_1_method_40_code
def yX5_status : MethodName := ⟨RX5, "status", "(I)I"⟩
abbrev cX5_tell : ByteArray := prog_1_method_41_code
def yX5_tell : MethodName := ⟨RX5, "tell", "(I)I"⟩
abbrev cX5_startTrial : ByteArray := prog_1_method_42_code
def yX5_startTrial : MethodName := ⟨RX5, "startTrial", "()V"⟩
abbrev cX5_sheetAt : ByteArray := prog_1_method_43_code
def yX5_sheetAt : MethodName := ⟨RX5, "sheetAt", "(I)LReliefGales$Sheet;"⟩
abbrev cX5_staysLit : ByteArray := prog_1_method_44_code
def yX5_staysLit : MethodName := ⟨RX5, "staysLit", "(II)Z"⟩
abbrev cX5_countKindsThatRead : ByteArray := prog_1_method_45_code
def yX5_countKindsThatRead : MethodName := ⟨RX5, "countKindsThatRead", "(LReliefGales$Sheet;I)I"⟩
abbrev cX5_trialReads : ByteArray := prog_1_method_46_code
def yX5_trialReads : MethodName := ⟨RX5, "trialReads", "(LReliefGales$Sheet;I)Z"⟩
abbrev cX5_within : ByteArray := prog_1_method_47_code
def yX5_within : MethodName := ⟨RX5, "within", "(III)Z"⟩
abbrev cX5_isKind : ByteArray := prog_1_method_48_code
def yX5_isKind : MethodName := ⟨RX5, "isKind", "(I)Z"⟩
abbrev cX5_isWord : ByteArray := prog_1_method_49_code
def yX5_isWord : MethodName := ⟨RX5, "isWord", "(I)Z"⟩
def RX6 : String := "ReliefGalesModel"
def TX6 : u_T := fun k => match k with
  | 0 => ("ReliefGalesModel", "row", "[I", true)
  | 1 => ("ReliefGalesModel", "found", "[I", true)
  | 2 => ("ReliefGalesModel", "came", "I", false)
  | 3 => ("ReliefGalesModel", "went", "I", false)
  | 4 => ("ReliefGalesModel", "tried", "[I", true)
  | 5 => ("ReliefGalesModel", "before1", "[I", true)
  | 6 => ("ReliefGalesModel", "tape", "[I", true)
  | 7 => ("ReliefGalesModel", "tapeMany", "I", false)
  | 8 => ("ReliefGalesModel", "sort", "I", false)
  | 9 => ("ReliefGalesModel", "begins", "I", false)
  | 10 => ("ReliefGalesModel", "tokenEnds", "I", false)
  | 11 => ("ReliefGalesModel", "word", "J", false)
  | 12 => ("ReliefGalesModel", "value", "I", false)
  | 13 => ("ReliefGalesModel", "good", "Z", false)
  | 14 => ("ReliefGalesModel", "bitsOf", "[I", true)
  | 15 => ("ReliefGalesModel", "sizeOf", "[I", true)
  | 16 => ("ReliefGalesModel", "sheets", "[J", true)
  | 17 => ("ReliefGalesModel", "lent", "[J", true)
  | 18 => ("ReliefGalesModel", "image", "[I", true)
  | 19 => ("ReliefGalesModel", "before", "[I", true)
  | _ => ("ReliefGalesModel", "isKept", "Z", false)
def tyX6 : Nat → FieldType := fun k => match k with
  | 0 => .array .int
  | 1 => .array .int
  | 2 => .int
  | 3 => .int
  | 4 => .array .int
  | 5 => .array .int
  | 6 => .array .int
  | 7 => .int
  | 8 => .int
  | 9 => .int
  | 10 => .int
  | 11 => .long
  | 12 => .int
  | 13 => .boolean
  | 14 => .array .int
  | 15 => .array .int
  | 16 => .array .long
  | 17 => .array .long
  | 18 => .array .int
  | 19 => .array .int
  | _ => .boolean
abbrev wsX60 : List Cond := u_ws RX6 TX6 21
theorem nmX6 : ∀ a, a < 21 → ∀ b, b < 21 → a ≠ b → (TX6 a).2.1 ≠ (TX6 b).2.1 := by decide +kernel
theorem tyX6_ok : ∀ k, k < 21 → parseFieldDescriptor (TX6 k).2.2.1 = some (tyX6 k) := by decide +kernel
abbrev cX6_init : ByteArray := prog_8_method_1_code
def yX6_init : MethodName := ⟨RX6, "<init>", "()V"⟩
abbrev cX6_in : ByteArray := prog_8_method_2_code
def yX6_in : MethodName := ⟨RX6, "in", "(III)Z"⟩
abbrev cX6_finds : ByteArray := prog_8_method_3_code
def yX6_finds : MethodName := ⟨RX6, "finds", "(I)I"⟩
abbrev cX6_held : ByteArray := prog_8_method_4_code
def yX6_held : MethodName := ⟨RX6, "held", "(III)I"⟩
abbrev cX6_its : ByteArray := prog_8_method_5_code
def yX6_its : MethodName := ⟨RX6, "its", "(II)I"⟩
abbrev cX6_puts : ByteArray := prog_8_method_6_code
def yX6_puts : MethodName := ⟨RX6, "puts", "(III)V"⟩
abbrev cX6_becomes : ByteArray := prog_8_method_7_code
def yX6_becomes : MethodName := ⟨RX6, "becomes", "(II)I"⟩
abbrev cX6_isOne : ByteArray := prog_8_method_8_code
def yX6_isOne : MethodName := ⟨RX6, "isOne", "(I)Z"⟩
abbrev cX6_isKind : ByteArray := prog_8_method_9_code
def yX6_isKind : MethodName := ⟨RX6, "isKind", "(I)Z"⟩
abbrev cX6_bits : ByteArray := prog_8_method_10_code
def yX6_bits : MethodName := ⟨RX6, "bits", "(I)I"⟩
abbrev cX6_sea : ByteArray := prog_8_method_11_code
def yX6_sea : MethodName := ⟨RX6, "sea", "(II)I"⟩
abbrev cX6_seconds : ByteArray := prog_8_method_12_code
def yX6_seconds : MethodName := ⟨RX6, "seconds", "(I)I"⟩
abbrev cX6_day : ByteArray := prog_8_method_13_code
def yX6_day : MethodName := ⟨RX6, "day", "(II)I"⟩
abbrev cX6_light : ByteArray := prog_8_method_14_code
def yX6_light : MethodName := ⟨RX6, "light", "(II)I"⟩
abbrev cX6_isBrother : ByteArray := prog_8_method_15_code
def yX6_isBrother : MethodName := ⟨RX6, "isBrother", "(I)Z"⟩
abbrev cX6_uses : ByteArray := prog_8_method_16_code
def yX6_uses : MethodName := ⟨RX6, "uses", "(I)I"⟩
abbrev cX6_besideBrother : ByteArray := prog_8_method_17_code
def yX6_besideBrother : MethodName := ⟨RX6, "besideBrother", "(I)Z"⟩
abbrev cX6_brings : ByteArray := prog_8_method_18_code
def yX6_brings : MethodName := ⟨RX6, "brings", "(II)I"⟩
abbrev cX6_tells : ByteArray := prog_8_method_19_code
def yX6_tells : MethodName := ⟨RX6, "tells", "(II)I"⟩
abbrev cX6_adds : ByteArray := prog_8_method_20_code
def yX6_adds : MethodName := ⟨RX6, "adds", "(III)V"⟩
abbrev cX6_keeper : ByteArray := prog_8_method_21_code
def yX6_keeper : MethodName := ⟨RX6, "keeper", "(I)I"⟩
abbrev cX6_of : ByteArray := prog_8_method_22_code
def yX6_of : MethodName := ⟨RX6, "of", "(II)I"⟩
abbrev cX6_can : ByteArray := prog_8_method_23_code
def yX6_can : MethodName := ⟨RX6, "can", "(III)I"⟩
abbrev cX6_turnsOn : ByteArray := prog_8_method_24_code
def yX6_turnsOn : MethodName := ⟨RX6, "turnsOn", "(II)I"⟩
abbrev cX6_set : ByteArray := prog_8_method_25_code
def yX6_set : MethodName := ⟨RX6, "set", "(III)I"⟩
abbrev cX6_turn : ByteArray := prog_8_method_26_code
def yX6_turn : MethodName := ⟨RX6, "turn", "(II)I"⟩
abbrev cX6_as : ByteArray := prog_8_method_27_code
def yX6_as : MethodName := ⟨RX6, "as", "(II)I"⟩
abbrev cX6_onSet : ByteArray := prog_8_method_28_code
def yX6_onSet : MethodName := ⟨RX6, "onSet", "()I"⟩
abbrev cX6_usesAll : ByteArray := prog_8_method_29_code
def yX6_usesAll : MethodName := ⟨RX6, "usesAll", "()I"⟩
abbrev cX6_first : ByteArray := prog_8_method_30_code
def yX6_first : MethodName := ⟨RX6, "first", "(I)I"⟩
abbrev cX6_learnt : ByteArray := prog_8_method_31_code
def yX6_learnt : MethodName := ⟨RX6, "learnt", "(III)I"⟩
abbrev cX6_relieves : ByteArray := prog_8_method_32_code
def yX6_relieves : MethodName := ⟨RX6, "relieves", "(I)V"⟩
abbrev cX6_oneDay : ByteArray := prog_8_method_33_code
def yX6_oneDay : MethodName := ⟨RX6, "oneDay", "()V"⟩
abbrev cX6_passes : ByteArray := prog_8_method_34_code
def yX6_passes : MethodName := ⟨RX6, "passes", "(I)V"⟩
abbrev cX6_days : ByteArray := prog_8_method_35_code
def yX6_days : MethodName := ⟨RX6, "days", "(I)I"⟩
abbrev cX6_now : ByteArray := prog_8_method_36_code
def yX6_now : MethodName := ⟨RX6, "now", "(I)I"⟩
abbrev cX6_on : ByteArray := prog_8_method_37_code
def yX6_on : MethodName := ⟨RX6, "on", "(III)I"⟩
abbrev cX6_oil : ByteArray := prog_8_method_38_code
def yX6_oil : MethodName := ⟨RX6, "oil", "(I)I"⟩
abbrev cX6_nextRelief : ByteArray := prog_8_method_39_code
def yX6_nextRelief : MethodName := ⟨RX6, "nextRelief", "(I)I"⟩
abbrev cX6_relief : ByteArray := prog_8_method_40_code
def yX6_relief : MethodName := ⟨RX6, "relief", "()I"⟩
abbrev cX6_ashore : ByteArray := prog_8_method_41_code
def yX6_ashore : MethodName := ⟨RX6, "ashore", "(I)I"⟩
abbrev cX6_knows : ByteArray := prog_8_method_42_code
def yX6_knows : MethodName := ⟨RX6, "knows", "(II)I"⟩
abbrev cX6_dark : ByteArray := prog_8_method_43_code
def yX6_dark : MethodName := ⟨RX6, "dark", "()I"⟩
abbrev cX6_meet : ByteArray := prog_8_method_44_code
def yX6_meet : MethodName := ⟨RX6, "meet", "(II)I"⟩
abbrev cX6_rock : ByteArray := prog_8_method_45_code
def yX6_rock : MethodName := ⟨RX6, "rock", "(I)I"⟩
abbrev cX6_kind : ByteArray := prog_8_method_46_code
def yX6_kind : MethodName := ⟨RX6, "kind", "(II)I"⟩
abbrev cX6_enough : ByteArray := prog_8_method_47_code
def yX6_enough : MethodName := ⟨RX6, "enough", "(I)I"⟩
abbrev cX6_wordsOfAll : ByteArray := prog_8_method_48_code
def yX6_wordsOfAll : MethodName := ⟨RX6, "wordsOfAll", "()I"⟩
abbrev cX6_beds : ByteArray := prog_8_method_49_code
def yX6_beds : MethodName := ⟨RX6, "beds", "(I)I"⟩
abbrev cX6_storm : ByteArray := prog_8_method_50_code
def yX6_storm : MethodName := ⟨RX6, "storm", "()I"⟩
abbrev cX6_change : ByteArray := prog_8_method_51_code
def yX6_change : MethodName := ⟨RX6, "change", "(I)I"⟩
abbrev cX6_heard : ByteArray := prog_8_method_52_code
def yX6_heard : MethodName := ⟨RX6, "heard", "(II)I"⟩
abbrev cX6_feed : ByteArray := prog_8_method_53_code
def yX6_feed : MethodName := ⟨RX6, "feed", "(II)I"⟩
abbrev cX6_wipe : ByteArray := prog_8_method_54_code
def yX6_wipe : MethodName := ⟨RX6, "wipe", "()I"⟩
abbrev cX6_byteAt : ByteArray := prog_8_method_55_code
def yX6_byteAt : MethodName := ⟨RX6, "byteAt", "(I)I"⟩
abbrev cX6_isLetter : ByteArray := prog_8_method_56_code
def yX6_isLetter : MethodName := ⟨RX6, "isLetter", "(I)Z"⟩
abbrev cX6_isDigit : ByteArray := prog_8_method_57_code
def yX6_isDigit : MethodName := ⟨RX6, "isDigit", "(I)Z"⟩
abbrev cX6_advance : ByteArray := prog_8_method_58_code
def yX6_advance : MethodName := ⟨RX6, "advance", "()V"⟩
abbrev cX6_isWord : ByteArray := prog_8_method_59_code
def yX6_isWord : MethodName := ⟨RX6, "isWord", "(J)Z"⟩
abbrev cX6_kindHere : ByteArray := prog_8_method_60_code
def yX6_kindHere : MethodName := ⟨RX6, "kindHere", "()I"⟩
abbrev cX6_wantNumber : ByteArray := prog_8_method_61_code
def yX6_wantNumber : MethodName := ⟨RX6, "wantNumber", "(II)I"⟩
abbrev cX6_mayKnow : ByteArray := prog_8_method_63_code
def yX6_mayKnow : MethodName := ⟨RX6, "mayKnow", "()I"⟩
abbrev cX6_wantOne : ByteArray := prog_8_method_64_code
def yX6_wantOne : MethodName := ⟨RX6, "wantOne", "(I)V"⟩
abbrev cX6_wantLight : ByteArray := prog_8_method_65_code
def yX6_wantLight : MethodName := ⟨RX6, "wantLight", "(III)V"⟩
abbrev cX6_wantItem : ByteArray := prog_8_method_66_code
def yX6_wantItem : MethodName := ⟨RX6, "wantItem", "()V"⟩
abbrev cX6_text : ByteArray := prog_8_method_67_code
def yX6_text : MethodName := ⟨RX6, "text", "()I"⟩
abbrev cX6_isSheet : ByteArray := prog_8_method_68_code
def yX6_isSheet : MethodName := ⟨RX6, "isSheet", "(I)Z"⟩
abbrev cX6_narrow : ByteArray := prog_8_method_69_code
def yX6_narrow : MethodName := ⟨RX6, "narrow", "(IJ)J"⟩
abbrev cX6_sheet : ByteArray := prog_8_method_70_code
def yX6_sheet : MethodName := ⟨RX6, "sheet", "(III)I"⟩
abbrev cX6_write : ByteArray := prog_8_method_71_code
def yX6_write : MethodName := ⟨RX6, "write", "(IIJ)J"⟩
abbrev cX6_isPart : ByteArray := prog_8_method_72_code
def yX6_isPart : MethodName := ⟨RX6, "isPart", "(III)Z"⟩
abbrev cX6_copy : ByteArray := prog_8_method_73_code
def yX6_copy : MethodName := ⟨RX6, "copy", "(IIIII)I"⟩
abbrev cX6_badSheet : ByteArray := prog_8_method_74_code
def yX6_badSheet : MethodName := ⟨RX6, "badSheet", "(I)I"⟩
abbrev cX6_lays : ByteArray := prog_8_method_75_code
def yX6_lays : MethodName := ⟨RX6, "lays", "(I)I"⟩
abbrev cX6_book : ByteArray := prog_8_method_76_code
def yX6_book : MethodName := ⟨RX6, "book", "(I)I"⟩
abbrev cX6_isSo : ByteArray := prog_8_method_77_code
def yX6_isSo : MethodName := ⟨RX6, "isSo", "(II)Z"⟩
abbrev cX6_read : ByteArray := prog_8_method_78_code
def yX6_read : MethodName := ⟨RX6, "read", "(II)I"⟩
abbrev cX6_moveAll : ByteArray := prog_8_method_79_code
def yX6_moveAll : MethodName := ⟨RX6, "moveAll", "(Z[I)V"⟩
abbrev cX6_image : ByteArray := prog_8_method_80_code
def yX6_image : MethodName := ⟨RX6, "image", "()I"⟩
abbrev cX6_undo : ByteArray := prog_8_method_81_code
def yX6_undo : MethodName := ⟨RX6, "undo", "()I"⟩
abbrev cX6_tear : ByteArray := prog_8_method_82_code
def yX6_tear : MethodName := ⟨RX6, "tear", "()I"⟩
abbrev cX6_count : ByteArray := prog_8_method_83_code
def yX6_count : MethodName := ⟨RX6, "count", "(I)I"⟩
abbrev cX6_galesOf : ByteArray := prog_8_method_84_code
def yX6_galesOf : MethodName := ⟨RX6, "galesOf", "()I"⟩
abbrev cX6_status : ByteArray := prog_8_method_85_code
def yX6_status : MethodName := ⟨RX6, "status", "(I)I"⟩
def RJx145de : String := "java/io/Serializable"
def TJx145de : u_T := fun k => match k with
  | _ => ("", "", "", false)
def tyJx145de : Nat → FieldType := fun k => match k with
  | _ => .int
abbrev wsJx145de0 : List Cond := u_ws RJx145de TJx145de 0
theorem nmJx145de : ∀ a, a < 0 → ∀ b, b < 0 → a ≠ b → (TJx145de a).2.1 ≠ (TJx145de b).2.1 := by decide +kernel
theorem tyJx145de_ok : ∀ k, k < 0 → parseFieldDescriptor (TJx145de k).2.2.1 = some (tyJx145de k) := by decide +kernel
def RJx9f9b0 : String := "java/lang/CharSequence"
def TJx9f9b0 : u_T := fun k => match k with
  | _ => ("", "", "", false)
def tyJx9f9b0 : Nat → FieldType := fun k => match k with
  | _ => .int
abbrev wsJx9f9b00 : List Cond := u_ws RJx9f9b0 TJx9f9b0 0
theorem nmJx9f9b0 : ∀ a, a < 0 → ∀ b, b < 0 → a ≠ b → (TJx9f9b0 a).2.1 ≠ (TJx9f9b0 b).2.1 := by decide +kernel
theorem tyJx9f9b0_ok : ∀ k, k < 0 → parseFieldDescriptor (TJx9f9b0 k).2.2.1 = some (tyJx9f9b0 k) := by decide +kernel
def RJxb160c : String := "java/lang/Comparable"
def TJxb160c : u_T := fun k => match k with
  | _ => ("", "", "", false)
def tyJxb160c : Nat → FieldType := fun k => match k with
  | _ => .int
abbrev wsJxb160c0 : List Cond := u_ws RJxb160c TJxb160c 0
theorem nmJxb160c : ∀ a, a < 0 → ∀ b, b < 0 → a ≠ b → (TJxb160c a).2.1 ≠ (TJxb160c b).2.1 := by decide +kernel
theorem tyJxb160c_ok : ∀ k, k < 0 → parseFieldDescriptor (TJxb160c k).2.2.1 = some (tyJxb160c k) := by decide +kernel
def RJ6 : String := "java/lang/Integer"
def TJ6 : u_T := fun k => match k with
  | _ => ("", "", "", false)
def tyJ6 : Nat → FieldType := fun k => match k with
  | _ => .int
abbrev wsJ60 : List Cond := u_ws RJ6 TJ6 0
theorem nmJ6 : ∀ a, a < 0 → ∀ b, b < 0 → a ≠ b → (TJ6 a).2.1 ≠ (TJ6 b).2.1 := by decide +kernel
theorem tyJ6_ok : ∀ k, k < 0 → parseFieldDescriptor (TJ6 k).2.2.1 = some (tyJ6 k) := by decide +kernel
abbrev cJ6_bitCount_0f7a4 : ByteArray := prog_9_method_49_code
def yJ6_bitCount_0f7a4 : MethodName := ⟨RJ6, "bitCount", "(I)I"⟩
def RJ9 : String := "java/lang/Math"
def TJ9 : u_T := fun k => match k with
  | _ => ("", "", "", false)
def tyJ9 : Nat → FieldType := fun k => match k with
  | _ => .int
abbrev wsJ90 : List Cond := u_ws RJ9 TJ9 0
theorem nmJ9 : ∀ a, a < 0 → ∀ b, b < 0 → a ≠ b → (TJ9 a).2.1 ≠ (TJ9 b).2.1 := by decide +kernel
theorem tyJ9_ok : ∀ k, k < 0 → parseFieldDescriptor (TJ9 k).2.2.1 = some (tyJ9 k) := by decide +kernel
abbrev cJ9_floorMod_7cf53 : ByteArray := prog_10_method_50_code
def yJ9_floorMod_7cf53 : MethodName := ⟨RJ9, "floorMod", "(II)I"⟩
abbrev cJ9_min_7cf53 : ByteArray := prog_10_method_69_code
def yJ9_min_7cf53 : MethodName := ⟨RJ9, "min", "(II)I"⟩
def RJ0 : String := "java/lang/String"
def TJ0 : u_T := fun k => match k with
  | _ => ("", "", "", false)
def tyJ0 : Nat → FieldType := fun k => match k with
  | _ => .int
abbrev wsJ00 : List Cond := u_ws RJ0 TJ0 0
theorem nmJ0 : ∀ a, a < 0 → ∀ b, b < 0 → a ≠ b → (TJ0 a).2.1 ≠ (TJ0 b).2.1 := by decide +kernel
theorem tyJ0_ok : ∀ k, k < 0 → parseFieldDescriptor (TJ0 k).2.2.1 = some (tyJ0 k) := by decide +kernel
abbrev cJ0_length_8abf5 : ByteArray := prog_11_method_54_code
def yJ0_length_8abf5 : MethodName := ⟨RJ0, "length", "()I"⟩
abbrev cJ0_charAt_5068e : ByteArray := prog_11_method_56_code
def yJ0_charAt_5068e : MethodName := ⟨RJ0, "charAt", "(I)C"⟩
abbrev cJ0_coder_7d493 : ByteArray := prog_11_method_152_code
def yJ0_coder_7d493 : MethodName := ⟨RJ0, "coder", "()B"⟩
abbrev cJ0_isLatin1_aae02 : ByteArray := prog_11_method_154_code
def yJ0_isLatin1_aae02 : MethodName := ⟨RJ0, "isLatin1", "()Z"⟩
abbrev cJ0_checkIndex_df160 : ByteArray := prog_11_method_155_code
def yJ0_checkIndex_df160 : MethodName := ⟨RJ0, "checkIndex", "(II)V"⟩
def RJ1 : String := "java/lang/StringLatin1"
def TJ1 : u_T := fun k => match k with
  | _ => ("", "", "", false)
def tyJ1 : Nat → FieldType := fun k => match k with
  | _ => .int
abbrev wsJ10 : List Cond := u_ws RJ1 TJ1 0
theorem nmJ1 : ∀ a, a < 0 → ∀ b, b < 0 → a ≠ b → (TJ1 a).2.1 ≠ (TJ1 b).2.1 := by decide +kernel
theorem tyJ1_ok : ∀ k, k < 0 → parseFieldDescriptor (TJ1 k).2.2.1 = some (tyJ1 k) := by decide +kernel
abbrev cJ1_charAt_3b067 : ByteArray := prog_12_method_2_code
def yJ1_charAt_3b067 : MethodName := ⟨RJ1, "charAt", "([BI)C"⟩
def RJ2 : String := "java/lang/StringUTF16"
def TJ2 : u_T := fun k => match k with
  | _ => ("", "", "", false)
def tyJ2 : Nat → FieldType := fun k => match k with
  | _ => .int
abbrev wsJ20 : List Cond := u_ws RJ2 TJ2 0
theorem nmJ2 : ∀ a, a < 0 → ∀ b, b < 0 → a ≠ b → (TJ2 a).2.1 ≠ (TJ2 b).2.1 := by decide +kernel
theorem tyJ2_ok : ∀ k, k < 0 → parseFieldDescriptor (TJ2 k).2.2.1 = some (tyJ2 k) := by decide +kernel
abbrev cJ2_getChar_3b067 : ByteArray := prog_13_method_5_code
def yJ2_getChar_3b067 : MethodName := ⟨RJ2, "getChar", "([BI)C"⟩
abbrev cJ2_length_9d52b : ByteArray := prog_13_method_6_code
def yJ2_length_9d52b : MethodName := ⟨RJ2, "length", "([B)I"⟩
abbrev cJ2_charAt_3b067 : ByteArray := prog_13_method_83_code
def yJ2_charAt_3b067 : MethodName := ⟨RJ2, "charAt", "([BI)C"⟩
abbrev cJ2_checkIndex_2214a : ByteArray := prog_13_method_91_code
def yJ2_checkIndex_2214a : MethodName := ⟨RJ2, "checkIndex", "(I[B)V"⟩
def RJ10 : String := "java/lang/System"
def TJ10 : u_T := fun k => match k with
  | _ => ("", "", "", false)
def tyJ10 : Nat → FieldType := fun k => match k with
  | _ => .int
abbrev wsJ100 : List Cond := u_ws RJ10 TJ10 0
theorem nmJ10 : ∀ a, a < 0 → ∀ b, b < 0 → a ≠ b → (TJ10 a).2.1 ≠ (TJ10 b).2.1 := by decide +kernel
theorem tyJ10_ok : ∀ k, k < 0 → parseFieldDescriptor (TJ10 k).2.2.1 = some (tyJ10 k) := by decide +kernel
def RJxfd54e : String := "java/lang/constant/Constable"
def TJxfd54e : u_T := fun k => match k with
  | _ => ("", "", "", false)
def tyJxfd54e : Nat → FieldType := fun k => match k with
  | _ => .int
abbrev wsJxfd54e0 : List Cond := u_ws RJxfd54e TJxfd54e 0
theorem nmJxfd54e : ∀ a, a < 0 → ∀ b, b < 0 → a ≠ b → (TJxfd54e a).2.1 ≠ (TJxfd54e b).2.1 := by decide +kernel
theorem tyJxfd54e_ok : ∀ k, k < 0 → parseFieldDescriptor (TJxfd54e k).2.2.1 = some (tyJxfd54e k) := by decide +kernel
def RJx3cf43 : String := "java/lang/constant/ConstantDesc"
def TJx3cf43 : u_T := fun k => match k with
  | _ => ("", "", "", false)
def tyJx3cf43 : Nat → FieldType := fun k => match k with
  | _ => .int
abbrev wsJx3cf430 : List Cond := u_ws RJx3cf43 TJx3cf43 0
theorem nmJx3cf43 : ∀ a, a < 0 → ∀ b, b < 0 → a ≠ b → (TJx3cf43 a).2.1 ≠ (TJx3cf43 b).2.1 := by decide +kernel
theorem tyJx3cf43_ok : ∀ k, k < 0 → parseFieldDescriptor (TJx3cf43 k).2.2.1 = some (tyJx3cf43 k) := by decide +kernel
def RJ7 : String := "java/util/Arrays"
def TJ7 : u_T := fun k => match k with
  | _ => ("", "", "", false)
def tyJ7 : Nat → FieldType := fun k => match k with
  | _ => .int
abbrev wsJ70 : List Cond := u_ws RJ7 TJ7 0
theorem nmJ7 : ∀ a, a < 0 → ∀ b, b < 0 → a ≠ b → (TJ7 a).2.1 ≠ (TJ7 b).2.1 := by decide +kernel
theorem tyJ7_ok : ∀ k, k < 0 → parseFieldDescriptor (TJ7 k).2.2.1 = some (tyJ7 k) := by decide +kernel
abbrev cJ7_fill_d0a16 : ByteArray := prog_15_method_101_code
def yJ7_fill_d0a16 : MethodName := ⟨RJ7, "fill", "([JJ)V"⟩
def RJ3 : String := "jdk/internal/util/Preconditions"
def TJ3 : u_T := fun k => match k with
  | _ => ("", "", "", false)
def tyJ3 : Nat → FieldType := fun k => match k with
  | _ => .int
abbrev wsJ30 : List Cond := u_ws RJ3 TJ3 0
theorem nmJ3 : ∀ a, a < 0 → ∀ b, b < 0 → a ≠ b → (TJ3 a).2.1 ≠ (TJ3 b).2.1 := by decide +kernel
theorem tyJ3_ok : ∀ k, k < 0 → parseFieldDescriptor (TJ3 k).2.2.1 = some (tyJ3 k) := by decide +kernel
abbrev cJ3_checkIndex_8e157 : ByteArray := prog_16_method_11_code
def yJ3_checkIndex_8e157 : MethodName := ⟨RJ3, "checkIndex", "(IILjava/util/function/BiFunction;)I"⟩
def RL : String := "ReliefGalesLaw"
abbrev cL_law : ByteArray := code
def yL_law : MethodName := ⟨RL, "law", "([I)Z"⟩
