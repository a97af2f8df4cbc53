-- ===== PART A: goes FIRST, ahead of the names: the tables' words, and 'selects' of the private methods out of them =====
/-- a private method of a class that the tables say can be made, by its rows of tables_1 -/
def lw_okq (q : MethodName × Nat) : Prop := (q.1.cls ≠ "java/lang/invoke/MethodHandle" ∧ q.1.cls ≠ "java/lang/invoke/VarHandle") ∧ Cond.instantiable q.1.cls q.2 ∈ tables_1 ∧ Cond.privateMethod q.1 ∈ tables_1 ∧ Cond.instanceMethod q.1 ∈ tables_1
theorem lw_p0 : lw_okq (⟨"UnlikeGate$Text", "find", "(III)I"⟩, 2) := ⟨⟨by decide +kernel, by decide +kernel⟩, List.mem_of_getElem? (i := 29) (by decide +kernel), List.mem_of_getElem? (i := 257) (by decide +kernel), List.mem_of_getElem? (i := 258) (by decide +kernel)⟩
theorem lw_p1 : lw_okq (⟨"UnlikeGate$Text", "takeItem", "(LUnlikeGate$Told;II)Z"⟩, 2) := ⟨⟨by decide +kernel, by decide +kernel⟩, List.mem_of_getElem? (i := 29) (by decide +kernel), List.mem_of_getElem? (i := 261) (by decide +kernel), List.mem_of_getElem? (i := 262) (by decide +kernel)⟩
theorem lw_p2 : lw_okq (⟨"UnlikeGate$Text", "number", "(II)I"⟩, 2) := ⟨⟨by decide +kernel, by decide +kernel⟩, List.mem_of_getElem? (i := 29) (by decide +kernel), List.mem_of_getElem? (i := 265) (by decide +kernel), List.mem_of_getElem? (i := 266) (by decide +kernel)⟩
theorem lw_p3 : lw_okq (⟨"UnlikeGate$Told", "takeBorrowed", "(I)Z"⟩, 9) := ⟨⟨by decide +kernel, by decide +kernel⟩, List.mem_of_getElem? (i := 154) (by decide +kernel), List.mem_of_getElem? (i := 273) (by decide +kernel), List.mem_of_getElem? (i := 274) (by decide +kernel)⟩
theorem lw_p4 : lw_okq (⟨"UnlikeGate", "passGate", "(I)I"⟩, 10) := ⟨⟨by decide +kernel, by decide +kernel⟩, List.mem_of_getElem? (i := 21) (by decide +kernel), List.mem_of_getElem? (i := 431) (by decide +kernel), List.mem_of_getElem? (i := 432) (by decide +kernel)⟩
theorem lw_p5 : lw_okq (⟨"UnlikeGate$Gate", "remember", "()V"⟩, 6) := ⟨⟨by decide +kernel, by decide +kernel⟩, List.mem_of_getElem? (i := 44) (by decide +kernel), List.mem_of_getElem? (i := 439) (by decide +kernel), List.mem_of_getElem? (i := 440) (by decide +kernel)⟩
theorem lw_p6 : lw_okq (⟨"UnlikeGate$Gate", "packed", "()I"⟩, 6) := ⟨⟨by decide +kernel, by decide +kernel⟩, List.mem_of_getElem? (i := 44) (by decide +kernel), List.mem_of_getElem? (i := 446) (by decide +kernel), List.mem_of_getElem? (i := 447) (by decide +kernel)⟩
theorem lw_p7 : lw_okq (⟨"UnlikeGate$Gate", "unpack", "(I)V"⟩, 6) := ⟨⟨by decide +kernel, by decide +kernel⟩, List.mem_of_getElem? (i := 44) (by decide +kernel), List.mem_of_getElem? (i := 471) (by decide +kernel), List.mem_of_getElem? (i := 472) (by decide +kernel)⟩
theorem lw_p8 : lw_okq (⟨"UnlikeGate$LongestRows", "fill", "(LUnlikeGate$Told;)V"⟩, 2) := ⟨⟨by decide +kernel, by decide +kernel⟩, List.mem_of_getElem? (i := 121) (by decide +kernel), List.mem_of_getElem? (i := 509) (by decide +kernel), List.mem_of_getElem? (i := 510) (by decide +kernel)⟩
theorem lw_p9 : lw_okq (⟨"UnlikeGate$LongestRows", "lengthFrom", "(LUnlikeGate$Told;III)I"⟩, 2) := ⟨⟨by decide +kernel, by decide +kernel⟩, List.mem_of_getElem? (i := 121) (by decide +kernel), List.mem_of_getElem? (i := 517) (by decide +kernel), List.mem_of_getElem? (i := 518) (by decide +kernel)⟩
theorem lw_p10 : lw_okq (⟨"UnlikeGate$LongestRows", "length", "(III)I"⟩, 2) := ⟨⟨by decide +kernel, by decide +kernel⟩, List.mem_of_getElem? (i := 121) (by decide +kernel), List.mem_of_getElem? (i := 530) (by decide +kernel), List.mem_of_getElem? (i := 531) (by decide +kernel)⟩
theorem lw_p11 : lw_okq (⟨"UnlikeGate$LongestRows", "firstWith", "(LUnlikeGate$Told;LUnlikeGate$Line;II)I"⟩, 2) := ⟨⟨by decide +kernel, by decide +kernel⟩, List.mem_of_getElem? (i := 121) (by decide +kernel), List.mem_of_getElem? (i := 542) (by decide +kernel), List.mem_of_getElem? (i := 543) (by decide +kernel)⟩
theorem lw_p12 : lw_okq (⟨"UnlikeGate$Walks", "spread", "(LUnlikeGate$Told;II)V"⟩, 2) := ⟨⟨by decide +kernel, by decide +kernel⟩, List.mem_of_getElem? (i := 107) (by decide +kernel), List.mem_of_getElem? (i := 586) (by decide +kernel), List.mem_of_getElem? (i := 587) (by decide +kernel)⟩
theorem lw_p13 : lw_okq (⟨"UnlikeGate$Strangers", "reachedBy", "(LUnlikeGate$Told;II)I"⟩, 1) := ⟨⟨by decide +kernel, by decide +kernel⟩, List.mem_of_getElem? (i := 134) (by decide +kernel), List.mem_of_getElem? (i := 611) (by decide +kernel), List.mem_of_getElem? (i := 612) (by decide +kernel)⟩
theorem lw_p14 : lw_okq (⟨"UnlikeGate$Strangers", "turnedInto", "(LUnlikeGate$Told;II)I"⟩, 1) := ⟨⟨by decide +kernel, by decide +kernel⟩, List.mem_of_getElem? (i := 134) (by decide +kernel), List.mem_of_getElem? (i := 619) (by decide +kernel), List.mem_of_getElem? (i := 620) (by decide +kernel)⟩
theorem lw_p15 : lw_okq (⟨"UnlikeGate$Strangers", "turnedOne", "(III)I"⟩, 1) := ⟨⟨by decide +kernel, by decide +kernel⟩, List.mem_of_getElem? (i := 134) (by decide +kernel), List.mem_of_getElem? (i := 623) (by decide +kernel), List.mem_of_getElem? (i := 624) (by decide +kernel)⟩
def lw_privs_1 : List (MethodName × Nat) := [(⟨"UnlikeGate$Text", "find", "(III)I"⟩, 2), (⟨"UnlikeGate$Text", "takeItem", "(LUnlikeGate$Told;II)Z"⟩, 2), (⟨"UnlikeGate$Text", "number", "(II)I"⟩, 2), (⟨"UnlikeGate$Told", "takeBorrowed", "(I)Z"⟩, 9), (⟨"UnlikeGate", "passGate", "(I)I"⟩, 10), (⟨"UnlikeGate$Gate", "remember", "()V"⟩, 6), (⟨"UnlikeGate$Gate", "packed", "()I"⟩, 6), (⟨"UnlikeGate$Gate", "unpack", "(I)V"⟩, 6), (⟨"UnlikeGate$LongestRows", "fill", "(LUnlikeGate$Told;)V"⟩, 2), (⟨"UnlikeGate$LongestRows", "lengthFrom", "(LUnlikeGate$Told;III)I"⟩, 2), (⟨"UnlikeGate$LongestRows", "length", "(III)I"⟩, 2), (⟨"UnlikeGate$LongestRows", "firstWith", "(LUnlikeGate$Told;LUnlikeGate$Line;II)I"⟩, 2), (⟨"UnlikeGate$Walks", "spread", "(LUnlikeGate$Told;II)V"⟩, 2), (⟨"UnlikeGate$Strangers", "reachedBy", "(LUnlikeGate$Told;II)I"⟩, 1), (⟨"UnlikeGate$Strangers", "turnedInto", "(LUnlikeGate$Told;II)I"⟩, 1), (⟨"UnlikeGate$Strangers", "turnedOne", "(III)I"⟩, 1)]
theorem lw_r1 : ∀ q ∈ lw_privs_1, lw_okq q := List.forall_mem_cons.mpr ⟨lw_p0, List.forall_mem_cons.mpr ⟨lw_p1, List.forall_mem_cons.mpr ⟨lw_p2, List.forall_mem_cons.mpr ⟨lw_p3, List.forall_mem_cons.mpr ⟨lw_p4, List.forall_mem_cons.mpr ⟨lw_p5, List.forall_mem_cons.mpr ⟨lw_p6, List.forall_mem_cons.mpr ⟨lw_p7, List.forall_mem_cons.mpr ⟨lw_p8, List.forall_mem_cons.mpr ⟨lw_p9, List.forall_mem_cons.mpr ⟨lw_p10, List.forall_mem_cons.mpr ⟨lw_p11, List.forall_mem_cons.mpr ⟨lw_p12, List.forall_mem_cons.mpr ⟨lw_p13, List.forall_mem_cons.mpr ⟨lw_p14, List.forall_mem_cons.mpr ⟨lw_p15, fun _ h => absurd h List.not_mem_nil⟩⟩⟩⟩⟩⟩⟩⟩⟩⟩⟩⟩⟩⟩⟩⟩
theorem lw_p16 : lw_okq (⟨"UnlikeGate$Strangers", "reaches", "(III)Z"⟩, 1) := ⟨⟨by decide +kernel, by decide +kernel⟩, List.mem_of_getElem? (i := 134) (by decide +kernel), List.mem_of_getElem? (i := 629) (by decide +kernel), List.mem_of_getElem? (i := 630) (by decide +kernel)⟩
theorem lw_p17 : lw_okq (⟨"UnlikeGate$Lending", "othersFrom", "(LUnlikeGate$Told;LUnlikeGate$Row;II)I"⟩, 1) := ⟨⟨by decide +kernel, by decide +kernel⟩, List.mem_of_getElem? (i := 144) (by decide +kernel), List.mem_of_getElem? (i := 654) (by decide +kernel), List.mem_of_getElem? (i := 655) (by decide +kernel)⟩
theorem lw_p18 : lw_okq (⟨"UnlikeGate$Lending", "mayFollow", "(LUnlikeGate$Told;LUnlikeGate$Row;III)Z"⟩, 1) := ⟨⟨by decide +kernel, by decide +kernel⟩, List.mem_of_getElem? (i := 144) (by decide +kernel), List.mem_of_getElem? (i := 664) (by decide +kernel), List.mem_of_getElem? (i := 665) (by decide +kernel)⟩
theorem lw_p19 : lw_okq (⟨"UnlikeGate$Lending", "firstHat", "(LUnlikeGate$Told;LUnlikeGate$Row;III)I"⟩, 1) := ⟨⟨by decide +kernel, by decide +kernel⟩, List.mem_of_getElem? (i := 144) (by decide +kernel), List.mem_of_getElem? (i := 680) (by decide +kernel), List.mem_of_getElem? (i := 681) (by decide +kernel)⟩
theorem lw_p20 : lw_okq (⟨"UnlikeGateModel", "begins", "()V"⟩, 23) := ⟨⟨by decide +kernel, by decide +kernel⟩, List.mem_of_getElem? (i := 726) (by decide +kernel), List.mem_of_getElem? (i := 732) (by decide +kernel), List.mem_of_getElem? (i := 733) (by decide +kernel)⟩
theorem lw_p21 : lw_okq (⟨"UnlikeGateModel", "takes", "()V"⟩, 23) := ⟨⟨by decide +kernel, by decide +kernel⟩, List.mem_of_getElem? (i := 726) (by decide +kernel), List.mem_of_getElem? (i := 736) (by decide +kernel), List.mem_of_getElem? (i := 737) (by decide +kernel)⟩
theorem lw_p22 : lw_okq (⟨"UnlikeGateModel", "isItem", "()Z"⟩, 23) := ⟨⟨by decide +kernel, by decide +kernel⟩, List.mem_of_getElem? (i := 726) (by decide +kernel), List.mem_of_getElem? (i := 826) (by decide +kernel), List.mem_of_getElem? (i := 827) (by decide +kernel)⟩
theorem lw_p23 : lw_okq (⟨"UnlikeGateModel", "isThing", "()Z"⟩, 23) := ⟨⟨by decide +kernel, by decide +kernel⟩, List.mem_of_getElem? (i := 726) (by decide +kernel), List.mem_of_getElem? (i := 830) (by decide +kernel), List.mem_of_getElem? (i := 831) (by decide +kernel)⟩
theorem lw_p24 : lw_okq (⟨"UnlikeGateModel", "number", "()I"⟩, 23) := ⟨⟨by decide +kernel, by decide +kernel⟩, List.mem_of_getElem? (i := 726) (by decide +kernel), List.mem_of_getElem? (i := 834) (by decide +kernel), List.mem_of_getElem? (i := 835) (by decide +kernel)⟩
theorem lw_p25 : lw_okq (⟨"UnlikeGateModel", "borrowed", "()I"⟩, 23) := ⟨⟨by decide +kernel, by decide +kernel⟩, List.mem_of_getElem? (i := 726) (by decide +kernel), List.mem_of_getElem? (i := 842) (by decide +kernel), List.mem_of_getElem? (i := 843) (by decide +kernel)⟩
theorem lw_p26 : lw_okq (⟨"UnlikeGateModel", "isPerson", "()Z"⟩, 23) := ⟨⟨by decide +kernel, by decide +kernel⟩, List.mem_of_getElem? (i := 726) (by decide +kernel), List.mem_of_getElem? (i := 846) (by decide +kernel), List.mem_of_getElem? (i := 847) (by decide +kernel)⟩
theorem lw_p27 : lw_okq (⟨"UnlikeGateModel", "isMan", "(I)Z"⟩, 23) := ⟨⟨by decide +kernel, by decide +kernel⟩, List.mem_of_getElem? (i := 726) (by decide +kernel), List.mem_of_getElem? (i := 861) (by decide +kernel), List.mem_of_getElem? (i := 862) (by decide +kernel)⟩
theorem lw_p28 : lw_okq (⟨"UnlikeGateModel", "codeOf", "(I)I"⟩, 23) := ⟨⟨by decide +kernel, by decide +kernel⟩, List.mem_of_getElem? (i := 726) (by decide +kernel), List.mem_of_getElem? (i := 866) (by decide +kernel), List.mem_of_getElem? (i := 867) (by decide +kernel)⟩
theorem lw_p29 : lw_okq (⟨"UnlikeGateModel", "unlike", "(II)I"⟩, 23) := ⟨⟨by decide +kernel, by decide +kernel⟩, List.mem_of_getElem? (i := 726) (by decide +kernel), List.mem_of_getElem? (i := 874) (by decide +kernel), List.mem_of_getElem? (i := 875) (by decide +kernel)⟩
theorem lw_p30 : lw_okq (⟨"UnlikeGateModel", "seen", "()I"⟩, 23) := ⟨⟨by decide +kernel, by decide +kernel⟩, List.mem_of_getElem? (i := 726) (by decide +kernel), List.mem_of_getElem? (i := 878) (by decide +kernel), List.mem_of_getElem? (i := 879) (by decide +kernel)⟩
theorem lw_p31 : lw_okq (⟨"UnlikeGateModel", "mayNow", "(I)Z"⟩, 23) := ⟨⟨by decide +kernel, by decide +kernel⟩, List.mem_of_getElem? (i := 726) (by decide +kernel), List.mem_of_getElem? (i := 886) (by decide +kernel), List.mem_of_getElem? (i := 887) (by decide +kernel)⟩
def lw_privs_2 : List (MethodName × Nat) := [(⟨"UnlikeGate$Strangers", "reaches", "(III)Z"⟩, 1), (⟨"UnlikeGate$Lending", "othersFrom", "(LUnlikeGate$Told;LUnlikeGate$Row;II)I"⟩, 1), (⟨"UnlikeGate$Lending", "mayFollow", "(LUnlikeGate$Told;LUnlikeGate$Row;III)Z"⟩, 1), (⟨"UnlikeGate$Lending", "firstHat", "(LUnlikeGate$Told;LUnlikeGate$Row;III)I"⟩, 1), (⟨"UnlikeGateModel", "begins", "()V"⟩, 23), (⟨"UnlikeGateModel", "takes", "()V"⟩, 23), (⟨"UnlikeGateModel", "isItem", "()Z"⟩, 23), (⟨"UnlikeGateModel", "isThing", "()Z"⟩, 23), (⟨"UnlikeGateModel", "number", "()I"⟩, 23), (⟨"UnlikeGateModel", "borrowed", "()I"⟩, 23), (⟨"UnlikeGateModel", "isPerson", "()Z"⟩, 23), (⟨"UnlikeGateModel", "isMan", "(I)Z"⟩, 23), (⟨"UnlikeGateModel", "codeOf", "(I)I"⟩, 23), (⟨"UnlikeGateModel", "unlike", "(II)I"⟩, 23), (⟨"UnlikeGateModel", "seen", "()I"⟩, 23), (⟨"UnlikeGateModel", "mayNow", "(I)Z"⟩, 23)]
theorem lw_r2 : ∀ q ∈ lw_privs_2, lw_okq q := List.forall_mem_cons.mpr ⟨lw_p16, List.forall_mem_cons.mpr ⟨lw_p17, List.forall_mem_cons.mpr ⟨lw_p18, List.forall_mem_cons.mpr ⟨lw_p19, List.forall_mem_cons.mpr ⟨lw_p20, List.forall_mem_cons.mpr ⟨lw_p21, List.forall_mem_cons.mpr ⟨lw_p22, List.forall_mem_cons.mpr ⟨lw_p23, List.forall_mem_cons.mpr ⟨lw_p24, List.forall_mem_cons.mpr ⟨lw_p25, List.forall_mem_cons.mpr ⟨lw_p26, List.forall_mem_cons.mpr ⟨lw_p27, List.forall_mem_cons.mpr ⟨lw_p28, List.forall_mem_cons.mpr ⟨lw_p29, List.forall_mem_cons.mpr ⟨lw_p30, List.forall_mem_cons.mpr ⟨lw_p31, fun _ h => absurd h List.not_mem_nil⟩⟩⟩⟩⟩⟩⟩⟩⟩⟩⟩⟩⟩⟩⟩⟩
theorem lw_p32 : lw_okq (⟨"UnlikeGateModel", "goes", "(II)I"⟩, 23) := ⟨⟨by decide +kernel, by decide +kernel⟩, List.mem_of_getElem? (i := 726) (by decide +kernel), List.mem_of_getElem? (i := 900) (by decide +kernel), List.mem_of_getElem? (i := 901) (by decide +kernel)⟩
theorem lw_p33 : lw_okq (⟨"UnlikeGateModel", "longestOf", "(I)I"⟩, 23) := ⟨⟨by decide +kernel, by decide +kernel⟩, List.mem_of_getElem? (i := 726) (by decide +kernel), List.mem_of_getElem? (i := 932) (by decide +kernel), List.mem_of_getElem? (i := 933) (by decide +kernel)⟩
theorem lw_p34 : lw_okq (⟨"UnlikeGateModel", "rows", "(III)J"⟩, 23) := ⟨⟨by decide +kernel, by decide +kernel⟩, List.mem_of_getElem? (i := 726) (by decide +kernel), List.mem_of_getElem? (i := 945) (by decide +kernel), List.mem_of_getElem? (i := 946) (by decide +kernel)⟩
theorem lw_p35 : lw_okq (⟨"UnlikeGateModel", "mark", "(I)I"⟩, 23) := ⟨⟨by decide +kernel, by decide +kernel⟩, List.mem_of_getElem? (i := 726) (by decide +kernel), List.mem_of_getElem? (i := 949) (by decide +kernel), List.mem_of_getElem? (i := 950) (by decide +kernel)⟩
theorem lw_p36 : lw_okq (⟨"UnlikeGateModel", "plain", "(I)I"⟩, 23) := ⟨⟨by decide +kernel, by decide +kernel⟩, List.mem_of_getElem? (i := 726) (by decide +kernel), List.mem_of_getElem? (i := 962) (by decide +kernel), List.mem_of_getElem? (i := 963) (by decide +kernel)⟩
theorem lw_p37 : lw_okq (⟨"UnlikeGateModel", "valueOf", "(II)I"⟩, 23) := ⟨⟨by decide +kernel, by decide +kernel⟩, List.mem_of_getElem? (i := 726) (by decide +kernel), List.mem_of_getElem? (i := 966) (by decide +kernel), List.mem_of_getElem? (i := 967) (by decide +kernel)⟩
theorem lw_p38 : lw_okq (⟨"UnlikeGateModel", "circles", "(I)V"⟩, 23) := ⟨⟨by decide +kernel, by decide +kernel⟩, List.mem_of_getElem? (i := 726) (by decide +kernel), List.mem_of_getElem? (i := 970) (by decide +kernel), List.mem_of_getElem? (i := 971) (by decide +kernel)⟩
theorem lw_p39 : lw_okq (⟨"UnlikeGateModel", "all", "()I"⟩, 23) := ⟨⟨by decide +kernel, by decide +kernel⟩, List.mem_of_getElem? (i := 726) (by decide +kernel), List.mem_of_getElem? (i := 974) (by decide +kernel), List.mem_of_getElem? (i := 975) (by decide +kernel)⟩
theorem lw_p40 : lw_okq (⟨"UnlikeGateModel", "unlikeCodes", "(II)I"⟩, 23) := ⟨⟨by decide +kernel, by decide +kernel⟩, List.mem_of_getElem? (i := 726) (by decide +kernel), List.mem_of_getElem? (i := 978) (by decide +kernel), List.mem_of_getElem? (i := 979) (by decide +kernel)⟩
theorem lw_p41 : lw_okq (⟨"UnlikeGateModel", "loans", "()V"⟩, 23) := ⟨⟨by decide +kernel, by decide +kernel⟩, List.mem_of_getElem? (i := 726) (by decide +kernel), List.mem_of_getElem? (i := 986) (by decide +kernel), List.mem_of_getElem? (i := 987) (by decide +kernel)⟩
theorem lw_p42 : lw_okq (⟨"UnlikeGateModel", "lentCode", "(II)I"⟩, 23) := ⟨⟨by decide +kernel, by decide +kernel⟩, List.mem_of_getElem? (i := 726) (by decide +kernel), List.mem_of_getElem? (i := 990) (by decide +kernel), List.mem_of_getElem? (i := 991) (by decide +kernel)⟩
theorem lw_p43 : lw_okq (⟨"UnlikeGateModel", "goesWith", "(II)Z"⟩, 23) := ⟨⟨by decide +kernel, by decide +kernel⟩, List.mem_of_getElem? (i := 726) (by decide +kernel), List.mem_of_getElem? (i := 994) (by decide +kernel), List.mem_of_getElem? (i := 995) (by decide +kernel)⟩
theorem lw_p44 : lw_okq (⟨"UnlikeGateModel", "others", "(II)I"⟩, 23) := ⟨⟨by decide +kernel, by decide +kernel⟩, List.mem_of_getElem? (i := 726) (by decide +kernel), List.mem_of_getElem? (i := 998) (by decide +kernel), List.mem_of_getElem? (i := 999) (by decide +kernel)⟩
theorem lw_p45 : lw_okq (⟨"UnlikeGateModel", "copies", "(II)V"⟩, 23) := ⟨⟨by decide +kernel, by decide +kernel⟩, List.mem_of_getElem? (i := 726) (by decide +kernel), List.mem_of_getElem? (i := 1019) (by decide +kernel), List.mem_of_getElem? (i := 1020) (by decide +kernel)⟩
def lw_privs_3 : List (MethodName × Nat) := [(⟨"UnlikeGateModel", "goes", "(II)I"⟩, 23), (⟨"UnlikeGateModel", "longestOf", "(I)I"⟩, 23), (⟨"UnlikeGateModel", "rows", "(III)J"⟩, 23), (⟨"UnlikeGateModel", "mark", "(I)I"⟩, 23), (⟨"UnlikeGateModel", "plain", "(I)I"⟩, 23), (⟨"UnlikeGateModel", "valueOf", "(II)I"⟩, 23), (⟨"UnlikeGateModel", "circles", "(I)V"⟩, 23), (⟨"UnlikeGateModel", "all", "()I"⟩, 23), (⟨"UnlikeGateModel", "unlikeCodes", "(II)I"⟩, 23), (⟨"UnlikeGateModel", "loans", "()V"⟩, 23), (⟨"UnlikeGateModel", "lentCode", "(II)I"⟩, 23), (⟨"UnlikeGateModel", "goesWith", "(II)Z"⟩, 23), (⟨"UnlikeGateModel", "others", "(II)I"⟩, 23), (⟨"UnlikeGateModel", "copies", "(II)V"⟩, 23)]
theorem lw_r3 : ∀ q ∈ lw_privs_3, lw_okq q := List.forall_mem_cons.mpr ⟨lw_p32, List.forall_mem_cons.mpr ⟨lw_p33, List.forall_mem_cons.mpr ⟨lw_p34, List.forall_mem_cons.mpr ⟨lw_p35, List.forall_mem_cons.mpr ⟨lw_p36, List.forall_mem_cons.mpr ⟨lw_p37, List.forall_mem_cons.mpr ⟨lw_p38, List.forall_mem_cons.mpr ⟨lw_p39, List.forall_mem_cons.mpr ⟨lw_p40, List.forall_mem_cons.mpr ⟨lw_p41, List.forall_mem_cons.mpr ⟨lw_p42, List.forall_mem_cons.mpr ⟨lw_p43, List.forall_mem_cons.mpr ⟨lw_p44, List.forall_mem_cons.mpr ⟨lw_p45, fun _ h => absurd h List.not_mem_nil⟩⟩⟩⟩⟩⟩⟩⟩⟩⟩⟩⟩⟩⟩
def lw_privs : List (MethodName × Nat) := lw_privs_1 ++ (lw_privs_2 ++ (lw_privs_3))
def lw_tbl : List Cond := k2_sels lw_privs ++ tables_1
theorem lw_privs_ok : ∀ q ∈ lw_privs, lw_okq q := by
  show ∀ q ∈ lw_privs_1 ++ (lw_privs_2 ++ (lw_privs_3)), lw_okq q
  exact List.forall_mem_append.mpr ⟨lw_r1, List.forall_mem_append.mpr ⟨lw_r2, lw_r3⟩⟩
def RX0 : String := "UnlikeGate$Gate"
def TX0 : u_T := fun k => match k with
  | 0 => ("UnlikeGate$Gate", "line", "LUnlikeGate$Line;", true)
  | 1 => ("UnlikeGate$Gate", "earlier", "[I", true)
  | 2 => ("UnlikeGate$Gate", "stored", "[I", true)
  | 3 => ("UnlikeGate$Gate", "inside", "I", false)
  | 4 => ("UnlikeGate$Gate", "undoable", "I", false)
  | _ => ("UnlikeGate$Gate", "kept", "I", false)
def tyX0 : Nat → FieldType := fun k => match k with
  | 0 => .object "UnlikeGate$Line"
  | 1 => .array .int
  | 2 => .array .int
  | 3 => .int
  | 4 => .int
  | _ => .int
abbrev wsX00 : List Cond := u_ws RX0 TX0 6
theorem nmX0 : ∀ a, a < 6 → ∀ b, b < 6 → a ≠ b → (TX0 a).2.1 ≠ (TX0 b).2.1 := by decide +kernel
theorem tyX0_ok : ∀ k, k < 6 → parseFieldDescriptor (TX0 k).2.2.1 = some (tyX0 k) := by decide +kernel
abbrev cX0_init : ByteArray := prog_2_method_1_code
def yX0_init : MethodName := ⟨RX0, "<init>", "()V"⟩
abbrev cX0_clear : ByteArray := prog_2_method_2_code
def yX0_clear : MethodName := ⟨RX0, "clear", "()V"⟩
abbrev cX0_holds : ByteArray := prog_2_method_3_code
def yX0_holds : MethodName := ⟨RX0, "holds", "(I)Z"⟩
abbrev cX0_howManyIn : ByteArray := prog_2_method_4_code
def yX0_howManyIn : MethodName := ⟨RX0, "howManyIn", "()I"⟩
abbrev cX0_pass : ByteArray := prog_2_method_5_code
def yX0_pass : MethodName := ⟨RX0, "pass", "(LUnlikeGate$Told;I)V"⟩
abbrev cX0_remember : ByteArray := prog_2_method_6_code
def yX0_remember : MethodName := ⟨RX0, "remember", "()V"⟩
abbrev cX0_takeBack : ByteArray := prog_2_method_7_code
def yX0_takeBack : MethodName := ⟨RX0, "takeBack", "()Z"⟩
abbrev cX0_store : ByteArray := prog_2_method_8_code
def yX0_store : MethodName := ⟨RX0, "store", "()Z"⟩
abbrev cX0_fetch : ByteArray := prog_2_method_9_code
def yX0_fetch : MethodName := ⟨RX0, "fetch", "()Z"⟩
abbrev cX0_packed : ByteArray := prog_2_method_10_code
def yX0_packed : MethodName := ⟨RX0, "packed", "()I"⟩
abbrev cX0_unpack : ByteArray := prog_2_method_11_code
def yX0_unpack : MethodName := ⟨RX0, "unpack", "(I)V"⟩
def RX1 : String := "UnlikeGate$Lending"
def TX1 : u_T := fun k => match k with
  | _ => ("UnlikeGate$Lending", "others", "[I", true)
def tyX1 : Nat → FieldType := fun k => match k with
  | _ => .array .int
abbrev wsX10 : List Cond := u_ws RX1 TX1 1
theorem nmX1 : ∀ a, a < 1 → ∀ b, b < 1 → a ≠ b → (TX1 a).2.1 ≠ (TX1 b).2.1 := by decide +kernel
theorem tyX1_ok : ∀ k, k < 1 → parseFieldDescriptor (TX1 k).2.2.1 = some (tyX1 k) := by decide +kernel
abbrev cX1_init : ByteArray := prog_3_method_1_code
def yX1_init : MethodName := ⟨RX1, "<init>", "()V"⟩
abbrev cX1_fewest : ByteArray := prog_3_method_2_code
def yX1_fewest : MethodName := ⟨RX1, "fewest", "(LUnlikeGate$Told;LUnlikeGate$Row;)I"⟩
abbrev cX1_othersFrom : ByteArray := prog_3_method_3_code
def yX1_othersFrom : MethodName := ⟨RX1, "othersFrom", "(LUnlikeGate$Told;LUnlikeGate$Row;II)I"⟩
abbrev cX1_mayFollow : ByteArray := prog_3_method_4_code
def yX1_mayFollow : MethodName := ⟨RX1, "mayFollow", "(LUnlikeGate$Told;LUnlikeGate$Row;III)Z"⟩
abbrev cX1_codeAt : ByteArray := prog_3_method_5_code
def yX1_codeAt : MethodName := ⟨RX1, "codeAt", "(LUnlikeGate$Told;LUnlikeGate$Row;I)I"⟩
abbrev cX1_firstHat : ByteArray := prog_3_method_6_code
def yX1_firstHat : MethodName := ⟨RX1, "firstHat", "(LUnlikeGate$Told;LUnlikeGate$Row;III)I"⟩
def RX2 : String := "UnlikeGate$Line"
def TX2 : u_T := fun k => match k with
  | 0 => ("UnlikeGate$Line", "latest", "I", false)
  | _ => ("UnlikeGate$Line", "differed", "I", false)
def tyX2 : Nat → FieldType := fun k => match k with
  | 0 => .int
  | _ => .int
abbrev wsX20 : List Cond := u_ws RX2 TX2 2
theorem nmX2 : ∀ a, a < 2 → ∀ b, b < 2 → a ≠ b → (TX2 a).2.1 ≠ (TX2 b).2.1 := by decide +kernel
theorem tyX2_ok : ∀ k, k < 2 → parseFieldDescriptor (TX2 k).2.2.1 = some (tyX2 k) := by decide +kernel
abbrev cX2_init : ByteArray := prog_4_method_1_code
def yX2_init : MethodName := ⟨RX2, "<init>", "()V"⟩
abbrev cX2_clear : ByteArray := prog_4_method_2_code
def yX2_clear : MethodName := ⟨RX2, "clear", "()V"⟩
abbrev cX2_unlikeLatest : ByteArray := prog_4_method_3_code
def yX2_unlikeLatest : MethodName := ⟨RX2, "unlikeLatest", "(LUnlikeGate$Told;I)I"⟩
abbrev cX2_lets : ByteArray := prog_4_method_4_code
def yX2_lets : MethodName := ⟨RX2, "lets", "(LUnlikeGate$Told;I)Z"⟩
abbrev cX2_take : ByteArray := prog_4_method_5_code
def yX2_take : MethodName := ⟨RX2, "take", "(LUnlikeGate$Told;I)V"⟩
def RX3 : String := "UnlikeGate$LongestRows"
def TX3 : u_T := fun k => match k with
  | 0 => ("UnlikeGate$LongestRows", "lengths", "[I", true)
  | _ => ("UnlikeGate$LongestRows", "known", "Z", false)
def tyX3 : Nat → FieldType := fun k => match k with
  | 0 => .array .int
  | _ => .boolean
abbrev wsX30 : List Cond := u_ws RX3 TX3 2
theorem nmX3 : ∀ a, a < 2 → ∀ b, b < 2 → a ≠ b → (TX3 a).2.1 ≠ (TX3 b).2.1 := by decide +kernel
theorem tyX3_ok : ∀ k, k < 2 → parseFieldDescriptor (TX3 k).2.2.1 = some (tyX3 k) := by decide +kernel
abbrev cX3_init : ByteArray := prog_5_method_1_code
def yX3_init : MethodName := ⟨RX3, "<init>", "()V"⟩
abbrev cX3_forget : ByteArray := prog_5_method_2_code
def yX3_forget : MethodName := ⟨RX3, "forget", "()V"⟩
abbrev cX3_most : ByteArray := prog_5_method_3_code
def yX3_most : MethodName := ⟨RX3, "most", "(LUnlikeGate$Told;I)I"⟩
abbrev cX3_length : ByteArray := prog_5_method_4_code
def yX3_length : MethodName := ⟨RX3, "length", "(III)I"⟩
abbrev cX3_fill : ByteArray := prog_5_method_5_code
def yX3_fill : MethodName := ⟨RX3, "fill", "(LUnlikeGate$Told;)V"⟩
abbrev cX3_lengthFrom : ByteArray := prog_5_method_6_code
def yX3_lengthFrom : MethodName := ⟨RX3, "lengthFrom", "(LUnlikeGate$Told;III)I"⟩
abbrev cX3_personAt : ByteArray := prog_5_method_7_code
def yX3_personAt : MethodName := ⟨RX3, "personAt", "(LUnlikeGate$Told;LUnlikeGate$Line;III)I"⟩
abbrev cX3_firstWith : ByteArray := prog_5_method_8_code
def yX3_firstWith : MethodName := ⟨RX3, "firstWith", "(LUnlikeGate$Told;LUnlikeGate$Line;II)I"⟩
def RX4 : String := "UnlikeGate$Row"
def TX4 : u_T := fun k => match k with
  | 0 => ("UnlikeGate$Row", "people", "[I", true)
  | _ => ("UnlikeGate$Row", "size", "I", false)
def tyX4 : Nat → FieldType := fun k => match k with
  | 0 => .array .int
  | _ => .int
abbrev wsX40 : List Cond := u_ws RX4 TX4 2
theorem nmX4 : ∀ a, a < 2 → ∀ b, b < 2 → a ≠ b → (TX4 a).2.1 ≠ (TX4 b).2.1 := by decide +kernel
theorem tyX4_ok : ∀ k, k < 2 → parseFieldDescriptor (TX4 k).2.2.1 = some (tyX4 k) := by decide +kernel
abbrev cX4_init : ByteArray := prog_6_method_1_code
def yX4_init : MethodName := ⟨RX4, "<init>", "()V"⟩
abbrev cX4_append : ByteArray := prog_6_method_2_code
def yX4_append : MethodName := ⟨RX4, "append", "(I)Z"⟩
abbrev cX4_at : ByteArray := prog_6_method_3_code
def yX4_at : MethodName := ⟨RX4, "at", "(I)I"⟩
def RX5 : String := "UnlikeGate$Strangers"
def TX5 : u_T := fun k => match k with
  | _ => ("UnlikeGate$Strangers", "reaching", "[I", true)
def tyX5 : Nat → FieldType := fun k => match k with
  | _ => .array .int
abbrev wsX50 : List Cond := u_ws RX5 TX5 1
theorem nmX5 : ∀ a, a < 1 → ∀ b, b < 1 → a ≠ b → (TX5 a).2.1 ≠ (TX5 b).2.1 := by decide +kernel
theorem tyX5_ok : ∀ k, k < 1 → parseFieldDescriptor (TX5 k).2.2.1 = some (tyX5 k) := by decide +kernel
abbrev cX5_init : ByteArray := prog_7_method_1_code
def yX5_init : MethodName := ⟨RX5, "<init>", "()V"⟩
abbrev cX5_fewest : ByteArray := prog_7_method_2_code
def yX5_fewest : MethodName := ⟨RX5, "fewest", "(LUnlikeGate$Told;I)I"⟩
abbrev cX5_reaches : ByteArray := prog_7_method_3_code
def yX5_reaches : MethodName := ⟨RX5, "reaches", "(III)Z"⟩
abbrev cX5_reachedBy : ByteArray := prog_7_method_4_code
def yX5_reachedBy : MethodName := ⟨RX5, "reachedBy", "(LUnlikeGate$Told;II)I"⟩
abbrev cX5_turnedInto : ByteArray := prog_7_method_5_code
def yX5_turnedInto : MethodName := ⟨RX5, "turnedInto", "(LUnlikeGate$Told;II)I"⟩
abbrev cX5_turnedOne : ByteArray := prog_7_method_6_code
def yX5_turnedOne : MethodName := ⟨RX5, "turnedOne", "(III)I"⟩
abbrev cX5_leastFirst : ByteArray := prog_7_method_7_code
def yX5_leastFirst : MethodName := ⟨RX5, "leastFirst", "(LUnlikeGate$Told;III)I"⟩
def RX6 : String := "UnlikeGate$Text"
def TX6 : u_T := fun k => match k with
  | 0 => ("UnlikeGate$Text", "bytes", "[B", true)
  | _ => ("UnlikeGate$Text", "length", "I", false)
def tyX6 : Nat → FieldType := fun k => match k with
  | 0 => .array .byte
  | _ => .int
abbrev wsX60 : List Cond := u_ws RX6 TX6 2
theorem nmX6 : ∀ a, a < 2 → ∀ b, b < 2 → a ≠ b → (TX6 a).2.1 ≠ (TX6 b).2.1 := by decide +kernel
theorem tyX6_ok : ∀ k, k < 2 → parseFieldDescriptor (TX6 k).2.2.1 = some (tyX6 k) := by decide +kernel
abbrev cX6_init : ByteArray := prog_8_method_1_code
def yX6_init : MethodName := ⟨RX6, "<init>", "()V"⟩
abbrev cX6_hasRoomFor : ByteArray := prog_8_method_2_code
def yX6_hasRoomFor : MethodName := ⟨RX6, "hasRoomFor", "(I)Z"⟩
abbrev cX6_append : ByteArray := prog_8_method_3_code
def yX6_append : MethodName := ⟨RX6, "append", "(IJ)I"⟩
abbrev cX6_clear : ByteArray := prog_8_method_4_code
def yX6_clear : MethodName := ⟨RX6, "clear", "()V"⟩
abbrev cX6_readInto : ByteArray := prog_8_method_5_code
def yX6_readInto : MethodName := ⟨RX6, "readInto", "(LUnlikeGate$Told;)I"⟩
abbrev cX6_takeItem : ByteArray := prog_8_method_6_code
def yX6_takeItem : MethodName := ⟨RX6, "takeItem", "(LUnlikeGate$Told;II)Z"⟩
abbrev cX6_find : ByteArray := prog_8_method_7_code
def yX6_find : MethodName := ⟨RX6, "find", "(III)I"⟩
abbrev cX6_number : ByteArray := prog_8_method_8_code
def yX6_number : MethodName := ⟨RX6, "number", "(II)I"⟩
def RX7 : String := "UnlikeGate$Told"
def TX7 : u_T := fun k => match k with
  | 0 => ("UnlikeGate$Told", "values", "[I", true)
  | 1 => ("UnlikeGate$Told", "looks", "[I", true)
  | 2 => ("UnlikeGate$Told", "hats", "[I", true)
  | 3 => ("UnlikeGate$Told", "things", "I", false)
  | 4 => ("UnlikeGate$Told", "persons", "I", false)
  | 5 => ("UnlikeGate$Told", "borrowed", "I", false)
  | 6 => ("UnlikeGate$Told", "hatCount", "I", false)
  | 7 => ("UnlikeGate$Told", "law", "I", false)
  | _ => ("UnlikeGate$Told", "guard", "I", false)
def tyX7 : Nat → FieldType := fun k => match k with
  | 0 => .array .int
  | 1 => .array .int
  | 2 => .array .int
  | 3 => .int
  | 4 => .int
  | 5 => .int
  | 6 => .int
  | 7 => .int
  | _ => .int
abbrev wsX70 : List Cond := u_ws RX7 TX7 9
theorem nmX7 : ∀ a, a < 9 → ∀ b, b < 9 → a ≠ b → (TX7 a).2.1 ≠ (TX7 b).2.1 := by decide +kernel
theorem tyX7_ok : ∀ k, k < 9 → parseFieldDescriptor (TX7 k).2.2.1 = some (tyX7 k) := by decide +kernel
abbrev cX7_init : ByteArray := prog_9_method_1_code
def yX7_init : MethodName := ⟨RX7, "<init>", "()V"⟩
abbrev cX7_clear : ByteArray := prog_9_method_2_code
def yX7_clear : MethodName := ⟨RX7, "clear", "()V"⟩
abbrev cX7_takeThing : ByteArray := prog_9_method_3_code
def yX7_takeThing : MethodName := ⟨RX7, "takeThing", "(II)Z"⟩
abbrev cX7_takeBorrowed : ByteArray := prog_9_method_4_code
def yX7_takeBorrowed : MethodName := ⟨RX7, "takeBorrowed", "(I)Z"⟩
abbrev cX7_takePerson : ByteArray := prog_9_method_5_code
def yX7_takePerson : MethodName := ⟨RX7, "takePerson", "([BII)Z"⟩
abbrev cX7_takeLaw : ByteArray := prog_9_method_6_code
def yX7_takeLaw : MethodName := ⟨RX7, "takeLaw", "(I)Z"⟩
abbrev cX7_takeGuard : ByteArray := prog_9_method_7_code
def yX7_takeGuard : MethodName := ⟨RX7, "takeGuard", "(I)Z"⟩
abbrev cX7_hasPerson : ByteArray := prog_9_method_8_code
def yX7_hasPerson : MethodName := ⟨RX7, "hasPerson", "(I)Z"⟩
abbrev cX7_hasThing : ByteArray := prog_9_method_9_code
def yX7_hasThing : MethodName := ⟨RX7, "hasThing", "(I)Z"⟩
abbrev cX7_allThings : ByteArray := prog_9_method_10_code
def yX7_allThings : MethodName := ⟨RX7, "allThings", "()I"⟩
abbrev cX7_sees : ByteArray := prog_9_method_11_code
def yX7_sees : MethodName := ⟨RX7, "sees", "()I"⟩
abbrev cX7_thingsOfMoreThan : ByteArray := prog_9_method_12_code
def yX7_thingsOfMoreThan : MethodName := ⟨RX7, "thingsOfMoreThan", "(I)I"⟩
abbrev cX7_look : ByteArray := prog_9_method_13_code
def yX7_look : MethodName := ⟨RX7, "look", "(I)I"⟩
abbrev cX7_seenUnlike : ByteArray := prog_9_method_14_code
def yX7_seenUnlike : MethodName := ⟨RX7, "seenUnlike", "(II)I"⟩
abbrev cX7_code : ByteArray := prog_9_method_15_code
def yX7_code : MethodName := ⟨RX7, "code", "(I)I"⟩
abbrev cX7_codes : ByteArray := prog_9_method_16_code
def yX7_codes : MethodName := ⟨RX7, "codes", "()I"⟩
abbrev cX7_lookOfCode : ByteArray := prog_9_method_17_code
def yX7_lookOfCode : MethodName := ⟨RX7, "lookOfCode", "(I)I"⟩
abbrev cX7_lookWithHat : ByteArray := prog_9_method_18_code
def yX7_lookWithHat : MethodName := ⟨RX7, "lookWithHat", "(II)I"⟩
abbrev cX7_lets : ByteArray := prog_9_method_19_code
def yX7_lets : MethodName := ⟨RX7, "lets", "(II)Z"⟩
abbrev cX7_barBehind : ByteArray := prog_9_method_20_code
def yX7_barBehind : MethodName := ⟨RX7, "barBehind", "(I)I"⟩
abbrev cX7_bars : ByteArray := prog_9_method_21_code
def yX7_bars : MethodName := ⟨RX7, "bars", "()I"⟩
abbrev cX7_oddMinusEven : ByteArray := prog_9_method_22_code
def yX7_oddMinusEven : MethodName := ⟨RX7, "oddMinusEven", "()I"⟩
abbrev cX7_isSameGuard : ByteArray := prog_9_method_23_code
def yX7_isSameGuard : MethodName := ⟨RX7, "isSameGuard", "(I)Z"⟩
abbrev cX7_drawn : ByteArray := prog_9_method_24_code
def yX7_drawn : MethodName := ⟨RX7, "drawn", "(II)I"⟩
def RX8 : String := "UnlikeGate$Walks"
def TX8 : u_T := fun k => match k with
  | 0 => ("UnlikeGate$Walks", "ways", "[J", false)
  | _ => ("UnlikeGate$Walks", "next", "[J", false)
def tyX8 : Nat → FieldType := fun k => match k with
  | 0 => .array .long
  | _ => .array .long
abbrev wsX80 : List Cond := u_ws RX8 TX8 2
theorem nmX8 : ∀ a, a < 2 → ∀ b, b < 2 → a ≠ b → (TX8 a).2.1 ≠ (TX8 b).2.1 := by decide +kernel
theorem tyX8_ok : ∀ k, k < 2 → parseFieldDescriptor (TX8 k).2.2.1 = some (tyX8 k) := by decide +kernel
abbrev cX8_init : ByteArray := prog_10_method_1_code
def yX8_init : MethodName := ⟨RX8, "<init>", "()V"⟩
abbrev cX8_startAt : ByteArray := prog_10_method_2_code
def yX8_startAt : MethodName := ⟨RX8, "startAt", "(I)V"⟩
abbrev cX8_goOn : ByteArray := prog_10_method_3_code
def yX8_goOn : MethodName := ⟨RX8, "goOn", "(LUnlikeGate$Told;)V"⟩
abbrev cX8_spread : ByteArray := prog_10_method_4_code
def yX8_spread : MethodName := ⟨RX8, "spread", "(LUnlikeGate$Told;II)V"⟩
abbrev cX8_waysTo : ByteArray := prog_10_method_5_code
def yX8_waysTo : MethodName := ⟨RX8, "waysTo", "(I)J"⟩
def RX9 : String := "UnlikeGate"
def TX9 : u_T := fun k => match k with
  | 0 => ("UnlikeGate", "text", "LUnlikeGate$Text;", true)
  | 1 => ("UnlikeGate", "gate", "LUnlikeGate$Gate;", true)
  | 2 => ("UnlikeGate", "row", "LUnlikeGate$Row;", true)
  | 3 => ("UnlikeGate", "line", "LUnlikeGate$Line;", true)
  | 4 => ("UnlikeGate", "walks", "LUnlikeGate$Walks;", true)
  | 5 => ("UnlikeGate", "longestRows", "LUnlikeGate$LongestRows;", true)
  | 6 => ("UnlikeGate", "strangers", "LUnlikeGate$Strangers;", true)
  | 7 => ("UnlikeGate", "lending", "LUnlikeGate$Lending;", true)
  | 8 => ("UnlikeGate", "told", "LUnlikeGate$Told;", false)
  | _ => ("UnlikeGate", "spare", "LUnlikeGate$Told;", false)
def tyX9 : Nat → FieldType := fun k => match k with
  | 0 => .object "UnlikeGate$Text"
  | 1 => .object "UnlikeGate$Gate"
  | 2 => .object "UnlikeGate$Row"
  | 3 => .object "UnlikeGate$Line"
  | 4 => .object "UnlikeGate$Walks"
  | 5 => .object "UnlikeGate$LongestRows"
  | 6 => .object "UnlikeGate$Strangers"
  | 7 => .object "UnlikeGate$Lending"
  | 8 => .object "UnlikeGate$Told"
  | _ => .object "UnlikeGate$Told"
abbrev wsX90 : List Cond := u_ws RX9 TX9 10
theorem nmX9 : ∀ a, a < 10 → ∀ b, b < 10 → a ≠ b → (TX9 a).2.1 ≠ (TX9 b).2.1 := by decide +kernel
theorem tyX9_ok : ∀ k, k < 10 → parseFieldDescriptor (TX9 k).2.2.1 = some (tyX9 k) := by decide +kernel
abbrev cX9_init : ByteArray := prog_1_method_1_code
def yX9_init : MethodName := ⟨RX9, "<init>", "()V"⟩
abbrev cX9_write : ByteArray := prog_1_method_2_code
def yX9_write : MethodName := ⟨RX9, "write", "(IJ)I"⟩
abbrev cX9_wipe : ByteArray := prog_1_method_3_code
def yX9_wipe : MethodName := ⟨RX9, "wipe", "()I"⟩
abbrev cX9_fault : ByteArray := prog_1_method_4_code
def yX9_fault : MethodName := ⟨RX9, "fault", "()I"⟩
abbrev cX9_lay : ByteArray := prog_1_method_5_code
def yX9_lay : MethodName := ⟨RX9, "lay", "()I"⟩
abbrev cX9_person : ByteArray := prog_1_method_6_code
def yX9_person : MethodName := ⟨RX9, "person", "(II)I"⟩
abbrev cX9_differ : ByteArray := prog_1_method_7_code
def yX9_differ : MethodName := ⟨RX9, "differ", "(IIZ)I"⟩
abbrev cX9_may : ByteArray := prog_1_method_8_code
def yX9_may : MethodName := ⟨RX9, "may", "(I)I"⟩
abbrev cX9_goIn : ByteArray := prog_1_method_9_code
def yX9_goIn : MethodName := ⟨RX9, "goIn", "(I)I"⟩
abbrev cX9_goOut : ByteArray := prog_1_method_10_code
def yX9_goOut : MethodName := ⟨RX9, "goOut", "(I)I"⟩
abbrev cX9_passGate : ByteArray := prog_1_method_11_code
def yX9_passGate : MethodName := ⟨RX9, "passGate", "(I)I"⟩
abbrev cX9_undo : ByteArray := prog_1_method_12_code
def yX9_undo : MethodName := ⟨RX9, "undo", "()I"⟩
abbrev cX9_last : ByteArray := prog_1_method_13_code
def yX9_last : MethodName := ⟨RX9, "last", "()I"⟩
abbrev cX9_add : ByteArray := prog_1_method_14_code
def yX9_add : MethodName := ⟨RX9, "add", "(I)I"⟩
abbrev cX9_noRow : ByteArray := prog_1_method_15_code
def yX9_noRow : MethodName := ⟨RX9, "noRow", "()I"⟩
abbrev cX9_judge : ByteArray := prog_1_method_16_code
def yX9_judge : MethodName := ⟨RX9, "judge", "()I"⟩
abbrev cX9_longest : ByteArray := prog_1_method_17_code
def yX9_longest : MethodName := ⟨RX9, "longest", "(II)I"⟩
abbrev cX9_proof : ByteArray := prog_1_method_18_code
def yX9_proof : MethodName := ⟨RX9, "proof", "()I"⟩
abbrev cX9_between : ByteArray := prog_1_method_19_code
def yX9_between : MethodName := ⟨RX9, "between", "(III)J"⟩
abbrev cX9_nearest : ByteArray := prog_1_method_20_code
def yX9_nearest : MethodName := ⟨RX9, "nearest", "(II)I"⟩
abbrev cX9_steps : ByteArray := prog_1_method_21_code
def yX9_steps : MethodName := ⟨RX9, "steps", "(III)I"⟩
abbrev cX9_lent : ByteArray := prog_1_method_22_code
def yX9_lent : MethodName := ⟨RX9, "lent", "(I)I"⟩
abbrev cX9_mustSee : ByteArray := prog_1_method_23_code
def yX9_mustSee : MethodName := ⟨RX9, "mustSee", "()I"⟩
abbrev cX9_crowd : ByteArray := prog_1_method_24_code
def yX9_crowd : MethodName := ⟨RX9, "crowd", "(III)I"⟩
abbrev cX9_keep : ByteArray := prog_1_method_25_code
def yX9_keep : MethodName := ⟨RX9, "keep", "()I"⟩
abbrev cX9_back : ByteArray := prog_1_method_26_code
def yX9_back : MethodName := ⟨RX9, "back", "()I"⟩
abbrev cX9_count : ByteArray := prog_1_method_27_code
def yX9_count : MethodName := ⟨RX9, "count", "(I)I"⟩
abbrev cX9_unlike : ByteArray := prog_1_method_28_code
def yX9_unlike : MethodName := ⟨RX9, "unlike", "(II)I"⟩
abbrev cX9_valueOf : ByteArray := prog_1_method_29_code
def yX9_valueOf : MethodName := ⟨RX9, "valueOf", "(II)I"⟩
abbrev cX9_lookWith : ByteArray := prog_1_method_30_code
def yX9_lookWith : MethodName := ⟨RX9, "lookWith", "(II)I"⟩
abbrev cX9_barredBy : ByteArray := prog_1_method_31_code
def yX9_barredBy : MethodName := ⟨RX9, "barredBy", "(I)I"⟩
def RX10 : String := "UnlikeGateModel"
def TX10 : u_T := fun k => match k with
  | 0 => ("UnlikeGateModel", "length", "I", false)
  | 1 => ("UnlikeGateModel", "text", "[B", true)
  | 2 => ("UnlikeGateModel", "at", "I", false)
  | 3 => ("UnlikeGateModel", "told", "[I", true)
  | 4 => ("UnlikeGateModel", "things", "[I", true)
  | 5 => ("UnlikeGateModel", "values", "[I", true)
  | 6 => ("UnlikeGateModel", "lends", "[I", true)
  | 7 => ("UnlikeGateModel", "people", "[I", true)
  | 8 => ("UnlikeGateModel", "person", "[I", true)
  | 9 => ("UnlikeGateModel", "slot", "[I", true)
  | 10 => ("UnlikeGateModel", "kept", "I", false)
  | 11 => ("UnlikeGateModel", "done", "I", false)
  | 12 => ("UnlikeGateModel", "was", "[I", true)
  | 13 => ("UnlikeGateModel", "rowMany", "I", false)
  | 14 => ("UnlikeGateModel", "row", "[I", true)
  | 15 => ("UnlikeGateModel", "way", "[I", true)
  | 16 => ("UnlikeGateModel", "differed", "[I", true)
  | 17 => ("UnlikeGateModel", "best", "[I", true)
  | 18 => ("UnlikeGateModel", "ways", "[J", true)
  | 19 => ("UnlikeGateModel", "dist", "[I", true)
  | 20 => ("UnlikeGateModel", "queue", "[I", true)
  | 21 => ("UnlikeGateModel", "costs", "[I", true)
  | _ => ("UnlikeGateModel", "codes", "[I", true)
def tyX10 : Nat → FieldType := fun k => match k with
  | 0 => .int
  | 1 => .array .byte
  | 2 => .int
  | 3 => .array .int
  | 4 => .array .int
  | 5 => .array .int
  | 6 => .array .int
  | 7 => .array .int
  | 8 => .array .int
  | 9 => .array .int
  | 10 => .int
  | 11 => .int
  | 12 => .array .int
  | 13 => .int
  | 14 => .array .int
  | 15 => .array .int
  | 16 => .array .int
  | 17 => .array .int
  | 18 => .array .long
  | 19 => .array .int
  | 20 => .array .int
  | 21 => .array .int
  | _ => .array .int
abbrev wsX100 : List Cond := u_ws RX10 TX10 23
theorem nmX10 : ∀ a, a < 23 → ∀ b, b < 23 → a ≠ b → (TX10 a).2.1 ≠ (TX10 b).2.1 := by decide +kernel
theorem tyX10_ok : ∀ k, k < 23 → parseFieldDescriptor (TX10 k).2.2.1 = some (tyX10 k) := by decide +kernel
abbrev cX10_init : ByteArray := prog_12_method_1_code
def yX10_init : MethodName := ⟨RX10, "<init>", "()V"⟩
abbrev cX10_in : ByteArray := prog_12_method_2_code
def yX10_in : MethodName := ⟨RX10, "in", "(JJJ)Z"⟩
abbrev cX10_write : ByteArray := prog_12_method_3_code
def yX10_write : MethodName := ⟨RX10, "write", "(IJ)I"⟩
abbrev cX10_wipe : ByteArray := prog_12_method_4_code
def yX10_wipe : MethodName := ⟨RX10, "wipe", "()I"⟩
abbrev cX10_number : ByteArray := prog_12_method_5_code
def yX10_number : MethodName := ⟨RX10, "number", "()I"⟩
abbrev cX10_isPerson : ByteArray := prog_12_method_6_code
def yX10_isPerson : MethodName := ⟨RX10, "isPerson", "()Z"⟩
abbrev cX10_borrowed : ByteArray := prog_12_method_7_code
def yX10_borrowed : MethodName := ⟨RX10, "borrowed", "()I"⟩
abbrev cX10_isThing : ByteArray := prog_12_method_8_code
def yX10_isThing : MethodName := ⟨RX10, "isThing", "()Z"⟩
abbrev cX10_isItem : ByteArray := prog_12_method_9_code
def yX10_isItem : MethodName := ⟨RX10, "isItem", "()Z"⟩
abbrev cX10_begins : ByteArray := prog_12_method_10_code
def yX10_begins : MethodName := ⟨RX10, "begins", "()V"⟩
abbrev cX10_takes : ByteArray := prog_12_method_11_code
def yX10_takes : MethodName := ⟨RX10, "takes", "()V"⟩
abbrev cX10_fault : ByteArray := prog_12_method_12_code
def yX10_fault : MethodName := ⟨RX10, "fault", "()I"⟩
abbrev cX10_lay : ByteArray := prog_12_method_13_code
def yX10_lay : MethodName := ⟨RX10, "lay", "()I"⟩
abbrev cX10_isMan : ByteArray := prog_12_method_14_code
def yX10_isMan : MethodName := ⟨RX10, "isMan", "(I)Z"⟩
abbrev cX10_seen : ByteArray := prog_12_method_15_code
def yX10_seen : MethodName := ⟨RX10, "seen", "()I"⟩
abbrev cX10_codeOf : ByteArray := prog_12_method_16_code
def yX10_codeOf : MethodName := ⟨RX10, "codeOf", "(I)I"⟩
abbrev cX10_person : ByteArray := prog_12_method_17_code
def yX10_person : MethodName := ⟨RX10, "person", "(II)I"⟩
abbrev cX10_unlike : ByteArray := prog_12_method_18_code
def yX10_unlike : MethodName := ⟨RX10, "unlike", "(II)I"⟩
abbrev cX10_differ : ByteArray := prog_12_method_19_code
def yX10_differ : MethodName := ⟨RX10, "differ", "(IIZ)I"⟩
abbrev cX10_many : ByteArray := prog_12_method_20_code
def yX10_many : MethodName := ⟨RX10, "many", "(I)I"⟩
abbrev cX10_passes : ByteArray := prog_12_method_21_code
def yX10_passes : MethodName := ⟨RX10, "passes", "(III)Z"⟩
abbrev cX10_mayNow : ByteArray := prog_12_method_22_code
def yX10_mayNow : MethodName := ⟨RX10, "mayNow", "(I)Z"⟩
abbrev cX10_may : ByteArray := prog_12_method_23_code
def yX10_may : MethodName := ⟨RX10, "may", "(I)I"⟩
abbrev cX10_goes : ByteArray := prog_12_method_24_code
def yX10_goes : MethodName := ⟨RX10, "goes", "(II)I"⟩
abbrev cX10_goIn : ByteArray := prog_12_method_25_code
def yX10_goIn : MethodName := ⟨RX10, "goIn", "(I)I"⟩
abbrev cX10_goOut : ByteArray := prog_12_method_26_code
def yX10_goOut : MethodName := ⟨RX10, "goOut", "(I)I"⟩
abbrev cX10_undo : ByteArray := prog_12_method_27_code
def yX10_undo : MethodName := ⟨RX10, "undo", "()I"⟩
abbrev cX10_last : ByteArray := prog_12_method_28_code
def yX10_last : MethodName := ⟨RX10, "last", "()I"⟩
abbrev cX10_add : ByteArray := prog_12_method_29_code
def yX10_add : MethodName := ⟨RX10, "add", "(I)I"⟩
abbrev cX10_noRow : ByteArray := prog_12_method_30_code
def yX10_noRow : MethodName := ⟨RX10, "noRow", "()I"⟩
abbrev cX10_judge : ByteArray := prog_12_method_31_code
def yX10_judge : MethodName := ⟨RX10, "judge", "()I"⟩
abbrev cX10_longestOf : ByteArray := prog_12_method_32_code
def yX10_longestOf : MethodName := ⟨RX10, "longestOf", "(I)I"⟩
abbrev cX10_longest : ByteArray := prog_12_method_33_code
def yX10_longest : MethodName := ⟨RX10, "longest", "(II)I"⟩
abbrev cX10_proof : ByteArray := prog_12_method_34_code
def yX10_proof : MethodName := ⟨RX10, "proof", "()I"⟩
abbrev cX10_rows : ByteArray := prog_12_method_35_code
def yX10_rows : MethodName := ⟨RX10, "rows", "(III)J"⟩
abbrev cX10_mark : ByteArray := prog_12_method_36_code
def yX10_mark : MethodName := ⟨RX10, "mark", "(I)I"⟩
abbrev cX10_between : ByteArray := prog_12_method_37_code
def yX10_between : MethodName := ⟨RX10, "between", "(III)J"⟩
abbrev cX10_nearest : ByteArray := prog_12_method_38_code
def yX10_nearest : MethodName := ⟨RX10, "nearest", "(II)I"⟩
abbrev cX10_valueOf : ByteArray := prog_12_method_39_code
def yX10_valueOf : MethodName := ⟨RX10, "valueOf", "(II)I"⟩
abbrev cX10_all : ByteArray := prog_12_method_40_code
def yX10_all : MethodName := ⟨RX10, "all", "()I"⟩
abbrev cX10_unlikeCodes : ByteArray := prog_12_method_41_code
def yX10_unlikeCodes : MethodName := ⟨RX10, "unlikeCodes", "(II)I"⟩
abbrev cX10_plain : ByteArray := prog_12_method_42_code
def yX10_plain : MethodName := ⟨RX10, "plain", "(I)I"⟩
abbrev cX10_circles : ByteArray := prog_12_method_43_code
def yX10_circles : MethodName := ⟨RX10, "circles", "(I)V"⟩
abbrev cX10_steps : ByteArray := prog_12_method_44_code
def yX10_steps : MethodName := ⟨RX10, "steps", "(III)I"⟩
abbrev cX10_lentCode : ByteArray := prog_12_method_45_code
def yX10_lentCode : MethodName := ⟨RX10, "lentCode", "(II)I"⟩
abbrev cX10_others : ByteArray := prog_12_method_46_code
def yX10_others : MethodName := ⟨RX10, "others", "(II)I"⟩
abbrev cX10_goesWith : ByteArray := prog_12_method_47_code
def yX10_goesWith : MethodName := ⟨RX10, "goesWith", "(II)Z"⟩
abbrev cX10_loans : ByteArray := prog_12_method_48_code
def yX10_loans : MethodName := ⟨RX10, "loans", "()V"⟩
abbrev cX10_lent : ByteArray := prog_12_method_49_code
def yX10_lent : MethodName := ⟨RX10, "lent", "(I)I"⟩
abbrev cX10_mustSee : ByteArray := prog_12_method_50_code
def yX10_mustSee : MethodName := ⟨RX10, "mustSee", "()I"⟩
abbrev cX10_crowd : ByteArray := prog_12_method_51_code
def yX10_crowd : MethodName := ⟨RX10, "crowd", "(III)I"⟩
abbrev cX10_copies : ByteArray := prog_12_method_52_code
def yX10_copies : MethodName := ⟨RX10, "copies", "(II)V"⟩
abbrev cX10_keep : ByteArray := prog_12_method_53_code
def yX10_keep : MethodName := ⟨RX10, "keep", "()I"⟩
abbrev cX10_back : ByteArray := prog_12_method_54_code
def yX10_back : MethodName := ⟨RX10, "back", "()I"⟩
abbrev cX10_count : ByteArray := prog_12_method_55_code
def yX10_count : MethodName := ⟨RX10, "count", "(I)I"⟩
def RJx145de : String := "java/io/Serializable"
def TJx145de : u_T := fun k => match k with
  | _ => ("", "", "", false)
def tyJx145de : Nat → FieldType := fun k => match k with
  | _ => .int
abbrev wsJx145de0 : List Cond := u_ws RJx145de TJx145de 0
theorem nmJx145de : ∀ a, a < 0 → ∀ b, b < 0 → a ≠ b → (TJx145de a).2.1 ≠ (TJx145de b).2.1 := by decide +kernel
theorem tyJx145de_ok : ∀ k, k < 0 → parseFieldDescriptor (TJx145de k).2.2.1 = some (tyJx145de k) := by decide +kernel
def RJx9f9b0 : String := "java/lang/CharSequence"
def TJx9f9b0 : u_T := fun k => match k with
  | _ => ("", "", "", false)
def tyJx9f9b0 : Nat → FieldType := fun k => match k with
  | _ => .int
abbrev wsJx9f9b00 : List Cond := u_ws RJx9f9b0 TJx9f9b0 0
theorem nmJx9f9b0 : ∀ a, a < 0 → ∀ b, b < 0 → a ≠ b → (TJx9f9b0 a).2.1 ≠ (TJx9f9b0 b).2.1 := by decide +kernel
theorem tyJx9f9b0_ok : ∀ k, k < 0 → parseFieldDescriptor (TJx9f9b0 k).2.2.1 = some (tyJx9f9b0 k) := by decide +kernel
def RJxb160c : String := "java/lang/Comparable"
def TJxb160c : u_T := fun k => match k with
  | _ => ("", "", "", false)
def tyJxb160c : Nat → FieldType := fun k => match k with
  | _ => .int
abbrev wsJxb160c0 : List Cond := u_ws RJxb160c TJxb160c 0
theorem nmJxb160c : ∀ a, a < 0 → ∀ b, b < 0 → a ≠ b → (TJxb160c a).2.1 ≠ (TJxb160c b).2.1 := by decide +kernel
theorem tyJxb160c_ok : ∀ k, k < 0 → parseFieldDescriptor (TJxb160c k).2.2.1 = some (tyJxb160c k) := by decide +kernel
def RJ6 : String := "java/lang/Integer"
def TJ6 : u_T := fun k => match k with
  | _ => ("", "", "", false)
def tyJ6 : Nat → FieldType := fun k => match k with
  | _ => .int
abbrev wsJ60 : List Cond := u_ws RJ6 TJ6 0
theorem nmJ6 : ∀ a, a < 0 → ∀ b, b < 0 → a ≠ b → (TJ6 a).2.1 ≠ (TJ6 b).2.1 := by decide +kernel
theorem tyJ6_ok : ∀ k, k < 0 → parseFieldDescriptor (TJ6 k).2.2.1 = some (tyJ6 k) := by decide +kernel
abbrev cJ6_bitCount_0f7a4 : ByteArray := prog_13_method_49_code
def yJ6_bitCount_0f7a4 : MethodName := ⟨RJ6, "bitCount", "(I)I"⟩
def RJ9 : String := "java/lang/Math"
def TJ9 : u_T := fun k => match k with
  | _ => ("", "", "", false)
def tyJ9 : Nat → FieldType := fun k => match k with
  | _ => .int
abbrev wsJ90 : List Cond := u_ws RJ9 TJ9 0
theorem nmJ9 : ∀ a, a < 0 → ∀ b, b < 0 → a ≠ b → (TJ9 a).2.1 ≠ (TJ9 b).2.1 := by decide +kernel
theorem tyJ9_ok : ∀ k, k < 0 → parseFieldDescriptor (TJ9 k).2.2.1 = some (tyJ9 k) := by decide +kernel
abbrev cJ9_abs_0f7a4 : ByteArray := prog_14_method_59_code
def yJ9_abs_0f7a4 : MethodName := ⟨RJ9, "abs", "(I)I"⟩
abbrev cJ9_max_7cf53 : ByteArray := prog_14_method_65_code
def yJ9_max_7cf53 : MethodName := ⟨RJ9, "max", "(II)I"⟩
abbrev cJ9_min_7cf53 : ByteArray := prog_14_method_69_code
def yJ9_min_7cf53 : MethodName := ⟨RJ9, "min", "(II)I"⟩
def RJ0 : String := "java/lang/String"
def TJ0 : u_T := fun k => match k with
  | _ => ("", "", "", false)
def tyJ0 : Nat → FieldType := fun k => match k with
  | _ => .int
abbrev wsJ00 : List Cond := u_ws RJ0 TJ0 0
theorem nmJ0 : ∀ a, a < 0 → ∀ b, b < 0 → a ≠ b → (TJ0 a).2.1 ≠ (TJ0 b).2.1 := by decide +kernel
theorem tyJ0_ok : ∀ k, k < 0 → parseFieldDescriptor (TJ0 k).2.2.1 = some (tyJ0 k) := by decide +kernel
abbrev cJ0_length_8abf5 : ByteArray := prog_15_method_54_code
def yJ0_length_8abf5 : MethodName := ⟨RJ0, "length", "()I"⟩
abbrev cJ0_charAt_5068e : ByteArray := prog_15_method_56_code
def yJ0_charAt_5068e : MethodName := ⟨RJ0, "charAt", "(I)C"⟩
abbrev cJ0_coder_7d493 : ByteArray := prog_15_method_152_code
def yJ0_coder_7d493 : MethodName := ⟨RJ0, "coder", "()B"⟩
abbrev cJ0_isLatin1_aae02 : ByteArray := prog_15_method_154_code
def yJ0_isLatin1_aae02 : MethodName := ⟨RJ0, "isLatin1", "()Z"⟩
abbrev cJ0_checkIndex_df160 : ByteArray := prog_15_method_155_code
def yJ0_checkIndex_df160 : MethodName := ⟨RJ0, "checkIndex", "(II)V"⟩
def RJ1 : String := "java/lang/StringLatin1"
def TJ1 : u_T := fun k => match k with
  | _ => ("", "", "", false)
def tyJ1 : Nat → FieldType := fun k => match k with
  | _ => .int
abbrev wsJ10 : List Cond := u_ws RJ1 TJ1 0
theorem nmJ1 : ∀ a, a < 0 → ∀ b, b < 0 → a ≠ b → (TJ1 a).2.1 ≠ (TJ1 b).2.1 := by decide +kernel
theorem tyJ1_ok : ∀ k, k < 0 → parseFieldDescriptor (TJ1 k).2.2.1 = some (tyJ1 k) := by decide +kernel
abbrev cJ1_charAt_3b067 : ByteArray := prog_16_method_2_code
def yJ1_charAt_3b067 : MethodName := ⟨RJ1, "charAt", "([BI)C"⟩
def RJ2 : String := "java/lang/StringUTF16"
def TJ2 : u_T := fun k => match k with
  | _ => ("", "", "", false)
def tyJ2 : Nat → FieldType := fun k => match k with
  | _ => .int
abbrev wsJ20 : List Cond := u_ws RJ2 TJ2 0
theorem nmJ2 : ∀ a, a < 0 → ∀ b, b < 0 → a ≠ b → (TJ2 a).2.1 ≠ (TJ2 b).2.1 := by decide +kernel
theorem tyJ2_ok : ∀ k, k < 0 → parseFieldDescriptor (TJ2 k).2.2.1 = some (tyJ2 k) := by decide +kernel
abbrev cJ2_getChar_3b067 : ByteArray := prog_17_method_5_code
def yJ2_getChar_3b067 : MethodName := ⟨RJ2, "getChar", "([BI)C"⟩
abbrev cJ2_length_9d52b : ByteArray := prog_17_method_6_code
def yJ2_length_9d52b : MethodName := ⟨RJ2, "length", "([B)I"⟩
abbrev cJ2_charAt_3b067 : ByteArray := prog_17_method_83_code
def yJ2_charAt_3b067 : MethodName := ⟨RJ2, "charAt", "([BI)C"⟩
abbrev cJ2_checkIndex_2214a : ByteArray := prog_17_method_91_code
def yJ2_checkIndex_2214a : MethodName := ⟨RJ2, "checkIndex", "(I[B)V"⟩
def RJ10 : String := "java/lang/System"
def TJ10 : u_T := fun k => match k with
  | _ => ("", "", "", false)
def tyJ10 : Nat → FieldType := fun k => match k with
  | _ => .int
abbrev wsJ100 : List Cond := u_ws RJ10 TJ10 0
theorem nmJ10 : ∀ a, a < 0 → ∀ b, b < 0 → a ≠ b → (TJ10 a).2.1 ≠ (TJ10 b).2.1 := by decide +kernel
theorem tyJ10_ok : ∀ k, k < 0 → parseFieldDescriptor (TJ10 k).2.2.1 = some (tyJ10 k) := by decide +kernel
def RJxfd54e : String := "java/lang/constant/Constable"
def TJxfd54e : u_T := fun k => match k with
  | _ => ("", "", "", false)
def tyJxfd54e : Nat → FieldType := fun k => match k with
  | _ => .int
abbrev wsJxfd54e0 : List Cond := u_ws RJxfd54e TJxfd54e 0
theorem nmJxfd54e : ∀ a, a < 0 → ∀ b, b < 0 → a ≠ b → (TJxfd54e a).2.1 ≠ (TJxfd54e b).2.1 := by decide +kernel
theorem tyJxfd54e_ok : ∀ k, k < 0 → parseFieldDescriptor (TJxfd54e k).2.2.1 = some (tyJxfd54e k) := by decide +kernel
def RJx3cf43 : String := "java/lang/constant/ConstantDesc"
def TJx3cf43 : u_T := fun k => match k with
  | _ => ("", "", "", false)
def tyJx3cf43 : Nat → FieldType := fun k => match k with
  | _ => .int
abbrev wsJx3cf430 : List Cond := u_ws RJx3cf43 TJx3cf43 0
theorem nmJx3cf43 : ∀ a, a < 0 → ∀ b, b < 0 → a ≠ b → (TJx3cf43 a).2.1 ≠ (TJx3cf43 b).2.1 := by decide +kernel
theorem tyJx3cf43_ok : ∀ k, k < 0 → parseFieldDescriptor (TJx3cf43 k).2.2.1 = some (tyJx3cf43 k) := by decide +kernel
def RJ7 : String := "java/util/Arrays"
def TJ7 : u_T := fun k => match k with
  | _ => ("", "", "", false)
def tyJ7 : Nat → FieldType := fun k => match k with
  | _ => .int
abbrev wsJ70 : List Cond := u_ws RJ7 TJ7 0
theorem nmJ7 : ∀ a, a < 0 → ∀ b, b < 0 → a ≠ b → (TJ7 a).2.1 ≠ (TJ7 b).2.1 := by decide +kernel
theorem tyJ7_ok : ∀ k, k < 0 → parseFieldDescriptor (TJ7 k).2.2.1 = some (tyJ7 k) := by decide +kernel
abbrev cJ7_fill_d0a16 : ByteArray := prog_19_method_101_code
def yJ7_fill_d0a16 : MethodName := ⟨RJ7, "fill", "([JJ)V"⟩
def RJ3 : String := "jdk/internal/util/Preconditions"
def TJ3 : u_T := fun k => match k with
  | _ => ("", "", "", false)
def tyJ3 : Nat → FieldType := fun k => match k with
  | _ => .int
abbrev wsJ30 : List Cond := u_ws RJ3 TJ3 0
theorem nmJ3 : ∀ a, a < 0 → ∀ b, b < 0 → a ≠ b → (TJ3 a).2.1 ≠ (TJ3 b).2.1 := by decide +kernel
theorem tyJ3_ok : ∀ k, k < 0 → parseFieldDescriptor (TJ3 k).2.2.1 = some (tyJ3 k) := by decide +kernel
abbrev cJ3_checkIndex_8e157 : ByteArray := prog_20_method_11_code
def yJ3_checkIndex_8e157 : MethodName := ⟨RJ3, "checkIndex", "(IILjava/util/function/BiFunction;)I"⟩
def RL : String := "UnlikeGateLaw"
abbrev cL_law : ByteArray := code
def yL_law : MethodName := ⟨RL, "law", "([I)Z"⟩
abbrev vwCl : List vw_C := [(RX0, TX0, 6), (RX1, TX1, 1), (RX2, TX2, 2), (RX3, TX3, 2), (RX4, TX4, 2), (RX5, TX5, 1), (RX6, TX6, 2), (RX7, TX7, 9), (RX8, TX8, 2), (RX9, TX9, 10), (RX10, TX10, 23)]
