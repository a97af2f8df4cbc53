section
-- ===== PART A: goes FIRST, ahead of the names: the tables' words, and 'selects' of the private methods out of them =====
/-- a private method of a class that the tables say can be made, by its rows of tables_1 -/
def lw_okq (q : MethodName × Nat) : Prop := (q.1.cls ≠ "java/lang/invoke/MethodHandle" ∧ q.1.cls ≠ "java/lang/invoke/VarHandle") ∧ Cond.instantiable q.1.cls q.2 ∈ tables_1 ∧ Cond.privateMethod q.1 ∈ tables_1 ∧ Cond.instanceMethod q.1 ∈ tables_1
theorem lw_p0 : lw_okq (⟨"UnlikeGate$Text", "find", "(III)I"⟩, 2) := ⟨⟨by decide +kernel, by decide +kernel⟩, List.mem_of_getElem? (i := 29) (by decide +kernel), List.mem_of_getElem? (i := 257) (by decide +kernel), List.mem_of_getElem? (i := 258) (by decide +kernel)⟩
theorem lw_p1 : lw_okq (⟨"UnlikeGate$Text", "takeItem", "(LUnlikeGate$Told;II)Z"⟩, 2) := ⟨⟨by decide +kernel, by decide +kernel⟩, List.mem_of_getElem? (i := 29) (by decide +kernel), List.mem_of_getElem? (i := 261) (by decide +kernel), List.mem_of_getElem? (i := 262) (by decide +kernel)⟩
theorem lw_p2 : lw_okq (⟨"UnlikeGate$Text", "number", "(II)I"⟩, 2) := ⟨⟨by decide +kernel, by decide +kernel⟩, List.mem_of_getElem? (i := 29) (by decide +kernel), List.mem_of_getElem? (i := 265) (by decide +kernel), List.mem_of_getElem? (i := 266) (by decide +kernel)⟩
theorem lw_p3 : lw_okq (⟨"UnlikeGate$Told", "takeBorrowed", "(I)Z"⟩, 9) := ⟨⟨by decide +kernel, by decide +kernel⟩, List.mem_of_getElem? (i := 154) (by decide +kernel), List.mem_of_getElem? (i := 273) (by decide +kernel), List.mem_of_getElem? (i := 274) (by decide +kernel)⟩
theorem lw_p4 : lw_okq (⟨"UnlikeGate", "passGate", "(I)I"⟩, 10) := ⟨⟨by decide +kernel, by decide +kernel⟩, List.mem_of_getElem? (i := 21) (by decide +kernel), List.mem_of_getElem? (i := 431) (by decide +kernel), List.mem_of_getElem? (i := 432) (by decide +kernel)⟩
theorem lw_p5 : lw_okq (⟨"UnlikeGate$Gate", "remember", "()V"⟩, 6) := ⟨⟨by decide +kernel, by decide +kernel⟩, List.mem_of_getElem? (i := 44) (by decide +kernel), List.mem_of_getElem? (i := 439) (by decide +kernel), List.mem_of_getElem? (i := 440) (by decide +kernel)⟩
theorem lw_p6 : lw_okq (⟨"UnlikeGate$Gate", "packed", "()I"⟩, 6) := ⟨⟨by decide +kernel, by decide +kernel⟩, List.mem_of_getElem? (i := 44) (by decide +kernel), List.mem_of_getElem? (i := 446) (by decide +kernel), List.mem_of_getElem? (i := 447) (by decide +kernel)⟩
theorem lw_p7 : lw_okq (⟨"UnlikeGate$Gate", "unpack", "(I)V"⟩, 6) := ⟨⟨by decide +kernel, by decide +kernel⟩, List.mem_of_getElem? (i := 44) (by decide +kernel), List.mem_of_getElem? (i := 471) (by decide +kernel), List.mem_of_getElem? (i := 472) (by decide +kernel)⟩
theorem lw_p8 : lw_okq (⟨"UnlikeGate$LongestRows", "fill", "(LUnlikeGate$Told;)V"⟩, 2) := ⟨⟨by decide +kernel, by decide +kernel⟩, List.mem_of_getElem? (i := 121) (by decide +kernel), List.mem_of_getElem? (i := 509) (by decide +kernel), List.mem_of_getElem? (i := 510) (by decide +kernel)⟩
theorem lw_p9 : lw_okq (⟨"UnlikeGate$LongestRows", "lengthFrom", "(LUnlikeGate$Told;III)I"⟩, 2) := ⟨⟨by decide +kernel, by decide +kernel⟩, List.mem_of_getElem? (i := 121) (by decide +kernel), List.mem_of_getElem? (i := 517) (by decide +kernel), List.mem_of_getElem? (i := 518) (by decide +kernel)⟩
theorem lw_p10 : lw_okq (⟨"UnlikeGate$LongestRows", "length", "(III)I"⟩, 2) := ⟨⟨by decide +kernel, by decide +kernel⟩, List.mem_of_getElem? (i := 121) (by decide +kernel), List.mem_of_getElem? (i := 530) (by decide +kernel), List.mem_of_getElem? (i := 531) (by decide +kernel)⟩
theorem lw_p11 : lw_okq (⟨"UnlikeGate$LongestRows", "firstWith", "(LUnlikeGate$Told;LUnlikeGate$Line;II)I"⟩, 2) := ⟨⟨by decide +kernel, by decide +kernel⟩, List.mem_of_getElem? (i := 121) (by decide +kernel), List.mem_of_getElem? (i := 542) (by decide +kernel), List.mem_of_getElem? (i := 543) (by decide +kernel)⟩
theorem lw_p12 : lw_okq (⟨"UnlikeGate$Walks", "spread", "(LUnlikeGate$Told;II)V"⟩, 2) := ⟨⟨by decide +kernel, by decide +kernel⟩, List.mem_of_getElem? (i := 107) (by decide +kernel), List.mem_of_getElem? (i := 586) (by decide +kernel), List.mem_of_getElem? (i := 587) (by decide +kernel)⟩
theorem lw_p13 : lw_okq (⟨"UnlikeGate$Strangers", "reachedBy", "(LUnlikeGate$Told;II)I"⟩, 1) := ⟨⟨by decide +kernel, by decide +kernel⟩, List.mem_of_getElem? (i := 134) (by decide +kernel), List.mem_of_getElem? (i := 611) (by decide +kernel), List.mem_of_getElem? (i := 612) (by decide +kernel)⟩
theorem lw_p14 : lw_okq (⟨"UnlikeGate$Strangers", "turnedInto", "(LUnlikeGate$Told;II)I"⟩, 1) := ⟨⟨by decide +kernel, by decide +kernel⟩, List.mem_of_getElem? (i := 134) (by decide +kernel), List.mem_of_getElem? (i := 619) (by decide +kernel), List.mem_of_getElem? (i := 620) (by decide +kernel)⟩
theorem lw_p15 : lw_okq (⟨"UnlikeGate$Strangers", "turnedOne", "(III)I"⟩, 1) := ⟨⟨by decide +kernel, by decide +kernel⟩, List.mem_of_getElem? (i := 134) (by decide +kernel), List.mem_of_getElem? (i := 623) (by decide +kernel), List.mem_of_getElem? (i := 624) (by decide +kernel)⟩
def lw_privs_1 : List (MethodName × Nat) := [(⟨"UnlikeGate$Text", "find", "(III)I"⟩, 2), (⟨"UnlikeGate$Text", "takeItem", "(LUnlikeGate$Told;II)Z"⟩, 2), (⟨"UnlikeGate$Text", "number", "(II)I"⟩, 2), (⟨"UnlikeGate$Told", "takeBorrowed", "(I)Z"⟩, 9), (⟨"UnlikeGate", "passGate", "(I)I"⟩, 10), (⟨"UnlikeGate$Gate", "remember", "()V"⟩, 6), (⟨"UnlikeGate$Gate", "packed", "()I"⟩, 6), (⟨"UnlikeGate$Gate", "unpack", "(I)V"⟩, 6), (⟨"UnlikeGate$LongestRows", "fill", "(LUnlikeGate$Told;)V"⟩, 2), (⟨"UnlikeGate$LongestRows", "lengthFrom", "(LUnlikeGate$Told;III)I"⟩, 2), (⟨"UnlikeGate$LongestRows", "length", "(III)I"⟩, 2), (⟨"UnlikeGate$LongestRows", "firstWith", "(LUnlikeGate$Told;LUnlikeGate$Line;II)I"⟩, 2), (⟨"UnlikeGate$Walks", "spread", "(LUnlikeGate$Told;II)V"⟩, 2), (⟨"UnlikeGate$Strangers", "reachedBy", "(LUnlikeGate$Told;II)I"⟩, 1), (⟨"UnlikeGate$Strangers", "turnedInto", "(LUnlikeGate$Told;II)I"⟩, 1), (⟨"UnlikeGate$Strangers", "turnedOne", "(III)I"⟩, 1)]
theorem lw_r1 : ∀ q ∈ lw_privs_1, lw_okq q := List.forall_mem_cons.mpr ⟨lw_p0, List.forall_mem_cons.mpr ⟨lw_p1, List.forall_mem_cons.mpr ⟨lw_p2, List.forall_mem_cons.mpr ⟨lw_p3, List.forall_mem_cons.mpr ⟨lw_p4, List.forall_mem_cons.mpr ⟨lw_p5, List.forall_mem_cons.mpr ⟨lw_p6, List.forall_mem_cons.mpr ⟨lw_p7, List.forall_mem_cons.mpr ⟨lw_p8, List.forall_mem_cons.mpr ⟨lw_p9, List.forall_mem_cons.mpr ⟨lw_p10, List.forall_mem_cons.mpr ⟨lw_p11, List.forall_mem_cons.mpr ⟨lw_p12, List.forall_mem_cons.mpr ⟨lw_p13, List.forall_mem_cons.mpr ⟨lw_p14, List.forall_mem_cons.mpr ⟨lw_p15, fun _ h => absurd h List.not_mem_nil⟩⟩⟩⟩⟩⟩⟩⟩⟩⟩⟩⟩⟩⟩⟩⟩
theorem lw_p16 : lw_okq (⟨"UnlikeGate$Strangers", "reaches", "(III)Z"⟩, 1) := ⟨⟨by decide +kernel, by decide +kernel⟩, List.mem_of_getElem? (i := 134) (by decide +kernel), List.mem_of_getElem? (i := 629) (by decide +kernel), List.mem_of_getElem? (i := 630) (by decide +kernel)⟩
theorem lw_p17 : lw_okq (⟨"UnlikeGate$Lending", "othersFrom", "(LUnlikeGate$Told;LUnlikeGate$Row;II)I"⟩, 1) := ⟨⟨by decide +kernel, by decide +kernel⟩, List.mem_of_getElem? (i := 144) (by decide +kernel), List.mem_of_getElem? (i := 654) (by decide +kernel), List.mem_of_getElem? (i := 655) (by decide +kernel)⟩
theorem lw_p18 : lw_okq (⟨"UnlikeGate$Lending", "mayFollow", "(LUnlikeGate$Told;LUnlikeGate$Row;III)Z"⟩, 1) := ⟨⟨by decide +kernel, by decide +kernel⟩, List.mem_of_getElem? (i := 144) (by decide +kernel), List.mem_of_getElem? (i := 664) (by decide +kernel), List.mem_of_getElem? (i := 665) (by decide +kernel)⟩
theorem lw_p19 : lw_okq (⟨"UnlikeGate$Lending", "firstHat", "(LUnlikeGate$Told;LUnlikeGate$Row;III)I"⟩, 1) := ⟨⟨by decide +kernel, by decide +kernel⟩, List.mem_of_getElem? (i := 144) (by decide +kernel), List.mem_of_getElem? (i := 680) (by decide +kernel), List.mem_of_getElem? (i := 681) (by decide +kernel)⟩
theorem lw_p20 : lw_okq (⟨"UnlikeGateModel", "begins", "()V"⟩, 23) := ⟨⟨by decide +kernel, by decide +kernel⟩, List.mem_of_getElem? (i := 726) (by decide +kernel), List.mem_of_getElem? (i := 732) (by decide +kernel), List.mem_of_getElem? (i := 733) (by decide +kernel)⟩
theorem lw_p21 : lw_okq (⟨"UnlikeGateModel", "takes", "()V"⟩, 23) := ⟨⟨by decide +kernel, by decide +kernel⟩, List.mem_of_getElem? (i := 726) (by decide +kernel), List.mem_of_getElem? (i := 736) (by decide +kernel), List.mem_of_getElem? (i := 737) (by decide +kernel)⟩
theorem lw_p22 : lw_okq (⟨"UnlikeGateModel", "isItem", "()Z"⟩, 23) := ⟨⟨by decide +kernel, by decide +kernel⟩, List.mem_of_getElem? (i := 726) (by decide +kernel), List.mem_of_getElem? (i := 826) (by decide +kernel), List.mem_of_getElem? (i := 827) (by decide +kernel)⟩
theorem lw_p23 : lw_okq (⟨"UnlikeGateModel", "isThing", "()Z"⟩, 23) := ⟨⟨by decide +kernel, by decide +kernel⟩, List.mem_of_getElem? (i := 726) (by decide +kernel), List.mem_of_getElem? (i := 830) (by decide +kernel), List.mem_of_getElem? (i := 831) (by decide +kernel)⟩
theorem lw_p24 : lw_okq (⟨"UnlikeGateModel", "number", "()I"⟩, 23) := ⟨⟨by decide +kernel, by decide +kernel⟩, List.mem_of_getElem? (i := 726) (by decide +kernel), List.mem_of_getElem? (i := 834) (by decide +kernel), List.mem_of_getElem? (i := 835) (by decide +kernel)⟩
theorem lw_p25 : lw_okq (⟨"UnlikeGateModel", "borrowed", "()I"⟩, 23) := ⟨⟨by decide +kernel, by decide +kernel⟩, List.mem_of_getElem? (i := 726) (by decide +kernel), List.mem_of_getElem? (i := 842) (by decide +kernel), List.mem_of_getElem? (i := 843) (by decide +kernel)⟩
theorem lw_p26 : lw_okq (⟨"UnlikeGateModel", "isPerson", "()Z"⟩, 23) := ⟨⟨by decide +kernel, by decide +kernel⟩, List.mem_of_getElem? (i := 726) (by decide +kernel), List.mem_of_getElem? (i := 846) (by decide +kernel), List.mem_of_getElem? (i := 847) (by decide +kernel)⟩
theorem lw_p27 : lw_okq (⟨"UnlikeGateModel", "isMan", "(I)Z"⟩, 23) := ⟨⟨by decide +kernel, by decide +kernel⟩, List.mem_of_getElem? (i := 726) (by decide +kernel), List.mem_of_getElem? (i := 861) (by decide +kernel), List.mem_of_getElem? (i := 862) (by decide +kernel)⟩
theorem lw_p28 : lw_okq (⟨"UnlikeGateModel", "codeOf", "(I)I"⟩, 23) := ⟨⟨by decide +kernel, by decide +kernel⟩, List.mem_of_getElem? (i := 726) (by decide +kernel), List.mem_of_getElem? (i := 866) (by decide +kernel), List.mem_of_getElem? (i := 867) (by decide +kernel)⟩
theorem lw_p29 : lw_okq (⟨"UnlikeGateModel", "unlike", "(II)I"⟩, 23) := ⟨⟨by decide +kernel, by decide +kernel⟩, List.mem_of_getElem? (i := 726) (by decide +kernel), List.mem_of_getElem? (i := 874) (by decide +kernel), List.mem_of_getElem? (i := 875) (by decide +kernel)⟩
theorem lw_p30 : lw_okq (⟨"UnlikeGateModel", "seen", "()I"⟩, 23) := ⟨⟨by decide +kernel, by decide +kernel⟩, List.mem_of_getElem? (i := 726) (by decide +kernel), List.mem_of_getElem? (i := 878) (by decide +kernel), List.mem_of_getElem? (i := 879) (by decide +kernel)⟩
theorem lw_p31 : lw_okq (⟨"UnlikeGateModel", "mayNow", "(I)Z"⟩, 23) := ⟨⟨by decide +kernel, by decide +kernel⟩, List.mem_of_getElem? (i := 726) (by decide +kernel), List.mem_of_getElem? (i := 886) (by decide +kernel), List.mem_of_getElem? (i := 887) (by decide +kernel)⟩
def lw_privs_2 : List (MethodName × Nat) := [(⟨"UnlikeGate$Strangers", "reaches", "(III)Z"⟩, 1), (⟨"UnlikeGate$Lending", "othersFrom", "(LUnlikeGate$Told;LUnlikeGate$Row;II)I"⟩, 1), (⟨"UnlikeGate$Lending", "mayFollow", "(LUnlikeGate$Told;LUnlikeGate$Row;III)Z"⟩, 1), (⟨"UnlikeGate$Lending", "firstHat", "(LUnlikeGate$Told;LUnlikeGate$Row;III)I"⟩, 1), (⟨"UnlikeGateModel", "begins", "()V"⟩, 23), (⟨"UnlikeGateModel", "takes", "()V"⟩, 23), (⟨"UnlikeGateModel", "isItem", "()Z"⟩, 23), (⟨"UnlikeGateModel", "isThing", "()Z"⟩, 23), (⟨"UnlikeGateModel", "number", "()I"⟩, 23), (⟨"UnlikeGateModel", "borrowed", "()I"⟩, 23), (⟨"UnlikeGateModel", "isPerson", "()Z"⟩, 23), (⟨"UnlikeGateModel", "isMan", "(I)Z"⟩, 23), (⟨"UnlikeGateModel", "codeOf", "(I)I"⟩, 23), (⟨"UnlikeGateModel", "unlike", "(II)I"⟩, 23), (⟨"UnlikeGateModel", "seen", "()I"⟩, 23), (⟨"UnlikeGateModel", "mayNow", "(I)Z"⟩, 23)]
theorem lw_r2 : ∀ q ∈ lw_privs_2, lw_okq q := List.forall_mem_cons.mpr ⟨lw_p16, List.forall_mem_cons.mpr ⟨lw_p17, List.forall_mem_cons.mpr ⟨lw_p18, List.forall_mem_cons.mpr ⟨lw_p19, List.forall_mem_cons.mpr ⟨lw_p20, List.forall_mem_cons.mpr ⟨lw_p21, List.forall_mem_cons.mpr ⟨lw_p22, List.forall_mem_cons.mpr ⟨lw_p23, List.forall_mem_cons.mpr ⟨lw_p24, List.forall_mem_cons.mpr ⟨lw_p25, List.forall_mem_cons.mpr ⟨lw_p26, List.forall_mem_cons.mpr ⟨lw_p27, List.forall_mem_cons.mpr ⟨lw_p28, List.forall_mem_cons.mpr ⟨lw_p29, List.forall_mem_cons.mpr ⟨lw_p30, List.forall_mem_cons.mpr ⟨lw_p31, fun _ h => absurd h List.not_mem_nil⟩⟩⟩⟩⟩⟩⟩⟩⟩⟩⟩⟩⟩⟩⟩⟩
theorem lw_p32 : lw_okq (⟨"UnlikeGateModel", "goes", "(II)I"⟩, 23) := ⟨⟨by decide +kernel, by decide +kernel⟩, List.mem_of_getElem? (i := 726) (by decide +kernel), List.mem_of_getElem? (i := 900) (by decide +kernel), List.mem_of_getElem? (i := 901) (by decide +kernel)⟩
theorem lw_p33 : lw_okq (⟨"UnlikeGateModel", "longestOf", "(I)I"⟩, 23) := ⟨⟨by decide +kernel, by decide +kernel⟩, List.mem_of_getElem? (i := 726) (by decide +kernel), List.mem_of_getElem? (i := 932) (by decide +kernel), List.mem_of_getElem? (i := 933) (by decide +kernel)⟩
theorem lw_p34 : lw_okq (⟨"UnlikeGateModel", "rows", "(III)J"⟩, 23) := ⟨⟨by decide +kernel, by decide +kernel⟩, List.mem_of_getElem? (i := 726) (by decide +kernel), List.mem_of_getElem? (i := 945) (by decide +kernel), List.mem_of_getElem? (i := 946) (by decide +kernel)⟩
theorem lw_p35 : lw_okq (⟨"UnlikeGateModel", "mark", "(I)I"⟩, 23) := ⟨⟨by decide +kernel, by decide +kernel⟩, List.mem_of_getElem? (i := 726) (by decide +kernel), List.mem_of_getElem? (i := 949) (by decide +kernel), List.mem_of_getElem? (i := 950) (by decide +kernel)⟩
theorem lw_p36 : lw_okq (⟨"UnlikeGateModel", "plain", "(I)I"⟩, 23) := ⟨⟨by decide +kernel, by decide +kernel⟩, List.mem_of_getElem? (i := 726) (by decide +kernel), List.mem_of_getElem? (i := 962) (by decide +kernel), List.mem_of_getElem? (i := 963) (by decide +kernel)⟩
theorem lw_p37 : lw_okq (⟨"UnlikeGateModel", "valueOf", "(II)I"⟩, 23) := ⟨⟨by decide +kernel, by decide +kernel⟩, List.mem_of_getElem? (i := 726) (by decide +kernel), List.mem_of_getElem? (i := 966) (by decide +kernel), List.mem_of_getElem? (i := 967) (by decide +kernel)⟩
theorem lw_p38 : lw_okq (⟨"UnlikeGateModel", "circles", "(I)V"⟩, 23) := ⟨⟨by decide +kernel, by decide +kernel⟩, List.mem_of_getElem? (i := 726) (by decide +kernel), List.mem_of_getElem? (i := 970) (by decide +kernel), List.mem_of_getElem? (i := 971) (by decide +kernel)⟩
theorem lw_p39 : lw_okq (⟨"UnlikeGateModel", "all", "()I"⟩, 23) := ⟨⟨by decide +kernel, by decide +kernel⟩, List.mem_of_getElem? (i := 726) (by decide +kernel), List.mem_of_getElem? (i := 974) (by decide +kernel), List.mem_of_getElem? (i := 975) (by decide +kernel)⟩
theorem lw_p40 : lw_okq (⟨"UnlikeGateModel", "unlikeCodes", "(II)I"⟩, 23) := ⟨⟨by decide +kernel, by decide +kernel⟩, List.mem_of_getElem? (i := 726) (by decide +kernel), List.mem_of_getElem? (i := 978) (by decide +kernel), List.mem_of_getElem? (i := 979) (by decide +kernel)⟩
theorem lw_p41 : lw_okq (⟨"UnlikeGateModel", "loans", "()V"⟩, 23) := ⟨⟨by decide +kernel, by decide +kernel⟩, List.mem_of_getElem? (i := 726) (by decide +kernel), List.mem_of_getElem? (i := 986) (by decide +kernel), List.mem_of_getElem? (i := 987) (by decide +kernel)⟩
theorem lw_p42 : lw_okq (⟨"UnlikeGateModel", "lentCode", "(II)I"⟩, 23) := ⟨⟨by decide +kernel, by decide +kernel⟩, List.mem_of_getElem? (i := 726) (by decide +kernel), List.mem_of_getElem? (i := 990) (by decide +kernel), List.mem_of_getElem? (i := 991) (by decide +kernel)⟩
theorem lw_p43 : lw_okq (⟨"UnlikeGateModel", "goesWith", "(II)Z"⟩, 23) := ⟨⟨by decide +kernel, by decide +kernel⟩, List.mem_of_getElem? (i := 726) (by decide +kernel), List.mem_of_getElem? (i := 994) (by decide +kernel), List.mem_of_getElem? (i := 995) (by decide +kernel)⟩
theorem lw_p44 : lw_okq (⟨"UnlikeGateModel", "others", "(II)I"⟩, 23) := ⟨⟨by decide +kernel, by decide +kernel⟩, List.mem_of_getElem? (i := 726) (by decide +kernel), List.mem_of_getElem? (i := 998) (by decide +kernel), List.mem_of_getElem? (i := 999) (by decide +kernel)⟩
theorem lw_p45 : lw_okq (⟨"UnlikeGateModel", "copies", "(II)V"⟩, 23) := ⟨⟨by decide +kernel, by decide +kernel⟩, List.mem_of_getElem? (i := 726) (by decide +kernel), List.mem_of_getElem? (i := 1019) (by decide +kernel), List.mem_of_getElem? (i := 1020) (by decide +kernel)⟩
def lw_privs_3 : List (MethodName × Nat) := [(⟨"UnlikeGateModel", "goes", "(II)I"⟩, 23), (⟨"UnlikeGateModel", "longestOf", "(I)I"⟩, 23), (⟨"UnlikeGateModel", "rows", "(III)J"⟩, 23), (⟨"UnlikeGateModel", "mark", "(I)I"⟩, 23), (⟨"UnlikeGateModel", "plain", "(I)I"⟩, 23), (⟨"UnlikeGateModel", "valueOf", "(II)I"⟩, 23), (⟨"UnlikeGateModel", "circles", "(I)V"⟩, 23), (⟨"UnlikeGateModel", "all", "()I"⟩, 23), (⟨"UnlikeGateModel", "unlikeCodes", "(II)I"⟩, 23), (⟨"UnlikeGateModel", "loans", "()V"⟩, 23), (⟨"UnlikeGateModel", "lentCode", "(II)I"⟩, 23), (⟨"UnlikeGateModel", "goesWith", "(II)Z"⟩, 23), (⟨"UnlikeGateModel", "others", "(II)I"⟩, 23), (⟨"UnlikeGateModel", "copies", "(II)V"⟩, 23)]
theorem lw_r3 : ∀ q ∈ lw_privs_3, lw_okq q := List.forall_mem_cons.mpr ⟨lw_p32, List.forall_mem_cons.mpr ⟨lw_p33, List.forall_mem_cons.mpr ⟨lw_p34, List.forall_mem_cons.mpr ⟨lw_p35, List.forall_mem_cons.mpr ⟨lw_p36, List.forall_mem_cons.mpr ⟨lw_p37, List.forall_mem_cons.mpr ⟨lw_p38, List.forall_mem_cons.mpr ⟨lw_p39, List.forall_mem_cons.mpr ⟨lw_p40, List.forall_mem_cons.mpr ⟨lw_p41, List.forall_mem_cons.mpr ⟨lw_p42, List.forall_mem_cons.mpr ⟨lw_p43, List.forall_mem_cons.mpr ⟨lw_p44, List.forall_mem_cons.mpr ⟨lw_p45, fun _ h => absurd h List.not_mem_nil⟩⟩⟩⟩⟩⟩⟩⟩⟩⟩⟩⟩⟩⟩
def lw_privs : List (MethodName × Nat) := lw_privs_1 ++ (lw_privs_2 ++ (lw_privs_3))
def lw_tbl : List Cond := k2_sels lw_privs ++ tables_1
theorem lw_privs_ok : ∀ q ∈ lw_privs, lw_okq q := by
  show ∀ q ∈ lw_privs_1 ++ (lw_privs_2 ++ (lw_privs_3)), lw_okq q
  exact List.forall_mem_append.mpr ⟨lw_r1, List.forall_mem_append.mpr ⟨lw_r2, lw_r3⟩⟩
def RX0 : String := "UnlikeGate$Gate"
def TX0 : u_T := fun k => match k with
  | 0 => ("UnlikeGate$Gate", "line", "LUnlikeGate$Line;", true)
  | 1 => ("UnlikeGate$Gate", "earlier", "[I", true)
  | 2 => ("UnlikeGate$Gate", "stored", "[I", true)
  | 3 => ("UnlikeGate$Gate", "inside", "I", false)
  | 4 => ("UnlikeGate$Gate", "undoable", "I", false)
  | _ => ("UnlikeGate$Gate", "kept", "I", false)
def tyX0 : Nat → FieldType := fun k => match k with
  | 0 => .object "UnlikeGate$Line"
  | 1 => .array .int
  | 2 => .array .int
  | 3 => .int
  | 4 => .int
  | _ => .int
abbrev wsX00 : List Cond := u_ws RX0 TX0 6
theorem nmX0 : ∀ a, a < 6 → ∀ b, b < 6 → a ≠ b → (TX0 a).2.1 ≠ (TX0 b).2.1 := by decide +kernel
theorem tyX0_ok : ∀ k, k < 6 → parseFieldDescriptor (TX0 k).2.2.1 = some (tyX0 k) := by decide +kernel
abbrev cX0_init : ByteArray := prog_2_method_1_code
def yX0_init : MethodName := ⟨RX0, "<init>", "()V"⟩
abbrev cX0_clear : ByteArray := prog_2_method_2_code
def yX0_clear : MethodName := ⟨RX0, "clear", "()V"⟩
abbrev cX0_holds : ByteArray := prog_2_method_3_code
def yX0_holds : MethodName := ⟨RX0, "holds", "(I)Z"⟩
abbrev cX0_howManyIn : ByteArray := prog_2_method_4_code
def yX0_howManyIn : MethodName := ⟨RX0, "howManyIn", "()I"⟩
abbrev cX0_pass : ByteArray := prog_2_method_5_code
def yX0_pass : MethodName := ⟨RX0, "pass", "(LUnlikeGate$Told;I)V"⟩
abbrev cX0_remember : ByteArray := prog_2_method_6_code
def yX0_remember : MethodName := ⟨RX0, "remember", "()V"⟩
abbrev cX0_takeBack : ByteArray := prog_2_method_7_code
def yX0_takeBack : MethodName := ⟨RX0, "takeBack", "()Z"⟩
abbrev cX0_store : ByteArray := prog_2_method_8_code
def yX0_store : MethodName := ⟨RX0, "store", "()Z"⟩
abbrev cX0_fetch : ByteArray := prog_2_method_9_code
def yX0_fetch : MethodName := ⟨RX0, "fetch", "()Z"⟩
abbrev cX0_packed : ByteArray := prog_2_method_10_code
def yX0_packed : MethodName := ⟨RX0, "packed", "()I"⟩
abbrev cX0_unpack : ByteArray := prog_2_method_11_code
def yX0_unpack : MethodName := ⟨RX0, "unpack", "(I)V"⟩
def RX1 : String := "UnlikeGate$Lending"
def TX1 : u_T := fun k => match k with
  | _ => ("UnlikeGate$Lending", "others", "[I", true)
def tyX1 : Nat → FieldType := fun k => match k with
  | _ => .array .int
abbrev wsX10 : List Cond := u_ws RX1 TX1 1
theorem nmX1 : ∀ a, a < 1 → ∀ b, b < 1 → a ≠ b → (TX1 a).2.1 ≠ (TX1 b).2.1 := by decide +kernel
theorem tyX1_ok : ∀ k, k < 1 → parseFieldDescriptor (TX1 k).2.2.1 = some (tyX1 k) := by decide +kernel
abbrev cX1_init : ByteArray := prog_3_method_1_code
def yX1_init : MethodName := ⟨RX1, "<init>", "()V"⟩
abbrev cX1_fewest : ByteArray := prog_3_method_2_code
def yX1_fewest : MethodName := ⟨RX1, "fewest", "(LUnlikeGate$Told;LUnlikeGate$Row;)I"⟩
abbrev cX1_othersFrom : ByteArray := prog_3_method_3_code
def yX1_othersFrom : MethodName := ⟨RX1, "othersFrom", "(LUnlikeGate$Told;LUnlikeGate$Row;II)I"⟩
abbrev cX1_mayFollow : ByteArray := prog_3_method_4_code
def yX1_mayFollow : MethodName := ⟨RX1, "mayFollow", "(LUnlikeGate$Told;LUnlikeGate$Row;III)Z"⟩
abbrev cX1_codeAt : ByteArray := prog_3_method_5_code
def yX1_codeAt : MethodName := ⟨RX1, "codeAt", "(LUnlikeGate$Told;LUnlikeGate$Row;I)I"⟩
abbrev cX1_firstHat : ByteArray := prog_3_method_6_code
def yX1_firstHat : MethodName := ⟨RX1, "firstHat", "(LUnlikeGate$Told;LUnlikeGate$Row;III)I"⟩
def RX2 : String := "UnlikeGate$Line"
def TX2 : u_T := fun k => match k with
  | 0 => ("UnlikeGate$Line", "latest", "I", false)
  | _ => ("UnlikeGate$Line", "differed", "I", false)
def tyX2 : Nat → FieldType := fun k => match k with
  | 0 => .int
  | _ => .int
abbrev wsX20 : List Cond := u_ws RX2 TX2 2
theorem nmX2 : ∀ a, a < 2 → ∀ b, b < 2 → a ≠ b → (TX2 a).2.1 ≠ (TX2 b).2.1 := by decide +kernel
theorem tyX2_ok : ∀ k, k < 2 → parseFieldDescriptor (TX2 k).2.2.1 = some (tyX2 k) := by decide +kernel
abbrev cX2_init : ByteArray := prog_4_method_1_code
def yX2_init : MethodName := ⟨RX2, "<init>", "()V"⟩
abbrev cX2_clear : ByteArray := prog_4_method_2_code
def yX2_clear : MethodName := ⟨RX2, "clear", "()V"⟩
abbrev cX2_unlikeLatest : ByteArray := prog_4_method_3_code
def yX2_unlikeLatest : MethodName := ⟨RX2, "unlikeLatest", "(LUnlikeGate$Told;I)I"⟩
abbrev cX2_lets : ByteArray := prog_4_method_4_code
def yX2_lets : MethodName := ⟨RX2, "lets", "(LUnlikeGate$Told;I)Z"⟩
abbrev cX2_take : ByteArray := prog_4_method_5_code
def yX2_take : MethodName := ⟨RX2, "take", "(LUnlikeGate$Told;I)V"⟩
def RX3 : String := "UnlikeGate$LongestRows"
def TX3 : u_T := fun k => match k with
  | 0 => ("UnlikeGate$LongestRows", "lengths", "[I", true)
  | _ => ("UnlikeGate$LongestRows", "known", "Z", false)
def tyX3 : Nat → FieldType := fun k => match k with
  | 0 => .array .int
  | _ => .boolean
abbrev wsX30 : List Cond := u_ws RX3 TX3 2
theorem nmX3 : ∀ a, a < 2 → ∀ b, b < 2 → a ≠ b → (TX3 a).2.1 ≠ (TX3 b).2.1 := by decide +kernel
theorem tyX3_ok : ∀ k, k < 2 → parseFieldDescriptor (TX3 k).2.2.1 = some (tyX3 k) := by decide +kernel
abbrev cX3_init : ByteArray := prog_5_method_1_code
def yX3_init : MethodName := ⟨RX3, "<init>", "()V"⟩
abbrev cX3_forget : ByteArray := prog_5_method_2_code
def yX3_forget : MethodName := ⟨RX3, "forget", "()V"⟩
abbrev cX3_most : ByteArray := prog_5_method_3_code
def yX3_most : MethodName := ⟨RX3, "most", "(LUnlikeGate$Told;I)I"⟩
abbrev cX3_length : ByteArray := prog_5_method_4_code
def yX3_length : MethodName := ⟨RX3, "length", "(III)I"⟩
abbrev cX3_fill : ByteArray := prog_5_method_5_code
def yX3_fill : MethodName := ⟨RX3, "fill", "(LUnlikeGate$Told;)V"⟩
abbrev cX3_lengthFrom : ByteArray := prog_5_method_6_code
def yX3_lengthFrom : MethodName := ⟨RX3, "lengthFrom", "(LUnlikeGate$Told;III)I"⟩
abbrev cX3_personAt : ByteArray := prog_5_method_7_code
def yX3_personAt : MethodName := ⟨RX3, "personAt", "(LUnlikeGate$Told;LUnlikeGate$Line;III)I"⟩
abbrev cX3_firstWith : ByteArray := prog_5_method_8_code
def yX3_firstWith : MethodName := ⟨RX3, "firstWith", "(LUnlikeGate$Told;LUnlikeGate$Line;II)I"⟩
def RX4 : String := "UnlikeGate$Row"
def TX4 : u_T := fun k => match k with
  | 0 => ("UnlikeGate$Row", "people", "[I", true)
  | _ => ("UnlikeGate$Row", "size", "I", false)
def tyX4 : Nat → FieldType := fun k => match k with
  | 0 => .array .int
  | _ => .int
abbrev wsX40 : List Cond := u_ws RX4 TX4 2
theorem nmX4 : ∀ a, a < 2 → ∀ b, b < 2 → a ≠ b → (TX4 a).2.1 ≠ (TX4 b).2.1 := by decide +kernel
theorem tyX4_ok : ∀ k, k < 2 → parseFieldDescriptor (TX4 k).2.2.1 = some (tyX4 k) := by decide +kernel
abbrev cX4_init : ByteArray := prog_6_method_1_code
def yX4_init : MethodName := ⟨RX4, "<init>", "()V"⟩
abbrev cX4_append : ByteArray := prog_6_method_2_code
def yX4_append : MethodName := ⟨RX4, "append", "(I)Z"⟩
abbrev cX4_at : ByteArray := prog_6_method_3_code
def yX4_at : MethodName := ⟨RX4, "at", "(I)I"⟩
def RX5 : String := "UnlikeGate$Strangers"
def TX5 : u_T := fun k => match k with
  | _ => ("UnlikeGate$Strangers", "reaching", "[I", true)
def tyX5 : Nat → FieldType := fun k => match k with
  | _ => .array .int
abbrev wsX50 : List Cond := u_ws RX5 TX5 1
theorem nmX5 : ∀ a, a < 1 → ∀ b, b < 1 → a ≠ b → (TX5 a).2.1 ≠ (TX5 b).2.1 := by decide +kernel
theorem tyX5_ok : ∀ k, k < 1 → parseFieldDescriptor (TX5 k).2.2.1 = some (tyX5 k) := by decide +kernel
abbrev cX5_init : ByteArray := prog_7_method_1_code
def yX5_init : MethodName := ⟨RX5, "<init>", "()V"⟩
abbrev cX5_fewest : ByteArray := prog_7_method_2_code
def yX5_fewest : MethodName := ⟨RX5, "fewest", "(LUnlikeGate$Told;I)I"⟩
abbrev cX5_reaches : ByteArray := prog_7_method_3_code
def yX5_reaches : MethodName := ⟨RX5, "reaches", "(III)Z"⟩
abbrev cX5_reachedBy : ByteArray := prog_7_method_4_code
def yX5_reachedBy : MethodName := ⟨RX5, "reachedBy", "(LUnlikeGate$Told;II)I"⟩
abbrev cX5_turnedInto : ByteArray := prog_7_method_5_code
def yX5_turnedInto : MethodName := ⟨RX5, "turnedInto", "(LUnlikeGate$Told;II)I"⟩
abbrev cX5_turnedOne : ByteArray := prog_7_method_6_code
def yX5_turnedOne : MethodName := ⟨RX5, "turnedOne", "(III)I"⟩
abbrev cX5_leastFirst : ByteArray := prog_7_method_7_code
def yX5_leastFirst : MethodName := ⟨RX5, "leastFirst", "(LUnlikeGate$Told;III)I"⟩
def RX6 : String := "UnlikeGate$Text"
def TX6 : u_T := fun k => match k with
  | 0 => ("UnlikeGate$Text", "bytes", "[B", true)
  | _ => ("UnlikeGate$Text", "length", "I", false)
def tyX6 : Nat → FieldType := fun k => match k with
  | 0 => .array .byte
  | _ => .int
abbrev wsX60 : List Cond := u_ws RX6 TX6 2
theorem nmX6 : ∀ a, a < 2 → ∀ b, b < 2 → a ≠ b → (TX6 a).2.1 ≠ (TX6 b).2.1 := by decide +kernel
theorem tyX6_ok : ∀ k, k < 2 → parseFieldDescriptor (TX6 k).2.2.1 = some (tyX6 k) := by decide +kernel
abbrev cX6_init : ByteArray := prog_8_method_1_code
def yX6_init : MethodName := ⟨RX6, "<init>", "()V"⟩
abbrev cX6_hasRoomFor : ByteArray := prog_8_method_2_code
def yX6_hasRoomFor : MethodName := ⟨RX6, "hasRoomFor", "(I)Z"⟩
abbrev cX6_append : ByteArray := prog_8_method_3_code
def yX6_append : MethodName := ⟨RX6, "append", "(IJ)I"⟩
abbrev cX6_clear : ByteArray := prog_8_method_4_code
def yX6_clear : MethodName := ⟨RX6, "clear", "()V"⟩
abbrev cX6_readInto : ByteArray := prog_8_method_5_code
def yX6_readInto : MethodName := ⟨RX6, "readInto", "(LUnlikeGate$Told;)I"⟩
abbrev cX6_takeItem : ByteArray := prog_8_method_6_code
def yX6_takeItem : MethodName := ⟨RX6, "takeItem", "(LUnlikeGate$Told;II)Z"⟩
abbrev cX6_find : ByteArray := prog_8_method_7_code
def yX6_find : MethodName := ⟨RX6, "find", "(III)I"⟩
abbrev cX6_number : ByteArray := prog_8_method_8_code
def yX6_number : MethodName := ⟨RX6, "number", "(II)I"⟩
def RX7 : String := "UnlikeGate$Told"
def TX7 : u_T := fun k => match k with
  | 0 => ("UnlikeGate$Told", "values", "[I", true)
  | 1 => ("UnlikeGate$Told", "looks", "[I", true)
  | 2 => ("UnlikeGate$Told", "hats", "[I", true)
  | 3 => ("UnlikeGate$Told", "things", "I", false)
  | 4 => ("UnlikeGate$Told", "persons", "I", false)
  | 5 => ("UnlikeGate$Told", "borrowed", "I", false)
  | 6 => ("UnlikeGate$Told", "hatCount", "I", false)
  | 7 => ("UnlikeGate$Told", "law", "I", false)
  | _ => ("UnlikeGate$Told", "guard", "I", false)
def tyX7 : Nat → FieldType := fun k => match k with
  | 0 => .array .int
  | 1 => .array .int
  | 2 => .array .int
  | 3 => .int
  | 4 => .int
  | 5 => .int
  | 6 => .int
  | 7 => .int
  | _ => .int
abbrev wsX70 : List Cond := u_ws RX7 TX7 9
theorem nmX7 : ∀ a, a < 9 → ∀ b, b < 9 → a ≠ b → (TX7 a).2.1 ≠ (TX7 b).2.1 := by decide +kernel
theorem tyX7_ok : ∀ k, k < 9 → parseFieldDescriptor (TX7 k).2.2.1 = some (tyX7 k) := by decide +kernel
abbrev cX7_init : ByteArray := prog_9_method_1_code
def yX7_init : MethodName := ⟨RX7, "<init>", "()V"⟩
abbrev cX7_clear : ByteArray := prog_9_method_2_code
def yX7_clear : MethodName := ⟨RX7, "clear", "()V"⟩
abbrev cX7_takeThing : ByteArray := prog_9_method_3_code
def yX7_takeThing : MethodName := ⟨RX7, "takeThing", "(II)Z"⟩
abbrev cX7_takeBorrowed : ByteArray := prog_9_method_4_code
def yX7_takeBorrowed : MethodName := ⟨RX7, "takeBorrowed", "(I)Z"⟩
abbrev cX7_takePerson : ByteArray := prog_9_method_5_code
def yX7_takePerson : MethodName := ⟨RX7, "takePerson", "([BII)Z"⟩
abbrev cX7_takeLaw : ByteArray := prog_9_method_6_code
def yX7_takeLaw : MethodName := ⟨RX7, "takeLaw", "(I)Z"⟩
abbrev cX7_takeGuard : ByteArray := prog_9_method_7_code
def yX7_takeGuard : MethodName := ⟨RX7, "takeGuard", "(I)Z"⟩
abbrev cX7_hasPerson : ByteArray := prog_9_method_8_code
def yX7_hasPerson : MethodName := ⟨RX7, "hasPerson", "(I)Z"⟩
abbrev cX7_hasThing : ByteArray := prog_9_method_9_code
def yX7_hasThing : MethodName := ⟨RX7, "hasThing", "(I)Z"⟩
abbrev cX7_allThings : ByteArray := prog_9_method_10_code
def yX7_allThings : MethodName := ⟨RX7, "allThings", "()I"⟩
abbrev cX7_sees : ByteArray := prog_9_method_11_code
def yX7_sees : MethodName := ⟨RX7, "sees", "()I"⟩
abbrev cX7_thingsOfMoreThan : ByteArray := prog_9_method_12_code
def yX7_thingsOfMoreThan : MethodName := ⟨RX7, "thingsOfMoreThan", "(I)I"⟩
abbrev cX7_look : ByteArray := prog_9_method_13_code
def yX7_look : MethodName := ⟨RX7, "look", "(I)I"⟩
abbrev cX7_seenUnlike : ByteArray := prog_9_method_14_code
def yX7_seenUnlike : MethodName := ⟨RX7, "seenUnlike", "(II)I"⟩
abbrev cX7_code : ByteArray := prog_9_method_15_code
def yX7_code : MethodName := ⟨RX7, "code", "(I)I"⟩
abbrev cX7_codes : ByteArray := prog_9_method_16_code
def yX7_codes : MethodName := ⟨RX7, "codes", "()I"⟩
abbrev cX7_lookOfCode : ByteArray := prog_9_method_17_code
def yX7_lookOfCode : MethodName := ⟨RX7, "lookOfCode", "(I)I"⟩
abbrev cX7_lookWithHat : ByteArray := prog_9_method_18_code
def yX7_lookWithHat : MethodName := ⟨RX7, "lookWithHat", "(II)I"⟩
abbrev cX7_lets : ByteArray := prog_9_method_19_code
def yX7_lets : MethodName := ⟨RX7, "lets", "(II)Z"⟩
abbrev cX7_barBehind : ByteArray := prog_9_method_20_code
def yX7_barBehind : MethodName := ⟨RX7, "barBehind", "(I)I"⟩
abbrev cX7_bars : ByteArray := prog_9_method_21_code
def yX7_bars : MethodName := ⟨RX7, "bars", "()I"⟩
abbrev cX7_oddMinusEven : ByteArray := prog_9_method_22_code
def yX7_oddMinusEven : MethodName := ⟨RX7, "oddMinusEven", "()I"⟩
abbrev cX7_isSameGuard : ByteArray := prog_9_method_23_code
def yX7_isSameGuard : MethodName := ⟨RX7, "isSameGuard", "(I)Z"⟩
abbrev cX7_drawn : ByteArray := prog_9_method_24_code
def yX7_drawn : MethodName := ⟨RX7, "drawn", "(II)I"⟩
def RX8 : String := "UnlikeGate$Walks"
def TX8 : u_T := fun k => match k with
  | 0 => ("UnlikeGate$Walks", "ways", "[J", false)
  | _ => ("UnlikeGate$Walks", "next", "[J", false)
def tyX8 : Nat → FieldType := fun k => match k with
  | 0 => .array .long
  | _ => .array .long
abbrev wsX80 : List Cond := u_ws RX8 TX8 2
theorem nmX8 : ∀ a, a < 2 → ∀ b, b < 2 → a ≠ b → (TX8 a).2.1 ≠ (TX8 b).2.1 := by decide +kernel
theorem tyX8_ok : ∀ k, k < 2 → parseFieldDescriptor (TX8 k).2.2.1 = some (tyX8 k) := by decide +kernel
abbrev cX8_init : ByteArray := prog_10_method_1_code
def yX8_init : MethodName := ⟨RX8, "<init>", "()V"⟩
abbrev cX8_startAt : ByteArray := prog_10_method_2_code
def yX8_startAt : MethodName := ⟨RX8, "startAt", "(I)V"⟩
abbrev cX8_goOn : ByteArray := prog_10_method_3_code
def yX8_goOn : MethodName := ⟨RX8, "goOn", "(LUnlikeGate$Told;)V"⟩
abbrev cX8_spread : ByteArray := prog_10_method_4_code
def yX8_spread : MethodName := ⟨RX8, "spread", "(LUnlikeGate$Told;II)V"⟩
abbrev cX8_waysTo : ByteArray := prog_10_method_5_code
def yX8_waysTo : MethodName := ⟨RX8, "waysTo", "(I)J"⟩
def RX9 : String := "UnlikeGate"
def TX9 : u_T := fun k => match k with
  | 0 => ("UnlikeGate", "text", "LUnlikeGate$Text;", true)
  | 1 => ("UnlikeGate", "gate", "LUnlikeGate$Gate;", true)
  | 2 => ("UnlikeGate", "row", "LUnlikeGate$Row;", true)
  | 3 => ("UnlikeGate", "line", "LUnlikeGate$Line;", true)
  | 4 => ("UnlikeGate", "walks", "LUnlikeGate$Walks;", true)
  | 5 => ("UnlikeGate", "longestRows", "LUnlikeGate$LongestRows;", true)
  | 6 => ("UnlikeGate", "strangers", "LUnlikeGate$Strangers;", true)
  | 7 => ("UnlikeGate", "lending", "LUnlikeGate$Lending;", true)
  | 8 => ("UnlikeGate", "told", "LUnlikeGate$Told;", false)
  | _ => ("UnlikeGate", "spare", "LUnlikeGate$Told;", false)
def tyX9 : Nat → FieldType := fun k => match k with
  | 0 => .object "UnlikeGate$Text"
  | 1 => .object "UnlikeGate$Gate"
  | 2 => .object "UnlikeGate$Row"
  | 3 => .object "UnlikeGate$Line"
  | 4 => .object "UnlikeGate$Walks"
  | 5 => .object "UnlikeGate$LongestRows"
  | 6 => .object "UnlikeGate$Strangers"
  | 7 => .object "UnlikeGate$Lending"
  | 8 => .object "UnlikeGate$Told"
  | _ => .object "UnlikeGate$Told"
abbrev wsX90 : List Cond := u_ws RX9 TX9 10
theorem nmX9 : ∀ a, a < 10 → ∀ b, b < 10 → a ≠ b → (TX9 a).2.1 ≠ (TX9 b).2.1 := by decide +kernel
theorem tyX9_ok : ∀ k, k < 10 → parseFieldDescriptor (TX9 k).2.2.1 = some (tyX9 k) := by decide +kernel
abbrev cX9_init : ByteArray := prog_1_method_1_code
def yX9_init : MethodName := ⟨RX9, "<init>", "()V"⟩
abbrev cX9_write : ByteArray := prog_1_method_2_code
def yX9_write : MethodName := ⟨RX9, "write", "(IJ)I"⟩
abbrev cX9_wipe : ByteArray := prog_1_method_3_code
def yX9_wipe : MethodName := ⟨RX9, "wipe", "()I"⟩
abbrev cX9_fault : ByteArray := prog_1_method_4_code
def yX9_fault : MethodName := ⟨RX9, "fault", "()I"⟩
abbrev cX9_lay : ByteArray := prog_1_method_5_code
def yX9_lay : MethodName := ⟨RX9, "lay", "()I"⟩
abbrev cX9_person : ByteArray := prog_1_method_6_code
def yX9_person : MethodName := ⟨RX9, "person", "(II)I"⟩
abbrev cX9_differ : ByteArray := prog_1_method_7_code
def yX9_differ : MethodName := ⟨RX9, "differ", "(IIZ)I"⟩
abbrev cX9_may : ByteArray := prog_1_method_8_code
def yX9_may : MethodName := ⟨RX9, "may", "(I)I"⟩
abbrev cX9_goIn : ByteArray := prog_1_method_9_code
def yX9_goIn : MethodName := ⟨RX9, "goIn", "(I)I"⟩
abbrev cX9_goOut : ByteArray := prog_1_method_10_code
def yX9_goOut : MethodName := ⟨RX9, "goOut", "(I)I"⟩
abbrev cX9_passGate : ByteArray := prog_1_method_11_code
def yX9_passGate : MethodName := ⟨RX9, "passGate", "(I)I"⟩
abbrev cX9_undo : ByteArray := prog_1_method_12_code
def yX9_undo : MethodName := ⟨RX9, "undo", "()I"⟩
abbrev cX9_last : ByteArray := prog_1_method_13_code
def yX9_last : MethodName := ⟨RX9, "last", "()I"⟩
abbrev cX9_add : ByteArray := prog_1_method_14_code
def yX9_add : MethodName := ⟨RX9, "add", "(I)I"⟩
abbrev cX9_noRow : ByteArray := prog_1_method_15_code
def yX9_noRow : MethodName := ⟨RX9, "noRow", "()I"⟩
abbrev cX9_judge : ByteArray := prog_1_method_16_code
def yX9_judge : MethodName := ⟨RX9, "judge", "()I"⟩
abbrev cX9_longest : ByteArray := prog_1_method_17_code
def yX9_longest : MethodName := ⟨RX9, "longest", "(II)I"⟩
abbrev cX9_proof : ByteArray := prog_1_method_18_code
def yX9_proof : MethodName := ⟨RX9, "proof", "()I"⟩
abbrev cX9_between : ByteArray := prog_1_method_19_code
def yX9_between : MethodName := ⟨RX9, "between", "(III)J"⟩
abbrev cX9_nearest : ByteArray := prog_1_method_20_code
def yX9_nearest : MethodName := ⟨RX9, "nearest", "(II)I"⟩
abbrev cX9_steps : ByteArray := prog_1_method_21_code
def yX9_steps : MethodName := ⟨RX9, "steps", "(III)I"⟩
abbrev cX9_lent : ByteArray := prog_1_method_22_code
def yX9_lent : MethodName := ⟨RX9, "lent", "(I)I"⟩
abbrev cX9_mustSee : ByteArray := prog_1_method_23_code
def yX9_mustSee : MethodName := ⟨RX9, "mustSee", "()I"⟩
abbrev cX9_crowd : ByteArray := prog_1_method_24_code
def yX9_crowd : MethodName := ⟨RX9, "crowd", "(III)I"⟩
abbrev cX9_keep : ByteArray := prog_1_method_25_code
def yX9_keep : MethodName := ⟨RX9, "keep", "()I"⟩
abbrev cX9_back : ByteArray := prog_1_method_26_code
def yX9_back : MethodName := ⟨RX9, "back", "()I"⟩
abbrev cX9_count : ByteArray := prog_1_method_27_code
def yX9_count : MethodName := ⟨RX9, "count", "(I)I"⟩
abbrev cX9_unlike : ByteArray := prog_1_method_28_code
def yX9_unlike : MethodName := ⟨RX9, "unlike", "(II)I"⟩
abbrev cX9_valueOf : ByteArray := prog_1_method_29_code
def yX9_valueOf : MethodName := ⟨RX9, "valueOf", "(II)I"⟩
abbrev cX9_lookWith : ByteArray := prog_1_method_30_code
def yX9_lookWith : MethodName := ⟨RX9, "lookWith", "(II)I"⟩
abbrev cX9_barredBy : ByteArray := prog_1_method_31_code
def yX9_barredBy : MethodName := ⟨RX9, "barredBy", "(I)I"⟩
def RX10 : String := "UnlikeGateModel"
def TX10 : u_T := fun k => match k with
  | 0 => ("UnlikeGateModel", "length", "I", false)
  | 1 => ("UnlikeGateModel", "text", "[B", true)
  | 2 => ("UnlikeGateModel", "at", "I", false)
  | 3 => ("UnlikeGateModel", "told", "[I", true)
  | 4 => ("UnlikeGateModel", "things", "[I", true)
  | 5 => ("UnlikeGateModel", "values", "[I", true)
  | 6 => ("UnlikeGateModel", "lends", "[I", true)
  | 7 => ("UnlikeGateModel", "people", "[I", true)
  | 8 => ("UnlikeGateModel", "person", "[I", true)
  | 9 => ("UnlikeGateModel", "slot", "[I", true)
  | 10 => ("UnlikeGateModel", "kept", "I", false)
  | 11 => ("UnlikeGateModel", "done", "I", false)
  | 12 => ("UnlikeGateModel", "was", "[I", true)
  | 13 => ("UnlikeGateModel", "rowMany", "I", false)
  | 14 => ("UnlikeGateModel", "row", "[I", true)
  | 15 => ("UnlikeGateModel", "way", "[I", true)
  | 16 => ("UnlikeGateModel", "differed", "[I", true)
  | 17 => ("UnlikeGateModel", "best", "[I", true)
  | 18 => ("UnlikeGateModel", "ways", "[J", true)
  | 19 => ("UnlikeGateModel", "dist", "[I", true)
  | 20 => ("UnlikeGateModel", "queue", "[I", true)
  | 21 => ("UnlikeGateModel", "costs", "[I", true)
  | _ => ("UnlikeGateModel", "codes", "[I", true)
def tyX10 : Nat → FieldType := fun k => match k with
  | 0 => .int
  | 1 => .array .byte
  | 2 => .int
  | 3 => .array .int
  | 4 => .array .int
  | 5 => .array .int
  | 6 => .array .int
  | 7 => .array .int
  | 8 => .array .int
  | 9 => .array .int
  | 10 => .int
  | 11 => .int
  | 12 => .array .int
  | 13 => .int
  | 14 => .array .int
  | 15 => .array .int
  | 16 => .array .int
  | 17 => .array .int
  | 18 => .array .long
  | 19 => .array .int
  | 20 => .array .int
  | 21 => .array .int
  | _ => .array .int
abbrev wsX100 : List Cond := u_ws RX10 TX10 23
theorem nmX10 : ∀ a, a < 23 → ∀ b, b < 23 → a ≠ b → (TX10 a).2.1 ≠ (TX10 b).2.1 := by decide +kernel
theorem tyX10_ok : ∀ k, k < 23 → parseFieldDescriptor (TX10 k).2.2.1 = some (tyX10 k) := by decide +kernel
abbrev cX10_init : ByteArray := prog_12_method_1_code
def yX10_init : MethodName := ⟨RX10, "<init>", "()V"⟩
abbrev cX10_in : ByteArray := prog_12_method_2_code
def yX10_in : MethodName := ⟨RX10, "in", "(JJJ)Z"⟩
abbrev cX10_write : ByteArray := prog_12_method_3_code
def yX10_write : MethodName := ⟨RX10, "write", "(IJ)I"⟩
abbrev cX10_wipe : ByteArray := prog_12_method_4_code
def yX10_wipe : MethodName := ⟨RX10, "wipe", "()I"⟩
abbrev cX10_number : ByteArray := prog_12_method_5_code
def yX10_number : MethodName := ⟨RX10, "number", "()I"⟩
abbrev cX10_isPerson : ByteArray := prog_12_method_6_code
def yX10_isPerson : MethodName := ⟨RX10, "isPerson", "()Z"⟩
abbrev cX10_borrowed : ByteArray := prog_12_method_7_code
def yX10_borrowed : MethodName := ⟨RX10, "borrowed", "()I"⟩
abbrev cX10_isThing : ByteArray := prog_12_method_8_code
def yX10_isThing : MethodName := ⟨RX10, "isThing", "()Z"⟩
abbrev cX10_isItem : ByteArray := prog_12_method_9_code
def yX10_isItem : MethodName := ⟨RX10, "isItem", "()Z"⟩
abbrev cX10_begins : ByteArray := prog_12_method_10_code
def yX10_begins : MethodName := ⟨RX10, "begins", "()V"⟩
abbrev cX10_takes : ByteArray := prog_12_method_11_code
def yX10_takes : MethodName := ⟨RX10, "takes", "()V"⟩
abbrev cX10_fault : ByteArray := prog_12_method_12_code
def yX10_fault : MethodName := ⟨RX10, "fault", "()I"⟩
abbrev cX10_lay : ByteArray := prog_12_method_13_code
def yX10_lay : MethodName := ⟨RX10, "lay", "()I"⟩
abbrev cX10_isMan : ByteArray := prog_12_method_14_code
def yX10_isMan : MethodName := ⟨RX10, "isMan", "(I)Z"⟩
abbrev cX10_seen : ByteArray := prog_12_method_15_code
def yX10_seen : MethodName := ⟨RX10, "seen", "()I"⟩
abbrev cX10_codeOf : ByteArray := prog_12_method_16_code
def yX10_codeOf : MethodName := ⟨RX10, "codeOf", "(I)I"⟩
abbrev cX10_person : ByteArray := prog_12_method_17_code
def yX10_person : MethodName := ⟨RX10, "person", "(II)I"⟩
abbrev cX10_unlike : ByteArray := prog_12_method_18_code
def yX10_unlike : MethodName := ⟨RX10, "unlike", "(II)I"⟩
abbrev cX10_differ : ByteArray := prog_12_method_19_code
def yX10_differ : MethodName := ⟨RX10, "differ", "(IIZ)I"⟩
abbrev cX10_many : ByteArray := prog_12_method_20_code
def yX10_many : MethodName := ⟨RX10, "many", "(I)I"⟩
abbrev cX10_passes : ByteArray := prog_12_method_21_code
def yX10_passes : MethodName := ⟨RX10, "passes", "(III)Z"⟩
abbrev cX10_mayNow : ByteArray := prog_12_method_22_code
def yX10_mayNow : MethodName := ⟨RX10, "mayNow", "(I)Z"⟩
abbrev cX10_may : ByteArray := prog_12_method_23_code
def yX10_may : MethodName := ⟨RX10, "may", "(I)I"⟩
abbrev cX10_goes : ByteArray := prog_12_method_24_code
def yX10_goes : MethodName := ⟨RX10, "goes", "(II)I"⟩
abbrev cX10_goIn : ByteArray := prog_12_method_25_code
def yX10_goIn : MethodName := ⟨RX10, "goIn", "(I)I"⟩
abbrev cX10_goOut : ByteArray := prog_12_method_26_code
def yX10_goOut : MethodName := ⟨RX10, "goOut", "(I)I"⟩
abbrev cX10_undo : ByteArray := prog_12_method_27_code
def yX10_undo : MethodName := ⟨RX10, "undo", "()I"⟩
abbrev cX10_last : ByteArray := prog_12_method_28_code
def yX10_last : MethodName := ⟨RX10, "last", "()I"⟩
abbrev cX10_add : ByteArray := prog_12_method_29_code
def yX10_add : MethodName := ⟨RX10, "add", "(I)I"⟩
abbrev cX10_noRow : ByteArray := prog_12_method_30_code
def yX10_noRow : MethodName := ⟨RX10, "noRow", "()I"⟩
abbrev cX10_judge : ByteArray := prog_12_method_31_code
def yX10_judge : MethodName := ⟨RX10, "judge", "()I"⟩
abbrev cX10_longestOf : ByteArray := prog_12_method_32_code
def yX10_longestOf : MethodName := ⟨RX10, "longestOf", "(I)I"⟩
abbrev cX10_longest : ByteArray := prog_12_method_33_code
def yX10_longest : MethodName := ⟨RX10, "longest", "(II)I"⟩
abbrev cX10_proof : ByteArray := prog_12_method_34_code
def yX10_proof : MethodName := ⟨RX10, "proof", "()I"⟩
abbrev cX10_rows : ByteArray := prog_12_method_35_code
def yX10_rows : MethodName := ⟨RX10, "rows", "(III)J"⟩
abbrev cX10_mark : ByteArray := prog_12_method_36_code
def yX10_mark : MethodName := ⟨RX10, "mark", "(I)I"⟩
abbrev cX10_between : ByteArray := prog_12_method_37_code
def yX10_between : MethodName := ⟨RX10, "between", "(III)J"⟩
abbrev cX10_nearest : ByteArray := prog_12_method_38_code
def yX10_nearest : MethodName := ⟨RX10, "nearest", "(II)I"⟩
abbrev cX10_valueOf : ByteArray := prog_12_method_39_code
def yX10_valueOf : MethodName := ⟨RX10, "valueOf", "(II)I"⟩
abbrev cX10_all : ByteArray := prog_12_method_40_code
def yX10_all : MethodName := ⟨RX10, "all", "()I"⟩
abbrev cX10_unlikeCodes : ByteArray := prog_12_method_41_code
def yX10_unlikeCodes : MethodName := ⟨RX10, "unlikeCodes", "(II)I"⟩
abbrev cX10_plain : ByteArray := prog_12_method_42_code
def yX10_plain : MethodName := ⟨RX10, "plain", "(I)I"⟩
abbrev cX10_circles : ByteArray := prog_12_method_43_code
def yX10_circles : MethodName := ⟨RX10, "circles", "(I)V"⟩
abbrev cX10_steps : ByteArray := prog_12_method_44_code
def yX10_steps : MethodName := ⟨RX10, "steps", "(III)I"⟩
abbrev cX10_lentCode : ByteArray := prog_12_method_45_code
def yX10_lentCode : MethodName := ⟨RX10, "lentCode", "(II)I"⟩
abbrev cX10_others : ByteArray := prog_12_method_46_code
def yX10_others : MethodName := ⟨RX10, "others", "(II)I"⟩
abbrev cX10_goesWith : ByteArray := prog_12_method_47_code
def yX10_goesWith : MethodName := ⟨RX10, "goesWith", "(II)Z"⟩
abbrev cX10_loans : ByteArray := prog_12_method_48_code
def yX10_loans : MethodName := ⟨RX10, "loans", "()V"⟩
abbrev cX10_lent : ByteArray := prog_12_method_49_code
def yX10_lent : MethodName := ⟨RX10, "lent", "(I)I"⟩
abbrev cX10_mustSee : ByteArray := prog_12_method_50_code
def yX10_mustSee : MethodName := ⟨RX10, "mustSee", "()I"⟩
abbrev cX10_crowd : ByteArray := prog_12_method_51_code
def yX10_crowd : MethodName := ⟨RX10, "crowd", "(III)I"⟩
abbrev cX10_copies : ByteArray := prog_12_method_52_code
def yX10_copies : MethodName := ⟨RX10, "copies", "(II)V"⟩
abbrev cX10_keep : ByteArray := prog_12_method_53_code
def yX10_keep : MethodName := ⟨RX10, "keep", "()I"⟩
abbrev cX10_back : ByteArray := prog_12_method_54_code
def yX10_back : MethodName := ⟨RX10, "back", "()I"⟩
abbrev cX10_count : ByteArray := prog_12_method_55_code
def yX10_count : MethodName := ⟨RX10, "count", "(I)I"⟩
def RJx145de : String := "java/io/Serializable"
def TJx145de : u_T := fun k => match k with
  | _ => ("", "", "", false)
def tyJx145de : Nat → FieldType := fun k => match k with
  | _ => .int
abbrev wsJx145de0 : List Cond := u_ws RJx145de TJx145de 0
theorem nmJx145de : ∀ a, a < 0 → ∀ b, b < 0 → a ≠ b → (TJx145de a).2.1 ≠ (TJx145de b).2.1 := by decide +kernel
theorem tyJx145de_ok : ∀ k, k < 0 → parseFieldDescriptor (TJx145de k).2.2.1 = some (tyJx145de k) := by decide +kernel
def RJx9f9b0 : String := "java/lang/CharSequence"
def TJx9f9b0 : u_T := fun k => match k with
  | _ => ("", "", "", false)
def tyJx9f9b0 : Nat → FieldType := fun k => match k with
  | _ => .int
abbrev wsJx9f9b00 : List Cond := u_ws RJx9f9b0 TJx9f9b0 0
theorem nmJx9f9b0 : ∀ a, a < 0 → ∀ b, b < 0 → a ≠ b → (TJx9f9b0 a).2.1 ≠ (TJx9f9b0 b).2.1 := by decide +kernel
theorem tyJx9f9b0_ok : ∀ k, k < 0 → parseFieldDescriptor (TJx9f9b0 k).2.2.1 = some (tyJx9f9b0 k) := by decide +kernel
def RJxb160c : String := "java/lang/Comparable"
def TJxb160c : u_T := fun k => match k with
  | _ => ("", "", "", false)
def tyJxb160c : Nat → FieldType := fun k => match k with
  | _ => .int
abbrev wsJxb160c0 : List Cond := u_ws RJxb160c TJxb160c 0
theorem nmJxb160c : ∀ a, a < 0 → ∀ b, b < 0 → a ≠ b → (TJxb160c a).2.1 ≠ (TJxb160c b).2.1 := by decide +kernel
theorem tyJxb160c_ok : ∀ k, k < 0 → parseFieldDescriptor (TJxb160c k).2.2.1 = some (tyJxb160c k) := by decide +kernel
def RJ6 : String := "java/lang/Integer"
def TJ6 : u_T := fun k => match k with
  | _ => ("", "", "", false)
def tyJ6 : Nat → FieldType := fun k => match k with
  | _ => .int
abbrev wsJ60 : List Cond := u_ws RJ6 TJ6 0
theorem nmJ6 : ∀ a, a < 0 → ∀ b, b < 0 → a ≠ b → (TJ6 a).2.1 ≠ (TJ6 b).2.1 := by decide +kernel
theorem tyJ6_ok : ∀ k, k < 0 → parseFieldDescriptor (TJ6 k).2.2.1 = some (tyJ6 k) := by decide +kernel
abbrev cJ6_bitCount_0f7a4 : ByteArray := prog_13_method_49_code
def yJ6_bitCount_0f7a4 : MethodName := ⟨RJ6, "bitCount", "(I)I"⟩
def RJ9 : String := "java/lang/Math"
def TJ9 : u_T := fun k => match k with
  | _ => ("", "", "", false)
def tyJ9 : Nat → FieldType := fun k => match k with
  | _ => .int
abbrev wsJ90 : List Cond := u_ws RJ9 TJ9 0
theorem nmJ9 : ∀ a, a < 0 → ∀ b, b < 0 → a ≠ b → (TJ9 a).2.1 ≠ (TJ9 b).2.1 := by decide +kernel
theorem tyJ9_ok : ∀ k, k < 0 → parseFieldDescriptor (TJ9 k).2.2.1 = some (tyJ9 k) := by decide +kernel
abbrev cJ9_abs_0f7a4 : ByteArray := prog_14_method_59_code
def yJ9_abs_0f7a4 : MethodName := ⟨RJ9, "abs", "(I)I"⟩
abbrev cJ9_max_7cf53 : ByteArray := prog_14_method_65_code
def yJ9_max_7cf53 : MethodName := ⟨RJ9, "max", "(II)I"⟩
abbrev cJ9_min_7cf53 : ByteArray := prog_14_method_69_code
def yJ9_min_7cf53 : MethodName := ⟨RJ9, "min", "(II)I"⟩
def RJ0 : String := "java/lang/String"
def TJ0 : u_T := fun k => match k with
  | _ => ("", "", "", false)
def tyJ0 : Nat → FieldType := fun k => match k with
  | _ => .int
abbrev wsJ00 : List Cond := u_ws RJ0 TJ0 0
theorem nmJ0 : ∀ a, a < 0 → ∀ b, b < 0 → a ≠ b → (TJ0 a).2.1 ≠ (TJ0 b).2.1 := by decide +kernel
theorem tyJ0_ok : ∀ k, k < 0 → parseFieldDescriptor (TJ0 k).2.2.1 = some (tyJ0 k) := by decide +kernel
abbrev cJ0_length_8abf5 : ByteArray := prog_15_method_54_code
def yJ0_length_8abf5 : MethodName := ⟨RJ0, "length", "()I"⟩
abbrev cJ0_charAt_5068e : ByteArray := prog_15_method_56_code
def yJ0_charAt_5068e : MethodName := ⟨RJ0, "charAt", "(I)C"⟩
abbrev cJ0_coder_7d493 : ByteArray := prog_15_method_152_code
def yJ0_coder_7d493 : MethodName := ⟨RJ0, "coder", "()B"⟩
abbrev cJ0_isLatin1_aae02 : ByteArray := prog_15_method_154_code
def yJ0_isLatin1_aae02 : MethodName := ⟨RJ0, "isLatin1", "()Z"⟩
abbrev cJ0_checkIndex_df160 : ByteArray := prog_15_method_155_code
def yJ0_checkIndex_df160 : MethodName := ⟨RJ0, "checkIndex", "(II)V"⟩
def RJ1 : String := "java/lang/StringLatin1"
def TJ1 : u_T := fun k => match k with
  | _ => ("", "", "", false)
def tyJ1 : Nat → FieldType := fun k => match k with
  | _ => .int
abbrev wsJ10 : List Cond := u_ws RJ1 TJ1 0
theorem nmJ1 : ∀ a, a < 0 → ∀ b, b < 0 → a ≠ b → (TJ1 a).2.1 ≠ (TJ1 b).2.1 := by decide +kernel
theorem tyJ1_ok : ∀ k, k < 0 → parseFieldDescriptor (TJ1 k).2.2.1 = some (tyJ1 k) := by decide +kernel
abbrev cJ1_charAt_3b067 : ByteArray := prog_16_method_2_code
def yJ1_charAt_3b067 : MethodName := ⟨RJ1, "charAt", "([BI)C"⟩
def RJ2 : String := "java/lang/StringUTF16"
def TJ2 : u_T := fun k => match k with
  | _ => ("", "", "", false)
def tyJ2 : Nat → FieldType := fun k => match k with
  | _ => .int
abbrev wsJ20 : List Cond := u_ws RJ2 TJ2 0
theorem nmJ2 : ∀ a, a < 0 → ∀ b, b < 0 → a ≠ b → (TJ2 a).2.1 ≠ (TJ2 b).2.1 := by decide +kernel
theorem tyJ2_ok : ∀ k, k < 0 → parseFieldDescriptor (TJ2 k).2.2.1 = some (tyJ2 k) := by decide +kernel
abbrev cJ2_getChar_3b067 : ByteArray := prog_17_method_5_code
def yJ2_getChar_3b067 : MethodName := ⟨RJ2, "getChar", "([BI)C"⟩
abbrev cJ2_length_9d52b : ByteArray := prog_17_method_6_code
def yJ2_length_9d52b : MethodName := ⟨RJ2, "length", "([B)I"⟩
abbrev cJ2_charAt_3b067 : ByteArray := prog_17_method_83_code
def yJ2_charAt_3b067 : MethodName := ⟨RJ2, "charAt", "([BI)C"⟩
abbrev cJ2_checkIndex_2214a : ByteArray := prog_17_method_91_code
def yJ2_checkIndex_2214a : MethodName := ⟨RJ2, "checkIndex", "(I[B)V"⟩
def RJ10 : String := "java/lang/System"
def TJ10 : u_T := fun k => match k with
  | _ => ("", "", "", false)
def tyJ10 : Nat → FieldType := fun k => match k with
  | _ => .int
abbrev wsJ100 : List Cond := u_ws RJ10 TJ10 0
theorem nmJ10 : ∀ a, a < 0 → ∀ b, b < 0 → a ≠ b → (TJ10 a).2.1 ≠ (TJ10 b).2.1 := by decide +kernel
theorem tyJ10_ok : ∀ k, k < 0 → parseFieldDescriptor (TJ10 k).2.2.1 = some (tyJ10 k) := by decide +kernel
def RJxfd54e : String := "java/lang/constant/Constable"
def TJxfd54e : u_T := fun k => match k with
  | _ => ("", "", "", false)
def tyJxfd54e : Nat → FieldType := fun k => match k with
  | _ => .int
abbrev wsJxfd54e0 : List Cond := u_ws RJxfd54e TJxfd54e 0
theorem nmJxfd54e : ∀ a, a < 0 → ∀ b, b < 0 → a ≠ b → (TJxfd54e a).2.1 ≠ (TJxfd54e b).2.1 := by decide +kernel
theorem tyJxfd54e_ok : ∀ k, k < 0 → parseFieldDescriptor (TJxfd54e k).2.2.1 = some (tyJxfd54e k) := by decide +kernel
def RJx3cf43 : String := "java/lang/constant/ConstantDesc"
def TJx3cf43 : u_T := fun k => match k with
  | _ => ("", "", "", false)
def tyJx3cf43 : Nat → FieldType := fun k => match k with
  | _ => .int
abbrev wsJx3cf430 : List Cond := u_ws RJx3cf43 TJx3cf43 0
theorem nmJx3cf43 : ∀ a, a < 0 → ∀ b, b < 0 → a ≠ b → (TJx3cf43 a).2.1 ≠ (TJx3cf43 b).2.1 := by decide +kernel
theorem tyJx3cf43_ok : ∀ k, k < 0 → parseFieldDescriptor (TJx3cf43 k).2.2.1 = some (tyJx3cf43 k) := by decide +kernel
def RJ7 : String := "java/util/Arrays"
def TJ7 : u_T := fun k => match k with
  | _ => ("", "", "", false)
def tyJ7 : Nat → FieldType := fun k => match k with
  | _ => .int
abbrev wsJ70 : List Cond := u_ws RJ7 TJ7 0
theorem nmJ7 : ∀ a, a < 0 → ∀ b, b < 0 → a ≠ b → (TJ7 a).2.1 ≠ (TJ7 b).2.1 := by decide +kernel
theorem tyJ7_ok : ∀ k, k < 0 → parseFieldDescriptor (TJ7 k).2.2.1 = some (tyJ7 k) := by decide +kernel
abbrev cJ7_fill_d0a16 : ByteArray := prog_19_method_101_code
def yJ7_fill_d0a16 : MethodName := ⟨RJ7, "fill", "([JJ)V"⟩
def RJ3 : String := "jdk/internal/util/Preconditions"
def TJ3 : u_T := fun k => match k with
  | _ => ("", "", "", false)
def tyJ3 : Nat → FieldType := fun k => match k with
  | _ => .int
abbrev wsJ30 : List Cond := u_ws RJ3 TJ3 0
theorem nmJ3 : ∀ a, a < 0 → ∀ b, b < 0 → a ≠ b → (TJ3 a).2.1 ≠ (TJ3 b).2.1 := by decide +kernel
theorem tyJ3_ok : ∀ k, k < 0 → parseFieldDescriptor (TJ3 k).2.2.1 = some (tyJ3 k) := by decide +kernel
abbrev cJ3_checkIndex_8e157 : ByteArray := prog_20_method_11_code
def yJ3_checkIndex_8e157 : MethodName := ⟨RJ3, "checkIndex", "(IILjava/util/function/BiFunction;)I"⟩
def RL : String := "UnlikeGateLaw"
abbrev cL_law : ByteArray := code
def yL_law : MethodName := ⟨RL, "law", "([I)Z"⟩
abbrev vwCl : List vw_C := [(RX0, TX0, 6), (RX1, TX1, 1), (RX2, TX2, 2), (RX3, TX3, 2), (RX4, TX4, 2), (RX5, TX5, 1), (RX6, TX6, 2), (RX7, TX7, 9), (RX8, TX8, 2), (RX9, TX9, 10), (RX10, TX10, 23)]
end
section
theorem dX0_init_0 : decode cX0_init 0 = .ok (.aload_n 0, 1) := by decide +kernel
theorem dX0_init_1 : decode cX0_init 1 = .ok (.invokespecial 3, 3) := by decide +kernel
theorem dX0_init_4 : decode cX0_init 4 = .ok (.aload_n 0, 1) := by decide +kernel
theorem dX0_init_5 : decode cX0_init 5 = .ok (.new 9, 3) := by decide +kernel
theorem dX0_init_8 : decode cX0_init 8 = .ok (.dup, 1) := by decide +kernel
theorem dX0_init_9 : decode cX0_init 9 = .ok (.invokespecial 11, 3) := by decide +kernel
theorem dX0_init_12 : decode cX0_init 12 = .ok (.putfield 12, 3) := by decide +kernel
theorem dX0_init_15 : decode cX0_init 15 = .ok (.aload_n 0, 1) := by decide +kernel
theorem dX0_init_16 : decode cX0_init 16 = .ok (.bipush 8, 2) := by decide +kernel
theorem dX0_init_18 : decode cX0_init 18 = .ok (.newarray .int, 2) := by decide +kernel
theorem dX0_init_20 : decode cX0_init 20 = .ok (.putfield 18, 3) := by decide +kernel
theorem dX0_init_23 : decode cX0_init 23 = .ok (.aload_n 0, 1) := by decide +kernel
theorem dX0_init_24 : decode cX0_init 24 = .ok (.iconst 2, 1) := by decide +kernel
theorem dX0_init_25 : decode cX0_init 25 = .ok (.newarray .int, 2) := by decide +kernel
theorem dX0_init_27 : decode cX0_init 27 = .ok (.putfield 22, 3) := by decide +kernel
theorem dX0_init_30 : decode cX0_init 30 = .ok (.return_, 1) := by decide +kernel
theorem dX0_clear_0 : decode cX0_clear 0 = .ok (.aload_n 0, 1) := by decide +kernel
theorem dX0_clear_1 : decode cX0_clear 1 = .ok (.getfield 12, 3) := by decide +kernel
theorem dX0_clear_4 : decode cX0_clear 4 = .ok (.invokevirtual 25, 3) := by decide +kernel
theorem dX0_clear_7 : decode cX0_clear 7 = .ok (.aload_n 0, 1) := by decide +kernel
theorem dX0_clear_8 : decode cX0_clear 8 = .ok (.iconst 0, 1) := by decide +kernel
theorem dX0_clear_9 : decode cX0_clear 9 = .ok (.putfield 28, 3) := by decide +kernel
theorem dX0_clear_12 : decode cX0_clear 12 = .ok (.aload_n 0, 1) := by decide +kernel
theorem dX0_clear_13 : decode cX0_clear 13 = .ok (.iconst 0, 1) := by decide +kernel
theorem dX0_clear_14 : decode cX0_clear 14 = .ok (.putfield 32, 3) := by decide +kernel
theorem dX0_clear_17 : decode cX0_clear 17 = .ok (.aload_n 0, 1) := by decide +kernel
theorem dX0_clear_18 : decode cX0_clear 18 = .ok (.iconst 0, 1) := by decide +kernel
theorem dX0_clear_19 : decode cX0_clear 19 = .ok (.putfield 35, 3) := by decide +kernel
theorem dX0_clear_22 : decode cX0_clear 22 = .ok (.return_, 1) := by decide +kernel
theorem dX0_holds_0 : decode cX0_holds 0 = .ok (.aload_n 0, 1) := by decide +kernel
theorem dX0_holds_1 : decode cX0_holds 1 = .ok (.getfield 28, 3) := by decide +kernel
theorem dX0_holds_4 : decode cX0_holds 4 = .ok (.iload_n 1, 1) := by decide +kernel
theorem dX0_holds_5 : decode cX0_holds 5 = .ok (.iushr, 1) := by decide +kernel
theorem dX0_holds_6 : decode cX0_holds 6 = .ok (.iconst 1, 1) := by decide +kernel
theorem dX0_holds_7 : decode cX0_holds 7 = .ok (.iand, 1) := by decide +kernel
theorem dX0_holds_8 : decode cX0_holds 8 = .ok (.iconst 1, 1) := by decide +kernel
theorem dX0_holds_9 : decode cX0_holds 9 = .ok (.if_icmp .ne 7, 3) := by decide +kernel
theorem dX0_holds_12 : decode cX0_holds 12 = .ok (.iconst 1, 1) := by decide +kernel
theorem dX0_holds_13 : decode cX0_holds 13 = .ok (.goto 4, 3) := by decide +kernel
theorem dX0_holds_16 : decode cX0_holds 16 = .ok (.iconst 0, 1) := by decide +kernel
theorem dX0_holds_17 : decode cX0_holds 17 = .ok (.ireturn, 1) := by decide +kernel
theorem dX0_howManyIn_0 : decode cX0_howManyIn 0 = .ok (.aload_n 0, 1) := by decide +kernel
theorem dX0_howManyIn_1 : decode cX0_howManyIn 1 = .ok (.getfield 28, 3) := by decide +kernel
theorem dX0_howManyIn_4 : decode cX0_howManyIn 4 = .ok (.invokestatic 38, 3) := by decide +kernel
theorem dX0_howManyIn_7 : decode cX0_howManyIn 7 = .ok (.ireturn, 1) := by decide +kernel
theorem dX0_pass_0 : decode cX0_pass 0 = .ok (.aload_n 0, 1) := by decide +kernel
theorem dX0_pass_1 : decode cX0_pass 1 = .ok (.invokevirtual 44, 3) := by decide +kernel
theorem dX0_pass_4 : decode cX0_pass 4 = .ok (.aload_n 0, 1) := by decide +kernel
theorem dX0_pass_5 : decode cX0_pass 5 = .ok (.getfield 12, 3) := by decide +kernel
theorem dX0_pass_8 : decode cX0_pass 8 = .ok (.aload_n 1, 1) := by decide +kernel
theorem dX0_pass_9 : decode cX0_pass 9 = .ok (.iload_n 2, 1) := by decide +kernel
theorem dX0_pass_10 : decode cX0_pass 10 = .ok (.invokevirtual 47, 3) := by decide +kernel
theorem dX0_pass_13 : decode cX0_pass 13 = .ok (.aload_n 0, 1) := by decide +kernel
theorem dX0_pass_14 : decode cX0_pass 14 = .ok (.dup, 1) := by decide +kernel
theorem dX0_pass_15 : decode cX0_pass 15 = .ok (.getfield 28, 3) := by decide +kernel
theorem dX0_pass_18 : decode cX0_pass 18 = .ok (.iconst 1, 1) := by decide +kernel
theorem dX0_pass_19 : decode cX0_pass 19 = .ok (.iload_n 2, 1) := by decide +kernel
theorem dX0_pass_20 : decode cX0_pass 20 = .ok (.ishl, 1) := by decide +kernel
theorem dX0_pass_21 : decode cX0_pass 21 = .ok (.ixor, 1) := by decide +kernel
theorem dX0_pass_22 : decode cX0_pass 22 = .ok (.putfield 28, 3) := by decide +kernel
theorem dX0_pass_25 : decode cX0_pass 25 = .ok (.return_, 1) := by decide +kernel
theorem dX0_remember_0 : decode cX0_remember 0 = .ok (.aload_n 0, 1) := by decide +kernel
theorem dX0_remember_1 : decode cX0_remember 1 = .ok (.getfield 32, 3) := by decide +kernel
theorem dX0_remember_4 : decode cX0_remember 4 = .ok (.bipush 8, 2) := by decide +kernel
theorem dX0_remember_6 : decode cX0_remember 6 = .ok (.if_icmp .ne 28, 3) := by decide +kernel
theorem dX0_remember_9 : decode cX0_remember 9 = .ok (.aload_n 0, 1) := by decide +kernel
theorem dX0_remember_10 : decode cX0_remember 10 = .ok (.getfield 18, 3) := by decide +kernel
theorem dX0_remember_13 : decode cX0_remember 13 = .ok (.iconst 1, 1) := by decide +kernel
theorem dX0_remember_14 : decode cX0_remember 14 = .ok (.aload_n 0, 1) := by decide +kernel
theorem dX0_remember_15 : decode cX0_remember 15 = .ok (.getfield 18, 3) := by decide +kernel
theorem dX0_remember_18 : decode cX0_remember 18 = .ok (.iconst 0, 1) := by decide +kernel
theorem dX0_remember_19 : decode cX0_remember 19 = .ok (.bipush 7, 2) := by decide +kernel
theorem dX0_remember_21 : decode cX0_remember 21 = .ok (.invokestatic 51, 3) := by decide +kernel
theorem dX0_remember_24 : decode cX0_remember 24 = .ok (.aload_n 0, 1) := by decide +kernel
theorem dX0_remember_25 : decode cX0_remember 25 = .ok (.dup, 1) := by decide +kernel
theorem dX0_remember_26 : decode cX0_remember 26 = .ok (.getfield 32, 3) := by decide +kernel
theorem dX0_remember_29 : decode cX0_remember 29 = .ok (.iconst 1, 1) := by decide +kernel
theorem dX0_remember_30 : decode cX0_remember 30 = .ok (.isub, 1) := by decide +kernel
theorem dX0_remember_31 : decode cX0_remember 31 = .ok (.putfield 32, 3) := by decide +kernel
theorem dX0_remember_34 : decode cX0_remember 34 = .ok (.aload_n 0, 1) := by decide +kernel
theorem dX0_remember_35 : decode cX0_remember 35 = .ok (.getfield 18, 3) := by decide +kernel
theorem dX0_remember_38 : decode cX0_remember 38 = .ok (.aload_n 0, 1) := by decide +kernel
theorem dX0_remember_39 : decode cX0_remember 39 = .ok (.getfield 32, 3) := by decide +kernel
theorem dX0_remember_42 : decode cX0_remember 42 = .ok (.aload_n 0, 1) := by decide +kernel
theorem dX0_remember_43 : decode cX0_remember 43 = .ok (.invokevirtual 57, 3) := by decide +kernel
theorem dX0_remember_46 : decode cX0_remember 46 = .ok (.iastore, 1) := by decide +kernel
theorem dX0_remember_47 : decode cX0_remember 47 = .ok (.aload_n 0, 1) := by decide +kernel
theorem dX0_remember_48 : decode cX0_remember 48 = .ok (.dup, 1) := by decide +kernel
theorem dX0_remember_49 : decode cX0_remember 49 = .ok (.getfield 32, 3) := by decide +kernel
theorem dX0_remember_52 : decode cX0_remember 52 = .ok (.iconst 1, 1) := by decide +kernel
theorem dX0_remember_53 : decode cX0_remember 53 = .ok (.iadd, 1) := by decide +kernel
theorem dX0_remember_54 : decode cX0_remember 54 = .ok (.putfield 32, 3) := by decide +kernel
theorem dX0_remember_57 : decode cX0_remember 57 = .ok (.return_, 1) := by decide +kernel
theorem dX0_takeBack_0 : decode cX0_takeBack 0 = .ok (.aload_n 0, 1) := by decide +kernel
theorem dX0_takeBack_1 : decode cX0_takeBack 1 = .ok (.getfield 32, 3) := by decide +kernel
theorem dX0_takeBack_4 : decode cX0_takeBack 4 = .ok (.iconst 1, 1) := by decide +kernel
theorem dX0_takeBack_5 : decode cX0_takeBack 5 = .ok (.if_icmp .ge 5, 3) := by decide +kernel
theorem dX0_takeBack_8 : decode cX0_takeBack 8 = .ok (.iconst 0, 1) := by decide +kernel
theorem dX0_takeBack_9 : decode cX0_takeBack 9 = .ok (.ireturn, 1) := by decide +kernel
theorem dX0_takeBack_10 : decode cX0_takeBack 10 = .ok (.aload_n 0, 1) := by decide +kernel
theorem dX0_takeBack_11 : decode cX0_takeBack 11 = .ok (.dup, 1) := by decide +kernel
theorem dX0_takeBack_12 : decode cX0_takeBack 12 = .ok (.getfield 32, 3) := by decide +kernel
theorem dX0_takeBack_15 : decode cX0_takeBack 15 = .ok (.iconst 1, 1) := by decide +kernel
theorem dX0_takeBack_16 : decode cX0_takeBack 16 = .ok (.isub, 1) := by decide +kernel
theorem dX0_takeBack_17 : decode cX0_takeBack 17 = .ok (.putfield 32, 3) := by decide +kernel
theorem dX0_takeBack_20 : decode cX0_takeBack 20 = .ok (.aload_n 0, 1) := by decide +kernel
theorem dX0_takeBack_21 : decode cX0_takeBack 21 = .ok (.aload_n 0, 1) := by decide +kernel
theorem dX0_takeBack_22 : decode cX0_takeBack 22 = .ok (.getfield 18, 3) := by decide +kernel
theorem dX0_takeBack_25 : decode cX0_takeBack 25 = .ok (.aload_n 0, 1) := by decide +kernel
theorem dX0_takeBack_26 : decode cX0_takeBack 26 = .ok (.getfield 32, 3) := by decide +kernel
theorem dX0_takeBack_29 : decode cX0_takeBack 29 = .ok (.iaload, 1) := by decide +kernel
theorem dX0_takeBack_30 : decode cX0_takeBack 30 = .ok (.invokevirtual 61, 3) := by decide +kernel
theorem dX0_takeBack_33 : decode cX0_takeBack 33 = .ok (.iconst 1, 1) := by decide +kernel
theorem dX0_takeBack_34 : decode cX0_takeBack 34 = .ok (.ireturn, 1) := by decide +kernel
theorem dX0_store_0 : decode cX0_store 0 = .ok (.aload_n 0, 1) := by decide +kernel
theorem dX0_store_1 : decode cX0_store 1 = .ok (.getfield 35, 3) := by decide +kernel
theorem dX0_store_4 : decode cX0_store 4 = .ok (.iconst 2, 1) := by decide +kernel
theorem dX0_store_5 : decode cX0_store 5 = .ok (.if_icmp .lt 5, 3) := by decide +kernel
theorem dX0_store_8 : decode cX0_store 8 = .ok (.iconst 0, 1) := by decide +kernel
theorem dX0_store_9 : decode cX0_store 9 = .ok (.ireturn, 1) := by decide +kernel
theorem dX0_store_10 : decode cX0_store 10 = .ok (.aload_n 0, 1) := by decide +kernel
theorem dX0_store_11 : decode cX0_store 11 = .ok (.getfield 22, 3) := by decide +kernel
theorem dX0_store_14 : decode cX0_store 14 = .ok (.aload_n 0, 1) := by decide +kernel
theorem dX0_store_15 : decode cX0_store 15 = .ok (.getfield 35, 3) := by decide +kernel
theorem dX0_store_18 : decode cX0_store 18 = .ok (.aload_n 0, 1) := by decide +kernel
theorem dX0_store_19 : decode cX0_store 19 = .ok (.invokevirtual 57, 3) := by decide +kernel
theorem dX0_store_22 : decode cX0_store 22 = .ok (.iastore, 1) := by decide +kernel
theorem dX0_store_23 : decode cX0_store 23 = .ok (.aload_n 0, 1) := by decide +kernel
theorem dX0_store_24 : decode cX0_store 24 = .ok (.dup, 1) := by decide +kernel
theorem dX0_store_25 : decode cX0_store 25 = .ok (.getfield 35, 3) := by decide +kernel
theorem dX0_store_28 : decode cX0_store 28 = .ok (.iconst 1, 1) := by decide +kernel
theorem dX0_store_29 : decode cX0_store 29 = .ok (.iadd, 1) := by decide +kernel
theorem dX0_store_30 : decode cX0_store 30 = .ok (.putfield 35, 3) := by decide +kernel
theorem dX0_store_33 : decode cX0_store 33 = .ok (.iconst 1, 1) := by decide +kernel
theorem dX0_store_34 : decode cX0_store 34 = .ok (.ireturn, 1) := by decide +kernel
theorem dX0_fetch_0 : decode cX0_fetch 0 = .ok (.aload_n 0, 1) := by decide +kernel
theorem dX0_fetch_1 : decode cX0_fetch 1 = .ok (.getfield 35, 3) := by decide +kernel
theorem dX0_fetch_4 : decode cX0_fetch 4 = .ok (.iconst 1, 1) := by decide +kernel
theorem dX0_fetch_5 : decode cX0_fetch 5 = .ok (.if_icmp .ge 5, 3) := by decide +kernel
theorem dX0_fetch_8 : decode cX0_fetch 8 = .ok (.iconst 0, 1) := by decide +kernel
theorem dX0_fetch_9 : decode cX0_fetch 9 = .ok (.ireturn, 1) := by decide +kernel
theorem dX0_fetch_10 : decode cX0_fetch 10 = .ok (.aload_n 0, 1) := by decide +kernel
theorem dX0_fetch_11 : decode cX0_fetch 11 = .ok (.dup, 1) := by decide +kernel
theorem dX0_fetch_12 : decode cX0_fetch 12 = .ok (.getfield 35, 3) := by decide +kernel
theorem dX0_fetch_15 : decode cX0_fetch 15 = .ok (.iconst 1, 1) := by decide +kernel
theorem dX0_fetch_16 : decode cX0_fetch 16 = .ok (.isub, 1) := by decide +kernel
theorem dX0_fetch_17 : decode cX0_fetch 17 = .ok (.putfield 35, 3) := by decide +kernel
theorem dX0_fetch_20 : decode cX0_fetch 20 = .ok (.aload_n 0, 1) := by decide +kernel
theorem dX0_fetch_21 : decode cX0_fetch 21 = .ok (.aload_n 0, 1) := by decide +kernel
theorem dX0_fetch_22 : decode cX0_fetch 22 = .ok (.getfield 22, 3) := by decide +kernel
theorem dX0_fetch_25 : decode cX0_fetch 25 = .ok (.aload_n 0, 1) := by decide +kernel
theorem dX0_fetch_26 : decode cX0_fetch 26 = .ok (.getfield 35, 3) := by decide +kernel
theorem dX0_fetch_29 : decode cX0_fetch 29 = .ok (.iaload, 1) := by decide +kernel
theorem dX0_fetch_30 : decode cX0_fetch 30 = .ok (.invokevirtual 61, 3) := by decide +kernel
theorem dX0_fetch_33 : decode cX0_fetch 33 = .ok (.aload_n 0, 1) := by decide +kernel
theorem dX0_fetch_34 : decode cX0_fetch 34 = .ok (.iconst 0, 1) := by decide +kernel
theorem dX0_fetch_35 : decode cX0_fetch 35 = .ok (.putfield 32, 3) := by decide +kernel
theorem dX0_fetch_38 : decode cX0_fetch 38 = .ok (.iconst 1, 1) := by decide +kernel
theorem dX0_fetch_39 : decode cX0_fetch 39 = .ok (.ireturn, 1) := by decide +kernel
theorem dX0_packed_0 : decode cX0_packed 0 = .ok (.aload_n 0, 1) := by decide +kernel
theorem dX0_packed_1 : decode cX0_packed 1 = .ok (.getfield 28, 3) := by decide +kernel
theorem dX0_packed_4 : decode cX0_packed 4 = .ok (.bipush 10, 2) := by decide +kernel
theorem dX0_packed_6 : decode cX0_packed 6 = .ok (.ishl, 1) := by decide +kernel
theorem dX0_packed_7 : decode cX0_packed 7 = .ok (.aload_n 0, 1) := by decide +kernel
theorem dX0_packed_8 : decode cX0_packed 8 = .ok (.getfield 12, 3) := by decide +kernel
theorem dX0_packed_11 : decode cX0_packed 11 = .ok (.getfield 65, 3) := by decide +kernel
theorem dX0_packed_14 : decode cX0_packed 14 = .ok (.iconst 1, 1) := by decide +kernel
theorem dX0_packed_15 : decode cX0_packed 15 = .ok (.iadd, 1) := by decide +kernel
theorem dX0_packed_16 : decode cX0_packed 16 = .ok (.iconst 5, 1) := by decide +kernel
theorem dX0_packed_17 : decode cX0_packed 17 = .ok (.ishl, 1) := by decide +kernel
theorem dX0_packed_18 : decode cX0_packed 18 = .ok (.ior, 1) := by decide +kernel
theorem dX0_packed_19 : decode cX0_packed 19 = .ok (.aload_n 0, 1) := by decide +kernel
theorem dX0_packed_20 : decode cX0_packed 20 = .ok (.getfield 12, 3) := by decide +kernel
theorem dX0_packed_23 : decode cX0_packed 23 = .ok (.getfield 68, 3) := by decide +kernel
theorem dX0_packed_26 : decode cX0_packed 26 = .ok (.ior, 1) := by decide +kernel
theorem dX0_packed_27 : decode cX0_packed 27 = .ok (.ireturn, 1) := by decide +kernel
theorem dX0_unpack_0 : decode cX0_unpack 0 = .ok (.aload_n 0, 1) := by decide +kernel
theorem dX0_unpack_1 : decode cX0_unpack 1 = .ok (.iload_n 1, 1) := by decide +kernel
theorem dX0_unpack_2 : decode cX0_unpack 2 = .ok (.bipush 10, 2) := by decide +kernel
theorem dX0_unpack_4 : decode cX0_unpack 4 = .ok (.iushr, 1) := by decide +kernel
theorem dX0_unpack_5 : decode cX0_unpack 5 = .ok (.putfield 28, 3) := by decide +kernel
theorem dX0_unpack_8 : decode cX0_unpack 8 = .ok (.aload_n 0, 1) := by decide +kernel
theorem dX0_unpack_9 : decode cX0_unpack 9 = .ok (.getfield 12, 3) := by decide +kernel
theorem dX0_unpack_12 : decode cX0_unpack 12 = .ok (.iload_n 1, 1) := by decide +kernel
theorem dX0_unpack_13 : decode cX0_unpack 13 = .ok (.iconst 5, 1) := by decide +kernel
theorem dX0_unpack_14 : decode cX0_unpack 14 = .ok (.iushr, 1) := by decide +kernel
theorem dX0_unpack_15 : decode cX0_unpack 15 = .ok (.bipush 31, 2) := by decide +kernel
theorem dX0_unpack_17 : decode cX0_unpack 17 = .ok (.iand, 1) := by decide +kernel
theorem dX0_unpack_18 : decode cX0_unpack 18 = .ok (.iconst 1, 1) := by decide +kernel
theorem dX0_unpack_19 : decode cX0_unpack 19 = .ok (.isub, 1) := by decide +kernel
theorem dX0_unpack_20 : decode cX0_unpack 20 = .ok (.putfield 65, 3) := by decide +kernel
theorem dX0_unpack_23 : decode cX0_unpack 23 = .ok (.aload_n 0, 1) := by decide +kernel
theorem dX0_unpack_24 : decode cX0_unpack 24 = .ok (.getfield 12, 3) := by decide +kernel
theorem dX0_unpack_27 : decode cX0_unpack 27 = .ok (.iload_n 1, 1) := by decide +kernel
theorem dX0_unpack_28 : decode cX0_unpack 28 = .ok (.bipush 31, 2) := by decide +kernel
theorem dX0_unpack_30 : decode cX0_unpack 30 = .ok (.iand, 1) := by decide +kernel
theorem dX0_unpack_31 : decode cX0_unpack 31 = .ok (.putfield 68, 3) := by decide +kernel
theorem dX0_unpack_34 : decode cX0_unpack 34 = .ok (.return_, 1) := by decide +kernel
theorem dX1_init_0 : decode cX1_init 0 = .ok (.aload_n 0, 1) := by decide +kernel
theorem dX1_init_1 : decode cX1_init 1 = .ok (.invokespecial 3, 3) := by decide +kernel
theorem dX1_init_4 : decode cX1_init 4 = .ok (.aload_n 0, 1) := by decide +kernel
theorem dX1_init_5 : decode cX1_init 5 = .ok (.sipush 256, 3) := by decide +kernel
theorem dX1_init_8 : decode cX1_init 8 = .ok (.newarray .int, 2) := by decide +kernel
theorem dX1_init_10 : decode cX1_init 10 = .ok (.putfield 9, 3) := by decide +kernel
theorem dX1_init_13 : decode cX1_init 13 = .ok (.return_, 1) := by decide +kernel
theorem dX1_fewest_0 : decode cX1_fewest 0 = .ok (.aload_n 2, 1) := by decide +kernel
theorem dX1_fewest_1 : decode cX1_fewest 1 = .ok (.getfield 15, 3) := by decide +kernel
theorem dX1_fewest_4 : decode cX1_fewest 4 = .ok (.iconst 1, 1) := by decide +kernel
theorem dX1_fewest_5 : decode cX1_fewest 5 = .ok (.isub, 1) := by decide +kernel
theorem dX1_fewest_6 : decode cX1_fewest 6 = .ok (.istore_n 3, 1) := by decide +kernel
theorem dX1_fewest_7 : decode cX1_fewest 7 = .ok (.iload_n 3, 1) := by decide +kernel
theorem dX1_fewest_8 : decode cX1_fewest 8 = .ok (.ifCond .lt 48, 3) := by decide +kernel
theorem dX1_fewest_11 : decode cX1_fewest 11 = .ok (.iconst 0, 1) := by decide +kernel
theorem dX1_fewest_12 : decode cX1_fewest 12 = .ok (.istore 4, 2) := by decide +kernel
theorem dX1_fewest_14 : decode cX1_fewest 14 = .ok (.iload 4, 2) := by decide +kernel
theorem dX1_fewest_16 : decode cX1_fewest 16 = .ok (.aload_n 1, 1) := by decide +kernel
theorem dX1_fewest_17 : decode cX1_fewest 17 = .ok (.getfield 21, 3) := by decide +kernel
theorem dX1_fewest_20 : decode cX1_fewest 20 = .ok (.if_icmp .ge 30, 3) := by decide +kernel
theorem dX1_fewest_23 : decode cX1_fewest 23 = .ok (.aload_n 0, 1) := by decide +kernel
theorem dX1_fewest_24 : decode cX1_fewest 24 = .ok (.getfield 9, 3) := by decide +kernel
theorem dX1_fewest_27 : decode cX1_fewest 27 = .ok (.iload_n 3, 1) := by decide +kernel
theorem dX1_fewest_28 : decode cX1_fewest 28 = .ok (.bipush 16, 2) := by decide +kernel
theorem dX1_fewest_30 : decode cX1_fewest 30 = .ok (.imul, 1) := by decide +kernel
theorem dX1_fewest_31 : decode cX1_fewest 31 = .ok (.iload 4, 2) := by decide +kernel
theorem dX1_fewest_33 : decode cX1_fewest 33 = .ok (.iadd, 1) := by decide +kernel
theorem dX1_fewest_34 : decode cX1_fewest 34 = .ok (.aload_n 0, 1) := by decide +kernel
theorem dX1_fewest_35 : decode cX1_fewest 35 = .ok (.aload_n 1, 1) := by decide +kernel
theorem dX1_fewest_36 : decode cX1_fewest 36 = .ok (.aload_n 2, 1) := by decide +kernel
theorem dX1_fewest_37 : decode cX1_fewest 37 = .ok (.iload_n 3, 1) := by decide +kernel
theorem dX1_fewest_38 : decode cX1_fewest 38 = .ok (.iload 4, 2) := by decide +kernel
theorem dX1_fewest_40 : decode cX1_fewest 40 = .ok (.invokevirtual 26, 3) := by decide +kernel
theorem dX1_fewest_43 : decode cX1_fewest 43 = .ok (.iastore, 1) := by decide +kernel
theorem dX1_fewest_44 : decode cX1_fewest 44 = .ok (.iinc 4 1, 3) := by decide +kernel
theorem dX1_fewest_47 : decode cX1_fewest 47 = .ok (.goto (-33), 3) := by decide +kernel
theorem dX1_fewest_50 : decode cX1_fewest 50 = .ok (.iinc 3 (-1), 3) := by decide +kernel
theorem dX1_fewest_53 : decode cX1_fewest 53 = .ok (.goto (-46), 3) := by decide +kernel
theorem dX1_fewest_56 : decode cX1_fewest 56 = .ok (.aload_n 2, 1) := by decide +kernel
theorem dX1_fewest_57 : decode cX1_fewest 57 = .ok (.getfield 15, 3) := by decide +kernel
theorem dX1_fewest_60 : decode cX1_fewest 60 = .ok (.ifCond .ne 7, 3) := by decide +kernel
theorem dX1_fewest_63 : decode cX1_fewest 63 = .ok (.iconst 0, 1) := by decide +kernel
theorem dX1_fewest_64 : decode cX1_fewest 64 = .ok (.goto 6, 3) := by decide +kernel
theorem dX1_fewest_67 : decode cX1_fewest 67 = .ok (.sipush 1000, 3) := by decide +kernel
theorem dX1_fewest_70 : decode cX1_fewest 70 = .ok (.istore_n 3, 1) := by decide +kernel
theorem dX1_fewest_71 : decode cX1_fewest 71 = .ok (.iconst 0, 1) := by decide +kernel
theorem dX1_fewest_72 : decode cX1_fewest 72 = .ok (.istore 4, 2) := by decide +kernel
theorem dX1_fewest_74 : decode cX1_fewest 74 = .ok (.iload 4, 2) := by decide +kernel
theorem dX1_fewest_76 : decode cX1_fewest 76 = .ok (.aload_n 1, 1) := by decide +kernel
theorem dX1_fewest_77 : decode cX1_fewest 77 = .ok (.getfield 21, 3) := by decide +kernel
theorem dX1_fewest_80 : decode cX1_fewest 80 = .ok (.if_icmp .ge 28, 3) := by decide +kernel
theorem dX1_fewest_83 : decode cX1_fewest 83 = .ok (.aload_n 2, 1) := by decide +kernel
theorem dX1_fewest_84 : decode cX1_fewest 84 = .ok (.getfield 15, 3) := by decide +kernel
theorem dX1_fewest_87 : decode cX1_fewest 87 = .ok (.ifCond .le 21, 3) := by decide +kernel
theorem dX1_fewest_90 : decode cX1_fewest 90 = .ok (.iload_n 3, 1) := by decide +kernel
theorem dX1_fewest_91 : decode cX1_fewest 91 = .ok (.aload_n 0, 1) := by decide +kernel
theorem dX1_fewest_92 : decode cX1_fewest 92 = .ok (.getfield 9, 3) := by decide +kernel
theorem dX1_fewest_95 : decode cX1_fewest 95 = .ok (.iload 4, 2) := by decide +kernel
theorem dX1_fewest_97 : decode cX1_fewest 97 = .ok (.iaload, 1) := by decide +kernel
theorem dX1_fewest_98 : decode cX1_fewest 98 = .ok (.invokestatic 30, 3) := by decide +kernel
theorem dX1_fewest_101 : decode cX1_fewest 101 = .ok (.istore_n 3, 1) := by decide +kernel
theorem dX1_fewest_102 : decode cX1_fewest 102 = .ok (.iinc 4 1, 3) := by decide +kernel
theorem dX1_fewest_105 : decode cX1_fewest 105 = .ok (.goto (-31), 3) := by decide +kernel
theorem dX1_fewest_108 : decode cX1_fewest 108 = .ok (.iload_n 3, 1) := by decide +kernel
theorem dX1_fewest_109 : decode cX1_fewest 109 = .ok (.sipush 1000, 3) := by decide +kernel
theorem dX1_fewest_112 : decode cX1_fewest 112 = .ok (.if_icmp .ge 7, 3) := by decide +kernel
theorem dX1_fewest_115 : decode cX1_fewest 115 = .ok (.iload_n 3, 1) := by decide +kernel
theorem dX1_fewest_116 : decode cX1_fewest 116 = .ok (.goto 5, 3) := by decide +kernel
theorem dX1_fewest_119 : decode cX1_fewest 119 = .ok (.bipush (-4), 2) := by decide +kernel
theorem dX1_fewest_121 : decode cX1_fewest 121 = .ok (.ireturn, 1) := by decide +kernel
theorem dX1_othersFrom_0 : decode cX1_othersFrom 0 = .ok (.aload_n 1, 1) := by decide +kernel
theorem dX1_othersFrom_1 : decode cX1_othersFrom 1 = .ok (.aload_n 2, 1) := by decide +kernel
theorem dX1_othersFrom_2 : decode cX1_othersFrom 2 = .ok (.iload_n 3, 1) := by decide +kernel
theorem dX1_othersFrom_3 : decode cX1_othersFrom 3 = .ok (.invokevirtual 36, 3) := by decide +kernel
theorem dX1_othersFrom_6 : decode cX1_othersFrom 6 = .ok (.invokevirtual 40, 3) := by decide +kernel
theorem dX1_othersFrom_9 : decode cX1_othersFrom 9 = .ok (.istore 5, 2) := by decide +kernel
theorem dX1_othersFrom_11 : decode cX1_othersFrom 11 = .ok (.aload_n 1, 1) := by decide +kernel
theorem dX1_othersFrom_12 : decode cX1_othersFrom 12 = .ok (.iload 5, 2) := by decide +kernel
theorem dX1_othersFrom_14 : decode cX1_othersFrom 14 = .ok (.iload 4, 2) := by decide +kernel
theorem dX1_othersFrom_16 : decode cX1_othersFrom 16 = .ok (.invokevirtual 43, 3) := by decide +kernel
theorem dX1_othersFrom_19 : decode cX1_othersFrom 19 = .ok (.istore 6, 2) := by decide +kernel
theorem dX1_othersFrom_21 : decode cX1_othersFrom 21 = .ok (.iload_n 3, 1) := by decide +kernel
theorem dX1_othersFrom_22 : decode cX1_othersFrom 22 = .ok (.iconst 1, 1) := by decide +kernel
theorem dX1_othersFrom_23 : decode cX1_othersFrom 23 = .ok (.iadd, 1) := by decide +kernel
theorem dX1_othersFrom_24 : decode cX1_othersFrom 24 = .ok (.aload_n 2, 1) := by decide +kernel
theorem dX1_othersFrom_25 : decode cX1_othersFrom 25 = .ok (.getfield 15, 3) := by decide +kernel
theorem dX1_othersFrom_28 : decode cX1_othersFrom 28 = .ok (.if_icmp .ge 9, 3) := by decide +kernel
theorem dX1_othersFrom_31 : decode cX1_othersFrom 31 = .ok (.sipush 1000, 3) := by decide +kernel
theorem dX1_othersFrom_34 : decode cX1_othersFrom 34 = .ok (.goto 4, 3) := by decide +kernel
theorem dX1_othersFrom_37 : decode cX1_othersFrom 37 = .ok (.iconst 0, 1) := by decide +kernel
theorem dX1_othersFrom_38 : decode cX1_othersFrom 38 = .ok (.istore 7, 2) := by decide +kernel
theorem dX1_othersFrom_40 : decode cX1_othersFrom 40 = .ok (.iconst 0, 1) := by decide +kernel
theorem dX1_othersFrom_41 : decode cX1_othersFrom 41 = .ok (.istore 8, 2) := by decide +kernel
theorem dX1_othersFrom_43 : decode cX1_othersFrom 43 = .ok (.iload 8, 2) := by decide +kernel
theorem dX1_othersFrom_45 : decode cX1_othersFrom 45 = .ok (.aload_n 1, 1) := by decide +kernel
theorem dX1_othersFrom_46 : decode cX1_othersFrom 46 = .ok (.getfield 21, 3) := by decide +kernel
theorem dX1_othersFrom_49 : decode cX1_othersFrom 49 = .ok (.if_icmp .ge 56, 3) := by decide +kernel
theorem dX1_othersFrom_52 : decode cX1_othersFrom 52 = .ok (.iload_n 3, 1) := by decide +kernel
theorem dX1_othersFrom_53 : decode cX1_othersFrom 53 = .ok (.iconst 1, 1) := by decide +kernel
theorem dX1_othersFrom_54 : decode cX1_othersFrom 54 = .ok (.iadd, 1) := by decide +kernel
theorem dX1_othersFrom_55 : decode cX1_othersFrom 55 = .ok (.aload_n 2, 1) := by decide +kernel
theorem dX1_othersFrom_56 : decode cX1_othersFrom 56 = .ok (.getfield 15, 3) := by decide +kernel
theorem dX1_othersFrom_59 : decode cX1_othersFrom 59 = .ok (.if_icmp .ge 46, 3) := by decide +kernel
theorem dX1_othersFrom_62 : decode cX1_othersFrom 62 = .ok (.aload_n 0, 1) := by decide +kernel
theorem dX1_othersFrom_63 : decode cX1_othersFrom 63 = .ok (.aload_n 1, 1) := by decide +kernel
theorem dX1_othersFrom_64 : decode cX1_othersFrom 64 = .ok (.aload_n 2, 1) := by decide +kernel
theorem dX1_othersFrom_65 : decode cX1_othersFrom 65 = .ok (.iload 6, 2) := by decide +kernel
theorem dX1_othersFrom_67 : decode cX1_othersFrom 67 = .ok (.iload_n 3, 1) := by decide +kernel
theorem dX1_othersFrom_68 : decode cX1_othersFrom 68 = .ok (.iconst 1, 1) := by decide +kernel
theorem dX1_othersFrom_69 : decode cX1_othersFrom 69 = .ok (.iadd, 1) := by decide +kernel
theorem dX1_othersFrom_70 : decode cX1_othersFrom 70 = .ok (.iload 8, 2) := by decide +kernel
theorem dX1_othersFrom_72 : decode cX1_othersFrom 72 = .ok (.invokevirtual 46, 3) := by decide +kernel
theorem dX1_othersFrom_75 : decode cX1_othersFrom 75 = .ok (.ifCond .eq 24, 3) := by decide +kernel
theorem dX1_othersFrom_78 : decode cX1_othersFrom 78 = .ok (.iload 7, 2) := by decide +kernel
theorem dX1_othersFrom_80 : decode cX1_othersFrom 80 = .ok (.aload_n 0, 1) := by decide +kernel
theorem dX1_othersFrom_81 : decode cX1_othersFrom 81 = .ok (.getfield 9, 3) := by decide +kernel
theorem dX1_othersFrom_84 : decode cX1_othersFrom 84 = .ok (.iload_n 3, 1) := by decide +kernel
theorem dX1_othersFrom_85 : decode cX1_othersFrom 85 = .ok (.iconst 1, 1) := by decide +kernel
theorem dX1_othersFrom_86 : decode cX1_othersFrom 86 = .ok (.iadd, 1) := by decide +kernel
theorem dX1_othersFrom_87 : decode cX1_othersFrom 87 = .ok (.bipush 16, 2) := by decide +kernel
theorem dX1_othersFrom_89 : decode cX1_othersFrom 89 = .ok (.imul, 1) := by decide +kernel
theorem dX1_othersFrom_90 : decode cX1_othersFrom 90 = .ok (.iload 8, 2) := by decide +kernel
theorem dX1_othersFrom_92 : decode cX1_othersFrom 92 = .ok (.iadd, 1) := by decide +kernel
theorem dX1_othersFrom_93 : decode cX1_othersFrom 93 = .ok (.iaload, 1) := by decide +kernel
theorem dX1_othersFrom_94 : decode cX1_othersFrom 94 = .ok (.invokestatic 30, 3) := by decide +kernel
theorem dX1_othersFrom_97 : decode cX1_othersFrom 97 = .ok (.istore 7, 2) := by decide +kernel
theorem dX1_othersFrom_99 : decode cX1_othersFrom 99 = .ok (.iinc 8 1, 3) := by decide +kernel
theorem dX1_othersFrom_102 : decode cX1_othersFrom 102 = .ok (.goto (-59), 3) := by decide +kernel
theorem dX1_othersFrom_105 : decode cX1_othersFrom 105 = .ok (.sipush 1000, 3) := by decide +kernel
theorem dX1_othersFrom_108 : decode cX1_othersFrom 108 = .ok (.iload 5, 2) := by decide +kernel
theorem dX1_othersFrom_110 : decode cX1_othersFrom 110 = .ok (.iload 6, 2) := by decide +kernel
theorem dX1_othersFrom_112 : decode cX1_othersFrom 112 = .ok (.invokestatic 50, 3) := by decide +kernel
theorem dX1_othersFrom_115 : decode cX1_othersFrom 115 = .ok (.invokestatic 53, 3) := by decide +kernel
theorem dX1_othersFrom_118 : decode cX1_othersFrom 118 = .ok (.iload 7, 2) := by decide +kernel
theorem dX1_othersFrom_120 : decode cX1_othersFrom 120 = .ok (.iadd, 1) := by decide +kernel
theorem dX1_othersFrom_121 : decode cX1_othersFrom 121 = .ok (.invokestatic 30, 3) := by decide +kernel
theorem dX1_othersFrom_124 : decode cX1_othersFrom 124 = .ok (.ireturn, 1) := by decide +kernel
theorem dX1_mayFollow_0 : decode cX1_mayFollow 0 = .ok (.aload_n 1, 1) := by decide +kernel
theorem dX1_mayFollow_1 : decode cX1_mayFollow 1 = .ok (.aload_n 1, 1) := by decide +kernel
theorem dX1_mayFollow_2 : decode cX1_mayFollow 2 = .ok (.aload_n 2, 1) := by decide +kernel
theorem dX1_mayFollow_3 : decode cX1_mayFollow 3 = .ok (.iload 4, 2) := by decide +kernel
theorem dX1_mayFollow_5 : decode cX1_mayFollow 5 = .ok (.invokevirtual 36, 3) := by decide +kernel
theorem dX1_mayFollow_8 : decode cX1_mayFollow 8 = .ok (.invokevirtual 40, 3) := by decide +kernel
theorem dX1_mayFollow_11 : decode cX1_mayFollow 11 = .ok (.iload 5, 2) := by decide +kernel
theorem dX1_mayFollow_13 : decode cX1_mayFollow 13 = .ok (.invokevirtual 43, 3) := by decide +kernel
theorem dX1_mayFollow_16 : decode cX1_mayFollow 16 = .ok (.istore 6, 2) := by decide +kernel
theorem dX1_mayFollow_18 : decode cX1_mayFollow 18 = .ok (.aload_n 1, 1) := by decide +kernel
theorem dX1_mayFollow_19 : decode cX1_mayFollow 19 = .ok (.iload_n 3, 1) := by decide +kernel
theorem dX1_mayFollow_20 : decode cX1_mayFollow 20 = .ok (.iload 6, 2) := by decide +kernel
theorem dX1_mayFollow_22 : decode cX1_mayFollow 22 = .ok (.invokestatic 50, 3) := by decide +kernel
theorem dX1_mayFollow_25 : decode cX1_mayFollow 25 = .ok (.aload_n 1, 1) := by decide +kernel
theorem dX1_mayFollow_26 : decode cX1_mayFollow 26 = .ok (.invokevirtual 58, 3) := by decide +kernel
theorem dX1_mayFollow_29 : decode cX1_mayFollow 29 = .ok (.iand, 1) := by decide +kernel
theorem dX1_mayFollow_30 : decode cX1_mayFollow 30 = .ok (.iconst 0, 1) := by decide +kernel
theorem dX1_mayFollow_31 : decode cX1_mayFollow 31 = .ok (.invokevirtual 62, 3) := by decide +kernel
theorem dX1_mayFollow_34 : decode cX1_mayFollow 34 = .ok (.ireturn, 1) := by decide +kernel
theorem dX1_codeAt_0 : decode cX1_codeAt 0 = .ok (.aload_n 0, 1) := by decide +kernel
theorem dX1_codeAt_1 : decode cX1_codeAt 1 = .ok (.aload_n 1, 1) := by decide +kernel
theorem dX1_codeAt_2 : decode cX1_codeAt 2 = .ok (.aload_n 2, 1) := by decide +kernel
theorem dX1_codeAt_3 : decode cX1_codeAt 3 = .ok (.invokevirtual 66, 3) := by decide +kernel
theorem dX1_codeAt_6 : decode cX1_codeAt 6 = .ok (.istore 4, 2) := by decide +kernel
theorem dX1_codeAt_8 : decode cX1_codeAt 8 = .ok (.iconst 0, 1) := by decide +kernel
theorem dX1_codeAt_9 : decode cX1_codeAt 9 = .ok (.istore 5, 2) := by decide +kernel
theorem dX1_codeAt_11 : decode cX1_codeAt 11 = .ok (.iconst 0, 1) := by decide +kernel
theorem dX1_codeAt_12 : decode cX1_codeAt 12 = .ok (.istore 6, 2) := by decide +kernel
theorem dX1_codeAt_14 : decode cX1_codeAt 14 = .ok (.iload 6, 2) := by decide +kernel
theorem dX1_codeAt_16 : decode cX1_codeAt 16 = .ok (.iload_n 3, 1) := by decide +kernel
theorem dX1_codeAt_17 : decode cX1_codeAt 17 = .ok (.if_icmp .gt 79, 3) := by decide +kernel
theorem dX1_codeAt_20 : decode cX1_codeAt 20 = .ok (.iload 6, 2) := by decide +kernel
theorem dX1_codeAt_22 : decode cX1_codeAt 22 = .ok (.aload_n 2, 1) := by decide +kernel
theorem dX1_codeAt_23 : decode cX1_codeAt 23 = .ok (.getfield 15, 3) := by decide +kernel
theorem dX1_codeAt_26 : decode cX1_codeAt 26 = .ok (.if_icmp .ge 70, 3) := by decide +kernel
theorem dX1_codeAt_29 : decode cX1_codeAt 29 = .ok (.aload_n 0, 1) := by decide +kernel
theorem dX1_codeAt_30 : decode cX1_codeAt 30 = .ok (.aload_n 1, 1) := by decide +kernel
theorem dX1_codeAt_31 : decode cX1_codeAt 31 = .ok (.aload_n 2, 1) := by decide +kernel
theorem dX1_codeAt_32 : decode cX1_codeAt 32 = .ok (.iload 5, 2) := by decide +kernel
theorem dX1_codeAt_34 : decode cX1_codeAt 34 = .ok (.iload 6, 2) := by decide +kernel
theorem dX1_codeAt_36 : decode cX1_codeAt 36 = .ok (.iload 4, 2) := by decide +kernel
theorem dX1_codeAt_38 : decode cX1_codeAt 38 = .ok (.invokevirtual 70, 3) := by decide +kernel
theorem dX1_codeAt_41 : decode cX1_codeAt 41 = .ok (.istore 7, 2) := by decide +kernel
theorem dX1_codeAt_43 : decode cX1_codeAt 43 = .ok (.iload 7, 2) := by decide +kernel
theorem dX1_codeAt_45 : decode cX1_codeAt 45 = .ok (.bipush (-4), 2) := by decide +kernel
theorem dX1_codeAt_47 : decode cX1_codeAt 47 = .ok (.if_icmp .ne 6, 3) := by decide +kernel
theorem dX1_codeAt_50 : decode cX1_codeAt 50 = .ok (.bipush (-4), 2) := by decide +kernel
theorem dX1_codeAt_52 : decode cX1_codeAt 52 = .ok (.ireturn, 1) := by decide +kernel
theorem dX1_codeAt_53 : decode cX1_codeAt 53 = .ok (.aload_n 1, 1) := by decide +kernel
theorem dX1_codeAt_54 : decode cX1_codeAt 54 = .ok (.aload_n 2, 1) := by decide +kernel
theorem dX1_codeAt_55 : decode cX1_codeAt 55 = .ok (.iload 6, 2) := by decide +kernel
theorem dX1_codeAt_57 : decode cX1_codeAt 57 = .ok (.invokevirtual 36, 3) := by decide +kernel
theorem dX1_codeAt_60 : decode cX1_codeAt 60 = .ok (.invokevirtual 40, 3) := by decide +kernel
theorem dX1_codeAt_63 : decode cX1_codeAt 63 = .ok (.istore 8, 2) := by decide +kernel
theorem dX1_codeAt_65 : decode cX1_codeAt 65 = .ok (.aload_n 1, 1) := by decide +kernel
theorem dX1_codeAt_66 : decode cX1_codeAt 66 = .ok (.iload 8, 2) := by decide +kernel
theorem dX1_codeAt_68 : decode cX1_codeAt 68 = .ok (.iload 7, 2) := by decide +kernel
theorem dX1_codeAt_70 : decode cX1_codeAt 70 = .ok (.invokevirtual 43, 3) := by decide +kernel
theorem dX1_codeAt_73 : decode cX1_codeAt 73 = .ok (.istore 5, 2) := by decide +kernel
theorem dX1_codeAt_75 : decode cX1_codeAt 75 = .ok (.iload 4, 2) := by decide +kernel
theorem dX1_codeAt_77 : decode cX1_codeAt 77 = .ok (.iload 8, 2) := by decide +kernel
theorem dX1_codeAt_79 : decode cX1_codeAt 79 = .ok (.iload 5, 2) := by decide +kernel
theorem dX1_codeAt_81 : decode cX1_codeAt 81 = .ok (.invokestatic 50, 3) := by decide +kernel
theorem dX1_codeAt_84 : decode cX1_codeAt 84 = .ok (.invokestatic 53, 3) := by decide +kernel
theorem dX1_codeAt_87 : decode cX1_codeAt 87 = .ok (.isub, 1) := by decide +kernel
theorem dX1_codeAt_88 : decode cX1_codeAt 88 = .ok (.istore 4, 2) := by decide +kernel
theorem dX1_codeAt_90 : decode cX1_codeAt 90 = .ok (.iinc 6 1, 3) := by decide +kernel
theorem dX1_codeAt_93 : decode cX1_codeAt 93 = .ok (.goto (-79), 3) := by decide +kernel
theorem dX1_codeAt_96 : decode cX1_codeAt 96 = .ok (.aload_n 1, 1) := by decide +kernel
theorem dX1_codeAt_97 : decode cX1_codeAt 97 = .ok (.iload 5, 2) := by decide +kernel
theorem dX1_codeAt_99 : decode cX1_codeAt 99 = .ok (.invokevirtual 74, 3) := by decide +kernel
theorem dX1_codeAt_102 : decode cX1_codeAt 102 = .ok (.ireturn, 1) := by decide +kernel
theorem dX1_firstHat_0 : decode cX1_firstHat 0 = .ok (.iconst 0, 1) := by decide +kernel
theorem dX1_firstHat_1 : decode cX1_firstHat 1 = .ok (.istore 6, 2) := by decide +kernel
theorem dX1_firstHat_3 : decode cX1_firstHat 3 = .ok (.iload 6, 2) := by decide +kernel
theorem dX1_firstHat_5 : decode cX1_firstHat 5 = .ok (.aload_n 1, 1) := by decide +kernel
theorem dX1_firstHat_6 : decode cX1_firstHat 6 = .ok (.getfield 21, 3) := by decide +kernel
theorem dX1_firstHat_9 : decode cX1_firstHat 9 = .ok (.if_icmp .ge 61, 3) := by decide +kernel
theorem dX1_firstHat_12 : decode cX1_firstHat 12 = .ok (.iload 4, 2) := by decide +kernel
theorem dX1_firstHat_14 : decode cX1_firstHat 14 = .ok (.ifCond .eq 17, 3) := by decide +kernel
theorem dX1_firstHat_17 : decode cX1_firstHat 17 = .ok (.aload_n 0, 1) := by decide +kernel
theorem dX1_firstHat_18 : decode cX1_firstHat 18 = .ok (.aload_n 1, 1) := by decide +kernel
theorem dX1_firstHat_19 : decode cX1_firstHat 19 = .ok (.aload_n 2, 1) := by decide +kernel
theorem dX1_firstHat_20 : decode cX1_firstHat 20 = .ok (.iload_n 3, 1) := by decide +kernel
theorem dX1_firstHat_21 : decode cX1_firstHat 21 = .ok (.iload 4, 2) := by decide +kernel
theorem dX1_firstHat_23 : decode cX1_firstHat 23 = .ok (.iload 6, 2) := by decide +kernel
theorem dX1_firstHat_25 : decode cX1_firstHat 25 = .ok (.invokevirtual 46, 3) := by decide +kernel
theorem dX1_firstHat_28 : decode cX1_firstHat 28 = .ok (.ifCond .eq 7, 3) := by decide +kernel
theorem dX1_firstHat_31 : decode cX1_firstHat 31 = .ok (.iconst 1, 1) := by decide +kernel
theorem dX1_firstHat_32 : decode cX1_firstHat 32 = .ok (.goto 4, 3) := by decide +kernel
theorem dX1_firstHat_35 : decode cX1_firstHat 35 = .ok (.iconst 0, 1) := by decide +kernel
theorem dX1_firstHat_36 : decode cX1_firstHat 36 = .ok (.istore 7, 2) := by decide +kernel
theorem dX1_firstHat_38 : decode cX1_firstHat 38 = .ok (.iload 7, 2) := by decide +kernel
theorem dX1_firstHat_40 : decode cX1_firstHat 40 = .ok (.ifCond .eq 24, 3) := by decide +kernel
theorem dX1_firstHat_43 : decode cX1_firstHat 43 = .ok (.aload_n 0, 1) := by decide +kernel
theorem dX1_firstHat_44 : decode cX1_firstHat 44 = .ok (.getfield 9, 3) := by decide +kernel
theorem dX1_firstHat_47 : decode cX1_firstHat 47 = .ok (.iload 4, 2) := by decide +kernel
theorem dX1_firstHat_49 : decode cX1_firstHat 49 = .ok (.bipush 16, 2) := by decide +kernel
theorem dX1_firstHat_51 : decode cX1_firstHat 51 = .ok (.imul, 1) := by decide +kernel
theorem dX1_firstHat_52 : decode cX1_firstHat 52 = .ok (.iload 6, 2) := by decide +kernel
theorem dX1_firstHat_54 : decode cX1_firstHat 54 = .ok (.iadd, 1) := by decide +kernel
theorem dX1_firstHat_55 : decode cX1_firstHat 55 = .ok (.iaload, 1) := by decide +kernel
theorem dX1_firstHat_56 : decode cX1_firstHat 56 = .ok (.iload 5, 2) := by decide +kernel
theorem dX1_firstHat_58 : decode cX1_firstHat 58 = .ok (.if_icmp .ne 6, 3) := by decide +kernel
theorem dX1_firstHat_61 : decode cX1_firstHat 61 = .ok (.iload 6, 2) := by decide +kernel
theorem dX1_firstHat_63 : decode cX1_firstHat 63 = .ok (.ireturn, 1) := by decide +kernel
theorem dX1_firstHat_64 : decode cX1_firstHat 64 = .ok (.iinc 6 1, 3) := by decide +kernel
theorem dX1_firstHat_67 : decode cX1_firstHat 67 = .ok (.goto (-64), 3) := by decide +kernel
theorem dX1_firstHat_70 : decode cX1_firstHat 70 = .ok (.bipush (-4), 2) := by decide +kernel
theorem dX1_firstHat_72 : decode cX1_firstHat 72 = .ok (.ireturn, 1) := by decide +kernel
theorem dX2_init_0 : decode cX2_init 0 = .ok (.aload_n 0, 1) := by decide +kernel
theorem dX2_init_1 : decode cX2_init 1 = .ok (.invokespecial 3, 3) := by decide +kernel
theorem dX2_init_4 : decode cX2_init 4 = .ok (.aload_n 0, 1) := by decide +kernel
theorem dX2_init_5 : decode cX2_init 5 = .ok (.iconst (-1), 1) := by decide +kernel
theorem dX2_init_6 : decode cX2_init 6 = .ok (.putfield 9, 3) := by decide +kernel
theorem dX2_init_9 : decode cX2_init 9 = .ok (.return_, 1) := by decide +kernel
theorem dX2_clear_0 : decode cX2_clear 0 = .ok (.aload_n 0, 1) := by decide +kernel
theorem dX2_clear_1 : decode cX2_clear 1 = .ok (.iconst (-1), 1) := by decide +kernel
theorem dX2_clear_2 : decode cX2_clear 2 = .ok (.putfield 9, 3) := by decide +kernel
theorem dX2_clear_5 : decode cX2_clear 5 = .ok (.aload_n 0, 1) := by decide +kernel
theorem dX2_clear_6 : decode cX2_clear 6 = .ok (.iconst 0, 1) := by decide +kernel
theorem dX2_clear_7 : decode cX2_clear 7 = .ok (.putfield 15, 3) := by decide +kernel
theorem dX2_clear_10 : decode cX2_clear 10 = .ok (.return_, 1) := by decide +kernel
theorem dX2_unlikeLatest_0 : decode cX2_unlikeLatest 0 = .ok (.aload_n 0, 1) := by decide +kernel
theorem dX2_unlikeLatest_1 : decode cX2_unlikeLatest 1 = .ok (.getfield 9, 3) := by decide +kernel
theorem dX2_unlikeLatest_4 : decode cX2_unlikeLatest 4 = .ok (.iconst (-1), 1) := by decide +kernel
theorem dX2_unlikeLatest_5 : decode cX2_unlikeLatest 5 = .ok (.if_icmp .ne 7, 3) := by decide +kernel
theorem dX2_unlikeLatest_8 : decode cX2_unlikeLatest 8 = .ok (.iconst 0, 1) := by decide +kernel
theorem dX2_unlikeLatest_9 : decode cX2_unlikeLatest 9 = .ok (.goto 12, 3) := by decide +kernel
theorem dX2_unlikeLatest_12 : decode cX2_unlikeLatest 12 = .ok (.aload_n 1, 1) := by decide +kernel
theorem dX2_unlikeLatest_13 : decode cX2_unlikeLatest 13 = .ok (.aload_n 0, 1) := by decide +kernel
theorem dX2_unlikeLatest_14 : decode cX2_unlikeLatest 14 = .ok (.getfield 9, 3) := by decide +kernel
theorem dX2_unlikeLatest_17 : decode cX2_unlikeLatest 17 = .ok (.iload_n 2, 1) := by decide +kernel
theorem dX2_unlikeLatest_18 : decode cX2_unlikeLatest 18 = .ok (.invokevirtual 18, 3) := by decide +kernel
theorem dX2_unlikeLatest_21 : decode cX2_unlikeLatest 21 = .ok (.ireturn, 1) := by decide +kernel
theorem dX2_lets_0 : decode cX2_lets 0 = .ok (.aload_n 0, 1) := by decide +kernel
theorem dX2_lets_1 : decode cX2_lets 1 = .ok (.getfield 9, 3) := by decide +kernel
theorem dX2_lets_4 : decode cX2_lets 4 = .ok (.iconst (-1), 1) := by decide +kernel
theorem dX2_lets_5 : decode cX2_lets 5 = .ok (.if_icmp .eq 20, 3) := by decide +kernel
theorem dX2_lets_8 : decode cX2_lets 8 = .ok (.aload_n 1, 1) := by decide +kernel
theorem dX2_lets_9 : decode cX2_lets 9 = .ok (.aload_n 0, 1) := by decide +kernel
theorem dX2_lets_10 : decode cX2_lets 10 = .ok (.aload_n 1, 1) := by decide +kernel
theorem dX2_lets_11 : decode cX2_lets 11 = .ok (.iload_n 2, 1) := by decide +kernel
theorem dX2_lets_12 : decode cX2_lets 12 = .ok (.invokevirtual 24, 3) := by decide +kernel
theorem dX2_lets_15 : decode cX2_lets 15 = .ok (.aload_n 0, 1) := by decide +kernel
theorem dX2_lets_16 : decode cX2_lets 16 = .ok (.getfield 15, 3) := by decide +kernel
theorem dX2_lets_19 : decode cX2_lets 19 = .ok (.invokevirtual 28, 3) := by decide +kernel
theorem dX2_lets_22 : decode cX2_lets 22 = .ok (.ifCond .eq 7, 3) := by decide +kernel
theorem dX2_lets_25 : decode cX2_lets 25 = .ok (.iconst 1, 1) := by decide +kernel
theorem dX2_lets_26 : decode cX2_lets 26 = .ok (.goto 4, 3) := by decide +kernel
theorem dX2_lets_29 : decode cX2_lets 29 = .ok (.iconst 0, 1) := by decide +kernel
theorem dX2_lets_30 : decode cX2_lets 30 = .ok (.ireturn, 1) := by decide +kernel
theorem dX2_take_0 : decode cX2_take 0 = .ok (.aload_n 0, 1) := by decide +kernel
theorem dX2_take_1 : decode cX2_take 1 = .ok (.aload_n 0, 1) := by decide +kernel
theorem dX2_take_2 : decode cX2_take 2 = .ok (.aload_n 1, 1) := by decide +kernel
theorem dX2_take_3 : decode cX2_take 3 = .ok (.iload_n 2, 1) := by decide +kernel
theorem dX2_take_4 : decode cX2_take 4 = .ok (.invokevirtual 24, 3) := by decide +kernel
theorem dX2_take_7 : decode cX2_take 7 = .ok (.putfield 15, 3) := by decide +kernel
theorem dX2_take_10 : decode cX2_take 10 = .ok (.aload_n 0, 1) := by decide +kernel
theorem dX2_take_11 : decode cX2_take 11 = .ok (.iload_n 2, 1) := by decide +kernel
theorem dX2_take_12 : decode cX2_take 12 = .ok (.putfield 9, 3) := by decide +kernel
theorem dX2_take_15 : decode cX2_take 15 = .ok (.return_, 1) := by decide +kernel
theorem dX3_init_0 : decode cX3_init 0 = .ok (.aload_n 0, 1) := by decide +kernel
theorem dX3_init_1 : decode cX3_init 1 = .ok (.invokespecial 3, 3) := by decide +kernel
theorem dX3_init_4 : decode cX3_init 4 = .ok (.aload_n 0, 1) := by decide +kernel
theorem dX3_init_5 : decode cX3_init 5 = .ok (.sipush 4608, 3) := by decide +kernel
theorem dX3_init_8 : decode cX3_init 8 = .ok (.newarray .int, 2) := by decide +kernel
theorem dX3_init_10 : decode cX3_init 10 = .ok (.putfield 9, 3) := by decide +kernel
theorem dX3_init_13 : decode cX3_init 13 = .ok (.return_, 1) := by decide +kernel
theorem dX3_forget_0 : decode cX3_forget 0 = .ok (.aload_n 0, 1) := by decide +kernel
theorem dX3_forget_1 : decode cX3_forget 1 = .ok (.iconst 0, 1) := by decide +kernel
theorem dX3_forget_2 : decode cX3_forget 2 = .ok (.putfield 15, 3) := by decide +kernel
theorem dX3_forget_5 : decode cX3_forget 5 = .ok (.return_, 1) := by decide +kernel
theorem dX3_most_0 : decode cX3_most 0 = .ok (.aload_n 0, 1) := by decide +kernel
theorem dX3_most_1 : decode cX3_most 1 = .ok (.getfield 15, 3) := by decide +kernel
theorem dX3_most_4 : decode cX3_most 4 = .ok (.ifCond .ne 8, 3) := by decide +kernel
theorem dX3_most_7 : decode cX3_most 7 = .ok (.aload_n 0, 1) := by decide +kernel
theorem dX3_most_8 : decode cX3_most 8 = .ok (.aload_n 1, 1) := by decide +kernel
theorem dX3_most_9 : decode cX3_most 9 = .ok (.invokevirtual 19, 3) := by decide +kernel
theorem dX3_most_12 : decode cX3_most 12 = .ok (.iconst 0, 1) := by decide +kernel
theorem dX3_most_13 : decode cX3_most 13 = .ok (.istore_n 3, 1) := by decide +kernel
theorem dX3_most_14 : decode cX3_most 14 = .ok (.iconst 0, 1) := by decide +kernel
theorem dX3_most_15 : decode cX3_most 15 = .ok (.istore 4, 2) := by decide +kernel
theorem dX3_most_17 : decode cX3_most 17 = .ok (.iload 4, 2) := by decide +kernel
theorem dX3_most_19 : decode cX3_most 19 = .ok (.aload_n 1, 1) := by decide +kernel
theorem dX3_most_20 : decode cX3_most 20 = .ok (.getfield 23, 3) := by decide +kernel
theorem dX3_most_23 : decode cX3_most 23 = .ok (.if_icmp .ge 22, 3) := by decide +kernel
theorem dX3_most_26 : decode cX3_most 26 = .ok (.iload_n 3, 1) := by decide +kernel
theorem dX3_most_27 : decode cX3_most 27 = .ok (.aload_n 0, 1) := by decide +kernel
theorem dX3_most_28 : decode cX3_most 28 = .ok (.iload_n 2, 1) := by decide +kernel
theorem dX3_most_29 : decode cX3_most 29 = .ok (.iload 4, 2) := by decide +kernel
theorem dX3_most_31 : decode cX3_most 31 = .ok (.iconst 0, 1) := by decide +kernel
theorem dX3_most_32 : decode cX3_most 32 = .ok (.invokevirtual 29, 3) := by decide +kernel
theorem dX3_most_35 : decode cX3_most 35 = .ok (.invokestatic 33, 3) := by decide +kernel
theorem dX3_most_38 : decode cX3_most 38 = .ok (.istore_n 3, 1) := by decide +kernel
theorem dX3_most_39 : decode cX3_most 39 = .ok (.iinc 4 1, 3) := by decide +kernel
theorem dX3_most_42 : decode cX3_most 42 = .ok (.goto (-25), 3) := by decide +kernel
theorem dX3_most_45 : decode cX3_most 45 = .ok (.iload_n 3, 1) := by decide +kernel
theorem dX3_most_46 : decode cX3_most 46 = .ok (.ireturn, 1) := by decide +kernel
theorem dX3_length_0 : decode cX3_length 0 = .ok (.iload_n 1, 1) := by decide +kernel
theorem dX3_length_1 : decode cX3_length 1 = .ok (.iload_n 2, 1) := by decide +kernel
theorem dX3_length_2 : decode cX3_length 2 = .ok (.iushr, 1) := by decide +kernel
theorem dX3_length_3 : decode cX3_length 3 = .ok (.iconst 1, 1) := by decide +kernel
theorem dX3_length_4 : decode cX3_length 4 = .ok (.iand, 1) := by decide +kernel
theorem dX3_length_5 : decode cX3_length 5 = .ok (.ifCond .ne 5, 3) := by decide +kernel
theorem dX3_length_8 : decode cX3_length 8 = .ok (.iconst 0, 1) := by decide +kernel
theorem dX3_length_9 : decode cX3_length 9 = .ok (.ireturn, 1) := by decide +kernel
theorem dX3_length_10 : decode cX3_length 10 = .ok (.aload_n 0, 1) := by decide +kernel
theorem dX3_length_11 : decode cX3_length 11 = .ok (.getfield 9, 3) := by decide +kernel
theorem dX3_length_14 : decode cX3_length 14 = .ok (.iload_n 1, 1) := by decide +kernel
theorem dX3_length_15 : decode cX3_length 15 = .ok (.bipush 9, 2) := by decide +kernel
theorem dX3_length_17 : decode cX3_length 17 = .ok (.imul, 1) := by decide +kernel
theorem dX3_length_18 : decode cX3_length 18 = .ok (.iload_n 2, 1) := by decide +kernel
theorem dX3_length_19 : decode cX3_length 19 = .ok (.iadd, 1) := by decide +kernel
theorem dX3_length_20 : decode cX3_length 20 = .ok (.iaload, 1) := by decide +kernel
theorem dX3_length_21 : decode cX3_length 21 = .ok (.iconst 4, 1) := by decide +kernel
theorem dX3_length_22 : decode cX3_length 22 = .ok (.iload_n 3, 1) := by decide +kernel
theorem dX3_length_23 : decode cX3_length 23 = .ok (.imul, 1) := by decide +kernel
theorem dX3_length_24 : decode cX3_length 24 = .ok (.iushr, 1) := by decide +kernel
theorem dX3_length_25 : decode cX3_length 25 = .ok (.bipush 15, 2) := by decide +kernel
theorem dX3_length_27 : decode cX3_length 27 = .ok (.iand, 1) := by decide +kernel
theorem dX3_length_28 : decode cX3_length 28 = .ok (.ireturn, 1) := by decide +kernel
theorem dX3_fill_0 : decode cX3_fill 0 = .ok (.iconst 1, 1) := by decide +kernel
theorem dX3_fill_1 : decode cX3_fill 1 = .ok (.istore_n 2, 1) := by decide +kernel
theorem dX3_fill_2 : decode cX3_fill 2 = .ok (.iload_n 2, 1) := by decide +kernel
theorem dX3_fill_3 : decode cX3_fill 3 = .ok (.iconst 1, 1) := by decide +kernel
theorem dX3_fill_4 : decode cX3_fill 4 = .ok (.aload_n 1, 1) := by decide +kernel
theorem dX3_fill_5 : decode cX3_fill 5 = .ok (.getfield 23, 3) := by decide +kernel
theorem dX3_fill_8 : decode cX3_fill 8 = .ok (.ishl, 1) := by decide +kernel
theorem dX3_fill_9 : decode cX3_fill 9 = .ok (.if_icmp .ge 78, 3) := by decide +kernel
theorem dX3_fill_12 : decode cX3_fill 12 = .ok (.iconst 0, 1) := by decide +kernel
theorem dX3_fill_13 : decode cX3_fill 13 = .ok (.istore_n 3, 1) := by decide +kernel
theorem dX3_fill_14 : decode cX3_fill 14 = .ok (.iload_n 3, 1) := by decide +kernel
theorem dX3_fill_15 : decode cX3_fill 15 = .ok (.aload_n 1, 1) := by decide +kernel
theorem dX3_fill_16 : decode cX3_fill 16 = .ok (.getfield 23, 3) := by decide +kernel
theorem dX3_fill_19 : decode cX3_fill 19 = .ok (.if_icmp .ge 62, 3) := by decide +kernel
theorem dX3_fill_22 : decode cX3_fill 22 = .ok (.iconst 0, 1) := by decide +kernel
theorem dX3_fill_23 : decode cX3_fill 23 = .ok (.istore 4, 2) := by decide +kernel
theorem dX3_fill_25 : decode cX3_fill 25 = .ok (.iconst 0, 1) := by decide +kernel
theorem dX3_fill_26 : decode cX3_fill 26 = .ok (.istore 5, 2) := by decide +kernel
theorem dX3_fill_28 : decode cX3_fill 28 = .ok (.iload 5, 2) := by decide +kernel
theorem dX3_fill_30 : decode cX3_fill 30 = .ok (.aload_n 1, 1) := by decide +kernel
theorem dX3_fill_31 : decode cX3_fill 31 = .ok (.invokevirtual 39, 3) := by decide +kernel
theorem dX3_fill_34 : decode cX3_fill 34 = .ok (.if_icmp .ge 28, 3) := by decide +kernel
theorem dX3_fill_37 : decode cX3_fill 37 = .ok (.iload 4, 2) := by decide +kernel
theorem dX3_fill_39 : decode cX3_fill 39 = .ok (.aload_n 0, 1) := by decide +kernel
theorem dX3_fill_40 : decode cX3_fill 40 = .ok (.aload_n 1, 1) := by decide +kernel
theorem dX3_fill_41 : decode cX3_fill 41 = .ok (.iload_n 2, 1) := by decide +kernel
theorem dX3_fill_42 : decode cX3_fill 42 = .ok (.iload_n 3, 1) := by decide +kernel
theorem dX3_fill_43 : decode cX3_fill 43 = .ok (.iload 5, 2) := by decide +kernel
theorem dX3_fill_45 : decode cX3_fill 45 = .ok (.invokevirtual 43, 3) := by decide +kernel
theorem dX3_fill_48 : decode cX3_fill 48 = .ok (.iconst 4, 1) := by decide +kernel
theorem dX3_fill_49 : decode cX3_fill 49 = .ok (.iload 5, 2) := by decide +kernel
theorem dX3_fill_51 : decode cX3_fill 51 = .ok (.imul, 1) := by decide +kernel
theorem dX3_fill_52 : decode cX3_fill 52 = .ok (.ishl, 1) := by decide +kernel
theorem dX3_fill_53 : decode cX3_fill 53 = .ok (.ior, 1) := by decide +kernel
theorem dX3_fill_54 : decode cX3_fill 54 = .ok (.istore 4, 2) := by decide +kernel
theorem dX3_fill_56 : decode cX3_fill 56 = .ok (.iinc 5 1, 3) := by decide +kernel
theorem dX3_fill_59 : decode cX3_fill 59 = .ok (.goto (-31), 3) := by decide +kernel
theorem dX3_fill_62 : decode cX3_fill 62 = .ok (.aload_n 0, 1) := by decide +kernel
theorem dX3_fill_63 : decode cX3_fill 63 = .ok (.getfield 9, 3) := by decide +kernel
theorem dX3_fill_66 : decode cX3_fill 66 = .ok (.iload_n 2, 1) := by decide +kernel
theorem dX3_fill_67 : decode cX3_fill 67 = .ok (.bipush 9, 2) := by decide +kernel
theorem dX3_fill_69 : decode cX3_fill 69 = .ok (.imul, 1) := by decide +kernel
theorem dX3_fill_70 : decode cX3_fill 70 = .ok (.iload_n 3, 1) := by decide +kernel
theorem dX3_fill_71 : decode cX3_fill 71 = .ok (.iadd, 1) := by decide +kernel
theorem dX3_fill_72 : decode cX3_fill 72 = .ok (.iload 4, 2) := by decide +kernel
theorem dX3_fill_74 : decode cX3_fill 74 = .ok (.iastore, 1) := by decide +kernel
theorem dX3_fill_75 : decode cX3_fill 75 = .ok (.iinc 3 1, 3) := by decide +kernel
theorem dX3_fill_78 : decode cX3_fill 78 = .ok (.goto (-64), 3) := by decide +kernel
theorem dX3_fill_81 : decode cX3_fill 81 = .ok (.iinc 2 1, 3) := by decide +kernel
theorem dX3_fill_84 : decode cX3_fill 84 = .ok (.goto (-82), 3) := by decide +kernel
theorem dX3_fill_87 : decode cX3_fill 87 = .ok (.aload_n 0, 1) := by decide +kernel
theorem dX3_fill_88 : decode cX3_fill 88 = .ok (.iconst 1, 1) := by decide +kernel
theorem dX3_fill_89 : decode cX3_fill 89 = .ok (.putfield 15, 3) := by decide +kernel
theorem dX3_fill_92 : decode cX3_fill 92 = .ok (.return_, 1) := by decide +kernel
theorem dX3_lengthFrom_0 : decode cX3_lengthFrom 0 = .ok (.iload_n 2, 1) := by decide +kernel
theorem dX3_lengthFrom_1 : decode cX3_lengthFrom 1 = .ok (.iload_n 3, 1) := by decide +kernel
theorem dX3_lengthFrom_2 : decode cX3_lengthFrom 2 = .ok (.iushr, 1) := by decide +kernel
theorem dX3_lengthFrom_3 : decode cX3_lengthFrom 3 = .ok (.iconst 1, 1) := by decide +kernel
theorem dX3_lengthFrom_4 : decode cX3_lengthFrom 4 = .ok (.iand, 1) := by decide +kernel
theorem dX3_lengthFrom_5 : decode cX3_lengthFrom 5 = .ok (.ifCond .ne 5, 3) := by decide +kernel
theorem dX3_lengthFrom_8 : decode cX3_lengthFrom 8 = .ok (.iconst 0, 1) := by decide +kernel
theorem dX3_lengthFrom_9 : decode cX3_lengthFrom 9 = .ok (.ireturn, 1) := by decide +kernel
theorem dX3_lengthFrom_10 : decode cX3_lengthFrom 10 = .ok (.iload_n 2, 1) := by decide +kernel
theorem dX3_lengthFrom_11 : decode cX3_lengthFrom 11 = .ok (.iconst 1, 1) := by decide +kernel
theorem dX3_lengthFrom_12 : decode cX3_lengthFrom 12 = .ok (.iload_n 3, 1) := by decide +kernel
theorem dX3_lengthFrom_13 : decode cX3_lengthFrom 13 = .ok (.ishl, 1) := by decide +kernel
theorem dX3_lengthFrom_14 : decode cX3_lengthFrom 14 = .ok (.iconst (-1), 1) := by decide +kernel
theorem dX3_lengthFrom_15 : decode cX3_lengthFrom 15 = .ok (.ixor, 1) := by decide +kernel
theorem dX3_lengthFrom_16 : decode cX3_lengthFrom 16 = .ok (.iand, 1) := by decide +kernel
theorem dX3_lengthFrom_17 : decode cX3_lengthFrom 17 = .ok (.istore 5, 2) := by decide +kernel
theorem dX3_lengthFrom_19 : decode cX3_lengthFrom 19 = .ok (.iconst 0, 1) := by decide +kernel
theorem dX3_lengthFrom_20 : decode cX3_lengthFrom 20 = .ok (.istore 6, 2) := by decide +kernel
theorem dX3_lengthFrom_22 : decode cX3_lengthFrom 22 = .ok (.iconst 0, 1) := by decide +kernel
theorem dX3_lengthFrom_23 : decode cX3_lengthFrom 23 = .ok (.istore 7, 2) := by decide +kernel
theorem dX3_lengthFrom_25 : decode cX3_lengthFrom 25 = .ok (.iload 7, 2) := by decide +kernel
theorem dX3_lengthFrom_27 : decode cX3_lengthFrom 27 = .ok (.aload_n 1, 1) := by decide +kernel
theorem dX3_lengthFrom_28 : decode cX3_lengthFrom 28 = .ok (.getfield 23, 3) := by decide +kernel
theorem dX3_lengthFrom_31 : decode cX3_lengthFrom 31 = .ok (.if_icmp .ge 53, 3) := by decide +kernel
theorem dX3_lengthFrom_34 : decode cX3_lengthFrom 34 = .ok (.aload_n 1, 1) := by decide +kernel
theorem dX3_lengthFrom_35 : decode cX3_lengthFrom 35 = .ok (.iload_n 3, 1) := by decide +kernel
theorem dX3_lengthFrom_36 : decode cX3_lengthFrom 36 = .ok (.iload 7, 2) := by decide +kernel
theorem dX3_lengthFrom_38 : decode cX3_lengthFrom 38 = .ok (.invokevirtual 47, 3) := by decide +kernel
theorem dX3_lengthFrom_41 : decode cX3_lengthFrom 41 = .ok (.istore 8, 2) := by decide +kernel
theorem dX3_lengthFrom_43 : decode cX3_lengthFrom 43 = .ok (.aload_n 1, 1) := by decide +kernel
theorem dX3_lengthFrom_44 : decode cX3_lengthFrom 44 = .ok (.iload 8, 2) := by decide +kernel
theorem dX3_lengthFrom_46 : decode cX3_lengthFrom 46 = .ok (.iload 4, 2) := by decide +kernel
theorem dX3_lengthFrom_48 : decode cX3_lengthFrom 48 = .ok (.invokestatic 50, 3) := by decide +kernel
theorem dX3_lengthFrom_51 : decode cX3_lengthFrom 51 = .ok (.invokevirtual 54, 3) := by decide +kernel
theorem dX3_lengthFrom_54 : decode cX3_lengthFrom 54 = .ok (.ifCond .eq 24, 3) := by decide +kernel
theorem dX3_lengthFrom_57 : decode cX3_lengthFrom 57 = .ok (.iload 6, 2) := by decide +kernel
theorem dX3_lengthFrom_59 : decode cX3_lengthFrom 59 = .ok (.aload_n 0, 1) := by decide +kernel
theorem dX3_lengthFrom_60 : decode cX3_lengthFrom 60 = .ok (.iload 5, 2) := by decide +kernel
theorem dX3_lengthFrom_62 : decode cX3_lengthFrom 62 = .ok (.iload 7, 2) := by decide +kernel
theorem dX3_lengthFrom_64 : decode cX3_lengthFrom 64 = .ok (.aload_n 1, 1) := by decide +kernel
theorem dX3_lengthFrom_65 : decode cX3_lengthFrom 65 = .ok (.iload 8, 2) := by decide +kernel
theorem dX3_lengthFrom_67 : decode cX3_lengthFrom 67 = .ok (.invokevirtual 58, 3) := by decide +kernel
theorem dX3_lengthFrom_70 : decode cX3_lengthFrom 70 = .ok (.invokevirtual 29, 3) := by decide +kernel
theorem dX3_lengthFrom_73 : decode cX3_lengthFrom 73 = .ok (.invokestatic 33, 3) := by decide +kernel
theorem dX3_lengthFrom_76 : decode cX3_lengthFrom 76 = .ok (.istore 6, 2) := by decide +kernel
theorem dX3_lengthFrom_78 : decode cX3_lengthFrom 78 = .ok (.iinc 7 1, 3) := by decide +kernel
theorem dX3_lengthFrom_81 : decode cX3_lengthFrom 81 = .ok (.goto (-56), 3) := by decide +kernel
theorem dX3_lengthFrom_84 : decode cX3_lengthFrom 84 = .ok (.iload 6, 2) := by decide +kernel
theorem dX3_lengthFrom_86 : decode cX3_lengthFrom 86 = .ok (.iconst 1, 1) := by decide +kernel
theorem dX3_lengthFrom_87 : decode cX3_lengthFrom 87 = .ok (.iadd, 1) := by decide +kernel
theorem dX3_lengthFrom_88 : decode cX3_lengthFrom 88 = .ok (.ireturn, 1) := by decide +kernel
theorem dX3_personAt_0 : decode cX3_personAt 0 = .ok (.iload_n 3, 1) := by decide +kernel
theorem dX3_personAt_1 : decode cX3_personAt 1 = .ok (.istore 6, 2) := by decide +kernel
theorem dX3_personAt_3 : decode cX3_personAt 3 = .ok (.aload_n 2, 1) := by decide +kernel
theorem dX3_personAt_4 : decode cX3_personAt 4 = .ok (.invokevirtual 61, 3) := by decide +kernel
theorem dX3_personAt_7 : decode cX3_personAt 7 = .ok (.iconst 0, 1) := by decide +kernel
theorem dX3_personAt_8 : decode cX3_personAt 8 = .ok (.istore 7, 2) := by decide +kernel
theorem dX3_personAt_10 : decode cX3_personAt 10 = .ok (.iload 7, 2) := by decide +kernel
theorem dX3_personAt_12 : decode cX3_personAt 12 = .ok (.iload 5, 2) := by decide +kernel
theorem dX3_personAt_14 : decode cX3_personAt 14 = .ok (.if_icmp .gt 58, 3) := by decide +kernel
theorem dX3_personAt_17 : decode cX3_personAt 17 = .ok (.iload 7, 2) := by decide +kernel
theorem dX3_personAt_19 : decode cX3_personAt 19 = .ok (.iload 4, 2) := by decide +kernel
theorem dX3_personAt_21 : decode cX3_personAt 21 = .ok (.if_icmp .ge 51, 3) := by decide +kernel
theorem dX3_personAt_24 : decode cX3_personAt 24 = .ok (.aload_n 0, 1) := by decide +kernel
theorem dX3_personAt_25 : decode cX3_personAt 25 = .ok (.aload_n 1, 1) := by decide +kernel
theorem dX3_personAt_26 : decode cX3_personAt 26 = .ok (.aload_n 2, 1) := by decide +kernel
theorem dX3_personAt_27 : decode cX3_personAt 27 = .ok (.iload 6, 2) := by decide +kernel
theorem dX3_personAt_29 : decode cX3_personAt 29 = .ok (.iload 4, 2) := by decide +kernel
theorem dX3_personAt_31 : decode cX3_personAt 31 = .ok (.iload 7, 2) := by decide +kernel
theorem dX3_personAt_33 : decode cX3_personAt 33 = .ok (.isub, 1) := by decide +kernel
theorem dX3_personAt_34 : decode cX3_personAt 34 = .ok (.invokevirtual 66, 3) := by decide +kernel
theorem dX3_personAt_37 : decode cX3_personAt 37 = .ok (.istore 8, 2) := by decide +kernel
theorem dX3_personAt_39 : decode cX3_personAt 39 = .ok (.iload 8, 2) := by decide +kernel
theorem dX3_personAt_41 : decode cX3_personAt 41 = .ok (.iconst (-1), 1) := by decide +kernel
theorem dX3_personAt_42 : decode cX3_personAt 42 = .ok (.if_icmp .ne 6, 3) := by decide +kernel
theorem dX3_personAt_45 : decode cX3_personAt 45 = .ok (.bipush (-4), 2) := by decide +kernel
theorem dX3_personAt_47 : decode cX3_personAt 47 = .ok (.ireturn, 1) := by decide +kernel
theorem dX3_personAt_48 : decode cX3_personAt 48 = .ok (.aload_n 2, 1) := by decide +kernel
theorem dX3_personAt_49 : decode cX3_personAt 49 = .ok (.aload_n 1, 1) := by decide +kernel
theorem dX3_personAt_50 : decode cX3_personAt 50 = .ok (.iload 8, 2) := by decide +kernel
theorem dX3_personAt_52 : decode cX3_personAt 52 = .ok (.invokevirtual 70, 3) := by decide +kernel
theorem dX3_personAt_55 : decode cX3_personAt 55 = .ok (.iload 6, 2) := by decide +kernel
theorem dX3_personAt_57 : decode cX3_personAt 57 = .ok (.iconst 1, 1) := by decide +kernel
theorem dX3_personAt_58 : decode cX3_personAt 58 = .ok (.iload 8, 2) := by decide +kernel
theorem dX3_personAt_60 : decode cX3_personAt 60 = .ok (.ishl, 1) := by decide +kernel
theorem dX3_personAt_61 : decode cX3_personAt 61 = .ok (.iconst (-1), 1) := by decide +kernel
theorem dX3_personAt_62 : decode cX3_personAt 62 = .ok (.ixor, 1) := by decide +kernel
theorem dX3_personAt_63 : decode cX3_personAt 63 = .ok (.iand, 1) := by decide +kernel
theorem dX3_personAt_64 : decode cX3_personAt 64 = .ok (.istore 6, 2) := by decide +kernel
theorem dX3_personAt_66 : decode cX3_personAt 66 = .ok (.iinc 7 1, 3) := by decide +kernel
theorem dX3_personAt_69 : decode cX3_personAt 69 = .ok (.goto (-59), 3) := by decide +kernel
theorem dX3_personAt_72 : decode cX3_personAt 72 = .ok (.aload_n 2, 1) := by decide +kernel
theorem dX3_personAt_73 : decode cX3_personAt 73 = .ok (.getfield 74, 3) := by decide +kernel
theorem dX3_personAt_76 : decode cX3_personAt 76 = .ok (.ireturn, 1) := by decide +kernel
theorem dX3_firstWith_0 : decode cX3_firstWith 0 = .ok (.iconst 0, 1) := by decide +kernel
theorem dX3_firstWith_1 : decode cX3_firstWith 1 = .ok (.istore 5, 2) := by decide +kernel
theorem dX3_firstWith_3 : decode cX3_firstWith 3 = .ok (.iload 5, 2) := by decide +kernel
theorem dX3_firstWith_5 : decode cX3_firstWith 5 = .ok (.aload_n 1, 1) := by decide +kernel
theorem dX3_firstWith_6 : decode cX3_firstWith 6 = .ok (.getfield 23, 3) := by decide +kernel
theorem dX3_firstWith_9 : decode cX3_firstWith 9 = .ok (.if_icmp .ge 49, 3) := by decide +kernel
theorem dX3_firstWith_12 : decode cX3_firstWith 12 = .ok (.aload_n 1, 1) := by decide +kernel
theorem dX3_firstWith_13 : decode cX3_firstWith 13 = .ok (.aload_n 2, 1) := by decide +kernel
theorem dX3_firstWith_14 : decode cX3_firstWith 14 = .ok (.aload_n 1, 1) := by decide +kernel
theorem dX3_firstWith_15 : decode cX3_firstWith 15 = .ok (.iload 5, 2) := by decide +kernel
theorem dX3_firstWith_17 : decode cX3_firstWith 17 = .ok (.invokevirtual 77, 3) := by decide +kernel
theorem dX3_firstWith_20 : decode cX3_firstWith 20 = .ok (.invokevirtual 58, 3) := by decide +kernel
theorem dX3_firstWith_23 : decode cX3_firstWith 23 = .ok (.istore 6, 2) := by decide +kernel
theorem dX3_firstWith_25 : decode cX3_firstWith 25 = .ok (.aload_n 2, 1) := by decide +kernel
theorem dX3_firstWith_26 : decode cX3_firstWith 26 = .ok (.aload_n 1, 1) := by decide +kernel
theorem dX3_firstWith_27 : decode cX3_firstWith 27 = .ok (.iload 5, 2) := by decide +kernel
theorem dX3_firstWith_29 : decode cX3_firstWith 29 = .ok (.invokevirtual 81, 3) := by decide +kernel
theorem dX3_firstWith_32 : decode cX3_firstWith 32 = .ok (.ifCond .eq 20, 3) := by decide +kernel
theorem dX3_firstWith_35 : decode cX3_firstWith 35 = .ok (.aload_n 0, 1) := by decide +kernel
theorem dX3_firstWith_36 : decode cX3_firstWith 36 = .ok (.iload_n 3, 1) := by decide +kernel
theorem dX3_firstWith_37 : decode cX3_firstWith 37 = .ok (.iload 5, 2) := by decide +kernel
theorem dX3_firstWith_39 : decode cX3_firstWith 39 = .ok (.iload 6, 2) := by decide +kernel
theorem dX3_firstWith_41 : decode cX3_firstWith 41 = .ok (.invokevirtual 29, 3) := by decide +kernel
theorem dX3_firstWith_44 : decode cX3_firstWith 44 = .ok (.iload 4, 2) := by decide +kernel
theorem dX3_firstWith_46 : decode cX3_firstWith 46 = .ok (.if_icmp .ne 6, 3) := by decide +kernel
theorem dX3_firstWith_49 : decode cX3_firstWith 49 = .ok (.iload 5, 2) := by decide +kernel
theorem dX3_firstWith_51 : decode cX3_firstWith 51 = .ok (.ireturn, 1) := by decide +kernel
theorem dX3_firstWith_52 : decode cX3_firstWith 52 = .ok (.iinc 5 1, 3) := by decide +kernel
theorem dX3_firstWith_55 : decode cX3_firstWith 55 = .ok (.goto (-52), 3) := by decide +kernel
theorem dX3_firstWith_58 : decode cX3_firstWith 58 = .ok (.iconst (-1), 1) := by decide +kernel
theorem dX3_firstWith_59 : decode cX3_firstWith 59 = .ok (.ireturn, 1) := by decide +kernel
theorem dX4_init_0 : decode cX4_init 0 = .ok (.aload_n 0, 1) := by decide +kernel
theorem dX4_init_1 : decode cX4_init 1 = .ok (.invokespecial 3, 3) := by decide +kernel
theorem dX4_init_4 : decode cX4_init 4 = .ok (.aload_n 0, 1) := by decide +kernel
theorem dX4_init_5 : decode cX4_init 5 = .ok (.bipush 16, 2) := by decide +kernel
theorem dX4_init_7 : decode cX4_init 7 = .ok (.newarray .int, 2) := by decide +kernel
theorem dX4_init_9 : decode cX4_init 9 = .ok (.putfield 9, 3) := by decide +kernel
theorem dX4_init_12 : decode cX4_init 12 = .ok (.return_, 1) := by decide +kernel
theorem dX4_append_0 : decode cX4_append 0 = .ok (.aload_n 0, 1) := by decide +kernel
theorem dX4_append_1 : decode cX4_append 1 = .ok (.getfield 15, 3) := by decide +kernel
theorem dX4_append_4 : decode cX4_append 4 = .ok (.bipush 16, 2) := by decide +kernel
theorem dX4_append_6 : decode cX4_append 6 = .ok (.if_icmp .lt 5, 3) := by decide +kernel
theorem dX4_append_9 : decode cX4_append 9 = .ok (.iconst 0, 1) := by decide +kernel
theorem dX4_append_10 : decode cX4_append 10 = .ok (.ireturn, 1) := by decide +kernel
theorem dX4_append_11 : decode cX4_append 11 = .ok (.aload_n 0, 1) := by decide +kernel
theorem dX4_append_12 : decode cX4_append 12 = .ok (.getfield 9, 3) := by decide +kernel
theorem dX4_append_15 : decode cX4_append 15 = .ok (.aload_n 0, 1) := by decide +kernel
theorem dX4_append_16 : decode cX4_append 16 = .ok (.getfield 15, 3) := by decide +kernel
theorem dX4_append_19 : decode cX4_append 19 = .ok (.iload_n 1, 1) := by decide +kernel
theorem dX4_append_20 : decode cX4_append 20 = .ok (.iastore, 1) := by decide +kernel
theorem dX4_append_21 : decode cX4_append 21 = .ok (.aload_n 0, 1) := by decide +kernel
theorem dX4_append_22 : decode cX4_append 22 = .ok (.dup, 1) := by decide +kernel
theorem dX4_append_23 : decode cX4_append 23 = .ok (.getfield 15, 3) := by decide +kernel
theorem dX4_append_26 : decode cX4_append 26 = .ok (.iconst 1, 1) := by decide +kernel
theorem dX4_append_27 : decode cX4_append 27 = .ok (.iadd, 1) := by decide +kernel
theorem dX4_append_28 : decode cX4_append 28 = .ok (.putfield 15, 3) := by decide +kernel
theorem dX4_append_31 : decode cX4_append 31 = .ok (.iconst 1, 1) := by decide +kernel
theorem dX4_append_32 : decode cX4_append 32 = .ok (.ireturn, 1) := by decide +kernel
theorem dX4_at_0 : decode cX4_at 0 = .ok (.iload_n 1, 1) := by decide +kernel
theorem dX4_at_1 : decode cX4_at 1 = .ok (.ifCond .lt 20, 3) := by decide +kernel
theorem dX4_at_4 : decode cX4_at 4 = .ok (.iload_n 1, 1) := by decide +kernel
theorem dX4_at_5 : decode cX4_at 5 = .ok (.aload_n 0, 1) := by decide +kernel
theorem dX4_at_6 : decode cX4_at 6 = .ok (.getfield 15, 3) := by decide +kernel
theorem dX4_at_9 : decode cX4_at 9 = .ok (.if_icmp .ge 12, 3) := by decide +kernel
theorem dX4_at_12 : decode cX4_at 12 = .ok (.aload_n 0, 1) := by decide +kernel
theorem dX4_at_13 : decode cX4_at 13 = .ok (.getfield 9, 3) := by decide +kernel
theorem dX4_at_16 : decode cX4_at 16 = .ok (.iload_n 1, 1) := by decide +kernel
theorem dX4_at_17 : decode cX4_at 17 = .ok (.iaload, 1) := by decide +kernel
theorem dX4_at_18 : decode cX4_at 18 = .ok (.goto 4, 3) := by decide +kernel
theorem dX4_at_21 : decode cX4_at 21 = .ok (.iconst 0, 1) := by decide +kernel
theorem dX4_at_22 : decode cX4_at 22 = .ok (.ireturn, 1) := by decide +kernel
theorem dX5_init_0 : decode cX5_init 0 = .ok (.aload_n 0, 1) := by decide +kernel
theorem dX5_init_1 : decode cX5_init 1 = .ok (.invokespecial 3, 3) := by decide +kernel
theorem dX5_init_4 : decode cX5_init 4 = .ok (.aload_n 0, 1) := by decide +kernel
theorem dX5_init_5 : decode cX5_init 5 = .ok (.bipush 84, 2) := by decide +kernel
theorem dX5_init_7 : decode cX5_init 7 = .ok (.newarray .int, 2) := by decide +kernel
theorem dX5_init_9 : decode cX5_init 9 = .ok (.putfield 9, 3) := by decide +kernel
theorem dX5_init_12 : decode cX5_init 12 = .ok (.return_, 1) := by decide +kernel
theorem dX5_fewest_0 : decode cX5_fewest 0 = .ok (.iconst 0, 1) := by decide +kernel
theorem dX5_fewest_1 : decode cX5_fewest 1 = .ok (.istore_n 3, 1) := by decide +kernel
theorem dX5_fewest_2 : decode cX5_fewest 2 = .ok (.iload_n 3, 1) := by decide +kernel
theorem dX5_fewest_3 : decode cX5_fewest 3 = .ok (.bipush 6, 2) := by decide +kernel
theorem dX5_fewest_5 : decode cX5_fewest 5 = .ok (.if_icmp .ge 16, 3) := by decide +kernel
theorem dX5_fewest_8 : decode cX5_fewest 8 = .ok (.aload_n 0, 1) := by decide +kernel
theorem dX5_fewest_9 : decode cX5_fewest 9 = .ok (.getfield 9, 3) := by decide +kernel
theorem dX5_fewest_12 : decode cX5_fewest 12 = .ok (.iload_n 3, 1) := by decide +kernel
theorem dX5_fewest_13 : decode cX5_fewest 13 = .ok (.iconst 1, 1) := by decide +kernel
theorem dX5_fewest_14 : decode cX5_fewest 14 = .ok (.iastore, 1) := by decide +kernel
theorem dX5_fewest_15 : decode cX5_fewest 15 = .ok (.iinc 3 1, 3) := by decide +kernel
theorem dX5_fewest_18 : decode cX5_fewest 18 = .ok (.goto (-16), 3) := by decide +kernel
theorem dX5_fewest_21 : decode cX5_fewest 21 = .ok (.iconst 0, 1) := by decide +kernel
theorem dX5_fewest_22 : decode cX5_fewest 22 = .ok (.istore_n 3, 1) := by decide +kernel
theorem dX5_fewest_23 : decode cX5_fewest 23 = .ok (.iload_n 3, 1) := by decide +kernel
theorem dX5_fewest_24 : decode cX5_fewest 24 = .ok (.bipush 12, 2) := by decide +kernel
theorem dX5_fewest_26 : decode cX5_fewest 26 = .ok (.if_icmp .gt 63, 3) := by decide +kernel
theorem dX5_fewest_29 : decode cX5_fewest 29 = .ok (.iconst 0, 1) := by decide +kernel
theorem dX5_fewest_30 : decode cX5_fewest 30 = .ok (.istore 4, 2) := by decide +kernel
theorem dX5_fewest_32 : decode cX5_fewest 32 = .ok (.iload 4, 2) := by decide +kernel
theorem dX5_fewest_34 : decode cX5_fewest 34 = .ok (.aload_n 1, 1) := by decide +kernel
theorem dX5_fewest_35 : decode cX5_fewest 35 = .ok (.invokevirtual 15, 3) := by decide +kernel
theorem dX5_fewest_38 : decode cX5_fewest 38 = .ok (.if_icmp .ge 31, 3) := by decide +kernel
theorem dX5_fewest_41 : decode cX5_fewest 41 = .ok (.aload_n 0, 1) := by decide +kernel
theorem dX5_fewest_42 : decode cX5_fewest 42 = .ok (.getfield 9, 3) := by decide +kernel
theorem dX5_fewest_45 : decode cX5_fewest 45 = .ok (.iload_n 3, 1) := by decide +kernel
theorem dX5_fewest_46 : decode cX5_fewest 46 = .ok (.iconst 1, 1) := by decide +kernel
theorem dX5_fewest_47 : decode cX5_fewest 47 = .ok (.iadd, 1) := by decide +kernel
theorem dX5_fewest_48 : decode cX5_fewest 48 = .ok (.bipush 6, 2) := by decide +kernel
theorem dX5_fewest_50 : decode cX5_fewest 50 = .ok (.imul, 1) := by decide +kernel
theorem dX5_fewest_51 : decode cX5_fewest 51 = .ok (.iload 4, 2) := by decide +kernel
theorem dX5_fewest_53 : decode cX5_fewest 53 = .ok (.iadd, 1) := by decide +kernel
theorem dX5_fewest_54 : decode cX5_fewest 54 = .ok (.aload_n 0, 1) := by decide +kernel
theorem dX5_fewest_55 : decode cX5_fewest 55 = .ok (.aload_n 1, 1) := by decide +kernel
theorem dX5_fewest_56 : decode cX5_fewest 56 = .ok (.iload_n 3, 1) := by decide +kernel
theorem dX5_fewest_57 : decode cX5_fewest 57 = .ok (.iload 4, 2) := by decide +kernel
theorem dX5_fewest_59 : decode cX5_fewest 59 = .ok (.invokevirtual 21, 3) := by decide +kernel
theorem dX5_fewest_62 : decode cX5_fewest 62 = .ok (.iastore, 1) := by decide +kernel
theorem dX5_fewest_63 : decode cX5_fewest 63 = .ok (.iinc 4 1, 3) := by decide +kernel
theorem dX5_fewest_66 : decode cX5_fewest 66 = .ok (.goto (-34), 3) := by decide +kernel
theorem dX5_fewest_69 : decode cX5_fewest 69 = .ok (.aload_n 0, 1) := by decide +kernel
theorem dX5_fewest_70 : decode cX5_fewest 70 = .ok (.iload_n 3, 1) := by decide +kernel
theorem dX5_fewest_71 : decode cX5_fewest 71 = .ok (.iconst 1, 1) := by decide +kernel
theorem dX5_fewest_72 : decode cX5_fewest 72 = .ok (.iadd, 1) := by decide +kernel
theorem dX5_fewest_73 : decode cX5_fewest 73 = .ok (.iconst 0, 1) := by decide +kernel
theorem dX5_fewest_74 : decode cX5_fewest 74 = .ok (.iload_n 2, 1) := by decide +kernel
theorem dX5_fewest_75 : decode cX5_fewest 75 = .ok (.invokevirtual 25, 3) := by decide +kernel
theorem dX5_fewest_78 : decode cX5_fewest 78 = .ok (.ifCond .eq 5, 3) := by decide +kernel
theorem dX5_fewest_81 : decode cX5_fewest 81 = .ok (.iload_n 3, 1) := by decide +kernel
theorem dX5_fewest_82 : decode cX5_fewest 82 = .ok (.ireturn, 1) := by decide +kernel
theorem dX5_fewest_83 : decode cX5_fewest 83 = .ok (.iinc 3 1, 3) := by decide +kernel
theorem dX5_fewest_86 : decode cX5_fewest 86 = .ok (.goto (-63), 3) := by decide +kernel
theorem dX5_fewest_89 : decode cX5_fewest 89 = .ok (.bipush (-4), 2) := by decide +kernel
theorem dX5_fewest_91 : decode cX5_fewest 91 = .ok (.ireturn, 1) := by decide +kernel
theorem dX5_reaches_0 : decode cX5_reaches 0 = .ok (.aload_n 0, 1) := by decide +kernel
theorem dX5_reaches_1 : decode cX5_reaches 1 = .ok (.getfield 9, 3) := by decide +kernel
theorem dX5_reaches_4 : decode cX5_reaches 4 = .ok (.iload_n 1, 1) := by decide +kernel
theorem dX5_reaches_5 : decode cX5_reaches 5 = .ok (.bipush 6, 2) := by decide +kernel
theorem dX5_reaches_7 : decode cX5_reaches 7 = .ok (.imul, 1) := by decide +kernel
theorem dX5_reaches_8 : decode cX5_reaches 8 = .ok (.iload_n 2, 1) := by decide +kernel
theorem dX5_reaches_9 : decode cX5_reaches 9 = .ok (.iadd, 1) := by decide +kernel
theorem dX5_reaches_10 : decode cX5_reaches 10 = .ok (.iaload, 1) := by decide +kernel
theorem dX5_reaches_11 : decode cX5_reaches 11 = .ok (.iload_n 3, 1) := by decide +kernel
theorem dX5_reaches_12 : decode cX5_reaches 12 = .ok (.iushr, 1) := by decide +kernel
theorem dX5_reaches_13 : decode cX5_reaches 13 = .ok (.iconst 1, 1) := by decide +kernel
theorem dX5_reaches_14 : decode cX5_reaches 14 = .ok (.iand, 1) := by decide +kernel
theorem dX5_reaches_15 : decode cX5_reaches 15 = .ok (.iconst 1, 1) := by decide +kernel
theorem dX5_reaches_16 : decode cX5_reaches 16 = .ok (.if_icmp .ne 7, 3) := by decide +kernel
theorem dX5_reaches_19 : decode cX5_reaches 19 = .ok (.iconst 1, 1) := by decide +kernel
theorem dX5_reaches_20 : decode cX5_reaches 20 = .ok (.goto 4, 3) := by decide +kernel
theorem dX5_reaches_23 : decode cX5_reaches 23 = .ok (.iconst 0, 1) := by decide +kernel
theorem dX5_reaches_24 : decode cX5_reaches 24 = .ok (.ireturn, 1) := by decide +kernel
theorem dX5_reachedBy_0 : decode cX5_reachedBy 0 = .ok (.iconst 0, 1) := by decide +kernel
theorem dX5_reachedBy_1 : decode cX5_reachedBy 1 = .ok (.istore 4, 2) := by decide +kernel
theorem dX5_reachedBy_3 : decode cX5_reachedBy 3 = .ok (.iconst 0, 1) := by decide +kernel
theorem dX5_reachedBy_4 : decode cX5_reachedBy 4 = .ok (.istore 5, 2) := by decide +kernel
theorem dX5_reachedBy_6 : decode cX5_reachedBy 6 = .ok (.iload 5, 2) := by decide +kernel
theorem dX5_reachedBy_8 : decode cX5_reachedBy 8 = .ok (.aload_n 1, 1) := by decide +kernel
theorem dX5_reachedBy_9 : decode cX5_reachedBy 9 = .ok (.invokevirtual 29, 3) := by decide +kernel
theorem dX5_reachedBy_12 : decode cX5_reachedBy 12 = .ok (.if_icmp .gt 62, 3) := by decide +kernel
theorem dX5_reachedBy_15 : decode cX5_reachedBy 15 = .ok (.iload 5, 2) := by decide +kernel
theorem dX5_reachedBy_17 : decode cX5_reachedBy 17 = .ok (.aload_n 1, 1) := by decide +kernel
theorem dX5_reachedBy_18 : decode cX5_reachedBy 18 = .ok (.invokevirtual 29, 3) := by decide +kernel
theorem dX5_reachedBy_21 : decode cX5_reachedBy 21 = .ok (.iconst (-1), 1) := by decide +kernel
theorem dX5_reachedBy_22 : decode cX5_reachedBy 22 = .ok (.ixor, 1) := by decide +kernel
theorem dX5_reachedBy_23 : decode cX5_reachedBy 23 = .ok (.iand, 1) := by decide +kernel
theorem dX5_reachedBy_24 : decode cX5_reachedBy 24 = .ok (.ifCond .ne 44, 3) := by decide +kernel
theorem dX5_reachedBy_27 : decode cX5_reachedBy 27 = .ok (.aload_n 1, 1) := by decide +kernel
theorem dX5_reachedBy_28 : decode cX5_reachedBy 28 = .ok (.iload 5, 2) := by decide +kernel
theorem dX5_reachedBy_30 : decode cX5_reachedBy 30 = .ok (.iload_n 3, 1) := by decide +kernel
theorem dX5_reachedBy_31 : decode cX5_reachedBy 31 = .ok (.invokestatic 32, 3) := by decide +kernel
theorem dX5_reachedBy_34 : decode cX5_reachedBy 34 = .ok (.invokevirtual 36, 3) := by decide +kernel
theorem dX5_reachedBy_37 : decode cX5_reachedBy 37 = .ok (.ifCond .eq 31, 3) := by decide +kernel
theorem dX5_reachedBy_40 : decode cX5_reachedBy 40 = .ok (.iload 4, 2) := by decide +kernel
theorem dX5_reachedBy_42 : decode cX5_reachedBy 42 = .ok (.aload_n 0, 1) := by decide +kernel
theorem dX5_reachedBy_43 : decode cX5_reachedBy 43 = .ok (.aload_n 1, 1) := by decide +kernel
theorem dX5_reachedBy_44 : decode cX5_reachedBy 44 = .ok (.iload 5, 2) := by decide +kernel
theorem dX5_reachedBy_46 : decode cX5_reachedBy 46 = .ok (.aload_n 0, 1) := by decide +kernel
theorem dX5_reachedBy_47 : decode cX5_reachedBy 47 = .ok (.getfield 9, 3) := by decide +kernel
theorem dX5_reachedBy_50 : decode cX5_reachedBy 50 = .ok (.iload_n 2, 1) := by decide +kernel
theorem dX5_reachedBy_51 : decode cX5_reachedBy 51 = .ok (.bipush 6, 2) := by decide +kernel
theorem dX5_reachedBy_53 : decode cX5_reachedBy 53 = .ok (.imul, 1) := by decide +kernel
theorem dX5_reachedBy_54 : decode cX5_reachedBy 54 = .ok (.aload_n 1, 1) := by decide +kernel
theorem dX5_reachedBy_55 : decode cX5_reachedBy 55 = .ok (.iload 5, 2) := by decide +kernel
theorem dX5_reachedBy_57 : decode cX5_reachedBy 57 = .ok (.invokevirtual 40, 3) := by decide +kernel
theorem dX5_reachedBy_60 : decode cX5_reachedBy 60 = .ok (.iadd, 1) := by decide +kernel
theorem dX5_reachedBy_61 : decode cX5_reachedBy 61 = .ok (.iaload, 1) := by decide +kernel
theorem dX5_reachedBy_62 : decode cX5_reachedBy 62 = .ok (.invokevirtual 43, 3) := by decide +kernel
theorem dX5_reachedBy_65 : decode cX5_reachedBy 65 = .ok (.ior, 1) := by decide +kernel
theorem dX5_reachedBy_66 : decode cX5_reachedBy 66 = .ok (.istore 4, 2) := by decide +kernel
theorem dX5_reachedBy_68 : decode cX5_reachedBy 68 = .ok (.iinc 5 1, 3) := by decide +kernel
theorem dX5_reachedBy_71 : decode cX5_reachedBy 71 = .ok (.goto (-65), 3) := by decide +kernel
theorem dX5_reachedBy_74 : decode cX5_reachedBy 74 = .ok (.iload 4, 2) := by decide +kernel
theorem dX5_reachedBy_76 : decode cX5_reachedBy 76 = .ok (.ireturn, 1) := by decide +kernel
theorem dX5_turnedInto_0 : decode cX5_turnedInto 0 = .ok (.iload_n 3, 1) := by decide +kernel
theorem dX5_turnedInto_1 : decode cX5_turnedInto 1 = .ok (.istore 4, 2) := by decide +kernel
theorem dX5_turnedInto_3 : decode cX5_turnedInto 3 = .ok (.iconst 0, 1) := by decide +kernel
theorem dX5_turnedInto_4 : decode cX5_turnedInto 4 = .ok (.istore 5, 2) := by decide +kernel
theorem dX5_turnedInto_6 : decode cX5_turnedInto 6 = .ok (.iload 5, 2) := by decide +kernel
theorem dX5_turnedInto_8 : decode cX5_turnedInto 8 = .ok (.aload_n 1, 1) := by decide +kernel
theorem dX5_turnedInto_9 : decode cX5_turnedInto 9 = .ok (.getfield 46, 3) := by decide +kernel
theorem dX5_turnedInto_12 : decode cX5_turnedInto 12 = .ok (.if_icmp .ge 36, 3) := by decide +kernel
theorem dX5_turnedInto_15 : decode cX5_turnedInto 15 = .ok (.iload_n 2, 1) := by decide +kernel
theorem dX5_turnedInto_16 : decode cX5_turnedInto 16 = .ok (.iload 5, 2) := by decide +kernel
theorem dX5_turnedInto_18 : decode cX5_turnedInto 18 = .ok (.iushr, 1) := by decide +kernel
theorem dX5_turnedInto_19 : decode cX5_turnedInto 19 = .ok (.iconst 1, 1) := by decide +kernel
theorem dX5_turnedInto_20 : decode cX5_turnedInto 20 = .ok (.iand, 1) := by decide +kernel
theorem dX5_turnedInto_21 : decode cX5_turnedInto 21 = .ok (.iconst 1, 1) := by decide +kernel
theorem dX5_turnedInto_22 : decode cX5_turnedInto 22 = .ok (.if_icmp .ne 20, 3) := by decide +kernel
theorem dX5_turnedInto_25 : decode cX5_turnedInto 25 = .ok (.aload_n 0, 1) := by decide +kernel
theorem dX5_turnedInto_26 : decode cX5_turnedInto 26 = .ok (.aload_n 1, 1) := by decide +kernel
theorem dX5_turnedInto_27 : decode cX5_turnedInto 27 = .ok (.getfield 50, 3) := by decide +kernel
theorem dX5_turnedInto_30 : decode cX5_turnedInto 30 = .ok (.iload 5, 2) := by decide +kernel
theorem dX5_turnedInto_32 : decode cX5_turnedInto 32 = .ok (.iaload, 1) := by decide +kernel
theorem dX5_turnedInto_33 : decode cX5_turnedInto 33 = .ok (.iload 5, 2) := by decide +kernel
theorem dX5_turnedInto_35 : decode cX5_turnedInto 35 = .ok (.iload 4, 2) := by decide +kernel
theorem dX5_turnedInto_37 : decode cX5_turnedInto 37 = .ok (.invokevirtual 53, 3) := by decide +kernel
theorem dX5_turnedInto_40 : decode cX5_turnedInto 40 = .ok (.istore 4, 2) := by decide +kernel
theorem dX5_turnedInto_42 : decode cX5_turnedInto 42 = .ok (.iinc 5 1, 3) := by decide +kernel
theorem dX5_turnedInto_45 : decode cX5_turnedInto 45 = .ok (.goto (-39), 3) := by decide +kernel
theorem dX5_turnedInto_48 : decode cX5_turnedInto 48 = .ok (.iload 4, 2) := by decide +kernel
theorem dX5_turnedInto_50 : decode cX5_turnedInto 50 = .ok (.ireturn, 1) := by decide +kernel
theorem dX5_turnedOne_0 : decode cX5_turnedOne 0 = .ok (.iload_n 1, 1) := by decide +kernel
theorem dX5_turnedOne_1 : decode cX5_turnedOne 1 = .ok (.iconst 2, 1) := by decide +kernel
theorem dX5_turnedOne_2 : decode cX5_turnedOne 2 = .ok (.if_icmp .ge 5, 3) := by decide +kernel
theorem dX5_turnedOne_5 : decode cX5_turnedOne 5 = .ok (.iconst 0, 1) := by decide +kernel
theorem dX5_turnedOne_6 : decode cX5_turnedOne 6 = .ok (.ireturn, 1) := by decide +kernel
theorem dX5_turnedOne_7 : decode cX5_turnedOne 7 = .ok (.iload_n 3, 1) := by decide +kernel
theorem dX5_turnedOne_8 : decode cX5_turnedOne 8 = .ok (.getstatic 57, 3) := by decide +kernel
theorem dX5_turnedOne_11 : decode cX5_turnedOne 11 = .ok (.iload_n 2, 1) := by decide +kernel
theorem dX5_turnedOne_12 : decode cX5_turnedOne 12 = .ok (.iaload, 1) := by decide +kernel
theorem dX5_turnedOne_13 : decode cX5_turnedOne 13 = .ok (.iand, 1) := by decide +kernel
theorem dX5_turnedOne_14 : decode cX5_turnedOne 14 = .ok (.istore 4, 2) := by decide +kernel
theorem dX5_turnedOne_16 : decode cX5_turnedOne 16 = .ok (.iload_n 3, 1) := by decide +kernel
theorem dX5_turnedOne_17 : decode cX5_turnedOne 17 = .ok (.getstatic 57, 3) := by decide +kernel
theorem dX5_turnedOne_20 : decode cX5_turnedOne 20 = .ok (.iload_n 2, 1) := by decide +kernel
theorem dX5_turnedOne_21 : decode cX5_turnedOne 21 = .ok (.iaload, 1) := by decide +kernel
theorem dX5_turnedOne_22 : decode cX5_turnedOne 22 = .ok (.iconst (-1), 1) := by decide +kernel
theorem dX5_turnedOne_23 : decode cX5_turnedOne 23 = .ok (.ixor, 1) := by decide +kernel
theorem dX5_turnedOne_24 : decode cX5_turnedOne 24 = .ok (.iand, 1) := by decide +kernel
theorem dX5_turnedOne_25 : decode cX5_turnedOne 25 = .ok (.istore 5, 2) := by decide +kernel
theorem dX5_turnedOne_27 : decode cX5_turnedOne 27 = .ok (.iload 4, 2) := by decide +kernel
theorem dX5_turnedOne_29 : decode cX5_turnedOne 29 = .ok (.iconst 1, 1) := by decide +kernel
theorem dX5_turnedOne_30 : decode cX5_turnedOne 30 = .ok (.iload_n 2, 1) := by decide +kernel
theorem dX5_turnedOne_31 : decode cX5_turnedOne 31 = .ok (.ishl, 1) := by decide +kernel
theorem dX5_turnedOne_32 : decode cX5_turnedOne 32 = .ok (.iushr, 1) := by decide +kernel
theorem dX5_turnedOne_33 : decode cX5_turnedOne 33 = .ok (.iload 5, 2) := by decide +kernel
theorem dX5_turnedOne_35 : decode cX5_turnedOne 35 = .ok (.iconst 1, 1) := by decide +kernel
theorem dX5_turnedOne_36 : decode cX5_turnedOne 36 = .ok (.iload_n 2, 1) := by decide +kernel
theorem dX5_turnedOne_37 : decode cX5_turnedOne 37 = .ok (.ishl, 1) := by decide +kernel
theorem dX5_turnedOne_38 : decode cX5_turnedOne 38 = .ok (.ishl, 1) := by decide +kernel
theorem dX5_turnedOne_39 : decode cX5_turnedOne 39 = .ok (.ior, 1) := by decide +kernel
theorem dX5_turnedOne_40 : decode cX5_turnedOne 40 = .ok (.istore 6, 2) := by decide +kernel
theorem dX5_turnedOne_42 : decode cX5_turnedOne 42 = .ok (.iload_n 1, 1) := by decide +kernel
theorem dX5_turnedOne_43 : decode cX5_turnedOne 43 = .ok (.iconst 2, 1) := by decide +kernel
theorem dX5_turnedOne_44 : decode cX5_turnedOne 44 = .ok (.if_icmp .le 11, 3) := by decide +kernel
theorem dX5_turnedOne_47 : decode cX5_turnedOne 47 = .ok (.iload 6, 2) := by decide +kernel
theorem dX5_turnedOne_49 : decode cX5_turnedOne 49 = .ok (.iload 4, 2) := by decide +kernel
theorem dX5_turnedOne_51 : decode cX5_turnedOne 51 = .ok (.ior, 1) := by decide +kernel
theorem dX5_turnedOne_52 : decode cX5_turnedOne 52 = .ok (.goto 5, 3) := by decide +kernel
theorem dX5_turnedOne_55 : decode cX5_turnedOne 55 = .ok (.iload 6, 2) := by decide +kernel
theorem dX5_turnedOne_57 : decode cX5_turnedOne 57 = .ok (.ireturn, 1) := by decide +kernel
theorem dX5_leastFirst_0 : decode cX5_leastFirst 0 = .ok (.aload_n 1, 1) := by decide +kernel
theorem dX5_leastFirst_1 : decode cX5_leastFirst 1 = .ok (.invokevirtual 60, 3) := by decide +kernel
theorem dX5_leastFirst_4 : decode cX5_leastFirst 4 = .ok (.istore 5, 2) := by decide +kernel
theorem dX5_leastFirst_6 : decode cX5_leastFirst 6 = .ok (.iconst 0, 1) := by decide +kernel
theorem dX5_leastFirst_7 : decode cX5_leastFirst 7 = .ok (.istore 6, 2) := by decide +kernel
theorem dX5_leastFirst_9 : decode cX5_leastFirst 9 = .ok (.iload 6, 2) := by decide +kernel
theorem dX5_leastFirst_11 : decode cX5_leastFirst 11 = .ok (.iload 5, 2) := by decide +kernel
theorem dX5_leastFirst_13 : decode cX5_leastFirst 13 = .ok (.if_icmp .ge 73, 3) := by decide +kernel
theorem dX5_leastFirst_16 : decode cX5_leastFirst 16 = .ok (.aload_n 1, 1) := by decide +kernel
theorem dX5_leastFirst_17 : decode cX5_leastFirst 17 = .ok (.iload 6, 2) := by decide +kernel
theorem dX5_leastFirst_19 : decode cX5_leastFirst 19 = .ok (.invokevirtual 63, 3) := by decide +kernel
theorem dX5_leastFirst_22 : decode cX5_leastFirst 22 = .ok (.istore 7, 2) := by decide +kernel
theorem dX5_leastFirst_24 : decode cX5_leastFirst 24 = .ok (.iload_n 2, 1) := by decide +kernel
theorem dX5_leastFirst_25 : decode cX5_leastFirst 25 = .ok (.iload 7, 2) := by decide +kernel
theorem dX5_leastFirst_27 : decode cX5_leastFirst 27 = .ok (.invokestatic 66, 3) := by decide +kernel
theorem dX5_leastFirst_30 : decode cX5_leastFirst 30 = .ok (.aload_n 1, 1) := by decide +kernel
theorem dX5_leastFirst_31 : decode cX5_leastFirst 31 = .ok (.invokevirtual 29, 3) := by decide +kernel
theorem dX5_leastFirst_34 : decode cX5_leastFirst 34 = .ok (.iand, 1) := by decide +kernel
theorem dX5_leastFirst_35 : decode cX5_leastFirst 35 = .ok (.istore 8, 2) := by decide +kernel
theorem dX5_leastFirst_37 : decode cX5_leastFirst 37 = .ok (.iload 7, 2) := by decide +kernel
theorem dX5_leastFirst_39 : decode cX5_leastFirst 39 = .ok (.iload_n 3, 1) := by decide +kernel
theorem dX5_leastFirst_40 : decode cX5_leastFirst 40 = .ok (.invokestatic 66, 3) := by decide +kernel
theorem dX5_leastFirst_43 : decode cX5_leastFirst 43 = .ok (.aload_n 1, 1) := by decide +kernel
theorem dX5_leastFirst_44 : decode cX5_leastFirst 44 = .ok (.invokevirtual 29, 3) := by decide +kernel
theorem dX5_leastFirst_47 : decode cX5_leastFirst 47 = .ok (.iand, 1) := by decide +kernel
theorem dX5_leastFirst_48 : decode cX5_leastFirst 48 = .ok (.istore 9, 2) := by decide +kernel
theorem dX5_leastFirst_50 : decode cX5_leastFirst 50 = .ok (.aload_n 1, 1) := by decide +kernel
theorem dX5_leastFirst_51 : decode cX5_leastFirst 51 = .ok (.iload 8, 2) := by decide +kernel
theorem dX5_leastFirst_53 : decode cX5_leastFirst 53 = .ok (.iconst 0, 1) := by decide +kernel
theorem dX5_leastFirst_54 : decode cX5_leastFirst 54 = .ok (.invokevirtual 36, 3) := by decide +kernel
theorem dX5_leastFirst_57 : decode cX5_leastFirst 57 = .ok (.ifCond .eq 23, 3) := by decide +kernel
theorem dX5_leastFirst_60 : decode cX5_leastFirst 60 = .ok (.aload_n 0, 1) := by decide +kernel
theorem dX5_leastFirst_61 : decode cX5_leastFirst 61 = .ok (.iload 4, 2) := by decide +kernel
theorem dX5_leastFirst_63 : decode cX5_leastFirst 63 = .ok (.aload_n 1, 1) := by decide +kernel
theorem dX5_leastFirst_64 : decode cX5_leastFirst 64 = .ok (.iload 8, 2) := by decide +kernel
theorem dX5_leastFirst_66 : decode cX5_leastFirst 66 = .ok (.invokevirtual 40, 3) := by decide +kernel
theorem dX5_leastFirst_69 : decode cX5_leastFirst 69 = .ok (.iload 9, 2) := by decide +kernel
theorem dX5_leastFirst_71 : decode cX5_leastFirst 71 = .ok (.invokevirtual 25, 3) := by decide +kernel
theorem dX5_leastFirst_74 : decode cX5_leastFirst 74 = .ok (.ifCond .eq 6, 3) := by decide +kernel
theorem dX5_leastFirst_77 : decode cX5_leastFirst 77 = .ok (.iload 6, 2) := by decide +kernel
theorem dX5_leastFirst_79 : decode cX5_leastFirst 79 = .ok (.ireturn, 1) := by decide +kernel
theorem dX5_leastFirst_80 : decode cX5_leastFirst 80 = .ok (.iinc 6 1, 3) := by decide +kernel
theorem dX5_leastFirst_83 : decode cX5_leastFirst 83 = .ok (.goto (-74), 3) := by decide +kernel
theorem dX5_leastFirst_86 : decode cX5_leastFirst 86 = .ok (.bipush (-4), 2) := by decide +kernel
theorem dX5_leastFirst_88 : decode cX5_leastFirst 88 = .ok (.ireturn, 1) := by decide +kernel
theorem dX6_init_0 : decode cX6_init 0 = .ok (.aload_n 0, 1) := by decide +kernel
theorem dX6_init_1 : decode cX6_init 1 = .ok (.invokespecial 3, 3) := by decide +kernel
theorem dX6_init_4 : decode cX6_init 4 = .ok (.aload_n 0, 1) := by decide +kernel
theorem dX6_init_5 : decode cX6_init 5 = .ok (.sipush 300, 3) := by decide +kernel
theorem dX6_init_8 : decode cX6_init 8 = .ok (.newarray .byte, 2) := by decide +kernel
theorem dX6_init_10 : decode cX6_init 10 = .ok (.putfield 9, 3) := by decide +kernel
theorem dX6_init_13 : decode cX6_init 13 = .ok (.return_, 1) := by decide +kernel
theorem dX6_hasRoomFor_0 : decode cX6_hasRoomFor 0 = .ok (.iload_n 1, 1) := by decide +kernel
theorem dX6_hasRoomFor_1 : decode cX6_hasRoomFor 1 = .ok (.sipush 300, 3) := by decide +kernel
theorem dX6_hasRoomFor_4 : decode cX6_hasRoomFor 4 = .ok (.aload_n 0, 1) := by decide +kernel
theorem dX6_hasRoomFor_5 : decode cX6_hasRoomFor 5 = .ok (.getfield 15, 3) := by decide +kernel
theorem dX6_hasRoomFor_8 : decode cX6_hasRoomFor 8 = .ok (.isub, 1) := by decide +kernel
theorem dX6_hasRoomFor_9 : decode cX6_hasRoomFor 9 = .ok (.if_icmp .gt 7, 3) := by decide +kernel
theorem dX6_hasRoomFor_12 : decode cX6_hasRoomFor 12 = .ok (.iconst 1, 1) := by decide +kernel
theorem dX6_hasRoomFor_13 : decode cX6_hasRoomFor 13 = .ok (.goto 4, 3) := by decide +kernel
theorem dX6_hasRoomFor_16 : decode cX6_hasRoomFor 16 = .ok (.iconst 0, 1) := by decide +kernel
theorem dX6_hasRoomFor_17 : decode cX6_hasRoomFor 17 = .ok (.ireturn, 1) := by decide +kernel
theorem dX6_append_0 : decode cX6_append 0 = .ok (.iload_n 1, 1) := by decide +kernel
theorem dX6_append_1 : decode cX6_append 1 = .ok (.iconst 1, 1) := by decide +kernel
theorem dX6_append_2 : decode cX6_append 2 = .ok (.isub, 1) := by decide +kernel
theorem dX6_append_3 : decode cX6_append 3 = .ok (.istore 4, 2) := by decide +kernel
theorem dX6_append_5 : decode cX6_append 5 = .ok (.iload 4, 2) := by decide +kernel
theorem dX6_append_7 : decode cX6_append 7 = .ok (.ifCond .lt 47, 3) := by decide +kernel
theorem dX6_append_10 : decode cX6_append 10 = .ok (.aload_n 0, 1) := by decide +kernel
theorem dX6_append_11 : decode cX6_append 11 = .ok (.getfield 15, 3) := by decide +kernel
theorem dX6_append_14 : decode cX6_append 14 = .ok (.sipush 300, 3) := by decide +kernel
theorem dX6_append_17 : decode cX6_append 17 = .ok (.if_icmp .ge 37, 3) := by decide +kernel
theorem dX6_append_20 : decode cX6_append 20 = .ok (.aload_n 0, 1) := by decide +kernel
theorem dX6_append_21 : decode cX6_append 21 = .ok (.getfield 9, 3) := by decide +kernel
theorem dX6_append_24 : decode cX6_append 24 = .ok (.aload_n 0, 1) := by decide +kernel
theorem dX6_append_25 : decode cX6_append 25 = .ok (.getfield 15, 3) := by decide +kernel
theorem dX6_append_28 : decode cX6_append 28 = .ok (.lload_n 2, 1) := by decide +kernel
theorem dX6_append_29 : decode cX6_append 29 = .ok (.bipush 8, 2) := by decide +kernel
theorem dX6_append_31 : decode cX6_append 31 = .ok (.iload 4, 2) := by decide +kernel
theorem dX6_append_33 : decode cX6_append 33 = .ok (.imul, 1) := by decide +kernel
theorem dX6_append_34 : decode cX6_append 34 = .ok (.lushr, 1) := by decide +kernel
theorem dX6_append_35 : decode cX6_append 35 = .ok (.l2i, 1) := by decide +kernel
theorem dX6_append_36 : decode cX6_append 36 = .ok (.i2b, 1) := by decide +kernel
theorem dX6_append_37 : decode cX6_append 37 = .ok (.bastore, 1) := by decide +kernel
theorem dX6_append_38 : decode cX6_append 38 = .ok (.aload_n 0, 1) := by decide +kernel
theorem dX6_append_39 : decode cX6_append 39 = .ok (.dup, 1) := by decide +kernel
theorem dX6_append_40 : decode cX6_append 40 = .ok (.getfield 15, 3) := by decide +kernel
theorem dX6_append_43 : decode cX6_append 43 = .ok (.iconst 1, 1) := by decide +kernel
theorem dX6_append_44 : decode cX6_append 44 = .ok (.iadd, 1) := by decide +kernel
theorem dX6_append_45 : decode cX6_append 45 = .ok (.putfield 15, 3) := by decide +kernel
theorem dX6_append_48 : decode cX6_append 48 = .ok (.iinc 4 (-1), 3) := by decide +kernel
theorem dX6_append_51 : decode cX6_append 51 = .ok (.goto (-46), 3) := by decide +kernel
theorem dX6_append_54 : decode cX6_append 54 = .ok (.aload_n 0, 1) := by decide +kernel
theorem dX6_append_55 : decode cX6_append 55 = .ok (.getfield 15, 3) := by decide +kernel
theorem dX6_append_58 : decode cX6_append 58 = .ok (.ireturn, 1) := by decide +kernel
theorem dX6_clear_0 : decode cX6_clear 0 = .ok (.aload_n 0, 1) := by decide +kernel
theorem dX6_clear_1 : decode cX6_clear 1 = .ok (.iconst 0, 1) := by decide +kernel
theorem dX6_clear_2 : decode cX6_clear 2 = .ok (.putfield 15, 3) := by decide +kernel
theorem dX6_clear_5 : decode cX6_clear 5 = .ok (.return_, 1) := by decide +kernel
theorem dX6_readInto_0 : decode cX6_readInto 0 = .ok (.aload_n 1, 1) := by decide +kernel
theorem dX6_readInto_1 : decode cX6_readInto 1 = .ok (.invokevirtual 19, 3) := by decide +kernel
theorem dX6_readInto_4 : decode cX6_readInto 4 = .ok (.iconst 0, 1) := by decide +kernel
theorem dX6_readInto_5 : decode cX6_readInto 5 = .ok (.istore_n 2, 1) := by decide +kernel
theorem dX6_readInto_6 : decode cX6_readInto 6 = .ok (.iconst 0, 1) := by decide +kernel
theorem dX6_readInto_7 : decode cX6_readInto 7 = .ok (.istore_n 3, 1) := by decide +kernel
theorem dX6_readInto_8 : decode cX6_readInto 8 = .ok (.iload_n 3, 1) := by decide +kernel
theorem dX6_readInto_9 : decode cX6_readInto 9 = .ok (.sipush 300, 3) := by decide +kernel
theorem dX6_readInto_12 : decode cX6_readInto 12 = .ok (.if_icmp .ge 57, 3) := by decide +kernel
theorem dX6_readInto_15 : decode cX6_readInto 15 = .ok (.iload_n 2, 1) := by decide +kernel
theorem dX6_readInto_16 : decode cX6_readInto 16 = .ok (.aload_n 0, 1) := by decide +kernel
theorem dX6_readInto_17 : decode cX6_readInto 17 = .ok (.getfield 15, 3) := by decide +kernel
theorem dX6_readInto_20 : decode cX6_readInto 20 = .ok (.if_icmp .ge 49, 3) := by decide +kernel
theorem dX6_readInto_23 : decode cX6_readInto 23 = .ok (.aload_n 0, 1) := by decide +kernel
theorem dX6_readInto_24 : decode cX6_readInto 24 = .ok (.bipush 59, 2) := by decide +kernel
theorem dX6_readInto_26 : decode cX6_readInto 26 = .ok (.iload_n 2, 1) := by decide +kernel
theorem dX6_readInto_27 : decode cX6_readInto 27 = .ok (.aload_n 0, 1) := by decide +kernel
theorem dX6_readInto_28 : decode cX6_readInto 28 = .ok (.getfield 15, 3) := by decide +kernel
theorem dX6_readInto_31 : decode cX6_readInto 31 = .ok (.invokevirtual 24, 3) := by decide +kernel
theorem dX6_readInto_34 : decode cX6_readInto 34 = .ok (.istore 4, 2) := by decide +kernel
theorem dX6_readInto_36 : decode cX6_readInto 36 = .ok (.iload 4, 2) := by decide +kernel
theorem dX6_readInto_38 : decode cX6_readInto 38 = .ok (.aload_n 0, 1) := by decide +kernel
theorem dX6_readInto_39 : decode cX6_readInto 39 = .ok (.getfield 15, 3) := by decide +kernel
theorem dX6_readInto_42 : decode cX6_readInto 42 = .ok (.if_icmp .eq 14, 3) := by decide +kernel
theorem dX6_readInto_45 : decode cX6_readInto 45 = .ok (.aload_n 0, 1) := by decide +kernel
theorem dX6_readInto_46 : decode cX6_readInto 46 = .ok (.aload_n 1, 1) := by decide +kernel
theorem dX6_readInto_47 : decode cX6_readInto 47 = .ok (.iload_n 2, 1) := by decide +kernel
theorem dX6_readInto_48 : decode cX6_readInto 48 = .ok (.iload 4, 2) := by decide +kernel
theorem dX6_readInto_50 : decode cX6_readInto 50 = .ok (.invokevirtual 28, 3) := by decide +kernel
theorem dX6_readInto_53 : decode cX6_readInto 53 = .ok (.ifCond .ne 5, 3) := by decide +kernel
theorem dX6_readInto_56 : decode cX6_readInto 56 = .ok (.iload_n 2, 1) := by decide +kernel
theorem dX6_readInto_57 : decode cX6_readInto 57 = .ok (.ireturn, 1) := by decide +kernel
theorem dX6_readInto_58 : decode cX6_readInto 58 = .ok (.iload 4, 2) := by decide +kernel
theorem dX6_readInto_60 : decode cX6_readInto 60 = .ok (.iconst 1, 1) := by decide +kernel
theorem dX6_readInto_61 : decode cX6_readInto 61 = .ok (.iadd, 1) := by decide +kernel
theorem dX6_readInto_62 : decode cX6_readInto 62 = .ok (.istore_n 2, 1) := by decide +kernel
theorem dX6_readInto_63 : decode cX6_readInto 63 = .ok (.iinc 3 1, 3) := by decide +kernel
theorem dX6_readInto_66 : decode cX6_readInto 66 = .ok (.goto (-58), 3) := by decide +kernel
theorem dX6_readInto_69 : decode cX6_readInto 69 = .ok (.bipush (-4), 2) := by decide +kernel
theorem dX6_readInto_71 : decode cX6_readInto 71 = .ok (.ireturn, 1) := by decide +kernel
theorem dX6_takeItem_0 : decode cX6_takeItem 0 = .ok (.aload_n 0, 1) := by decide +kernel
theorem dX6_takeItem_1 : decode cX6_takeItem 1 = .ok (.getfield 9, 3) := by decide +kernel
theorem dX6_takeItem_4 : decode cX6_takeItem 4 = .ok (.iload_n 2, 1) := by decide +kernel
theorem dX6_takeItem_5 : decode cX6_takeItem 5 = .ok (.baload, 1) := by decide +kernel
theorem dX6_takeItem_6 : decode cX6_takeItem 6 = .ok (.istore 4, 2) := by decide +kernel
theorem dX6_takeItem_8 : decode cX6_takeItem 8 = .ok (.iload_n 2, 1) := by decide +kernel
theorem dX6_takeItem_9 : decode cX6_takeItem 9 = .ok (.iconst 1, 1) := by decide +kernel
theorem dX6_takeItem_10 : decode cX6_takeItem 10 = .ok (.iadd, 1) := by decide +kernel
theorem dX6_takeItem_11 : decode cX6_takeItem 11 = .ok (.istore 5, 2) := by decide +kernel
theorem dX6_takeItem_13 : decode cX6_takeItem 13 = .ok (.iload 4, 2) := by decide +kernel
theorem dX6_takeItem_15 : decode cX6_takeItem 15 = .ok (.lookupswitch 110 #[(103, 98), (108, 86), (112, 74), (116, 41)], 41) := by decide +kernel
theorem dX6_takeItem_56 : decode cX6_takeItem 56 = .ok (.aload_n 0, 1) := by decide +kernel
theorem dX6_takeItem_57 : decode cX6_takeItem 57 = .ok (.bipush 44, 2) := by decide +kernel
theorem dX6_takeItem_59 : decode cX6_takeItem 59 = .ok (.iload 5, 2) := by decide +kernel
theorem dX6_takeItem_61 : decode cX6_takeItem 61 = .ok (.iload_n 3, 1) := by decide +kernel
theorem dX6_takeItem_62 : decode cX6_takeItem 62 = .ok (.invokevirtual 24, 3) := by decide +kernel
theorem dX6_takeItem_65 : decode cX6_takeItem 65 = .ok (.istore 6, 2) := by decide +kernel
theorem dX6_takeItem_67 : decode cX6_takeItem 67 = .ok (.aload_n 1, 1) := by decide +kernel
theorem dX6_takeItem_68 : decode cX6_takeItem 68 = .ok (.aload_n 0, 1) := by decide +kernel
theorem dX6_takeItem_69 : decode cX6_takeItem 69 = .ok (.iload 5, 2) := by decide +kernel
theorem dX6_takeItem_71 : decode cX6_takeItem 71 = .ok (.iload 6, 2) := by decide +kernel
theorem dX6_takeItem_73 : decode cX6_takeItem 73 = .ok (.invokevirtual 32, 3) := by decide +kernel
theorem dX6_takeItem_76 : decode cX6_takeItem 76 = .ok (.aload_n 0, 1) := by decide +kernel
theorem dX6_takeItem_77 : decode cX6_takeItem 77 = .ok (.iload 6, 2) := by decide +kernel
theorem dX6_takeItem_79 : decode cX6_takeItem 79 = .ok (.iconst 1, 1) := by decide +kernel
theorem dX6_takeItem_80 : decode cX6_takeItem 80 = .ok (.iadd, 1) := by decide +kernel
theorem dX6_takeItem_81 : decode cX6_takeItem 81 = .ok (.iload_n 3, 1) := by decide +kernel
theorem dX6_takeItem_82 : decode cX6_takeItem 82 = .ok (.invokevirtual 32, 3) := by decide +kernel
theorem dX6_takeItem_85 : decode cX6_takeItem 85 = .ok (.invokevirtual 36, 3) := by decide +kernel
theorem dX6_takeItem_88 : decode cX6_takeItem 88 = .ok (.ireturn, 1) := by decide +kernel
theorem dX6_takeItem_89 : decode cX6_takeItem 89 = .ok (.aload_n 1, 1) := by decide +kernel
theorem dX6_takeItem_90 : decode cX6_takeItem 90 = .ok (.aload_n 0, 1) := by decide +kernel
theorem dX6_takeItem_91 : decode cX6_takeItem 91 = .ok (.getfield 9, 3) := by decide +kernel
theorem dX6_takeItem_94 : decode cX6_takeItem 94 = .ok (.iload 5, 2) := by decide +kernel
theorem dX6_takeItem_96 : decode cX6_takeItem 96 = .ok (.iload_n 3, 1) := by decide +kernel
theorem dX6_takeItem_97 : decode cX6_takeItem 97 = .ok (.invokevirtual 40, 3) := by decide +kernel
theorem dX6_takeItem_100 : decode cX6_takeItem 100 = .ok (.ireturn, 1) := by decide +kernel
theorem dX6_takeItem_101 : decode cX6_takeItem 101 = .ok (.aload_n 1, 1) := by decide +kernel
theorem dX6_takeItem_102 : decode cX6_takeItem 102 = .ok (.aload_n 0, 1) := by decide +kernel
theorem dX6_takeItem_103 : decode cX6_takeItem 103 = .ok (.iload 5, 2) := by decide +kernel
theorem dX6_takeItem_105 : decode cX6_takeItem 105 = .ok (.iload_n 3, 1) := by decide +kernel
theorem dX6_takeItem_106 : decode cX6_takeItem 106 = .ok (.invokevirtual 32, 3) := by decide +kernel
theorem dX6_takeItem_109 : decode cX6_takeItem 109 = .ok (.invokevirtual 44, 3) := by decide +kernel
theorem dX6_takeItem_112 : decode cX6_takeItem 112 = .ok (.ireturn, 1) := by decide +kernel
theorem dX6_takeItem_113 : decode cX6_takeItem 113 = .ok (.aload_n 1, 1) := by decide +kernel
theorem dX6_takeItem_114 : decode cX6_takeItem 114 = .ok (.aload_n 0, 1) := by decide +kernel
theorem dX6_takeItem_115 : decode cX6_takeItem 115 = .ok (.iload 5, 2) := by decide +kernel
theorem dX6_takeItem_117 : decode cX6_takeItem 117 = .ok (.iload_n 3, 1) := by decide +kernel
theorem dX6_takeItem_118 : decode cX6_takeItem 118 = .ok (.invokevirtual 32, 3) := by decide +kernel
theorem dX6_takeItem_121 : decode cX6_takeItem 121 = .ok (.invokevirtual 48, 3) := by decide +kernel
theorem dX6_takeItem_124 : decode cX6_takeItem 124 = .ok (.ireturn, 1) := by decide +kernel
theorem dX6_takeItem_125 : decode cX6_takeItem 125 = .ok (.iconst 0, 1) := by decide +kernel
theorem dX6_takeItem_126 : decode cX6_takeItem 126 = .ok (.ireturn, 1) := by decide +kernel
theorem dX6_find_0 : decode cX6_find 0 = .ok (.iload_n 2, 1) := by decide +kernel
theorem dX6_find_1 : decode cX6_find 1 = .ok (.istore 4, 2) := by decide +kernel
theorem dX6_find_3 : decode cX6_find 3 = .ok (.iload 4, 2) := by decide +kernel
theorem dX6_find_5 : decode cX6_find 5 = .ok (.iload_n 3, 1) := by decide +kernel
theorem dX6_find_6 : decode cX6_find 6 = .ok (.if_icmp .ge 23, 3) := by decide +kernel
theorem dX6_find_9 : decode cX6_find 9 = .ok (.aload_n 0, 1) := by decide +kernel
theorem dX6_find_10 : decode cX6_find 10 = .ok (.getfield 9, 3) := by decide +kernel
theorem dX6_find_13 : decode cX6_find 13 = .ok (.iload 4, 2) := by decide +kernel
theorem dX6_find_15 : decode cX6_find 15 = .ok (.baload, 1) := by decide +kernel
theorem dX6_find_16 : decode cX6_find 16 = .ok (.iload_n 1, 1) := by decide +kernel
theorem dX6_find_17 : decode cX6_find 17 = .ok (.if_icmp .ne 6, 3) := by decide +kernel
theorem dX6_find_20 : decode cX6_find 20 = .ok (.iload 4, 2) := by decide +kernel
theorem dX6_find_22 : decode cX6_find 22 = .ok (.ireturn, 1) := by decide +kernel
theorem dX6_find_23 : decode cX6_find 23 = .ok (.iinc 4 1, 3) := by decide +kernel
theorem dX6_find_26 : decode cX6_find 26 = .ok (.goto (-23), 3) := by decide +kernel
theorem dX6_find_29 : decode cX6_find 29 = .ok (.iload_n 3, 1) := by decide +kernel
theorem dX6_find_30 : decode cX6_find 30 = .ok (.ireturn, 1) := by decide +kernel
theorem dX6_number_0 : decode cX6_number 0 = .ok (.iload_n 2, 1) := by decide +kernel
theorem dX6_number_1 : decode cX6_number 1 = .ok (.iload_n 1, 1) := by decide +kernel
theorem dX6_number_2 : decode cX6_number 2 = .ok (.isub, 1) := by decide +kernel
theorem dX6_number_3 : decode cX6_number 3 = .ok (.iconst 1, 1) := by decide +kernel
theorem dX6_number_4 : decode cX6_number 4 = .ok (.if_icmp .lt 10, 3) := by decide +kernel
theorem dX6_number_7 : decode cX6_number 7 = .ok (.iload_n 2, 1) := by decide +kernel
theorem dX6_number_8 : decode cX6_number 8 = .ok (.iload_n 1, 1) := by decide +kernel
theorem dX6_number_9 : decode cX6_number 9 = .ok (.isub, 1) := by decide +kernel
theorem dX6_number_10 : decode cX6_number 10 = .ok (.iconst 2, 1) := by decide +kernel
theorem dX6_number_11 : decode cX6_number 11 = .ok (.if_icmp .le 5, 3) := by decide +kernel
theorem dX6_number_14 : decode cX6_number 14 = .ok (.iconst (-1), 1) := by decide +kernel
theorem dX6_number_15 : decode cX6_number 15 = .ok (.ireturn, 1) := by decide +kernel
theorem dX6_number_16 : decode cX6_number 16 = .ok (.iconst 0, 1) := by decide +kernel
theorem dX6_number_17 : decode cX6_number 17 = .ok (.istore_n 3, 1) := by decide +kernel
theorem dX6_number_18 : decode cX6_number 18 = .ok (.iload_n 1, 1) := by decide +kernel
theorem dX6_number_19 : decode cX6_number 19 = .ok (.istore 4, 2) := by decide +kernel
theorem dX6_number_21 : decode cX6_number 21 = .ok (.iload 4, 2) := by decide +kernel
theorem dX6_number_23 : decode cX6_number 23 = .ok (.iload_n 2, 1) := by decide +kernel
theorem dX6_number_24 : decode cX6_number 24 = .ok (.if_icmp .ge 51, 3) := by decide +kernel
theorem dX6_number_27 : decode cX6_number 27 = .ok (.aload_n 0, 1) := by decide +kernel
theorem dX6_number_28 : decode cX6_number 28 = .ok (.getfield 9, 3) := by decide +kernel
theorem dX6_number_31 : decode cX6_number 31 = .ok (.iload 4, 2) := by decide +kernel
theorem dX6_number_33 : decode cX6_number 33 = .ok (.baload, 1) := by decide +kernel
theorem dX6_number_34 : decode cX6_number 34 = .ok (.bipush 48, 2) := by decide +kernel
theorem dX6_number_36 : decode cX6_number 36 = .ok (.if_icmp .lt 15, 3) := by decide +kernel
theorem dX6_number_39 : decode cX6_number 39 = .ok (.aload_n 0, 1) := by decide +kernel
theorem dX6_number_40 : decode cX6_number 40 = .ok (.getfield 9, 3) := by decide +kernel
theorem dX6_number_43 : decode cX6_number 43 = .ok (.iload 4, 2) := by decide +kernel
theorem dX6_number_45 : decode cX6_number 45 = .ok (.baload, 1) := by decide +kernel
theorem dX6_number_46 : decode cX6_number 46 = .ok (.bipush 57, 2) := by decide +kernel
theorem dX6_number_48 : decode cX6_number 48 = .ok (.if_icmp .le 5, 3) := by decide +kernel
theorem dX6_number_51 : decode cX6_number 51 = .ok (.iconst (-1), 1) := by decide +kernel
theorem dX6_number_52 : decode cX6_number 52 = .ok (.ireturn, 1) := by decide +kernel
theorem dX6_number_53 : decode cX6_number 53 = .ok (.bipush 10, 2) := by decide +kernel
theorem dX6_number_55 : decode cX6_number 55 = .ok (.iload_n 3, 1) := by decide +kernel
theorem dX6_number_56 : decode cX6_number 56 = .ok (.imul, 1) := by decide +kernel
theorem dX6_number_57 : decode cX6_number 57 = .ok (.aload_n 0, 1) := by decide +kernel
theorem dX6_number_58 : decode cX6_number 58 = .ok (.getfield 9, 3) := by decide +kernel
theorem dX6_number_61 : decode cX6_number 61 = .ok (.iload 4, 2) := by decide +kernel
theorem dX6_number_63 : decode cX6_number 63 = .ok (.baload, 1) := by decide +kernel
theorem dX6_number_64 : decode cX6_number 64 = .ok (.iadd, 1) := by decide +kernel
theorem dX6_number_65 : decode cX6_number 65 = .ok (.bipush 48, 2) := by decide +kernel
theorem dX6_number_67 : decode cX6_number 67 = .ok (.isub, 1) := by decide +kernel
theorem dX6_number_68 : decode cX6_number 68 = .ok (.istore_n 3, 1) := by decide +kernel
theorem dX6_number_69 : decode cX6_number 69 = .ok (.iinc 4 1, 3) := by decide +kernel
theorem dX6_number_72 : decode cX6_number 72 = .ok (.goto (-51), 3) := by decide +kernel
theorem dX6_number_75 : decode cX6_number 75 = .ok (.iload_n 3, 1) := by decide +kernel
theorem dX6_number_76 : decode cX6_number 76 = .ok (.ireturn, 1) := by decide +kernel
theorem dX7_init_0 : decode cX7_init 0 = .ok (.aload_n 0, 1) := by decide +kernel
theorem dX7_init_1 : decode cX7_init 1 = .ok (.invokespecial 3, 3) := by decide +kernel
theorem dX7_init_4 : decode cX7_init 4 = .ok (.aload_n 0, 1) := by decide +kernel
theorem dX7_init_5 : decode cX7_init 5 = .ok (.iconst 5, 1) := by decide +kernel
theorem dX7_init_6 : decode cX7_init 6 = .ok (.newarray .int, 2) := by decide +kernel
theorem dX7_init_8 : decode cX7_init 8 = .ok (.putfield 9, 3) := by decide +kernel
theorem dX7_init_11 : decode cX7_init 11 = .ok (.aload_n 0, 1) := by decide +kernel
theorem dX7_init_12 : decode cX7_init 12 = .ok (.bipush 9, 2) := by decide +kernel
theorem dX7_init_14 : decode cX7_init 14 = .ok (.newarray .int, 2) := by decide +kernel
theorem dX7_init_16 : decode cX7_init 16 = .ok (.putfield 15, 3) := by decide +kernel
theorem dX7_init_19 : decode cX7_init 19 = .ok (.aload_n 0, 1) := by decide +kernel
theorem dX7_init_20 : decode cX7_init 20 = .ok (.bipush 16, 2) := by decide +kernel
theorem dX7_init_22 : decode cX7_init 22 = .ok (.newarray .int, 2) := by decide +kernel
theorem dX7_init_24 : decode cX7_init 24 = .ok (.putfield 18, 3) := by decide +kernel
theorem dX7_init_27 : decode cX7_init 27 = .ok (.return_, 1) := by decide +kernel
theorem dX7_clear_0 : decode cX7_clear 0 = .ok (.aload_n 0, 1) := by decide +kernel
theorem dX7_clear_1 : decode cX7_clear 1 = .ok (.iconst 0, 1) := by decide +kernel
theorem dX7_clear_2 : decode cX7_clear 2 = .ok (.putfield 21, 3) := by decide +kernel
theorem dX7_clear_5 : decode cX7_clear 5 = .ok (.aload_n 0, 1) := by decide +kernel
theorem dX7_clear_6 : decode cX7_clear 6 = .ok (.iconst 0, 1) := by decide +kernel
theorem dX7_clear_7 : decode cX7_clear 7 = .ok (.putfield 25, 3) := by decide +kernel
theorem dX7_clear_10 : decode cX7_clear 10 = .ok (.aload_n 0, 1) := by decide +kernel
theorem dX7_clear_11 : decode cX7_clear 11 = .ok (.iconst 0, 1) := by decide +kernel
theorem dX7_clear_12 : decode cX7_clear 12 = .ok (.putfield 28, 3) := by decide +kernel
theorem dX7_clear_15 : decode cX7_clear 15 = .ok (.aload_n 0, 1) := by decide +kernel
theorem dX7_clear_16 : decode cX7_clear 16 = .ok (.getfield 18, 3) := by decide +kernel
theorem dX7_clear_19 : decode cX7_clear 19 = .ok (.iconst 0, 1) := by decide +kernel
theorem dX7_clear_20 : decode cX7_clear 20 = .ok (.iconst 0, 1) := by decide +kernel
theorem dX7_clear_21 : decode cX7_clear 21 = .ok (.iastore, 1) := by decide +kernel
theorem dX7_clear_22 : decode cX7_clear 22 = .ok (.aload_n 0, 1) := by decide +kernel
theorem dX7_clear_23 : decode cX7_clear 23 = .ok (.iconst 1, 1) := by decide +kernel
theorem dX7_clear_24 : decode cX7_clear 24 = .ok (.putfield 31, 3) := by decide +kernel
theorem dX7_clear_27 : decode cX7_clear 27 = .ok (.aload_n 0, 1) := by decide +kernel
theorem dX7_clear_28 : decode cX7_clear 28 = .ok (.iconst 0, 1) := by decide +kernel
theorem dX7_clear_29 : decode cX7_clear 29 = .ok (.putfield 34, 3) := by decide +kernel
theorem dX7_clear_32 : decode cX7_clear 32 = .ok (.aload_n 0, 1) := by decide +kernel
theorem dX7_clear_33 : decode cX7_clear 33 = .ok (.bipush 31, 2) := by decide +kernel
theorem dX7_clear_35 : decode cX7_clear 35 = .ok (.putfield 37, 3) := by decide +kernel
theorem dX7_clear_38 : decode cX7_clear 38 = .ok (.return_, 1) := by decide +kernel
theorem dX7_takeThing_0 : decode cX7_takeThing 0 = .ok (.iload_n 1, 1) := by decide +kernel
theorem dX7_takeThing_1 : decode cX7_takeThing 1 = .ok (.iconst 1, 1) := by decide +kernel
theorem dX7_takeThing_2 : decode cX7_takeThing 2 = .ok (.if_icmp .lt 32, 3) := by decide +kernel
theorem dX7_takeThing_5 : decode cX7_takeThing 5 = .ok (.iload_n 1, 1) := by decide +kernel
theorem dX7_takeThing_6 : decode cX7_takeThing 6 = .ok (.iconst 4, 1) := by decide +kernel
theorem dX7_takeThing_7 : decode cX7_takeThing 7 = .ok (.if_icmp .gt 27, 3) := by decide +kernel
theorem dX7_takeThing_10 : decode cX7_takeThing 10 = .ok (.iload_n 2, 1) := by decide +kernel
theorem dX7_takeThing_11 : decode cX7_takeThing 11 = .ok (.ifCond .lt 23, 3) := by decide +kernel
theorem dX7_takeThing_14 : decode cX7_takeThing 14 = .ok (.iload_n 2, 1) := by decide +kernel
theorem dX7_takeThing_15 : decode cX7_takeThing 15 = .ok (.iconst 1, 1) := by decide +kernel
theorem dX7_takeThing_16 : decode cX7_takeThing 16 = .ok (.if_icmp .gt 18, 3) := by decide +kernel
theorem dX7_takeThing_19 : decode cX7_takeThing 19 = .ok (.aload_n 0, 1) := by decide +kernel
theorem dX7_takeThing_20 : decode cX7_takeThing 20 = .ok (.getfield 21, 3) := by decide +kernel
theorem dX7_takeThing_23 : decode cX7_takeThing 23 = .ok (.iconst 5, 1) := by decide +kernel
theorem dX7_takeThing_24 : decode cX7_takeThing 24 = .ok (.if_icmp .ge 10, 3) := by decide +kernel
theorem dX7_takeThing_27 : decode cX7_takeThing 27 = .ok (.aload_n 0, 1) := by decide +kernel
theorem dX7_takeThing_28 : decode cX7_takeThing 28 = .ok (.getfield 25, 3) := by decide +kernel
theorem dX7_takeThing_31 : decode cX7_takeThing 31 = .ok (.ifCond .le 5, 3) := by decide +kernel
theorem dX7_takeThing_34 : decode cX7_takeThing 34 = .ok (.iconst 0, 1) := by decide +kernel
theorem dX7_takeThing_35 : decode cX7_takeThing 35 = .ok (.ireturn, 1) := by decide +kernel
theorem dX7_takeThing_36 : decode cX7_takeThing 36 = .ok (.iload_n 2, 1) := by decide +kernel
theorem dX7_takeThing_37 : decode cX7_takeThing 37 = .ok (.iconst 1, 1) := by decide +kernel
theorem dX7_takeThing_38 : decode cX7_takeThing 38 = .ok (.if_icmp .ne 13, 3) := by decide +kernel
theorem dX7_takeThing_41 : decode cX7_takeThing 41 = .ok (.aload_n 0, 1) := by decide +kernel
theorem dX7_takeThing_42 : decode cX7_takeThing 42 = .ok (.iload_n 1, 1) := by decide +kernel
theorem dX7_takeThing_43 : decode cX7_takeThing 43 = .ok (.invokevirtual 40, 3) := by decide +kernel
theorem dX7_takeThing_46 : decode cX7_takeThing 46 = .ok (.ifCond .ne 5, 3) := by decide +kernel
theorem dX7_takeThing_49 : decode cX7_takeThing 49 = .ok (.iconst 0, 1) := by decide +kernel
theorem dX7_takeThing_50 : decode cX7_takeThing 50 = .ok (.ireturn, 1) := by decide +kernel
theorem dX7_takeThing_51 : decode cX7_takeThing 51 = .ok (.aload_n 0, 1) := by decide +kernel
theorem dX7_takeThing_52 : decode cX7_takeThing 52 = .ok (.getfield 9, 3) := by decide +kernel
theorem dX7_takeThing_55 : decode cX7_takeThing 55 = .ok (.aload_n 0, 1) := by decide +kernel
theorem dX7_takeThing_56 : decode cX7_takeThing 56 = .ok (.getfield 21, 3) := by decide +kernel
theorem dX7_takeThing_59 : decode cX7_takeThing 59 = .ok (.iload_n 1, 1) := by decide +kernel
theorem dX7_takeThing_60 : decode cX7_takeThing 60 = .ok (.iastore, 1) := by decide +kernel
theorem dX7_takeThing_61 : decode cX7_takeThing 61 = .ok (.aload_n 0, 1) := by decide +kernel
theorem dX7_takeThing_62 : decode cX7_takeThing 62 = .ok (.dup, 1) := by decide +kernel
theorem dX7_takeThing_63 : decode cX7_takeThing 63 = .ok (.getfield 21, 3) := by decide +kernel
theorem dX7_takeThing_66 : decode cX7_takeThing 66 = .ok (.iconst 1, 1) := by decide +kernel
theorem dX7_takeThing_67 : decode cX7_takeThing 67 = .ok (.iadd, 1) := by decide +kernel
theorem dX7_takeThing_68 : decode cX7_takeThing 68 = .ok (.putfield 21, 3) := by decide +kernel
theorem dX7_takeThing_71 : decode cX7_takeThing 71 = .ok (.iconst 1, 1) := by decide +kernel
theorem dX7_takeThing_72 : decode cX7_takeThing 72 = .ok (.ireturn, 1) := by decide +kernel
theorem dX7_takeBorrowed_0 : decode cX7_takeBorrowed 0 = .ok (.aload_n 0, 1) := by decide +kernel
theorem dX7_takeBorrowed_1 : decode cX7_takeBorrowed 1 = .ok (.getfield 28, 3) := by decide +kernel
theorem dX7_takeBorrowed_4 : decode cX7_takeBorrowed 4 = .ok (.invokestatic 44, 3) := by decide +kernel
theorem dX7_takeBorrowed_7 : decode cX7_takeBorrowed 7 = .ok (.iconst 2, 1) := by decide +kernel
theorem dX7_takeBorrowed_8 : decode cX7_takeBorrowed 8 = .ok (.if_icmp .ge 14, 3) := by decide +kernel
theorem dX7_takeBorrowed_11 : decode cX7_takeBorrowed 11 = .ok (.aload_n 0, 1) := by decide +kernel
theorem dX7_takeBorrowed_12 : decode cX7_takeBorrowed 12 = .ok (.getfield 31, 3) := by decide +kernel
theorem dX7_takeBorrowed_15 : decode cX7_takeBorrowed 15 = .ok (.iload_n 1, 1) := by decide +kernel
theorem dX7_takeBorrowed_16 : decode cX7_takeBorrowed 16 = .ok (.imul, 1) := by decide +kernel
theorem dX7_takeBorrowed_17 : decode cX7_takeBorrowed 17 = .ok (.bipush 16, 2) := by decide +kernel
theorem dX7_takeBorrowed_19 : decode cX7_takeBorrowed 19 = .ok (.if_icmp .le 5, 3) := by decide +kernel
theorem dX7_takeBorrowed_22 : decode cX7_takeBorrowed 22 = .ok (.iconst 0, 1) := by decide +kernel
theorem dX7_takeBorrowed_23 : decode cX7_takeBorrowed 23 = .ok (.ireturn, 1) := by decide +kernel
theorem dX7_takeBorrowed_24 : decode cX7_takeBorrowed 24 = .ok (.aload_n 0, 1) := by decide +kernel
theorem dX7_takeBorrowed_25 : decode cX7_takeBorrowed 25 = .ok (.dup, 1) := by decide +kernel
theorem dX7_takeBorrowed_26 : decode cX7_takeBorrowed 26 = .ok (.getfield 28, 3) := by decide +kernel
theorem dX7_takeBorrowed_29 : decode cX7_takeBorrowed 29 = .ok (.iconst 1, 1) := by decide +kernel
theorem dX7_takeBorrowed_30 : decode cX7_takeBorrowed 30 = .ok (.aload_n 0, 1) := by decide +kernel
theorem dX7_takeBorrowed_31 : decode cX7_takeBorrowed 31 = .ok (.getfield 21, 3) := by decide +kernel
theorem dX7_takeBorrowed_34 : decode cX7_takeBorrowed 34 = .ok (.ishl, 1) := by decide +kernel
theorem dX7_takeBorrowed_35 : decode cX7_takeBorrowed 35 = .ok (.ior, 1) := by decide +kernel
theorem dX7_takeBorrowed_36 : decode cX7_takeBorrowed 36 = .ok (.putfield 28, 3) := by decide +kernel
theorem dX7_takeBorrowed_39 : decode cX7_takeBorrowed 39 = .ok (.aload_n 0, 1) := by decide +kernel
theorem dX7_takeBorrowed_40 : decode cX7_takeBorrowed 40 = .ok (.getfield 31, 3) := by decide +kernel
theorem dX7_takeBorrowed_43 : decode cX7_takeBorrowed 43 = .ok (.iconst 1, 1) := by decide +kernel
theorem dX7_takeBorrowed_44 : decode cX7_takeBorrowed 44 = .ok (.isub, 1) := by decide +kernel
theorem dX7_takeBorrowed_45 : decode cX7_takeBorrowed 45 = .ok (.istore_n 2, 1) := by decide +kernel
theorem dX7_takeBorrowed_46 : decode cX7_takeBorrowed 46 = .ok (.iload_n 2, 1) := by decide +kernel
theorem dX7_takeBorrowed_47 : decode cX7_takeBorrowed 47 = .ok (.ifCond .lt 53, 3) := by decide +kernel
theorem dX7_takeBorrowed_50 : decode cX7_takeBorrowed 50 = .ok (.aload_n 0, 1) := by decide +kernel
theorem dX7_takeBorrowed_51 : decode cX7_takeBorrowed 51 = .ok (.getfield 18, 3) := by decide +kernel
theorem dX7_takeBorrowed_54 : decode cX7_takeBorrowed 54 = .ok (.iload_n 2, 1) := by decide +kernel
theorem dX7_takeBorrowed_55 : decode cX7_takeBorrowed 55 = .ok (.iaload, 1) := by decide +kernel
theorem dX7_takeBorrowed_56 : decode cX7_takeBorrowed 56 = .ok (.istore_n 3, 1) := by decide +kernel
theorem dX7_takeBorrowed_57 : decode cX7_takeBorrowed 57 = .ok (.iconst 0, 1) := by decide +kernel
theorem dX7_takeBorrowed_58 : decode cX7_takeBorrowed 58 = .ok (.istore 4, 2) := by decide +kernel
theorem dX7_takeBorrowed_60 : decode cX7_takeBorrowed 60 = .ok (.iload 4, 2) := by decide +kernel
theorem dX7_takeBorrowed_62 : decode cX7_takeBorrowed 62 = .ok (.iload_n 1, 1) := by decide +kernel
theorem dX7_takeBorrowed_63 : decode cX7_takeBorrowed 63 = .ok (.if_icmp .ge 31, 3) := by decide +kernel
theorem dX7_takeBorrowed_66 : decode cX7_takeBorrowed 66 = .ok (.aload_n 0, 1) := by decide +kernel
theorem dX7_takeBorrowed_67 : decode cX7_takeBorrowed 67 = .ok (.getfield 18, 3) := by decide +kernel
theorem dX7_takeBorrowed_70 : decode cX7_takeBorrowed 70 = .ok (.iload_n 2, 1) := by decide +kernel
theorem dX7_takeBorrowed_71 : decode cX7_takeBorrowed 71 = .ok (.iload_n 1, 1) := by decide +kernel
theorem dX7_takeBorrowed_72 : decode cX7_takeBorrowed 72 = .ok (.imul, 1) := by decide +kernel
theorem dX7_takeBorrowed_73 : decode cX7_takeBorrowed 73 = .ok (.iload 4, 2) := by decide +kernel
theorem dX7_takeBorrowed_75 : decode cX7_takeBorrowed 75 = .ok (.iadd, 1) := by decide +kernel
theorem dX7_takeBorrowed_76 : decode cX7_takeBorrowed 76 = .ok (.iload_n 3, 1) := by decide +kernel
theorem dX7_takeBorrowed_77 : decode cX7_takeBorrowed 77 = .ok (.aload_n 0, 1) := by decide +kernel
theorem dX7_takeBorrowed_78 : decode cX7_takeBorrowed 78 = .ok (.getfield 21, 3) := by decide +kernel
theorem dX7_takeBorrowed_81 : decode cX7_takeBorrowed 81 = .ok (.iload 4, 2) := by decide +kernel
theorem dX7_takeBorrowed_83 : decode cX7_takeBorrowed 83 = .ok (.invokestatic 50, 3) := by decide +kernel
theorem dX7_takeBorrowed_86 : decode cX7_takeBorrowed 86 = .ok (.ior, 1) := by decide +kernel
theorem dX7_takeBorrowed_87 : decode cX7_takeBorrowed 87 = .ok (.iastore, 1) := by decide +kernel
theorem dX7_takeBorrowed_88 : decode cX7_takeBorrowed 88 = .ok (.iinc 4 1, 3) := by decide +kernel
theorem dX7_takeBorrowed_91 : decode cX7_takeBorrowed 91 = .ok (.goto (-31), 3) := by decide +kernel
theorem dX7_takeBorrowed_94 : decode cX7_takeBorrowed 94 = .ok (.iinc 2 (-1), 3) := by decide +kernel
theorem dX7_takeBorrowed_97 : decode cX7_takeBorrowed 97 = .ok (.goto (-51), 3) := by decide +kernel
theorem dX7_takeBorrowed_100 : decode cX7_takeBorrowed 100 = .ok (.aload_n 0, 1) := by decide +kernel
theorem dX7_takeBorrowed_101 : decode cX7_takeBorrowed 101 = .ok (.dup, 1) := by decide +kernel
theorem dX7_takeBorrowed_102 : decode cX7_takeBorrowed 102 = .ok (.getfield 31, 3) := by decide +kernel
theorem dX7_takeBorrowed_105 : decode cX7_takeBorrowed 105 = .ok (.iload_n 1, 1) := by decide +kernel
theorem dX7_takeBorrowed_106 : decode cX7_takeBorrowed 106 = .ok (.imul, 1) := by decide +kernel
theorem dX7_takeBorrowed_107 : decode cX7_takeBorrowed 107 = .ok (.putfield 31, 3) := by decide +kernel
theorem dX7_takeBorrowed_110 : decode cX7_takeBorrowed 110 = .ok (.iconst 1, 1) := by decide +kernel
theorem dX7_takeBorrowed_111 : decode cX7_takeBorrowed 111 = .ok (.ireturn, 1) := by decide +kernel
theorem dX7_takePerson_0 : decode cX7_takePerson 0 = .ok (.aload_n 0, 1) := by decide +kernel
theorem dX7_takePerson_1 : decode cX7_takePerson 1 = .ok (.getfield 21, 3) := by decide +kernel
theorem dX7_takePerson_4 : decode cX7_takePerson 4 = .ok (.iconst 1, 1) := by decide +kernel
theorem dX7_takePerson_5 : decode cX7_takePerson 5 = .ok (.if_icmp .lt 22, 3) := by decide +kernel
theorem dX7_takePerson_8 : decode cX7_takePerson 8 = .ok (.iload_n 3, 1) := by decide +kernel
theorem dX7_takePerson_9 : decode cX7_takePerson 9 = .ok (.iload_n 2, 1) := by decide +kernel
theorem dX7_takePerson_10 : decode cX7_takePerson 10 = .ok (.isub, 1) := by decide +kernel
theorem dX7_takePerson_11 : decode cX7_takePerson 11 = .ok (.aload_n 0, 1) := by decide +kernel
theorem dX7_takePerson_12 : decode cX7_takePerson 12 = .ok (.getfield 21, 3) := by decide +kernel
theorem dX7_takePerson_15 : decode cX7_takePerson 15 = .ok (.if_icmp .ne 12, 3) := by decide +kernel
theorem dX7_takePerson_18 : decode cX7_takePerson 18 = .ok (.aload_n 0, 1) := by decide +kernel
theorem dX7_takePerson_19 : decode cX7_takePerson 19 = .ok (.getfield 25, 3) := by decide +kernel
theorem dX7_takePerson_22 : decode cX7_takePerson 22 = .ok (.bipush 9, 2) := by decide +kernel
theorem dX7_takePerson_24 : decode cX7_takePerson 24 = .ok (.if_icmp .lt 5, 3) := by decide +kernel
theorem dX7_takePerson_27 : decode cX7_takePerson 27 = .ok (.iconst 0, 1) := by decide +kernel
theorem dX7_takePerson_28 : decode cX7_takePerson 28 = .ok (.ireturn, 1) := by decide +kernel
theorem dX7_takePerson_29 : decode cX7_takePerson 29 = .ok (.iconst 0, 1) := by decide +kernel
theorem dX7_takePerson_30 : decode cX7_takePerson 30 = .ok (.istore 4, 2) := by decide +kernel
theorem dX7_takePerson_32 : decode cX7_takePerson 32 = .ok (.iconst 0, 1) := by decide +kernel
theorem dX7_takePerson_33 : decode cX7_takePerson 33 = .ok (.istore 5, 2) := by decide +kernel
theorem dX7_takePerson_35 : decode cX7_takePerson 35 = .ok (.iload 5, 2) := by decide +kernel
theorem dX7_takePerson_37 : decode cX7_takePerson 37 = .ok (.aload_n 0, 1) := by decide +kernel
theorem dX7_takePerson_38 : decode cX7_takePerson 38 = .ok (.getfield 21, 3) := by decide +kernel
theorem dX7_takePerson_41 : decode cX7_takePerson 41 = .ok (.if_icmp .ge 51, 3) := by decide +kernel
theorem dX7_takePerson_44 : decode cX7_takePerson 44 = .ok (.aload_n 1, 1) := by decide +kernel
theorem dX7_takePerson_45 : decode cX7_takePerson 45 = .ok (.iload_n 2, 1) := by decide +kernel
theorem dX7_takePerson_46 : decode cX7_takePerson 46 = .ok (.iload 5, 2) := by decide +kernel
theorem dX7_takePerson_48 : decode cX7_takePerson 48 = .ok (.iadd, 1) := by decide +kernel
theorem dX7_takePerson_49 : decode cX7_takePerson 49 = .ok (.baload, 1) := by decide +kernel
theorem dX7_takePerson_50 : decode cX7_takePerson 50 = .ok (.bipush 48, 2) := by decide +kernel
theorem dX7_takePerson_52 : decode cX7_takePerson 52 = .ok (.isub, 1) := by decide +kernel
theorem dX7_takePerson_53 : decode cX7_takePerson 53 = .ok (.istore 6, 2) := by decide +kernel
theorem dX7_takePerson_55 : decode cX7_takePerson 55 = .ok (.iload 6, 2) := by decide +kernel
theorem dX7_takePerson_57 : decode cX7_takePerson 57 = .ok (.ifCond .lt 15, 3) := by decide +kernel
theorem dX7_takePerson_60 : decode cX7_takePerson 60 = .ok (.iload 6, 2) := by decide +kernel
theorem dX7_takePerson_62 : decode cX7_takePerson 62 = .ok (.aload_n 0, 1) := by decide +kernel
theorem dX7_takePerson_63 : decode cX7_takePerson 63 = .ok (.getfield 9, 3) := by decide +kernel
theorem dX7_takePerson_66 : decode cX7_takePerson 66 = .ok (.iload 5, 2) := by decide +kernel
theorem dX7_takePerson_68 : decode cX7_takePerson 68 = .ok (.iaload, 1) := by decide +kernel
theorem dX7_takePerson_69 : decode cX7_takePerson 69 = .ok (.if_icmp .lt 5, 3) := by decide +kernel
theorem dX7_takePerson_72 : decode cX7_takePerson 72 = .ok (.iconst 0, 1) := by decide +kernel
theorem dX7_takePerson_73 : decode cX7_takePerson 73 = .ok (.ireturn, 1) := by decide +kernel
theorem dX7_takePerson_74 : decode cX7_takePerson 74 = .ok (.iload 4, 2) := by decide +kernel
theorem dX7_takePerson_76 : decode cX7_takePerson 76 = .ok (.iload 5, 2) := by decide +kernel
theorem dX7_takePerson_78 : decode cX7_takePerson 78 = .ok (.iload 6, 2) := by decide +kernel
theorem dX7_takePerson_80 : decode cX7_takePerson 80 = .ok (.invokestatic 50, 3) := by decide +kernel
theorem dX7_takePerson_83 : decode cX7_takePerson 83 = .ok (.ior, 1) := by decide +kernel
theorem dX7_takePerson_84 : decode cX7_takePerson 84 = .ok (.istore 4, 2) := by decide +kernel
theorem dX7_takePerson_86 : decode cX7_takePerson 86 = .ok (.iinc 5 1, 3) := by decide +kernel
theorem dX7_takePerson_89 : decode cX7_takePerson 89 = .ok (.goto (-54), 3) := by decide +kernel
theorem dX7_takePerson_92 : decode cX7_takePerson 92 = .ok (.aload_n 0, 1) := by decide +kernel
theorem dX7_takePerson_93 : decode cX7_takePerson 93 = .ok (.getfield 15, 3) := by decide +kernel
theorem dX7_takePerson_96 : decode cX7_takePerson 96 = .ok (.aload_n 0, 1) := by decide +kernel
theorem dX7_takePerson_97 : decode cX7_takePerson 97 = .ok (.getfield 25, 3) := by decide +kernel
theorem dX7_takePerson_100 : decode cX7_takePerson 100 = .ok (.iload 4, 2) := by decide +kernel
theorem dX7_takePerson_102 : decode cX7_takePerson 102 = .ok (.iastore, 1) := by decide +kernel
theorem dX7_takePerson_103 : decode cX7_takePerson 103 = .ok (.aload_n 0, 1) := by decide +kernel
theorem dX7_takePerson_104 : decode cX7_takePerson 104 = .ok (.dup, 1) := by decide +kernel
theorem dX7_takePerson_105 : decode cX7_takePerson 105 = .ok (.getfield 25, 3) := by decide +kernel
theorem dX7_takePerson_108 : decode cX7_takePerson 108 = .ok (.iconst 1, 1) := by decide +kernel
theorem dX7_takePerson_109 : decode cX7_takePerson 109 = .ok (.iadd, 1) := by decide +kernel
theorem dX7_takePerson_110 : decode cX7_takePerson 110 = .ok (.putfield 25, 3) := by decide +kernel
theorem dX7_takePerson_113 : decode cX7_takePerson 113 = .ok (.iconst 1, 1) := by decide +kernel
theorem dX7_takePerson_114 : decode cX7_takePerson 114 = .ok (.ireturn, 1) := by decide +kernel
theorem dX7_takeLaw_0 : decode cX7_takeLaw 0 = .ok (.iload_n 1, 1) := by decide +kernel
theorem dX7_takeLaw_1 : decode cX7_takeLaw 1 = .ok (.ifCond .lt 8, 3) := by decide +kernel
theorem dX7_takeLaw_4 : decode cX7_takeLaw 4 = .ok (.iload_n 1, 1) := by decide +kernel
theorem dX7_takeLaw_5 : decode cX7_takeLaw 5 = .ok (.iconst 3, 1) := by decide +kernel
theorem dX7_takeLaw_6 : decode cX7_takeLaw 6 = .ok (.if_icmp .le 5, 3) := by decide +kernel
theorem dX7_takeLaw_9 : decode cX7_takeLaw 9 = .ok (.iconst 0, 1) := by decide +kernel
theorem dX7_takeLaw_10 : decode cX7_takeLaw 10 = .ok (.ireturn, 1) := by decide +kernel
theorem dX7_takeLaw_11 : decode cX7_takeLaw 11 = .ok (.aload_n 0, 1) := by decide +kernel
theorem dX7_takeLaw_12 : decode cX7_takeLaw 12 = .ok (.iload_n 1, 1) := by decide +kernel
theorem dX7_takeLaw_13 : decode cX7_takeLaw 13 = .ok (.putfield 34, 3) := by decide +kernel
theorem dX7_takeLaw_16 : decode cX7_takeLaw 16 = .ok (.iconst 1, 1) := by decide +kernel
theorem dX7_takeLaw_17 : decode cX7_takeLaw 17 = .ok (.ireturn, 1) := by decide +kernel
theorem dX7_takeGuard_0 : decode cX7_takeGuard 0 = .ok (.iload_n 1, 1) := by decide +kernel
theorem dX7_takeGuard_1 : decode cX7_takeGuard 1 = .ok (.ifCond .lt 9, 3) := by decide +kernel
theorem dX7_takeGuard_4 : decode cX7_takeGuard 4 = .ok (.iload_n 1, 1) := by decide +kernel
theorem dX7_takeGuard_5 : decode cX7_takeGuard 5 = .ok (.bipush 31, 2) := by decide +kernel
theorem dX7_takeGuard_7 : decode cX7_takeGuard 7 = .ok (.if_icmp .le 5, 3) := by decide +kernel
theorem dX7_takeGuard_10 : decode cX7_takeGuard 10 = .ok (.iconst 0, 1) := by decide +kernel
theorem dX7_takeGuard_11 : decode cX7_takeGuard 11 = .ok (.ireturn, 1) := by decide +kernel
theorem dX7_takeGuard_12 : decode cX7_takeGuard 12 = .ok (.aload_n 0, 1) := by decide +kernel
theorem dX7_takeGuard_13 : decode cX7_takeGuard 13 = .ok (.iload_n 1, 1) := by decide +kernel
theorem dX7_takeGuard_14 : decode cX7_takeGuard 14 = .ok (.putfield 37, 3) := by decide +kernel
theorem dX7_takeGuard_17 : decode cX7_takeGuard 17 = .ok (.iconst 1, 1) := by decide +kernel
theorem dX7_takeGuard_18 : decode cX7_takeGuard 18 = .ok (.ireturn, 1) := by decide +kernel
theorem dX7_hasPerson_0 : decode cX7_hasPerson 0 = .ok (.iload_n 1, 1) := by decide +kernel
theorem dX7_hasPerson_1 : decode cX7_hasPerson 1 = .ok (.ifCond .lt 15, 3) := by decide +kernel
theorem dX7_hasPerson_4 : decode cX7_hasPerson 4 = .ok (.iload_n 1, 1) := by decide +kernel
theorem dX7_hasPerson_5 : decode cX7_hasPerson 5 = .ok (.aload_n 0, 1) := by decide +kernel
theorem dX7_hasPerson_6 : decode cX7_hasPerson 6 = .ok (.getfield 25, 3) := by decide +kernel
theorem dX7_hasPerson_9 : decode cX7_hasPerson 9 = .ok (.if_icmp .ge 7, 3) := by decide +kernel
theorem dX7_hasPerson_12 : decode cX7_hasPerson 12 = .ok (.iconst 1, 1) := by decide +kernel
theorem dX7_hasPerson_13 : decode cX7_hasPerson 13 = .ok (.goto 4, 3) := by decide +kernel
theorem dX7_hasPerson_16 : decode cX7_hasPerson 16 = .ok (.iconst 0, 1) := by decide +kernel
theorem dX7_hasPerson_17 : decode cX7_hasPerson 17 = .ok (.ireturn, 1) := by decide +kernel
theorem dX7_hasThing_0 : decode cX7_hasThing 0 = .ok (.iload_n 1, 1) := by decide +kernel
theorem dX7_hasThing_1 : decode cX7_hasThing 1 = .ok (.ifCond .lt 15, 3) := by decide +kernel
theorem dX7_hasThing_4 : decode cX7_hasThing 4 = .ok (.iload_n 1, 1) := by decide +kernel
theorem dX7_hasThing_5 : decode cX7_hasThing 5 = .ok (.aload_n 0, 1) := by decide +kernel
theorem dX7_hasThing_6 : decode cX7_hasThing 6 = .ok (.getfield 21, 3) := by decide +kernel
theorem dX7_hasThing_9 : decode cX7_hasThing 9 = .ok (.if_icmp .ge 7, 3) := by decide +kernel
theorem dX7_hasThing_12 : decode cX7_hasThing 12 = .ok (.iconst 1, 1) := by decide +kernel
theorem dX7_hasThing_13 : decode cX7_hasThing 13 = .ok (.goto 4, 3) := by decide +kernel
theorem dX7_hasThing_16 : decode cX7_hasThing 16 = .ok (.iconst 0, 1) := by decide +kernel
theorem dX7_hasThing_17 : decode cX7_hasThing 17 = .ok (.ireturn, 1) := by decide +kernel
theorem dX7_allThings_0 : decode cX7_allThings 0 = .ok (.iconst 1, 1) := by decide +kernel
theorem dX7_allThings_1 : decode cX7_allThings 1 = .ok (.aload_n 0, 1) := by decide +kernel
theorem dX7_allThings_2 : decode cX7_allThings 2 = .ok (.getfield 21, 3) := by decide +kernel
theorem dX7_allThings_5 : decode cX7_allThings 5 = .ok (.ishl, 1) := by decide +kernel
theorem dX7_allThings_6 : decode cX7_allThings 6 = .ok (.iconst 1, 1) := by decide +kernel
theorem dX7_allThings_7 : decode cX7_allThings 7 = .ok (.isub, 1) := by decide +kernel
theorem dX7_allThings_8 : decode cX7_allThings 8 = .ok (.ireturn, 1) := by decide +kernel
theorem dX7_sees_0 : decode cX7_sees 0 = .ok (.aload_n 0, 1) := by decide +kernel
theorem dX7_sees_1 : decode cX7_sees 1 = .ok (.getfield 37, 3) := by decide +kernel
theorem dX7_sees_4 : decode cX7_sees 4 = .ok (.iconst 1, 1) := by decide +kernel
theorem dX7_sees_5 : decode cX7_sees 5 = .ok (.aload_n 0, 1) := by decide +kernel
theorem dX7_sees_6 : decode cX7_sees 6 = .ok (.getfield 21, 3) := by decide +kernel
theorem dX7_sees_9 : decode cX7_sees 9 = .ok (.ishl, 1) := by decide +kernel
theorem dX7_sees_10 : decode cX7_sees 10 = .ok (.iconst 1, 1) := by decide +kernel
theorem dX7_sees_11 : decode cX7_sees 11 = .ok (.isub, 1) := by decide +kernel
theorem dX7_sees_12 : decode cX7_sees 12 = .ok (.iand, 1) := by decide +kernel
theorem dX7_sees_13 : decode cX7_sees 13 = .ok (.ireturn, 1) := by decide +kernel
theorem dX7_thingsOfMoreThan_0 : decode cX7_thingsOfMoreThan 0 = .ok (.iconst 0, 1) := by decide +kernel
theorem dX7_thingsOfMoreThan_1 : decode cX7_thingsOfMoreThan 1 = .ok (.istore_n 2, 1) := by decide +kernel
theorem dX7_thingsOfMoreThan_2 : decode cX7_thingsOfMoreThan 2 = .ok (.iconst 0, 1) := by decide +kernel
theorem dX7_thingsOfMoreThan_3 : decode cX7_thingsOfMoreThan 3 = .ok (.istore_n 3, 1) := by decide +kernel
theorem dX7_thingsOfMoreThan_4 : decode cX7_thingsOfMoreThan 4 = .ok (.iload_n 3, 1) := by decide +kernel
theorem dX7_thingsOfMoreThan_5 : decode cX7_thingsOfMoreThan 5 = .ok (.aload_n 0, 1) := by decide +kernel
theorem dX7_thingsOfMoreThan_6 : decode cX7_thingsOfMoreThan 6 = .ok (.getfield 21, 3) := by decide +kernel
theorem dX7_thingsOfMoreThan_9 : decode cX7_thingsOfMoreThan 9 = .ok (.if_icmp .ge 25, 3) := by decide +kernel
theorem dX7_thingsOfMoreThan_12 : decode cX7_thingsOfMoreThan 12 = .ok (.aload_n 0, 1) := by decide +kernel
theorem dX7_thingsOfMoreThan_13 : decode cX7_thingsOfMoreThan 13 = .ok (.getfield 9, 3) := by decide +kernel
theorem dX7_thingsOfMoreThan_16 : decode cX7_thingsOfMoreThan 16 = .ok (.iload_n 3, 1) := by decide +kernel
theorem dX7_thingsOfMoreThan_17 : decode cX7_thingsOfMoreThan 17 = .ok (.iaload, 1) := by decide +kernel
theorem dX7_thingsOfMoreThan_18 : decode cX7_thingsOfMoreThan 18 = .ok (.iload_n 1, 1) := by decide +kernel
theorem dX7_thingsOfMoreThan_19 : decode cX7_thingsOfMoreThan 19 = .ok (.if_icmp .le 9, 3) := by decide +kernel
theorem dX7_thingsOfMoreThan_22 : decode cX7_thingsOfMoreThan 22 = .ok (.iload_n 2, 1) := by decide +kernel
theorem dX7_thingsOfMoreThan_23 : decode cX7_thingsOfMoreThan 23 = .ok (.iconst 1, 1) := by decide +kernel
theorem dX7_thingsOfMoreThan_24 : decode cX7_thingsOfMoreThan 24 = .ok (.iload_n 3, 1) := by decide +kernel
theorem dX7_thingsOfMoreThan_25 : decode cX7_thingsOfMoreThan 25 = .ok (.ishl, 1) := by decide +kernel
theorem dX7_thingsOfMoreThan_26 : decode cX7_thingsOfMoreThan 26 = .ok (.ior, 1) := by decide +kernel
theorem dX7_thingsOfMoreThan_27 : decode cX7_thingsOfMoreThan 27 = .ok (.istore_n 2, 1) := by decide +kernel
theorem dX7_thingsOfMoreThan_28 : decode cX7_thingsOfMoreThan 28 = .ok (.iinc 3 1, 3) := by decide +kernel
theorem dX7_thingsOfMoreThan_31 : decode cX7_thingsOfMoreThan 31 = .ok (.goto (-27), 3) := by decide +kernel
theorem dX7_thingsOfMoreThan_34 : decode cX7_thingsOfMoreThan 34 = .ok (.iload_n 2, 1) := by decide +kernel
theorem dX7_thingsOfMoreThan_35 : decode cX7_thingsOfMoreThan 35 = .ok (.ireturn, 1) := by decide +kernel
theorem dX7_look_0 : decode cX7_look 0 = .ok (.iload_n 1, 1) := by decide +kernel
theorem dX7_look_1 : decode cX7_look 1 = .ok (.ifCond .lt 20, 3) := by decide +kernel
theorem dX7_look_4 : decode cX7_look 4 = .ok (.iload_n 1, 1) := by decide +kernel
theorem dX7_look_5 : decode cX7_look 5 = .ok (.aload_n 0, 1) := by decide +kernel
theorem dX7_look_6 : decode cX7_look 6 = .ok (.getfield 25, 3) := by decide +kernel
theorem dX7_look_9 : decode cX7_look 9 = .ok (.if_icmp .ge 12, 3) := by decide +kernel
theorem dX7_look_12 : decode cX7_look 12 = .ok (.aload_n 0, 1) := by decide +kernel
theorem dX7_look_13 : decode cX7_look 13 = .ok (.getfield 15, 3) := by decide +kernel
theorem dX7_look_16 : decode cX7_look 16 = .ok (.iload_n 1, 1) := by decide +kernel
theorem dX7_look_17 : decode cX7_look 17 = .ok (.iaload, 1) := by decide +kernel
theorem dX7_look_18 : decode cX7_look 18 = .ok (.goto 4, 3) := by decide +kernel
theorem dX7_look_21 : decode cX7_look 21 = .ok (.iconst 0, 1) := by decide +kernel
theorem dX7_look_22 : decode cX7_look 22 = .ok (.ireturn, 1) := by decide +kernel
theorem dX7_seenUnlike_0 : decode cX7_seenUnlike 0 = .ok (.aload_n 0, 1) := by decide +kernel
theorem dX7_seenUnlike_1 : decode cX7_seenUnlike 1 = .ok (.iload_n 1, 1) := by decide +kernel
theorem dX7_seenUnlike_2 : decode cX7_seenUnlike 2 = .ok (.invokevirtual 54, 3) := by decide +kernel
theorem dX7_seenUnlike_5 : decode cX7_seenUnlike 5 = .ok (.aload_n 0, 1) := by decide +kernel
theorem dX7_seenUnlike_6 : decode cX7_seenUnlike 6 = .ok (.iload_n 2, 1) := by decide +kernel
theorem dX7_seenUnlike_7 : decode cX7_seenUnlike 7 = .ok (.invokevirtual 54, 3) := by decide +kernel
theorem dX7_seenUnlike_10 : decode cX7_seenUnlike 10 = .ok (.invokestatic 57, 3) := by decide +kernel
theorem dX7_seenUnlike_13 : decode cX7_seenUnlike 13 = .ok (.aload_n 0, 1) := by decide +kernel
theorem dX7_seenUnlike_14 : decode cX7_seenUnlike 14 = .ok (.invokevirtual 60, 3) := by decide +kernel
theorem dX7_seenUnlike_17 : decode cX7_seenUnlike 17 = .ok (.iand, 1) := by decide +kernel
theorem dX7_seenUnlike_18 : decode cX7_seenUnlike 18 = .ok (.ireturn, 1) := by decide +kernel
theorem dX7_code_0 : decode cX7_code 0 = .ok (.iconst 0, 1) := by decide +kernel
theorem dX7_code_1 : decode cX7_code 1 = .ok (.istore_n 2, 1) := by decide +kernel
theorem dX7_code_2 : decode cX7_code 2 = .ok (.iconst 0, 1) := by decide +kernel
theorem dX7_code_3 : decode cX7_code 3 = .ok (.istore_n 3, 1) := by decide +kernel
theorem dX7_code_4 : decode cX7_code 4 = .ok (.iload_n 3, 1) := by decide +kernel
theorem dX7_code_5 : decode cX7_code 5 = .ok (.aload_n 0, 1) := by decide +kernel
theorem dX7_code_6 : decode cX7_code 6 = .ok (.getfield 21, 3) := by decide +kernel
theorem dX7_code_9 : decode cX7_code 9 = .ok (.if_icmp .ge 24, 3) := by decide +kernel
theorem dX7_code_12 : decode cX7_code 12 = .ok (.iload_n 2, 1) := by decide +kernel
theorem dX7_code_13 : decode cX7_code 13 = .ok (.aload_n 0, 1) := by decide +kernel
theorem dX7_code_14 : decode cX7_code 14 = .ok (.getfield 9, 3) := by decide +kernel
theorem dX7_code_17 : decode cX7_code 17 = .ok (.iload_n 3, 1) := by decide +kernel
theorem dX7_code_18 : decode cX7_code 18 = .ok (.iaload, 1) := by decide +kernel
theorem dX7_code_19 : decode cX7_code 19 = .ok (.imul, 1) := by decide +kernel
theorem dX7_code_20 : decode cX7_code 20 = .ok (.iload_n 1, 1) := by decide +kernel
theorem dX7_code_21 : decode cX7_code 21 = .ok (.iload_n 3, 1) := by decide +kernel
theorem dX7_code_22 : decode cX7_code 22 = .ok (.invokestatic 64, 3) := by decide +kernel
theorem dX7_code_25 : decode cX7_code 25 = .ok (.iadd, 1) := by decide +kernel
theorem dX7_code_26 : decode cX7_code 26 = .ok (.istore_n 2, 1) := by decide +kernel
theorem dX7_code_27 : decode cX7_code 27 = .ok (.iinc 3 1, 3) := by decide +kernel
theorem dX7_code_30 : decode cX7_code 30 = .ok (.goto (-26), 3) := by decide +kernel
theorem dX7_code_33 : decode cX7_code 33 = .ok (.iload_n 2, 1) := by decide +kernel
theorem dX7_code_34 : decode cX7_code 34 = .ok (.ireturn, 1) := by decide +kernel
theorem dX7_codes_0 : decode cX7_codes 0 = .ok (.iconst 1, 1) := by decide +kernel
theorem dX7_codes_1 : decode cX7_codes 1 = .ok (.istore_n 1, 1) := by decide +kernel
theorem dX7_codes_2 : decode cX7_codes 2 = .ok (.iconst 0, 1) := by decide +kernel
theorem dX7_codes_3 : decode cX7_codes 3 = .ok (.istore_n 2, 1) := by decide +kernel
theorem dX7_codes_4 : decode cX7_codes 4 = .ok (.iload_n 2, 1) := by decide +kernel
theorem dX7_codes_5 : decode cX7_codes 5 = .ok (.aload_n 0, 1) := by decide +kernel
theorem dX7_codes_6 : decode cX7_codes 6 = .ok (.getfield 21, 3) := by decide +kernel
theorem dX7_codes_9 : decode cX7_codes 9 = .ok (.if_icmp .ge 18, 3) := by decide +kernel
theorem dX7_codes_12 : decode cX7_codes 12 = .ok (.iload_n 1, 1) := by decide +kernel
theorem dX7_codes_13 : decode cX7_codes 13 = .ok (.aload_n 0, 1) := by decide +kernel
theorem dX7_codes_14 : decode cX7_codes 14 = .ok (.getfield 9, 3) := by decide +kernel
theorem dX7_codes_17 : decode cX7_codes 17 = .ok (.iload_n 2, 1) := by decide +kernel
theorem dX7_codes_18 : decode cX7_codes 18 = .ok (.iaload, 1) := by decide +kernel
theorem dX7_codes_19 : decode cX7_codes 19 = .ok (.imul, 1) := by decide +kernel
theorem dX7_codes_20 : decode cX7_codes 20 = .ok (.istore_n 1, 1) := by decide +kernel
theorem dX7_codes_21 : decode cX7_codes 21 = .ok (.iinc 2 1, 3) := by decide +kernel
theorem dX7_codes_24 : decode cX7_codes 24 = .ok (.goto (-20), 3) := by decide +kernel
theorem dX7_codes_27 : decode cX7_codes 27 = .ok (.iload_n 1, 1) := by decide +kernel
theorem dX7_codes_28 : decode cX7_codes 28 = .ok (.ireturn, 1) := by decide +kernel
theorem dX7_lookOfCode_0 : decode cX7_lookOfCode 0 = .ok (.iconst 0, 1) := by decide +kernel
theorem dX7_lookOfCode_1 : decode cX7_lookOfCode 1 = .ok (.istore_n 2, 1) := by decide +kernel
theorem dX7_lookOfCode_2 : decode cX7_lookOfCode 2 = .ok (.iload_n 1, 1) := by decide +kernel
theorem dX7_lookOfCode_3 : decode cX7_lookOfCode 3 = .ok (.istore_n 3, 1) := by decide +kernel
theorem dX7_lookOfCode_4 : decode cX7_lookOfCode 4 = .ok (.aload_n 0, 1) := by decide +kernel
theorem dX7_lookOfCode_5 : decode cX7_lookOfCode 5 = .ok (.getfield 21, 3) := by decide +kernel
theorem dX7_lookOfCode_8 : decode cX7_lookOfCode 8 = .ok (.iconst 1, 1) := by decide +kernel
theorem dX7_lookOfCode_9 : decode cX7_lookOfCode 9 = .ok (.isub, 1) := by decide +kernel
theorem dX7_lookOfCode_10 : decode cX7_lookOfCode 10 = .ok (.istore 4, 2) := by decide +kernel
theorem dX7_lookOfCode_12 : decode cX7_lookOfCode 12 = .ok (.iload 4, 2) := by decide +kernel
theorem dX7_lookOfCode_14 : decode cX7_lookOfCode 14 = .ok (.ifCond .lt 40, 3) := by decide +kernel
theorem dX7_lookOfCode_17 : decode cX7_lookOfCode 17 = .ok (.aload_n 0, 1) := by decide +kernel
theorem dX7_lookOfCode_18 : decode cX7_lookOfCode 18 = .ok (.getfield 9, 3) := by decide +kernel
theorem dX7_lookOfCode_21 : decode cX7_lookOfCode 21 = .ok (.iload 4, 2) := by decide +kernel
theorem dX7_lookOfCode_23 : decode cX7_lookOfCode 23 = .ok (.iaload, 1) := by decide +kernel
theorem dX7_lookOfCode_24 : decode cX7_lookOfCode 24 = .ok (.istore 5, 2) := by decide +kernel
theorem dX7_lookOfCode_26 : decode cX7_lookOfCode 26 = .ok (.iload 5, 2) := by decide +kernel
theorem dX7_lookOfCode_28 : decode cX7_lookOfCode 28 = .ok (.ifCond .le 20, 3) := by decide +kernel
theorem dX7_lookOfCode_31 : decode cX7_lookOfCode 31 = .ok (.iload_n 2, 1) := by decide +kernel
theorem dX7_lookOfCode_32 : decode cX7_lookOfCode 32 = .ok (.iload 4, 2) := by decide +kernel
theorem dX7_lookOfCode_34 : decode cX7_lookOfCode 34 = .ok (.iload_n 3, 1) := by decide +kernel
theorem dX7_lookOfCode_35 : decode cX7_lookOfCode 35 = .ok (.iload 5, 2) := by decide +kernel
theorem dX7_lookOfCode_37 : decode cX7_lookOfCode 37 = .ok (.irem, 1) := by decide +kernel
theorem dX7_lookOfCode_38 : decode cX7_lookOfCode 38 = .ok (.invokestatic 50, 3) := by decide +kernel
theorem dX7_lookOfCode_41 : decode cX7_lookOfCode 41 = .ok (.ior, 1) := by decide +kernel
theorem dX7_lookOfCode_42 : decode cX7_lookOfCode 42 = .ok (.istore_n 2, 1) := by decide +kernel
theorem dX7_lookOfCode_43 : decode cX7_lookOfCode 43 = .ok (.iload_n 3, 1) := by decide +kernel
theorem dX7_lookOfCode_44 : decode cX7_lookOfCode 44 = .ok (.iload 5, 2) := by decide +kernel
theorem dX7_lookOfCode_46 : decode cX7_lookOfCode 46 = .ok (.idiv, 1) := by decide +kernel
theorem dX7_lookOfCode_47 : decode cX7_lookOfCode 47 = .ok (.istore_n 3, 1) := by decide +kernel
theorem dX7_lookOfCode_48 : decode cX7_lookOfCode 48 = .ok (.iinc 4 (-1), 3) := by decide +kernel
theorem dX7_lookOfCode_51 : decode cX7_lookOfCode 51 = .ok (.goto (-39), 3) := by decide +kernel
theorem dX7_lookOfCode_54 : decode cX7_lookOfCode 54 = .ok (.iload_n 2, 1) := by decide +kernel
theorem dX7_lookOfCode_55 : decode cX7_lookOfCode 55 = .ok (.ireturn, 1) := by decide +kernel
theorem dX7_lookWithHat_0 : decode cX7_lookWithHat 0 = .ok (.iload_n 1, 1) := by decide +kernel
theorem dX7_lookWithHat_1 : decode cX7_lookWithHat 1 = .ok (.aload_n 0, 1) := by decide +kernel
theorem dX7_lookWithHat_2 : decode cX7_lookWithHat 2 = .ok (.getfield 28, 3) := by decide +kernel
theorem dX7_lookWithHat_5 : decode cX7_lookWithHat 5 = .ok (.aload_n 0, 1) := by decide +kernel
theorem dX7_lookWithHat_6 : decode cX7_lookWithHat 6 = .ok (.getfield 28, 3) := by decide +kernel
theorem dX7_lookWithHat_9 : decode cX7_lookWithHat 9 = .ok (.iconst 5, 1) := by decide +kernel
theorem dX7_lookWithHat_10 : decode cX7_lookWithHat 10 = .ok (.ishl, 1) := by decide +kernel
theorem dX7_lookWithHat_11 : decode cX7_lookWithHat 11 = .ok (.ior, 1) := by decide +kernel
theorem dX7_lookWithHat_12 : decode cX7_lookWithHat 12 = .ok (.iconst (-1), 1) := by decide +kernel
theorem dX7_lookWithHat_13 : decode cX7_lookWithHat 13 = .ok (.ixor, 1) := by decide +kernel
theorem dX7_lookWithHat_14 : decode cX7_lookWithHat 14 = .ok (.iand, 1) := by decide +kernel
theorem dX7_lookWithHat_15 : decode cX7_lookWithHat 15 = .ok (.istore_n 3, 1) := by decide +kernel
theorem dX7_lookWithHat_16 : decode cX7_lookWithHat 16 = .ok (.iload_n 2, 1) := by decide +kernel
theorem dX7_lookWithHat_17 : decode cX7_lookWithHat 17 = .ok (.ifCond .lt 22, 3) := by decide +kernel
theorem dX7_lookWithHat_20 : decode cX7_lookWithHat 20 = .ok (.iload_n 2, 1) := by decide +kernel
theorem dX7_lookWithHat_21 : decode cX7_lookWithHat 21 = .ok (.aload_n 0, 1) := by decide +kernel
theorem dX7_lookWithHat_22 : decode cX7_lookWithHat 22 = .ok (.getfield 31, 3) := by decide +kernel
theorem dX7_lookWithHat_25 : decode cX7_lookWithHat 25 = .ok (.if_icmp .ge 14, 3) := by decide +kernel
theorem dX7_lookWithHat_28 : decode cX7_lookWithHat 28 = .ok (.iload_n 3, 1) := by decide +kernel
theorem dX7_lookWithHat_29 : decode cX7_lookWithHat 29 = .ok (.aload_n 0, 1) := by decide +kernel
theorem dX7_lookWithHat_30 : decode cX7_lookWithHat 30 = .ok (.getfield 18, 3) := by decide +kernel
theorem dX7_lookWithHat_33 : decode cX7_lookWithHat 33 = .ok (.iload_n 2, 1) := by decide +kernel
theorem dX7_lookWithHat_34 : decode cX7_lookWithHat 34 = .ok (.iaload, 1) := by decide +kernel
theorem dX7_lookWithHat_35 : decode cX7_lookWithHat 35 = .ok (.ior, 1) := by decide +kernel
theorem dX7_lookWithHat_36 : decode cX7_lookWithHat 36 = .ok (.goto 4, 3) := by decide +kernel
theorem dX7_lookWithHat_39 : decode cX7_lookWithHat 39 = .ok (.iload_n 1, 1) := by decide +kernel
theorem dX7_lookWithHat_40 : decode cX7_lookWithHat 40 = .ok (.ireturn, 1) := by decide +kernel
theorem dX7_lets_0 : decode cX7_lets 0 = .ok (.iload_n 1, 1) := by decide +kernel
theorem dX7_lets_1 : decode cX7_lets 1 = .ok (.invokestatic 44, 3) := by decide +kernel
theorem dX7_lets_4 : decode cX7_lets 4 = .ok (.istore_n 3, 1) := by decide +kernel
theorem dX7_lets_5 : decode cX7_lets 5 = .ok (.aload_n 0, 1) := by decide +kernel
theorem dX7_lets_6 : decode cX7_lets 6 = .ok (.getfield 34, 3) := by decide +kernel
theorem dX7_lets_9 : decode cX7_lets 9 = .ok (.tableswitch 65 1 3 #[27, 38, 54], 27) := by decide +kernel
theorem dX7_lets_36 : decode cX7_lets 36 = .ok (.iload_n 3, 1) := by decide +kernel
theorem dX7_lets_37 : decode cX7_lets 37 = .ok (.iconst 2, 1) := by decide +kernel
theorem dX7_lets_38 : decode cX7_lets 38 = .ok (.if_icmp .ne 7, 3) := by decide +kernel
theorem dX7_lets_41 : decode cX7_lets 41 = .ok (.iconst 1, 1) := by decide +kernel
theorem dX7_lets_42 : decode cX7_lets 42 = .ok (.goto 4, 3) := by decide +kernel
theorem dX7_lets_45 : decode cX7_lets 45 = .ok (.iconst 0, 1) := by decide +kernel
theorem dX7_lets_46 : decode cX7_lets 46 = .ok (.ireturn, 1) := by decide +kernel
theorem dX7_lets_47 : decode cX7_lets 47 = .ok (.iload_n 3, 1) := by decide +kernel
theorem dX7_lets_48 : decode cX7_lets 48 = .ok (.iconst 1, 1) := by decide +kernel
theorem dX7_lets_49 : decode cX7_lets 49 = .ok (.if_icmp .ne 12, 3) := by decide +kernel
theorem dX7_lets_52 : decode cX7_lets 52 = .ok (.iload_n 1, 1) := by decide +kernel
theorem dX7_lets_53 : decode cX7_lets 53 = .ok (.iload_n 2, 1) := by decide +kernel
theorem dX7_lets_54 : decode cX7_lets 54 = .ok (.if_icmp .eq 7, 3) := by decide +kernel
theorem dX7_lets_57 : decode cX7_lets 57 = .ok (.iconst 1, 1) := by decide +kernel
theorem dX7_lets_58 : decode cX7_lets 58 = .ok (.goto 4, 3) := by decide +kernel
theorem dX7_lets_61 : decode cX7_lets 61 = .ok (.iconst 0, 1) := by decide +kernel
theorem dX7_lets_62 : decode cX7_lets 62 = .ok (.ireturn, 1) := by decide +kernel
theorem dX7_lets_63 : decode cX7_lets 63 = .ok (.iload_n 3, 1) := by decide +kernel
theorem dX7_lets_64 : decode cX7_lets 64 = .ok (.iconst 1, 1) := by decide +kernel
theorem dX7_lets_65 : decode cX7_lets 65 = .ok (.if_icmp .gt 7, 3) := by decide +kernel
theorem dX7_lets_68 : decode cX7_lets 68 = .ok (.iconst 1, 1) := by decide +kernel
theorem dX7_lets_69 : decode cX7_lets 69 = .ok (.goto 4, 3) := by decide +kernel
theorem dX7_lets_72 : decode cX7_lets 72 = .ok (.iconst 0, 1) := by decide +kernel
theorem dX7_lets_73 : decode cX7_lets 73 = .ok (.ireturn, 1) := by decide +kernel
theorem dX7_lets_74 : decode cX7_lets 74 = .ok (.iload_n 3, 1) := by decide +kernel
theorem dX7_lets_75 : decode cX7_lets 75 = .ok (.iconst 1, 1) := by decide +kernel
theorem dX7_lets_76 : decode cX7_lets 76 = .ok (.if_icmp .ne 7, 3) := by decide +kernel
theorem dX7_lets_79 : decode cX7_lets 79 = .ok (.iconst 1, 1) := by decide +kernel
theorem dX7_lets_80 : decode cX7_lets 80 = .ok (.goto 4, 3) := by decide +kernel
theorem dX7_lets_83 : decode cX7_lets 83 = .ok (.iconst 0, 1) := by decide +kernel
theorem dX7_lets_84 : decode cX7_lets 84 = .ok (.ireturn, 1) := by decide +kernel
theorem dX7_barBehind_0 : decode cX7_barBehind 0 = .ok (.aload_n 0, 1) := by decide +kernel
theorem dX7_barBehind_1 : decode cX7_barBehind 1 = .ok (.getfield 34, 3) := by decide +kernel
theorem dX7_barBehind_4 : decode cX7_barBehind 4 = .ok (.iconst 2, 1) := by decide +kernel
theorem dX7_barBehind_5 : decode cX7_barBehind 5 = .ok (.if_icmp .ne 30, 3) := by decide +kernel
theorem dX7_barBehind_8 : decode cX7_barBehind 8 = .ok (.iconst 0, 1) := by decide +kernel
theorem dX7_barBehind_9 : decode cX7_barBehind 9 = .ok (.istore_n 2, 1) := by decide +kernel
theorem dX7_barBehind_10 : decode cX7_barBehind 10 = .ok (.iload_n 2, 1) := by decide +kernel
theorem dX7_barBehind_11 : decode cX7_barBehind 11 = .ok (.aload_n 0, 1) := by decide +kernel
theorem dX7_barBehind_12 : decode cX7_barBehind 12 = .ok (.getfield 21, 3) := by decide +kernel
theorem dX7_barBehind_15 : decode cX7_barBehind 15 = .ok (.if_icmp .ge 20, 3) := by decide +kernel
theorem dX7_barBehind_18 : decode cX7_barBehind 18 = .ok (.iload_n 1, 1) := by decide +kernel
theorem dX7_barBehind_19 : decode cX7_barBehind 19 = .ok (.iconst 1, 1) := by decide +kernel
theorem dX7_barBehind_20 : decode cX7_barBehind 20 = .ok (.iload_n 2, 1) := by decide +kernel
theorem dX7_barBehind_21 : decode cX7_barBehind 21 = .ok (.ishl, 1) := by decide +kernel
theorem dX7_barBehind_22 : decode cX7_barBehind 22 = .ok (.if_icmp .ne 7, 3) := by decide +kernel
theorem dX7_barBehind_25 : decode cX7_barBehind 25 = .ok (.iload_n 2, 1) := by decide +kernel
theorem dX7_barBehind_26 : decode cX7_barBehind 26 = .ok (.iconst 1, 1) := by decide +kernel
theorem dX7_barBehind_27 : decode cX7_barBehind 27 = .ok (.iadd, 1) := by decide +kernel
end
section
theorem dX7_barBehind_28 : decode cX7_barBehind 28 = .ok (.ireturn, 1) := by decide +kernel
theorem dX7_barBehind_29 : decode cX7_barBehind 29 = .ok (.iinc 2 1, 3) := by decide +kernel
theorem dX7_barBehind_32 : decode cX7_barBehind 32 = .ok (.goto (-22), 3) := by decide +kernel
theorem dX7_barBehind_35 : decode cX7_barBehind 35 = .ok (.iconst 0, 1) := by decide +kernel
theorem dX7_barBehind_36 : decode cX7_barBehind 36 = .ok (.ireturn, 1) := by decide +kernel
theorem dX7_bars_0 : decode cX7_bars 0 = .ok (.aload_n 0, 1) := by decide +kernel
theorem dX7_bars_1 : decode cX7_bars 1 = .ok (.getfield 34, 3) := by decide +kernel
theorem dX7_bars_4 : decode cX7_bars 4 = .ok (.iconst 2, 1) := by decide +kernel
theorem dX7_bars_5 : decode cX7_bars 5 = .ok (.if_icmp .ne 12, 3) := by decide +kernel
theorem dX7_bars_8 : decode cX7_bars 8 = .ok (.aload_n 0, 1) := by decide +kernel
theorem dX7_bars_9 : decode cX7_bars 9 = .ok (.getfield 21, 3) := by decide +kernel
theorem dX7_bars_12 : decode cX7_bars 12 = .ok (.iconst 1, 1) := by decide +kernel
theorem dX7_bars_13 : decode cX7_bars 13 = .ok (.iadd, 1) := by decide +kernel
theorem dX7_bars_14 : decode cX7_bars 14 = .ok (.goto 4, 3) := by decide +kernel
theorem dX7_bars_17 : decode cX7_bars 17 = .ok (.iconst 1, 1) := by decide +kernel
theorem dX7_bars_18 : decode cX7_bars 18 = .ok (.ireturn, 1) := by decide +kernel
theorem dX7_oddMinusEven_0 : decode cX7_oddMinusEven 0 = .ok (.iconst 0, 1) := by decide +kernel
theorem dX7_oddMinusEven_1 : decode cX7_oddMinusEven 1 = .ok (.istore_n 1, 1) := by decide +kernel
theorem dX7_oddMinusEven_2 : decode cX7_oddMinusEven 2 = .ok (.iconst 0, 1) := by decide +kernel
theorem dX7_oddMinusEven_3 : decode cX7_oddMinusEven 3 = .ok (.istore_n 2, 1) := by decide +kernel
theorem dX7_oddMinusEven_4 : decode cX7_oddMinusEven 4 = .ok (.iload_n 2, 1) := by decide +kernel
theorem dX7_oddMinusEven_5 : decode cX7_oddMinusEven 5 = .ok (.aload_n 0, 1) := by decide +kernel
theorem dX7_oddMinusEven_6 : decode cX7_oddMinusEven 6 = .ok (.getfield 25, 3) := by decide +kernel
theorem dX7_oddMinusEven_9 : decode cX7_oddMinusEven 9 = .ok (.if_icmp .ge 35, 3) := by decide +kernel
theorem dX7_oddMinusEven_12 : decode cX7_oddMinusEven 12 = .ok (.iload_n 1, 1) := by decide +kernel
theorem dX7_oddMinusEven_13 : decode cX7_oddMinusEven 13 = .ok (.aload_n 0, 1) := by decide +kernel
theorem dX7_oddMinusEven_14 : decode cX7_oddMinusEven 14 = .ok (.getfield 15, 3) := by decide +kernel
theorem dX7_oddMinusEven_17 : decode cX7_oddMinusEven 17 = .ok (.iload_n 2, 1) := by decide +kernel
theorem dX7_oddMinusEven_18 : decode cX7_oddMinusEven 18 = .ok (.iaload, 1) := by decide +kernel
theorem dX7_oddMinusEven_19 : decode cX7_oddMinusEven 19 = .ok (.bipush 31, 2) := by decide +kernel
theorem dX7_oddMinusEven_21 : decode cX7_oddMinusEven 21 = .ok (.iand, 1) := by decide +kernel
theorem dX7_oddMinusEven_22 : decode cX7_oddMinusEven 22 = .ok (.invokestatic 44, 3) := by decide +kernel
theorem dX7_oddMinusEven_25 : decode cX7_oddMinusEven 25 = .ok (.iconst 2, 1) := by decide +kernel
theorem dX7_oddMinusEven_26 : decode cX7_oddMinusEven 26 = .ok (.irem, 1) := by decide +kernel
theorem dX7_oddMinusEven_27 : decode cX7_oddMinusEven 27 = .ok (.iconst 1, 1) := by decide +kernel
theorem dX7_oddMinusEven_28 : decode cX7_oddMinusEven 28 = .ok (.if_icmp .ne 7, 3) := by decide +kernel
theorem dX7_oddMinusEven_31 : decode cX7_oddMinusEven 31 = .ok (.iconst 1, 1) := by decide +kernel
theorem dX7_oddMinusEven_32 : decode cX7_oddMinusEven 32 = .ok (.goto 4, 3) := by decide +kernel
theorem dX7_oddMinusEven_35 : decode cX7_oddMinusEven 35 = .ok (.iconst (-1), 1) := by decide +kernel
theorem dX7_oddMinusEven_36 : decode cX7_oddMinusEven 36 = .ok (.iadd, 1) := by decide +kernel
theorem dX7_oddMinusEven_37 : decode cX7_oddMinusEven 37 = .ok (.istore_n 1, 1) := by decide +kernel
theorem dX7_oddMinusEven_38 : decode cX7_oddMinusEven 38 = .ok (.iinc 2 1, 3) := by decide +kernel
theorem dX7_oddMinusEven_41 : decode cX7_oddMinusEven 41 = .ok (.goto (-37), 3) := by decide +kernel
theorem dX7_oddMinusEven_44 : decode cX7_oddMinusEven 44 = .ok (.iload_n 1, 1) := by decide +kernel
theorem dX7_oddMinusEven_45 : decode cX7_oddMinusEven 45 = .ok (.ireturn, 1) := by decide +kernel
theorem dX7_isSameGuard_0 : decode cX7_isSameGuard 0 = .ok (.iconst 0, 1) := by decide +kernel
theorem dX7_isSameGuard_1 : decode cX7_isSameGuard 1 = .ok (.istore_n 2, 1) := by decide +kernel
theorem dX7_isSameGuard_2 : decode cX7_isSameGuard 2 = .ok (.iload_n 2, 1) := by decide +kernel
theorem dX7_isSameGuard_3 : decode cX7_isSameGuard 3 = .ok (.aload_n 0, 1) := by decide +kernel
theorem dX7_isSameGuard_4 : decode cX7_isSameGuard 4 = .ok (.getfield 25, 3) := by decide +kernel
theorem dX7_isSameGuard_7 : decode cX7_isSameGuard 7 = .ok (.if_icmp .ge 60, 3) := by decide +kernel
theorem dX7_isSameGuard_10 : decode cX7_isSameGuard 10 = .ok (.iconst 0, 1) := by decide +kernel
theorem dX7_isSameGuard_11 : decode cX7_isSameGuard 11 = .ok (.istore_n 3, 1) := by decide +kernel
theorem dX7_isSameGuard_12 : decode cX7_isSameGuard 12 = .ok (.iload_n 3, 1) := by decide +kernel
theorem dX7_isSameGuard_13 : decode cX7_isSameGuard 13 = .ok (.iload_n 2, 1) := by decide +kernel
theorem dX7_isSameGuard_14 : decode cX7_isSameGuard 14 = .ok (.if_icmp .ge 47, 3) := by decide +kernel
theorem dX7_isSameGuard_17 : decode cX7_isSameGuard 17 = .ok (.aload_n 0, 1) := by decide +kernel
theorem dX7_isSameGuard_18 : decode cX7_isSameGuard 18 = .ok (.getfield 15, 3) := by decide +kernel
theorem dX7_isSameGuard_21 : decode cX7_isSameGuard 21 = .ok (.iload_n 2, 1) := by decide +kernel
theorem dX7_isSameGuard_22 : decode cX7_isSameGuard 22 = .ok (.iaload, 1) := by decide +kernel
theorem dX7_isSameGuard_23 : decode cX7_isSameGuard 23 = .ok (.aload_n 0, 1) := by decide +kernel
theorem dX7_isSameGuard_24 : decode cX7_isSameGuard 24 = .ok (.getfield 15, 3) := by decide +kernel
theorem dX7_isSameGuard_27 : decode cX7_isSameGuard 27 = .ok (.iload_n 3, 1) := by decide +kernel
theorem dX7_isSameGuard_28 : decode cX7_isSameGuard 28 = .ok (.iaload, 1) := by decide +kernel
theorem dX7_isSameGuard_29 : decode cX7_isSameGuard 29 = .ok (.invokestatic 57, 3) := by decide +kernel
theorem dX7_isSameGuard_32 : decode cX7_isSameGuard 32 = .ok (.istore 4, 2) := by decide +kernel
theorem dX7_isSameGuard_34 : decode cX7_isSameGuard 34 = .ok (.aload_n 0, 1) := by decide +kernel
theorem dX7_isSameGuard_35 : decode cX7_isSameGuard 35 = .ok (.iload 4, 2) := by decide +kernel
theorem dX7_isSameGuard_37 : decode cX7_isSameGuard 37 = .ok (.iconst 0, 1) := by decide +kernel
theorem dX7_isSameGuard_38 : decode cX7_isSameGuard 38 = .ok (.invokevirtual 67, 3) := by decide +kernel
theorem dX7_isSameGuard_41 : decode cX7_isSameGuard 41 = .ok (.aload_n 0, 1) := by decide +kernel
theorem dX7_isSameGuard_42 : decode cX7_isSameGuard 42 = .ok (.iload 4, 2) := by decide +kernel
theorem dX7_isSameGuard_44 : decode cX7_isSameGuard 44 = .ok (.iload_n 1, 1) := by decide +kernel
theorem dX7_isSameGuard_45 : decode cX7_isSameGuard 45 = .ok (.iand, 1) := by decide +kernel
theorem dX7_isSameGuard_46 : decode cX7_isSameGuard 46 = .ok (.iconst 0, 1) := by decide +kernel
theorem dX7_isSameGuard_47 : decode cX7_isSameGuard 47 = .ok (.invokevirtual 67, 3) := by decide +kernel
theorem dX7_isSameGuard_50 : decode cX7_isSameGuard 50 = .ok (.if_icmp .eq 5, 3) := by decide +kernel
theorem dX7_isSameGuard_53 : decode cX7_isSameGuard 53 = .ok (.iconst 0, 1) := by decide +kernel
theorem dX7_isSameGuard_54 : decode cX7_isSameGuard 54 = .ok (.ireturn, 1) := by decide +kernel
theorem dX7_isSameGuard_55 : decode cX7_isSameGuard 55 = .ok (.iinc 3 1, 3) := by decide +kernel
theorem dX7_isSameGuard_58 : decode cX7_isSameGuard 58 = .ok (.goto (-46), 3) := by decide +kernel
theorem dX7_isSameGuard_61 : decode cX7_isSameGuard 61 = .ok (.iinc 2 1, 3) := by decide +kernel
theorem dX7_isSameGuard_64 : decode cX7_isSameGuard 64 = .ok (.goto (-62), 3) := by decide +kernel
theorem dX7_isSameGuard_67 : decode cX7_isSameGuard 67 = .ok (.iconst 1, 1) := by decide +kernel
theorem dX7_isSameGuard_68 : decode cX7_isSameGuard 68 = .ok (.ireturn, 1) := by decide +kernel
theorem dX7_drawn_0 : decode cX7_drawn 0 = .ok (.ldc2_w 71, 3) := by decide +kernel
theorem dX7_drawn_3 : decode cX7_drawn 3 = .ok (.iload_n 1, 1) := by decide +kernel
theorem dX7_drawn_4 : decode cX7_drawn 4 = .ok (.i2l, 1) := by decide +kernel
theorem dX7_drawn_5 : decode cX7_drawn 5 = .ok (.lmul, 1) := by decide +kernel
theorem dX7_drawn_6 : decode cX7_drawn 6 = .ok (.ldc2_w 73, 3) := by decide +kernel
theorem dX7_drawn_9 : decode cX7_drawn 9 = .ok (.iload_n 2, 1) := by decide +kernel
theorem dX7_drawn_10 : decode cX7_drawn 10 = .ok (.i2l, 1) := by decide +kernel
theorem dX7_drawn_11 : decode cX7_drawn 11 = .ok (.lmul, 1) := by decide +kernel
theorem dX7_drawn_12 : decode cX7_drawn 12 = .ok (.ladd, 1) := by decide +kernel
theorem dX7_drawn_13 : decode cX7_drawn 13 = .ok (.lconst 1, 1) := by decide +kernel
theorem dX7_drawn_14 : decode cX7_drawn 14 = .ok (.ladd, 1) := by decide +kernel
theorem dX7_drawn_15 : decode cX7_drawn 15 = .ok (.lstore_n 3, 1) := by decide +kernel
theorem dX7_drawn_16 : decode cX7_drawn 16 = .ok (.aload_n 0, 1) := by decide +kernel
theorem dX7_drawn_17 : decode cX7_drawn 17 = .ok (.getfield 25, 3) := by decide +kernel
theorem dX7_drawn_20 : decode cX7_drawn 20 = .ok (.iconst 1, 1) := by decide +kernel
theorem dX7_drawn_21 : decode cX7_drawn 21 = .ok (.if_icmp .ge 7, 3) := by decide +kernel
theorem dX7_drawn_24 : decode cX7_drawn 24 = .ok (.iconst 0, 1) := by decide +kernel
theorem dX7_drawn_25 : decode cX7_drawn 25 = .ok (.goto 17, 3) := by decide +kernel
theorem dX7_drawn_28 : decode cX7_drawn 28 = .ok (.lload_n 3, 1) := by decide +kernel
theorem dX7_drawn_29 : decode cX7_drawn 29 = .ok (.lload_n 3, 1) := by decide +kernel
theorem dX7_drawn_30 : decode cX7_drawn 30 = .ok (.lmul, 1) := by decide +kernel
theorem dX7_drawn_31 : decode cX7_drawn 31 = .ok (.ldc2_w 75, 3) := by decide +kernel
theorem dX7_drawn_34 : decode cX7_drawn 34 = .ok (.lrem, 1) := by decide +kernel
theorem dX7_drawn_35 : decode cX7_drawn 35 = .ok (.aload_n 0, 1) := by decide +kernel
theorem dX7_drawn_36 : decode cX7_drawn 36 = .ok (.getfield 25, 3) := by decide +kernel
theorem dX7_drawn_39 : decode cX7_drawn 39 = .ok (.i2l, 1) := by decide +kernel
theorem dX7_drawn_40 : decode cX7_drawn 40 = .ok (.lrem, 1) := by decide +kernel
theorem dX7_drawn_41 : decode cX7_drawn 41 = .ok (.l2i, 1) := by decide +kernel
theorem dX7_drawn_42 : decode cX7_drawn 42 = .ok (.ireturn, 1) := by decide +kernel
theorem dX8_init_0 : decode cX8_init 0 = .ok (.aload_n 0, 1) := by decide +kernel
theorem dX8_init_1 : decode cX8_init 1 = .ok (.invokespecial 3, 3) := by decide +kernel
theorem dX8_init_4 : decode cX8_init 4 = .ok (.aload_n 0, 1) := by decide +kernel
theorem dX8_init_5 : decode cX8_init 5 = .ok (.bipush 54, 2) := by decide +kernel
theorem dX8_init_7 : decode cX8_init 7 = .ok (.newarray .long, 2) := by decide +kernel
theorem dX8_init_9 : decode cX8_init 9 = .ok (.putfield 9, 3) := by decide +kernel
theorem dX8_init_12 : decode cX8_init 12 = .ok (.aload_n 0, 1) := by decide +kernel
theorem dX8_init_13 : decode cX8_init 13 = .ok (.bipush 54, 2) := by decide +kernel
theorem dX8_init_15 : decode cX8_init 15 = .ok (.newarray .long, 2) := by decide +kernel
theorem dX8_init_17 : decode cX8_init 17 = .ok (.putfield 15, 3) := by decide +kernel
theorem dX8_init_20 : decode cX8_init 20 = .ok (.return_, 1) := by decide +kernel
theorem dX8_startAt_0 : decode cX8_startAt 0 = .ok (.aload_n 0, 1) := by decide +kernel
theorem dX8_startAt_1 : decode cX8_startAt 1 = .ok (.getfield 9, 3) := by decide +kernel
theorem dX8_startAt_4 : decode cX8_startAt 4 = .ok (.lconst 0, 1) := by decide +kernel
theorem dX8_startAt_5 : decode cX8_startAt 5 = .ok (.invokestatic 18, 3) := by decide +kernel
theorem dX8_startAt_8 : decode cX8_startAt 8 = .ok (.aload_n 0, 1) := by decide +kernel
theorem dX8_startAt_9 : decode cX8_startAt 9 = .ok (.getfield 9, 3) := by decide +kernel
theorem dX8_startAt_12 : decode cX8_startAt 12 = .ok (.iload_n 1, 1) := by decide +kernel
theorem dX8_startAt_13 : decode cX8_startAt 13 = .ok (.bipush 6, 2) := by decide +kernel
theorem dX8_startAt_15 : decode cX8_startAt 15 = .ok (.imul, 1) := by decide +kernel
theorem dX8_startAt_16 : decode cX8_startAt 16 = .ok (.lconst 1, 1) := by decide +kernel
theorem dX8_startAt_17 : decode cX8_startAt 17 = .ok (.lastore, 1) := by decide +kernel
theorem dX8_startAt_18 : decode cX8_startAt 18 = .ok (.return_, 1) := by decide +kernel
theorem dX8_goOn_0 : decode cX8_goOn 0 = .ok (.aload_n 0, 1) := by decide +kernel
theorem dX8_goOn_1 : decode cX8_goOn 1 = .ok (.getfield 15, 3) := by decide +kernel
theorem dX8_goOn_4 : decode cX8_goOn 4 = .ok (.lconst 0, 1) := by decide +kernel
theorem dX8_goOn_5 : decode cX8_goOn 5 = .ok (.invokestatic 18, 3) := by decide +kernel
theorem dX8_goOn_8 : decode cX8_goOn 8 = .ok (.iconst 0, 1) := by decide +kernel
theorem dX8_goOn_9 : decode cX8_goOn 9 = .ok (.istore_n 2, 1) := by decide +kernel
theorem dX8_goOn_10 : decode cX8_goOn 10 = .ok (.iload_n 2, 1) := by decide +kernel
theorem dX8_goOn_11 : decode cX8_goOn 11 = .ok (.aload_n 1, 1) := by decide +kernel
theorem dX8_goOn_12 : decode cX8_goOn 12 = .ok (.getfield 24, 3) := by decide +kernel
theorem dX8_goOn_15 : decode cX8_goOn 15 = .ok (.if_icmp .ge 48, 3) := by decide +kernel
theorem dX8_goOn_18 : decode cX8_goOn 18 = .ok (.iconst 0, 1) := by decide +kernel
theorem dX8_goOn_19 : decode cX8_goOn 19 = .ok (.istore_n 3, 1) := by decide +kernel
theorem dX8_goOn_20 : decode cX8_goOn 20 = .ok (.iload_n 3, 1) := by decide +kernel
theorem dX8_goOn_21 : decode cX8_goOn 21 = .ok (.aload_n 1, 1) := by decide +kernel
theorem dX8_goOn_22 : decode cX8_goOn 22 = .ok (.invokevirtual 30, 3) := by decide +kernel
theorem dX8_goOn_25 : decode cX8_goOn 25 = .ok (.if_icmp .ge 32, 3) := by decide +kernel
theorem dX8_goOn_28 : decode cX8_goOn 28 = .ok (.aload_n 0, 1) := by decide +kernel
theorem dX8_goOn_29 : decode cX8_goOn 29 = .ok (.getfield 9, 3) := by decide +kernel
theorem dX8_goOn_32 : decode cX8_goOn 32 = .ok (.iload_n 2, 1) := by decide +kernel
theorem dX8_goOn_33 : decode cX8_goOn 33 = .ok (.bipush 6, 2) := by decide +kernel
theorem dX8_goOn_35 : decode cX8_goOn 35 = .ok (.imul, 1) := by decide +kernel
theorem dX8_goOn_36 : decode cX8_goOn 36 = .ok (.iload_n 3, 1) := by decide +kernel
theorem dX8_goOn_37 : decode cX8_goOn 37 = .ok (.iadd, 1) := by decide +kernel
theorem dX8_goOn_38 : decode cX8_goOn 38 = .ok (.laload, 1) := by decide +kernel
theorem dX8_goOn_39 : decode cX8_goOn 39 = .ok (.lconst 0, 1) := by decide +kernel
theorem dX8_goOn_40 : decode cX8_goOn 40 = .ok (.lcmp, 1) := by decide +kernel
theorem dX8_goOn_41 : decode cX8_goOn 41 = .ok (.ifCond .le 10, 3) := by decide +kernel
theorem dX8_goOn_44 : decode cX8_goOn 44 = .ok (.aload_n 0, 1) := by decide +kernel
theorem dX8_goOn_45 : decode cX8_goOn 45 = .ok (.aload_n 1, 1) := by decide +kernel
theorem dX8_goOn_46 : decode cX8_goOn 46 = .ok (.iload_n 2, 1) := by decide +kernel
theorem dX8_goOn_47 : decode cX8_goOn 47 = .ok (.iload_n 3, 1) := by decide +kernel
theorem dX8_goOn_48 : decode cX8_goOn 48 = .ok (.invokevirtual 34, 3) := by decide +kernel
theorem dX8_goOn_51 : decode cX8_goOn 51 = .ok (.iinc 3 1, 3) := by decide +kernel
theorem dX8_goOn_54 : decode cX8_goOn 54 = .ok (.goto (-34), 3) := by decide +kernel
theorem dX8_goOn_57 : decode cX8_goOn 57 = .ok (.iinc 2 1, 3) := by decide +kernel
theorem dX8_goOn_60 : decode cX8_goOn 60 = .ok (.goto (-50), 3) := by decide +kernel
theorem dX8_goOn_63 : decode cX8_goOn 63 = .ok (.aload_n 0, 1) := by decide +kernel
theorem dX8_goOn_64 : decode cX8_goOn 64 = .ok (.getfield 9, 3) := by decide +kernel
theorem dX8_goOn_67 : decode cX8_goOn 67 = .ok (.astore_n 2, 1) := by decide +kernel
theorem dX8_goOn_68 : decode cX8_goOn 68 = .ok (.aload_n 0, 1) := by decide +kernel
theorem dX8_goOn_69 : decode cX8_goOn 69 = .ok (.aload_n 0, 1) := by decide +kernel
theorem dX8_goOn_70 : decode cX8_goOn 70 = .ok (.getfield 15, 3) := by decide +kernel
theorem dX8_goOn_73 : decode cX8_goOn 73 = .ok (.putfield 9, 3) := by decide +kernel
theorem dX8_goOn_76 : decode cX8_goOn 76 = .ok (.aload_n 0, 1) := by decide +kernel
theorem dX8_goOn_77 : decode cX8_goOn 77 = .ok (.aload_n 2, 1) := by decide +kernel
theorem dX8_goOn_78 : decode cX8_goOn 78 = .ok (.putfield 15, 3) := by decide +kernel
theorem dX8_goOn_81 : decode cX8_goOn 81 = .ok (.return_, 1) := by decide +kernel
theorem dX8_spread_0 : decode cX8_spread 0 = .ok (.iconst 0, 1) := by decide +kernel
theorem dX8_spread_1 : decode cX8_spread 1 = .ok (.istore 4, 2) := by decide +kernel
theorem dX8_spread_3 : decode cX8_spread 3 = .ok (.iload 4, 2) := by decide +kernel
theorem dX8_spread_5 : decode cX8_spread 5 = .ok (.aload_n 1, 1) := by decide +kernel
theorem dX8_spread_6 : decode cX8_spread 6 = .ok (.getfield 24, 3) := by decide +kernel
theorem dX8_spread_9 : decode cX8_spread 9 = .ok (.if_icmp .ge 62, 3) := by decide +kernel
theorem dX8_spread_12 : decode cX8_spread 12 = .ok (.aload_n 1, 1) := by decide +kernel
theorem dX8_spread_13 : decode cX8_spread 13 = .ok (.iload_n 2, 1) := by decide +kernel
theorem dX8_spread_14 : decode cX8_spread 14 = .ok (.iload 4, 2) := by decide +kernel
theorem dX8_spread_16 : decode cX8_spread 16 = .ok (.invokevirtual 38, 3) := by decide +kernel
theorem dX8_spread_19 : decode cX8_spread 19 = .ok (.istore 5, 2) := by decide +kernel
theorem dX8_spread_21 : decode cX8_spread 21 = .ok (.aload_n 1, 1) := by decide +kernel
theorem dX8_spread_22 : decode cX8_spread 22 = .ok (.iload 5, 2) := by decide +kernel
theorem dX8_spread_24 : decode cX8_spread 24 = .ok (.iload_n 3, 1) := by decide +kernel
theorem dX8_spread_25 : decode cX8_spread 25 = .ok (.invokestatic 42, 3) := by decide +kernel
theorem dX8_spread_28 : decode cX8_spread 28 = .ok (.invokevirtual 46, 3) := by decide +kernel
theorem dX8_spread_31 : decode cX8_spread 31 = .ok (.ifCond .eq 34, 3) := by decide +kernel
theorem dX8_spread_34 : decode cX8_spread 34 = .ok (.aload_n 0, 1) := by decide +kernel
theorem dX8_spread_35 : decode cX8_spread 35 = .ok (.getfield 15, 3) := by decide +kernel
theorem dX8_spread_38 : decode cX8_spread 38 = .ok (.iload 4, 2) := by decide +kernel
theorem dX8_spread_40 : decode cX8_spread 40 = .ok (.bipush 6, 2) := by decide +kernel
theorem dX8_spread_42 : decode cX8_spread 42 = .ok (.imul, 1) := by decide +kernel
theorem dX8_spread_43 : decode cX8_spread 43 = .ok (.aload_n 1, 1) := by decide +kernel
theorem dX8_spread_44 : decode cX8_spread 44 = .ok (.iload 5, 2) := by decide +kernel
theorem dX8_spread_46 : decode cX8_spread 46 = .ok (.invokevirtual 50, 3) := by decide +kernel
theorem dX8_spread_49 : decode cX8_spread 49 = .ok (.iadd, 1) := by decide +kernel
theorem dX8_spread_50 : decode cX8_spread 50 = .ok (.dup2, 1) := by decide +kernel
theorem dX8_spread_51 : decode cX8_spread 51 = .ok (.laload, 1) := by decide +kernel
theorem dX8_spread_52 : decode cX8_spread 52 = .ok (.aload_n 0, 1) := by decide +kernel
theorem dX8_spread_53 : decode cX8_spread 53 = .ok (.getfield 9, 3) := by decide +kernel
theorem dX8_spread_56 : decode cX8_spread 56 = .ok (.iload_n 2, 1) := by decide +kernel
theorem dX8_spread_57 : decode cX8_spread 57 = .ok (.bipush 6, 2) := by decide +kernel
theorem dX8_spread_59 : decode cX8_spread 59 = .ok (.imul, 1) := by decide +kernel
theorem dX8_spread_60 : decode cX8_spread 60 = .ok (.iload_n 3, 1) := by decide +kernel
theorem dX8_spread_61 : decode cX8_spread 61 = .ok (.iadd, 1) := by decide +kernel
theorem dX8_spread_62 : decode cX8_spread 62 = .ok (.laload, 1) := by decide +kernel
theorem dX8_spread_63 : decode cX8_spread 63 = .ok (.ladd, 1) := by decide +kernel
theorem dX8_spread_64 : decode cX8_spread 64 = .ok (.lastore, 1) := by decide +kernel
theorem dX8_spread_65 : decode cX8_spread 65 = .ok (.iinc 4 1, 3) := by decide +kernel
theorem dX8_spread_68 : decode cX8_spread 68 = .ok (.goto (-65), 3) := by decide +kernel
theorem dX8_spread_71 : decode cX8_spread 71 = .ok (.return_, 1) := by decide +kernel
theorem dX8_waysTo_0 : decode cX8_waysTo 0 = .ok (.lconst 0, 1) := by decide +kernel
theorem dX8_waysTo_1 : decode cX8_waysTo 1 = .ok (.lstore_n 2, 1) := by decide +kernel
theorem dX8_waysTo_2 : decode cX8_waysTo 2 = .ok (.iconst 0, 1) := by decide +kernel
theorem dX8_waysTo_3 : decode cX8_waysTo 3 = .ok (.istore 4, 2) := by decide +kernel
theorem dX8_waysTo_5 : decode cX8_waysTo 5 = .ok (.iload 4, 2) := by decide +kernel
theorem dX8_waysTo_7 : decode cX8_waysTo 7 = .ok (.bipush 6, 2) := by decide +kernel
theorem dX8_waysTo_9 : decode cX8_waysTo 9 = .ok (.if_icmp .ge 24, 3) := by decide +kernel
theorem dX8_waysTo_12 : decode cX8_waysTo 12 = .ok (.lload_n 2, 1) := by decide +kernel
theorem dX8_waysTo_13 : decode cX8_waysTo 13 = .ok (.aload_n 0, 1) := by decide +kernel
theorem dX8_waysTo_14 : decode cX8_waysTo 14 = .ok (.getfield 9, 3) := by decide +kernel
theorem dX8_waysTo_17 : decode cX8_waysTo 17 = .ok (.iload_n 1, 1) := by decide +kernel
theorem dX8_waysTo_18 : decode cX8_waysTo 18 = .ok (.bipush 6, 2) := by decide +kernel
theorem dX8_waysTo_20 : decode cX8_waysTo 20 = .ok (.imul, 1) := by decide +kernel
theorem dX8_waysTo_21 : decode cX8_waysTo 21 = .ok (.iload 4, 2) := by decide +kernel
theorem dX8_waysTo_23 : decode cX8_waysTo 23 = .ok (.iadd, 1) := by decide +kernel
theorem dX8_waysTo_24 : decode cX8_waysTo 24 = .ok (.laload, 1) := by decide +kernel
theorem dX8_waysTo_25 : decode cX8_waysTo 25 = .ok (.ladd, 1) := by decide +kernel
theorem dX8_waysTo_26 : decode cX8_waysTo 26 = .ok (.lstore_n 2, 1) := by decide +kernel
theorem dX8_waysTo_27 : decode cX8_waysTo 27 = .ok (.iinc 4 1, 3) := by decide +kernel
theorem dX8_waysTo_30 : decode cX8_waysTo 30 = .ok (.goto (-25), 3) := by decide +kernel
theorem dX8_waysTo_33 : decode cX8_waysTo 33 = .ok (.lload_n 2, 1) := by decide +kernel
theorem dX8_waysTo_34 : decode cX8_waysTo 34 = .ok (.lreturn, 1) := by decide +kernel
theorem dX9_init_0 : decode cX9_init 0 = .ok (.aload_n 0, 1) := by decide +kernel
theorem dX9_init_1 : decode cX9_init 1 = .ok (.invokespecial 3, 3) := by decide +kernel
theorem dX9_init_4 : decode cX9_init 4 = .ok (.aload_n 0, 1) := by decide +kernel
theorem dX9_init_5 : decode cX9_init 5 = .ok (.new 9, 3) := by decide +kernel
theorem dX9_init_8 : decode cX9_init 8 = .ok (.dup, 1) := by decide +kernel
theorem dX9_init_9 : decode cX9_init 9 = .ok (.invokespecial 11, 3) := by decide +kernel
theorem dX9_init_12 : decode cX9_init 12 = .ok (.putfield 12, 3) := by decide +kernel
theorem dX9_init_15 : decode cX9_init 15 = .ok (.aload_n 0, 1) := by decide +kernel
theorem dX9_init_16 : decode cX9_init 16 = .ok (.new 16, 3) := by decide +kernel
theorem dX9_init_19 : decode cX9_init 19 = .ok (.dup, 1) := by decide +kernel
theorem dX9_init_20 : decode cX9_init 20 = .ok (.invokespecial 18, 3) := by decide +kernel
theorem dX9_init_23 : decode cX9_init 23 = .ok (.putfield 19, 3) := by decide +kernel
theorem dX9_init_26 : decode cX9_init 26 = .ok (.aload_n 0, 1) := by decide +kernel
theorem dX9_init_27 : decode cX9_init 27 = .ok (.new 23, 3) := by decide +kernel
theorem dX9_init_30 : decode cX9_init 30 = .ok (.dup, 1) := by decide +kernel
theorem dX9_init_31 : decode cX9_init 31 = .ok (.invokespecial 25, 3) := by decide +kernel
theorem dX9_init_34 : decode cX9_init 34 = .ok (.putfield 26, 3) := by decide +kernel
theorem dX9_init_37 : decode cX9_init 37 = .ok (.aload_n 0, 1) := by decide +kernel
theorem dX9_init_38 : decode cX9_init 38 = .ok (.new 30, 3) := by decide +kernel
theorem dX9_init_41 : decode cX9_init 41 = .ok (.dup, 1) := by decide +kernel
theorem dX9_init_42 : decode cX9_init 42 = .ok (.invokespecial 32, 3) := by decide +kernel
theorem dX9_init_45 : decode cX9_init 45 = .ok (.putfield 33, 3) := by decide +kernel
theorem dX9_init_48 : decode cX9_init 48 = .ok (.aload_n 0, 1) := by decide +kernel
theorem dX9_init_49 : decode cX9_init 49 = .ok (.new 37, 3) := by decide +kernel
theorem dX9_init_52 : decode cX9_init 52 = .ok (.dup, 1) := by decide +kernel
theorem dX9_init_53 : decode cX9_init 53 = .ok (.invokespecial 39, 3) := by decide +kernel
theorem dX9_init_56 : decode cX9_init 56 = .ok (.putfield 40, 3) := by decide +kernel
theorem dX9_init_59 : decode cX9_init 59 = .ok (.aload_n 0, 1) := by decide +kernel
theorem dX9_init_60 : decode cX9_init 60 = .ok (.new 44, 3) := by decide +kernel
theorem dX9_init_63 : decode cX9_init 63 = .ok (.dup, 1) := by decide +kernel
theorem dX9_init_64 : decode cX9_init 64 = .ok (.invokespecial 46, 3) := by decide +kernel
theorem dX9_init_67 : decode cX9_init 67 = .ok (.putfield 47, 3) := by decide +kernel
theorem dX9_init_70 : decode cX9_init 70 = .ok (.aload_n 0, 1) := by decide +kernel
theorem dX9_init_71 : decode cX9_init 71 = .ok (.new 51, 3) := by decide +kernel
theorem dX9_init_74 : decode cX9_init 74 = .ok (.dup, 1) := by decide +kernel
theorem dX9_init_75 : decode cX9_init 75 = .ok (.invokespecial 53, 3) := by decide +kernel
theorem dX9_init_78 : decode cX9_init 78 = .ok (.putfield 54, 3) := by decide +kernel
theorem dX9_init_81 : decode cX9_init 81 = .ok (.aload_n 0, 1) := by decide +kernel
theorem dX9_init_82 : decode cX9_init 82 = .ok (.new 58, 3) := by decide +kernel
theorem dX9_init_85 : decode cX9_init 85 = .ok (.dup, 1) := by decide +kernel
theorem dX9_init_86 : decode cX9_init 86 = .ok (.invokespecial 60, 3) := by decide +kernel
theorem dX9_init_89 : decode cX9_init 89 = .ok (.putfield 61, 3) := by decide +kernel
theorem dX9_init_92 : decode cX9_init 92 = .ok (.aload_n 0, 1) := by decide +kernel
theorem dX9_init_93 : decode cX9_init 93 = .ok (.new 65, 3) := by decide +kernel
theorem dX9_init_96 : decode cX9_init 96 = .ok (.dup, 1) := by decide +kernel
theorem dX9_init_97 : decode cX9_init 97 = .ok (.invokespecial 67, 3) := by decide +kernel
theorem dX9_init_100 : decode cX9_init 100 = .ok (.putfield 68, 3) := by decide +kernel
theorem dX9_init_103 : decode cX9_init 103 = .ok (.aload_n 0, 1) := by decide +kernel
theorem dX9_init_104 : decode cX9_init 104 = .ok (.new 65, 3) := by decide +kernel
theorem dX9_init_107 : decode cX9_init 107 = .ok (.dup, 1) := by decide +kernel
theorem dX9_init_108 : decode cX9_init 108 = .ok (.invokespecial 67, 3) := by decide +kernel
theorem dX9_init_111 : decode cX9_init 111 = .ok (.putfield 72, 3) := by decide +kernel
theorem dX9_init_114 : decode cX9_init 114 = .ok (.iconst 0, 1) := by decide +kernel
theorem dX9_init_115 : decode cX9_init 115 = .ok (.istore_n 1, 1) := by decide +kernel
theorem dX9_init_116 : decode cX9_init 116 = .ok (.iload_n 1, 1) := by decide +kernel
theorem dX9_init_117 : decode cX9_init 117 = .ok (.ldc 75, 2) := by decide +kernel
theorem dX9_init_119 : decode cX9_init 119 = .ok (.invokevirtual 77, 3) := by decide +kernel
theorem dX9_init_122 : decode cX9_init 122 = .ok (.if_icmp .ge 25, 3) := by decide +kernel
theorem dX9_init_125 : decode cX9_init 125 = .ok (.aload_n 0, 1) := by decide +kernel
theorem dX9_init_126 : decode cX9_init 126 = .ok (.getfield 12, 3) := by decide +kernel
theorem dX9_init_129 : decode cX9_init 129 = .ok (.iconst 1, 1) := by decide +kernel
theorem dX9_init_130 : decode cX9_init 130 = .ok (.ldc 75, 2) := by decide +kernel
theorem dX9_init_132 : decode cX9_init 132 = .ok (.iload_n 1, 1) := by decide +kernel
theorem dX9_init_133 : decode cX9_init 133 = .ok (.invokevirtual 83, 3) := by decide +kernel
theorem dX9_init_136 : decode cX9_init 136 = .ok (.i2l, 1) := by decide +kernel
theorem dX9_init_137 : decode cX9_init 137 = .ok (.invokevirtual 87, 3) := by decide +kernel
theorem dX9_init_140 : decode cX9_init 140 = .ok (.pop, 1) := by decide +kernel
theorem dX9_init_141 : decode cX9_init 141 = .ok (.iinc 1 1, 3) := by decide +kernel
theorem dX9_init_144 : decode cX9_init 144 = .ok (.goto (-28), 3) := by decide +kernel
theorem dX9_init_147 : decode cX9_init 147 = .ok (.aload_n 0, 1) := by decide +kernel
theorem dX9_init_148 : decode cX9_init 148 = .ok (.getfield 12, 3) := by decide +kernel
theorem dX9_init_151 : decode cX9_init 151 = .ok (.aload_n 0, 1) := by decide +kernel
theorem dX9_init_152 : decode cX9_init 152 = .ok (.getfield 68, 3) := by decide +kernel
theorem dX9_init_155 : decode cX9_init 155 = .ok (.invokevirtual 91, 3) := by decide +kernel
theorem dX9_init_158 : decode cX9_init 158 = .ok (.pop, 1) := by decide +kernel
theorem dX9_init_159 : decode cX9_init 159 = .ok (.aload_n 0, 1) := by decide +kernel
theorem dX9_init_160 : decode cX9_init 160 = .ok (.getfield 12, 3) := by decide +kernel
theorem dX9_init_163 : decode cX9_init 163 = .ok (.invokevirtual 95, 3) := by decide +kernel
theorem dX9_init_166 : decode cX9_init 166 = .ok (.return_, 1) := by decide +kernel
theorem dX9_write_0 : decode cX9_write 0 = .ok (.iload_n 1, 1) := by decide +kernel
theorem dX9_write_1 : decode cX9_write 1 = .ok (.iconst 1, 1) := by decide +kernel
theorem dX9_write_2 : decode cX9_write 2 = .ok (.if_icmp .lt 9, 3) := by decide +kernel
theorem dX9_write_5 : decode cX9_write 5 = .ok (.iload_n 1, 1) := by decide +kernel
theorem dX9_write_6 : decode cX9_write 6 = .ok (.bipush 8, 2) := by decide +kernel
theorem dX9_write_8 : decode cX9_write 8 = .ok (.if_icmp .le 5, 3) := by decide +kernel
theorem dX9_write_11 : decode cX9_write 11 = .ok (.iconst (-1), 1) := by decide +kernel
theorem dX9_write_12 : decode cX9_write 12 = .ok (.ireturn, 1) := by decide +kernel
theorem dX9_write_13 : decode cX9_write 13 = .ok (.aload_n 0, 1) := by decide +kernel
theorem dX9_write_14 : decode cX9_write 14 = .ok (.getfield 12, 3) := by decide +kernel
theorem dX9_write_17 : decode cX9_write 17 = .ok (.iload_n 1, 1) := by decide +kernel
theorem dX9_write_18 : decode cX9_write 18 = .ok (.invokevirtual 98, 3) := by decide +kernel
theorem dX9_write_21 : decode cX9_write 21 = .ok (.ifCond .eq 15, 3) := by decide +kernel
theorem dX9_write_24 : decode cX9_write 24 = .ok (.aload_n 0, 1) := by decide +kernel
theorem dX9_write_25 : decode cX9_write 25 = .ok (.getfield 12, 3) := by decide +kernel
theorem dX9_write_28 : decode cX9_write 28 = .ok (.iload_n 1, 1) := by decide +kernel
theorem dX9_write_29 : decode cX9_write 29 = .ok (.lload_n 2, 1) := by decide +kernel
theorem dX9_write_30 : decode cX9_write 30 = .ok (.invokevirtual 87, 3) := by decide +kernel
theorem dX9_write_33 : decode cX9_write 33 = .ok (.goto 5, 3) := by decide +kernel
theorem dX9_write_36 : decode cX9_write 36 = .ok (.bipush (-3), 2) := by decide +kernel
theorem dX9_write_38 : decode cX9_write 38 = .ok (.ireturn, 1) := by decide +kernel
theorem dX9_wipe_0 : decode cX9_wipe 0 = .ok (.aload_n 0, 1) := by decide +kernel
theorem dX9_wipe_1 : decode cX9_wipe 1 = .ok (.getfield 12, 3) := by decide +kernel
theorem dX9_wipe_4 : decode cX9_wipe 4 = .ok (.getfield 102, 3) := by decide +kernel
theorem dX9_wipe_7 : decode cX9_wipe 7 = .ok (.istore_n 1, 1) := by decide +kernel
theorem dX9_wipe_8 : decode cX9_wipe 8 = .ok (.aload_n 0, 1) := by decide +kernel
theorem dX9_wipe_9 : decode cX9_wipe 9 = .ok (.getfield 12, 3) := by decide +kernel
theorem dX9_wipe_12 : decode cX9_wipe 12 = .ok (.invokevirtual 95, 3) := by decide +kernel
theorem dX9_wipe_15 : decode cX9_wipe 15 = .ok (.iload_n 1, 1) := by decide +kernel
theorem dX9_wipe_16 : decode cX9_wipe 16 = .ok (.ireturn, 1) := by decide +kernel
theorem dX9_fault_0 : decode cX9_fault 0 = .ok (.aload_n 0, 1) := by decide +kernel
theorem dX9_fault_1 : decode cX9_fault 1 = .ok (.getfield 12, 3) := by decide +kernel
theorem dX9_fault_4 : decode cX9_fault 4 = .ok (.aload_n 0, 1) := by decide +kernel
theorem dX9_fault_5 : decode cX9_fault 5 = .ok (.getfield 72, 3) := by decide +kernel
theorem dX9_fault_8 : decode cX9_fault 8 = .ok (.invokevirtual 91, 3) := by decide +kernel
theorem dX9_fault_11 : decode cX9_fault 11 = .ok (.ireturn, 1) := by decide +kernel
theorem dX9_lay_0 : decode cX9_lay 0 = .ok (.aload_n 0, 1) := by decide +kernel
theorem dX9_lay_1 : decode cX9_lay 1 = .ok (.getfield 12, 3) := by decide +kernel
theorem dX9_lay_4 : decode cX9_lay 4 = .ok (.aload_n 0, 1) := by decide +kernel
theorem dX9_lay_5 : decode cX9_lay 5 = .ok (.getfield 72, 3) := by decide +kernel
theorem dX9_lay_8 : decode cX9_lay 8 = .ok (.invokevirtual 91, 3) := by decide +kernel
theorem dX9_lay_11 : decode cX9_lay 11 = .ok (.bipush (-4), 2) := by decide +kernel
theorem dX9_lay_13 : decode cX9_lay 13 = .ok (.if_icmp .ne 14, 3) := by decide +kernel
theorem dX9_lay_16 : decode cX9_lay 16 = .ok (.aload_n 0, 1) := by decide +kernel
theorem dX9_lay_17 : decode cX9_lay 17 = .ok (.getfield 72, 3) := by decide +kernel
theorem dX9_lay_20 : decode cX9_lay 20 = .ok (.getfield 105, 3) := by decide +kernel
theorem dX9_lay_23 : decode cX9_lay 23 = .ok (.iconst 1, 1) := by decide +kernel
theorem dX9_lay_24 : decode cX9_lay 24 = .ok (.if_icmp .ge 6, 3) := by decide +kernel
theorem dX9_lay_27 : decode cX9_lay 27 = .ok (.bipush (-2), 2) := by decide +kernel
theorem dX9_lay_29 : decode cX9_lay 29 = .ok (.ireturn, 1) := by decide +kernel
theorem dX9_lay_30 : decode cX9_lay 30 = .ok (.aload_n 0, 1) := by decide +kernel
theorem dX9_lay_31 : decode cX9_lay 31 = .ok (.getfield 68, 3) := by decide +kernel
theorem dX9_lay_34 : decode cX9_lay 34 = .ok (.astore_n 1, 1) := by decide +kernel
theorem dX9_lay_35 : decode cX9_lay 35 = .ok (.aload_n 0, 1) := by decide +kernel
theorem dX9_lay_36 : decode cX9_lay 36 = .ok (.aload_n 0, 1) := by decide +kernel
theorem dX9_lay_37 : decode cX9_lay 37 = .ok (.getfield 72, 3) := by decide +kernel
theorem dX9_lay_40 : decode cX9_lay 40 = .ok (.putfield 68, 3) := by decide +kernel
theorem dX9_lay_43 : decode cX9_lay 43 = .ok (.aload_n 0, 1) := by decide +kernel
theorem dX9_lay_44 : decode cX9_lay 44 = .ok (.aload_n 1, 1) := by decide +kernel
theorem dX9_lay_45 : decode cX9_lay 45 = .ok (.putfield 72, 3) := by decide +kernel
theorem dX9_lay_48 : decode cX9_lay 48 = .ok (.aload_n 0, 1) := by decide +kernel
theorem dX9_lay_49 : decode cX9_lay 49 = .ok (.getfield 19, 3) := by decide +kernel
theorem dX9_lay_52 : decode cX9_lay 52 = .ok (.invokevirtual 108, 3) := by decide +kernel
theorem dX9_lay_55 : decode cX9_lay 55 = .ok (.aload_n 0, 1) := by decide +kernel
theorem dX9_lay_56 : decode cX9_lay 56 = .ok (.getfield 26, 3) := by decide +kernel
theorem dX9_lay_59 : decode cX9_lay 59 = .ok (.iconst 0, 1) := by decide +kernel
theorem dX9_lay_60 : decode cX9_lay 60 = .ok (.putfield 109, 3) := by decide +kernel
theorem dX9_lay_63 : decode cX9_lay 63 = .ok (.aload_n 0, 1) := by decide +kernel
theorem dX9_lay_64 : decode cX9_lay 64 = .ok (.getfield 47, 3) := by decide +kernel
theorem dX9_lay_67 : decode cX9_lay 67 = .ok (.invokevirtual 112, 3) := by decide +kernel
theorem dX9_lay_70 : decode cX9_lay 70 = .ok (.aload_n 0, 1) := by decide +kernel
theorem dX9_lay_71 : decode cX9_lay 71 = .ok (.getfield 68, 3) := by decide +kernel
theorem dX9_lay_74 : decode cX9_lay 74 = .ok (.getfield 105, 3) := by decide +kernel
theorem dX9_lay_77 : decode cX9_lay 77 = .ok (.ireturn, 1) := by decide +kernel
theorem dX9_person_0 : decode cX9_person 0 = .ok (.aload_n 0, 1) := by decide +kernel
theorem dX9_person_1 : decode cX9_person 1 = .ok (.getfield 68, 3) := by decide +kernel
theorem dX9_person_4 : decode cX9_person 4 = .ok (.iload_n 1, 1) := by decide +kernel
theorem dX9_person_5 : decode cX9_person 5 = .ok (.invokevirtual 115, 3) := by decide +kernel
theorem dX9_person_8 : decode cX9_person 8 = .ok (.ifCond .ne 5, 3) := by decide +kernel
theorem dX9_person_11 : decode cX9_person 11 = .ok (.iconst (-1), 1) := by decide +kernel
theorem dX9_person_12 : decode cX9_person 12 = .ok (.ireturn, 1) := by decide +kernel
theorem dX9_person_13 : decode cX9_person 13 = .ok (.iload_n 2, 1) := by decide +kernel
theorem dX9_person_14 : decode cX9_person 14 = .ok (.bipush (-2), 2) := by decide +kernel
theorem dX9_person_16 : decode cX9_person 16 = .ok (.if_icmp .ne 20, 3) := by decide +kernel
theorem dX9_person_19 : decode cX9_person 19 = .ok (.aload_n 0, 1) := by decide +kernel
theorem dX9_person_20 : decode cX9_person 20 = .ok (.getfield 19, 3) := by decide +kernel
theorem dX9_person_23 : decode cX9_person 23 = .ok (.iload_n 1, 1) := by decide +kernel
theorem dX9_person_24 : decode cX9_person 24 = .ok (.invokevirtual 118, 3) := by decide +kernel
theorem dX9_person_27 : decode cX9_person 27 = .ok (.ifCond .eq 7, 3) := by decide +kernel
theorem dX9_person_30 : decode cX9_person 30 = .ok (.iconst 1, 1) := by decide +kernel
theorem dX9_person_31 : decode cX9_person 31 = .ok (.goto 4, 3) := by decide +kernel
theorem dX9_person_34 : decode cX9_person 34 = .ok (.iconst 0, 1) := by decide +kernel
theorem dX9_person_35 : decode cX9_person 35 = .ok (.ireturn, 1) := by decide +kernel
theorem dX9_person_36 : decode cX9_person 36 = .ok (.iload_n 2, 1) := by decide +kernel
theorem dX9_person_37 : decode cX9_person 37 = .ok (.iconst (-1), 1) := by decide +kernel
theorem dX9_person_38 : decode cX9_person 38 = .ok (.if_icmp .ne 19, 3) := by decide +kernel
theorem dX9_person_41 : decode cX9_person 41 = .ok (.aload_n 0, 1) := by decide +kernel
theorem dX9_person_42 : decode cX9_person 42 = .ok (.getfield 68, 3) := by decide +kernel
theorem dX9_person_45 : decode cX9_person 45 = .ok (.aload_n 0, 1) := by decide +kernel
theorem dX9_person_46 : decode cX9_person 46 = .ok (.getfield 68, 3) := by decide +kernel
theorem dX9_person_49 : decode cX9_person 49 = .ok (.iload_n 1, 1) := by decide +kernel
theorem dX9_person_50 : decode cX9_person 50 = .ok (.invokevirtual 121, 3) := by decide +kernel
theorem dX9_person_53 : decode cX9_person 53 = .ok (.invokevirtual 125, 3) := by decide +kernel
theorem dX9_person_56 : decode cX9_person 56 = .ok (.ireturn, 1) := by decide +kernel
theorem dX9_person_57 : decode cX9_person 57 = .ok (.aload_n 0, 1) := by decide +kernel
theorem dX9_person_58 : decode cX9_person 58 = .ok (.getfield 68, 3) := by decide +kernel
theorem dX9_person_61 : decode cX9_person 61 = .ok (.iload_n 2, 1) := by decide +kernel
theorem dX9_person_62 : decode cX9_person 62 = .ok (.invokevirtual 128, 3) := by decide +kernel
theorem dX9_person_65 : decode cX9_person 65 = .ok (.ifCond .eq 18, 3) := by decide +kernel
theorem dX9_person_68 : decode cX9_person 68 = .ok (.aload_n 0, 1) := by decide +kernel
theorem dX9_person_69 : decode cX9_person 69 = .ok (.getfield 68, 3) := by decide +kernel
theorem dX9_person_72 : decode cX9_person 72 = .ok (.iload_n 1, 1) := by decide +kernel
theorem dX9_person_73 : decode cX9_person 73 = .ok (.invokevirtual 121, 3) := by decide +kernel
theorem dX9_person_76 : decode cX9_person 76 = .ok (.iload_n 2, 1) := by decide +kernel
theorem dX9_person_77 : decode cX9_person 77 = .ok (.invokestatic 131, 3) := by decide +kernel
theorem dX9_person_80 : decode cX9_person 80 = .ok (.goto 4, 3) := by decide +kernel
theorem dX9_person_83 : decode cX9_person 83 = .ok (.iconst (-1), 1) := by decide +kernel
theorem dX9_person_84 : decode cX9_person 84 = .ok (.ireturn, 1) := by decide +kernel
theorem dX9_differ_0 : decode cX9_differ 0 = .ok (.aload_n 0, 1) := by decide +kernel
theorem dX9_differ_1 : decode cX9_differ 1 = .ok (.getfield 68, 3) := by decide +kernel
theorem dX9_differ_4 : decode cX9_differ 4 = .ok (.iload_n 1, 1) := by decide +kernel
theorem dX9_differ_5 : decode cX9_differ 5 = .ok (.invokevirtual 115, 3) := by decide +kernel
theorem dX9_differ_8 : decode cX9_differ 8 = .ok (.ifCond .eq 14, 3) := by decide +kernel
theorem dX9_differ_11 : decode cX9_differ 11 = .ok (.aload_n 0, 1) := by decide +kernel
theorem dX9_differ_12 : decode cX9_differ 12 = .ok (.getfield 68, 3) := by decide +kernel
theorem dX9_differ_15 : decode cX9_differ 15 = .ok (.iload_n 2, 1) := by decide +kernel
theorem dX9_differ_16 : decode cX9_differ 16 = .ok (.invokevirtual 115, 3) := by decide +kernel
theorem dX9_differ_19 : decode cX9_differ 19 = .ok (.ifCond .ne 5, 3) := by decide +kernel
theorem dX9_differ_22 : decode cX9_differ 22 = .ok (.iconst (-1), 1) := by decide +kernel
theorem dX9_differ_23 : decode cX9_differ 23 = .ok (.ireturn, 1) := by decide +kernel
theorem dX9_differ_24 : decode cX9_differ 24 = .ok (.iload_n 3, 1) := by decide +kernel
theorem dX9_differ_25 : decode cX9_differ 25 = .ok (.ifCond .eq 15, 3) := by decide +kernel
theorem dX9_differ_28 : decode cX9_differ 28 = .ok (.aload_n 0, 1) := by decide +kernel
theorem dX9_differ_29 : decode cX9_differ 29 = .ok (.getfield 68, 3) := by decide +kernel
theorem dX9_differ_32 : decode cX9_differ 32 = .ok (.iload_n 1, 1) := by decide +kernel
theorem dX9_differ_33 : decode cX9_differ 33 = .ok (.iload_n 2, 1) := by decide +kernel
theorem dX9_differ_34 : decode cX9_differ 34 = .ok (.invokevirtual 135, 3) := by decide +kernel
theorem dX9_differ_37 : decode cX9_differ 37 = .ok (.goto 22, 3) := by decide +kernel
theorem dX9_differ_40 : decode cX9_differ 40 = .ok (.aload_n 0, 1) := by decide +kernel
theorem dX9_differ_41 : decode cX9_differ 41 = .ok (.getfield 68, 3) := by decide +kernel
theorem dX9_differ_44 : decode cX9_differ 44 = .ok (.iload_n 1, 1) := by decide +kernel
theorem dX9_differ_45 : decode cX9_differ 45 = .ok (.invokevirtual 121, 3) := by decide +kernel
theorem dX9_differ_48 : decode cX9_differ 48 = .ok (.aload_n 0, 1) := by decide +kernel
theorem dX9_differ_49 : decode cX9_differ 49 = .ok (.getfield 68, 3) := by decide +kernel
theorem dX9_differ_52 : decode cX9_differ 52 = .ok (.iload_n 2, 1) := by decide +kernel
theorem dX9_differ_53 : decode cX9_differ 53 = .ok (.invokevirtual 121, 3) := by decide +kernel
theorem dX9_differ_56 : decode cX9_differ 56 = .ok (.invokestatic 138, 3) := by decide +kernel
theorem dX9_differ_59 : decode cX9_differ 59 = .ok (.ireturn, 1) := by decide +kernel
theorem dX9_may_0 : decode cX9_may 0 = .ok (.aload_n 0, 1) := by decide +kernel
theorem dX9_may_1 : decode cX9_may 1 = .ok (.getfield 68, 3) := by decide +kernel
theorem dX9_may_4 : decode cX9_may 4 = .ok (.iload_n 1, 1) := by decide +kernel
theorem dX9_may_5 : decode cX9_may 5 = .ok (.invokevirtual 115, 3) := by decide +kernel
theorem dX9_may_8 : decode cX9_may 8 = .ok (.ifCond .ne 5, 3) := by decide +kernel
theorem dX9_may_11 : decode cX9_may 11 = .ok (.iconst (-1), 1) := by decide +kernel
theorem dX9_may_12 : decode cX9_may 12 = .ok (.ireturn, 1) := by decide +kernel
theorem dX9_may_13 : decode cX9_may 13 = .ok (.aload_n 0, 1) := by decide +kernel
theorem dX9_may_14 : decode cX9_may 14 = .ok (.getfield 19, 3) := by decide +kernel
theorem dX9_may_17 : decode cX9_may 17 = .ok (.getfield 141, 3) := by decide +kernel
theorem dX9_may_20 : decode cX9_may 20 = .ok (.aload_n 0, 1) := by decide +kernel
theorem dX9_may_21 : decode cX9_may 21 = .ok (.getfield 68, 3) := by decide +kernel
theorem dX9_may_24 : decode cX9_may 24 = .ok (.iload_n 1, 1) := by decide +kernel
theorem dX9_may_25 : decode cX9_may 25 = .ok (.invokevirtual 142, 3) := by decide +kernel
theorem dX9_may_28 : decode cX9_may 28 = .ok (.ifCond .eq 7, 3) := by decide +kernel
theorem dX9_may_31 : decode cX9_may 31 = .ok (.iconst 1, 1) := by decide +kernel
theorem dX9_may_32 : decode cX9_may 32 = .ok (.goto 4, 3) := by decide +kernel
theorem dX9_may_35 : decode cX9_may 35 = .ok (.iconst 0, 1) := by decide +kernel
theorem dX9_may_36 : decode cX9_may 36 = .ok (.ireturn, 1) := by decide +kernel
theorem dX9_goIn_0 : decode cX9_goIn 0 = .ok (.aload_n 0, 1) := by decide +kernel
theorem dX9_goIn_1 : decode cX9_goIn 1 = .ok (.getfield 68, 3) := by decide +kernel
theorem dX9_goIn_4 : decode cX9_goIn 4 = .ok (.iload_n 1, 1) := by decide +kernel
theorem dX9_goIn_5 : decode cX9_goIn 5 = .ok (.invokevirtual 115, 3) := by decide +kernel
theorem dX9_goIn_8 : decode cX9_goIn 8 = .ok (.ifCond .ne 5, 3) := by decide +kernel
theorem dX9_goIn_11 : decode cX9_goIn 11 = .ok (.iconst (-1), 1) := by decide +kernel
theorem dX9_goIn_12 : decode cX9_goIn 12 = .ok (.ireturn, 1) := by decide +kernel
theorem dX9_goIn_13 : decode cX9_goIn 13 = .ok (.aload_n 0, 1) := by decide +kernel
theorem dX9_goIn_14 : decode cX9_goIn 14 = .ok (.getfield 19, 3) := by decide +kernel
theorem dX9_goIn_17 : decode cX9_goIn 17 = .ok (.iload_n 1, 1) := by decide +kernel
theorem dX9_goIn_18 : decode cX9_goIn 18 = .ok (.invokevirtual 118, 3) := by decide +kernel
theorem dX9_goIn_21 : decode cX9_goIn 21 = .ok (.ifCond .eq 8, 3) := by decide +kernel
theorem dX9_goIn_24 : decode cX9_goIn 24 = .ok (.bipush (-2), 2) := by decide +kernel
theorem dX9_goIn_26 : decode cX9_goIn 26 = .ok (.goto 8, 3) := by decide +kernel
theorem dX9_goIn_29 : decode cX9_goIn 29 = .ok (.aload_n 0, 1) := by decide +kernel
theorem dX9_goIn_30 : decode cX9_goIn 30 = .ok (.iload_n 1, 1) := by decide +kernel
theorem dX9_goIn_31 : decode cX9_goIn 31 = .ok (.invokevirtual 146, 3) := by decide +kernel
theorem dX9_goIn_34 : decode cX9_goIn 34 = .ok (.ireturn, 1) := by decide +kernel
theorem dX9_goOut_0 : decode cX9_goOut 0 = .ok (.aload_n 0, 1) := by decide +kernel
theorem dX9_goOut_1 : decode cX9_goOut 1 = .ok (.getfield 68, 3) := by decide +kernel
theorem dX9_goOut_4 : decode cX9_goOut 4 = .ok (.iload_n 1, 1) := by decide +kernel
theorem dX9_goOut_5 : decode cX9_goOut 5 = .ok (.invokevirtual 115, 3) := by decide +kernel
theorem dX9_goOut_8 : decode cX9_goOut 8 = .ok (.ifCond .ne 5, 3) := by decide +kernel
theorem dX9_goOut_11 : decode cX9_goOut 11 = .ok (.iconst (-1), 1) := by decide +kernel
theorem dX9_goOut_12 : decode cX9_goOut 12 = .ok (.ireturn, 1) := by decide +kernel
theorem dX9_goOut_13 : decode cX9_goOut 13 = .ok (.aload_n 0, 1) := by decide +kernel
theorem dX9_goOut_14 : decode cX9_goOut 14 = .ok (.getfield 19, 3) := by decide +kernel
theorem dX9_goOut_17 : decode cX9_goOut 17 = .ok (.iload_n 1, 1) := by decide +kernel
theorem dX9_goOut_18 : decode cX9_goOut 18 = .ok (.invokevirtual 118, 3) := by decide +kernel
theorem dX9_goOut_21 : decode cX9_goOut 21 = .ok (.ifCond .eq 11, 3) := by decide +kernel
theorem dX9_goOut_24 : decode cX9_goOut 24 = .ok (.aload_n 0, 1) := by decide +kernel
theorem dX9_goOut_25 : decode cX9_goOut 25 = .ok (.iload_n 1, 1) := by decide +kernel
theorem dX9_goOut_26 : decode cX9_goOut 26 = .ok (.invokevirtual 146, 3) := by decide +kernel
theorem dX9_goOut_29 : decode cX9_goOut 29 = .ok (.goto 5, 3) := by decide +kernel
theorem dX9_goOut_32 : decode cX9_goOut 32 = .ok (.bipush (-2), 2) := by decide +kernel
theorem dX9_goOut_34 : decode cX9_goOut 34 = .ok (.ireturn, 1) := by decide +kernel
theorem dX9_passGate_0 : decode cX9_passGate 0 = .ok (.aload_n 0, 1) := by decide +kernel
theorem dX9_passGate_1 : decode cX9_passGate 1 = .ok (.getfield 19, 3) := by decide +kernel
theorem dX9_passGate_4 : decode cX9_passGate 4 = .ok (.getfield 141, 3) := by decide +kernel
theorem dX9_passGate_7 : decode cX9_passGate 7 = .ok (.aload_n 0, 1) := by decide +kernel
theorem dX9_passGate_8 : decode cX9_passGate 8 = .ok (.getfield 68, 3) := by decide +kernel
theorem dX9_passGate_11 : decode cX9_passGate 11 = .ok (.iload_n 1, 1) := by decide +kernel
theorem dX9_passGate_12 : decode cX9_passGate 12 = .ok (.invokevirtual 142, 3) := by decide +kernel
theorem dX9_passGate_15 : decode cX9_passGate 15 = .ok (.ifCond .ne 6, 3) := by decide +kernel
theorem dX9_passGate_18 : decode cX9_passGate 18 = .ok (.bipush (-2), 2) := by decide +kernel
theorem dX9_passGate_20 : decode cX9_passGate 20 = .ok (.ireturn, 1) := by decide +kernel
theorem dX9_passGate_21 : decode cX9_passGate 21 = .ok (.aload_n 0, 1) := by decide +kernel
theorem dX9_passGate_22 : decode cX9_passGate 22 = .ok (.getfield 19, 3) := by decide +kernel
theorem dX9_passGate_25 : decode cX9_passGate 25 = .ok (.aload_n 0, 1) := by decide +kernel
theorem dX9_passGate_26 : decode cX9_passGate 26 = .ok (.getfield 68, 3) := by decide +kernel
theorem dX9_passGate_29 : decode cX9_passGate 29 = .ok (.iload_n 1, 1) := by decide +kernel
theorem dX9_passGate_30 : decode cX9_passGate 30 = .ok (.invokevirtual 149, 3) := by decide +kernel
theorem dX9_passGate_33 : decode cX9_passGate 33 = .ok (.aload_n 0, 1) := by decide +kernel
theorem dX9_passGate_34 : decode cX9_passGate 34 = .ok (.getfield 19, 3) := by decide +kernel
theorem dX9_passGate_37 : decode cX9_passGate 37 = .ok (.invokevirtual 153, 3) := by decide +kernel
theorem dX9_passGate_40 : decode cX9_passGate 40 = .ok (.ireturn, 1) := by decide +kernel
theorem dX9_undo_0 : decode cX9_undo 0 = .ok (.aload_n 0, 1) := by decide +kernel
theorem dX9_undo_1 : decode cX9_undo 1 = .ok (.getfield 19, 3) := by decide +kernel
theorem dX9_undo_4 : decode cX9_undo 4 = .ok (.invokevirtual 156, 3) := by decide +kernel
theorem dX9_undo_7 : decode cX9_undo 7 = .ok (.ifCond .eq 13, 3) := by decide +kernel
theorem dX9_undo_10 : decode cX9_undo 10 = .ok (.aload_n 0, 1) := by decide +kernel
theorem dX9_undo_11 : decode cX9_undo 11 = .ok (.getfield 19, 3) := by decide +kernel
theorem dX9_undo_14 : decode cX9_undo 14 = .ok (.getfield 160, 3) := by decide +kernel
theorem dX9_undo_17 : decode cX9_undo 17 = .ok (.goto 5, 3) := by decide +kernel
theorem dX9_undo_20 : decode cX9_undo 20 = .ok (.bipush (-2), 2) := by decide +kernel
theorem dX9_undo_22 : decode cX9_undo 22 = .ok (.ireturn, 1) := by decide +kernel
theorem dX9_last_0 : decode cX9_last 0 = .ok (.aload_n 0, 1) := by decide +kernel
theorem dX9_last_1 : decode cX9_last 1 = .ok (.getfield 19, 3) := by decide +kernel
theorem dX9_last_4 : decode cX9_last 4 = .ok (.getfield 141, 3) := by decide +kernel
theorem dX9_last_7 : decode cX9_last 7 = .ok (.getfield 163, 3) := by decide +kernel
theorem dX9_last_10 : decode cX9_last 10 = .ok (.iconst (-1), 1) := by decide +kernel
theorem dX9_last_11 : decode cX9_last 11 = .ok (.if_icmp .ne 8, 3) := by decide +kernel
theorem dX9_last_14 : decode cX9_last 14 = .ok (.bipush (-4), 2) := by decide +kernel
theorem dX9_last_16 : decode cX9_last 16 = .ok (.goto 13, 3) := by decide +kernel
theorem dX9_last_19 : decode cX9_last 19 = .ok (.aload_n 0, 1) := by decide +kernel
theorem dX9_last_20 : decode cX9_last 20 = .ok (.getfield 19, 3) := by decide +kernel
theorem dX9_last_23 : decode cX9_last 23 = .ok (.getfield 141, 3) := by decide +kernel
theorem dX9_last_26 : decode cX9_last 26 = .ok (.getfield 163, 3) := by decide +kernel
theorem dX9_last_29 : decode cX9_last 29 = .ok (.ireturn, 1) := by decide +kernel
theorem dX9_add_0 : decode cX9_add 0 = .ok (.aload_n 0, 1) := by decide +kernel
theorem dX9_add_1 : decode cX9_add 1 = .ok (.getfield 68, 3) := by decide +kernel
theorem dX9_add_4 : decode cX9_add 4 = .ok (.iload_n 1, 1) := by decide +kernel
theorem dX9_add_5 : decode cX9_add 5 = .ok (.invokevirtual 115, 3) := by decide +kernel
theorem dX9_add_8 : decode cX9_add 8 = .ok (.ifCond .ne 5, 3) := by decide +kernel
theorem dX9_add_11 : decode cX9_add 11 = .ok (.iconst (-1), 1) := by decide +kernel
theorem dX9_add_12 : decode cX9_add 12 = .ok (.ireturn, 1) := by decide +kernel
theorem dX9_add_13 : decode cX9_add 13 = .ok (.aload_n 0, 1) := by decide +kernel
theorem dX9_add_14 : decode cX9_add 14 = .ok (.getfield 26, 3) := by decide +kernel
theorem dX9_add_17 : decode cX9_add 17 = .ok (.iload_n 1, 1) := by decide +kernel
theorem dX9_add_18 : decode cX9_add 18 = .ok (.invokevirtual 166, 3) := by decide +kernel
theorem dX9_add_21 : decode cX9_add 21 = .ok (.ifCond .eq 13, 3) := by decide +kernel
theorem dX9_add_24 : decode cX9_add 24 = .ok (.aload_n 0, 1) := by decide +kernel
theorem dX9_add_25 : decode cX9_add 25 = .ok (.getfield 26, 3) := by decide +kernel
theorem dX9_add_28 : decode cX9_add 28 = .ok (.getfield 109, 3) := by decide +kernel
theorem dX9_add_31 : decode cX9_add 31 = .ok (.goto 5, 3) := by decide +kernel
theorem dX9_add_34 : decode cX9_add 34 = .ok (.bipush (-3), 2) := by decide +kernel
theorem dX9_add_36 : decode cX9_add 36 = .ok (.ireturn, 1) := by decide +kernel
theorem dX9_noRow_0 : decode cX9_noRow 0 = .ok (.aload_n 0, 1) := by decide +kernel
theorem dX9_noRow_1 : decode cX9_noRow 1 = .ok (.getfield 26, 3) := by decide +kernel
theorem dX9_noRow_4 : decode cX9_noRow 4 = .ok (.getfield 109, 3) := by decide +kernel
theorem dX9_noRow_7 : decode cX9_noRow 7 = .ok (.istore_n 1, 1) := by decide +kernel
theorem dX9_noRow_8 : decode cX9_noRow 8 = .ok (.aload_n 0, 1) := by decide +kernel
theorem dX9_noRow_9 : decode cX9_noRow 9 = .ok (.getfield 26, 3) := by decide +kernel
theorem dX9_noRow_12 : decode cX9_noRow 12 = .ok (.iconst 0, 1) := by decide +kernel
theorem dX9_noRow_13 : decode cX9_noRow 13 = .ok (.putfield 109, 3) := by decide +kernel
theorem dX9_noRow_16 : decode cX9_noRow 16 = .ok (.iload_n 1, 1) := by decide +kernel
theorem dX9_noRow_17 : decode cX9_noRow 17 = .ok (.ireturn, 1) := by decide +kernel
theorem dX9_judge_0 : decode cX9_judge 0 = .ok (.aload_n 0, 1) := by decide +kernel
theorem dX9_judge_1 : decode cX9_judge 1 = .ok (.getfield 33, 3) := by decide +kernel
theorem dX9_judge_4 : decode cX9_judge 4 = .ok (.invokevirtual 168, 3) := by decide +kernel
theorem dX9_judge_7 : decode cX9_judge 7 = .ok (.iconst 0, 1) := by decide +kernel
theorem dX9_judge_8 : decode cX9_judge 8 = .ok (.istore_n 1, 1) := by decide +kernel
theorem dX9_judge_9 : decode cX9_judge 9 = .ok (.iload_n 1, 1) := by decide +kernel
theorem dX9_judge_10 : decode cX9_judge 10 = .ok (.aload_n 0, 1) := by decide +kernel
theorem dX9_judge_11 : decode cX9_judge 11 = .ok (.getfield 26, 3) := by decide +kernel
theorem dX9_judge_14 : decode cX9_judge 14 = .ok (.getfield 109, 3) := by decide +kernel
theorem dX9_judge_17 : decode cX9_judge 17 = .ok (.if_icmp .ge 47, 3) := by decide +kernel
theorem dX9_judge_20 : decode cX9_judge 20 = .ok (.aload_n 0, 1) := by decide +kernel
theorem dX9_judge_21 : decode cX9_judge 21 = .ok (.getfield 26, 3) := by decide +kernel
theorem dX9_judge_24 : decode cX9_judge 24 = .ok (.iload_n 1, 1) := by decide +kernel
theorem dX9_judge_25 : decode cX9_judge 25 = .ok (.invokevirtual 169, 3) := by decide +kernel
theorem dX9_judge_28 : decode cX9_judge 28 = .ok (.istore_n 2, 1) := by decide +kernel
theorem dX9_judge_29 : decode cX9_judge 29 = .ok (.aload_n 0, 1) := by decide +kernel
theorem dX9_judge_30 : decode cX9_judge 30 = .ok (.getfield 33, 3) := by decide +kernel
theorem dX9_judge_33 : decode cX9_judge 33 = .ok (.aload_n 0, 1) := by decide +kernel
theorem dX9_judge_34 : decode cX9_judge 34 = .ok (.getfield 68, 3) := by decide +kernel
theorem dX9_judge_37 : decode cX9_judge 37 = .ok (.iload_n 2, 1) := by decide +kernel
theorem dX9_judge_38 : decode cX9_judge 38 = .ok (.invokevirtual 142, 3) := by decide +kernel
theorem dX9_judge_41 : decode cX9_judge 41 = .ok (.ifCond .ne 5, 3) := by decide +kernel
theorem dX9_judge_44 : decode cX9_judge 44 = .ok (.iload_n 1, 1) := by decide +kernel
theorem dX9_judge_45 : decode cX9_judge 45 = .ok (.ireturn, 1) := by decide +kernel
theorem dX9_judge_46 : decode cX9_judge 46 = .ok (.aload_n 0, 1) := by decide +kernel
theorem dX9_judge_47 : decode cX9_judge 47 = .ok (.getfield 33, 3) := by decide +kernel
theorem dX9_judge_50 : decode cX9_judge 50 = .ok (.aload_n 0, 1) := by decide +kernel
theorem dX9_judge_51 : decode cX9_judge 51 = .ok (.getfield 68, 3) := by decide +kernel
theorem dX9_judge_54 : decode cX9_judge 54 = .ok (.iload_n 2, 1) := by decide +kernel
theorem dX9_judge_55 : decode cX9_judge 55 = .ok (.invokevirtual 172, 3) := by decide +kernel
theorem dX9_judge_58 : decode cX9_judge 58 = .ok (.iinc 1 1, 3) := by decide +kernel
theorem dX9_judge_61 : decode cX9_judge 61 = .ok (.goto (-52), 3) := by decide +kernel
theorem dX9_judge_64 : decode cX9_judge 64 = .ok (.bipush (-4), 2) := by decide +kernel
theorem dX9_judge_66 : decode cX9_judge 66 = .ok (.ireturn, 1) := by decide +kernel
theorem dX9_longest_0 : decode cX9_longest 0 = .ok (.iload_n 1, 1) := by decide +kernel
theorem dX9_longest_1 : decode cX9_longest 1 = .ok (.ifCond .lt 21, 3) := by decide +kernel
theorem dX9_longest_4 : decode cX9_longest 4 = .ok (.iload_n 1, 1) := by decide +kernel
theorem dX9_longest_5 : decode cX9_longest 5 = .ok (.iconst 1, 1) := by decide +kernel
theorem dX9_longest_6 : decode cX9_longest 6 = .ok (.aload_n 0, 1) := by decide +kernel
theorem dX9_longest_7 : decode cX9_longest 7 = .ok (.getfield 68, 3) := by decide +kernel
theorem dX9_longest_10 : decode cX9_longest 10 = .ok (.getfield 105, 3) := by decide +kernel
theorem dX9_longest_13 : decode cX9_longest 13 = .ok (.ishl, 1) := by decide +kernel
theorem dX9_longest_14 : decode cX9_longest 14 = .ok (.if_icmp .ge 8, 3) := by decide +kernel
theorem dX9_longest_17 : decode cX9_longest 17 = .ok (.iload_n 2, 1) := by decide +kernel
theorem dX9_longest_18 : decode cX9_longest 18 = .ok (.iconst (-1), 1) := by decide +kernel
theorem dX9_longest_19 : decode cX9_longest 19 = .ok (.if_icmp .ge 5, 3) := by decide +kernel
theorem dX9_longest_22 : decode cX9_longest 22 = .ok (.iconst (-1), 1) := by decide +kernel
theorem dX9_longest_23 : decode cX9_longest 23 = .ok (.ireturn, 1) := by decide +kernel
theorem dX9_longest_24 : decode cX9_longest 24 = .ok (.aload_n 0, 1) := by decide +kernel
theorem dX9_longest_25 : decode cX9_longest 25 = .ok (.getfield 47, 3) := by decide +kernel
theorem dX9_longest_28 : decode cX9_longest 28 = .ok (.aload_n 0, 1) := by decide +kernel
theorem dX9_longest_29 : decode cX9_longest 29 = .ok (.getfield 68, 3) := by decide +kernel
theorem dX9_longest_32 : decode cX9_longest 32 = .ok (.iload_n 1, 1) := by decide +kernel
theorem dX9_longest_33 : decode cX9_longest 33 = .ok (.invokevirtual 175, 3) := by decide +kernel
theorem dX9_longest_36 : decode cX9_longest 36 = .ok (.istore_n 3, 1) := by decide +kernel
theorem dX9_longest_37 : decode cX9_longest 37 = .ok (.iload_n 2, 1) := by decide +kernel
theorem dX9_longest_38 : decode cX9_longest 38 = .ok (.iconst (-1), 1) := by decide +kernel
theorem dX9_longest_39 : decode cX9_longest 39 = .ok (.if_icmp .ne 5, 3) := by decide +kernel
theorem dX9_longest_42 : decode cX9_longest 42 = .ok (.iload_n 3, 1) := by decide +kernel
theorem dX9_longest_43 : decode cX9_longest 43 = .ok (.ireturn, 1) := by decide +kernel
theorem dX9_longest_44 : decode cX9_longest 44 = .ok (.iload_n 2, 1) := by decide +kernel
theorem dX9_longest_45 : decode cX9_longest 45 = .ok (.iload_n 3, 1) := by decide +kernel
theorem dX9_longest_46 : decode cX9_longest 46 = .ok (.if_icmp .ge 24, 3) := by decide +kernel
theorem dX9_longest_49 : decode cX9_longest 49 = .ok (.aload_n 0, 1) := by decide +kernel
theorem dX9_longest_50 : decode cX9_longest 50 = .ok (.getfield 47, 3) := by decide +kernel
theorem dX9_longest_53 : decode cX9_longest 53 = .ok (.aload_n 0, 1) := by decide +kernel
theorem dX9_longest_54 : decode cX9_longest 54 = .ok (.getfield 68, 3) := by decide +kernel
theorem dX9_longest_57 : decode cX9_longest 57 = .ok (.aload_n 0, 1) := by decide +kernel
theorem dX9_longest_58 : decode cX9_longest 58 = .ok (.getfield 33, 3) := by decide +kernel
theorem dX9_longest_61 : decode cX9_longest 61 = .ok (.iload_n 1, 1) := by decide +kernel
theorem dX9_longest_62 : decode cX9_longest 62 = .ok (.iload_n 3, 1) := by decide +kernel
theorem dX9_longest_63 : decode cX9_longest 63 = .ok (.iload_n 2, 1) := by decide +kernel
theorem dX9_longest_64 : decode cX9_longest 64 = .ok (.invokevirtual 179, 3) := by decide +kernel
theorem dX9_longest_67 : decode cX9_longest 67 = .ok (.goto 5, 3) := by decide +kernel
theorem dX9_longest_70 : decode cX9_longest 70 = .ok (.bipush (-4), 2) := by decide +kernel
theorem dX9_longest_72 : decode cX9_longest 72 = .ok (.ireturn, 1) := by decide +kernel
theorem dX9_proof_0 : decode cX9_proof 0 = .ok (.aload_n 0, 1) := by decide +kernel
theorem dX9_proof_1 : decode cX9_proof 1 = .ok (.getfield 68, 3) := by decide +kernel
theorem dX9_proof_4 : decode cX9_proof 4 = .ok (.getfield 183, 3) := by decide +kernel
theorem dX9_proof_7 : decode cX9_proof 7 = .ok (.ifCond .ne 35, 3) := by decide +kernel
theorem dX9_proof_10 : decode cX9_proof 10 = .ok (.aload_n 0, 1) := by decide +kernel
theorem dX9_proof_11 : decode cX9_proof 11 = .ok (.getfield 68, 3) := by decide +kernel
theorem dX9_proof_14 : decode cX9_proof 14 = .ok (.invokevirtual 186, 3) := by decide +kernel
theorem dX9_proof_17 : decode cX9_proof 17 = .ok (.aload_n 0, 1) := by decide +kernel
theorem dX9_proof_18 : decode cX9_proof 18 = .ok (.getfield 68, 3) := by decide +kernel
theorem dX9_proof_21 : decode cX9_proof 21 = .ok (.invokevirtual 189, 3) := by decide +kernel
theorem dX9_proof_24 : decode cX9_proof 24 = .ok (.if_icmp .ne 18, 3) := by decide +kernel
theorem dX9_proof_27 : decode cX9_proof 27 = .ok (.aload_n 0, 1) := by decide +kernel
theorem dX9_proof_28 : decode cX9_proof 28 = .ok (.getfield 68, 3) := by decide +kernel
theorem dX9_proof_31 : decode cX9_proof 31 = .ok (.iconst 2, 1) := by decide +kernel
theorem dX9_proof_32 : decode cX9_proof 32 = .ok (.invokevirtual 192, 3) := by decide +kernel
theorem dX9_proof_35 : decode cX9_proof 35 = .ok (.ifCond .ne 7, 3) := by decide +kernel
theorem dX9_proof_38 : decode cX9_proof 38 = .ok (.iconst 1, 1) := by decide +kernel
theorem dX9_proof_39 : decode cX9_proof 39 = .ok (.goto 4, 3) := by decide +kernel
theorem dX9_proof_42 : decode cX9_proof 42 = .ok (.iconst 0, 1) := by decide +kernel
theorem dX9_proof_43 : decode cX9_proof 43 = .ok (.istore_n 1, 1) := by decide +kernel
theorem dX9_proof_44 : decode cX9_proof 44 = .ok (.iload_n 1, 1) := by decide +kernel
theorem dX9_proof_45 : decode cX9_proof 45 = .ok (.ifCond .eq 21, 3) := by decide +kernel
theorem dX9_proof_48 : decode cX9_proof 48 = .ok (.aload_n 0, 1) := by decide +kernel
theorem dX9_proof_49 : decode cX9_proof 49 = .ok (.getfield 68, 3) := by decide +kernel
theorem dX9_proof_52 : decode cX9_proof 52 = .ok (.invokevirtual 195, 3) := by decide +kernel
theorem dX9_proof_55 : decode cX9_proof 55 = .ok (.invokestatic 198, 3) := by decide +kernel
theorem dX9_proof_58 : decode cX9_proof 58 = .ok (.iconst 2, 1) := by decide +kernel
theorem dX9_proof_59 : decode cX9_proof 59 = .ok (.if_icmp .lt 7, 3) := by decide +kernel
theorem dX9_proof_62 : decode cX9_proof 62 = .ok (.iconst 1, 1) := by decide +kernel
theorem dX9_proof_63 : decode cX9_proof 63 = .ok (.goto 4, 3) := by decide +kernel
theorem dX9_proof_66 : decode cX9_proof 66 = .ok (.iconst 0, 1) := by decide +kernel
theorem dX9_proof_67 : decode cX9_proof 67 = .ok (.ireturn, 1) := by decide +kernel
theorem dX9_between_0 : decode cX9_between 0 = .ok (.aload_n 0, 1) := by decide +kernel
theorem dX9_between_1 : decode cX9_between 1 = .ok (.getfield 68, 3) := by decide +kernel
theorem dX9_between_4 : decode cX9_between 4 = .ok (.iload_n 1, 1) := by decide +kernel
theorem dX9_between_5 : decode cX9_between 5 = .ok (.invokevirtual 115, 3) := by decide +kernel
theorem dX9_between_8 : decode cX9_between 8 = .ok (.ifCond .eq 24, 3) := by decide +kernel
theorem dX9_between_11 : decode cX9_between 11 = .ok (.aload_n 0, 1) := by decide +kernel
theorem dX9_between_12 : decode cX9_between 12 = .ok (.getfield 68, 3) := by decide +kernel
theorem dX9_between_15 : decode cX9_between 15 = .ok (.iload_n 2, 1) := by decide +kernel
theorem dX9_between_16 : decode cX9_between 16 = .ok (.invokevirtual 115, 3) := by decide +kernel
theorem dX9_between_19 : decode cX9_between 19 = .ok (.ifCond .eq 13, 3) := by decide +kernel
theorem dX9_between_22 : decode cX9_between 22 = .ok (.iload_n 3, 1) := by decide +kernel
theorem dX9_between_23 : decode cX9_between 23 = .ok (.ifCond .lt 9, 3) := by decide +kernel
theorem dX9_between_26 : decode cX9_between 26 = .ok (.iload_n 3, 1) := by decide +kernel
theorem dX9_between_27 : decode cX9_between 27 = .ok (.bipush 12, 2) := by decide +kernel
theorem dX9_between_29 : decode cX9_between 29 = .ok (.if_icmp .le 7, 3) := by decide +kernel
theorem dX9_between_32 : decode cX9_between 32 = .ok (.ldc2_w 203, 3) := by decide +kernel
theorem dX9_between_35 : decode cX9_between 35 = .ok (.lreturn, 1) := by decide +kernel
theorem dX9_between_36 : decode cX9_between 36 = .ok (.aload_n 0, 1) := by decide +kernel
theorem dX9_between_37 : decode cX9_between 37 = .ok (.getfield 40, 3) := by decide +kernel
theorem dX9_between_40 : decode cX9_between 40 = .ok (.iload_n 1, 1) := by decide +kernel
theorem dX9_between_41 : decode cX9_between 41 = .ok (.invokevirtual 205, 3) := by decide +kernel
theorem dX9_between_44 : decode cX9_between 44 = .ok (.iconst 0, 1) := by decide +kernel
theorem dX9_between_45 : decode cX9_between 45 = .ok (.istore 4, 2) := by decide +kernel
theorem dX9_between_47 : decode cX9_between 47 = .ok (.iload 4, 2) := by decide +kernel
theorem dX9_between_49 : decode cX9_between 49 = .ok (.iload_n 3, 1) := by decide +kernel
theorem dX9_between_50 : decode cX9_between 50 = .ok (.if_icmp .gt 20, 3) := by decide +kernel
theorem dX9_between_53 : decode cX9_between 53 = .ok (.aload_n 0, 1) := by decide +kernel
theorem dX9_between_54 : decode cX9_between 54 = .ok (.getfield 40, 3) := by decide +kernel
theorem dX9_between_57 : decode cX9_between 57 = .ok (.aload_n 0, 1) := by decide +kernel
theorem dX9_between_58 : decode cX9_between 58 = .ok (.getfield 68, 3) := by decide +kernel
theorem dX9_between_61 : decode cX9_between 61 = .ok (.invokevirtual 209, 3) := by decide +kernel
theorem dX9_between_64 : decode cX9_between 64 = .ok (.iinc 4 1, 3) := by decide +kernel
theorem dX9_between_67 : decode cX9_between 67 = .ok (.goto (-20), 3) := by decide +kernel
theorem dX9_between_70 : decode cX9_between 70 = .ok (.aload_n 0, 1) := by decide +kernel
theorem dX9_between_71 : decode cX9_between 71 = .ok (.getfield 40, 3) := by decide +kernel
theorem dX9_between_74 : decode cX9_between 74 = .ok (.iload_n 2, 1) := by decide +kernel
theorem dX9_between_75 : decode cX9_between 75 = .ok (.invokevirtual 213, 3) := by decide +kernel
theorem dX9_between_78 : decode cX9_between 78 = .ok (.lreturn, 1) := by decide +kernel
theorem dX9_nearest_0 : decode cX9_nearest 0 = .ok (.aload_n 0, 1) := by decide +kernel
theorem dX9_nearest_1 : decode cX9_nearest 1 = .ok (.getfield 68, 3) := by decide +kernel
theorem dX9_nearest_4 : decode cX9_nearest 4 = .ok (.iload_n 1, 1) := by decide +kernel
theorem dX9_nearest_5 : decode cX9_nearest 5 = .ok (.invokevirtual 115, 3) := by decide +kernel
theorem dX9_nearest_8 : decode cX9_nearest 8 = .ok (.ifCond .eq 14, 3) := by decide +kernel
theorem dX9_nearest_11 : decode cX9_nearest 11 = .ok (.aload_n 0, 1) := by decide +kernel
theorem dX9_nearest_12 : decode cX9_nearest 12 = .ok (.getfield 68, 3) := by decide +kernel
theorem dX9_nearest_15 : decode cX9_nearest 15 = .ok (.iload_n 2, 1) := by decide +kernel
theorem dX9_nearest_16 : decode cX9_nearest 16 = .ok (.invokevirtual 115, 3) := by decide +kernel
theorem dX9_nearest_19 : decode cX9_nearest 19 = .ok (.ifCond .ne 5, 3) := by decide +kernel
theorem dX9_nearest_22 : decode cX9_nearest 22 = .ok (.iconst (-1), 1) := by decide +kernel
theorem dX9_nearest_23 : decode cX9_nearest 23 = .ok (.ireturn, 1) := by decide +kernel
theorem dX9_nearest_24 : decode cX9_nearest 24 = .ok (.aload_n 0, 1) := by decide +kernel
theorem dX9_nearest_25 : decode cX9_nearest 25 = .ok (.getfield 40, 3) := by decide +kernel
theorem dX9_nearest_28 : decode cX9_nearest 28 = .ok (.iload_n 1, 1) := by decide +kernel
theorem dX9_nearest_29 : decode cX9_nearest 29 = .ok (.invokevirtual 205, 3) := by decide +kernel
theorem dX9_nearest_32 : decode cX9_nearest 32 = .ok (.iconst 0, 1) := by decide +kernel
theorem dX9_nearest_33 : decode cX9_nearest 33 = .ok (.istore_n 3, 1) := by decide +kernel
theorem dX9_nearest_34 : decode cX9_nearest 34 = .ok (.iload_n 3, 1) := by decide +kernel
theorem dX9_nearest_35 : decode cX9_nearest 35 = .ok (.bipush 12, 2) := by decide +kernel
theorem dX9_nearest_37 : decode cX9_nearest 37 = .ok (.if_icmp .gt 35, 3) := by decide +kernel
theorem dX9_nearest_40 : decode cX9_nearest 40 = .ok (.aload_n 0, 1) := by decide +kernel
theorem dX9_nearest_41 : decode cX9_nearest 41 = .ok (.getfield 40, 3) := by decide +kernel
theorem dX9_nearest_44 : decode cX9_nearest 44 = .ok (.aload_n 0, 1) := by decide +kernel
theorem dX9_nearest_45 : decode cX9_nearest 45 = .ok (.getfield 68, 3) := by decide +kernel
theorem dX9_nearest_48 : decode cX9_nearest 48 = .ok (.invokevirtual 209, 3) := by decide +kernel
theorem dX9_nearest_51 : decode cX9_nearest 51 = .ok (.aload_n 0, 1) := by decide +kernel
theorem dX9_nearest_52 : decode cX9_nearest 52 = .ok (.getfield 40, 3) := by decide +kernel
theorem dX9_nearest_55 : decode cX9_nearest 55 = .ok (.iload_n 2, 1) := by decide +kernel
theorem dX9_nearest_56 : decode cX9_nearest 56 = .ok (.invokevirtual 213, 3) := by decide +kernel
theorem dX9_nearest_59 : decode cX9_nearest 59 = .ok (.lconst 0, 1) := by decide +kernel
theorem dX9_nearest_60 : decode cX9_nearest 60 = .ok (.lcmp, 1) := by decide +kernel
theorem dX9_nearest_61 : decode cX9_nearest 61 = .ok (.ifCond .le 5, 3) := by decide +kernel
theorem dX9_nearest_64 : decode cX9_nearest 64 = .ok (.iload_n 3, 1) := by decide +kernel
theorem dX9_nearest_65 : decode cX9_nearest 65 = .ok (.ireturn, 1) := by decide +kernel
theorem dX9_nearest_66 : decode cX9_nearest 66 = .ok (.iinc 3 1, 3) := by decide +kernel
theorem dX9_nearest_69 : decode cX9_nearest 69 = .ok (.goto (-35), 3) := by decide +kernel
theorem dX9_nearest_72 : decode cX9_nearest 72 = .ok (.bipush (-4), 2) := by decide +kernel
theorem dX9_nearest_74 : decode cX9_nearest 74 = .ok (.ireturn, 1) := by decide +kernel
theorem dX9_steps_0 : decode cX9_steps 0 = .ok (.aload_n 0, 1) := by decide +kernel
theorem dX9_steps_1 : decode cX9_steps 1 = .ok (.getfield 68, 3) := by decide +kernel
theorem dX9_steps_4 : decode cX9_steps 4 = .ok (.iload_n 1, 1) := by decide +kernel
theorem dX9_steps_5 : decode cX9_steps 5 = .ok (.invokevirtual 115, 3) := by decide +kernel
theorem dX9_steps_8 : decode cX9_steps 8 = .ok (.ifCond .eq 23, 3) := by decide +kernel
theorem dX9_steps_11 : decode cX9_steps 11 = .ok (.aload_n 0, 1) := by decide +kernel
theorem dX9_steps_12 : decode cX9_steps 12 = .ok (.getfield 68, 3) := by decide +kernel
theorem dX9_steps_15 : decode cX9_steps 15 = .ok (.iload_n 2, 1) := by decide +kernel
theorem dX9_steps_16 : decode cX9_steps 16 = .ok (.invokevirtual 115, 3) := by decide +kernel
theorem dX9_steps_19 : decode cX9_steps 19 = .ok (.ifCond .eq 12, 3) := by decide +kernel
theorem dX9_steps_22 : decode cX9_steps 22 = .ok (.iload_n 3, 1) := by decide +kernel
theorem dX9_steps_23 : decode cX9_steps 23 = .ok (.ifCond .lt 8, 3) := by decide +kernel
theorem dX9_steps_26 : decode cX9_steps 26 = .ok (.iload_n 3, 1) := by decide +kernel
theorem dX9_steps_27 : decode cX9_steps 27 = .ok (.iconst 1, 1) := by decide +kernel
theorem dX9_steps_28 : decode cX9_steps 28 = .ok (.if_icmp .le 5, 3) := by decide +kernel
theorem dX9_steps_31 : decode cX9_steps 31 = .ok (.iconst (-1), 1) := by decide +kernel
theorem dX9_steps_32 : decode cX9_steps 32 = .ok (.ireturn, 1) := by decide +kernel
theorem dX9_steps_33 : decode cX9_steps 33 = .ok (.aload_n 0, 1) := by decide +kernel
theorem dX9_steps_34 : decode cX9_steps 34 = .ok (.getfield 54, 3) := by decide +kernel
theorem dX9_steps_37 : decode cX9_steps 37 = .ok (.aload_n 0, 1) := by decide +kernel
theorem dX9_steps_38 : decode cX9_steps 38 = .ok (.getfield 68, 3) := by decide +kernel
theorem dX9_steps_41 : decode cX9_steps 41 = .ok (.aload_n 0, 1) := by decide +kernel
theorem dX9_steps_42 : decode cX9_steps 42 = .ok (.getfield 68, 3) := by decide +kernel
theorem dX9_steps_45 : decode cX9_steps 45 = .ok (.iload_n 1, 1) := by decide +kernel
theorem dX9_steps_46 : decode cX9_steps 46 = .ok (.iload_n 2, 1) := by decide +kernel
theorem dX9_steps_47 : decode cX9_steps 47 = .ok (.invokevirtual 135, 3) := by decide +kernel
theorem dX9_steps_50 : decode cX9_steps 50 = .ok (.invokevirtual 217, 3) := by decide +kernel
theorem dX9_steps_53 : decode cX9_steps 53 = .ok (.istore 4, 2) := by decide +kernel
theorem dX9_steps_55 : decode cX9_steps 55 = .ok (.iload_n 3, 1) := by decide +kernel
theorem dX9_steps_56 : decode cX9_steps 56 = .ok (.ifCond .eq 10, 3) := by decide +kernel
theorem dX9_steps_59 : decode cX9_steps 59 = .ok (.iload 4, 2) := by decide +kernel
theorem dX9_steps_61 : decode cX9_steps 61 = .ok (.bipush (-4), 2) := by decide +kernel
theorem dX9_steps_63 : decode cX9_steps 63 = .ok (.if_icmp .ne 6, 3) := by decide +kernel
theorem dX9_steps_66 : decode cX9_steps 66 = .ok (.iload 4, 2) := by decide +kernel
theorem dX9_steps_68 : decode cX9_steps 68 = .ok (.ireturn, 1) := by decide +kernel
theorem dX9_steps_69 : decode cX9_steps 69 = .ok (.iload 4, 2) := by decide +kernel
theorem dX9_steps_71 : decode cX9_steps 71 = .ok (.ifCond .ne 8, 3) := by decide +kernel
theorem dX9_steps_74 : decode cX9_steps 74 = .ok (.bipush (-4), 2) := by decide +kernel
theorem dX9_steps_76 : decode cX9_steps 76 = .ok (.goto 32, 3) := by decide +kernel
theorem dX9_steps_79 : decode cX9_steps 79 = .ok (.aload_n 0, 1) := by decide +kernel
theorem dX9_steps_80 : decode cX9_steps 80 = .ok (.getfield 54, 3) := by decide +kernel
theorem dX9_steps_83 : decode cX9_steps 83 = .ok (.aload_n 0, 1) := by decide +kernel
theorem dX9_steps_84 : decode cX9_steps 84 = .ok (.getfield 68, 3) := by decide +kernel
theorem dX9_steps_87 : decode cX9_steps 87 = .ok (.aload_n 0, 1) := by decide +kernel
theorem dX9_steps_88 : decode cX9_steps 88 = .ok (.getfield 68, 3) := by decide +kernel
theorem dX9_steps_91 : decode cX9_steps 91 = .ok (.iload_n 1, 1) := by decide +kernel
theorem dX9_steps_92 : decode cX9_steps 92 = .ok (.invokevirtual 121, 3) := by decide +kernel
theorem dX9_steps_95 : decode cX9_steps 95 = .ok (.aload_n 0, 1) := by decide +kernel
theorem dX9_steps_96 : decode cX9_steps 96 = .ok (.getfield 68, 3) := by decide +kernel
theorem dX9_steps_99 : decode cX9_steps 99 = .ok (.iload_n 2, 1) := by decide +kernel
theorem dX9_steps_100 : decode cX9_steps 100 = .ok (.invokevirtual 121, 3) := by decide +kernel
theorem dX9_steps_103 : decode cX9_steps 103 = .ok (.iload 4, 2) := by decide +kernel
theorem dX9_steps_105 : decode cX9_steps 105 = .ok (.invokevirtual 220, 3) := by decide +kernel
theorem dX9_steps_108 : decode cX9_steps 108 = .ok (.ireturn, 1) := by decide +kernel
theorem dX9_lent_0 : decode cX9_lent 0 = .ok (.iload_n 1, 1) := by decide +kernel
theorem dX9_lent_1 : decode cX9_lent 1 = .ok (.iconst (-1), 1) := by decide +kernel
theorem dX9_lent_2 : decode cX9_lent 2 = .ok (.if_icmp .lt 14, 3) := by decide +kernel
theorem dX9_lent_5 : decode cX9_lent 5 = .ok (.iload_n 1, 1) := by decide +kernel
theorem dX9_lent_6 : decode cX9_lent 6 = .ok (.aload_n 0, 1) := by decide +kernel
theorem dX9_lent_7 : decode cX9_lent 7 = .ok (.getfield 26, 3) := by decide +kernel
theorem dX9_lent_10 : decode cX9_lent 10 = .ok (.getfield 109, 3) := by decide +kernel
theorem dX9_lent_13 : decode cX9_lent 13 = .ok (.if_icmp .lt 5, 3) := by decide +kernel
theorem dX9_lent_16 : decode cX9_lent 16 = .ok (.iconst (-1), 1) := by decide +kernel
theorem dX9_lent_17 : decode cX9_lent 17 = .ok (.ireturn, 1) := by decide +kernel
theorem dX9_lent_18 : decode cX9_lent 18 = .ok (.iload_n 1, 1) := by decide +kernel
theorem dX9_lent_19 : decode cX9_lent 19 = .ok (.iconst (-1), 1) := by decide +kernel
theorem dX9_lent_20 : decode cX9_lent 20 = .ok (.if_icmp .ne 21, 3) := by decide +kernel
theorem dX9_lent_23 : decode cX9_lent 23 = .ok (.aload_n 0, 1) := by decide +kernel
theorem dX9_lent_24 : decode cX9_lent 24 = .ok (.getfield 61, 3) := by decide +kernel
theorem dX9_lent_27 : decode cX9_lent 27 = .ok (.aload_n 0, 1) := by decide +kernel
theorem dX9_lent_28 : decode cX9_lent 28 = .ok (.getfield 68, 3) := by decide +kernel
theorem dX9_lent_31 : decode cX9_lent 31 = .ok (.aload_n 0, 1) := by decide +kernel
theorem dX9_lent_32 : decode cX9_lent 32 = .ok (.getfield 26, 3) := by decide +kernel
theorem dX9_lent_35 : decode cX9_lent 35 = .ok (.invokevirtual 224, 3) := by decide +kernel
theorem dX9_lent_38 : decode cX9_lent 38 = .ok (.goto 19, 3) := by decide +kernel
theorem dX9_lent_41 : decode cX9_lent 41 = .ok (.aload_n 0, 1) := by decide +kernel
theorem dX9_lent_42 : decode cX9_lent 42 = .ok (.getfield 61, 3) := by decide +kernel
theorem dX9_lent_45 : decode cX9_lent 45 = .ok (.aload_n 0, 1) := by decide +kernel
theorem dX9_lent_46 : decode cX9_lent 46 = .ok (.getfield 68, 3) := by decide +kernel
theorem dX9_lent_49 : decode cX9_lent 49 = .ok (.aload_n 0, 1) := by decide +kernel
theorem dX9_lent_50 : decode cX9_lent 50 = .ok (.getfield 26, 3) := by decide +kernel
theorem dX9_lent_53 : decode cX9_lent 53 = .ok (.iload_n 1, 1) := by decide +kernel
theorem dX9_lent_54 : decode cX9_lent 54 = .ok (.invokevirtual 227, 3) := by decide +kernel
theorem dX9_lent_57 : decode cX9_lent 57 = .ok (.ireturn, 1) := by decide +kernel
theorem dX9_mustSee_0 : decode cX9_mustSee 0 = .ok (.aload_n 0, 1) := by decide +kernel
theorem dX9_mustSee_1 : decode cX9_mustSee 1 = .ok (.getfield 68, 3) := by decide +kernel
theorem dX9_mustSee_4 : decode cX9_mustSee 4 = .ok (.invokevirtual 189, 3) := by decide +kernel
theorem dX9_mustSee_7 : decode cX9_mustSee 7 = .ok (.istore_n 1, 1) := by decide +kernel
theorem dX9_mustSee_8 : decode cX9_mustSee 8 = .ok (.aload_n 0, 1) := by decide +kernel
theorem dX9_mustSee_9 : decode cX9_mustSee 9 = .ok (.getfield 68, 3) := by decide +kernel
theorem dX9_mustSee_12 : decode cX9_mustSee 12 = .ok (.invokevirtual 189, 3) := by decide +kernel
theorem dX9_mustSee_15 : decode cX9_mustSee 15 = .ok (.istore_n 2, 1) := by decide +kernel
theorem dX9_mustSee_16 : decode cX9_mustSee 16 = .ok (.iload_n 2, 1) := by decide +kernel
theorem dX9_mustSee_17 : decode cX9_mustSee 17 = .ok (.ifCond .lt 33, 3) := by decide +kernel
theorem dX9_mustSee_20 : decode cX9_mustSee 20 = .ok (.iload_n 2, 1) := by decide +kernel
theorem dX9_mustSee_21 : decode cX9_mustSee 21 = .ok (.invokestatic 231, 3) := by decide +kernel
theorem dX9_mustSee_24 : decode cX9_mustSee 24 = .ok (.iload_n 1, 1) := by decide +kernel
theorem dX9_mustSee_25 : decode cX9_mustSee 25 = .ok (.invokestatic 231, 3) := by decide +kernel
theorem dX9_mustSee_28 : decode cX9_mustSee 28 = .ok (.if_icmp .gt 16, 3) := by decide +kernel
theorem dX9_mustSee_31 : decode cX9_mustSee 31 = .ok (.aload_n 0, 1) := by decide +kernel
theorem dX9_mustSee_32 : decode cX9_mustSee 32 = .ok (.getfield 68, 3) := by decide +kernel
theorem dX9_mustSee_35 : decode cX9_mustSee 35 = .ok (.iload_n 2, 1) := by decide +kernel
theorem dX9_mustSee_36 : decode cX9_mustSee 36 = .ok (.invokevirtual 236, 3) := by decide +kernel
theorem dX9_mustSee_39 : decode cX9_mustSee 39 = .ok (.ifCond .eq 5, 3) := by decide +kernel
theorem dX9_mustSee_42 : decode cX9_mustSee 42 = .ok (.iload_n 2, 1) := by decide +kernel
theorem dX9_mustSee_43 : decode cX9_mustSee 43 = .ok (.istore_n 1, 1) := by decide +kernel
theorem dX9_mustSee_44 : decode cX9_mustSee 44 = .ok (.iinc 2 (-1), 3) := by decide +kernel
theorem dX9_mustSee_47 : decode cX9_mustSee 47 = .ok (.goto (-31), 3) := by decide +kernel
theorem dX9_mustSee_50 : decode cX9_mustSee 50 = .ok (.iload_n 1, 1) := by decide +kernel
theorem dX9_mustSee_51 : decode cX9_mustSee 51 = .ok (.ireturn, 1) := by decide +kernel
theorem dX9_crowd_0 : decode cX9_crowd 0 = .ok (.iload_n 1, 1) := by decide +kernel
theorem dX9_crowd_1 : decode cX9_crowd 1 = .ok (.ifCond .lt 30, 3) := by decide +kernel
theorem dX9_crowd_4 : decode cX9_crowd 4 = .ok (.iload_n 1, 1) := by decide +kernel
theorem dX9_crowd_5 : decode cX9_crowd 5 = .ok (.sipush 9999, 3) := by decide +kernel
theorem dX9_crowd_8 : decode cX9_crowd 8 = .ok (.if_icmp .gt 23, 3) := by decide +kernel
theorem dX9_crowd_11 : decode cX9_crowd 11 = .ok (.iload_n 2, 1) := by decide +kernel
theorem dX9_crowd_12 : decode cX9_crowd 12 = .ok (.iconst 1, 1) := by decide +kernel
theorem dX9_crowd_13 : decode cX9_crowd 13 = .ok (.if_icmp .lt 18, 3) := by decide +kernel
theorem dX9_crowd_16 : decode cX9_crowd 16 = .ok (.iload_n 2, 1) := by decide +kernel
theorem dX9_crowd_17 : decode cX9_crowd 17 = .ok (.bipush 60, 2) := by decide +kernel
theorem dX9_crowd_19 : decode cX9_crowd 19 = .ok (.if_icmp .gt 12, 3) := by decide +kernel
theorem dX9_crowd_22 : decode cX9_crowd 22 = .ok (.iload_n 3, 1) := by decide +kernel
theorem dX9_crowd_23 : decode cX9_crowd 23 = .ok (.ifCond .lt 8, 3) := by decide +kernel
theorem dX9_crowd_26 : decode cX9_crowd 26 = .ok (.iload_n 3, 1) := by decide +kernel
theorem dX9_crowd_27 : decode cX9_crowd 27 = .ok (.iconst 1, 1) := by decide +kernel
theorem dX9_crowd_28 : decode cX9_crowd 28 = .ok (.if_icmp .le 5, 3) := by decide +kernel
theorem dX9_crowd_31 : decode cX9_crowd 31 = .ok (.iconst (-1), 1) := by decide +kernel
theorem dX9_crowd_32 : decode cX9_crowd 32 = .ok (.ireturn, 1) := by decide +kernel
theorem dX9_crowd_33 : decode cX9_crowd 33 = .ok (.aload_n 0, 1) := by decide +kernel
theorem dX9_crowd_34 : decode cX9_crowd 34 = .ok (.getfield 33, 3) := by decide +kernel
theorem dX9_crowd_37 : decode cX9_crowd 37 = .ok (.invokevirtual 168, 3) := by decide +kernel
theorem dX9_crowd_40 : decode cX9_crowd 40 = .ok (.iconst 0, 1) := by decide +kernel
theorem dX9_crowd_41 : decode cX9_crowd 41 = .ok (.istore 4, 2) := by decide +kernel
theorem dX9_crowd_43 : decode cX9_crowd 43 = .ok (.iconst 0, 1) := by decide +kernel
theorem dX9_crowd_44 : decode cX9_crowd 44 = .ok (.istore 5, 2) := by decide +kernel
theorem dX9_crowd_46 : decode cX9_crowd 46 = .ok (.iload 5, 2) := by decide +kernel
theorem dX9_crowd_48 : decode cX9_crowd 48 = .ok (.iload_n 2, 1) := by decide +kernel
theorem dX9_crowd_49 : decode cX9_crowd 49 = .ok (.if_icmp .ge 53, 3) := by decide +kernel
theorem dX9_crowd_52 : decode cX9_crowd 52 = .ok (.aload_n 0, 1) := by decide +kernel
theorem dX9_crowd_53 : decode cX9_crowd 53 = .ok (.getfield 68, 3) := by decide +kernel
theorem dX9_crowd_56 : decode cX9_crowd 56 = .ok (.iload_n 1, 1) := by decide +kernel
theorem dX9_crowd_57 : decode cX9_crowd 57 = .ok (.iload 5, 2) := by decide +kernel
theorem dX9_crowd_59 : decode cX9_crowd 59 = .ok (.invokevirtual 239, 3) := by decide +kernel
theorem dX9_crowd_62 : decode cX9_crowd 62 = .ok (.istore 6, 2) := by decide +kernel
theorem dX9_crowd_64 : decode cX9_crowd 64 = .ok (.aload_n 0, 1) := by decide +kernel
theorem dX9_crowd_65 : decode cX9_crowd 65 = .ok (.getfield 33, 3) := by decide +kernel
theorem dX9_crowd_68 : decode cX9_crowd 68 = .ok (.aload_n 0, 1) := by decide +kernel
theorem dX9_crowd_69 : decode cX9_crowd 69 = .ok (.getfield 68, 3) := by decide +kernel
theorem dX9_crowd_72 : decode cX9_crowd 72 = .ok (.iload 6, 2) := by decide +kernel
theorem dX9_crowd_74 : decode cX9_crowd 74 = .ok (.invokevirtual 142, 3) := by decide +kernel
theorem dX9_crowd_77 : decode cX9_crowd 77 = .ok (.ifCond .eq 19, 3) := by decide +kernel
theorem dX9_crowd_80 : decode cX9_crowd 80 = .ok (.aload_n 0, 1) := by decide +kernel
theorem dX9_crowd_81 : decode cX9_crowd 81 = .ok (.getfield 33, 3) := by decide +kernel
theorem dX9_crowd_84 : decode cX9_crowd 84 = .ok (.aload_n 0, 1) := by decide +kernel
theorem dX9_crowd_85 : decode cX9_crowd 85 = .ok (.getfield 68, 3) := by decide +kernel
theorem dX9_crowd_88 : decode cX9_crowd 88 = .ok (.iload 6, 2) := by decide +kernel
theorem dX9_crowd_90 : decode cX9_crowd 90 = .ok (.invokevirtual 172, 3) := by decide +kernel
theorem dX9_crowd_93 : decode cX9_crowd 93 = .ok (.iinc 4 1, 3) := by decide +kernel
theorem dX9_crowd_96 : decode cX9_crowd 96 = .ok (.iinc 5 1, 3) := by decide +kernel
theorem dX9_crowd_99 : decode cX9_crowd 99 = .ok (.goto (-53), 3) := by decide +kernel
theorem dX9_crowd_102 : decode cX9_crowd 102 = .ok (.iload_n 3, 1) := by decide +kernel
theorem dX9_crowd_103 : decode cX9_crowd 103 = .ok (.ifCond .ne 8, 3) := by decide +kernel
theorem dX9_crowd_106 : decode cX9_crowd 106 = .ok (.iload 4, 2) := by decide +kernel
theorem dX9_crowd_108 : decode cX9_crowd 108 = .ok (.goto 10, 3) := by decide +kernel
theorem dX9_crowd_111 : decode cX9_crowd 111 = .ok (.aload_n 0, 1) := by decide +kernel
theorem dX9_crowd_112 : decode cX9_crowd 112 = .ok (.getfield 33, 3) := by decide +kernel
theorem dX9_crowd_115 : decode cX9_crowd 115 = .ok (.getfield 163, 3) := by decide +kernel
theorem dX9_crowd_118 : decode cX9_crowd 118 = .ok (.ireturn, 1) := by decide +kernel
theorem dX9_keep_0 : decode cX9_keep 0 = .ok (.aload_n 0, 1) := by decide +kernel
theorem dX9_keep_1 : decode cX9_keep 1 = .ok (.getfield 19, 3) := by decide +kernel
theorem dX9_keep_4 : decode cX9_keep 4 = .ok (.invokevirtual 242, 3) := by decide +kernel
theorem dX9_keep_7 : decode cX9_keep 7 = .ok (.ifCond .eq 13, 3) := by decide +kernel
theorem dX9_keep_10 : decode cX9_keep 10 = .ok (.aload_n 0, 1) := by decide +kernel
theorem dX9_keep_11 : decode cX9_keep 11 = .ok (.getfield 19, 3) := by decide +kernel
theorem dX9_keep_14 : decode cX9_keep 14 = .ok (.getfield 245, 3) := by decide +kernel
theorem dX9_keep_17 : decode cX9_keep 17 = .ok (.goto 5, 3) := by decide +kernel
theorem dX9_keep_20 : decode cX9_keep 20 = .ok (.bipush (-3), 2) := by decide +kernel
theorem dX9_keep_22 : decode cX9_keep 22 = .ok (.ireturn, 1) := by decide +kernel
theorem dX9_back_0 : decode cX9_back 0 = .ok (.aload_n 0, 1) := by decide +kernel
theorem dX9_back_1 : decode cX9_back 1 = .ok (.getfield 19, 3) := by decide +kernel
theorem dX9_back_4 : decode cX9_back 4 = .ok (.invokevirtual 248, 3) := by decide +kernel
theorem dX9_back_7 : decode cX9_back 7 = .ok (.ifCond .eq 13, 3) := by decide +kernel
theorem dX9_back_10 : decode cX9_back 10 = .ok (.aload_n 0, 1) := by decide +kernel
theorem dX9_back_11 : decode cX9_back 11 = .ok (.getfield 19, 3) := by decide +kernel
theorem dX9_back_14 : decode cX9_back 14 = .ok (.getfield 245, 3) := by decide +kernel
theorem dX9_back_17 : decode cX9_back 17 = .ok (.goto 5, 3) := by decide +kernel
theorem dX9_back_20 : decode cX9_back 20 = .ok (.bipush (-2), 2) := by decide +kernel
theorem dX9_back_22 : decode cX9_back 22 = .ok (.ireturn, 1) := by decide +kernel
theorem dX9_count_0 : decode cX9_count 0 = .ok (.iload_n 1, 1) := by decide +kernel
theorem dX9_count_1 : decode cX9_count 1 = .ok (.tableswitch 123 0 8 #[51, 59, 67, 75, 83, 91, 99, 107, 115], 51) := by decide +kernel
theorem dX9_count_52 : decode cX9_count 52 = .ok (.aload_n 0, 1) := by decide +kernel
theorem dX9_count_53 : decode cX9_count 53 = .ok (.getfield 68, 3) := by decide +kernel
theorem dX9_count_56 : decode cX9_count 56 = .ok (.getfield 105, 3) := by decide +kernel
theorem dX9_count_59 : decode cX9_count 59 = .ok (.ireturn, 1) := by decide +kernel
theorem dX9_count_60 : decode cX9_count 60 = .ok (.aload_n 0, 1) := by decide +kernel
theorem dX9_count_61 : decode cX9_count 61 = .ok (.getfield 68, 3) := by decide +kernel
theorem dX9_count_64 : decode cX9_count 64 = .ok (.getfield 251, 3) := by decide +kernel
theorem dX9_count_67 : decode cX9_count 67 = .ok (.ireturn, 1) := by decide +kernel
theorem dX9_count_68 : decode cX9_count 68 = .ok (.aload_n 0, 1) := by decide +kernel
theorem dX9_count_69 : decode cX9_count 69 = .ok (.getfield 19, 3) := by decide +kernel
theorem dX9_count_72 : decode cX9_count 72 = .ok (.invokevirtual 153, 3) := by decide +kernel
theorem dX9_count_75 : decode cX9_count 75 = .ok (.ireturn, 1) := by decide +kernel
theorem dX9_count_76 : decode cX9_count 76 = .ok (.aload_n 0, 1) := by decide +kernel
theorem dX9_count_77 : decode cX9_count 77 = .ok (.getfield 26, 3) := by decide +kernel
theorem dX9_count_80 : decode cX9_count 80 = .ok (.getfield 109, 3) := by decide +kernel
theorem dX9_count_83 : decode cX9_count 83 = .ok (.ireturn, 1) := by decide +kernel
theorem dX9_count_84 : decode cX9_count 84 = .ok (.aload_n 0, 1) := by decide +kernel
theorem dX9_count_85 : decode cX9_count 85 = .ok (.getfield 19, 3) := by decide +kernel
theorem dX9_count_88 : decode cX9_count 88 = .ok (.getfield 160, 3) := by decide +kernel
theorem dX9_count_91 : decode cX9_count 91 = .ok (.ireturn, 1) := by decide +kernel
theorem dX9_count_92 : decode cX9_count 92 = .ok (.aload_n 0, 1) := by decide +kernel
theorem dX9_count_93 : decode cX9_count 93 = .ok (.getfield 19, 3) := by decide +kernel
theorem dX9_count_96 : decode cX9_count 96 = .ok (.getfield 245, 3) := by decide +kernel
theorem dX9_count_99 : decode cX9_count 99 = .ok (.ireturn, 1) := by decide +kernel
theorem dX9_count_100 : decode cX9_count 100 = .ok (.aload_n 0, 1) := by decide +kernel
theorem dX9_count_101 : decode cX9_count 101 = .ok (.getfield 12, 3) := by decide +kernel
theorem dX9_count_104 : decode cX9_count 104 = .ok (.getfield 102, 3) := by decide +kernel
theorem dX9_count_107 : decode cX9_count 107 = .ok (.ireturn, 1) := by decide +kernel
theorem dX9_count_108 : decode cX9_count 108 = .ok (.aload_n 0, 1) := by decide +kernel
theorem dX9_count_109 : decode cX9_count 109 = .ok (.getfield 68, 3) := by decide +kernel
theorem dX9_count_112 : decode cX9_count 112 = .ok (.getfield 183, 3) := by decide +kernel
theorem dX9_count_115 : decode cX9_count 115 = .ok (.ireturn, 1) := by decide +kernel
theorem dX9_count_116 : decode cX9_count 116 = .ok (.aload_n 0, 1) := by decide +kernel
theorem dX9_count_117 : decode cX9_count 117 = .ok (.getfield 68, 3) := by decide +kernel
theorem dX9_count_120 : decode cX9_count 120 = .ok (.invokevirtual 186, 3) := by decide +kernel
theorem dX9_count_123 : decode cX9_count 123 = .ok (.ireturn, 1) := by decide +kernel
theorem dX9_count_124 : decode cX9_count 124 = .ok (.iconst (-1), 1) := by decide +kernel
theorem dX9_count_125 : decode cX9_count 125 = .ok (.ireturn, 1) := by decide +kernel
theorem dX9_unlike_0 : decode cX9_unlike 0 = .ok (.iload_n 0, 1) := by decide +kernel
theorem dX9_unlike_1 : decode cX9_unlike 1 = .ok (.iload_n 1, 1) := by decide +kernel
theorem dX9_unlike_2 : decode cX9_unlike 2 = .ok (.ixor, 1) := by decide +kernel
theorem dX9_unlike_3 : decode cX9_unlike 3 = .ok (.istore_n 2, 1) := by decide +kernel
theorem dX9_unlike_4 : decode cX9_unlike 4 = .ok (.iload_n 2, 1) := by decide +kernel
theorem dX9_unlike_5 : decode cX9_unlike 5 = .ok (.iload_n 2, 1) := by decide +kernel
theorem dX9_unlike_6 : decode cX9_unlike 6 = .ok (.iconst 5, 1) := by decide +kernel
theorem dX9_unlike_7 : decode cX9_unlike 7 = .ok (.iushr, 1) := by decide +kernel
theorem dX9_unlike_8 : decode cX9_unlike 8 = .ok (.ior, 1) := by decide +kernel
theorem dX9_unlike_9 : decode cX9_unlike 9 = .ok (.bipush 31, 2) := by decide +kernel
theorem dX9_unlike_11 : decode cX9_unlike 11 = .ok (.iand, 1) := by decide +kernel
theorem dX9_unlike_12 : decode cX9_unlike 12 = .ok (.ireturn, 1) := by decide +kernel
theorem dX9_valueOf_0 : decode cX9_valueOf 0 = .ok (.iload_n 0, 1) := by decide +kernel
theorem dX9_valueOf_1 : decode cX9_valueOf 1 = .ok (.iload_n 1, 1) := by decide +kernel
theorem dX9_valueOf_2 : decode cX9_valueOf 2 = .ok (.iushr, 1) := by decide +kernel
theorem dX9_valueOf_3 : decode cX9_valueOf 3 = .ok (.iconst 1, 1) := by decide +kernel
theorem dX9_valueOf_4 : decode cX9_valueOf 4 = .ok (.iand, 1) := by decide +kernel
theorem dX9_valueOf_5 : decode cX9_valueOf 5 = .ok (.iload_n 0, 1) := by decide +kernel
theorem dX9_valueOf_6 : decode cX9_valueOf 6 = .ok (.iload_n 1, 1) := by decide +kernel
theorem dX9_valueOf_7 : decode cX9_valueOf 7 = .ok (.iconst 5, 1) := by decide +kernel
theorem dX9_valueOf_8 : decode cX9_valueOf 8 = .ok (.iadd, 1) := by decide +kernel
theorem dX9_valueOf_9 : decode cX9_valueOf 9 = .ok (.iushr, 1) := by decide +kernel
theorem dX9_valueOf_10 : decode cX9_valueOf 10 = .ok (.iconst 1, 1) := by decide +kernel
theorem dX9_valueOf_11 : decode cX9_valueOf 11 = .ok (.iand, 1) := by decide +kernel
theorem dX9_valueOf_12 : decode cX9_valueOf 12 = .ok (.iconst 1, 1) := by decide +kernel
theorem dX9_valueOf_13 : decode cX9_valueOf 13 = .ok (.ishl, 1) := by decide +kernel
theorem dX9_valueOf_14 : decode cX9_valueOf 14 = .ok (.ior, 1) := by decide +kernel
theorem dX9_valueOf_15 : decode cX9_valueOf 15 = .ok (.ireturn, 1) := by decide +kernel
theorem dX9_lookWith_0 : decode cX9_lookWith 0 = .ok (.iload_n 1, 1) := by decide +kernel
theorem dX9_lookWith_1 : decode cX9_lookWith 1 = .ok (.iconst 1, 1) := by decide +kernel
theorem dX9_lookWith_2 : decode cX9_lookWith 2 = .ok (.iand, 1) := by decide +kernel
theorem dX9_lookWith_3 : decode cX9_lookWith 3 = .ok (.iload_n 0, 1) := by decide +kernel
theorem dX9_lookWith_4 : decode cX9_lookWith 4 = .ok (.ishl, 1) := by decide +kernel
theorem dX9_lookWith_5 : decode cX9_lookWith 5 = .ok (.iload_n 1, 1) := by decide +kernel
theorem dX9_lookWith_6 : decode cX9_lookWith 6 = .ok (.iconst 1, 1) := by decide +kernel
theorem dX9_lookWith_7 : decode cX9_lookWith 7 = .ok (.iushr, 1) := by decide +kernel
theorem dX9_lookWith_8 : decode cX9_lookWith 8 = .ok (.iconst 1, 1) := by decide +kernel
theorem dX9_lookWith_9 : decode cX9_lookWith 9 = .ok (.iand, 1) := by decide +kernel
theorem dX9_lookWith_10 : decode cX9_lookWith 10 = .ok (.iload_n 0, 1) := by decide +kernel
theorem dX9_lookWith_11 : decode cX9_lookWith 11 = .ok (.iconst 5, 1) := by decide +kernel
theorem dX9_lookWith_12 : decode cX9_lookWith 12 = .ok (.iadd, 1) := by decide +kernel
theorem dX9_lookWith_13 : decode cX9_lookWith 13 = .ok (.ishl, 1) := by decide +kernel
theorem dX9_lookWith_14 : decode cX9_lookWith 14 = .ok (.ior, 1) := by decide +kernel
theorem dX9_lookWith_15 : decode cX9_lookWith 15 = .ok (.ireturn, 1) := by decide +kernel
theorem dX9_barredBy_0 : decode cX9_barredBy 0 = .ok (.iload_n 0, 1) := by decide +kernel
theorem dX9_barredBy_1 : decode cX9_barredBy 1 = .ok (.ifCond .ne 7, 3) := by decide +kernel
theorem dX9_barredBy_4 : decode cX9_barredBy 4 = .ok (.iconst 0, 1) := by decide +kernel
theorem dX9_barredBy_5 : decode cX9_barredBy 5 = .ok (.goto 8, 3) := by decide +kernel
theorem dX9_barredBy_8 : decode cX9_barredBy 8 = .ok (.iconst 1, 1) := by decide +kernel
theorem dX9_barredBy_9 : decode cX9_barredBy 9 = .ok (.iload_n 0, 1) := by decide +kernel
theorem dX9_barredBy_10 : decode cX9_barredBy 10 = .ok (.iconst 1, 1) := by decide +kernel
theorem dX9_barredBy_11 : decode cX9_barredBy 11 = .ok (.isub, 1) := by decide +kernel
theorem dX9_barredBy_12 : decode cX9_barredBy 12 = .ok (.ishl, 1) := by decide +kernel
theorem dX9_barredBy_13 : decode cX9_barredBy 13 = .ok (.ireturn, 1) := by decide +kernel
theorem dX10_init_0 : decode cX10_init 0 = .ok (.aload_n 0, 1) := by decide +kernel
theorem dX10_init_1 : decode cX10_init 1 = .ok (.invokespecial 1, 3) := by decide +kernel
theorem dX10_init_4 : decode cX10_init 4 = .ok (.aload_n 0, 1) := by decide +kernel
theorem dX10_init_5 : decode cX10_init 5 = .ok (.sipush 300, 3) := by decide +kernel
theorem dX10_init_8 : decode cX10_init 8 = .ok (.newarray .byte, 2) := by decide +kernel
theorem dX10_init_10 : decode cX10_init 10 = .ok (.putfield 7, 3) := by decide +kernel
theorem dX10_init_13 : decode cX10_init 13 = .ok (.aload_n 0, 1) := by decide +kernel
theorem dX10_init_14 : decode cX10_init 14 = .ok (.iconst 4, 1) := by decide +kernel
theorem dX10_init_15 : decode cX10_init 15 = .ok (.newarray .int, 2) := by decide +kernel
theorem dX10_init_17 : decode cX10_init 17 = .ok (.putfield 13, 3) := by decide +kernel
theorem dX10_init_20 : decode cX10_init 20 = .ok (.aload_n 0, 1) := by decide +kernel
theorem dX10_init_21 : decode cX10_init 21 = .ok (.iconst 2, 1) := by decide +kernel
theorem dX10_init_22 : decode cX10_init 22 = .ok (.newarray .int, 2) := by decide +kernel
theorem dX10_init_24 : decode cX10_init 24 = .ok (.putfield 17, 3) := by decide +kernel
theorem dX10_init_27 : decode cX10_init 27 = .ok (.aload_n 0, 1) := by decide +kernel
theorem dX10_init_28 : decode cX10_init 28 = .ok (.bipush 10, 2) := by decide +kernel
theorem dX10_init_30 : decode cX10_init 30 = .ok (.newarray .int, 2) := by decide +kernel
theorem dX10_init_32 : decode cX10_init 32 = .ok (.putfield 20, 3) := by decide +kernel
theorem dX10_init_35 : decode cX10_init 35 = .ok (.aload_n 0, 1) := by decide +kernel
theorem dX10_init_36 : decode cX10_init 36 = .ok (.bipush 10, 2) := by decide +kernel
theorem dX10_init_38 : decode cX10_init 38 = .ok (.newarray .int, 2) := by decide +kernel
theorem dX10_init_40 : decode cX10_init 40 = .ok (.putfield 23, 3) := by decide +kernel
theorem dX10_init_43 : decode cX10_init 43 = .ok (.aload_n 0, 1) := by decide +kernel
theorem dX10_init_44 : decode cX10_init 44 = .ok (.iconst 2, 1) := by decide +kernel
theorem dX10_init_45 : decode cX10_init 45 = .ok (.newarray .int, 2) := by decide +kernel
theorem dX10_init_47 : decode cX10_init 47 = .ok (.putfield 26, 3) := by decide +kernel
theorem dX10_init_50 : decode cX10_init 50 = .ok (.aload_n 0, 1) := by decide +kernel
theorem dX10_init_51 : decode cX10_init 51 = .ok (.bipush 90, 2) := by decide +kernel
theorem dX10_init_53 : decode cX10_init 53 = .ok (.newarray .int, 2) := by decide +kernel
theorem dX10_init_55 : decode cX10_init 55 = .ok (.putfield 29, 3) := by decide +kernel
theorem dX10_init_58 : decode cX10_init 58 = .ok (.aload_n 0, 1) := by decide +kernel
theorem dX10_init_59 : decode cX10_init 59 = .ok (.bipush 9, 2) := by decide +kernel
theorem dX10_init_61 : decode cX10_init 61 = .ok (.newarray .int, 2) := by decide +kernel
theorem dX10_init_63 : decode cX10_init 63 = .ok (.putfield 32, 3) := by decide +kernel
theorem dX10_init_66 : decode cX10_init 66 = .ok (.aload_n 0, 1) := by decide +kernel
theorem dX10_init_67 : decode cX10_init 67 = .ok (.bipush 24, 2) := by decide +kernel
theorem dX10_init_69 : decode cX10_init 69 = .ok (.newarray .int, 2) := by decide +kernel
theorem dX10_init_71 : decode cX10_init 71 = .ok (.putfield 35, 3) := by decide +kernel
theorem dX10_init_74 : decode cX10_init 74 = .ok (.aload_n 0, 1) := by decide +kernel
theorem dX10_init_75 : decode cX10_init 75 = .ok (.bipush 16, 2) := by decide +kernel
theorem dX10_init_77 : decode cX10_init 77 = .ok (.newarray .int, 2) := by decide +kernel
theorem dX10_init_79 : decode cX10_init 79 = .ok (.putfield 38, 3) := by decide +kernel
theorem dX10_init_82 : decode cX10_init 82 = .ok (.aload_n 0, 1) := by decide +kernel
theorem dX10_init_83 : decode cX10_init 83 = .ok (.bipush 10, 2) := by decide +kernel
theorem dX10_init_85 : decode cX10_init 85 = .ok (.newarray .int, 2) := by decide +kernel
theorem dX10_init_87 : decode cX10_init 87 = .ok (.putfield 41, 3) := by decide +kernel
theorem dX10_init_90 : decode cX10_init 90 = .ok (.aload_n 0, 1) := by decide +kernel
theorem dX10_init_91 : decode cX10_init 91 = .ok (.bipush 11, 2) := by decide +kernel
theorem dX10_init_93 : decode cX10_init 93 = .ok (.newarray .int, 2) := by decide +kernel
theorem dX10_init_95 : decode cX10_init 95 = .ok (.putfield 44, 3) := by decide +kernel
theorem dX10_init_98 : decode cX10_init 98 = .ok (.aload_n 0, 1) := by decide +kernel
theorem dX10_init_99 : decode cX10_init 99 = .ok (.bipush 9, 2) := by decide +kernel
theorem dX10_init_101 : decode cX10_init 101 = .ok (.newarray .int, 2) := by decide +kernel
theorem dX10_init_103 : decode cX10_init 103 = .ok (.putfield 47, 3) := by decide +kernel
theorem dX10_init_106 : decode cX10_init 106 = .ok (.aload_n 0, 1) := by decide +kernel
theorem dX10_init_107 : decode cX10_init 107 = .ok (.sipush 324, 3) := by decide +kernel
theorem dX10_init_110 : decode cX10_init 110 = .ok (.newarray .long, 2) := by decide +kernel
theorem dX10_init_112 : decode cX10_init 112 = .ok (.putfield 50, 3) := by decide +kernel
theorem dX10_init_115 : decode cX10_init 115 = .ok (.aload_n 0, 1) := by decide +kernel
theorem dX10_init_116 : decode cX10_init 116 = .ok (.sipush 5120, 3) := by decide +kernel
theorem dX10_init_119 : decode cX10_init 119 = .ok (.newarray .int, 2) := by decide +kernel
theorem dX10_init_121 : decode cX10_init 121 = .ok (.putfield 54, 3) := by decide +kernel
theorem dX10_init_124 : decode cX10_init 124 = .ok (.aload_n 0, 1) := by decide +kernel
theorem dX10_init_125 : decode cX10_init 125 = .ok (.sipush 5120, 3) := by decide +kernel
theorem dX10_init_128 : decode cX10_init 128 = .ok (.newarray .int, 2) := by decide +kernel
theorem dX10_init_130 : decode cX10_init 130 = .ok (.putfield 57, 3) := by decide +kernel
theorem dX10_init_133 : decode cX10_init 133 = .ok (.aload_n 0, 1) := by decide +kernel
theorem dX10_init_134 : decode cX10_init 134 = .ok (.sipush 272, 3) := by decide +kernel
theorem dX10_init_137 : decode cX10_init 137 = .ok (.newarray .int, 2) := by decide +kernel
theorem dX10_init_139 : decode cX10_init 139 = .ok (.putfield 60, 3) := by decide +kernel
theorem dX10_init_142 : decode cX10_init 142 = .ok (.aload_n 0, 1) := by decide +kernel
theorem dX10_init_143 : decode cX10_init 143 = .ok (.sipush 272, 3) := by decide +kernel
theorem dX10_init_146 : decode cX10_init 146 = .ok (.newarray .int, 2) := by decide +kernel
theorem dX10_init_148 : decode cX10_init 148 = .ok (.putfield 63, 3) := by decide +kernel
theorem dX10_init_151 : decode cX10_init 151 = .ok (.aload_n 0, 1) := by decide +kernel
theorem dX10_init_152 : decode cX10_init 152 = .ok (.invokevirtual 66, 3) := by decide +kernel
theorem dX10_init_155 : decode cX10_init 155 = .ok (.aload_n 0, 1) := by decide +kernel
theorem dX10_init_156 : decode cX10_init 156 = .ok (.getfield 17, 3) := by decide +kernel
theorem dX10_init_159 : decode cX10_init 159 = .ok (.iconst 1, 1) := by decide +kernel
theorem dX10_init_160 : decode cX10_init 160 = .ok (.iconst 2, 1) := by decide +kernel
theorem dX10_init_161 : decode cX10_init 161 = .ok (.iastore, 1) := by decide +kernel
theorem dX10_init_162 : decode cX10_init 162 = .ok (.aload_n 0, 1) := by decide +kernel
theorem dX10_init_163 : decode cX10_init 163 = .ok (.getfield 20, 3) := by decide +kernel
theorem dX10_init_166 : decode cX10_init 166 = .ok (.iconst 5, 1) := by decide +kernel
theorem dX10_init_167 : decode cX10_init 167 = .ok (.iconst 2, 1) := by decide +kernel
theorem dX10_init_168 : decode cX10_init 168 = .ok (.iastore, 1) := by decide +kernel
theorem dX10_init_169 : decode cX10_init 169 = .ok (.aload_n 0, 1) := by decide +kernel
theorem dX10_init_170 : decode cX10_init 170 = .ok (.getfield 20, 3) := by decide +kernel
theorem dX10_init_173 : decode cX10_init 173 = .ok (.bipush 6, 2) := by decide +kernel
theorem dX10_init_175 : decode cX10_init 175 = .ok (.iconst 2, 1) := by decide +kernel
theorem dX10_init_176 : decode cX10_init 176 = .ok (.iastore, 1) := by decide +kernel
theorem dX10_init_177 : decode cX10_init 177 = .ok (.aload_n 0, 1) := by decide +kernel
theorem dX10_init_178 : decode cX10_init 178 = .ok (.getfield 23, 3) := by decide +kernel
theorem dX10_init_181 : decode cX10_init 181 = .ok (.iconst 5, 1) := by decide +kernel
theorem dX10_init_182 : decode cX10_init 182 = .ok (.iconst 0, 1) := by decide +kernel
theorem dX10_init_183 : decode cX10_init 183 = .ok (.iastore, 1) := by decide +kernel
theorem dX10_init_184 : decode cX10_init 184 = .ok (.aload_n 0, 1) := by decide +kernel
theorem dX10_init_185 : decode cX10_init 185 = .ok (.getfield 23, 3) := by decide +kernel
theorem dX10_init_188 : decode cX10_init 188 = .ok (.bipush 6, 2) := by decide +kernel
theorem dX10_init_190 : decode cX10_init 190 = .ok (.iconst 1, 1) := by decide +kernel
theorem dX10_init_191 : decode cX10_init 191 = .ok (.iastore, 1) := by decide +kernel
theorem dX10_init_192 : decode cX10_init 192 = .ok (.aload_n 0, 1) := by decide +kernel
theorem dX10_init_193 : decode cX10_init 193 = .ok (.getfield 26, 3) := by decide +kernel
theorem dX10_init_196 : decode cX10_init 196 = .ok (.iconst 1, 1) := by decide +kernel
theorem dX10_init_197 : decode cX10_init 197 = .ok (.iconst 3, 1) := by decide +kernel
theorem dX10_init_198 : decode cX10_init 198 = .ok (.iastore, 1) := by decide +kernel
theorem dX10_init_199 : decode cX10_init 199 = .ok (.aload_n 0, 1) := by decide +kernel
theorem dX10_init_200 : decode cX10_init 200 = .ok (.getfield 29, 3) := by decide +kernel
theorem dX10_init_203 : decode cX10_init 203 = .ok (.bipush 51, 2) := by decide +kernel
theorem dX10_init_205 : decode cX10_init 205 = .ok (.iconst 1, 1) := by decide +kernel
theorem dX10_init_206 : decode cX10_init 206 = .ok (.iastore, 1) := by decide +kernel
theorem dX10_init_207 : decode cX10_init 207 = .ok (.aload_n 0, 1) := by decide +kernel
theorem dX10_init_208 : decode cX10_init 208 = .ok (.getfield 29, 3) := by decide +kernel
theorem dX10_init_211 : decode cX10_init 211 = .ok (.bipush 55, 2) := by decide +kernel
theorem dX10_init_213 : decode cX10_init 213 = .ok (.iconst 1, 1) := by decide +kernel
theorem dX10_init_214 : decode cX10_init 214 = .ok (.iastore, 1) := by decide +kernel
theorem dX10_init_215 : decode cX10_init 215 = .ok (.aload_n 0, 1) := by decide +kernel
theorem dX10_init_216 : decode cX10_init 216 = .ok (.getfield 29, 3) := by decide +kernel
theorem dX10_init_219 : decode cX10_init 219 = .ok (.bipush 56, 2) := by decide +kernel
theorem dX10_init_221 : decode cX10_init 221 = .ok (.iconst 1, 1) := by decide +kernel
theorem dX10_init_222 : decode cX10_init 222 = .ok (.iastore, 1) := by decide +kernel
theorem dX10_init_223 : decode cX10_init 223 = .ok (.aload_n 0, 1) := by decide +kernel
theorem dX10_init_224 : decode cX10_init 224 = .ok (.invokevirtual 69, 3) := by decide +kernel
theorem dX10_init_227 : decode cX10_init 227 = .ok (.return_, 1) := by decide +kernel
theorem dX10_in_0 : decode cX10_in 0 = .ok (.lload_n 0, 1) := by decide +kernel
theorem dX10_in_1 : decode cX10_in 1 = .ok (.lload_n 2, 1) := by decide +kernel
theorem dX10_in_2 : decode cX10_in 2 = .ok (.lcmp, 1) := by decide +kernel
theorem dX10_in_3 : decode cX10_in 3 = .ok (.ifCond .lt 14, 3) := by decide +kernel
theorem dX10_in_6 : decode cX10_in 6 = .ok (.lload_n 0, 1) := by decide +kernel
theorem dX10_in_7 : decode cX10_in 7 = .ok (.lload 4, 2) := by decide +kernel
theorem dX10_in_9 : decode cX10_in 9 = .ok (.lcmp, 1) := by decide +kernel
theorem dX10_in_10 : decode cX10_in 10 = .ok (.ifCond .gt 7, 3) := by decide +kernel
theorem dX10_in_13 : decode cX10_in 13 = .ok (.iconst 1, 1) := by decide +kernel
theorem dX10_in_14 : decode cX10_in 14 = .ok (.goto 4, 3) := by decide +kernel
theorem dX10_in_17 : decode cX10_in 17 = .ok (.iconst 0, 1) := by decide +kernel
theorem dX10_in_18 : decode cX10_in 18 = .ok (.ireturn, 1) := by decide +kernel
theorem dX10_write_0 : decode cX10_write 0 = .ok (.iload_n 1, 1) := by decide +kernel
theorem dX10_write_1 : decode cX10_write 1 = .ok (.i2l, 1) := by decide +kernel
theorem dX10_write_2 : decode cX10_write 2 = .ok (.lconst 1, 1) := by decide +kernel
theorem dX10_write_3 : decode cX10_write 3 = .ok (.ldc2_w 72, 3) := by decide +kernel
theorem dX10_write_6 : decode cX10_write 6 = .ok (.invokestatic 74, 3) := by decide +kernel
theorem dX10_write_9 : decode cX10_write 9 = .ok (.ifCond .ne 5, 3) := by decide +kernel
theorem dX10_write_12 : decode cX10_write 12 = .ok (.iconst (-1), 1) := by decide +kernel
theorem dX10_write_13 : decode cX10_write 13 = .ok (.ireturn, 1) := by decide +kernel
theorem dX10_write_14 : decode cX10_write 14 = .ok (.aload_n 0, 1) := by decide +kernel
theorem dX10_write_15 : decode cX10_write 15 = .ok (.getfield 78, 3) := by decide +kernel
theorem dX10_write_18 : decode cX10_write 18 = .ok (.iload_n 1, 1) := by decide +kernel
theorem dX10_write_19 : decode cX10_write 19 = .ok (.iadd, 1) := by decide +kernel
theorem dX10_write_20 : decode cX10_write 20 = .ok (.sipush 300, 3) := by decide +kernel
theorem dX10_write_23 : decode cX10_write 23 = .ok (.if_icmp .le 6, 3) := by decide +kernel
theorem dX10_write_26 : decode cX10_write 26 = .ok (.bipush (-3), 2) := by decide +kernel
theorem dX10_write_28 : decode cX10_write 28 = .ok (.ireturn, 1) := by decide +kernel
theorem dX10_write_29 : decode cX10_write 29 = .ok (.iload_n 1, 1) := by decide +kernel
theorem dX10_write_30 : decode cX10_write 30 = .ok (.iconst 1, 1) := by decide +kernel
theorem dX10_write_31 : decode cX10_write 31 = .ok (.isub, 1) := by decide +kernel
theorem dX10_write_32 : decode cX10_write 32 = .ok (.istore 4, 2) := by decide +kernel
theorem dX10_write_34 : decode cX10_write 34 = .ok (.iload 4, 2) := by decide +kernel
theorem dX10_write_36 : decode cX10_write 36 = .ok (.ifCond .lt 37, 3) := by decide +kernel
theorem dX10_write_39 : decode cX10_write 39 = .ok (.aload_n 0, 1) := by decide +kernel
theorem dX10_write_40 : decode cX10_write 40 = .ok (.getfield 7, 3) := by decide +kernel
theorem dX10_write_43 : decode cX10_write 43 = .ok (.aload_n 0, 1) := by decide +kernel
theorem dX10_write_44 : decode cX10_write 44 = .ok (.getfield 78, 3) := by decide +kernel
theorem dX10_write_47 : decode cX10_write 47 = .ok (.lload_n 2, 1) := by decide +kernel
theorem dX10_write_48 : decode cX10_write 48 = .ok (.bipush 8, 2) := by decide +kernel
theorem dX10_write_50 : decode cX10_write 50 = .ok (.iload 4, 2) := by decide +kernel
theorem dX10_write_52 : decode cX10_write 52 = .ok (.imul, 1) := by decide +kernel
theorem dX10_write_53 : decode cX10_write 53 = .ok (.lshr, 1) := by decide +kernel
theorem dX10_write_54 : decode cX10_write 54 = .ok (.l2i, 1) := by decide +kernel
theorem dX10_write_55 : decode cX10_write 55 = .ok (.i2b, 1) := by decide +kernel
theorem dX10_write_56 : decode cX10_write 56 = .ok (.bastore, 1) := by decide +kernel
theorem dX10_write_57 : decode cX10_write 57 = .ok (.aload_n 0, 1) := by decide +kernel
theorem dX10_write_58 : decode cX10_write 58 = .ok (.dup, 1) := by decide +kernel
theorem dX10_write_59 : decode cX10_write 59 = .ok (.getfield 78, 3) := by decide +kernel
theorem dX10_write_62 : decode cX10_write 62 = .ok (.iconst 1, 1) := by decide +kernel
theorem dX10_write_63 : decode cX10_write 63 = .ok (.iadd, 1) := by decide +kernel
theorem dX10_write_64 : decode cX10_write 64 = .ok (.putfield 78, 3) := by decide +kernel
theorem dX10_write_67 : decode cX10_write 67 = .ok (.iinc 4 (-1), 3) := by decide +kernel
theorem dX10_write_70 : decode cX10_write 70 = .ok (.goto (-36), 3) := by decide +kernel
theorem dX10_write_73 : decode cX10_write 73 = .ok (.aload_n 0, 1) := by decide +kernel
theorem dX10_write_74 : decode cX10_write 74 = .ok (.getfield 78, 3) := by decide +kernel
theorem dX10_write_77 : decode cX10_write 77 = .ok (.ireturn, 1) := by decide +kernel
theorem dX10_wipe_0 : decode cX10_wipe 0 = .ok (.aload_n 0, 1) := by decide +kernel
theorem dX10_wipe_1 : decode cX10_wipe 1 = .ok (.getfield 78, 3) := by decide +kernel
theorem dX10_wipe_4 : decode cX10_wipe 4 = .ok (.istore_n 1, 1) := by decide +kernel
theorem dX10_wipe_5 : decode cX10_wipe 5 = .ok (.aload_n 0, 1) := by decide +kernel
theorem dX10_wipe_6 : decode cX10_wipe 6 = .ok (.iconst 0, 1) := by decide +kernel
theorem dX10_wipe_7 : decode cX10_wipe 7 = .ok (.putfield 78, 3) := by decide +kernel
theorem dX10_wipe_10 : decode cX10_wipe 10 = .ok (.iload_n 1, 1) := by decide +kernel
theorem dX10_wipe_11 : decode cX10_wipe 11 = .ok (.ireturn, 1) := by decide +kernel
theorem dX10_number_0 : decode cX10_number 0 = .ok (.iconst 0, 1) := by decide +kernel
theorem dX10_number_1 : decode cX10_number 1 = .ok (.istore_n 1, 1) := by decide +kernel
theorem dX10_number_2 : decode cX10_number 2 = .ok (.iconst 0, 1) := by decide +kernel
theorem dX10_number_3 : decode cX10_number 3 = .ok (.istore_n 2, 1) := by decide +kernel
theorem dX10_number_4 : decode cX10_number 4 = .ok (.aload_n 0, 1) := by decide +kernel
theorem dX10_number_5 : decode cX10_number 5 = .ok (.getfield 82, 3) := by decide +kernel
theorem dX10_number_8 : decode cX10_number 8 = .ok (.aload_n 0, 1) := by decide +kernel
theorem dX10_number_9 : decode cX10_number 9 = .ok (.getfield 78, 3) := by decide +kernel
theorem dX10_number_12 : decode cX10_number 12 = .ok (.if_icmp .ge 68, 3) := by decide +kernel
theorem dX10_number_15 : decode cX10_number 15 = .ok (.aload_n 0, 1) := by decide +kernel
theorem dX10_number_16 : decode cX10_number 16 = .ok (.getfield 7, 3) := by decide +kernel
theorem dX10_number_19 : decode cX10_number 19 = .ok (.aload_n 0, 1) := by decide +kernel
theorem dX10_number_20 : decode cX10_number 20 = .ok (.getfield 82, 3) := by decide +kernel
theorem dX10_number_23 : decode cX10_number 23 = .ok (.baload, 1) := by decide +kernel
theorem dX10_number_24 : decode cX10_number 24 = .ok (.i2l, 1) := by decide +kernel
theorem dX10_number_25 : decode cX10_number 25 = .ok (.ldc2_w 85, 3) := by decide +kernel
theorem dX10_number_28 : decode cX10_number 28 = .ok (.ldc2_w 87, 3) := by decide +kernel
theorem dX10_number_31 : decode cX10_number 31 = .ok (.invokestatic 74, 3) := by decide +kernel
theorem dX10_number_34 : decode cX10_number 34 = .ok (.ifCond .eq 46, 3) := by decide +kernel
theorem dX10_number_37 : decode cX10_number 37 = .ok (.iload_n 2, 1) := by decide +kernel
theorem dX10_number_38 : decode cX10_number 38 = .ok (.iconst 2, 1) := by decide +kernel
theorem dX10_number_39 : decode cX10_number 39 = .ok (.if_icmp .ge 23, 3) := by decide +kernel
theorem dX10_number_42 : decode cX10_number 42 = .ok (.bipush 10, 2) := by decide +kernel
theorem dX10_number_44 : decode cX10_number 44 = .ok (.iload_n 1, 1) := by decide +kernel
theorem dX10_number_45 : decode cX10_number 45 = .ok (.imul, 1) := by decide +kernel
theorem dX10_number_46 : decode cX10_number 46 = .ok (.aload_n 0, 1) := by decide +kernel
theorem dX10_number_47 : decode cX10_number 47 = .ok (.getfield 7, 3) := by decide +kernel
theorem dX10_number_50 : decode cX10_number 50 = .ok (.aload_n 0, 1) := by decide +kernel
theorem dX10_number_51 : decode cX10_number 51 = .ok (.getfield 82, 3) := by decide +kernel
theorem dX10_number_54 : decode cX10_number 54 = .ok (.baload, 1) := by decide +kernel
theorem dX10_number_55 : decode cX10_number 55 = .ok (.iadd, 1) := by decide +kernel
theorem dX10_number_56 : decode cX10_number 56 = .ok (.bipush 48, 2) := by decide +kernel
theorem dX10_number_58 : decode cX10_number 58 = .ok (.isub, 1) := by decide +kernel
theorem dX10_number_59 : decode cX10_number 59 = .ok (.goto 4, 3) := by decide +kernel
theorem dX10_number_62 : decode cX10_number 62 = .ok (.iload_n 1, 1) := by decide +kernel
theorem dX10_number_63 : decode cX10_number 63 = .ok (.istore_n 1, 1) := by decide +kernel
theorem dX10_number_64 : decode cX10_number 64 = .ok (.iinc 2 1, 3) := by decide +kernel
theorem dX10_number_67 : decode cX10_number 67 = .ok (.aload_n 0, 1) := by decide +kernel
theorem dX10_number_68 : decode cX10_number 68 = .ok (.dup, 1) := by decide +kernel
theorem dX10_number_69 : decode cX10_number 69 = .ok (.getfield 82, 3) := by decide +kernel
theorem dX10_number_72 : decode cX10_number 72 = .ok (.iconst 1, 1) := by decide +kernel
theorem dX10_number_73 : decode cX10_number 73 = .ok (.iadd, 1) := by decide +kernel
theorem dX10_number_74 : decode cX10_number 74 = .ok (.putfield 82, 3) := by decide +kernel
theorem dX10_number_77 : decode cX10_number 77 = .ok (.goto (-73), 3) := by decide +kernel
theorem dX10_number_80 : decode cX10_number 80 = .ok (.iload_n 2, 1) := by decide +kernel
theorem dX10_number_81 : decode cX10_number 81 = .ok (.i2l, 1) := by decide +kernel
theorem dX10_number_82 : decode cX10_number 82 = .ok (.lconst 1, 1) := by decide +kernel
theorem dX10_number_83 : decode cX10_number 83 = .ok (.ldc2_w 89, 3) := by decide +kernel
theorem dX10_number_86 : decode cX10_number 86 = .ok (.invokestatic 74, 3) := by decide +kernel
theorem dX10_number_89 : decode cX10_number 89 = .ok (.ifCond .eq 7, 3) := by decide +kernel
theorem dX10_number_92 : decode cX10_number 92 = .ok (.iload_n 1, 1) := by decide +kernel
theorem dX10_number_93 : decode cX10_number 93 = .ok (.goto 4, 3) := by decide +kernel
theorem dX10_number_96 : decode cX10_number 96 = .ok (.iconst (-1), 1) := by decide +kernel
theorem dX10_number_97 : decode cX10_number 97 = .ok (.ireturn, 1) := by decide +kernel
theorem dX10_isPerson_0 : decode cX10_isPerson 0 = .ok (.aload_n 0, 1) := by decide +kernel
theorem dX10_isPerson_1 : decode cX10_isPerson 1 = .ok (.getfield 17, 3) := by decide +kernel
theorem dX10_isPerson_4 : decode cX10_isPerson 4 = .ok (.iconst 1, 1) := by decide +kernel
theorem dX10_isPerson_5 : decode cX10_isPerson 5 = .ok (.iaload, 1) := by decide +kernel
theorem dX10_isPerson_6 : decode cX10_isPerson 6 = .ok (.ifCond .le 18, 3) := by decide +kernel
theorem dX10_isPerson_9 : decode cX10_isPerson 9 = .ok (.aload_n 0, 1) := by decide +kernel
theorem dX10_isPerson_10 : decode cX10_isPerson 10 = .ok (.getfield 26, 3) := by decide +kernel
theorem dX10_isPerson_13 : decode cX10_isPerson 13 = .ok (.iconst 1, 1) := by decide +kernel
theorem dX10_isPerson_14 : decode cX10_isPerson 14 = .ok (.iaload, 1) := by decide +kernel
theorem dX10_isPerson_15 : decode cX10_isPerson 15 = .ok (.bipush 9, 2) := by decide +kernel
theorem dX10_isPerson_17 : decode cX10_isPerson 17 = .ok (.if_icmp .ge 7, 3) := by decide +kernel
theorem dX10_isPerson_20 : decode cX10_isPerson 20 = .ok (.iconst 1, 1) := by decide +kernel
theorem dX10_isPerson_21 : decode cX10_isPerson 21 = .ok (.goto 4, 3) := by decide +kernel
theorem dX10_isPerson_24 : decode cX10_isPerson 24 = .ok (.iconst 0, 1) := by decide +kernel
theorem dX10_isPerson_25 : decode cX10_isPerson 25 = .ok (.istore_n 1, 1) := by decide +kernel
theorem dX10_isPerson_26 : decode cX10_isPerson 26 = .ok (.iconst 0, 1) := by decide +kernel
theorem dX10_isPerson_27 : decode cX10_isPerson 27 = .ok (.istore_n 2, 1) := by decide +kernel
theorem dX10_isPerson_28 : decode cX10_isPerson 28 = .ok (.iload_n 1, 1) := by decide +kernel
theorem dX10_isPerson_29 : decode cX10_isPerson 29 = .ok (.ifCond .eq 125, 3) := by decide +kernel
theorem dX10_isPerson_32 : decode cX10_isPerson 32 = .ok (.aload_n 0, 1) := by decide +kernel
theorem dX10_isPerson_33 : decode cX10_isPerson 33 = .ok (.getfield 82, 3) := by decide +kernel
theorem dX10_isPerson_36 : decode cX10_isPerson 36 = .ok (.aload_n 0, 1) := by decide +kernel
theorem dX10_isPerson_37 : decode cX10_isPerson 37 = .ok (.getfield 78, 3) := by decide +kernel
theorem dX10_isPerson_40 : decode cX10_isPerson 40 = .ok (.if_icmp .ge 114, 3) := by decide +kernel
theorem dX10_isPerson_43 : decode cX10_isPerson 43 = .ok (.aload_n 0, 1) := by decide +kernel
theorem dX10_isPerson_44 : decode cX10_isPerson 44 = .ok (.getfield 7, 3) := by decide +kernel
theorem dX10_isPerson_47 : decode cX10_isPerson 47 = .ok (.aload_n 0, 1) := by decide +kernel
theorem dX10_isPerson_48 : decode cX10_isPerson 48 = .ok (.getfield 82, 3) := by decide +kernel
theorem dX10_isPerson_51 : decode cX10_isPerson 51 = .ok (.baload, 1) := by decide +kernel
theorem dX10_isPerson_52 : decode cX10_isPerson 52 = .ok (.i2l, 1) := by decide +kernel
theorem dX10_isPerson_53 : decode cX10_isPerson 53 = .ok (.ldc2_w 85, 3) := by decide +kernel
theorem dX10_isPerson_56 : decode cX10_isPerson 56 = .ok (.ldc2_w 87, 3) := by decide +kernel
theorem dX10_isPerson_59 : decode cX10_isPerson 59 = .ok (.invokestatic 74, 3) := by decide +kernel
theorem dX10_isPerson_62 : decode cX10_isPerson 62 = .ok (.ifCond .eq 92, 3) := by decide +kernel
theorem dX10_isPerson_65 : decode cX10_isPerson 65 = .ok (.iload_n 2, 1) := by decide +kernel
theorem dX10_isPerson_66 : decode cX10_isPerson 66 = .ok (.aload_n 0, 1) := by decide +kernel
theorem dX10_isPerson_67 : decode cX10_isPerson 67 = .ok (.getfield 17, 3) := by decide +kernel
theorem dX10_isPerson_70 : decode cX10_isPerson 70 = .ok (.iconst 1, 1) := by decide +kernel
theorem dX10_isPerson_71 : decode cX10_isPerson 71 = .ok (.iaload, 1) := by decide +kernel
theorem dX10_isPerson_72 : decode cX10_isPerson 72 = .ok (.if_icmp .ge 30, 3) := by decide +kernel
theorem dX10_isPerson_75 : decode cX10_isPerson 75 = .ok (.aload_n 0, 1) := by decide +kernel
theorem dX10_isPerson_76 : decode cX10_isPerson 76 = .ok (.getfield 7, 3) := by decide +kernel
theorem dX10_isPerson_79 : decode cX10_isPerson 79 = .ok (.aload_n 0, 1) := by decide +kernel
theorem dX10_isPerson_80 : decode cX10_isPerson 80 = .ok (.getfield 82, 3) := by decide +kernel
theorem dX10_isPerson_83 : decode cX10_isPerson 83 = .ok (.baload, 1) := by decide +kernel
theorem dX10_isPerson_84 : decode cX10_isPerson 84 = .ok (.bipush 48, 2) := by decide +kernel
theorem dX10_isPerson_86 : decode cX10_isPerson 86 = .ok (.isub, 1) := by decide +kernel
theorem dX10_isPerson_87 : decode cX10_isPerson 87 = .ok (.aload_n 0, 1) := by decide +kernel
theorem dX10_isPerson_88 : decode cX10_isPerson 88 = .ok (.getfield 20, 3) := by decide +kernel
theorem dX10_isPerson_91 : decode cX10_isPerson 91 = .ok (.iconst 5, 1) := by decide +kernel
theorem dX10_isPerson_92 : decode cX10_isPerson 92 = .ok (.iload_n 2, 1) := by decide +kernel
theorem dX10_isPerson_93 : decode cX10_isPerson 93 = .ok (.iadd, 1) := by decide +kernel
theorem dX10_isPerson_94 : decode cX10_isPerson 94 = .ok (.iaload, 1) := by decide +kernel
theorem dX10_isPerson_95 : decode cX10_isPerson 95 = .ok (.if_icmp .ge 7, 3) := by decide +kernel
theorem dX10_isPerson_98 : decode cX10_isPerson 98 = .ok (.iconst 1, 1) := by decide +kernel
theorem dX10_isPerson_99 : decode cX10_isPerson 99 = .ok (.goto 4, 3) := by decide +kernel
theorem dX10_isPerson_102 : decode cX10_isPerson 102 = .ok (.iconst 0, 1) := by decide +kernel
theorem dX10_isPerson_103 : decode cX10_isPerson 103 = .ok (.istore_n 1, 1) := by decide +kernel
theorem dX10_isPerson_104 : decode cX10_isPerson 104 = .ok (.iload_n 1, 1) := by decide +kernel
theorem dX10_isPerson_105 : decode cX10_isPerson 105 = .ok (.ifCond .eq 33, 3) := by decide +kernel
theorem dX10_isPerson_108 : decode cX10_isPerson 108 = .ok (.aload_n 0, 1) := by decide +kernel
theorem dX10_isPerson_109 : decode cX10_isPerson 109 = .ok (.getfield 29, 3) := by decide +kernel
theorem dX10_isPerson_112 : decode cX10_isPerson 112 = .ok (.bipush 45, 2) := by decide +kernel
theorem dX10_isPerson_114 : decode cX10_isPerson 114 = .ok (.iconst 5, 1) := by decide +kernel
theorem dX10_isPerson_115 : decode cX10_isPerson 115 = .ok (.aload_n 0, 1) := by decide +kernel
theorem dX10_isPerson_116 : decode cX10_isPerson 116 = .ok (.getfield 26, 3) := by decide +kernel
theorem dX10_isPerson_119 : decode cX10_isPerson 119 = .ok (.iconst 1, 1) := by decide +kernel
theorem dX10_isPerson_120 : decode cX10_isPerson 120 = .ok (.iaload, 1) := by decide +kernel
theorem dX10_isPerson_121 : decode cX10_isPerson 121 = .ok (.imul, 1) := by decide +kernel
theorem dX10_isPerson_122 : decode cX10_isPerson 122 = .ok (.iadd, 1) := by decide +kernel
theorem dX10_isPerson_123 : decode cX10_isPerson 123 = .ok (.iload_n 2, 1) := by decide +kernel
theorem dX10_isPerson_124 : decode cX10_isPerson 124 = .ok (.iadd, 1) := by decide +kernel
theorem dX10_isPerson_125 : decode cX10_isPerson 125 = .ok (.aload_n 0, 1) := by decide +kernel
theorem dX10_isPerson_126 : decode cX10_isPerson 126 = .ok (.getfield 7, 3) := by decide +kernel
theorem dX10_isPerson_129 : decode cX10_isPerson 129 = .ok (.aload_n 0, 1) := by decide +kernel
theorem dX10_isPerson_130 : decode cX10_isPerson 130 = .ok (.getfield 82, 3) := by decide +kernel
theorem dX10_isPerson_133 : decode cX10_isPerson 133 = .ok (.baload, 1) := by decide +kernel
theorem dX10_isPerson_134 : decode cX10_isPerson 134 = .ok (.bipush 48, 2) := by decide +kernel
theorem dX10_isPerson_136 : decode cX10_isPerson 136 = .ok (.isub, 1) := by decide +kernel
theorem dX10_isPerson_137 : decode cX10_isPerson 137 = .ok (.iastore, 1) := by decide +kernel
theorem dX10_isPerson_138 : decode cX10_isPerson 138 = .ok (.iinc 2 1, 3) := by decide +kernel
theorem dX10_isPerson_141 : decode cX10_isPerson 141 = .ok (.aload_n 0, 1) := by decide +kernel
theorem dX10_isPerson_142 : decode cX10_isPerson 142 = .ok (.dup, 1) := by decide +kernel
theorem dX10_isPerson_143 : decode cX10_isPerson 143 = .ok (.getfield 82, 3) := by decide +kernel
theorem dX10_isPerson_146 : decode cX10_isPerson 146 = .ok (.iconst 1, 1) := by decide +kernel
theorem dX10_isPerson_147 : decode cX10_isPerson 147 = .ok (.iadd, 1) := by decide +kernel
theorem dX10_isPerson_148 : decode cX10_isPerson 148 = .ok (.putfield 82, 3) := by decide +kernel
theorem dX10_isPerson_151 : decode cX10_isPerson 151 = .ok (.goto (-123), 3) := by decide +kernel
theorem dX10_isPerson_154 : decode cX10_isPerson 154 = .ok (.iload_n 1, 1) := by decide +kernel
theorem dX10_isPerson_155 : decode cX10_isPerson 155 = .ok (.ifCond .eq 17, 3) := by decide +kernel
theorem dX10_isPerson_158 : decode cX10_isPerson 158 = .ok (.iload_n 2, 1) := by decide +kernel
theorem dX10_isPerson_159 : decode cX10_isPerson 159 = .ok (.aload_n 0, 1) := by decide +kernel
theorem dX10_isPerson_160 : decode cX10_isPerson 160 = .ok (.getfield 17, 3) := by decide +kernel
theorem dX10_isPerson_163 : decode cX10_isPerson 163 = .ok (.iconst 1, 1) := by decide +kernel
theorem dX10_isPerson_164 : decode cX10_isPerson 164 = .ok (.iaload, 1) := by decide +kernel
theorem dX10_isPerson_165 : decode cX10_isPerson 165 = .ok (.if_icmp .ne 7, 3) := by decide +kernel
theorem dX10_isPerson_168 : decode cX10_isPerson 168 = .ok (.iconst 1, 1) := by decide +kernel
theorem dX10_isPerson_169 : decode cX10_isPerson 169 = .ok (.goto 4, 3) := by decide +kernel
theorem dX10_isPerson_172 : decode cX10_isPerson 172 = .ok (.iconst 0, 1) := by decide +kernel
theorem dX10_isPerson_173 : decode cX10_isPerson 173 = .ok (.istore_n 1, 1) := by decide +kernel
theorem dX10_isPerson_174 : decode cX10_isPerson 174 = .ok (.aload_n 0, 1) := by decide +kernel
theorem dX10_isPerson_175 : decode cX10_isPerson 175 = .ok (.getfield 26, 3) := by decide +kernel
theorem dX10_isPerson_178 : decode cX10_isPerson 178 = .ok (.iconst 1, 1) := by decide +kernel
theorem dX10_isPerson_179 : decode cX10_isPerson 179 = .ok (.dup2, 1) := by decide +kernel
theorem dX10_isPerson_180 : decode cX10_isPerson 180 = .ok (.iaload, 1) := by decide +kernel
theorem dX10_isPerson_181 : decode cX10_isPerson 181 = .ok (.iload_n 1, 1) := by decide +kernel
theorem dX10_isPerson_182 : decode cX10_isPerson 182 = .ok (.ifCond .eq 7, 3) := by decide +kernel
theorem dX10_isPerson_185 : decode cX10_isPerson 185 = .ok (.iconst 1, 1) := by decide +kernel
theorem dX10_isPerson_186 : decode cX10_isPerson 186 = .ok (.goto 4, 3) := by decide +kernel
theorem dX10_isPerson_189 : decode cX10_isPerson 189 = .ok (.iconst 0, 1) := by decide +kernel
theorem dX10_isPerson_190 : decode cX10_isPerson 190 = .ok (.iadd, 1) := by decide +kernel
theorem dX10_isPerson_191 : decode cX10_isPerson 191 = .ok (.iastore, 1) := by decide +kernel
theorem dX10_isPerson_192 : decode cX10_isPerson 192 = .ok (.iload_n 1, 1) := by decide +kernel
theorem dX10_isPerson_193 : decode cX10_isPerson 193 = .ok (.ireturn, 1) := by decide +kernel
theorem dX10_borrowed_0 : decode cX10_borrowed 0 = .ok (.iconst 0, 1) := by decide +kernel
theorem dX10_borrowed_1 : decode cX10_borrowed 1 = .ok (.istore_n 1, 1) := by decide +kernel
theorem dX10_borrowed_2 : decode cX10_borrowed 2 = .ok (.iconst 0, 1) := by decide +kernel
theorem dX10_borrowed_3 : decode cX10_borrowed 3 = .ok (.istore_n 2, 1) := by decide +kernel
theorem dX10_borrowed_4 : decode cX10_borrowed 4 = .ok (.iload_n 2, 1) := by decide +kernel
theorem dX10_borrowed_5 : decode cX10_borrowed 5 = .ok (.aload_n 0, 1) := by decide +kernel
theorem dX10_borrowed_6 : decode cX10_borrowed 6 = .ok (.getfield 17, 3) := by decide +kernel
theorem dX10_borrowed_9 : decode cX10_borrowed 9 = .ok (.iconst 1, 1) := by decide +kernel
theorem dX10_borrowed_10 : decode cX10_borrowed 10 = .ok (.iaload, 1) := by decide +kernel
theorem dX10_borrowed_11 : decode cX10_borrowed 11 = .ok (.if_icmp .ge 20, 3) := by decide +kernel
theorem dX10_borrowed_14 : decode cX10_borrowed 14 = .ok (.iload_n 1, 1) := by decide +kernel
theorem dX10_borrowed_15 : decode cX10_borrowed 15 = .ok (.aload_n 0, 1) := by decide +kernel
theorem dX10_borrowed_16 : decode cX10_borrowed 16 = .ok (.getfield 23, 3) := by decide +kernel
theorem dX10_borrowed_19 : decode cX10_borrowed 19 = .ok (.iconst 5, 1) := by decide +kernel
theorem dX10_borrowed_20 : decode cX10_borrowed 20 = .ok (.iload_n 2, 1) := by decide +kernel
theorem dX10_borrowed_21 : decode cX10_borrowed 21 = .ok (.iadd, 1) := by decide +kernel
theorem dX10_borrowed_22 : decode cX10_borrowed 22 = .ok (.iaload, 1) := by decide +kernel
theorem dX10_borrowed_23 : decode cX10_borrowed 23 = .ok (.iadd, 1) := by decide +kernel
theorem dX10_borrowed_24 : decode cX10_borrowed 24 = .ok (.istore_n 1, 1) := by decide +kernel
theorem dX10_borrowed_25 : decode cX10_borrowed 25 = .ok (.iinc 2 1, 3) := by decide +kernel
theorem dX10_borrowed_28 : decode cX10_borrowed 28 = .ok (.goto (-24), 3) := by decide +kernel
theorem dX10_borrowed_31 : decode cX10_borrowed 31 = .ok (.iload_n 1, 1) := by decide +kernel
theorem dX10_borrowed_32 : decode cX10_borrowed 32 = .ok (.ireturn, 1) := by decide +kernel
theorem dX10_isThing_0 : decode cX10_isThing 0 = .ok (.aload_n 0, 1) := by decide +kernel
theorem dX10_isThing_1 : decode cX10_isThing 1 = .ok (.invokevirtual 91, 3) := by decide +kernel
theorem dX10_isThing_4 : decode cX10_isThing 4 = .ok (.istore_n 1, 1) := by decide +kernel
theorem dX10_isThing_5 : decode cX10_isThing 5 = .ok (.iload_n 1, 1) := by decide +kernel
theorem dX10_isThing_6 : decode cX10_isThing 6 = .ok (.i2l, 1) := by decide +kernel
theorem dX10_isThing_7 : decode cX10_isThing 7 = .ok (.lconst 1, 1) := by decide +kernel
theorem dX10_isThing_8 : decode cX10_isThing 8 = .ok (.ldc2_w 95, 3) := by decide +kernel
theorem dX10_isThing_11 : decode cX10_isThing 11 = .ok (.invokestatic 74, 3) := by decide +kernel
theorem dX10_isThing_14 : decode cX10_isThing 14 = .ok (.ifCond .eq 32, 3) := by decide +kernel
theorem dX10_isThing_17 : decode cX10_isThing 17 = .ok (.aload_n 0, 1) := by decide +kernel
theorem dX10_isThing_18 : decode cX10_isThing 18 = .ok (.getfield 82, 3) := by decide +kernel
theorem dX10_isThing_21 : decode cX10_isThing 21 = .ok (.aload_n 0, 1) := by decide +kernel
theorem dX10_isThing_22 : decode cX10_isThing 22 = .ok (.getfield 78, 3) := by decide +kernel
theorem dX10_isThing_25 : decode cX10_isThing 25 = .ok (.if_icmp .ge 21, 3) := by decide +kernel
theorem dX10_isThing_28 : decode cX10_isThing 28 = .ok (.aload_n 0, 1) := by decide +kernel
theorem dX10_isThing_29 : decode cX10_isThing 29 = .ok (.getfield 7, 3) := by decide +kernel
theorem dX10_isThing_32 : decode cX10_isThing 32 = .ok (.aload_n 0, 1) := by decide +kernel
theorem dX10_isThing_33 : decode cX10_isThing 33 = .ok (.getfield 82, 3) := by decide +kernel
theorem dX10_isThing_36 : decode cX10_isThing 36 = .ok (.baload, 1) := by decide +kernel
theorem dX10_isThing_37 : decode cX10_isThing 37 = .ok (.bipush 44, 2) := by decide +kernel
theorem dX10_isThing_39 : decode cX10_isThing 39 = .ok (.if_icmp .ne 7, 3) := by decide +kernel
theorem dX10_isThing_42 : decode cX10_isThing 42 = .ok (.iconst 1, 1) := by decide +kernel
theorem dX10_isThing_43 : decode cX10_isThing 43 = .ok (.goto 4, 3) := by decide +kernel
theorem dX10_isThing_46 : decode cX10_isThing 46 = .ok (.iconst 0, 1) := by decide +kernel
theorem dX10_isThing_47 : decode cX10_isThing 47 = .ok (.istore_n 2, 1) := by decide +kernel
theorem dX10_isThing_48 : decode cX10_isThing 48 = .ok (.aload_n 0, 1) := by decide +kernel
theorem dX10_isThing_49 : decode cX10_isThing 49 = .ok (.dup, 1) := by decide +kernel
theorem dX10_isThing_50 : decode cX10_isThing 50 = .ok (.getfield 82, 3) := by decide +kernel
theorem dX10_isThing_53 : decode cX10_isThing 53 = .ok (.iconst 1, 1) := by decide +kernel
theorem dX10_isThing_54 : decode cX10_isThing 54 = .ok (.iadd, 1) := by decide +kernel
theorem dX10_isThing_55 : decode cX10_isThing 55 = .ok (.putfield 82, 3) := by decide +kernel
theorem dX10_isThing_58 : decode cX10_isThing 58 = .ok (.iload_n 2, 1) := by decide +kernel
theorem dX10_isThing_59 : decode cX10_isThing 59 = .ok (.ifCond .eq 10, 3) := by decide +kernel
theorem dX10_isThing_62 : decode cX10_isThing 62 = .ok (.aload_n 0, 1) := by decide +kernel
theorem dX10_isThing_63 : decode cX10_isThing 63 = .ok (.invokevirtual 91, 3) := by decide +kernel
theorem dX10_isThing_66 : decode cX10_isThing 66 = .ok (.goto 4, 3) := by decide +kernel
theorem dX10_isThing_69 : decode cX10_isThing 69 = .ok (.iconst (-1), 1) := by decide +kernel
theorem dX10_isThing_70 : decode cX10_isThing 70 = .ok (.istore_n 3, 1) := by decide +kernel
theorem dX10_isThing_71 : decode cX10_isThing 71 = .ok (.iload_n 2, 1) := by decide +kernel
theorem dX10_isThing_72 : decode cX10_isThing 72 = .ok (.ifCond .eq 46, 3) := by decide +kernel
theorem dX10_isThing_75 : decode cX10_isThing 75 = .ok (.iload_n 3, 1) := by decide +kernel
theorem dX10_isThing_76 : decode cX10_isThing 76 = .ok (.i2l, 1) := by decide +kernel
theorem dX10_isThing_77 : decode cX10_isThing 77 = .ok (.lconst 0, 1) := by decide +kernel
theorem dX10_isThing_78 : decode cX10_isThing 78 = .ok (.lconst 1, 1) := by decide +kernel
theorem dX10_isThing_79 : decode cX10_isThing 79 = .ok (.invokestatic 74, 3) := by decide +kernel
theorem dX10_isThing_82 : decode cX10_isThing 82 = .ok (.ifCond .eq 36, 3) := by decide +kernel
theorem dX10_isThing_85 : decode cX10_isThing 85 = .ok (.aload_n 0, 1) := by decide +kernel
theorem dX10_isThing_86 : decode cX10_isThing 86 = .ok (.getfield 17, 3) := by decide +kernel
theorem dX10_isThing_89 : decode cX10_isThing 89 = .ok (.iconst 1, 1) := by decide +kernel
theorem dX10_isThing_90 : decode cX10_isThing 90 = .ok (.iaload, 1) := by decide +kernel
theorem dX10_isThing_91 : decode cX10_isThing 91 = .ok (.iconst 5, 1) := by decide +kernel
theorem dX10_isThing_92 : decode cX10_isThing 92 = .ok (.if_icmp .ge 26, 3) := by decide +kernel
theorem dX10_isThing_95 : decode cX10_isThing 95 = .ok (.aload_n 0, 1) := by decide +kernel
theorem dX10_isThing_96 : decode cX10_isThing 96 = .ok (.getfield 26, 3) := by decide +kernel
theorem dX10_isThing_99 : decode cX10_isThing 99 = .ok (.iconst 1, 1) := by decide +kernel
theorem dX10_isThing_100 : decode cX10_isThing 100 = .ok (.iaload, 1) := by decide +kernel
theorem dX10_isThing_101 : decode cX10_isThing 101 = .ok (.ifCond .ne 17, 3) := by decide +kernel
theorem dX10_isThing_104 : decode cX10_isThing 104 = .ok (.aload_n 0, 1) := by decide +kernel
theorem dX10_isThing_105 : decode cX10_isThing 105 = .ok (.invokevirtual 97, 3) := by decide +kernel
theorem dX10_isThing_108 : decode cX10_isThing 108 = .ok (.iload_n 3, 1) := by decide +kernel
theorem dX10_isThing_109 : decode cX10_isThing 109 = .ok (.iadd, 1) := by decide +kernel
theorem dX10_isThing_110 : decode cX10_isThing 110 = .ok (.iconst 2, 1) := by decide +kernel
theorem dX10_isThing_111 : decode cX10_isThing 111 = .ok (.if_icmp .gt 7, 3) := by decide +kernel
theorem dX10_isThing_114 : decode cX10_isThing 114 = .ok (.iconst 1, 1) := by decide +kernel
theorem dX10_isThing_115 : decode cX10_isThing 115 = .ok (.goto 4, 3) := by decide +kernel
theorem dX10_isThing_118 : decode cX10_isThing 118 = .ok (.iconst 0, 1) := by decide +kernel
theorem dX10_isThing_119 : decode cX10_isThing 119 = .ok (.istore_n 2, 1) := by decide +kernel
theorem dX10_isThing_120 : decode cX10_isThing 120 = .ok (.iload_n 2, 1) := by decide +kernel
theorem dX10_isThing_121 : decode cX10_isThing 121 = .ok (.ifCond .eq 41, 3) := by decide +kernel
theorem dX10_isThing_124 : decode cX10_isThing 124 = .ok (.aload_n 0, 1) := by decide +kernel
theorem dX10_isThing_125 : decode cX10_isThing 125 = .ok (.getfield 20, 3) := by decide +kernel
theorem dX10_isThing_128 : decode cX10_isThing 128 = .ok (.iconst 5, 1) := by decide +kernel
theorem dX10_isThing_129 : decode cX10_isThing 129 = .ok (.aload_n 0, 1) := by decide +kernel
theorem dX10_isThing_130 : decode cX10_isThing 130 = .ok (.getfield 17, 3) := by decide +kernel
theorem dX10_isThing_133 : decode cX10_isThing 133 = .ok (.iconst 1, 1) := by decide +kernel
theorem dX10_isThing_134 : decode cX10_isThing 134 = .ok (.iaload, 1) := by decide +kernel
theorem dX10_isThing_135 : decode cX10_isThing 135 = .ok (.iadd, 1) := by decide +kernel
theorem dX10_isThing_136 : decode cX10_isThing 136 = .ok (.iload_n 1, 1) := by decide +kernel
theorem dX10_isThing_137 : decode cX10_isThing 137 = .ok (.iastore, 1) := by decide +kernel
theorem dX10_isThing_138 : decode cX10_isThing 138 = .ok (.aload_n 0, 1) := by decide +kernel
theorem dX10_isThing_139 : decode cX10_isThing 139 = .ok (.getfield 23, 3) := by decide +kernel
theorem dX10_isThing_142 : decode cX10_isThing 142 = .ok (.iconst 5, 1) := by decide +kernel
theorem dX10_isThing_143 : decode cX10_isThing 143 = .ok (.aload_n 0, 1) := by decide +kernel
theorem dX10_isThing_144 : decode cX10_isThing 144 = .ok (.getfield 17, 3) := by decide +kernel
theorem dX10_isThing_147 : decode cX10_isThing 147 = .ok (.iconst 1, 1) := by decide +kernel
theorem dX10_isThing_148 : decode cX10_isThing 148 = .ok (.iaload, 1) := by decide +kernel
theorem dX10_isThing_149 : decode cX10_isThing 149 = .ok (.iadd, 1) := by decide +kernel
theorem dX10_isThing_150 : decode cX10_isThing 150 = .ok (.iload_n 3, 1) := by decide +kernel
theorem dX10_isThing_151 : decode cX10_isThing 151 = .ok (.iastore, 1) := by decide +kernel
theorem dX10_isThing_152 : decode cX10_isThing 152 = .ok (.aload_n 0, 1) := by decide +kernel
theorem dX10_isThing_153 : decode cX10_isThing 153 = .ok (.getfield 17, 3) := by decide +kernel
theorem dX10_isThing_156 : decode cX10_isThing 156 = .ok (.iconst 1, 1) := by decide +kernel
theorem dX10_isThing_157 : decode cX10_isThing 157 = .ok (.dup2, 1) := by decide +kernel
theorem dX10_isThing_158 : decode cX10_isThing 158 = .ok (.iaload, 1) := by decide +kernel
theorem dX10_isThing_159 : decode cX10_isThing 159 = .ok (.iconst 1, 1) := by decide +kernel
theorem dX10_isThing_160 : decode cX10_isThing 160 = .ok (.iadd, 1) := by decide +kernel
theorem dX10_isThing_161 : decode cX10_isThing 161 = .ok (.iastore, 1) := by decide +kernel
theorem dX10_isThing_162 : decode cX10_isThing 162 = .ok (.iload_n 2, 1) := by decide +kernel
theorem dX10_isThing_163 : decode cX10_isThing 163 = .ok (.ireturn, 1) := by decide +kernel
theorem dX10_isItem_0 : decode cX10_isItem 0 = .ok (.aload_n 0, 1) := by decide +kernel
theorem dX10_isItem_1 : decode cX10_isItem 1 = .ok (.getfield 7, 3) := by decide +kernel
theorem dX10_isItem_4 : decode cX10_isItem 4 = .ok (.aload_n 0, 1) := by decide +kernel
theorem dX10_isItem_5 : decode cX10_isItem 5 = .ok (.getfield 82, 3) := by decide +kernel
theorem dX10_isItem_8 : decode cX10_isItem 8 = .ok (.baload, 1) := by decide +kernel
theorem dX10_isItem_9 : decode cX10_isItem 9 = .ok (.istore_n 1, 1) := by decide +kernel
theorem dX10_isItem_10 : decode cX10_isItem 10 = .ok (.aload_n 0, 1) := by decide +kernel
theorem dX10_isItem_11 : decode cX10_isItem 11 = .ok (.dup, 1) := by decide +kernel
theorem dX10_isItem_12 : decode cX10_isItem 12 = .ok (.getfield 82, 3) := by decide +kernel
theorem dX10_isItem_15 : decode cX10_isItem 15 = .ok (.iconst 1, 1) := by decide +kernel
theorem dX10_isItem_16 : decode cX10_isItem 16 = .ok (.iadd, 1) := by decide +kernel
theorem dX10_isItem_17 : decode cX10_isItem 17 = .ok (.putfield 82, 3) := by decide +kernel
theorem dX10_isItem_20 : decode cX10_isItem 20 = .ok (.iconst 0, 1) := by decide +kernel
theorem dX10_isItem_21 : decode cX10_isItem 21 = .ok (.istore_n 2, 1) := by decide +kernel
theorem dX10_isItem_22 : decode cX10_isItem 22 = .ok (.iload_n 1, 1) := by decide +kernel
theorem dX10_isItem_23 : decode cX10_isItem 23 = .ok (.bipush 116, 2) := by decide +kernel
theorem dX10_isItem_25 : decode cX10_isItem 25 = .ok (.if_icmp .ne 11, 3) := by decide +kernel
theorem dX10_isItem_28 : decode cX10_isItem 28 = .ok (.aload_n 0, 1) := by decide +kernel
theorem dX10_isItem_29 : decode cX10_isItem 29 = .ok (.invokevirtual 100, 3) := by decide +kernel
theorem dX10_isItem_32 : decode cX10_isItem 32 = .ok (.istore_n 2, 1) := by decide +kernel
theorem dX10_isItem_33 : decode cX10_isItem 33 = .ok (.goto 87, 3) := by decide +kernel
theorem dX10_isItem_36 : decode cX10_isItem 36 = .ok (.iload_n 1, 1) := by decide +kernel
theorem dX10_isItem_37 : decode cX10_isItem 37 = .ok (.bipush 112, 2) := by decide +kernel
theorem dX10_isItem_39 : decode cX10_isItem 39 = .ok (.if_icmp .ne 11, 3) := by decide +kernel
theorem dX10_isItem_42 : decode cX10_isItem 42 = .ok (.aload_n 0, 1) := by decide +kernel
theorem dX10_isItem_43 : decode cX10_isItem 43 = .ok (.invokevirtual 104, 3) := by decide +kernel
theorem dX10_isItem_46 : decode cX10_isItem 46 = .ok (.istore_n 2, 1) := by decide +kernel
theorem dX10_isItem_47 : decode cX10_isItem 47 = .ok (.goto 73, 3) := by decide +kernel
theorem dX10_isItem_50 : decode cX10_isItem 50 = .ok (.iload_n 1, 1) := by decide +kernel
theorem dX10_isItem_51 : decode cX10_isItem 51 = .ok (.bipush 108, 2) := by decide +kernel
theorem dX10_isItem_53 : decode cX10_isItem 53 = .ok (.if_icmp .eq 9, 3) := by decide +kernel
theorem dX10_isItem_56 : decode cX10_isItem 56 = .ok (.iload_n 1, 1) := by decide +kernel
theorem dX10_isItem_57 : decode cX10_isItem 57 = .ok (.bipush 103, 2) := by decide +kernel
theorem dX10_isItem_59 : decode cX10_isItem 59 = .ok (.if_icmp .ne 61, 3) := by decide +kernel
theorem dX10_isItem_62 : decode cX10_isItem 62 = .ok (.aload_n 0, 1) := by decide +kernel
theorem dX10_isItem_63 : decode cX10_isItem 63 = .ok (.getfield 13, 3) := by decide +kernel
theorem dX10_isItem_66 : decode cX10_isItem 66 = .ok (.iload_n 1, 1) := by decide +kernel
theorem dX10_isItem_67 : decode cX10_isItem 67 = .ok (.bipush 108, 2) := by decide +kernel
theorem dX10_isItem_69 : decode cX10_isItem 69 = .ok (.if_icmp .ne 7, 3) := by decide +kernel
theorem dX10_isItem_72 : decode cX10_isItem 72 = .ok (.iconst 2, 1) := by decide +kernel
theorem dX10_isItem_73 : decode cX10_isItem 73 = .ok (.goto 4, 3) := by decide +kernel
theorem dX10_isItem_76 : decode cX10_isItem 76 = .ok (.iconst 3, 1) := by decide +kernel
theorem dX10_isItem_77 : decode cX10_isItem 77 = .ok (.aload_n 0, 1) := by decide +kernel
theorem dX10_isItem_78 : decode cX10_isItem 78 = .ok (.invokevirtual 91, 3) := by decide +kernel
theorem dX10_isItem_81 : decode cX10_isItem 81 = .ok (.iastore, 1) := by decide +kernel
theorem dX10_isItem_82 : decode cX10_isItem 82 = .ok (.iload_n 1, 1) := by decide +kernel
theorem dX10_isItem_83 : decode cX10_isItem 83 = .ok (.bipush 108, 2) := by decide +kernel
theorem dX10_isItem_85 : decode cX10_isItem 85 = .ok (.if_icmp .ne 20, 3) := by decide +kernel
theorem dX10_isItem_88 : decode cX10_isItem 88 = .ok (.aload_n 0, 1) := by decide +kernel
theorem dX10_isItem_89 : decode cX10_isItem 89 = .ok (.getfield 13, 3) := by decide +kernel
theorem dX10_isItem_92 : decode cX10_isItem 92 = .ok (.iconst 2, 1) := by decide +kernel
theorem dX10_isItem_93 : decode cX10_isItem 93 = .ok (.iaload, 1) := by decide +kernel
theorem dX10_isItem_94 : decode cX10_isItem 94 = .ok (.i2l, 1) := by decide +kernel
theorem dX10_isItem_95 : decode cX10_isItem 95 = .ok (.lconst 0, 1) := by decide +kernel
theorem dX10_isItem_96 : decode cX10_isItem 96 = .ok (.ldc2_w 107, 3) := by decide +kernel
theorem dX10_isItem_99 : decode cX10_isItem 99 = .ok (.invokestatic 74, 3) := by decide +kernel
theorem dX10_isItem_102 : decode cX10_isItem 102 = .ok (.goto 17, 3) := by decide +kernel
theorem dX10_isItem_105 : decode cX10_isItem 105 = .ok (.aload_n 0, 1) := by decide +kernel
theorem dX10_isItem_106 : decode cX10_isItem 106 = .ok (.getfield 13, 3) := by decide +kernel
theorem dX10_isItem_109 : decode cX10_isItem 109 = .ok (.iconst 3, 1) := by decide +kernel
theorem dX10_isItem_110 : decode cX10_isItem 110 = .ok (.iaload, 1) := by decide +kernel
theorem dX10_isItem_111 : decode cX10_isItem 111 = .ok (.i2l, 1) := by decide +kernel
theorem dX10_isItem_112 : decode cX10_isItem 112 = .ok (.lconst 0, 1) := by decide +kernel
theorem dX10_isItem_113 : decode cX10_isItem 113 = .ok (.ldc2_w 109, 3) := by decide +kernel
theorem dX10_isItem_116 : decode cX10_isItem 116 = .ok (.invokestatic 74, 3) := by decide +kernel
theorem dX10_isItem_119 : decode cX10_isItem 119 = .ok (.istore_n 2, 1) := by decide +kernel
theorem dX10_isItem_120 : decode cX10_isItem 120 = .ok (.iload_n 2, 1) := by decide +kernel
theorem dX10_isItem_121 : decode cX10_isItem 121 = .ok (.ifCond .eq 32, 3) := by decide +kernel
theorem dX10_isItem_124 : decode cX10_isItem 124 = .ok (.aload_n 0, 1) := by decide +kernel
theorem dX10_isItem_125 : decode cX10_isItem 125 = .ok (.getfield 82, 3) := by decide +kernel
theorem dX10_isItem_128 : decode cX10_isItem 128 = .ok (.aload_n 0, 1) := by decide +kernel
theorem dX10_isItem_129 : decode cX10_isItem 129 = .ok (.getfield 78, 3) := by decide +kernel
theorem dX10_isItem_132 : decode cX10_isItem 132 = .ok (.if_icmp .ge 21, 3) := by decide +kernel
theorem dX10_isItem_135 : decode cX10_isItem 135 = .ok (.aload_n 0, 1) := by decide +kernel
theorem dX10_isItem_136 : decode cX10_isItem 136 = .ok (.getfield 7, 3) := by decide +kernel
theorem dX10_isItem_139 : decode cX10_isItem 139 = .ok (.aload_n 0, 1) := by decide +kernel
theorem dX10_isItem_140 : decode cX10_isItem 140 = .ok (.getfield 82, 3) := by decide +kernel
theorem dX10_isItem_143 : decode cX10_isItem 143 = .ok (.baload, 1) := by decide +kernel
theorem dX10_isItem_144 : decode cX10_isItem 144 = .ok (.bipush 59, 2) := by decide +kernel
theorem dX10_isItem_146 : decode cX10_isItem 146 = .ok (.if_icmp .ne 7, 3) := by decide +kernel
theorem dX10_isItem_149 : decode cX10_isItem 149 = .ok (.iconst 1, 1) := by decide +kernel
theorem dX10_isItem_150 : decode cX10_isItem 150 = .ok (.goto 4, 3) := by decide +kernel
theorem dX10_isItem_153 : decode cX10_isItem 153 = .ok (.iconst 0, 1) := by decide +kernel
theorem dX10_isItem_154 : decode cX10_isItem 154 = .ok (.istore_n 2, 1) := by decide +kernel
theorem dX10_isItem_155 : decode cX10_isItem 155 = .ok (.aload_n 0, 1) := by decide +kernel
theorem dX10_isItem_156 : decode cX10_isItem 156 = .ok (.dup, 1) := by decide +kernel
theorem dX10_isItem_157 : decode cX10_isItem 157 = .ok (.getfield 82, 3) := by decide +kernel
theorem dX10_isItem_160 : decode cX10_isItem 160 = .ok (.iconst 1, 1) := by decide +kernel
theorem dX10_isItem_161 : decode cX10_isItem 161 = .ok (.iadd, 1) := by decide +kernel
theorem dX10_isItem_162 : decode cX10_isItem 162 = .ok (.putfield 82, 3) := by decide +kernel
theorem dX10_isItem_165 : decode cX10_isItem 165 = .ok (.iload_n 2, 1) := by decide +kernel
theorem dX10_isItem_166 : decode cX10_isItem 166 = .ok (.ireturn, 1) := by decide +kernel
theorem dX10_begins_0 : decode cX10_begins 0 = .ok (.aload_n 0, 1) := by decide +kernel
theorem dX10_begins_1 : decode cX10_begins 1 = .ok (.getfield 13, 3) := by decide +kernel
theorem dX10_begins_4 : decode cX10_begins 4 = .ok (.iconst 2, 1) := by decide +kernel
theorem dX10_begins_5 : decode cX10_begins 5 = .ok (.iconst 0, 1) := by decide +kernel
theorem dX10_begins_6 : decode cX10_begins 6 = .ok (.iastore, 1) := by decide +kernel
theorem dX10_begins_7 : decode cX10_begins 7 = .ok (.aload_n 0, 1) := by decide +kernel
theorem dX10_begins_8 : decode cX10_begins 8 = .ok (.getfield 13, 3) := by decide +kernel
theorem dX10_begins_11 : decode cX10_begins 11 = .ok (.iconst 3, 1) := by decide +kernel
theorem dX10_begins_12 : decode cX10_begins 12 = .ok (.bipush 31, 2) := by decide +kernel
theorem dX10_begins_14 : decode cX10_begins 14 = .ok (.iastore, 1) := by decide +kernel
theorem dX10_begins_15 : decode cX10_begins 15 = .ok (.aload_n 0, 1) := by decide +kernel
theorem dX10_begins_16 : decode cX10_begins 16 = .ok (.getfield 17, 3) := by decide +kernel
theorem dX10_begins_19 : decode cX10_begins 19 = .ok (.iconst 1, 1) := by decide +kernel
theorem dX10_begins_20 : decode cX10_begins 20 = .ok (.iconst 0, 1) := by decide +kernel
theorem dX10_begins_21 : decode cX10_begins 21 = .ok (.iastore, 1) := by decide +kernel
theorem dX10_begins_22 : decode cX10_begins 22 = .ok (.aload_n 0, 1) := by decide +kernel
theorem dX10_begins_23 : decode cX10_begins 23 = .ok (.getfield 26, 3) := by decide +kernel
theorem dX10_begins_26 : decode cX10_begins 26 = .ok (.iconst 1, 1) := by decide +kernel
theorem dX10_begins_27 : decode cX10_begins 27 = .ok (.iconst 0, 1) := by decide +kernel
theorem dX10_begins_28 : decode cX10_begins 28 = .ok (.iastore, 1) := by decide +kernel
theorem dX10_begins_29 : decode cX10_begins 29 = .ok (.return_, 1) := by decide +kernel
theorem dX10_takes_0 : decode cX10_takes 0 = .ok (.aload_n 0, 1) := by decide +kernel
theorem dX10_takes_1 : decode cX10_takes 1 = .ok (.getfield 13, 3) := by decide +kernel
theorem dX10_takes_4 : decode cX10_takes 4 = .ok (.iconst 0, 1) := by decide +kernel
theorem dX10_takes_5 : decode cX10_takes 5 = .ok (.aload_n 0, 1) := by decide +kernel
theorem dX10_takes_6 : decode cX10_takes 6 = .ok (.getfield 13, 3) := by decide +kernel
theorem dX10_takes_9 : decode cX10_takes 9 = .ok (.iconst 2, 1) := by decide +kernel
theorem dX10_takes_10 : decode cX10_takes 10 = .ok (.iaload, 1) := by decide +kernel
theorem dX10_takes_11 : decode cX10_takes 11 = .ok (.iastore, 1) := by decide +kernel
theorem dX10_takes_12 : decode cX10_takes 12 = .ok (.aload_n 0, 1) := by decide +kernel
theorem dX10_takes_13 : decode cX10_takes 13 = .ok (.getfield 13, 3) := by decide +kernel
theorem dX10_takes_16 : decode cX10_takes 16 = .ok (.iconst 1, 1) := by decide +kernel
theorem dX10_takes_17 : decode cX10_takes 17 = .ok (.aload_n 0, 1) := by decide +kernel
theorem dX10_takes_18 : decode cX10_takes 18 = .ok (.getfield 13, 3) := by decide +kernel
theorem dX10_takes_21 : decode cX10_takes 21 = .ok (.iconst 3, 1) := by decide +kernel
theorem dX10_takes_22 : decode cX10_takes 22 = .ok (.iaload, 1) := by decide +kernel
theorem dX10_takes_23 : decode cX10_takes 23 = .ok (.iastore, 1) := by decide +kernel
theorem dX10_takes_24 : decode cX10_takes 24 = .ok (.aload_n 0, 1) := by decide +kernel
theorem dX10_takes_25 : decode cX10_takes 25 = .ok (.getfield 17, 3) := by decide +kernel
theorem dX10_takes_28 : decode cX10_takes 28 = .ok (.iconst 0, 1) := by decide +kernel
theorem dX10_takes_29 : decode cX10_takes 29 = .ok (.aload_n 0, 1) := by decide +kernel
theorem dX10_takes_30 : decode cX10_takes 30 = .ok (.getfield 17, 3) := by decide +kernel
theorem dX10_takes_33 : decode cX10_takes 33 = .ok (.iconst 1, 1) := by decide +kernel
theorem dX10_takes_34 : decode cX10_takes 34 = .ok (.iaload, 1) := by decide +kernel
theorem dX10_takes_35 : decode cX10_takes 35 = .ok (.iastore, 1) := by decide +kernel
theorem dX10_takes_36 : decode cX10_takes 36 = .ok (.aload_n 0, 1) := by decide +kernel
theorem dX10_takes_37 : decode cX10_takes 37 = .ok (.getfield 26, 3) := by decide +kernel
theorem dX10_takes_40 : decode cX10_takes 40 = .ok (.iconst 0, 1) := by decide +kernel
theorem dX10_takes_41 : decode cX10_takes 41 = .ok (.aload_n 0, 1) := by decide +kernel
theorem dX10_takes_42 : decode cX10_takes 42 = .ok (.getfield 26, 3) := by decide +kernel
theorem dX10_takes_45 : decode cX10_takes 45 = .ok (.iconst 1, 1) := by decide +kernel
theorem dX10_takes_46 : decode cX10_takes 46 = .ok (.iaload, 1) := by decide +kernel
theorem dX10_takes_47 : decode cX10_takes 47 = .ok (.iastore, 1) := by decide +kernel
theorem dX10_takes_48 : decode cX10_takes 48 = .ok (.iconst 0, 1) := by decide +kernel
theorem dX10_takes_49 : decode cX10_takes 49 = .ok (.istore_n 1, 1) := by decide +kernel
theorem dX10_takes_50 : decode cX10_takes 50 = .ok (.iload_n 1, 1) := by decide +kernel
theorem dX10_takes_51 : decode cX10_takes 51 = .ok (.bipush 45, 2) := by decide +kernel
theorem dX10_takes_53 : decode cX10_takes 53 = .ok (.if_icmp .ge 57, 3) := by decide +kernel
theorem dX10_takes_56 : decode cX10_takes 56 = .ok (.aload_n 0, 1) := by decide +kernel
theorem dX10_takes_57 : decode cX10_takes 57 = .ok (.getfield 29, 3) := by decide +kernel
theorem dX10_takes_60 : decode cX10_takes 60 = .ok (.iload_n 1, 1) := by decide +kernel
theorem dX10_takes_61 : decode cX10_takes 61 = .ok (.aload_n 0, 1) := by decide +kernel
end
section
theorem dX10_takes_62 : decode cX10_takes 62 = .ok (.getfield 29, 3) := by decide +kernel
theorem dX10_takes_65 : decode cX10_takes 65 = .ok (.bipush 45, 2) := by decide +kernel
theorem dX10_takes_67 : decode cX10_takes 67 = .ok (.iload_n 1, 1) := by decide +kernel
theorem dX10_takes_68 : decode cX10_takes 68 = .ok (.iadd, 1) := by decide +kernel
theorem dX10_takes_69 : decode cX10_takes 69 = .ok (.iaload, 1) := by decide +kernel
theorem dX10_takes_70 : decode cX10_takes 70 = .ok (.iastore, 1) := by decide +kernel
theorem dX10_takes_71 : decode cX10_takes 71 = .ok (.iload_n 1, 1) := by decide +kernel
theorem dX10_takes_72 : decode cX10_takes 72 = .ok (.iconst 5, 1) := by decide +kernel
theorem dX10_takes_73 : decode cX10_takes 73 = .ok (.if_icmp .ge 31, 3) := by decide +kernel
theorem dX10_takes_76 : decode cX10_takes 76 = .ok (.aload_n 0, 1) := by decide +kernel
theorem dX10_takes_77 : decode cX10_takes 77 = .ok (.getfield 20, 3) := by decide +kernel
theorem dX10_takes_80 : decode cX10_takes 80 = .ok (.iload_n 1, 1) := by decide +kernel
theorem dX10_takes_81 : decode cX10_takes 81 = .ok (.aload_n 0, 1) := by decide +kernel
theorem dX10_takes_82 : decode cX10_takes 82 = .ok (.getfield 20, 3) := by decide +kernel
theorem dX10_takes_85 : decode cX10_takes 85 = .ok (.iconst 5, 1) := by decide +kernel
theorem dX10_takes_86 : decode cX10_takes 86 = .ok (.iload_n 1, 1) := by decide +kernel
theorem dX10_takes_87 : decode cX10_takes 87 = .ok (.iadd, 1) := by decide +kernel
theorem dX10_takes_88 : decode cX10_takes 88 = .ok (.iaload, 1) := by decide +kernel
theorem dX10_takes_89 : decode cX10_takes 89 = .ok (.iastore, 1) := by decide +kernel
theorem dX10_takes_90 : decode cX10_takes 90 = .ok (.aload_n 0, 1) := by decide +kernel
theorem dX10_takes_91 : decode cX10_takes 91 = .ok (.getfield 23, 3) := by decide +kernel
theorem dX10_takes_94 : decode cX10_takes 94 = .ok (.iload_n 1, 1) := by decide +kernel
theorem dX10_takes_95 : decode cX10_takes 95 = .ok (.aload_n 0, 1) := by decide +kernel
theorem dX10_takes_96 : decode cX10_takes 96 = .ok (.getfield 23, 3) := by decide +kernel
theorem dX10_takes_99 : decode cX10_takes 99 = .ok (.iconst 5, 1) := by decide +kernel
theorem dX10_takes_100 : decode cX10_takes 100 = .ok (.iload_n 1, 1) := by decide +kernel
theorem dX10_takes_101 : decode cX10_takes 101 = .ok (.iadd, 1) := by decide +kernel
theorem dX10_takes_102 : decode cX10_takes 102 = .ok (.iaload, 1) := by decide +kernel
theorem dX10_takes_103 : decode cX10_takes 103 = .ok (.iastore, 1) := by decide +kernel
theorem dX10_takes_104 : decode cX10_takes 104 = .ok (.iinc 1 1, 3) := by decide +kernel
theorem dX10_takes_107 : decode cX10_takes 107 = .ok (.goto (-57), 3) := by decide +kernel
theorem dX10_takes_110 : decode cX10_takes 110 = .ok (.aload_n 0, 1) := by decide +kernel
theorem dX10_takes_111 : decode cX10_takes 111 = .ok (.getfield 32, 3) := by decide +kernel
theorem dX10_takes_114 : decode cX10_takes 114 = .ok (.iconst 0, 1) := by decide +kernel
theorem dX10_takes_115 : decode cX10_takes 115 = .ok (.iconst 0, 1) := by decide +kernel
theorem dX10_takes_116 : decode cX10_takes 116 = .ok (.iastore, 1) := by decide +kernel
theorem dX10_takes_117 : decode cX10_takes 117 = .ok (.aload_n 0, 1) := by decide +kernel
theorem dX10_takes_118 : decode cX10_takes 118 = .ok (.getfield 32, 3) := by decide +kernel
theorem dX10_takes_121 : decode cX10_takes 121 = .ok (.iconst 1, 1) := by decide +kernel
theorem dX10_takes_122 : decode cX10_takes 122 = .ok (.bipush (-4), 2) := by decide +kernel
theorem dX10_takes_124 : decode cX10_takes 124 = .ok (.iastore, 1) := by decide +kernel
theorem dX10_takes_125 : decode cX10_takes 125 = .ok (.aload_n 0, 1) := by decide +kernel
theorem dX10_takes_126 : decode cX10_takes 126 = .ok (.getfield 32, 3) := by decide +kernel
theorem dX10_takes_129 : decode cX10_takes 129 = .ok (.iconst 2, 1) := by decide +kernel
theorem dX10_takes_130 : decode cX10_takes 130 = .ok (.iconst 0, 1) := by decide +kernel
theorem dX10_takes_131 : decode cX10_takes 131 = .ok (.iastore, 1) := by decide +kernel
theorem dX10_takes_132 : decode cX10_takes 132 = .ok (.aload_n 0, 1) := by decide +kernel
theorem dX10_takes_133 : decode cX10_takes 133 = .ok (.iconst 0, 1) := by decide +kernel
theorem dX10_takes_134 : decode cX10_takes 134 = .ok (.putfield 111, 3) := by decide +kernel
theorem dX10_takes_137 : decode cX10_takes 137 = .ok (.aload_n 0, 1) := by decide +kernel
theorem dX10_takes_138 : decode cX10_takes 138 = .ok (.iconst 0, 1) := by decide +kernel
theorem dX10_takes_139 : decode cX10_takes 139 = .ok (.putfield 114, 3) := by decide +kernel
theorem dX10_takes_142 : decode cX10_takes 142 = .ok (.aload_n 0, 1) := by decide +kernel
theorem dX10_takes_143 : decode cX10_takes 143 = .ok (.iconst 0, 1) := by decide +kernel
theorem dX10_takes_144 : decode cX10_takes 144 = .ok (.putfield 117, 3) := by decide +kernel
theorem dX10_takes_147 : decode cX10_takes 147 = .ok (.return_, 1) := by decide +kernel
theorem dX10_fault_0 : decode cX10_fault 0 = .ok (.aload_n 0, 1) := by decide +kernel
theorem dX10_fault_1 : decode cX10_fault 1 = .ok (.iconst 0, 1) := by decide +kernel
theorem dX10_fault_2 : decode cX10_fault 2 = .ok (.putfield 82, 3) := by decide +kernel
theorem dX10_fault_5 : decode cX10_fault 5 = .ok (.aload_n 0, 1) := by decide +kernel
theorem dX10_fault_6 : decode cX10_fault 6 = .ok (.invokevirtual 66, 3) := by decide +kernel
theorem dX10_fault_9 : decode cX10_fault 9 = .ok (.aload_n 0, 1) := by decide +kernel
theorem dX10_fault_10 : decode cX10_fault 10 = .ok (.getfield 82, 3) := by decide +kernel
theorem dX10_fault_13 : decode cX10_fault 13 = .ok (.aload_n 0, 1) := by decide +kernel
theorem dX10_fault_14 : decode cX10_fault 14 = .ok (.getfield 78, 3) := by decide +kernel
theorem dX10_fault_17 : decode cX10_fault 17 = .ok (.if_icmp .ge 20, 3) := by decide +kernel
theorem dX10_fault_20 : decode cX10_fault 20 = .ok (.aload_n 0, 1) := by decide +kernel
theorem dX10_fault_21 : decode cX10_fault 21 = .ok (.getfield 82, 3) := by decide +kernel
theorem dX10_fault_24 : decode cX10_fault 24 = .ok (.istore_n 1, 1) := by decide +kernel
theorem dX10_fault_25 : decode cX10_fault 25 = .ok (.aload_n 0, 1) := by decide +kernel
theorem dX10_fault_26 : decode cX10_fault 26 = .ok (.invokevirtual 120, 3) := by decide +kernel
theorem dX10_fault_29 : decode cX10_fault 29 = .ok (.ifCond .ne 5, 3) := by decide +kernel
theorem dX10_fault_32 : decode cX10_fault 32 = .ok (.iload_n 1, 1) := by decide +kernel
theorem dX10_fault_33 : decode cX10_fault 33 = .ok (.ireturn, 1) := by decide +kernel
theorem dX10_fault_34 : decode cX10_fault 34 = .ok (.goto (-25), 3) := by decide +kernel
theorem dX10_fault_37 : decode cX10_fault 37 = .ok (.bipush (-4), 2) := by decide +kernel
theorem dX10_fault_39 : decode cX10_fault 39 = .ok (.ireturn, 1) := by decide +kernel
theorem dX10_lay_0 : decode cX10_lay 0 = .ok (.aload_n 0, 1) := by decide +kernel
theorem dX10_lay_1 : decode cX10_lay 1 = .ok (.invokevirtual 123, 3) := by decide +kernel
theorem dX10_lay_4 : decode cX10_lay 4 = .ok (.bipush (-4), 2) := by decide +kernel
theorem dX10_lay_6 : decode cX10_lay 6 = .ok (.if_icmp .ne 21, 3) := by decide +kernel
theorem dX10_lay_9 : decode cX10_lay 9 = .ok (.aload_n 0, 1) := by decide +kernel
theorem dX10_lay_10 : decode cX10_lay 10 = .ok (.getfield 17, 3) := by decide +kernel
theorem dX10_lay_13 : decode cX10_lay 13 = .ok (.iconst 1, 1) := by decide +kernel
theorem dX10_lay_14 : decode cX10_lay 14 = .ok (.iaload, 1) := by decide +kernel
theorem dX10_lay_15 : decode cX10_lay 15 = .ok (.ifCond .eq 12, 3) := by decide +kernel
theorem dX10_lay_18 : decode cX10_lay 18 = .ok (.aload_n 0, 1) := by decide +kernel
theorem dX10_lay_19 : decode cX10_lay 19 = .ok (.getfield 26, 3) := by decide +kernel
theorem dX10_lay_22 : decode cX10_lay 22 = .ok (.iconst 1, 1) := by decide +kernel
theorem dX10_lay_23 : decode cX10_lay 23 = .ok (.iaload, 1) := by decide +kernel
theorem dX10_lay_24 : decode cX10_lay 24 = .ok (.ifCond .ne 6, 3) := by decide +kernel
theorem dX10_lay_27 : decode cX10_lay 27 = .ok (.bipush (-2), 2) := by decide +kernel
theorem dX10_lay_29 : decode cX10_lay 29 = .ok (.ireturn, 1) := by decide +kernel
theorem dX10_lay_30 : decode cX10_lay 30 = .ok (.aload_n 0, 1) := by decide +kernel
theorem dX10_lay_31 : decode cX10_lay 31 = .ok (.invokevirtual 69, 3) := by decide +kernel
theorem dX10_lay_34 : decode cX10_lay 34 = .ok (.aload_n 0, 1) := by decide +kernel
theorem dX10_lay_35 : decode cX10_lay 35 = .ok (.getfield 26, 3) := by decide +kernel
theorem dX10_lay_38 : decode cX10_lay 38 = .ok (.iconst 0, 1) := by decide +kernel
theorem dX10_lay_39 : decode cX10_lay 39 = .ok (.iaload, 1) := by decide +kernel
theorem dX10_lay_40 : decode cX10_lay 40 = .ok (.ireturn, 1) := by decide +kernel
theorem dX10_isMan_0 : decode cX10_isMan 0 = .ok (.iload_n 1, 1) := by decide +kernel
theorem dX10_isMan_1 : decode cX10_isMan 1 = .ok (.i2l, 1) := by decide +kernel
theorem dX10_isMan_2 : decode cX10_isMan 2 = .ok (.lconst 0, 1) := by decide +kernel
theorem dX10_isMan_3 : decode cX10_isMan 3 = .ok (.aload_n 0, 1) := by decide +kernel
theorem dX10_isMan_4 : decode cX10_isMan 4 = .ok (.getfield 26, 3) := by decide +kernel
theorem dX10_isMan_7 : decode cX10_isMan 7 = .ok (.iconst 0, 1) := by decide +kernel
theorem dX10_isMan_8 : decode cX10_isMan 8 = .ok (.iaload, 1) := by decide +kernel
theorem dX10_isMan_9 : decode cX10_isMan 9 = .ok (.iconst 1, 1) := by decide +kernel
theorem dX10_isMan_10 : decode cX10_isMan 10 = .ok (.isub, 1) := by decide +kernel
theorem dX10_isMan_11 : decode cX10_isMan 11 = .ok (.i2l, 1) := by decide +kernel
theorem dX10_isMan_12 : decode cX10_isMan 12 = .ok (.invokestatic 74, 3) := by decide +kernel
theorem dX10_isMan_15 : decode cX10_isMan 15 = .ok (.ireturn, 1) := by decide +kernel
theorem dX10_seen_0 : decode cX10_seen 0 = .ok (.aload_n 0, 1) := by decide +kernel
theorem dX10_seen_1 : decode cX10_seen 1 = .ok (.getfield 13, 3) := by decide +kernel
theorem dX10_seen_4 : decode cX10_seen 4 = .ok (.iconst 1, 1) := by decide +kernel
theorem dX10_seen_5 : decode cX10_seen 5 = .ok (.iaload, 1) := by decide +kernel
theorem dX10_seen_6 : decode cX10_seen 6 = .ok (.iconst 1, 1) := by decide +kernel
theorem dX10_seen_7 : decode cX10_seen 7 = .ok (.aload_n 0, 1) := by decide +kernel
theorem dX10_seen_8 : decode cX10_seen 8 = .ok (.getfield 17, 3) := by decide +kernel
theorem dX10_seen_11 : decode cX10_seen 11 = .ok (.iconst 0, 1) := by decide +kernel
theorem dX10_seen_12 : decode cX10_seen 12 = .ok (.iaload, 1) := by decide +kernel
theorem dX10_seen_13 : decode cX10_seen 13 = .ok (.ishl, 1) := by decide +kernel
theorem dX10_seen_14 : decode cX10_seen 14 = .ok (.iconst 1, 1) := by decide +kernel
theorem dX10_seen_15 : decode cX10_seen 15 = .ok (.isub, 1) := by decide +kernel
theorem dX10_seen_16 : decode cX10_seen 16 = .ok (.iand, 1) := by decide +kernel
theorem dX10_seen_17 : decode cX10_seen 17 = .ok (.ireturn, 1) := by decide +kernel
theorem dX10_codeOf_0 : decode cX10_codeOf 0 = .ok (.iconst 0, 1) := by decide +kernel
theorem dX10_codeOf_1 : decode cX10_codeOf 1 = .ok (.istore_n 2, 1) := by decide +kernel
theorem dX10_codeOf_2 : decode cX10_codeOf 2 = .ok (.iconst 0, 1) := by decide +kernel
theorem dX10_codeOf_3 : decode cX10_codeOf 3 = .ok (.istore_n 3, 1) := by decide +kernel
theorem dX10_codeOf_4 : decode cX10_codeOf 4 = .ok (.iload_n 3, 1) := by decide +kernel
theorem dX10_codeOf_5 : decode cX10_codeOf 5 = .ok (.aload_n 0, 1) := by decide +kernel
theorem dX10_codeOf_6 : decode cX10_codeOf 6 = .ok (.getfield 17, 3) := by decide +kernel
theorem dX10_codeOf_9 : decode cX10_codeOf 9 = .ok (.iconst 0, 1) := by decide +kernel
theorem dX10_codeOf_10 : decode cX10_codeOf 10 = .ok (.iaload, 1) := by decide +kernel
theorem dX10_codeOf_11 : decode cX10_codeOf 11 = .ok (.if_icmp .ge 29, 3) := by decide +kernel
theorem dX10_codeOf_14 : decode cX10_codeOf 14 = .ok (.iload_n 2, 1) := by decide +kernel
theorem dX10_codeOf_15 : decode cX10_codeOf 15 = .ok (.aload_n 0, 1) := by decide +kernel
theorem dX10_codeOf_16 : decode cX10_codeOf 16 = .ok (.getfield 20, 3) := by decide +kernel
theorem dX10_codeOf_19 : decode cX10_codeOf 19 = .ok (.iload_n 3, 1) := by decide +kernel
theorem dX10_codeOf_20 : decode cX10_codeOf 20 = .ok (.iaload, 1) := by decide +kernel
theorem dX10_codeOf_21 : decode cX10_codeOf 21 = .ok (.imul, 1) := by decide +kernel
theorem dX10_codeOf_22 : decode cX10_codeOf 22 = .ok (.aload_n 0, 1) := by decide +kernel
theorem dX10_codeOf_23 : decode cX10_codeOf 23 = .ok (.getfield 29, 3) := by decide +kernel
theorem dX10_codeOf_26 : decode cX10_codeOf 26 = .ok (.iconst 5, 1) := by decide +kernel
theorem dX10_codeOf_27 : decode cX10_codeOf 27 = .ok (.iload_n 1, 1) := by decide +kernel
theorem dX10_codeOf_28 : decode cX10_codeOf 28 = .ok (.imul, 1) := by decide +kernel
theorem dX10_codeOf_29 : decode cX10_codeOf 29 = .ok (.iload_n 3, 1) := by decide +kernel
theorem dX10_codeOf_30 : decode cX10_codeOf 30 = .ok (.iadd, 1) := by decide +kernel
theorem dX10_codeOf_31 : decode cX10_codeOf 31 = .ok (.iaload, 1) := by decide +kernel
theorem dX10_codeOf_32 : decode cX10_codeOf 32 = .ok (.iadd, 1) := by decide +kernel
theorem dX10_codeOf_33 : decode cX10_codeOf 33 = .ok (.istore_n 2, 1) := by decide +kernel
theorem dX10_codeOf_34 : decode cX10_codeOf 34 = .ok (.iinc 3 1, 3) := by decide +kernel
theorem dX10_codeOf_37 : decode cX10_codeOf 37 = .ok (.goto (-33), 3) := by decide +kernel
theorem dX10_codeOf_40 : decode cX10_codeOf 40 = .ok (.iload_n 2, 1) := by decide +kernel
theorem dX10_codeOf_41 : decode cX10_codeOf 41 = .ok (.ireturn, 1) := by decide +kernel
theorem dX10_person_0 : decode cX10_person 0 = .ok (.aload_n 0, 1) := by decide +kernel
theorem dX10_person_1 : decode cX10_person 1 = .ok (.iload_n 1, 1) := by decide +kernel
theorem dX10_person_2 : decode cX10_person 2 = .ok (.invokevirtual 126, 3) := by decide +kernel
theorem dX10_person_5 : decode cX10_person 5 = .ok (.ifCond .eq 23, 3) := by decide +kernel
theorem dX10_person_8 : decode cX10_person 8 = .ok (.iload_n 2, 1) := by decide +kernel
theorem dX10_person_9 : decode cX10_person 9 = .ok (.i2l, 1) := by decide +kernel
theorem dX10_person_10 : decode cX10_person 10 = .ok (.ldc2_w 130, 3) := by decide +kernel
theorem dX10_person_13 : decode cX10_person 13 = .ok (.aload_n 0, 1) := by decide +kernel
theorem dX10_person_14 : decode cX10_person 14 = .ok (.getfield 17, 3) := by decide +kernel
theorem dX10_person_17 : decode cX10_person 17 = .ok (.iconst 0, 1) := by decide +kernel
theorem dX10_person_18 : decode cX10_person 18 = .ok (.iaload, 1) := by decide +kernel
theorem dX10_person_19 : decode cX10_person 19 = .ok (.iconst 1, 1) := by decide +kernel
theorem dX10_person_20 : decode cX10_person 20 = .ok (.isub, 1) := by decide +kernel
theorem dX10_person_21 : decode cX10_person 21 = .ok (.i2l, 1) := by decide +kernel
theorem dX10_person_22 : decode cX10_person 22 = .ok (.invokestatic 74, 3) := by decide +kernel
theorem dX10_person_25 : decode cX10_person 25 = .ok (.ifCond .ne 5, 3) := by decide +kernel
theorem dX10_person_28 : decode cX10_person 28 = .ok (.iconst (-1), 1) := by decide +kernel
theorem dX10_person_29 : decode cX10_person 29 = .ok (.ireturn, 1) := by decide +kernel
theorem dX10_person_30 : decode cX10_person 30 = .ok (.iload_n 2, 1) := by decide +kernel
theorem dX10_person_31 : decode cX10_person 31 = .ok (.bipush (-2), 2) := by decide +kernel
theorem dX10_person_33 : decode cX10_person 33 = .ok (.if_icmp .ne 16, 3) := by decide +kernel
theorem dX10_person_36 : decode cX10_person 36 = .ok (.aload_n 0, 1) := by decide +kernel
theorem dX10_person_37 : decode cX10_person 37 = .ok (.getfield 32, 3) := by decide +kernel
theorem dX10_person_40 : decode cX10_person 40 = .ok (.iconst 0, 1) := by decide +kernel
theorem dX10_person_41 : decode cX10_person 41 = .ok (.iaload, 1) := by decide +kernel
theorem dX10_person_42 : decode cX10_person 42 = .ok (.iload_n 1, 1) := by decide +kernel
theorem dX10_person_43 : decode cX10_person 43 = .ok (.ishr, 1) := by decide +kernel
theorem dX10_person_44 : decode cX10_person 44 = .ok (.iconst 1, 1) := by decide +kernel
theorem dX10_person_45 : decode cX10_person 45 = .ok (.iand, 1) := by decide +kernel
theorem dX10_person_46 : decode cX10_person 46 = .ok (.goto 26, 3) := by decide +kernel
theorem dX10_person_49 : decode cX10_person 49 = .ok (.iload_n 2, 1) := by decide +kernel
theorem dX10_person_50 : decode cX10_person 50 = .ok (.iconst (-1), 1) := by decide +kernel
theorem dX10_person_51 : decode cX10_person 51 = .ok (.if_icmp .ne 11, 3) := by decide +kernel
theorem dX10_person_54 : decode cX10_person 54 = .ok (.aload_n 0, 1) := by decide +kernel
theorem dX10_person_55 : decode cX10_person 55 = .ok (.iload_n 1, 1) := by decide +kernel
theorem dX10_person_56 : decode cX10_person 56 = .ok (.invokevirtual 132, 3) := by decide +kernel
theorem dX10_person_59 : decode cX10_person 59 = .ok (.goto 13, 3) := by decide +kernel
theorem dX10_person_62 : decode cX10_person 62 = .ok (.aload_n 0, 1) := by decide +kernel
theorem dX10_person_63 : decode cX10_person 63 = .ok (.getfield 29, 3) := by decide +kernel
theorem dX10_person_66 : decode cX10_person 66 = .ok (.iconst 5, 1) := by decide +kernel
theorem dX10_person_67 : decode cX10_person 67 = .ok (.iload_n 1, 1) := by decide +kernel
theorem dX10_person_68 : decode cX10_person 68 = .ok (.imul, 1) := by decide +kernel
theorem dX10_person_69 : decode cX10_person 69 = .ok (.iload_n 2, 1) := by decide +kernel
theorem dX10_person_70 : decode cX10_person 70 = .ok (.iadd, 1) := by decide +kernel
theorem dX10_person_71 : decode cX10_person 71 = .ok (.iaload, 1) := by decide +kernel
theorem dX10_person_72 : decode cX10_person 72 = .ok (.ireturn, 1) := by decide +kernel
theorem dX10_unlike_0 : decode cX10_unlike 0 = .ok (.iconst 0, 1) := by decide +kernel
theorem dX10_unlike_1 : decode cX10_unlike 1 = .ok (.istore_n 3, 1) := by decide +kernel
theorem dX10_unlike_2 : decode cX10_unlike 2 = .ok (.iconst 0, 1) := by decide +kernel
theorem dX10_unlike_3 : decode cX10_unlike 3 = .ok (.istore 4, 2) := by decide +kernel
theorem dX10_unlike_5 : decode cX10_unlike 5 = .ok (.iload 4, 2) := by decide +kernel
theorem dX10_unlike_7 : decode cX10_unlike 7 = .ok (.aload_n 0, 1) := by decide +kernel
theorem dX10_unlike_8 : decode cX10_unlike 8 = .ok (.getfield 17, 3) := by decide +kernel
theorem dX10_unlike_11 : decode cX10_unlike 11 = .ok (.iconst 0, 1) := by decide +kernel
theorem dX10_unlike_12 : decode cX10_unlike 12 = .ok (.iaload, 1) := by decide +kernel
theorem dX10_unlike_13 : decode cX10_unlike 13 = .ok (.if_icmp .ge 45, 3) := by decide +kernel
theorem dX10_unlike_16 : decode cX10_unlike 16 = .ok (.iload_n 3, 1) := by decide +kernel
theorem dX10_unlike_17 : decode cX10_unlike 17 = .ok (.aload_n 0, 1) := by decide +kernel
theorem dX10_unlike_18 : decode cX10_unlike 18 = .ok (.getfield 29, 3) := by decide +kernel
theorem dX10_unlike_21 : decode cX10_unlike 21 = .ok (.iconst 5, 1) := by decide +kernel
theorem dX10_unlike_22 : decode cX10_unlike 22 = .ok (.iload_n 1, 1) := by decide +kernel
theorem dX10_unlike_23 : decode cX10_unlike 23 = .ok (.imul, 1) := by decide +kernel
theorem dX10_unlike_24 : decode cX10_unlike 24 = .ok (.iload 4, 2) := by decide +kernel
theorem dX10_unlike_26 : decode cX10_unlike 26 = .ok (.iadd, 1) := by decide +kernel
theorem dX10_unlike_27 : decode cX10_unlike 27 = .ok (.iaload, 1) := by decide +kernel
theorem dX10_unlike_28 : decode cX10_unlike 28 = .ok (.aload_n 0, 1) := by decide +kernel
theorem dX10_unlike_29 : decode cX10_unlike 29 = .ok (.getfield 29, 3) := by decide +kernel
theorem dX10_unlike_32 : decode cX10_unlike 32 = .ok (.iconst 5, 1) := by decide +kernel
theorem dX10_unlike_33 : decode cX10_unlike 33 = .ok (.iload_n 2, 1) := by decide +kernel
theorem dX10_unlike_34 : decode cX10_unlike 34 = .ok (.imul, 1) := by decide +kernel
theorem dX10_unlike_35 : decode cX10_unlike 35 = .ok (.iload 4, 2) := by decide +kernel
theorem dX10_unlike_37 : decode cX10_unlike 37 = .ok (.iadd, 1) := by decide +kernel
theorem dX10_unlike_38 : decode cX10_unlike 38 = .ok (.iaload, 1) := by decide +kernel
theorem dX10_unlike_39 : decode cX10_unlike 39 = .ok (.if_icmp .eq 10, 3) := by decide +kernel
theorem dX10_unlike_42 : decode cX10_unlike 42 = .ok (.iconst 1, 1) := by decide +kernel
theorem dX10_unlike_43 : decode cX10_unlike 43 = .ok (.iload 4, 2) := by decide +kernel
theorem dX10_unlike_45 : decode cX10_unlike 45 = .ok (.ishl, 1) := by decide +kernel
theorem dX10_unlike_46 : decode cX10_unlike 46 = .ok (.goto 4, 3) := by decide +kernel
theorem dX10_unlike_49 : decode cX10_unlike 49 = .ok (.iconst 0, 1) := by decide +kernel
theorem dX10_unlike_50 : decode cX10_unlike 50 = .ok (.ior, 1) := by decide +kernel
theorem dX10_unlike_51 : decode cX10_unlike 51 = .ok (.istore_n 3, 1) := by decide +kernel
theorem dX10_unlike_52 : decode cX10_unlike 52 = .ok (.iinc 4 1, 3) := by decide +kernel
theorem dX10_unlike_55 : decode cX10_unlike 55 = .ok (.goto (-50), 3) := by decide +kernel
theorem dX10_unlike_58 : decode cX10_unlike 58 = .ok (.iload_n 3, 1) := by decide +kernel
theorem dX10_unlike_59 : decode cX10_unlike 59 = .ok (.ireturn, 1) := by decide +kernel
theorem dX10_differ_0 : decode cX10_differ 0 = .ok (.aload_n 0, 1) := by decide +kernel
theorem dX10_differ_1 : decode cX10_differ 1 = .ok (.iload_n 1, 1) := by decide +kernel
theorem dX10_differ_2 : decode cX10_differ 2 = .ok (.invokevirtual 126, 3) := by decide +kernel
theorem dX10_differ_5 : decode cX10_differ 5 = .ok (.ifCond .eq 11, 3) := by decide +kernel
theorem dX10_differ_8 : decode cX10_differ 8 = .ok (.aload_n 0, 1) := by decide +kernel
theorem dX10_differ_9 : decode cX10_differ 9 = .ok (.iload_n 2, 1) := by decide +kernel
theorem dX10_differ_10 : decode cX10_differ 10 = .ok (.invokevirtual 126, 3) := by decide +kernel
theorem dX10_differ_13 : decode cX10_differ 13 = .ok (.ifCond .ne 7, 3) := by decide +kernel
theorem dX10_differ_16 : decode cX10_differ 16 = .ok (.iconst (-1), 1) := by decide +kernel
theorem dX10_differ_17 : decode cX10_differ 17 = .ok (.goto 27, 3) := by decide +kernel
theorem dX10_differ_20 : decode cX10_differ 20 = .ok (.iload_n 3, 1) := by decide +kernel
theorem dX10_differ_21 : decode cX10_differ 21 = .ok (.ifCond .eq 17, 3) := by decide +kernel
theorem dX10_differ_24 : decode cX10_differ 24 = .ok (.aload_n 0, 1) := by decide +kernel
theorem dX10_differ_25 : decode cX10_differ 25 = .ok (.iload_n 1, 1) := by decide +kernel
theorem dX10_differ_26 : decode cX10_differ 26 = .ok (.iload_n 2, 1) := by decide +kernel
theorem dX10_differ_27 : decode cX10_differ 27 = .ok (.invokevirtual 136, 3) := by decide +kernel
theorem dX10_differ_30 : decode cX10_differ 30 = .ok (.aload_n 0, 1) := by decide +kernel
theorem dX10_differ_31 : decode cX10_differ 31 = .ok (.invokevirtual 140, 3) := by decide +kernel
theorem dX10_differ_34 : decode cX10_differ 34 = .ok (.iand, 1) := by decide +kernel
theorem dX10_differ_35 : decode cX10_differ 35 = .ok (.goto 9, 3) := by decide +kernel
theorem dX10_differ_38 : decode cX10_differ 38 = .ok (.aload_n 0, 1) := by decide +kernel
theorem dX10_differ_39 : decode cX10_differ 39 = .ok (.iload_n 1, 1) := by decide +kernel
theorem dX10_differ_40 : decode cX10_differ 40 = .ok (.iload_n 2, 1) := by decide +kernel
theorem dX10_differ_41 : decode cX10_differ 41 = .ok (.invokevirtual 136, 3) := by decide +kernel
theorem dX10_differ_44 : decode cX10_differ 44 = .ok (.ireturn, 1) := by decide +kernel
theorem dX10_many_0 : decode cX10_many 0 = .ok (.iconst 0, 1) := by decide +kernel
theorem dX10_many_1 : decode cX10_many 1 = .ok (.istore_n 1, 1) := by decide +kernel
theorem dX10_many_2 : decode cX10_many 2 = .ok (.iconst 0, 1) := by decide +kernel
theorem dX10_many_3 : decode cX10_many 3 = .ok (.istore_n 2, 1) := by decide +kernel
theorem dX10_many_4 : decode cX10_many 4 = .ok (.iload_n 2, 1) := by decide +kernel
theorem dX10_many_5 : decode cX10_many 5 = .ok (.bipush 10, 2) := by decide +kernel
theorem dX10_many_7 : decode cX10_many 7 = .ok (.if_icmp .ge 17, 3) := by decide +kernel
theorem dX10_many_10 : decode cX10_many 10 = .ok (.iload_n 1, 1) := by decide +kernel
theorem dX10_many_11 : decode cX10_many 11 = .ok (.iload_n 0, 1) := by decide +kernel
theorem dX10_many_12 : decode cX10_many 12 = .ok (.iload_n 2, 1) := by decide +kernel
theorem dX10_many_13 : decode cX10_many 13 = .ok (.ishr, 1) := by decide +kernel
theorem dX10_many_14 : decode cX10_many 14 = .ok (.iconst 1, 1) := by decide +kernel
theorem dX10_many_15 : decode cX10_many 15 = .ok (.iand, 1) := by decide +kernel
theorem dX10_many_16 : decode cX10_many 16 = .ok (.iadd, 1) := by decide +kernel
theorem dX10_many_17 : decode cX10_many 17 = .ok (.istore_n 1, 1) := by decide +kernel
theorem dX10_many_18 : decode cX10_many 18 = .ok (.iinc 2 1, 3) := by decide +kernel
theorem dX10_many_21 : decode cX10_many 21 = .ok (.goto (-17), 3) := by decide +kernel
theorem dX10_many_24 : decode cX10_many 24 = .ok (.iload_n 1, 1) := by decide +kernel
theorem dX10_many_25 : decode cX10_many 25 = .ok (.ireturn, 1) := by decide +kernel
theorem dX10_passes_0 : decode cX10_passes 0 = .ok (.iload_n 1, 1) := by decide +kernel
theorem dX10_passes_1 : decode cX10_passes 1 = .ok (.invokestatic 143, 3) := by decide +kernel
theorem dX10_passes_4 : decode cX10_passes 4 = .ok (.istore_n 3, 1) := by decide +kernel
theorem dX10_passes_5 : decode cX10_passes 5 = .ok (.iload_n 0, 1) := by decide +kernel
theorem dX10_passes_6 : decode cX10_passes 6 = .ok (.ifCond .ne 16, 3) := by decide +kernel
theorem dX10_passes_9 : decode cX10_passes 9 = .ok (.iload_n 3, 1) := by decide +kernel
theorem dX10_passes_10 : decode cX10_passes 10 = .ok (.iconst 1, 1) := by decide +kernel
theorem dX10_passes_11 : decode cX10_passes 11 = .ok (.if_icmp .ne 7, 3) := by decide +kernel
theorem dX10_passes_14 : decode cX10_passes 14 = .ok (.iconst 1, 1) := by decide +kernel
theorem dX10_passes_15 : decode cX10_passes 15 = .ok (.goto 58, 3) := by decide +kernel
theorem dX10_passes_18 : decode cX10_passes 18 = .ok (.iconst 0, 1) := by decide +kernel
theorem dX10_passes_19 : decode cX10_passes 19 = .ok (.goto 54, 3) := by decide +kernel
theorem dX10_passes_22 : decode cX10_passes 22 = .ok (.iload_n 0, 1) := by decide +kernel
theorem dX10_passes_23 : decode cX10_passes 23 = .ok (.iconst 1, 1) := by decide +kernel
theorem dX10_passes_24 : decode cX10_passes 24 = .ok (.if_icmp .ne 16, 3) := by decide +kernel
theorem dX10_passes_27 : decode cX10_passes 27 = .ok (.iload_n 3, 1) := by decide +kernel
theorem dX10_passes_28 : decode cX10_passes 28 = .ok (.iconst 2, 1) := by decide +kernel
theorem dX10_passes_29 : decode cX10_passes 29 = .ok (.if_icmp .ne 7, 3) := by decide +kernel
theorem dX10_passes_32 : decode cX10_passes 32 = .ok (.iconst 1, 1) := by decide +kernel
theorem dX10_passes_33 : decode cX10_passes 33 = .ok (.goto 40, 3) := by decide +kernel
theorem dX10_passes_36 : decode cX10_passes 36 = .ok (.iconst 0, 1) := by decide +kernel
theorem dX10_passes_37 : decode cX10_passes 37 = .ok (.goto 36, 3) := by decide +kernel
theorem dX10_passes_40 : decode cX10_passes 40 = .ok (.iload_n 0, 1) := by decide +kernel
theorem dX10_passes_41 : decode cX10_passes 41 = .ok (.iconst 2, 1) := by decide +kernel
theorem dX10_passes_42 : decode cX10_passes 42 = .ok (.if_icmp .ne 21, 3) := by decide +kernel
theorem dX10_passes_45 : decode cX10_passes 45 = .ok (.iload_n 3, 1) := by decide +kernel
theorem dX10_passes_46 : decode cX10_passes 46 = .ok (.iconst 1, 1) := by decide +kernel
theorem dX10_passes_47 : decode cX10_passes 47 = .ok (.if_icmp .ne 12, 3) := by decide +kernel
theorem dX10_passes_50 : decode cX10_passes 50 = .ok (.iload_n 1, 1) := by decide +kernel
theorem dX10_passes_51 : decode cX10_passes 51 = .ok (.iload_n 2, 1) := by decide +kernel
theorem dX10_passes_52 : decode cX10_passes 52 = .ok (.if_icmp .eq 7, 3) := by decide +kernel
theorem dX10_passes_55 : decode cX10_passes 55 = .ok (.iconst 1, 1) := by decide +kernel
theorem dX10_passes_56 : decode cX10_passes 56 = .ok (.goto 17, 3) := by decide +kernel
theorem dX10_passes_59 : decode cX10_passes 59 = .ok (.iconst 0, 1) := by decide +kernel
theorem dX10_passes_60 : decode cX10_passes 60 = .ok (.goto 13, 3) := by decide +kernel
theorem dX10_passes_63 : decode cX10_passes 63 = .ok (.iload_n 3, 1) := by decide +kernel
theorem dX10_passes_64 : decode cX10_passes 64 = .ok (.iconst 2, 1) := by decide +kernel
theorem dX10_passes_65 : decode cX10_passes 65 = .ok (.if_icmp .ge 7, 3) := by decide +kernel
theorem dX10_passes_68 : decode cX10_passes 68 = .ok (.iconst 1, 1) := by decide +kernel
theorem dX10_passes_69 : decode cX10_passes 69 = .ok (.goto 4, 3) := by decide +kernel
theorem dX10_passes_72 : decode cX10_passes 72 = .ok (.iconst 0, 1) := by decide +kernel
theorem dX10_passes_73 : decode cX10_passes 73 = .ok (.ireturn, 1) := by decide +kernel
theorem dX10_mayNow_0 : decode cX10_mayNow 0 = .ok (.aload_n 0, 1) := by decide +kernel
theorem dX10_mayNow_1 : decode cX10_mayNow 1 = .ok (.getfield 32, 3) := by decide +kernel
theorem dX10_mayNow_4 : decode cX10_mayNow 4 = .ok (.iconst 1, 1) := by decide +kernel
theorem dX10_mayNow_5 : decode cX10_mayNow 5 = .ok (.iaload, 1) := by decide +kernel
theorem dX10_mayNow_6 : decode cX10_mayNow 6 = .ok (.ifCond .lt 37, 3) := by decide +kernel
theorem dX10_mayNow_9 : decode cX10_mayNow 9 = .ok (.aload_n 0, 1) := by decide +kernel
theorem dX10_mayNow_10 : decode cX10_mayNow 10 = .ok (.getfield 13, 3) := by decide +kernel
theorem dX10_mayNow_13 : decode cX10_mayNow 13 = .ok (.iconst 0, 1) := by decide +kernel
theorem dX10_mayNow_14 : decode cX10_mayNow 14 = .ok (.iaload, 1) := by decide +kernel
theorem dX10_mayNow_15 : decode cX10_mayNow 15 = .ok (.aload_n 0, 1) := by decide +kernel
theorem dX10_mayNow_16 : decode cX10_mayNow 16 = .ok (.iload_n 1, 1) := by decide +kernel
theorem dX10_mayNow_17 : decode cX10_mayNow 17 = .ok (.aload_n 0, 1) := by decide +kernel
theorem dX10_mayNow_18 : decode cX10_mayNow 18 = .ok (.getfield 32, 3) := by decide +kernel
theorem dX10_mayNow_21 : decode cX10_mayNow 21 = .ok (.iconst 1, 1) := by decide +kernel
theorem dX10_mayNow_22 : decode cX10_mayNow 22 = .ok (.iaload, 1) := by decide +kernel
theorem dX10_mayNow_23 : decode cX10_mayNow 23 = .ok (.invokevirtual 136, 3) := by decide +kernel
theorem dX10_mayNow_26 : decode cX10_mayNow 26 = .ok (.aload_n 0, 1) := by decide +kernel
theorem dX10_mayNow_27 : decode cX10_mayNow 27 = .ok (.invokevirtual 140, 3) := by decide +kernel
theorem dX10_mayNow_30 : decode cX10_mayNow 30 = .ok (.iand, 1) := by decide +kernel
theorem dX10_mayNow_31 : decode cX10_mayNow 31 = .ok (.aload_n 0, 1) := by decide +kernel
theorem dX10_mayNow_32 : decode cX10_mayNow 32 = .ok (.getfield 32, 3) := by decide +kernel
theorem dX10_mayNow_35 : decode cX10_mayNow 35 = .ok (.iconst 2, 1) := by decide +kernel
theorem dX10_mayNow_36 : decode cX10_mayNow 36 = .ok (.iaload, 1) := by decide +kernel
theorem dX10_mayNow_37 : decode cX10_mayNow 37 = .ok (.invokestatic 146, 3) := by decide +kernel
theorem dX10_mayNow_40 : decode cX10_mayNow 40 = .ok (.ifCond .eq 7, 3) := by decide +kernel
theorem dX10_mayNow_43 : decode cX10_mayNow 43 = .ok (.iconst 1, 1) := by decide +kernel
theorem dX10_mayNow_44 : decode cX10_mayNow 44 = .ok (.goto 4, 3) := by decide +kernel
theorem dX10_mayNow_47 : decode cX10_mayNow 47 = .ok (.iconst 0, 1) := by decide +kernel
theorem dX10_mayNow_48 : decode cX10_mayNow 48 = .ok (.ireturn, 1) := by decide +kernel
theorem dX10_may_0 : decode cX10_may 0 = .ok (.aload_n 0, 1) := by decide +kernel
theorem dX10_may_1 : decode cX10_may 1 = .ok (.iload_n 1, 1) := by decide +kernel
theorem dX10_may_2 : decode cX10_may 2 = .ok (.invokevirtual 126, 3) := by decide +kernel
theorem dX10_may_5 : decode cX10_may 5 = .ok (.ifCond .ne 7, 3) := by decide +kernel
theorem dX10_may_8 : decode cX10_may 8 = .ok (.iconst (-1), 1) := by decide +kernel
theorem dX10_may_9 : decode cX10_may 9 = .ok (.goto 16, 3) := by decide +kernel
theorem dX10_may_12 : decode cX10_may 12 = .ok (.aload_n 0, 1) := by decide +kernel
theorem dX10_may_13 : decode cX10_may 13 = .ok (.iload_n 1, 1) := by decide +kernel
theorem dX10_may_14 : decode cX10_may 14 = .ok (.invokevirtual 150, 3) := by decide +kernel
theorem dX10_may_17 : decode cX10_may 17 = .ok (.ifCond .eq 7, 3) := by decide +kernel
theorem dX10_may_20 : decode cX10_may 20 = .ok (.iconst 1, 1) := by decide +kernel
theorem dX10_may_21 : decode cX10_may 21 = .ok (.goto 4, 3) := by decide +kernel
theorem dX10_may_24 : decode cX10_may 24 = .ok (.iconst 0, 1) := by decide +kernel
theorem dX10_may_25 : decode cX10_may 25 = .ok (.ireturn, 1) := by decide +kernel
theorem dX10_goes_0 : decode cX10_goes 0 = .ok (.aload_n 0, 1) := by decide +kernel
theorem dX10_goes_1 : decode cX10_goes 1 = .ok (.iload_n 1, 1) := by decide +kernel
theorem dX10_goes_2 : decode cX10_goes 2 = .ok (.invokevirtual 126, 3) := by decide +kernel
theorem dX10_goes_5 : decode cX10_goes 5 = .ok (.ifCond .ne 5, 3) := by decide +kernel
theorem dX10_goes_8 : decode cX10_goes 8 = .ok (.iconst (-1), 1) := by decide +kernel
theorem dX10_goes_9 : decode cX10_goes 9 = .ok (.ireturn, 1) := by decide +kernel
theorem dX10_goes_10 : decode cX10_goes 10 = .ok (.aload_n 0, 1) := by decide +kernel
theorem dX10_goes_11 : decode cX10_goes 11 = .ok (.getfield 32, 3) := by decide +kernel
theorem dX10_goes_14 : decode cX10_goes 14 = .ok (.iconst 0, 1) := by decide +kernel
theorem dX10_goes_15 : decode cX10_goes 15 = .ok (.iaload, 1) := by decide +kernel
theorem dX10_goes_16 : decode cX10_goes 16 = .ok (.iload_n 1, 1) := by decide +kernel
theorem dX10_goes_17 : decode cX10_goes 17 = .ok (.ishr, 1) := by decide +kernel
theorem dX10_goes_18 : decode cX10_goes 18 = .ok (.iconst 1, 1) := by decide +kernel
theorem dX10_goes_19 : decode cX10_goes 19 = .ok (.iand, 1) := by decide +kernel
theorem dX10_goes_20 : decode cX10_goes 20 = .ok (.iload_n 2, 1) := by decide +kernel
theorem dX10_goes_21 : decode cX10_goes 21 = .ok (.if_icmp .eq 11, 3) := by decide +kernel
theorem dX10_goes_24 : decode cX10_goes 24 = .ok (.aload_n 0, 1) := by decide +kernel
theorem dX10_goes_25 : decode cX10_goes 25 = .ok (.iload_n 1, 1) := by decide +kernel
theorem dX10_goes_26 : decode cX10_goes 26 = .ok (.invokevirtual 150, 3) := by decide +kernel
theorem dX10_goes_29 : decode cX10_goes 29 = .ok (.ifCond .ne 6, 3) := by decide +kernel
theorem dX10_goes_32 : decode cX10_goes 32 = .ok (.bipush (-2), 2) := by decide +kernel
theorem dX10_goes_34 : decode cX10_goes 34 = .ok (.ireturn, 1) := by decide +kernel
theorem dX10_goes_35 : decode cX10_goes 35 = .ok (.aload_n 0, 1) := by decide +kernel
theorem dX10_goes_36 : decode cX10_goes 36 = .ok (.getfield 114, 3) := by decide +kernel
theorem dX10_goes_39 : decode cX10_goes 39 = .ok (.bipush 8, 2) := by decide +kernel
theorem dX10_goes_41 : decode cX10_goes 41 = .ok (.if_icmp .ne 41, 3) := by decide +kernel
theorem dX10_goes_44 : decode cX10_goes 44 = .ok (.iconst 0, 1) := by decide +kernel
theorem dX10_goes_45 : decode cX10_goes 45 = .ok (.istore_n 3, 1) := by decide +kernel
theorem dX10_goes_46 : decode cX10_goes 46 = .ok (.iload_n 3, 1) := by decide +kernel
theorem dX10_goes_47 : decode cX10_goes 47 = .ok (.bipush 21, 2) := by decide +kernel
theorem dX10_goes_49 : decode cX10_goes 49 = .ok (.if_icmp .ge 23, 3) := by decide +kernel
theorem dX10_goes_52 : decode cX10_goes 52 = .ok (.aload_n 0, 1) := by decide +kernel
theorem dX10_goes_53 : decode cX10_goes 53 = .ok (.getfield 35, 3) := by decide +kernel
theorem dX10_goes_56 : decode cX10_goes 56 = .ok (.iload_n 3, 1) := by decide +kernel
theorem dX10_goes_57 : decode cX10_goes 57 = .ok (.aload_n 0, 1) := by decide +kernel
theorem dX10_goes_58 : decode cX10_goes 58 = .ok (.getfield 35, 3) := by decide +kernel
theorem dX10_goes_61 : decode cX10_goes 61 = .ok (.iload_n 3, 1) := by decide +kernel
theorem dX10_goes_62 : decode cX10_goes 62 = .ok (.iconst 3, 1) := by decide +kernel
theorem dX10_goes_63 : decode cX10_goes 63 = .ok (.iadd, 1) := by decide +kernel
theorem dX10_goes_64 : decode cX10_goes 64 = .ok (.iaload, 1) := by decide +kernel
theorem dX10_goes_65 : decode cX10_goes 65 = .ok (.iastore, 1) := by decide +kernel
theorem dX10_goes_66 : decode cX10_goes 66 = .ok (.iinc 3 1, 3) := by decide +kernel
theorem dX10_goes_69 : decode cX10_goes 69 = .ok (.goto (-23), 3) := by decide +kernel
theorem dX10_goes_72 : decode cX10_goes 72 = .ok (.aload_n 0, 1) := by decide +kernel
theorem dX10_goes_73 : decode cX10_goes 73 = .ok (.dup, 1) := by decide +kernel
theorem dX10_goes_74 : decode cX10_goes 74 = .ok (.getfield 114, 3) := by decide +kernel
theorem dX10_goes_77 : decode cX10_goes 77 = .ok (.iconst 1, 1) := by decide +kernel
theorem dX10_goes_78 : decode cX10_goes 78 = .ok (.isub, 1) := by decide +kernel
theorem dX10_goes_79 : decode cX10_goes 79 = .ok (.putfield 114, 3) := by decide +kernel
theorem dX10_goes_82 : decode cX10_goes 82 = .ok (.iconst 0, 1) := by decide +kernel
theorem dX10_goes_83 : decode cX10_goes 83 = .ok (.istore_n 3, 1) := by decide +kernel
theorem dX10_goes_84 : decode cX10_goes 84 = .ok (.iload_n 3, 1) := by decide +kernel
theorem dX10_goes_85 : decode cX10_goes 85 = .ok (.iconst 3, 1) := by decide +kernel
theorem dX10_goes_86 : decode cX10_goes 86 = .ok (.if_icmp .ge 28, 3) := by decide +kernel
theorem dX10_goes_89 : decode cX10_goes 89 = .ok (.aload_n 0, 1) := by decide +kernel
theorem dX10_goes_90 : decode cX10_goes 90 = .ok (.getfield 35, 3) := by decide +kernel
theorem dX10_goes_93 : decode cX10_goes 93 = .ok (.iconst 3, 1) := by decide +kernel
theorem dX10_goes_94 : decode cX10_goes 94 = .ok (.aload_n 0, 1) := by decide +kernel
theorem dX10_goes_95 : decode cX10_goes 95 = .ok (.getfield 114, 3) := by decide +kernel
theorem dX10_goes_98 : decode cX10_goes 98 = .ok (.imul, 1) := by decide +kernel
theorem dX10_goes_99 : decode cX10_goes 99 = .ok (.iload_n 3, 1) := by decide +kernel
theorem dX10_goes_100 : decode cX10_goes 100 = .ok (.iadd, 1) := by decide +kernel
theorem dX10_goes_101 : decode cX10_goes 101 = .ok (.aload_n 0, 1) := by decide +kernel
theorem dX10_goes_102 : decode cX10_goes 102 = .ok (.getfield 32, 3) := by decide +kernel
theorem dX10_goes_105 : decode cX10_goes 105 = .ok (.iload_n 3, 1) := by decide +kernel
theorem dX10_goes_106 : decode cX10_goes 106 = .ok (.iaload, 1) := by decide +kernel
theorem dX10_goes_107 : decode cX10_goes 107 = .ok (.iastore, 1) := by decide +kernel
theorem dX10_goes_108 : decode cX10_goes 108 = .ok (.iinc 3 1, 3) := by decide +kernel
theorem dX10_goes_111 : decode cX10_goes 111 = .ok (.goto (-27), 3) := by decide +kernel
theorem dX10_goes_114 : decode cX10_goes 114 = .ok (.aload_n 0, 1) := by decide +kernel
theorem dX10_goes_115 : decode cX10_goes 115 = .ok (.dup, 1) := by decide +kernel
theorem dX10_goes_116 : decode cX10_goes 116 = .ok (.getfield 114, 3) := by decide +kernel
theorem dX10_goes_119 : decode cX10_goes 119 = .ok (.iconst 1, 1) := by decide +kernel
theorem dX10_goes_120 : decode cX10_goes 120 = .ok (.iadd, 1) := by decide +kernel
theorem dX10_goes_121 : decode cX10_goes 121 = .ok (.putfield 114, 3) := by decide +kernel
theorem dX10_goes_124 : decode cX10_goes 124 = .ok (.aload_n 0, 1) := by decide +kernel
theorem dX10_goes_125 : decode cX10_goes 125 = .ok (.getfield 32, 3) := by decide +kernel
theorem dX10_goes_128 : decode cX10_goes 128 = .ok (.iconst 0, 1) := by decide +kernel
theorem dX10_goes_129 : decode cX10_goes 129 = .ok (.dup2, 1) := by decide +kernel
theorem dX10_goes_130 : decode cX10_goes 130 = .ok (.iaload, 1) := by decide +kernel
theorem dX10_goes_131 : decode cX10_goes 131 = .ok (.iconst 1, 1) := by decide +kernel
theorem dX10_goes_132 : decode cX10_goes 132 = .ok (.iload_n 1, 1) := by decide +kernel
theorem dX10_goes_133 : decode cX10_goes 133 = .ok (.ishl, 1) := by decide +kernel
theorem dX10_goes_134 : decode cX10_goes 134 = .ok (.ixor, 1) := by decide +kernel
theorem dX10_goes_135 : decode cX10_goes 135 = .ok (.iastore, 1) := by decide +kernel
theorem dX10_goes_136 : decode cX10_goes 136 = .ok (.aload_n 0, 1) := by decide +kernel
theorem dX10_goes_137 : decode cX10_goes 137 = .ok (.getfield 32, 3) := by decide +kernel
theorem dX10_goes_140 : decode cX10_goes 140 = .ok (.iconst 2, 1) := by decide +kernel
theorem dX10_goes_141 : decode cX10_goes 141 = .ok (.aload_n 0, 1) := by decide +kernel
theorem dX10_goes_142 : decode cX10_goes 142 = .ok (.getfield 32, 3) := by decide +kernel
theorem dX10_goes_145 : decode cX10_goes 145 = .ok (.iconst 1, 1) := by decide +kernel
theorem dX10_goes_146 : decode cX10_goes 146 = .ok (.iaload, 1) := by decide +kernel
theorem dX10_goes_147 : decode cX10_goes 147 = .ok (.ifCond .ge 7, 3) := by decide +kernel
theorem dX10_goes_150 : decode cX10_goes 150 = .ok (.iconst 0, 1) := by decide +kernel
theorem dX10_goes_151 : decode cX10_goes 151 = .ok (.goto 19, 3) := by decide +kernel
theorem dX10_goes_154 : decode cX10_goes 154 = .ok (.aload_n 0, 1) := by decide +kernel
theorem dX10_goes_155 : decode cX10_goes 155 = .ok (.iload_n 1, 1) := by decide +kernel
theorem dX10_goes_156 : decode cX10_goes 156 = .ok (.aload_n 0, 1) := by decide +kernel
theorem dX10_goes_157 : decode cX10_goes 157 = .ok (.getfield 32, 3) := by decide +kernel
theorem dX10_goes_160 : decode cX10_goes 160 = .ok (.iconst 1, 1) := by decide +kernel
theorem dX10_goes_161 : decode cX10_goes 161 = .ok (.iaload, 1) := by decide +kernel
theorem dX10_goes_162 : decode cX10_goes 162 = .ok (.invokevirtual 136, 3) := by decide +kernel
theorem dX10_goes_165 : decode cX10_goes 165 = .ok (.aload_n 0, 1) := by decide +kernel
theorem dX10_goes_166 : decode cX10_goes 166 = .ok (.invokevirtual 140, 3) := by decide +kernel
theorem dX10_goes_169 : decode cX10_goes 169 = .ok (.iand, 1) := by decide +kernel
theorem dX10_goes_170 : decode cX10_goes 170 = .ok (.iastore, 1) := by decide +kernel
theorem dX10_goes_171 : decode cX10_goes 171 = .ok (.aload_n 0, 1) := by decide +kernel
theorem dX10_goes_172 : decode cX10_goes 172 = .ok (.getfield 32, 3) := by decide +kernel
theorem dX10_goes_175 : decode cX10_goes 175 = .ok (.iconst 1, 1) := by decide +kernel
theorem dX10_goes_176 : decode cX10_goes 176 = .ok (.iload_n 1, 1) := by decide +kernel
theorem dX10_goes_177 : decode cX10_goes 177 = .ok (.iastore, 1) := by decide +kernel
theorem dX10_goes_178 : decode cX10_goes 178 = .ok (.aload_n 0, 1) := by decide +kernel
theorem dX10_goes_179 : decode cX10_goes 179 = .ok (.getfield 32, 3) := by decide +kernel
theorem dX10_goes_182 : decode cX10_goes 182 = .ok (.iconst 0, 1) := by decide +kernel
theorem dX10_goes_183 : decode cX10_goes 183 = .ok (.iaload, 1) := by decide +kernel
theorem dX10_goes_184 : decode cX10_goes 184 = .ok (.invokestatic 143, 3) := by decide +kernel
theorem dX10_goes_187 : decode cX10_goes 187 = .ok (.ireturn, 1) := by decide +kernel
theorem dX10_goIn_0 : decode cX10_goIn 0 = .ok (.aload_n 0, 1) := by decide +kernel
theorem dX10_goIn_1 : decode cX10_goIn 1 = .ok (.iload_n 1, 1) := by decide +kernel
theorem dX10_goIn_2 : decode cX10_goIn 2 = .ok (.iconst 1, 1) := by decide +kernel
theorem dX10_goIn_3 : decode cX10_goIn 3 = .ok (.invokevirtual 153, 3) := by decide +kernel
theorem dX10_goIn_6 : decode cX10_goIn 6 = .ok (.ireturn, 1) := by decide +kernel
theorem dX10_goOut_0 : decode cX10_goOut 0 = .ok (.aload_n 0, 1) := by decide +kernel
theorem dX10_goOut_1 : decode cX10_goOut 1 = .ok (.iload_n 1, 1) := by decide +kernel
theorem dX10_goOut_2 : decode cX10_goOut 2 = .ok (.iconst 0, 1) := by decide +kernel
theorem dX10_goOut_3 : decode cX10_goOut 3 = .ok (.invokevirtual 153, 3) := by decide +kernel
theorem dX10_goOut_6 : decode cX10_goOut 6 = .ok (.ireturn, 1) := by decide +kernel
theorem dX10_undo_0 : decode cX10_undo 0 = .ok (.aload_n 0, 1) := by decide +kernel
theorem dX10_undo_1 : decode cX10_undo 1 = .ok (.getfield 114, 3) := by decide +kernel
theorem dX10_undo_4 : decode cX10_undo 4 = .ok (.ifCond .ne 6, 3) := by decide +kernel
theorem dX10_undo_7 : decode cX10_undo 7 = .ok (.bipush (-2), 2) := by decide +kernel
theorem dX10_undo_9 : decode cX10_undo 9 = .ok (.ireturn, 1) := by decide +kernel
theorem dX10_undo_10 : decode cX10_undo 10 = .ok (.aload_n 0, 1) := by decide +kernel
theorem dX10_undo_11 : decode cX10_undo 11 = .ok (.dup, 1) := by decide +kernel
theorem dX10_undo_12 : decode cX10_undo 12 = .ok (.getfield 114, 3) := by decide +kernel
theorem dX10_undo_15 : decode cX10_undo 15 = .ok (.iconst 1, 1) := by decide +kernel
theorem dX10_undo_16 : decode cX10_undo 16 = .ok (.isub, 1) := by decide +kernel
theorem dX10_undo_17 : decode cX10_undo 17 = .ok (.putfield 114, 3) := by decide +kernel
theorem dX10_undo_20 : decode cX10_undo 20 = .ok (.iconst 0, 1) := by decide +kernel
theorem dX10_undo_21 : decode cX10_undo 21 = .ok (.istore_n 1, 1) := by decide +kernel
theorem dX10_undo_22 : decode cX10_undo 22 = .ok (.iload_n 1, 1) := by decide +kernel
theorem dX10_undo_23 : decode cX10_undo 23 = .ok (.iconst 3, 1) := by decide +kernel
theorem dX10_undo_24 : decode cX10_undo 24 = .ok (.if_icmp .ge 28, 3) := by decide +kernel
theorem dX10_undo_27 : decode cX10_undo 27 = .ok (.aload_n 0, 1) := by decide +kernel
theorem dX10_undo_28 : decode cX10_undo 28 = .ok (.getfield 32, 3) := by decide +kernel
theorem dX10_undo_31 : decode cX10_undo 31 = .ok (.iload_n 1, 1) := by decide +kernel
theorem dX10_undo_32 : decode cX10_undo 32 = .ok (.aload_n 0, 1) := by decide +kernel
theorem dX10_undo_33 : decode cX10_undo 33 = .ok (.getfield 35, 3) := by decide +kernel
theorem dX10_undo_36 : decode cX10_undo 36 = .ok (.iconst 3, 1) := by decide +kernel
theorem dX10_undo_37 : decode cX10_undo 37 = .ok (.aload_n 0, 1) := by decide +kernel
theorem dX10_undo_38 : decode cX10_undo 38 = .ok (.getfield 114, 3) := by decide +kernel
theorem dX10_undo_41 : decode cX10_undo 41 = .ok (.imul, 1) := by decide +kernel
theorem dX10_undo_42 : decode cX10_undo 42 = .ok (.iload_n 1, 1) := by decide +kernel
theorem dX10_undo_43 : decode cX10_undo 43 = .ok (.iadd, 1) := by decide +kernel
theorem dX10_undo_44 : decode cX10_undo 44 = .ok (.iaload, 1) := by decide +kernel
theorem dX10_undo_45 : decode cX10_undo 45 = .ok (.iastore, 1) := by decide +kernel
theorem dX10_undo_46 : decode cX10_undo 46 = .ok (.iinc 1 1, 3) := by decide +kernel
theorem dX10_undo_49 : decode cX10_undo 49 = .ok (.goto (-27), 3) := by decide +kernel
theorem dX10_undo_52 : decode cX10_undo 52 = .ok (.aload_n 0, 1) := by decide +kernel
theorem dX10_undo_53 : decode cX10_undo 53 = .ok (.getfield 114, 3) := by decide +kernel
theorem dX10_undo_56 : decode cX10_undo 56 = .ok (.ireturn, 1) := by decide +kernel
theorem dX10_last_0 : decode cX10_last 0 = .ok (.aload_n 0, 1) := by decide +kernel
theorem dX10_last_1 : decode cX10_last 1 = .ok (.getfield 32, 3) := by decide +kernel
theorem dX10_last_4 : decode cX10_last 4 = .ok (.iconst 1, 1) := by decide +kernel
theorem dX10_last_5 : decode cX10_last 5 = .ok (.iaload, 1) := by decide +kernel
theorem dX10_last_6 : decode cX10_last 6 = .ok (.ireturn, 1) := by decide +kernel
theorem dX10_add_0 : decode cX10_add 0 = .ok (.aload_n 0, 1) := by decide +kernel
theorem dX10_add_1 : decode cX10_add 1 = .ok (.iload_n 1, 1) := by decide +kernel
theorem dX10_add_2 : decode cX10_add 2 = .ok (.invokevirtual 126, 3) := by decide +kernel
theorem dX10_add_5 : decode cX10_add 5 = .ok (.ifCond .ne 5, 3) := by decide +kernel
theorem dX10_add_8 : decode cX10_add 8 = .ok (.iconst (-1), 1) := by decide +kernel
theorem dX10_add_9 : decode cX10_add 9 = .ok (.ireturn, 1) := by decide +kernel
theorem dX10_add_10 : decode cX10_add 10 = .ok (.aload_n 0, 1) := by decide +kernel
theorem dX10_add_11 : decode cX10_add 11 = .ok (.getfield 111, 3) := by decide +kernel
theorem dX10_add_14 : decode cX10_add 14 = .ok (.bipush 16, 2) := by decide +kernel
theorem dX10_add_16 : decode cX10_add 16 = .ok (.if_icmp .ne 6, 3) := by decide +kernel
theorem dX10_add_19 : decode cX10_add 19 = .ok (.bipush (-3), 2) := by decide +kernel
theorem dX10_add_21 : decode cX10_add 21 = .ok (.ireturn, 1) := by decide +kernel
theorem dX10_add_22 : decode cX10_add 22 = .ok (.aload_n 0, 1) := by decide +kernel
theorem dX10_add_23 : decode cX10_add 23 = .ok (.getfield 38, 3) := by decide +kernel
theorem dX10_add_26 : decode cX10_add 26 = .ok (.aload_n 0, 1) := by decide +kernel
theorem dX10_add_27 : decode cX10_add 27 = .ok (.getfield 111, 3) := by decide +kernel
theorem dX10_add_30 : decode cX10_add 30 = .ok (.iload_n 1, 1) := by decide +kernel
theorem dX10_add_31 : decode cX10_add 31 = .ok (.iastore, 1) := by decide +kernel
theorem dX10_add_32 : decode cX10_add 32 = .ok (.aload_n 0, 1) := by decide +kernel
theorem dX10_add_33 : decode cX10_add 33 = .ok (.dup, 1) := by decide +kernel
theorem dX10_add_34 : decode cX10_add 34 = .ok (.getfield 111, 3) := by decide +kernel
theorem dX10_add_37 : decode cX10_add 37 = .ok (.iconst 1, 1) := by decide +kernel
theorem dX10_add_38 : decode cX10_add 38 = .ok (.iadd, 1) := by decide +kernel
theorem dX10_add_39 : decode cX10_add 39 = .ok (.putfield 111, 3) := by decide +kernel
theorem dX10_add_42 : decode cX10_add 42 = .ok (.aload_n 0, 1) := by decide +kernel
theorem dX10_add_43 : decode cX10_add 43 = .ok (.getfield 111, 3) := by decide +kernel
theorem dX10_add_46 : decode cX10_add 46 = .ok (.ireturn, 1) := by decide +kernel
theorem dX10_noRow_0 : decode cX10_noRow 0 = .ok (.aload_n 0, 1) := by decide +kernel
theorem dX10_noRow_1 : decode cX10_noRow 1 = .ok (.getfield 111, 3) := by decide +kernel
theorem dX10_noRow_4 : decode cX10_noRow 4 = .ok (.istore_n 1, 1) := by decide +kernel
theorem dX10_noRow_5 : decode cX10_noRow 5 = .ok (.aload_n 0, 1) := by decide +kernel
theorem dX10_noRow_6 : decode cX10_noRow 6 = .ok (.iconst 0, 1) := by decide +kernel
theorem dX10_noRow_7 : decode cX10_noRow 7 = .ok (.putfield 111, 3) := by decide +kernel
theorem dX10_noRow_10 : decode cX10_noRow 10 = .ok (.iload_n 1, 1) := by decide +kernel
theorem dX10_noRow_11 : decode cX10_noRow 11 = .ok (.ireturn, 1) := by decide +kernel
theorem dX10_judge_0 : decode cX10_judge 0 = .ok (.iconst 0, 1) := by decide +kernel
theorem dX10_judge_1 : decode cX10_judge 1 = .ok (.istore_n 1, 1) := by decide +kernel
theorem dX10_judge_2 : decode cX10_judge 2 = .ok (.iconst 1, 1) := by decide +kernel
theorem dX10_judge_3 : decode cX10_judge 3 = .ok (.istore_n 2, 1) := by decide +kernel
theorem dX10_judge_4 : decode cX10_judge 4 = .ok (.iload_n 2, 1) := by decide +kernel
theorem dX10_judge_5 : decode cX10_judge 5 = .ok (.aload_n 0, 1) := by decide +kernel
theorem dX10_judge_6 : decode cX10_judge 6 = .ok (.getfield 111, 3) := by decide +kernel
theorem dX10_judge_9 : decode cX10_judge 9 = .ok (.if_icmp .ge 51, 3) := by decide +kernel
theorem dX10_judge_12 : decode cX10_judge 12 = .ok (.aload_n 0, 1) := by decide +kernel
theorem dX10_judge_13 : decode cX10_judge 13 = .ok (.aload_n 0, 1) := by decide +kernel
theorem dX10_judge_14 : decode cX10_judge 14 = .ok (.getfield 38, 3) := by decide +kernel
theorem dX10_judge_17 : decode cX10_judge 17 = .ok (.iload_n 2, 1) := by decide +kernel
theorem dX10_judge_18 : decode cX10_judge 18 = .ok (.iaload, 1) := by decide +kernel
theorem dX10_judge_19 : decode cX10_judge 19 = .ok (.aload_n 0, 1) := by decide +kernel
theorem dX10_judge_20 : decode cX10_judge 20 = .ok (.getfield 38, 3) := by decide +kernel
theorem dX10_judge_23 : decode cX10_judge 23 = .ok (.iload_n 2, 1) := by decide +kernel
theorem dX10_judge_24 : decode cX10_judge 24 = .ok (.iconst 1, 1) := by decide +kernel
theorem dX10_judge_25 : decode cX10_judge 25 = .ok (.isub, 1) := by decide +kernel
theorem dX10_judge_26 : decode cX10_judge 26 = .ok (.iaload, 1) := by decide +kernel
theorem dX10_judge_27 : decode cX10_judge 27 = .ok (.invokevirtual 136, 3) := by decide +kernel
theorem dX10_judge_30 : decode cX10_judge 30 = .ok (.aload_n 0, 1) := by decide +kernel
theorem dX10_judge_31 : decode cX10_judge 31 = .ok (.invokevirtual 140, 3) := by decide +kernel
theorem dX10_judge_34 : decode cX10_judge 34 = .ok (.iand, 1) := by decide +kernel
theorem dX10_judge_35 : decode cX10_judge 35 = .ok (.istore_n 3, 1) := by decide +kernel
theorem dX10_judge_36 : decode cX10_judge 36 = .ok (.aload_n 0, 1) := by decide +kernel
theorem dX10_judge_37 : decode cX10_judge 37 = .ok (.getfield 13, 3) := by decide +kernel
theorem dX10_judge_40 : decode cX10_judge 40 = .ok (.iconst 0, 1) := by decide +kernel
theorem dX10_judge_41 : decode cX10_judge 41 = .ok (.iaload, 1) := by decide +kernel
theorem dX10_judge_42 : decode cX10_judge 42 = .ok (.iload_n 3, 1) := by decide +kernel
theorem dX10_judge_43 : decode cX10_judge 43 = .ok (.iload_n 1, 1) := by decide +kernel
theorem dX10_judge_44 : decode cX10_judge 44 = .ok (.invokestatic 146, 3) := by decide +kernel
theorem dX10_judge_47 : decode cX10_judge 47 = .ok (.ifCond .ne 5, 3) := by decide +kernel
theorem dX10_judge_50 : decode cX10_judge 50 = .ok (.iload_n 2, 1) := by decide +kernel
theorem dX10_judge_51 : decode cX10_judge 51 = .ok (.ireturn, 1) := by decide +kernel
theorem dX10_judge_52 : decode cX10_judge 52 = .ok (.iload_n 3, 1) := by decide +kernel
theorem dX10_judge_53 : decode cX10_judge 53 = .ok (.istore_n 1, 1) := by decide +kernel
theorem dX10_judge_54 : decode cX10_judge 54 = .ok (.iinc 2 1, 3) := by decide +kernel
theorem dX10_judge_57 : decode cX10_judge 57 = .ok (.goto (-53), 3) := by decide +kernel
theorem dX10_judge_60 : decode cX10_judge 60 = .ok (.bipush (-4), 2) := by decide +kernel
theorem dX10_judge_62 : decode cX10_judge 62 = .ok (.ireturn, 1) := by decide +kernel
theorem dX10_longestOf_0 : decode cX10_longestOf 0 = .ok (.iconst 0, 1) := by decide +kernel
theorem dX10_longestOf_1 : decode cX10_longestOf 1 = .ok (.istore_n 2, 1) := by decide +kernel
theorem dX10_longestOf_2 : decode cX10_longestOf 2 = .ok (.iconst 0, 1) := by decide +kernel
theorem dX10_longestOf_3 : decode cX10_longestOf 3 = .ok (.istore_n 3, 1) := by decide +kernel
theorem dX10_longestOf_4 : decode cX10_longestOf 4 = .ok (.iconst 0, 1) := by decide +kernel
theorem dX10_longestOf_5 : decode cX10_longestOf 5 = .ok (.istore 4, 2) := by decide +kernel
theorem dX10_longestOf_7 : decode cX10_longestOf 7 = .ok (.aload_n 0, 1) := by decide +kernel
theorem dX10_longestOf_8 : decode cX10_longestOf 8 = .ok (.getfield 41, 3) := by decide +kernel
theorem dX10_longestOf_11 : decode cX10_longestOf 11 = .ok (.iconst 0, 1) := by decide +kernel
theorem dX10_longestOf_12 : decode cX10_longestOf 12 = .ok (.iconst 0, 1) := by decide +kernel
theorem dX10_longestOf_13 : decode cX10_longestOf 13 = .ok (.iastore, 1) := by decide +kernel
theorem dX10_longestOf_14 : decode cX10_longestOf 14 = .ok (.aload_n 0, 1) := by decide +kernel
theorem dX10_longestOf_15 : decode cX10_longestOf 15 = .ok (.getfield 44, 3) := by decide +kernel
theorem dX10_longestOf_18 : decode cX10_longestOf 18 = .ok (.iconst 0, 1) := by decide +kernel
theorem dX10_longestOf_19 : decode cX10_longestOf 19 = .ok (.iconst 0, 1) := by decide +kernel
theorem dX10_longestOf_20 : decode cX10_longestOf 20 = .ok (.iastore, 1) := by decide +kernel
theorem dX10_longestOf_21 : decode cX10_longestOf 21 = .ok (.iload_n 3, 1) := by decide +kernel
theorem dX10_longestOf_22 : decode cX10_longestOf 22 = .ok (.ifCond .lt 219, 3) := by decide +kernel
theorem dX10_longestOf_25 : decode cX10_longestOf 25 = .ok (.aload_n 0, 1) := by decide +kernel
theorem dX10_longestOf_26 : decode cX10_longestOf 26 = .ok (.getfield 41, 3) := by decide +kernel
theorem dX10_longestOf_29 : decode cX10_longestOf 29 = .ok (.iload_n 3, 1) := by decide +kernel
theorem dX10_longestOf_30 : decode cX10_longestOf 30 = .ok (.iaload, 1) := by decide +kernel
theorem dX10_longestOf_31 : decode cX10_longestOf 31 = .ok (.istore 5, 2) := by decide +kernel
theorem dX10_longestOf_33 : decode cX10_longestOf 33 = .ok (.iload 5, 2) := by decide +kernel
theorem dX10_longestOf_35 : decode cX10_longestOf 35 = .ok (.aload_n 0, 1) := by decide +kernel
theorem dX10_longestOf_36 : decode cX10_longestOf 36 = .ok (.getfield 26, 3) := by decide +kernel
theorem dX10_longestOf_39 : decode cX10_longestOf 39 = .ok (.iconst 0, 1) := by decide +kernel
theorem dX10_longestOf_40 : decode cX10_longestOf 40 = .ok (.iaload, 1) := by decide +kernel
theorem dX10_longestOf_41 : decode cX10_longestOf 41 = .ok (.if_icmp .lt 38, 3) := by decide +kernel
theorem dX10_longestOf_44 : decode cX10_longestOf 44 = .ok (.iinc 3 (-1), 3) := by decide +kernel
theorem dX10_longestOf_47 : decode cX10_longestOf 47 = .ok (.iload_n 3, 1) := by decide +kernel
theorem dX10_longestOf_48 : decode cX10_longestOf 48 = .ok (.ifCond .lt (-27), 3) := by decide +kernel
theorem dX10_longestOf_51 : decode cX10_longestOf 51 = .ok (.iload 4, 2) := by decide +kernel
theorem dX10_longestOf_53 : decode cX10_longestOf 53 = .ok (.iconst 1, 1) := by decide +kernel
theorem dX10_longestOf_54 : decode cX10_longestOf 54 = .ok (.aload_n 0, 1) := by decide +kernel
theorem dX10_longestOf_55 : decode cX10_longestOf 55 = .ok (.getfield 41, 3) := by decide +kernel
theorem dX10_longestOf_58 : decode cX10_longestOf 58 = .ok (.iload_n 3, 1) := by decide +kernel
theorem dX10_longestOf_59 : decode cX10_longestOf 59 = .ok (.iaload, 1) := by decide +kernel
theorem dX10_longestOf_60 : decode cX10_longestOf 60 = .ok (.ishl, 1) := by decide +kernel
theorem dX10_longestOf_61 : decode cX10_longestOf 61 = .ok (.iconst (-1), 1) := by decide +kernel
theorem dX10_longestOf_62 : decode cX10_longestOf 62 = .ok (.ixor, 1) := by decide +kernel
theorem dX10_longestOf_63 : decode cX10_longestOf 63 = .ok (.iand, 1) := by decide +kernel
theorem dX10_longestOf_64 : decode cX10_longestOf 64 = .ok (.istore 4, 2) := by decide +kernel
theorem dX10_longestOf_66 : decode cX10_longestOf 66 = .ok (.aload_n 0, 1) := by decide +kernel
theorem dX10_longestOf_67 : decode cX10_longestOf 67 = .ok (.getfield 41, 3) := by decide +kernel
theorem dX10_longestOf_70 : decode cX10_longestOf 70 = .ok (.iload_n 3, 1) := by decide +kernel
theorem dX10_longestOf_71 : decode cX10_longestOf 71 = .ok (.dup2, 1) := by decide +kernel
theorem dX10_longestOf_72 : decode cX10_longestOf 72 = .ok (.iaload, 1) := by decide +kernel
theorem dX10_longestOf_73 : decode cX10_longestOf 73 = .ok (.iconst 1, 1) := by decide +kernel
theorem dX10_longestOf_74 : decode cX10_longestOf 74 = .ok (.iadd, 1) := by decide +kernel
theorem dX10_longestOf_75 : decode cX10_longestOf 75 = .ok (.iastore, 1) := by decide +kernel
theorem dX10_longestOf_76 : decode cX10_longestOf 76 = .ok (.goto (-55), 3) := by decide +kernel
theorem dX10_longestOf_79 : decode cX10_longestOf 79 = .ok (.iload_n 3, 1) := by decide +kernel
theorem dX10_longestOf_80 : decode cX10_longestOf 80 = .ok (.ifCond .ne 7, 3) := by decide +kernel
theorem dX10_longestOf_83 : decode cX10_longestOf 83 = .ok (.iconst 0, 1) := by decide +kernel
theorem dX10_longestOf_84 : decode cX10_longestOf 84 = .ok (.goto 22, 3) := by decide +kernel
theorem dX10_longestOf_87 : decode cX10_longestOf 87 = .ok (.aload_n 0, 1) := by decide +kernel
theorem dX10_longestOf_88 : decode cX10_longestOf 88 = .ok (.iload 5, 2) := by decide +kernel
theorem dX10_longestOf_90 : decode cX10_longestOf 90 = .ok (.aload_n 0, 1) := by decide +kernel
theorem dX10_longestOf_91 : decode cX10_longestOf 91 = .ok (.getfield 41, 3) := by decide +kernel
theorem dX10_longestOf_94 : decode cX10_longestOf 94 = .ok (.iload_n 3, 1) := by decide +kernel
theorem dX10_longestOf_95 : decode cX10_longestOf 95 = .ok (.iconst 1, 1) := by decide +kernel
theorem dX10_longestOf_96 : decode cX10_longestOf 96 = .ok (.isub, 1) := by decide +kernel
theorem dX10_longestOf_97 : decode cX10_longestOf 97 = .ok (.iaload, 1) := by decide +kernel
theorem dX10_longestOf_98 : decode cX10_longestOf 98 = .ok (.invokevirtual 136, 3) := by decide +kernel
theorem dX10_longestOf_101 : decode cX10_longestOf 101 = .ok (.aload_n 0, 1) := by decide +kernel
theorem dX10_longestOf_102 : decode cX10_longestOf 102 = .ok (.invokevirtual 140, 3) := by decide +kernel
theorem dX10_longestOf_105 : decode cX10_longestOf 105 = .ok (.iand, 1) := by decide +kernel
theorem dX10_longestOf_106 : decode cX10_longestOf 106 = .ok (.istore 6, 2) := by decide +kernel
theorem dX10_longestOf_108 : decode cX10_longestOf 108 = .ok (.iload_n 1, 1) := by decide +kernel
theorem dX10_longestOf_109 : decode cX10_longestOf 109 = .ok (.iload 4, 2) := by decide +kernel
theorem dX10_longestOf_111 : decode cX10_longestOf 111 = .ok (.iconst (-1), 1) := by decide +kernel
theorem dX10_longestOf_112 : decode cX10_longestOf 112 = .ok (.ixor, 1) := by decide +kernel
theorem dX10_longestOf_113 : decode cX10_longestOf 113 = .ok (.iand, 1) := by decide +kernel
theorem dX10_longestOf_114 : decode cX10_longestOf 114 = .ok (.iconst 1, 1) := by decide +kernel
theorem dX10_longestOf_115 : decode cX10_longestOf 115 = .ok (.iload 5, 2) := by decide +kernel
theorem dX10_longestOf_117 : decode cX10_longestOf 117 = .ok (.ishl, 1) := by decide +kernel
theorem dX10_longestOf_118 : decode cX10_longestOf 118 = .ok (.iand, 1) := by decide +kernel
theorem dX10_longestOf_119 : decode cX10_longestOf 119 = .ok (.ifCond .eq 31, 3) := by decide +kernel
theorem dX10_longestOf_122 : decode cX10_longestOf 122 = .ok (.iload_n 3, 1) := by decide +kernel
theorem dX10_longestOf_123 : decode cX10_longestOf 123 = .ok (.ifCond .eq 23, 3) := by decide +kernel
theorem dX10_longestOf_126 : decode cX10_longestOf 126 = .ok (.aload_n 0, 1) := by decide +kernel
theorem dX10_longestOf_127 : decode cX10_longestOf 127 = .ok (.getfield 13, 3) := by decide +kernel
theorem dX10_longestOf_130 : decode cX10_longestOf 130 = .ok (.iconst 0, 1) := by decide +kernel
theorem dX10_longestOf_131 : decode cX10_longestOf 131 = .ok (.iaload, 1) := by decide +kernel
theorem dX10_longestOf_132 : decode cX10_longestOf 132 = .ok (.iload 6, 2) := by decide +kernel
theorem dX10_longestOf_134 : decode cX10_longestOf 134 = .ok (.aload_n 0, 1) := by decide +kernel
theorem dX10_longestOf_135 : decode cX10_longestOf 135 = .ok (.getfield 44, 3) := by decide +kernel
theorem dX10_longestOf_138 : decode cX10_longestOf 138 = .ok (.iload_n 3, 1) := by decide +kernel
theorem dX10_longestOf_139 : decode cX10_longestOf 139 = .ok (.iaload, 1) := by decide +kernel
theorem dX10_longestOf_140 : decode cX10_longestOf 140 = .ok (.invokestatic 146, 3) := by decide +kernel
theorem dX10_longestOf_143 : decode cX10_longestOf 143 = .ok (.ifCond .eq 7, 3) := by decide +kernel
theorem dX10_longestOf_146 : decode cX10_longestOf 146 = .ok (.iconst 1, 1) := by decide +kernel
theorem dX10_longestOf_147 : decode cX10_longestOf 147 = .ok (.goto 4, 3) := by decide +kernel
theorem dX10_longestOf_150 : decode cX10_longestOf 150 = .ok (.iconst 0, 1) := by decide +kernel
theorem dX10_longestOf_151 : decode cX10_longestOf 151 = .ok (.istore 7, 2) := by decide +kernel
theorem dX10_longestOf_153 : decode cX10_longestOf 153 = .ok (.iload 7, 2) := by decide +kernel
theorem dX10_longestOf_155 : decode cX10_longestOf 155 = .ok (.ifCond .ne 16, 3) := by decide +kernel
theorem dX10_longestOf_158 : decode cX10_longestOf 158 = .ok (.aload_n 0, 1) := by decide +kernel
theorem dX10_longestOf_159 : decode cX10_longestOf 159 = .ok (.getfield 41, 3) := by decide +kernel
theorem dX10_longestOf_162 : decode cX10_longestOf 162 = .ok (.iload_n 3, 1) := by decide +kernel
theorem dX10_longestOf_163 : decode cX10_longestOf 163 = .ok (.dup2, 1) := by decide +kernel
theorem dX10_longestOf_164 : decode cX10_longestOf 164 = .ok (.iaload, 1) := by decide +kernel
theorem dX10_longestOf_165 : decode cX10_longestOf 165 = .ok (.iconst 1, 1) := by decide +kernel
theorem dX10_longestOf_166 : decode cX10_longestOf 166 = .ok (.iadd, 1) := by decide +kernel
theorem dX10_longestOf_167 : decode cX10_longestOf 167 = .ok (.iastore, 1) := by decide +kernel
theorem dX10_longestOf_168 : decode cX10_longestOf 168 = .ok (.goto (-147), 3) := by decide +kernel
theorem dX10_longestOf_171 : decode cX10_longestOf 171 = .ok (.iload 4, 2) := by decide +kernel
theorem dX10_longestOf_173 : decode cX10_longestOf 173 = .ok (.iconst 1, 1) := by decide +kernel
theorem dX10_longestOf_174 : decode cX10_longestOf 174 = .ok (.iload 5, 2) := by decide +kernel
theorem dX10_longestOf_176 : decode cX10_longestOf 176 = .ok (.ishl, 1) := by decide +kernel
theorem dX10_longestOf_177 : decode cX10_longestOf 177 = .ok (.ior, 1) := by decide +kernel
theorem dX10_longestOf_178 : decode cX10_longestOf 178 = .ok (.istore 4, 2) := by decide +kernel
theorem dX10_longestOf_180 : decode cX10_longestOf 180 = .ok (.iload_n 3, 1) := by decide +kernel
theorem dX10_longestOf_181 : decode cX10_longestOf 181 = .ok (.iconst 1, 1) := by decide +kernel
theorem dX10_longestOf_182 : decode cX10_longestOf 182 = .ok (.iadd, 1) := by decide +kernel
theorem dX10_longestOf_183 : decode cX10_longestOf 183 = .ok (.iload_n 2, 1) := by decide +kernel
theorem dX10_longestOf_184 : decode cX10_longestOf 184 = .ok (.if_icmp .le 36, 3) := by decide +kernel
theorem dX10_longestOf_187 : decode cX10_longestOf 187 = .ok (.iload_n 3, 1) := by decide +kernel
theorem dX10_longestOf_188 : decode cX10_longestOf 188 = .ok (.iconst 1, 1) := by decide +kernel
theorem dX10_longestOf_189 : decode cX10_longestOf 189 = .ok (.iadd, 1) := by decide +kernel
theorem dX10_longestOf_190 : decode cX10_longestOf 190 = .ok (.istore_n 2, 1) := by decide +kernel
theorem dX10_longestOf_191 : decode cX10_longestOf 191 = .ok (.iconst 0, 1) := by decide +kernel
theorem dX10_longestOf_192 : decode cX10_longestOf 192 = .ok (.istore 8, 2) := by decide +kernel
theorem dX10_longestOf_194 : decode cX10_longestOf 194 = .ok (.iload 8, 2) := by decide +kernel
theorem dX10_longestOf_196 : decode cX10_longestOf 196 = .ok (.iload_n 3, 1) := by decide +kernel
theorem dX10_longestOf_197 : decode cX10_longestOf 197 = .ok (.if_icmp .gt 23, 3) := by decide +kernel
theorem dX10_longestOf_200 : decode cX10_longestOf 200 = .ok (.aload_n 0, 1) := by decide +kernel
theorem dX10_longestOf_201 : decode cX10_longestOf 201 = .ok (.getfield 47, 3) := by decide +kernel
theorem dX10_longestOf_204 : decode cX10_longestOf 204 = .ok (.iload 8, 2) := by decide +kernel
theorem dX10_longestOf_206 : decode cX10_longestOf 206 = .ok (.aload_n 0, 1) := by decide +kernel
theorem dX10_longestOf_207 : decode cX10_longestOf 207 = .ok (.getfield 41, 3) := by decide +kernel
theorem dX10_longestOf_210 : decode cX10_longestOf 210 = .ok (.iload 8, 2) := by decide +kernel
theorem dX10_longestOf_212 : decode cX10_longestOf 212 = .ok (.iaload, 1) := by decide +kernel
theorem dX10_longestOf_213 : decode cX10_longestOf 213 = .ok (.iastore, 1) := by decide +kernel
theorem dX10_longestOf_214 : decode cX10_longestOf 214 = .ok (.iinc 8 1, 3) := by decide +kernel
theorem dX10_longestOf_217 : decode cX10_longestOf 217 = .ok (.goto (-23), 3) := by decide +kernel
theorem dX10_longestOf_220 : decode cX10_longestOf 220 = .ok (.iinc 3 1, 3) := by decide +kernel
theorem dX10_longestOf_223 : decode cX10_longestOf 223 = .ok (.aload_n 0, 1) := by decide +kernel
theorem dX10_longestOf_224 : decode cX10_longestOf 224 = .ok (.getfield 41, 3) := by decide +kernel
theorem dX10_longestOf_227 : decode cX10_longestOf 227 = .ok (.iload_n 3, 1) := by decide +kernel
theorem dX10_longestOf_228 : decode cX10_longestOf 228 = .ok (.iconst 0, 1) := by decide +kernel
theorem dX10_longestOf_229 : decode cX10_longestOf 229 = .ok (.iastore, 1) := by decide +kernel
theorem dX10_longestOf_230 : decode cX10_longestOf 230 = .ok (.aload_n 0, 1) := by decide +kernel
theorem dX10_longestOf_231 : decode cX10_longestOf 231 = .ok (.getfield 44, 3) := by decide +kernel
theorem dX10_longestOf_234 : decode cX10_longestOf 234 = .ok (.iload_n 3, 1) := by decide +kernel
theorem dX10_longestOf_235 : decode cX10_longestOf 235 = .ok (.iload 6, 2) := by decide +kernel
theorem dX10_longestOf_237 : decode cX10_longestOf 237 = .ok (.iastore, 1) := by decide +kernel
theorem dX10_longestOf_238 : decode cX10_longestOf 238 = .ok (.goto (-217), 3) := by decide +kernel
theorem dX10_longestOf_241 : decode cX10_longestOf 241 = .ok (.iload_n 2, 1) := by decide +kernel
theorem dX10_longestOf_242 : decode cX10_longestOf 242 = .ok (.ireturn, 1) := by decide +kernel
theorem dX10_longest_0 : decode cX10_longest 0 = .ok (.iload_n 1, 1) := by decide +kernel
theorem dX10_longest_1 : decode cX10_longest 1 = .ok (.i2l, 1) := by decide +kernel
theorem dX10_longest_2 : decode cX10_longest 2 = .ok (.lconst 0, 1) := by decide +kernel
theorem dX10_longest_3 : decode cX10_longest 3 = .ok (.iconst 1, 1) := by decide +kernel
theorem dX10_longest_4 : decode cX10_longest 4 = .ok (.aload_n 0, 1) := by decide +kernel
theorem dX10_longest_5 : decode cX10_longest 5 = .ok (.getfield 26, 3) := by decide +kernel
theorem dX10_longest_8 : decode cX10_longest 8 = .ok (.iconst 0, 1) := by decide +kernel
theorem dX10_longest_9 : decode cX10_longest 9 = .ok (.iaload, 1) := by decide +kernel
theorem dX10_longest_10 : decode cX10_longest 10 = .ok (.ishl, 1) := by decide +kernel
theorem dX10_longest_11 : decode cX10_longest 11 = .ok (.iconst 1, 1) := by decide +kernel
theorem dX10_longest_12 : decode cX10_longest 12 = .ok (.isub, 1) := by decide +kernel
theorem dX10_longest_13 : decode cX10_longest 13 = .ok (.i2l, 1) := by decide +kernel
theorem dX10_longest_14 : decode cX10_longest 14 = .ok (.invokestatic 74, 3) := by decide +kernel
theorem dX10_longest_17 : decode cX10_longest 17 = .ok (.ifCond .eq 8, 3) := by decide +kernel
theorem dX10_longest_20 : decode cX10_longest 20 = .ok (.iload_n 2, 1) := by decide +kernel
theorem dX10_longest_21 : decode cX10_longest 21 = .ok (.iconst (-1), 1) := by decide +kernel
theorem dX10_longest_22 : decode cX10_longest 22 = .ok (.if_icmp .ge 5, 3) := by decide +kernel
theorem dX10_longest_25 : decode cX10_longest 25 = .ok (.iconst (-1), 1) := by decide +kernel
theorem dX10_longest_26 : decode cX10_longest 26 = .ok (.ireturn, 1) := by decide +kernel
theorem dX10_longest_27 : decode cX10_longest 27 = .ok (.aload_n 0, 1) := by decide +kernel
theorem dX10_longest_28 : decode cX10_longest 28 = .ok (.iload_n 1, 1) := by decide +kernel
theorem dX10_longest_29 : decode cX10_longest 29 = .ok (.invokevirtual 156, 3) := by decide +kernel
theorem dX10_longest_32 : decode cX10_longest 32 = .ok (.istore_n 3, 1) := by decide +kernel
theorem dX10_longest_33 : decode cX10_longest 33 = .ok (.iload_n 2, 1) := by decide +kernel
theorem dX10_longest_34 : decode cX10_longest 34 = .ok (.ifCond .ge 7, 3) := by decide +kernel
theorem dX10_longest_37 : decode cX10_longest 37 = .ok (.iload_n 3, 1) := by decide +kernel
theorem dX10_longest_38 : decode cX10_longest 38 = .ok (.goto 19, 3) := by decide +kernel
theorem dX10_longest_41 : decode cX10_longest 41 = .ok (.iload_n 2, 1) := by decide +kernel
theorem dX10_longest_42 : decode cX10_longest 42 = .ok (.iload_n 3, 1) := by decide +kernel
theorem dX10_longest_43 : decode cX10_longest 43 = .ok (.if_icmp .ge 12, 3) := by decide +kernel
theorem dX10_longest_46 : decode cX10_longest 46 = .ok (.aload_n 0, 1) := by decide +kernel
theorem dX10_longest_47 : decode cX10_longest 47 = .ok (.getfield 47, 3) := by decide +kernel
theorem dX10_longest_50 : decode cX10_longest 50 = .ok (.iload_n 2, 1) := by decide +kernel
theorem dX10_longest_51 : decode cX10_longest 51 = .ok (.iaload, 1) := by decide +kernel
theorem dX10_longest_52 : decode cX10_longest 52 = .ok (.goto 5, 3) := by decide +kernel
theorem dX10_longest_55 : decode cX10_longest 55 = .ok (.bipush (-4), 2) := by decide +kernel
theorem dX10_longest_57 : decode cX10_longest 57 = .ok (.ireturn, 1) := by decide +kernel
theorem dX10_proof_0 : decode cX10_proof 0 = .ok (.aload_n 0, 1) := by decide +kernel
theorem dX10_proof_1 : decode cX10_proof 1 = .ok (.getfield 13, 3) := by decide +kernel
theorem dX10_proof_4 : decode cX10_proof 4 = .ok (.iconst 0, 1) := by decide +kernel
theorem dX10_proof_5 : decode cX10_proof 5 = .ok (.iaload, 1) := by decide +kernel
theorem dX10_proof_6 : decode cX10_proof 6 = .ok (.ifCond .ne 24, 3) := by decide +kernel
theorem dX10_proof_9 : decode cX10_proof 9 = .ok (.aload_n 0, 1) := by decide +kernel
theorem dX10_proof_10 : decode cX10_proof 10 = .ok (.invokevirtual 140, 3) := by decide +kernel
theorem dX10_proof_13 : decode cX10_proof 13 = .ok (.iconst 1, 1) := by decide +kernel
theorem dX10_proof_14 : decode cX10_proof 14 = .ok (.aload_n 0, 1) := by decide +kernel
theorem dX10_proof_15 : decode cX10_proof 15 = .ok (.getfield 17, 3) := by decide +kernel
theorem dX10_proof_18 : decode cX10_proof 18 = .ok (.iconst 0, 1) := by decide +kernel
theorem dX10_proof_19 : decode cX10_proof 19 = .ok (.iaload, 1) := by decide +kernel
theorem dX10_proof_20 : decode cX10_proof 20 = .ok (.ishl, 1) := by decide +kernel
theorem dX10_proof_21 : decode cX10_proof 21 = .ok (.iconst 1, 1) := by decide +kernel
theorem dX10_proof_22 : decode cX10_proof 22 = .ok (.isub, 1) := by decide +kernel
theorem dX10_proof_23 : decode cX10_proof 23 = .ok (.if_icmp .ne 7, 3) := by decide +kernel
theorem dX10_proof_26 : decode cX10_proof 26 = .ok (.iconst 1, 1) := by decide +kernel
theorem dX10_proof_27 : decode cX10_proof 27 = .ok (.goto 4, 3) := by decide +kernel
theorem dX10_proof_30 : decode cX10_proof 30 = .ok (.iconst 0, 1) := by decide +kernel
theorem dX10_proof_31 : decode cX10_proof 31 = .ok (.istore_n 1, 1) := by decide +kernel
theorem dX10_proof_32 : decode cX10_proof 32 = .ok (.iconst 0, 1) := by decide +kernel
theorem dX10_proof_33 : decode cX10_proof 33 = .ok (.istore_n 2, 1) := by decide +kernel
theorem dX10_proof_34 : decode cX10_proof 34 = .ok (.iload_n 2, 1) := by decide +kernel
theorem dX10_proof_35 : decode cX10_proof 35 = .ok (.aload_n 0, 1) := by decide +kernel
theorem dX10_proof_36 : decode cX10_proof 36 = .ok (.getfield 17, 3) := by decide +kernel
theorem dX10_proof_39 : decode cX10_proof 39 = .ok (.iconst 0, 1) := by decide +kernel
theorem dX10_proof_40 : decode cX10_proof 40 = .ok (.iaload, 1) := by decide +kernel
theorem dX10_proof_41 : decode cX10_proof 41 = .ok (.if_icmp .ge 29, 3) := by decide +kernel
theorem dX10_proof_44 : decode cX10_proof 44 = .ok (.iload_n 1, 1) := by decide +kernel
theorem dX10_proof_45 : decode cX10_proof 45 = .ok (.ifCond .eq 17, 3) := by decide +kernel
theorem dX10_proof_48 : decode cX10_proof 48 = .ok (.aload_n 0, 1) := by decide +kernel
theorem dX10_proof_49 : decode cX10_proof 49 = .ok (.getfield 20, 3) := by decide +kernel
theorem dX10_proof_52 : decode cX10_proof 52 = .ok (.iload_n 2, 1) := by decide +kernel
theorem dX10_proof_53 : decode cX10_proof 53 = .ok (.iaload, 1) := by decide +kernel
theorem dX10_proof_54 : decode cX10_proof 54 = .ok (.iconst 3, 1) := by decide +kernel
theorem dX10_proof_55 : decode cX10_proof 55 = .ok (.if_icmp .ge 7, 3) := by decide +kernel
theorem dX10_proof_58 : decode cX10_proof 58 = .ok (.iconst 1, 1) := by decide +kernel
theorem dX10_proof_59 : decode cX10_proof 59 = .ok (.goto 4, 3) := by decide +kernel
theorem dX10_proof_62 : decode cX10_proof 62 = .ok (.iconst 0, 1) := by decide +kernel
theorem dX10_proof_63 : decode cX10_proof 63 = .ok (.istore_n 1, 1) := by decide +kernel
theorem dX10_proof_64 : decode cX10_proof 64 = .ok (.iinc 2 1, 3) := by decide +kernel
theorem dX10_proof_67 : decode cX10_proof 67 = .ok (.goto (-33), 3) := by decide +kernel
theorem dX10_proof_70 : decode cX10_proof 70 = .ok (.iconst 0, 1) := by decide +kernel
theorem dX10_proof_71 : decode cX10_proof 71 = .ok (.istore_n 2, 1) := by decide +kernel
theorem dX10_proof_72 : decode cX10_proof 72 = .ok (.iconst 0, 1) := by decide +kernel
theorem dX10_proof_73 : decode cX10_proof 73 = .ok (.istore_n 3, 1) := by decide +kernel
theorem dX10_proof_74 : decode cX10_proof 74 = .ok (.iload_n 3, 1) := by decide +kernel
theorem dX10_proof_75 : decode cX10_proof 75 = .ok (.aload_n 0, 1) := by decide +kernel
theorem dX10_proof_76 : decode cX10_proof 76 = .ok (.getfield 26, 3) := by decide +kernel
theorem dX10_proof_79 : decode cX10_proof 79 = .ok (.iconst 0, 1) := by decide +kernel
theorem dX10_proof_80 : decode cX10_proof 80 = .ok (.iaload, 1) := by decide +kernel
theorem dX10_proof_81 : decode cX10_proof 81 = .ok (.if_icmp .ge 55, 3) := by decide +kernel
theorem dX10_proof_84 : decode cX10_proof 84 = .ok (.iconst 0, 1) := by decide +kernel
theorem dX10_proof_85 : decode cX10_proof 85 = .ok (.istore 4, 2) := by decide +kernel
theorem dX10_proof_87 : decode cX10_proof 87 = .ok (.iconst 0, 1) := by decide +kernel
theorem dX10_proof_88 : decode cX10_proof 88 = .ok (.istore 5, 2) := by decide +kernel
theorem dX10_proof_90 : decode cX10_proof 90 = .ok (.iload 5, 2) := by decide +kernel
theorem dX10_proof_92 : decode cX10_proof 92 = .ok (.aload_n 0, 1) := by decide +kernel
theorem dX10_proof_93 : decode cX10_proof 93 = .ok (.getfield 17, 3) := by decide +kernel
theorem dX10_proof_96 : decode cX10_proof 96 = .ok (.iconst 0, 1) := by decide +kernel
theorem dX10_proof_97 : decode cX10_proof 97 = .ok (.iaload, 1) := by decide +kernel
theorem dX10_proof_98 : decode cX10_proof 98 = .ok (.if_icmp .ge 25, 3) := by decide +kernel
theorem dX10_proof_101 : decode cX10_proof 101 = .ok (.iload 4, 2) := by decide +kernel
theorem dX10_proof_103 : decode cX10_proof 103 = .ok (.aload_n 0, 1) := by decide +kernel
theorem dX10_proof_104 : decode cX10_proof 104 = .ok (.getfield 29, 3) := by decide +kernel
theorem dX10_proof_107 : decode cX10_proof 107 = .ok (.iconst 5, 1) := by decide +kernel
theorem dX10_proof_108 : decode cX10_proof 108 = .ok (.iload_n 3, 1) := by decide +kernel
theorem dX10_proof_109 : decode cX10_proof 109 = .ok (.imul, 1) := by decide +kernel
theorem dX10_proof_110 : decode cX10_proof 110 = .ok (.iload 5, 2) := by decide +kernel
theorem dX10_proof_112 : decode cX10_proof 112 = .ok (.iadd, 1) := by decide +kernel
theorem dX10_proof_113 : decode cX10_proof 113 = .ok (.iaload, 1) := by decide +kernel
theorem dX10_proof_114 : decode cX10_proof 114 = .ok (.iadd, 1) := by decide +kernel
theorem dX10_proof_115 : decode cX10_proof 115 = .ok (.istore 4, 2) := by decide +kernel
theorem dX10_proof_117 : decode cX10_proof 117 = .ok (.iinc 5 1, 3) := by decide +kernel
theorem dX10_proof_120 : decode cX10_proof 120 = .ok (.goto (-30), 3) := by decide +kernel
theorem dX10_proof_123 : decode cX10_proof 123 = .ok (.iload_n 2, 1) := by decide +kernel
theorem dX10_proof_124 : decode cX10_proof 124 = .ok (.iload 4, 2) := by decide +kernel
theorem dX10_proof_126 : decode cX10_proof 126 = .ok (.iconst 2, 1) := by decide +kernel
theorem dX10_proof_127 : decode cX10_proof 127 = .ok (.irem, 1) := by decide +kernel
theorem dX10_proof_128 : decode cX10_proof 128 = .ok (.iadd, 1) := by decide +kernel
theorem dX10_proof_129 : decode cX10_proof 129 = .ok (.istore_n 2, 1) := by decide +kernel
theorem dX10_proof_130 : decode cX10_proof 130 = .ok (.iinc 3 1, 3) := by decide +kernel
theorem dX10_proof_133 : decode cX10_proof 133 = .ok (.goto (-59), 3) := by decide +kernel
theorem dX10_proof_136 : decode cX10_proof 136 = .ok (.iconst 2, 1) := by decide +kernel
theorem dX10_proof_137 : decode cX10_proof 137 = .ok (.iload_n 2, 1) := by decide +kernel
theorem dX10_proof_138 : decode cX10_proof 138 = .ok (.imul, 1) := by decide +kernel
theorem dX10_proof_139 : decode cX10_proof 139 = .ok (.aload_n 0, 1) := by decide +kernel
theorem dX10_proof_140 : decode cX10_proof 140 = .ok (.getfield 26, 3) := by decide +kernel
theorem dX10_proof_143 : decode cX10_proof 143 = .ok (.iconst 0, 1) := by decide +kernel
theorem dX10_proof_144 : decode cX10_proof 144 = .ok (.iaload, 1) := by decide +kernel
theorem dX10_proof_145 : decode cX10_proof 145 = .ok (.isub, 1) := by decide +kernel
theorem dX10_proof_146 : decode cX10_proof 146 = .ok (.istore_n 3, 1) := by decide +kernel
theorem dX10_proof_147 : decode cX10_proof 147 = .ok (.iload_n 1, 1) := by decide +kernel
theorem dX10_proof_148 : decode cX10_proof 148 = .ok (.ifCond .eq 17, 3) := by decide +kernel
theorem dX10_proof_151 : decode cX10_proof 151 = .ok (.iload_n 3, 1) := by decide +kernel
theorem dX10_proof_152 : decode cX10_proof 152 = .ok (.iconst 1, 1) := by decide +kernel
theorem dX10_proof_153 : decode cX10_proof 153 = .ok (.if_icmp .gt 8, 3) := by decide +kernel
theorem dX10_proof_156 : decode cX10_proof 156 = .ok (.iload_n 3, 1) := by decide +kernel
theorem dX10_proof_157 : decode cX10_proof 157 = .ok (.iconst (-1), 1) := by decide +kernel
theorem dX10_proof_158 : decode cX10_proof 158 = .ok (.if_icmp .ge 7, 3) := by decide +kernel
theorem dX10_proof_161 : decode cX10_proof 161 = .ok (.iconst 1, 1) := by decide +kernel
theorem dX10_proof_162 : decode cX10_proof 162 = .ok (.goto 4, 3) := by decide +kernel
theorem dX10_proof_165 : decode cX10_proof 165 = .ok (.iconst 0, 1) := by decide +kernel
theorem dX10_proof_166 : decode cX10_proof 166 = .ok (.ireturn, 1) := by decide +kernel
theorem dX10_rows_0 : decode cX10_rows 0 = .ok (.iconst 0, 1) := by decide +kernel
theorem dX10_rows_1 : decode cX10_rows 1 = .ok (.istore 4, 2) := by decide +kernel
theorem dX10_rows_3 : decode cX10_rows 3 = .ok (.iload 4, 2) := by decide +kernel
theorem dX10_rows_5 : decode cX10_rows 5 = .ok (.sipush 324, 3) := by decide +kernel
theorem dX10_rows_8 : decode cX10_rows 8 = .ok (.if_icmp .ge 32, 3) := by decide +kernel
theorem dX10_rows_11 : decode cX10_rows 11 = .ok (.aload_n 0, 1) := by decide +kernel
theorem dX10_rows_12 : decode cX10_rows 12 = .ok (.getfield 50, 3) := by decide +kernel
theorem dX10_rows_15 : decode cX10_rows 15 = .ok (.iload 4, 2) := by decide +kernel
theorem dX10_rows_17 : decode cX10_rows 17 = .ok (.iload 4, 2) := by decide +kernel
theorem dX10_rows_19 : decode cX10_rows 19 = .ok (.bipush 6, 2) := by decide +kernel
theorem dX10_rows_21 : decode cX10_rows 21 = .ok (.iload_n 1, 1) := by decide +kernel
theorem dX10_rows_22 : decode cX10_rows 22 = .ok (.imul, 1) := by decide +kernel
theorem dX10_rows_23 : decode cX10_rows 23 = .ok (.iconst 5, 1) := by decide +kernel
theorem dX10_rows_24 : decode cX10_rows 24 = .ok (.iadd, 1) := by decide +kernel
theorem dX10_rows_25 : decode cX10_rows 25 = .ok (.if_icmp .ne 7, 3) := by decide +kernel
theorem dX10_rows_28 : decode cX10_rows 28 = .ok (.lconst 1, 1) := by decide +kernel
theorem dX10_rows_29 : decode cX10_rows 29 = .ok (.goto 4, 3) := by decide +kernel
theorem dX10_rows_32 : decode cX10_rows 32 = .ok (.lconst 0, 1) := by decide +kernel
theorem dX10_rows_33 : decode cX10_rows 33 = .ok (.lastore, 1) := by decide +kernel
theorem dX10_rows_34 : decode cX10_rows 34 = .ok (.iinc 4 1, 3) := by decide +kernel
theorem dX10_rows_37 : decode cX10_rows 37 = .ok (.goto (-34), 3) := by decide +kernel
theorem dX10_rows_40 : decode cX10_rows 40 = .ok (.iconst 0, 1) := by decide +kernel
theorem dX10_rows_41 : decode cX10_rows 41 = .ok (.istore 4, 2) := by decide +kernel
theorem dX10_rows_43 : decode cX10_rows 43 = .ok (.iload 4, 2) := by decide +kernel
theorem dX10_rows_45 : decode cX10_rows 45 = .ok (.iload_n 3, 1) := by decide +kernel
theorem dX10_rows_46 : decode cX10_rows 46 = .ok (.if_icmp .ge 199, 3) := by decide +kernel
theorem dX10_rows_49 : decode cX10_rows 49 = .ok (.iconst 0, 1) := by decide +kernel
theorem dX10_rows_50 : decode cX10_rows 50 = .ok (.istore 5, 2) := by decide +kernel
theorem dX10_rows_52 : decode cX10_rows 52 = .ok (.iload 5, 2) := by decide +kernel
theorem dX10_rows_54 : decode cX10_rows 54 = .ok (.bipush 54, 2) := by decide +kernel
theorem dX10_rows_56 : decode cX10_rows 56 = .ok (.if_icmp .ge 20, 3) := by decide +kernel
theorem dX10_rows_59 : decode cX10_rows 59 = .ok (.aload_n 0, 1) := by decide +kernel
theorem dX10_rows_60 : decode cX10_rows 60 = .ok (.getfield 50, 3) := by decide +kernel
theorem dX10_rows_63 : decode cX10_rows 63 = .ok (.bipush 54, 2) := by decide +kernel
theorem dX10_rows_65 : decode cX10_rows 65 = .ok (.iload 5, 2) := by decide +kernel
theorem dX10_rows_67 : decode cX10_rows 67 = .ok (.iadd, 1) := by decide +kernel
theorem dX10_rows_68 : decode cX10_rows 68 = .ok (.lconst 0, 1) := by decide +kernel
theorem dX10_rows_69 : decode cX10_rows 69 = .ok (.lastore, 1) := by decide +kernel
theorem dX10_rows_70 : decode cX10_rows 70 = .ok (.iinc 5 1, 3) := by decide +kernel
theorem dX10_rows_73 : decode cX10_rows 73 = .ok (.goto (-21), 3) := by decide +kernel
theorem dX10_rows_76 : decode cX10_rows 76 = .ok (.iconst 0, 1) := by decide +kernel
theorem dX10_rows_77 : decode cX10_rows 77 = .ok (.istore 5, 2) := by decide +kernel
theorem dX10_rows_79 : decode cX10_rows 79 = .ok (.iload 5, 2) := by decide +kernel
theorem dX10_rows_81 : decode cX10_rows 81 = .ok (.bipush 54, 2) := by decide +kernel
theorem dX10_rows_83 : decode cX10_rows 83 = .ok (.if_icmp .ge 123, 3) := by decide +kernel
theorem dX10_rows_86 : decode cX10_rows 86 = .ok (.iconst 0, 1) := by decide +kernel
theorem dX10_rows_87 : decode cX10_rows 87 = .ok (.istore 6, 2) := by decide +kernel
theorem dX10_rows_89 : decode cX10_rows 89 = .ok (.iload 6, 2) := by decide +kernel
theorem dX10_rows_91 : decode cX10_rows 91 = .ok (.aload_n 0, 1) := by decide +kernel
theorem dX10_rows_92 : decode cX10_rows 92 = .ok (.getfield 26, 3) := by decide +kernel
theorem dX10_rows_95 : decode cX10_rows 95 = .ok (.iconst 0, 1) := by decide +kernel
theorem dX10_rows_96 : decode cX10_rows 96 = .ok (.iaload, 1) := by decide +kernel
theorem dX10_rows_97 : decode cX10_rows 97 = .ok (.if_icmp .ge 103, 3) := by decide +kernel
theorem dX10_rows_100 : decode cX10_rows 100 = .ok (.aload_n 0, 1) := by decide +kernel
theorem dX10_rows_101 : decode cX10_rows 101 = .ok (.getfield 50, 3) := by decide +kernel
theorem dX10_rows_104 : decode cX10_rows 104 = .ok (.iload 5, 2) := by decide +kernel
theorem dX10_rows_106 : decode cX10_rows 106 = .ok (.laload, 1) := by decide +kernel
theorem dX10_rows_107 : decode cX10_rows 107 = .ok (.lconst 0, 1) := by decide +kernel
theorem dX10_rows_108 : decode cX10_rows 108 = .ok (.lcmp, 1) := by decide +kernel
theorem dX10_rows_109 : decode cX10_rows 109 = .ok (.ifCond .le 91, 3) := by decide +kernel
theorem dX10_rows_112 : decode cX10_rows 112 = .ok (.aload_n 0, 1) := by decide +kernel
theorem dX10_rows_113 : decode cX10_rows 113 = .ok (.iload 6, 2) := by decide +kernel
theorem dX10_rows_115 : decode cX10_rows 115 = .ok (.iload 5, 2) := by decide +kernel
theorem dX10_rows_117 : decode cX10_rows 117 = .ok (.bipush 6, 2) := by decide +kernel
theorem dX10_rows_119 : decode cX10_rows 119 = .ok (.idiv, 1) := by decide +kernel
theorem dX10_rows_120 : decode cX10_rows 120 = .ok (.invokevirtual 136, 3) := by decide +kernel
theorem dX10_rows_123 : decode cX10_rows 123 = .ok (.aload_n 0, 1) := by decide +kernel
theorem dX10_rows_124 : decode cX10_rows 124 = .ok (.invokevirtual 140, 3) := by decide +kernel
theorem dX10_rows_127 : decode cX10_rows 127 = .ok (.iand, 1) := by decide +kernel
theorem dX10_rows_128 : decode cX10_rows 128 = .ok (.istore 7, 2) := by decide +kernel
theorem dX10_rows_130 : decode cX10_rows 130 = .ok (.aload_n 0, 1) := by decide +kernel
theorem dX10_rows_131 : decode cX10_rows 131 = .ok (.getfield 13, 3) := by decide +kernel
theorem dX10_rows_134 : decode cX10_rows 134 = .ok (.iconst 0, 1) := by decide +kernel
theorem dX10_rows_135 : decode cX10_rows 135 = .ok (.iaload, 1) := by decide +kernel
theorem dX10_rows_136 : decode cX10_rows 136 = .ok (.iload 7, 2) := by decide +kernel
theorem dX10_rows_138 : decode cX10_rows 138 = .ok (.iload 5, 2) := by decide +kernel
theorem dX10_rows_140 : decode cX10_rows 140 = .ok (.bipush 6, 2) := by decide +kernel
theorem dX10_rows_142 : decode cX10_rows 142 = .ok (.irem, 1) := by decide +kernel
theorem dX10_rows_143 : decode cX10_rows 143 = .ok (.iconst 5, 1) := by decide +kernel
theorem dX10_rows_144 : decode cX10_rows 144 = .ok (.if_icmp .ne 7, 3) := by decide +kernel
theorem dX10_rows_147 : decode cX10_rows 147 = .ok (.iconst 0, 1) := by decide +kernel
theorem dX10_rows_148 : decode cX10_rows 148 = .ok (.goto 10, 3) := by decide +kernel
theorem dX10_rows_151 : decode cX10_rows 151 = .ok (.iconst 1, 1) := by decide +kernel
theorem dX10_rows_152 : decode cX10_rows 152 = .ok (.iload 5, 2) := by decide +kernel
theorem dX10_rows_154 : decode cX10_rows 154 = .ok (.bipush 6, 2) := by decide +kernel
theorem dX10_rows_156 : decode cX10_rows 156 = .ok (.irem, 1) := by decide +kernel
theorem dX10_rows_157 : decode cX10_rows 157 = .ok (.ishl, 1) := by decide +kernel
theorem dX10_rows_158 : decode cX10_rows 158 = .ok (.invokestatic 146, 3) := by decide +kernel
theorem dX10_rows_161 : decode cX10_rows 161 = .ok (.ifCond .eq 33, 3) := by decide +kernel
theorem dX10_rows_164 : decode cX10_rows 164 = .ok (.aload_n 0, 1) := by decide +kernel
theorem dX10_rows_165 : decode cX10_rows 165 = .ok (.getfield 50, 3) := by decide +kernel
theorem dX10_rows_168 : decode cX10_rows 168 = .ok (.bipush 54, 2) := by decide +kernel
theorem dX10_rows_170 : decode cX10_rows 170 = .ok (.bipush 6, 2) := by decide +kernel
theorem dX10_rows_172 : decode cX10_rows 172 = .ok (.iload 6, 2) := by decide +kernel
theorem dX10_rows_174 : decode cX10_rows 174 = .ok (.imul, 1) := by decide +kernel
theorem dX10_rows_175 : decode cX10_rows 175 = .ok (.iadd, 1) := by decide +kernel
theorem dX10_rows_176 : decode cX10_rows 176 = .ok (.aload_n 0, 1) := by decide +kernel
theorem dX10_rows_177 : decode cX10_rows 177 = .ok (.iload 7, 2) := by decide +kernel
theorem dX10_rows_179 : decode cX10_rows 179 = .ok (.invokevirtual 159, 3) := by decide +kernel
theorem dX10_rows_182 : decode cX10_rows 182 = .ok (.iadd, 1) := by decide +kernel
theorem dX10_rows_183 : decode cX10_rows 183 = .ok (.dup2, 1) := by decide +kernel
theorem dX10_rows_184 : decode cX10_rows 184 = .ok (.laload, 1) := by decide +kernel
theorem dX10_rows_185 : decode cX10_rows 185 = .ok (.aload_n 0, 1) := by decide +kernel
theorem dX10_rows_186 : decode cX10_rows 186 = .ok (.getfield 50, 3) := by decide +kernel
theorem dX10_rows_189 : decode cX10_rows 189 = .ok (.iload 5, 2) := by decide +kernel
theorem dX10_rows_191 : decode cX10_rows 191 = .ok (.laload, 1) := by decide +kernel
theorem dX10_rows_192 : decode cX10_rows 192 = .ok (.ladd, 1) := by decide +kernel
theorem dX10_rows_193 : decode cX10_rows 193 = .ok (.lastore, 1) := by decide +kernel
theorem dX10_rows_194 : decode cX10_rows 194 = .ok (.iinc 6 1, 3) := by decide +kernel
theorem dX10_rows_197 : decode cX10_rows 197 = .ok (.goto (-108), 3) := by decide +kernel
theorem dX10_rows_200 : decode cX10_rows 200 = .ok (.iinc 5 1, 3) := by decide +kernel
theorem dX10_rows_203 : decode cX10_rows 203 = .ok (.goto (-124), 3) := by decide +kernel
theorem dX10_rows_206 : decode cX10_rows 206 = .ok (.iconst 0, 1) := by decide +kernel
theorem dX10_rows_207 : decode cX10_rows 207 = .ok (.istore 5, 2) := by decide +kernel
theorem dX10_rows_209 : decode cX10_rows 209 = .ok (.iload 5, 2) := by decide +kernel
theorem dX10_rows_211 : decode cX10_rows 211 = .ok (.bipush 54, 2) := by decide +kernel
theorem dX10_rows_213 : decode cX10_rows 213 = .ok (.if_icmp .ge 26, 3) := by decide +kernel
theorem dX10_rows_216 : decode cX10_rows 216 = .ok (.aload_n 0, 1) := by decide +kernel
theorem dX10_rows_217 : decode cX10_rows 217 = .ok (.getfield 50, 3) := by decide +kernel
theorem dX10_rows_220 : decode cX10_rows 220 = .ok (.iload 5, 2) := by decide +kernel
theorem dX10_rows_222 : decode cX10_rows 222 = .ok (.aload_n 0, 1) := by decide +kernel
theorem dX10_rows_223 : decode cX10_rows 223 = .ok (.getfield 50, 3) := by decide +kernel
theorem dX10_rows_226 : decode cX10_rows 226 = .ok (.bipush 54, 2) := by decide +kernel
theorem dX10_rows_228 : decode cX10_rows 228 = .ok (.iload 5, 2) := by decide +kernel
theorem dX10_rows_230 : decode cX10_rows 230 = .ok (.iadd, 1) := by decide +kernel
theorem dX10_rows_231 : decode cX10_rows 231 = .ok (.laload, 1) := by decide +kernel
theorem dX10_rows_232 : decode cX10_rows 232 = .ok (.lastore, 1) := by decide +kernel
theorem dX10_rows_233 : decode cX10_rows 233 = .ok (.iinc 5 1, 3) := by decide +kernel
theorem dX10_rows_236 : decode cX10_rows 236 = .ok (.goto (-27), 3) := by decide +kernel
theorem dX10_rows_239 : decode cX10_rows 239 = .ok (.iinc 4 1, 3) := by decide +kernel
theorem dX10_rows_242 : decode cX10_rows 242 = .ok (.goto (-199), 3) := by decide +kernel
theorem dX10_rows_245 : decode cX10_rows 245 = .ok (.lconst 0, 1) := by decide +kernel
theorem dX10_rows_246 : decode cX10_rows 246 = .ok (.lstore 4, 2) := by decide +kernel
theorem dX10_rows_248 : decode cX10_rows 248 = .ok (.iconst 0, 1) := by decide +kernel
theorem dX10_rows_249 : decode cX10_rows 249 = .ok (.istore 6, 2) := by decide +kernel
theorem dX10_rows_251 : decode cX10_rows 251 = .ok (.iload 6, 2) := by decide +kernel
theorem dX10_rows_253 : decode cX10_rows 253 = .ok (.bipush 54, 2) := by decide +kernel
theorem dX10_rows_255 : decode cX10_rows 255 = .ok (.if_icmp .ge 79, 3) := by decide +kernel
theorem dX10_rows_258 : decode cX10_rows 258 = .ok (.lload 4, 2) := by decide +kernel
theorem dX10_rows_260 : decode cX10_rows 260 = .ok (.aload_n 0, 1) := by decide +kernel
theorem dX10_rows_261 : decode cX10_rows 261 = .ok (.getfield 13, 3) := by decide +kernel
theorem dX10_rows_264 : decode cX10_rows 264 = .ok (.iconst 0, 1) := by decide +kernel
theorem dX10_rows_265 : decode cX10_rows 265 = .ok (.iaload, 1) := by decide +kernel
theorem dX10_rows_266 : decode cX10_rows 266 = .ok (.aload_n 0, 1) := by decide +kernel
theorem dX10_rows_267 : decode cX10_rows 267 = .ok (.iload_n 2, 1) := by decide +kernel
theorem dX10_rows_268 : decode cX10_rows 268 = .ok (.iload 6, 2) := by decide +kernel
theorem dX10_rows_270 : decode cX10_rows 270 = .ok (.bipush 6, 2) := by decide +kernel
theorem dX10_rows_272 : decode cX10_rows 272 = .ok (.idiv, 1) := by decide +kernel
theorem dX10_rows_273 : decode cX10_rows 273 = .ok (.aload_n 0, 1) := by decide +kernel
theorem dX10_rows_274 : decode cX10_rows 274 = .ok (.getfield 26, 3) := by decide +kernel
theorem dX10_rows_277 : decode cX10_rows 277 = .ok (.iconst 0, 1) := by decide +kernel
theorem dX10_rows_278 : decode cX10_rows 278 = .ok (.iaload, 1) := by decide +kernel
theorem dX10_rows_279 : decode cX10_rows 279 = .ok (.irem, 1) := by decide +kernel
theorem dX10_rows_280 : decode cX10_rows 280 = .ok (.invokevirtual 136, 3) := by decide +kernel
theorem dX10_rows_283 : decode cX10_rows 283 = .ok (.aload_n 0, 1) := by decide +kernel
theorem dX10_rows_284 : decode cX10_rows 284 = .ok (.invokevirtual 140, 3) := by decide +kernel
theorem dX10_rows_287 : decode cX10_rows 287 = .ok (.iand, 1) := by decide +kernel
theorem dX10_rows_288 : decode cX10_rows 288 = .ok (.iload 6, 2) := by decide +kernel
theorem dX10_rows_290 : decode cX10_rows 290 = .ok (.bipush 6, 2) := by decide +kernel
theorem dX10_rows_292 : decode cX10_rows 292 = .ok (.irem, 1) := by decide +kernel
theorem dX10_rows_293 : decode cX10_rows 293 = .ok (.iconst 5, 1) := by decide +kernel
theorem dX10_rows_294 : decode cX10_rows 294 = .ok (.if_icmp .ne 7, 3) := by decide +kernel
theorem dX10_rows_297 : decode cX10_rows 297 = .ok (.iconst 0, 1) := by decide +kernel
theorem dX10_rows_298 : decode cX10_rows 298 = .ok (.goto 10, 3) := by decide +kernel
theorem dX10_rows_301 : decode cX10_rows 301 = .ok (.iconst 1, 1) := by decide +kernel
theorem dX10_rows_302 : decode cX10_rows 302 = .ok (.iload 6, 2) := by decide +kernel
theorem dX10_rows_304 : decode cX10_rows 304 = .ok (.bipush 6, 2) := by decide +kernel
theorem dX10_rows_306 : decode cX10_rows 306 = .ok (.irem, 1) := by decide +kernel
theorem dX10_rows_307 : decode cX10_rows 307 = .ok (.ishl, 1) := by decide +kernel
theorem dX10_rows_308 : decode cX10_rows 308 = .ok (.invokestatic 146, 3) := by decide +kernel
theorem dX10_rows_311 : decode cX10_rows 311 = .ok (.ifCond .eq 13, 3) := by decide +kernel
theorem dX10_rows_314 : decode cX10_rows 314 = .ok (.aload_n 0, 1) := by decide +kernel
theorem dX10_rows_315 : decode cX10_rows 315 = .ok (.getfield 50, 3) := by decide +kernel
theorem dX10_rows_318 : decode cX10_rows 318 = .ok (.iload 6, 2) := by decide +kernel
theorem dX10_rows_320 : decode cX10_rows 320 = .ok (.laload, 1) := by decide +kernel
theorem dX10_rows_321 : decode cX10_rows 321 = .ok (.goto 4, 3) := by decide +kernel
theorem dX10_rows_324 : decode cX10_rows 324 = .ok (.lconst 0, 1) := by decide +kernel
theorem dX10_rows_325 : decode cX10_rows 325 = .ok (.ladd, 1) := by decide +kernel
theorem dX10_rows_326 : decode cX10_rows 326 = .ok (.lstore 4, 2) := by decide +kernel
theorem dX10_rows_328 : decode cX10_rows 328 = .ok (.iinc 6 1, 3) := by decide +kernel
theorem dX10_rows_331 : decode cX10_rows 331 = .ok (.goto (-80), 3) := by decide +kernel
theorem dX10_rows_334 : decode cX10_rows 334 = .ok (.lload 4, 2) := by decide +kernel
theorem dX10_rows_336 : decode cX10_rows 336 = .ok (.lreturn, 1) := by decide +kernel
theorem dX10_mark_0 : decode cX10_mark 0 = .ok (.iconst 0, 1) := by decide +kernel
theorem dX10_mark_1 : decode cX10_mark 1 = .ok (.istore_n 2, 1) := by decide +kernel
theorem dX10_mark_2 : decode cX10_mark 2 = .ok (.aload_n 0, 1) := by decide +kernel
theorem dX10_mark_3 : decode cX10_mark 3 = .ok (.getfield 13, 3) := by decide +kernel
theorem dX10_mark_6 : decode cX10_mark 6 = .ok (.iconst 0, 1) := by decide +kernel
theorem dX10_mark_7 : decode cX10_mark 7 = .ok (.iaload, 1) := by decide +kernel
theorem dX10_mark_8 : decode cX10_mark 8 = .ok (.iconst 2, 1) := by decide +kernel
theorem dX10_mark_9 : decode cX10_mark 9 = .ok (.if_icmp .ne 22, 3) := by decide +kernel
theorem dX10_mark_12 : decode cX10_mark 12 = .ok (.iload_n 2, 1) := by decide +kernel
theorem dX10_mark_13 : decode cX10_mark 13 = .ok (.iconst 5, 1) := by decide +kernel
theorem dX10_mark_14 : decode cX10_mark 14 = .ok (.if_icmp .ge 17, 3) := by decide +kernel
theorem dX10_mark_17 : decode cX10_mark 17 = .ok (.iload_n 1, 1) := by decide +kernel
theorem dX10_mark_18 : decode cX10_mark 18 = .ok (.iload_n 2, 1) := by decide +kernel
theorem dX10_mark_19 : decode cX10_mark 19 = .ok (.ishr, 1) := by decide +kernel
theorem dX10_mark_20 : decode cX10_mark 20 = .ok (.iconst 1, 1) := by decide +kernel
theorem dX10_mark_21 : decode cX10_mark 21 = .ok (.iand, 1) := by decide +kernel
theorem dX10_mark_22 : decode cX10_mark 22 = .ok (.ifCond .ne 9, 3) := by decide +kernel
theorem dX10_mark_25 : decode cX10_mark 25 = .ok (.iinc 2 1, 3) := by decide +kernel
theorem dX10_mark_28 : decode cX10_mark 28 = .ok (.goto (-26), 3) := by decide +kernel
theorem dX10_mark_31 : decode cX10_mark 31 = .ok (.aload_n 0, 1) := by decide +kernel
theorem dX10_mark_32 : decode cX10_mark 32 = .ok (.getfield 13, 3) := by decide +kernel
theorem dX10_mark_35 : decode cX10_mark 35 = .ok (.iconst 0, 1) := by decide +kernel
theorem dX10_mark_36 : decode cX10_mark 36 = .ok (.iaload, 1) := by decide +kernel
theorem dX10_mark_37 : decode cX10_mark 37 = .ok (.iconst 2, 1) := by decide +kernel
theorem dX10_mark_38 : decode cX10_mark 38 = .ok (.if_icmp .ne 7, 3) := by decide +kernel
theorem dX10_mark_41 : decode cX10_mark 41 = .ok (.iload_n 2, 1) := by decide +kernel
theorem dX10_mark_42 : decode cX10_mark 42 = .ok (.goto 4, 3) := by decide +kernel
theorem dX10_mark_45 : decode cX10_mark 45 = .ok (.iconst 5, 1) := by decide +kernel
theorem dX10_mark_46 : decode cX10_mark 46 = .ok (.ireturn, 1) := by decide +kernel
theorem dX10_between_0 : decode cX10_between 0 = .ok (.aload_n 0, 1) := by decide +kernel
theorem dX10_between_1 : decode cX10_between 1 = .ok (.iload_n 1, 1) := by decide +kernel
theorem dX10_between_2 : decode cX10_between 2 = .ok (.invokevirtual 126, 3) := by decide +kernel
theorem dX10_between_5 : decode cX10_between 5 = .ok (.ifCond .eq 33, 3) := by decide +kernel
theorem dX10_between_8 : decode cX10_between 8 = .ok (.aload_n 0, 1) := by decide +kernel
theorem dX10_between_9 : decode cX10_between 9 = .ok (.iload_n 2, 1) := by decide +kernel
theorem dX10_between_10 : decode cX10_between 10 = .ok (.invokevirtual 126, 3) := by decide +kernel
theorem dX10_between_13 : decode cX10_between 13 = .ok (.ifCond .eq 25, 3) := by decide +kernel
theorem dX10_between_16 : decode cX10_between 16 = .ok (.iload_n 3, 1) := by decide +kernel
theorem dX10_between_17 : decode cX10_between 17 = .ok (.i2l, 1) := by decide +kernel
theorem dX10_between_18 : decode cX10_between 18 = .ok (.lconst 0, 1) := by decide +kernel
theorem dX10_between_19 : decode cX10_between 19 = .ok (.ldc2_w 162, 3) := by decide +kernel
theorem dX10_between_22 : decode cX10_between 22 = .ok (.invokestatic 74, 3) := by decide +kernel
theorem dX10_between_25 : decode cX10_between 25 = .ok (.ifCond .eq 13, 3) := by decide +kernel
theorem dX10_between_28 : decode cX10_between 28 = .ok (.aload_n 0, 1) := by decide +kernel
theorem dX10_between_29 : decode cX10_between 29 = .ok (.iload_n 1, 1) := by decide +kernel
theorem dX10_between_30 : decode cX10_between 30 = .ok (.iload_n 2, 1) := by decide +kernel
theorem dX10_between_31 : decode cX10_between 31 = .ok (.iload_n 3, 1) := by decide +kernel
theorem dX10_between_32 : decode cX10_between 32 = .ok (.invokevirtual 164, 3) := by decide +kernel
theorem dX10_between_35 : decode cX10_between 35 = .ok (.goto 6, 3) := by decide +kernel
theorem dX10_between_38 : decode cX10_between 38 = .ok (.ldc2_w 168, 3) := by decide +kernel
theorem dX10_between_41 : decode cX10_between 41 = .ok (.lreturn, 1) := by decide +kernel
theorem dX10_nearest_0 : decode cX10_nearest 0 = .ok (.aload_n 0, 1) := by decide +kernel
theorem dX10_nearest_1 : decode cX10_nearest 1 = .ok (.iload_n 1, 1) := by decide +kernel
theorem dX10_nearest_2 : decode cX10_nearest 2 = .ok (.invokevirtual 126, 3) := by decide +kernel
theorem dX10_nearest_5 : decode cX10_nearest 5 = .ok (.ifCond .eq 11, 3) := by decide +kernel
theorem dX10_nearest_8 : decode cX10_nearest 8 = .ok (.aload_n 0, 1) := by decide +kernel
theorem dX10_nearest_9 : decode cX10_nearest 9 = .ok (.iload_n 2, 1) := by decide +kernel
theorem dX10_nearest_10 : decode cX10_nearest 10 = .ok (.invokevirtual 126, 3) := by decide +kernel
theorem dX10_nearest_13 : decode cX10_nearest 13 = .ok (.ifCond .ne 5, 3) := by decide +kernel
theorem dX10_nearest_16 : decode cX10_nearest 16 = .ok (.iconst (-1), 1) := by decide +kernel
theorem dX10_nearest_17 : decode cX10_nearest 17 = .ok (.ireturn, 1) := by decide +kernel
theorem dX10_nearest_18 : decode cX10_nearest 18 = .ok (.iconst 0, 1) := by decide +kernel
theorem dX10_nearest_19 : decode cX10_nearest 19 = .ok (.istore_n 3, 1) := by decide +kernel
theorem dX10_nearest_20 : decode cX10_nearest 20 = .ok (.iload_n 3, 1) := by decide +kernel
theorem dX10_nearest_21 : decode cX10_nearest 21 = .ok (.bipush 12, 2) := by decide +kernel
theorem dX10_nearest_23 : decode cX10_nearest 23 = .ok (.if_icmp .gt 23, 3) := by decide +kernel
theorem dX10_nearest_26 : decode cX10_nearest 26 = .ok (.aload_n 0, 1) := by decide +kernel
theorem dX10_nearest_27 : decode cX10_nearest 27 = .ok (.iload_n 1, 1) := by decide +kernel
theorem dX10_nearest_28 : decode cX10_nearest 28 = .ok (.iload_n 2, 1) := by decide +kernel
theorem dX10_nearest_29 : decode cX10_nearest 29 = .ok (.iload_n 3, 1) := by decide +kernel
theorem dX10_nearest_30 : decode cX10_nearest 30 = .ok (.invokevirtual 164, 3) := by decide +kernel
theorem dX10_nearest_33 : decode cX10_nearest 33 = .ok (.lconst 0, 1) := by decide +kernel
theorem dX10_nearest_34 : decode cX10_nearest 34 = .ok (.lcmp, 1) := by decide +kernel
theorem dX10_nearest_35 : decode cX10_nearest 35 = .ok (.ifCond .le 5, 3) := by decide +kernel
theorem dX10_nearest_38 : decode cX10_nearest 38 = .ok (.iload_n 3, 1) := by decide +kernel
theorem dX10_nearest_39 : decode cX10_nearest 39 = .ok (.ireturn, 1) := by decide +kernel
theorem dX10_nearest_40 : decode cX10_nearest 40 = .ok (.iinc 3 1, 3) := by decide +kernel
theorem dX10_nearest_43 : decode cX10_nearest 43 = .ok (.goto (-23), 3) := by decide +kernel
theorem dX10_nearest_46 : decode cX10_nearest 46 = .ok (.bipush (-4), 2) := by decide +kernel
theorem dX10_nearest_48 : decode cX10_nearest 48 = .ok (.ireturn, 1) := by decide +kernel
theorem dX10_valueOf_0 : decode cX10_valueOf 0 = .ok (.iload_n 1, 1) := by decide +kernel
theorem dX10_valueOf_1 : decode cX10_valueOf 1 = .ok (.istore_n 3, 1) := by decide +kernel
theorem dX10_valueOf_2 : decode cX10_valueOf 2 = .ok (.aload_n 0, 1) := by decide +kernel
theorem dX10_valueOf_3 : decode cX10_valueOf 3 = .ok (.getfield 17, 3) := by decide +kernel
theorem dX10_valueOf_6 : decode cX10_valueOf 6 = .ok (.iconst 0, 1) := by decide +kernel
theorem dX10_valueOf_7 : decode cX10_valueOf 7 = .ok (.iaload, 1) := by decide +kernel
theorem dX10_valueOf_8 : decode cX10_valueOf 8 = .ok (.iconst 1, 1) := by decide +kernel
theorem dX10_valueOf_9 : decode cX10_valueOf 9 = .ok (.isub, 1) := by decide +kernel
theorem dX10_valueOf_10 : decode cX10_valueOf 10 = .ok (.istore 4, 2) := by decide +kernel
theorem dX10_valueOf_12 : decode cX10_valueOf 12 = .ok (.iload 4, 2) := by decide +kernel
theorem dX10_valueOf_14 : decode cX10_valueOf 14 = .ok (.iload_n 2, 1) := by decide +kernel
theorem dX10_valueOf_15 : decode cX10_valueOf 15 = .ok (.if_icmp .le 19, 3) := by decide +kernel
theorem dX10_valueOf_18 : decode cX10_valueOf 18 = .ok (.iload_n 3, 1) := by decide +kernel
theorem dX10_valueOf_19 : decode cX10_valueOf 19 = .ok (.aload_n 0, 1) := by decide +kernel
theorem dX10_valueOf_20 : decode cX10_valueOf 20 = .ok (.getfield 20, 3) := by decide +kernel
theorem dX10_valueOf_23 : decode cX10_valueOf 23 = .ok (.iload 4, 2) := by decide +kernel
theorem dX10_valueOf_25 : decode cX10_valueOf 25 = .ok (.iaload, 1) := by decide +kernel
theorem dX10_valueOf_26 : decode cX10_valueOf 26 = .ok (.idiv, 1) := by decide +kernel
theorem dX10_valueOf_27 : decode cX10_valueOf 27 = .ok (.istore_n 3, 1) := by decide +kernel
theorem dX10_valueOf_28 : decode cX10_valueOf 28 = .ok (.iinc 4 (-1), 3) := by decide +kernel
theorem dX10_valueOf_31 : decode cX10_valueOf 31 = .ok (.goto (-19), 3) := by decide +kernel
theorem dX10_valueOf_34 : decode cX10_valueOf 34 = .ok (.iload_n 3, 1) := by decide +kernel
theorem dX10_valueOf_35 : decode cX10_valueOf 35 = .ok (.aload_n 0, 1) := by decide +kernel
theorem dX10_valueOf_36 : decode cX10_valueOf 36 = .ok (.getfield 20, 3) := by decide +kernel
theorem dX10_valueOf_39 : decode cX10_valueOf 39 = .ok (.iload_n 2, 1) := by decide +kernel
theorem dX10_valueOf_40 : decode cX10_valueOf 40 = .ok (.iaload, 1) := by decide +kernel
theorem dX10_valueOf_41 : decode cX10_valueOf 41 = .ok (.irem, 1) := by decide +kernel
theorem dX10_valueOf_42 : decode cX10_valueOf 42 = .ok (.ireturn, 1) := by decide +kernel
theorem dX10_all_0 : decode cX10_all 0 = .ok (.iconst 1, 1) := by decide +kernel
theorem dX10_all_1 : decode cX10_all 1 = .ok (.istore_n 1, 1) := by decide +kernel
theorem dX10_all_2 : decode cX10_all 2 = .ok (.iconst 0, 1) := by decide +kernel
theorem dX10_all_3 : decode cX10_all 3 = .ok (.istore_n 2, 1) := by decide +kernel
theorem dX10_all_4 : decode cX10_all 4 = .ok (.iload_n 2, 1) := by decide +kernel
theorem dX10_all_5 : decode cX10_all 5 = .ok (.aload_n 0, 1) := by decide +kernel
theorem dX10_all_6 : decode cX10_all 6 = .ok (.getfield 17, 3) := by decide +kernel
theorem dX10_all_9 : decode cX10_all 9 = .ok (.iconst 0, 1) := by decide +kernel
theorem dX10_all_10 : decode cX10_all 10 = .ok (.iaload, 1) := by decide +kernel
theorem dX10_all_11 : decode cX10_all 11 = .ok (.if_icmp .ge 18, 3) := by decide +kernel
theorem dX10_all_14 : decode cX10_all 14 = .ok (.iload_n 1, 1) := by decide +kernel
theorem dX10_all_15 : decode cX10_all 15 = .ok (.aload_n 0, 1) := by decide +kernel
theorem dX10_all_16 : decode cX10_all 16 = .ok (.getfield 20, 3) := by decide +kernel
theorem dX10_all_19 : decode cX10_all 19 = .ok (.iload_n 2, 1) := by decide +kernel
theorem dX10_all_20 : decode cX10_all 20 = .ok (.iaload, 1) := by decide +kernel
theorem dX10_all_21 : decode cX10_all 21 = .ok (.imul, 1) := by decide +kernel
theorem dX10_all_22 : decode cX10_all 22 = .ok (.istore_n 1, 1) := by decide +kernel
theorem dX10_all_23 : decode cX10_all 23 = .ok (.iinc 2 1, 3) := by decide +kernel
theorem dX10_all_26 : decode cX10_all 26 = .ok (.goto (-22), 3) := by decide +kernel
theorem dX10_all_29 : decode cX10_all 29 = .ok (.iload_n 1, 1) := by decide +kernel
theorem dX10_all_30 : decode cX10_all 30 = .ok (.ireturn, 1) := by decide +kernel
theorem dX10_unlikeCodes_0 : decode cX10_unlikeCodes 0 = .ok (.iconst 0, 1) := by decide +kernel
theorem dX10_unlikeCodes_1 : decode cX10_unlikeCodes 1 = .ok (.istore_n 3, 1) := by decide +kernel
theorem dX10_unlikeCodes_2 : decode cX10_unlikeCodes 2 = .ok (.iconst 0, 1) := by decide +kernel
theorem dX10_unlikeCodes_3 : decode cX10_unlikeCodes 3 = .ok (.istore 4, 2) := by decide +kernel
theorem dX10_unlikeCodes_5 : decode cX10_unlikeCodes 5 = .ok (.iload 4, 2) := by decide +kernel
theorem dX10_unlikeCodes_7 : decode cX10_unlikeCodes 7 = .ok (.aload_n 0, 1) := by decide +kernel
theorem dX10_unlikeCodes_8 : decode cX10_unlikeCodes 8 = .ok (.getfield 17, 3) := by decide +kernel
theorem dX10_unlikeCodes_11 : decode cX10_unlikeCodes 11 = .ok (.iconst 0, 1) := by decide +kernel
theorem dX10_unlikeCodes_12 : decode cX10_unlikeCodes 12 = .ok (.iaload, 1) := by decide +kernel
theorem dX10_unlikeCodes_13 : decode cX10_unlikeCodes 13 = .ok (.if_icmp .ge 50, 3) := by decide +kernel
theorem dX10_unlikeCodes_16 : decode cX10_unlikeCodes 16 = .ok (.iload_n 3, 1) := by decide +kernel
theorem dX10_unlikeCodes_17 : decode cX10_unlikeCodes 17 = .ok (.aload_n 0, 1) := by decide +kernel
theorem dX10_unlikeCodes_18 : decode cX10_unlikeCodes 18 = .ok (.invokevirtual 140, 3) := by decide +kernel
theorem dX10_unlikeCodes_21 : decode cX10_unlikeCodes 21 = .ok (.iload 4, 2) := by decide +kernel
theorem dX10_unlikeCodes_23 : decode cX10_unlikeCodes 23 = .ok (.ishr, 1) := by decide +kernel
theorem dX10_unlikeCodes_24 : decode cX10_unlikeCodes 24 = .ok (.iconst 1, 1) := by decide +kernel
theorem dX10_unlikeCodes_25 : decode cX10_unlikeCodes 25 = .ok (.iand, 1) := by decide +kernel
theorem dX10_unlikeCodes_26 : decode cX10_unlikeCodes 26 = .ok (.iconst 1, 1) := by decide +kernel
theorem dX10_unlikeCodes_27 : decode cX10_unlikeCodes 27 = .ok (.if_icmp .ne 27, 3) := by decide +kernel
theorem dX10_unlikeCodes_30 : decode cX10_unlikeCodes 30 = .ok (.aload_n 0, 1) := by decide +kernel
theorem dX10_unlikeCodes_31 : decode cX10_unlikeCodes 31 = .ok (.iload_n 1, 1) := by decide +kernel
theorem dX10_unlikeCodes_32 : decode cX10_unlikeCodes 32 = .ok (.iload 4, 2) := by decide +kernel
theorem dX10_unlikeCodes_34 : decode cX10_unlikeCodes 34 = .ok (.invokevirtual 170, 3) := by decide +kernel
theorem dX10_unlikeCodes_37 : decode cX10_unlikeCodes 37 = .ok (.aload_n 0, 1) := by decide +kernel
theorem dX10_unlikeCodes_38 : decode cX10_unlikeCodes 38 = .ok (.iload_n 2, 1) := by decide +kernel
theorem dX10_unlikeCodes_39 : decode cX10_unlikeCodes 39 = .ok (.iload 4, 2) := by decide +kernel
theorem dX10_unlikeCodes_41 : decode cX10_unlikeCodes 41 = .ok (.invokevirtual 170, 3) := by decide +kernel
theorem dX10_unlikeCodes_44 : decode cX10_unlikeCodes 44 = .ok (.if_icmp .eq 10, 3) := by decide +kernel
theorem dX10_unlikeCodes_47 : decode cX10_unlikeCodes 47 = .ok (.iconst 1, 1) := by decide +kernel
theorem dX10_unlikeCodes_48 : decode cX10_unlikeCodes 48 = .ok (.iload 4, 2) := by decide +kernel
theorem dX10_unlikeCodes_50 : decode cX10_unlikeCodes 50 = .ok (.ishl, 1) := by decide +kernel
theorem dX10_unlikeCodes_51 : decode cX10_unlikeCodes 51 = .ok (.goto 4, 3) := by decide +kernel
theorem dX10_unlikeCodes_54 : decode cX10_unlikeCodes 54 = .ok (.iconst 0, 1) := by decide +kernel
theorem dX10_unlikeCodes_55 : decode cX10_unlikeCodes 55 = .ok (.ior, 1) := by decide +kernel
theorem dX10_unlikeCodes_56 : decode cX10_unlikeCodes 56 = .ok (.istore_n 3, 1) := by decide +kernel
theorem dX10_unlikeCodes_57 : decode cX10_unlikeCodes 57 = .ok (.iinc 4 1, 3) := by decide +kernel
theorem dX10_unlikeCodes_60 : decode cX10_unlikeCodes 60 = .ok (.goto (-55), 3) := by decide +kernel
theorem dX10_unlikeCodes_63 : decode cX10_unlikeCodes 63 = .ok (.iload_n 3, 1) := by decide +kernel
theorem dX10_unlikeCodes_64 : decode cX10_unlikeCodes 64 = .ok (.ireturn, 1) := by decide +kernel
theorem dX10_plain_0 : decode cX10_plain 0 = .ok (.iconst 0, 1) := by decide +kernel
theorem dX10_plain_1 : decode cX10_plain 1 = .ok (.istore_n 2, 1) := by decide +kernel
theorem dX10_plain_2 : decode cX10_plain 2 = .ok (.iconst 0, 1) := by decide +kernel
theorem dX10_plain_3 : decode cX10_plain 3 = .ok (.istore_n 3, 1) := by decide +kernel
theorem dX10_plain_4 : decode cX10_plain 4 = .ok (.iload_n 3, 1) := by decide +kernel
theorem dX10_plain_5 : decode cX10_plain 5 = .ok (.aload_n 0, 1) := by decide +kernel
theorem dX10_plain_6 : decode cX10_plain 6 = .ok (.getfield 17, 3) := by decide +kernel
theorem dX10_plain_9 : decode cX10_plain 9 = .ok (.iconst 0, 1) := by decide +kernel
theorem dX10_plain_10 : decode cX10_plain 10 = .ok (.iaload, 1) := by decide +kernel
theorem dX10_plain_11 : decode cX10_plain 11 = .ok (.if_icmp .ge 41, 3) := by decide +kernel
theorem dX10_plain_14 : decode cX10_plain 14 = .ok (.iload_n 2, 1) := by decide +kernel
theorem dX10_plain_15 : decode cX10_plain 15 = .ok (.aload_n 0, 1) := by decide +kernel
theorem dX10_plain_16 : decode cX10_plain 16 = .ok (.getfield 20, 3) := by decide +kernel
theorem dX10_plain_19 : decode cX10_plain 19 = .ok (.iload_n 3, 1) := by decide +kernel
theorem dX10_plain_20 : decode cX10_plain 20 = .ok (.iaload, 1) := by decide +kernel
theorem dX10_plain_21 : decode cX10_plain 21 = .ok (.imul, 1) := by decide +kernel
theorem dX10_plain_22 : decode cX10_plain 22 = .ok (.aload_n 0, 1) := by decide +kernel
theorem dX10_plain_23 : decode cX10_plain 23 = .ok (.invokevirtual 140, 3) := by decide +kernel
theorem dX10_plain_26 : decode cX10_plain 26 = .ok (.iload_n 3, 1) := by decide +kernel
theorem dX10_plain_27 : decode cX10_plain 27 = .ok (.ishr, 1) := by decide +kernel
theorem dX10_plain_28 : decode cX10_plain 28 = .ok (.iconst 1, 1) := by decide +kernel
theorem dX10_plain_29 : decode cX10_plain 29 = .ok (.iand, 1) := by decide +kernel
theorem dX10_plain_30 : decode cX10_plain 30 = .ok (.iconst 1, 1) := by decide +kernel
theorem dX10_plain_31 : decode cX10_plain 31 = .ok (.if_icmp .ne 12, 3) := by decide +kernel
theorem dX10_plain_34 : decode cX10_plain 34 = .ok (.aload_n 0, 1) := by decide +kernel
theorem dX10_plain_35 : decode cX10_plain 35 = .ok (.iload_n 1, 1) := by decide +kernel
theorem dX10_plain_36 : decode cX10_plain 36 = .ok (.iload_n 3, 1) := by decide +kernel
theorem dX10_plain_37 : decode cX10_plain 37 = .ok (.invokevirtual 170, 3) := by decide +kernel
theorem dX10_plain_40 : decode cX10_plain 40 = .ok (.goto 4, 3) := by decide +kernel
theorem dX10_plain_43 : decode cX10_plain 43 = .ok (.iconst 0, 1) := by decide +kernel
theorem dX10_plain_44 : decode cX10_plain 44 = .ok (.iadd, 1) := by decide +kernel
theorem dX10_plain_45 : decode cX10_plain 45 = .ok (.istore_n 2, 1) := by decide +kernel
theorem dX10_plain_46 : decode cX10_plain 46 = .ok (.iinc 3 1, 3) := by decide +kernel
theorem dX10_plain_49 : decode cX10_plain 49 = .ok (.goto (-45), 3) := by decide +kernel
theorem dX10_plain_52 : decode cX10_plain 52 = .ok (.iload_n 2, 1) := by decide +kernel
theorem dX10_plain_53 : decode cX10_plain 53 = .ok (.ireturn, 1) := by decide +kernel
theorem dX10_circles_0 : decode cX10_circles 0 = .ok (.aload_n 0, 1) := by decide +kernel
theorem dX10_circles_1 : decode cX10_circles 1 = .ok (.invokevirtual 173, 3) := by decide +kernel
theorem dX10_circles_4 : decode cX10_circles 4 = .ok (.istore_n 2, 1) := by decide +kernel
theorem dX10_circles_5 : decode cX10_circles 5 = .ok (.iconst 0, 1) := by decide +kernel
theorem dX10_circles_6 : decode cX10_circles 6 = .ok (.istore_n 3, 1) := by decide +kernel
theorem dX10_circles_7 : decode cX10_circles 7 = .ok (.iload_n 3, 1) := by decide +kernel
theorem dX10_circles_8 : decode cX10_circles 8 = .ok (.sipush 5120, 3) := by decide +kernel
theorem dX10_circles_11 : decode cX10_circles 11 = .ok (.if_icmp .ge 16, 3) := by decide +kernel
theorem dX10_circles_14 : decode cX10_circles 14 = .ok (.aload_n 0, 1) := by decide +kernel
theorem dX10_circles_15 : decode cX10_circles 15 = .ok (.getfield 54, 3) := by decide +kernel
theorem dX10_circles_18 : decode cX10_circles 18 = .ok (.iload_n 3, 1) := by decide +kernel
theorem dX10_circles_19 : decode cX10_circles 19 = .ok (.iconst (-1), 1) := by decide +kernel
theorem dX10_circles_20 : decode cX10_circles 20 = .ok (.iastore, 1) := by decide +kernel
theorem dX10_circles_21 : decode cX10_circles 21 = .ok (.iinc 3 1, 3) := by decide +kernel
theorem dX10_circles_24 : decode cX10_circles 24 = .ok (.goto (-17), 3) := by decide +kernel
theorem dX10_circles_27 : decode cX10_circles 27 = .ok (.iconst 0, 1) := by decide +kernel
theorem dX10_circles_28 : decode cX10_circles 28 = .ok (.istore_n 3, 1) := by decide +kernel
theorem dX10_circles_29 : decode cX10_circles 29 = .ok (.aload_n 0, 1) := by decide +kernel
theorem dX10_circles_30 : decode cX10_circles 30 = .ok (.getfield 13, 3) := by decide +kernel
theorem dX10_circles_33 : decode cX10_circles 33 = .ok (.iconst 0, 1) := by decide +kernel
theorem dX10_circles_34 : decode cX10_circles 34 = .ok (.iaload, 1) := by decide +kernel
theorem dX10_circles_35 : decode cX10_circles 35 = .ok (.istore 4, 2) := by decide +kernel
theorem dX10_circles_37 : decode cX10_circles 37 = .ok (.iconst 0, 1) := by decide +kernel
theorem dX10_circles_38 : decode cX10_circles 38 = .ok (.istore 5, 2) := by decide +kernel
theorem dX10_circles_40 : decode cX10_circles 40 = .ok (.iload 5, 2) := by decide +kernel
theorem dX10_circles_42 : decode cX10_circles 42 = .ok (.iload_n 2, 1) := by decide +kernel
theorem dX10_circles_43 : decode cX10_circles 43 = .ok (.if_icmp .ge 74, 3) := by decide +kernel
theorem dX10_circles_46 : decode cX10_circles 46 = .ok (.aload_n 0, 1) := by decide +kernel
theorem dX10_circles_47 : decode cX10_circles 47 = .ok (.iload 5, 2) := by decide +kernel
theorem dX10_circles_49 : decode cX10_circles 49 = .ok (.iload_n 1, 1) := by decide +kernel
theorem dX10_circles_50 : decode cX10_circles 50 = .ok (.invokevirtual 176, 3) := by decide +kernel
theorem dX10_circles_53 : decode cX10_circles 53 = .ok (.istore 6, 2) := by decide +kernel
theorem dX10_circles_55 : decode cX10_circles 55 = .ok (.aload_n 0, 1) := by decide +kernel
theorem dX10_circles_56 : decode cX10_circles 56 = .ok (.iload 5, 2) := by decide +kernel
theorem dX10_circles_58 : decode cX10_circles 58 = .ok (.invokevirtual 179, 3) := by decide +kernel
theorem dX10_circles_61 : decode cX10_circles 61 = .ok (.iload 5, 2) := by decide +kernel
theorem dX10_circles_63 : decode cX10_circles 63 = .ok (.if_icmp .ne 48, 3) := by decide +kernel
theorem dX10_circles_66 : decode cX10_circles 66 = .ok (.iload 4, 2) := by decide +kernel
theorem dX10_circles_68 : decode cX10_circles 68 = .ok (.iload 6, 2) := by decide +kernel
theorem dX10_circles_70 : decode cX10_circles 70 = .ok (.iconst 0, 1) := by decide +kernel
theorem dX10_circles_71 : decode cX10_circles 71 = .ok (.invokestatic 146, 3) := by decide +kernel
theorem dX10_circles_74 : decode cX10_circles 74 = .ok (.ifCond .eq 37, 3) := by decide +kernel
theorem dX10_circles_77 : decode cX10_circles 77 = .ok (.iconst 5, 1) := by decide +kernel
theorem dX10_circles_78 : decode cX10_circles 78 = .ok (.iload 5, 2) := by decide +kernel
theorem dX10_circles_80 : decode cX10_circles 80 = .ok (.imul, 1) := by decide +kernel
theorem dX10_circles_81 : decode cX10_circles 81 = .ok (.aload_n 0, 1) := by decide +kernel
theorem dX10_circles_82 : decode cX10_circles 82 = .ok (.iload 6, 2) := by decide +kernel
theorem dX10_circles_84 : decode cX10_circles 84 = .ok (.invokevirtual 159, 3) := by decide +kernel
theorem dX10_circles_87 : decode cX10_circles 87 = .ok (.iconst 5, 1) := by decide +kernel
theorem dX10_circles_88 : decode cX10_circles 88 = .ok (.irem, 1) := by decide +kernel
theorem dX10_circles_89 : decode cX10_circles 89 = .ok (.iadd, 1) := by decide +kernel
theorem dX10_circles_90 : decode cX10_circles 90 = .ok (.istore 7, 2) := by decide +kernel
theorem dX10_circles_92 : decode cX10_circles 92 = .ok (.aload_n 0, 1) := by decide +kernel
theorem dX10_circles_93 : decode cX10_circles 93 = .ok (.getfield 54, 3) := by decide +kernel
theorem dX10_circles_96 : decode cX10_circles 96 = .ok (.iload 7, 2) := by decide +kernel
theorem dX10_circles_98 : decode cX10_circles 98 = .ok (.iconst 1, 1) := by decide +kernel
theorem dX10_circles_99 : decode cX10_circles 99 = .ok (.iastore, 1) := by decide +kernel
theorem dX10_circles_100 : decode cX10_circles 100 = .ok (.aload_n 0, 1) := by decide +kernel
theorem dX10_circles_101 : decode cX10_circles 101 = .ok (.getfield 57, 3) := by decide +kernel
theorem dX10_circles_104 : decode cX10_circles 104 = .ok (.iload_n 3, 1) := by decide +kernel
theorem dX10_circles_105 : decode cX10_circles 105 = .ok (.iload 7, 2) := by decide +kernel
theorem dX10_circles_107 : decode cX10_circles 107 = .ok (.iastore, 1) := by decide +kernel
theorem dX10_circles_108 : decode cX10_circles 108 = .ok (.iinc 3 1, 3) := by decide +kernel
theorem dX10_circles_111 : decode cX10_circles 111 = .ok (.iinc 5 1, 3) := by decide +kernel
theorem dX10_circles_114 : decode cX10_circles 114 = .ok (.goto (-74), 3) := by decide +kernel
theorem dX10_circles_117 : decode cX10_circles 117 = .ok (.iconst 0, 1) := by decide +kernel
theorem dX10_circles_118 : decode cX10_circles 118 = .ok (.istore 5, 2) := by decide +kernel
theorem dX10_circles_120 : decode cX10_circles 120 = .ok (.iload 5, 2) := by decide +kernel
theorem dX10_circles_122 : decode cX10_circles 122 = .ok (.iload_n 3, 1) := by decide +kernel
theorem dX10_circles_123 : decode cX10_circles 123 = .ok (.if_icmp .ge 144, 3) := by decide +kernel
theorem dX10_circles_126 : decode cX10_circles 126 = .ok (.aload_n 0, 1) := by decide +kernel
theorem dX10_circles_127 : decode cX10_circles 127 = .ok (.getfield 57, 3) := by decide +kernel
theorem dX10_circles_130 : decode cX10_circles 130 = .ok (.iload 5, 2) := by decide +kernel
theorem dX10_circles_132 : decode cX10_circles 132 = .ok (.iaload, 1) := by decide +kernel
theorem dX10_circles_133 : decode cX10_circles 133 = .ok (.iconst 5, 1) := by decide +kernel
theorem dX10_circles_134 : decode cX10_circles 134 = .ok (.idiv, 1) := by decide +kernel
theorem dX10_circles_135 : decode cX10_circles 135 = .ok (.istore 6, 2) := by decide +kernel
theorem dX10_circles_137 : decode cX10_circles 137 = .ok (.iconst 0, 1) := by decide +kernel
theorem dX10_circles_138 : decode cX10_circles 138 = .ok (.istore 7, 2) := by decide +kernel
theorem dX10_circles_140 : decode cX10_circles 140 = .ok (.iload 7, 2) := by decide +kernel
theorem dX10_circles_142 : decode cX10_circles 142 = .ok (.iload_n 2, 1) := by decide +kernel
theorem dX10_circles_143 : decode cX10_circles 143 = .ok (.if_icmp .ge 118, 3) := by decide +kernel
theorem dX10_circles_146 : decode cX10_circles 146 = .ok (.aload_n 0, 1) := by decide +kernel
theorem dX10_circles_147 : decode cX10_circles 147 = .ok (.iload 7, 2) := by decide +kernel
theorem dX10_circles_149 : decode cX10_circles 149 = .ok (.iload 6, 2) := by decide +kernel
theorem dX10_circles_151 : decode cX10_circles 151 = .ok (.invokevirtual 176, 3) := by decide +kernel
theorem dX10_circles_154 : decode cX10_circles 154 = .ok (.istore 8, 2) := by decide +kernel
theorem dX10_circles_156 : decode cX10_circles 156 = .ok (.iconst 5, 1) := by decide +kernel
theorem dX10_circles_157 : decode cX10_circles 157 = .ok (.iload 7, 2) := by decide +kernel
theorem dX10_circles_159 : decode cX10_circles 159 = .ok (.imul, 1) := by decide +kernel
theorem dX10_circles_160 : decode cX10_circles 160 = .ok (.aload_n 0, 1) := by decide +kernel
theorem dX10_circles_161 : decode cX10_circles 161 = .ok (.iload 8, 2) := by decide +kernel
theorem dX10_circles_163 : decode cX10_circles 163 = .ok (.invokevirtual 159, 3) := by decide +kernel
theorem dX10_circles_166 : decode cX10_circles 166 = .ok (.iconst 5, 1) := by decide +kernel
theorem dX10_circles_167 : decode cX10_circles 167 = .ok (.irem, 1) := by decide +kernel
theorem dX10_circles_168 : decode cX10_circles 168 = .ok (.iadd, 1) := by decide +kernel
theorem dX10_circles_169 : decode cX10_circles 169 = .ok (.istore 9, 2) := by decide +kernel
theorem dX10_circles_171 : decode cX10_circles 171 = .ok (.aload_n 0, 1) := by decide +kernel
theorem dX10_circles_172 : decode cX10_circles 172 = .ok (.iload 7, 2) := by decide +kernel
theorem dX10_circles_174 : decode cX10_circles 174 = .ok (.invokevirtual 179, 3) := by decide +kernel
theorem dX10_circles_177 : decode cX10_circles 177 = .ok (.iload 7, 2) := by decide +kernel
theorem dX10_circles_179 : decode cX10_circles 179 = .ok (.if_icmp .ne 76, 3) := by decide +kernel
theorem dX10_circles_182 : decode cX10_circles 182 = .ok (.aload_n 0, 1) := by decide +kernel
theorem dX10_circles_183 : decode cX10_circles 183 = .ok (.getfield 54, 3) := by decide +kernel
theorem dX10_circles_186 : decode cX10_circles 186 = .ok (.iload 9, 2) := by decide +kernel
theorem dX10_circles_188 : decode cX10_circles 188 = .ok (.iaload, 1) := by decide +kernel
theorem dX10_circles_189 : decode cX10_circles 189 = .ok (.ifCond .ge 66, 3) := by decide +kernel
theorem dX10_circles_192 : decode cX10_circles 192 = .ok (.iload 4, 2) := by decide +kernel
theorem dX10_circles_194 : decode cX10_circles 194 = .ok (.iload 8, 2) := by decide +kernel
theorem dX10_circles_196 : decode cX10_circles 196 = .ok (.iload 4, 2) := by decide +kernel
theorem dX10_circles_198 : decode cX10_circles 198 = .ok (.iconst 2, 1) := by decide +kernel
theorem dX10_circles_199 : decode cX10_circles 199 = .ok (.if_icmp .ne 17, 3) := by decide +kernel
theorem dX10_circles_202 : decode cX10_circles 202 = .ok (.iconst 1, 1) := by decide +kernel
theorem dX10_circles_203 : decode cX10_circles 203 = .ok (.aload_n 0, 1) := by decide +kernel
theorem dX10_circles_204 : decode cX10_circles 204 = .ok (.getfield 57, 3) := by decide +kernel
theorem dX10_circles_207 : decode cX10_circles 207 = .ok (.iload 5, 2) := by decide +kernel
theorem dX10_circles_209 : decode cX10_circles 209 = .ok (.iaload, 1) := by decide +kernel
theorem dX10_circles_210 : decode cX10_circles 210 = .ok (.iconst 5, 1) := by decide +kernel
theorem dX10_circles_211 : decode cX10_circles 211 = .ok (.irem, 1) := by decide +kernel
theorem dX10_circles_212 : decode cX10_circles 212 = .ok (.ishl, 1) := by decide +kernel
theorem dX10_circles_213 : decode cX10_circles 213 = .ok (.goto 4, 3) := by decide +kernel
theorem dX10_circles_216 : decode cX10_circles 216 = .ok (.iconst 0, 1) := by decide +kernel
theorem dX10_circles_217 : decode cX10_circles 217 = .ok (.invokestatic 146, 3) := by decide +kernel
theorem dX10_circles_220 : decode cX10_circles 220 = .ok (.ifCond .eq 35, 3) := by decide +kernel
theorem dX10_circles_223 : decode cX10_circles 223 = .ok (.aload_n 0, 1) := by decide +kernel
theorem dX10_circles_224 : decode cX10_circles 224 = .ok (.getfield 54, 3) := by decide +kernel
theorem dX10_circles_227 : decode cX10_circles 227 = .ok (.iload 9, 2) := by decide +kernel
theorem dX10_circles_229 : decode cX10_circles 229 = .ok (.aload_n 0, 1) := by decide +kernel
theorem dX10_circles_230 : decode cX10_circles 230 = .ok (.getfield 54, 3) := by decide +kernel
theorem dX10_circles_233 : decode cX10_circles 233 = .ok (.aload_n 0, 1) := by decide +kernel
theorem dX10_circles_234 : decode cX10_circles 234 = .ok (.getfield 57, 3) := by decide +kernel
theorem dX10_circles_237 : decode cX10_circles 237 = .ok (.iload 5, 2) := by decide +kernel
theorem dX10_circles_239 : decode cX10_circles 239 = .ok (.iaload, 1) := by decide +kernel
theorem dX10_circles_240 : decode cX10_circles 240 = .ok (.iaload, 1) := by decide +kernel
theorem dX10_circles_241 : decode cX10_circles 241 = .ok (.iconst 1, 1) := by decide +kernel
theorem dX10_circles_242 : decode cX10_circles 242 = .ok (.iadd, 1) := by decide +kernel
theorem dX10_circles_243 : decode cX10_circles 243 = .ok (.iastore, 1) := by decide +kernel
theorem dX10_circles_244 : decode cX10_circles 244 = .ok (.aload_n 0, 1) := by decide +kernel
theorem dX10_circles_245 : decode cX10_circles 245 = .ok (.getfield 57, 3) := by decide +kernel
theorem dX10_circles_248 : decode cX10_circles 248 = .ok (.iload_n 3, 1) := by decide +kernel
theorem dX10_circles_249 : decode cX10_circles 249 = .ok (.iload 9, 2) := by decide +kernel
theorem dX10_circles_251 : decode cX10_circles 251 = .ok (.iastore, 1) := by decide +kernel
theorem dX10_circles_252 : decode cX10_circles 252 = .ok (.iinc 3 1, 3) := by decide +kernel
theorem dX10_circles_255 : decode cX10_circles 255 = .ok (.iinc 7 1, 3) := by decide +kernel
theorem dX10_circles_258 : decode cX10_circles 258 = .ok (.goto (-118), 3) := by decide +kernel
theorem dX10_circles_261 : decode cX10_circles 261 = .ok (.iinc 5 1, 3) := by decide +kernel
theorem dX10_circles_264 : decode cX10_circles 264 = .ok (.goto (-144), 3) := by decide +kernel
theorem dX10_circles_267 : decode cX10_circles 267 = .ok (.return_, 1) := by decide +kernel
theorem dX10_steps_0 : decode cX10_steps 0 = .ok (.aload_n 0, 1) := by decide +kernel
theorem dX10_steps_1 : decode cX10_steps 1 = .ok (.iload_n 1, 1) := by decide +kernel
theorem dX10_steps_2 : decode cX10_steps 2 = .ok (.invokevirtual 126, 3) := by decide +kernel
theorem dX10_steps_5 : decode cX10_steps 5 = .ok (.ifCond .eq 21, 3) := by decide +kernel
theorem dX10_steps_8 : decode cX10_steps 8 = .ok (.aload_n 0, 1) := by decide +kernel
theorem dX10_steps_9 : decode cX10_steps 9 = .ok (.iload_n 2, 1) := by decide +kernel
theorem dX10_steps_10 : decode cX10_steps 10 = .ok (.invokevirtual 126, 3) := by decide +kernel
theorem dX10_steps_13 : decode cX10_steps 13 = .ok (.ifCond .eq 13, 3) := by decide +kernel
theorem dX10_steps_16 : decode cX10_steps 16 = .ok (.iload_n 3, 1) := by decide +kernel
theorem dX10_steps_17 : decode cX10_steps 17 = .ok (.i2l, 1) := by decide +kernel
theorem dX10_steps_18 : decode cX10_steps 18 = .ok (.lconst 0, 1) := by decide +kernel
theorem dX10_steps_19 : decode cX10_steps 19 = .ok (.lconst 1, 1) := by decide +kernel
theorem dX10_steps_20 : decode cX10_steps 20 = .ok (.invokestatic 74, 3) := by decide +kernel
theorem dX10_steps_23 : decode cX10_steps 23 = .ok (.ifCond .ne 5, 3) := by decide +kernel
theorem dX10_steps_26 : decode cX10_steps 26 = .ok (.iconst (-1), 1) := by decide +kernel
theorem dX10_steps_27 : decode cX10_steps 27 = .ok (.ireturn, 1) := by decide +kernel
theorem dX10_steps_28 : decode cX10_steps 28 = .ok (.aload_n 0, 1) := by decide +kernel
theorem dX10_steps_29 : decode cX10_steps 29 = .ok (.getfield 13, 3) := by decide +kernel
theorem dX10_steps_32 : decode cX10_steps 32 = .ok (.iconst 0, 1) := by decide +kernel
theorem dX10_steps_33 : decode cX10_steps 33 = .ok (.iaload, 1) := by decide +kernel
theorem dX10_steps_34 : decode cX10_steps 34 = .ok (.aload_n 0, 1) := by decide +kernel
theorem dX10_steps_35 : decode cX10_steps 35 = .ok (.iload_n 1, 1) := by decide +kernel
theorem dX10_steps_36 : decode cX10_steps 36 = .ok (.iload_n 2, 1) := by decide +kernel
theorem dX10_steps_37 : decode cX10_steps 37 = .ok (.invokevirtual 136, 3) := by decide +kernel
theorem dX10_steps_40 : decode cX10_steps 40 = .ok (.aload_n 0, 1) := by decide +kernel
theorem dX10_steps_41 : decode cX10_steps 41 = .ok (.invokevirtual 140, 3) := by decide +kernel
theorem dX10_steps_44 : decode cX10_steps 44 = .ok (.iand, 1) := by decide +kernel
theorem dX10_steps_45 : decode cX10_steps 45 = .ok (.iconst 0, 1) := by decide +kernel
theorem dX10_steps_46 : decode cX10_steps 46 = .ok (.invokestatic 146, 3) := by decide +kernel
theorem dX10_steps_49 : decode cX10_steps 49 = .ok (.ifCond .eq 14, 3) := by decide +kernel
theorem dX10_steps_52 : decode cX10_steps 52 = .ok (.iload_n 3, 1) := by decide +kernel
theorem dX10_steps_53 : decode cX10_steps 53 = .ok (.ifCond .ne 7, 3) := by decide +kernel
theorem dX10_steps_56 : decode cX10_steps 56 = .ok (.iconst 0, 1) := by decide +kernel
theorem dX10_steps_57 : decode cX10_steps 57 = .ok (.goto 5, 3) := by decide +kernel
theorem dX10_steps_60 : decode cX10_steps 60 = .ok (.bipush (-4), 2) := by decide +kernel
theorem dX10_steps_62 : decode cX10_steps 62 = .ok (.ireturn, 1) := by decide +kernel
theorem dX10_steps_63 : decode cX10_steps 63 = .ok (.aload_n 0, 1) := by decide +kernel
theorem dX10_steps_64 : decode cX10_steps 64 = .ok (.aload_n 0, 1) := by decide +kernel
theorem dX10_steps_65 : decode cX10_steps 65 = .ok (.aload_n 0, 1) := by decide +kernel
theorem dX10_steps_66 : decode cX10_steps 66 = .ok (.iload_n 2, 1) := by decide +kernel
theorem dX10_steps_67 : decode cX10_steps 67 = .ok (.invokevirtual 132, 3) := by decide +kernel
theorem dX10_steps_70 : decode cX10_steps 70 = .ok (.invokevirtual 179, 3) := by decide +kernel
theorem dX10_steps_73 : decode cX10_steps 73 = .ok (.invokevirtual 182, 3) := by decide +kernel
theorem dX10_steps_76 : decode cX10_steps 76 = .ok (.aload_n 0, 1) := by decide +kernel
theorem dX10_steps_77 : decode cX10_steps 77 = .ok (.aload_n 0, 1) := by decide +kernel
theorem dX10_steps_78 : decode cX10_steps 78 = .ok (.iload_n 1, 1) := by decide +kernel
theorem dX10_steps_79 : decode cX10_steps 79 = .ok (.invokevirtual 132, 3) := by decide +kernel
theorem dX10_steps_82 : decode cX10_steps 82 = .ok (.invokevirtual 179, 3) := by decide +kernel
theorem dX10_steps_85 : decode cX10_steps 85 = .ok (.istore 4, 2) := by decide +kernel
theorem dX10_steps_87 : decode cX10_steps 87 = .ok (.bipush (-4), 2) := by decide +kernel
theorem dX10_steps_89 : decode cX10_steps 89 = .ok (.istore 5, 2) := by decide +kernel
theorem dX10_steps_91 : decode cX10_steps 91 = .ok (.bipush (-4), 2) := by decide +kernel
theorem dX10_steps_93 : decode cX10_steps 93 = .ok (.istore 6, 2) := by decide +kernel
theorem dX10_steps_95 : decode cX10_steps 95 = .ok (.iconst 0, 1) := by decide +kernel
theorem dX10_steps_96 : decode cX10_steps 96 = .ok (.istore 7, 2) := by decide +kernel
theorem dX10_steps_98 : decode cX10_steps 98 = .ok (.iload 7, 2) := by decide +kernel
theorem dX10_steps_100 : decode cX10_steps 100 = .ok (.aload_n 0, 1) := by decide +kernel
theorem dX10_steps_101 : decode cX10_steps 101 = .ok (.invokevirtual 173, 3) := by decide +kernel
theorem dX10_steps_104 : decode cX10_steps 104 = .ok (.if_icmp .ge 117, 3) := by decide +kernel
theorem dX10_steps_107 : decode cX10_steps 107 = .ok (.aload_n 0, 1) := by decide +kernel
theorem dX10_steps_108 : decode cX10_steps 108 = .ok (.iload 4, 2) := by decide +kernel
theorem dX10_steps_110 : decode cX10_steps 110 = .ok (.iload 7, 2) := by decide +kernel
theorem dX10_steps_112 : decode cX10_steps 112 = .ok (.invokevirtual 176, 3) := by decide +kernel
theorem dX10_steps_115 : decode cX10_steps 115 = .ok (.istore 8, 2) := by decide +kernel
theorem dX10_steps_117 : decode cX10_steps 117 = .ok (.iconst 0, 1) := by decide +kernel
theorem dX10_steps_118 : decode cX10_steps 118 = .ok (.istore 9, 2) := by decide +kernel
theorem dX10_steps_120 : decode cX10_steps 120 = .ok (.iload 9, 2) := by decide +kernel
theorem dX10_steps_122 : decode cX10_steps 122 = .ok (.iconst 5, 1) := by decide +kernel
theorem dX10_steps_123 : decode cX10_steps 123 = .ok (.if_icmp .ge 92, 3) := by decide +kernel
theorem dX10_steps_126 : decode cX10_steps 126 = .ok (.aload_n 0, 1) := by decide +kernel
theorem dX10_steps_127 : decode cX10_steps 127 = .ok (.getfield 54, 3) := by decide +kernel
theorem dX10_steps_130 : decode cX10_steps 130 = .ok (.iconst 5, 1) := by decide +kernel
theorem dX10_steps_131 : decode cX10_steps 131 = .ok (.iload 7, 2) := by decide +kernel
theorem dX10_steps_133 : decode cX10_steps 133 = .ok (.imul, 1) := by decide +kernel
theorem dX10_steps_134 : decode cX10_steps 134 = .ok (.iload 9, 2) := by decide +kernel
theorem dX10_steps_136 : decode cX10_steps 136 = .ok (.iadd, 1) := by decide +kernel
theorem dX10_steps_137 : decode cX10_steps 137 = .ok (.iaload, 1) := by decide +kernel
theorem dX10_steps_138 : decode cX10_steps 138 = .ok (.istore 10, 2) := by decide +kernel
theorem dX10_steps_140 : decode cX10_steps 140 = .ok (.iload 10, 2) := by decide +kernel
theorem dX10_steps_142 : decode cX10_steps 142 = .ok (.ifCond .le 39, 3) := by decide +kernel
theorem dX10_steps_145 : decode cX10_steps 145 = .ok (.aload_n 0, 1) := by decide +kernel
theorem dX10_steps_146 : decode cX10_steps 146 = .ok (.getfield 13, 3) := by decide +kernel
theorem dX10_steps_149 : decode cX10_steps 149 = .ok (.iconst 0, 1) := by decide +kernel
theorem dX10_steps_150 : decode cX10_steps 150 = .ok (.iaload, 1) := by decide +kernel
theorem dX10_steps_151 : decode cX10_steps 151 = .ok (.iload 8, 2) := by decide +kernel
theorem dX10_steps_153 : decode cX10_steps 153 = .ok (.aload_n 0, 1) := by decide +kernel
theorem dX10_steps_154 : decode cX10_steps 154 = .ok (.getfield 13, 3) := by decide +kernel
theorem dX10_steps_157 : decode cX10_steps 157 = .ok (.iconst 0, 1) := by decide +kernel
theorem dX10_steps_158 : decode cX10_steps 158 = .ok (.iaload, 1) := by decide +kernel
theorem dX10_steps_159 : decode cX10_steps 159 = .ok (.iconst 2, 1) := by decide +kernel
theorem dX10_steps_160 : decode cX10_steps 160 = .ok (.if_icmp .ne 10, 3) := by decide +kernel
theorem dX10_steps_163 : decode cX10_steps 163 = .ok (.iconst 1, 1) := by decide +kernel
theorem dX10_steps_164 : decode cX10_steps 164 = .ok (.iload 9, 2) := by decide +kernel
theorem dX10_steps_166 : decode cX10_steps 166 = .ok (.ishl, 1) := by decide +kernel
theorem dX10_steps_167 : decode cX10_steps 167 = .ok (.goto 4, 3) := by decide +kernel
theorem dX10_steps_170 : decode cX10_steps 170 = .ok (.iconst 0, 1) := by decide +kernel
theorem dX10_steps_171 : decode cX10_steps 171 = .ok (.invokestatic 146, 3) := by decide +kernel
theorem dX10_steps_174 : decode cX10_steps 174 = .ok (.ifCond .eq 7, 3) := by decide +kernel
theorem dX10_steps_177 : decode cX10_steps 177 = .ok (.iconst 1, 1) := by decide +kernel
theorem dX10_steps_178 : decode cX10_steps 178 = .ok (.goto 4, 3) := by decide +kernel
theorem dX10_steps_181 : decode cX10_steps 181 = .ok (.iconst 0, 1) := by decide +kernel
theorem dX10_steps_182 : decode cX10_steps 182 = .ok (.istore 11, 2) := by decide +kernel
theorem dX10_steps_184 : decode cX10_steps 184 = .ok (.iload 11, 2) := by decide +kernel
theorem dX10_steps_186 : decode cX10_steps 186 = .ok (.ifCond .eq 23, 3) := by decide +kernel
theorem dX10_steps_189 : decode cX10_steps 189 = .ok (.iload 5, 2) := by decide +kernel
theorem dX10_steps_191 : decode cX10_steps 191 = .ok (.ifCond .lt 10, 3) := by decide +kernel
theorem dX10_steps_194 : decode cX10_steps 194 = .ok (.iload 10, 2) := by decide +kernel
theorem dX10_steps_196 : decode cX10_steps 196 = .ok (.iload 5, 2) := by decide +kernel
theorem dX10_steps_198 : decode cX10_steps 198 = .ok (.if_icmp .ge 11, 3) := by decide +kernel
theorem dX10_steps_201 : decode cX10_steps 201 = .ok (.iload 10, 2) := by decide +kernel
theorem dX10_steps_203 : decode cX10_steps 203 = .ok (.istore 5, 2) := by decide +kernel
theorem dX10_steps_205 : decode cX10_steps 205 = .ok (.iload 7, 2) := by decide +kernel
theorem dX10_steps_207 : decode cX10_steps 207 = .ok (.istore 6, 2) := by decide +kernel
theorem dX10_steps_209 : decode cX10_steps 209 = .ok (.iinc 9 1, 3) := by decide +kernel
theorem dX10_steps_212 : decode cX10_steps 212 = .ok (.goto (-92), 3) := by decide +kernel
theorem dX10_steps_215 : decode cX10_steps 215 = .ok (.iinc 7 1, 3) := by decide +kernel
theorem dX10_steps_218 : decode cX10_steps 218 = .ok (.goto (-120), 3) := by decide +kernel
theorem dX10_steps_221 : decode cX10_steps 221 = .ok (.iload_n 3, 1) := by decide +kernel
theorem dX10_steps_222 : decode cX10_steps 222 = .ok (.ifCond .ne 8, 3) := by decide +kernel
theorem dX10_steps_225 : decode cX10_steps 225 = .ok (.iload 5, 2) := by decide +kernel
theorem dX10_steps_227 : decode cX10_steps 227 = .ok (.goto 5, 3) := by decide +kernel
theorem dX10_steps_230 : decode cX10_steps 230 = .ok (.iload 6, 2) := by decide +kernel
theorem dX10_steps_232 : decode cX10_steps 232 = .ok (.ireturn, 1) := by decide +kernel
theorem dX10_lentCode_0 : decode cX10_lentCode 0 = .ok (.iconst 0, 1) := by decide +kernel
theorem dX10_lentCode_1 : decode cX10_lentCode 1 = .ok (.istore_n 3, 1) := by decide +kernel
theorem dX10_lentCode_2 : decode cX10_lentCode 2 = .ok (.iload_n 2, 1) := by decide +kernel
theorem dX10_lentCode_3 : decode cX10_lentCode 3 = .ok (.istore 4, 2) := by decide +kernel
theorem dX10_lentCode_5 : decode cX10_lentCode 5 = .ok (.iconst 0, 1) := by decide +kernel
theorem dX10_lentCode_6 : decode cX10_lentCode 6 = .ok (.istore 5, 2) := by decide +kernel
theorem dX10_lentCode_8 : decode cX10_lentCode 8 = .ok (.iload 5, 2) := by decide +kernel
theorem dX10_lentCode_10 : decode cX10_lentCode 10 = .ok (.aload_n 0, 1) := by decide +kernel
theorem dX10_lentCode_11 : decode cX10_lentCode 11 = .ok (.getfield 17, 3) := by decide +kernel
theorem dX10_lentCode_14 : decode cX10_lentCode 14 = .ok (.iconst 0, 1) := by decide +kernel
theorem dX10_lentCode_15 : decode cX10_lentCode 15 = .ok (.iaload, 1) := by decide +kernel
theorem dX10_lentCode_16 : decode cX10_lentCode 16 = .ok (.if_icmp .ge 72, 3) := by decide +kernel
theorem dX10_lentCode_19 : decode cX10_lentCode 19 = .ok (.aload_n 0, 1) := by decide +kernel
theorem dX10_lentCode_20 : decode cX10_lentCode 20 = .ok (.getfield 29, 3) := by decide +kernel
theorem dX10_lentCode_23 : decode cX10_lentCode 23 = .ok (.iconst 5, 1) := by decide +kernel
theorem dX10_lentCode_24 : decode cX10_lentCode 24 = .ok (.iload_n 1, 1) := by decide +kernel
theorem dX10_lentCode_25 : decode cX10_lentCode 25 = .ok (.imul, 1) := by decide +kernel
theorem dX10_lentCode_26 : decode cX10_lentCode 26 = .ok (.iload 5, 2) := by decide +kernel
theorem dX10_lentCode_28 : decode cX10_lentCode 28 = .ok (.iadd, 1) := by decide +kernel
theorem dX10_lentCode_29 : decode cX10_lentCode 29 = .ok (.iaload, 1) := by decide +kernel
theorem dX10_lentCode_30 : decode cX10_lentCode 30 = .ok (.istore 6, 2) := by decide +kernel
theorem dX10_lentCode_32 : decode cX10_lentCode 32 = .ok (.aload_n 0, 1) := by decide +kernel
theorem dX10_lentCode_33 : decode cX10_lentCode 33 = .ok (.getfield 23, 3) := by decide +kernel
theorem dX10_lentCode_36 : decode cX10_lentCode 36 = .ok (.iload 5, 2) := by decide +kernel
theorem dX10_lentCode_38 : decode cX10_lentCode 38 = .ok (.iaload, 1) := by decide +kernel
theorem dX10_lentCode_39 : decode cX10_lentCode 39 = .ok (.iconst 1, 1) := by decide +kernel
theorem dX10_lentCode_40 : decode cX10_lentCode 40 = .ok (.if_icmp .ne 15, 3) := by decide +kernel
theorem dX10_lentCode_43 : decode cX10_lentCode 43 = .ok (.iload 4, 2) := by decide +kernel
theorem dX10_lentCode_45 : decode cX10_lentCode 45 = .ok (.iconst 4, 1) := by decide +kernel
theorem dX10_lentCode_46 : decode cX10_lentCode 46 = .ok (.irem, 1) := by decide +kernel
theorem dX10_lentCode_47 : decode cX10_lentCode 47 = .ok (.istore 6, 2) := by decide +kernel
theorem dX10_lentCode_49 : decode cX10_lentCode 49 = .ok (.iload 4, 2) := by decide +kernel
theorem dX10_lentCode_51 : decode cX10_lentCode 51 = .ok (.iconst 4, 1) := by decide +kernel
theorem dX10_lentCode_52 : decode cX10_lentCode 52 = .ok (.idiv, 1) := by decide +kernel
theorem dX10_lentCode_53 : decode cX10_lentCode 53 = .ok (.istore 4, 2) := by decide +kernel
theorem dX10_lentCode_55 : decode cX10_lentCode 55 = .ok (.iload 6, 2) := by decide +kernel
theorem dX10_lentCode_57 : decode cX10_lentCode 57 = .ok (.aload_n 0, 1) := by decide +kernel
theorem dX10_lentCode_58 : decode cX10_lentCode 58 = .ok (.getfield 20, 3) := by decide +kernel
theorem dX10_lentCode_61 : decode cX10_lentCode 61 = .ok (.iload 5, 2) := by decide +kernel
theorem dX10_lentCode_63 : decode cX10_lentCode 63 = .ok (.iaload, 1) := by decide +kernel
theorem dX10_lentCode_64 : decode cX10_lentCode 64 = .ok (.if_icmp .lt 5, 3) := by decide +kernel
theorem dX10_lentCode_67 : decode cX10_lentCode 67 = .ok (.iconst (-1), 1) := by decide +kernel
theorem dX10_lentCode_68 : decode cX10_lentCode 68 = .ok (.ireturn, 1) := by decide +kernel
theorem dX10_lentCode_69 : decode cX10_lentCode 69 = .ok (.iload_n 3, 1) := by decide +kernel
theorem dX10_lentCode_70 : decode cX10_lentCode 70 = .ok (.aload_n 0, 1) := by decide +kernel
theorem dX10_lentCode_71 : decode cX10_lentCode 71 = .ok (.getfield 20, 3) := by decide +kernel
theorem dX10_lentCode_74 : decode cX10_lentCode 74 = .ok (.iload 5, 2) := by decide +kernel
theorem dX10_lentCode_76 : decode cX10_lentCode 76 = .ok (.iaload, 1) := by decide +kernel
theorem dX10_lentCode_77 : decode cX10_lentCode 77 = .ok (.imul, 1) := by decide +kernel
theorem dX10_lentCode_78 : decode cX10_lentCode 78 = .ok (.iload 6, 2) := by decide +kernel
theorem dX10_lentCode_80 : decode cX10_lentCode 80 = .ok (.iadd, 1) := by decide +kernel
theorem dX10_lentCode_81 : decode cX10_lentCode 81 = .ok (.istore_n 3, 1) := by decide +kernel
theorem dX10_lentCode_82 : decode cX10_lentCode 82 = .ok (.iinc 5 1, 3) := by decide +kernel
theorem dX10_lentCode_85 : decode cX10_lentCode 85 = .ok (.goto (-77), 3) := by decide +kernel
theorem dX10_lentCode_88 : decode cX10_lentCode 88 = .ok (.iload 4, 2) := by decide +kernel
theorem dX10_lentCode_90 : decode cX10_lentCode 90 = .ok (.ifCond .ne 7, 3) := by decide +kernel
theorem dX10_lentCode_93 : decode cX10_lentCode 93 = .ok (.iload_n 3, 1) := by decide +kernel
theorem dX10_lentCode_94 : decode cX10_lentCode 94 = .ok (.goto 4, 3) := by decide +kernel
theorem dX10_lentCode_97 : decode cX10_lentCode 97 = .ok (.iconst (-1), 1) := by decide +kernel
theorem dX10_lentCode_98 : decode cX10_lentCode 98 = .ok (.ireturn, 1) := by decide +kernel
theorem dX10_others_0 : decode cX10_others 0 = .ok (.iconst 0, 1) := by decide +kernel
theorem dX10_others_1 : decode cX10_others 1 = .ok (.istore_n 3, 1) := by decide +kernel
theorem dX10_others_2 : decode cX10_others 2 = .ok (.iconst 0, 1) := by decide +kernel
theorem dX10_others_3 : decode cX10_others 3 = .ok (.istore 4, 2) := by decide +kernel
theorem dX10_others_5 : decode cX10_others 5 = .ok (.iload 4, 2) := by decide +kernel
theorem dX10_others_7 : decode cX10_others 7 = .ok (.aload_n 0, 1) := by decide +kernel
theorem dX10_others_8 : decode cX10_others 8 = .ok (.getfield 17, 3) := by decide +kernel
theorem dX10_others_11 : decode cX10_others 11 = .ok (.iconst 0, 1) := by decide +kernel
theorem dX10_others_12 : decode cX10_others 12 = .ok (.iaload, 1) := by decide +kernel
theorem dX10_others_13 : decode cX10_others 13 = .ok (.if_icmp .ge 38, 3) := by decide +kernel
theorem dX10_others_16 : decode cX10_others 16 = .ok (.iload_n 3, 1) := by decide +kernel
theorem dX10_others_17 : decode cX10_others 17 = .ok (.aload_n 0, 1) := by decide +kernel
theorem dX10_others_18 : decode cX10_others 18 = .ok (.iload_n 2, 1) := by decide +kernel
theorem dX10_others_19 : decode cX10_others 19 = .ok (.iload 4, 2) := by decide +kernel
theorem dX10_others_21 : decode cX10_others 21 = .ok (.invokevirtual 170, 3) := by decide +kernel
theorem dX10_others_24 : decode cX10_others 24 = .ok (.aload_n 0, 1) := by decide +kernel
theorem dX10_others_25 : decode cX10_others 25 = .ok (.getfield 29, 3) := by decide +kernel
theorem dX10_others_28 : decode cX10_others 28 = .ok (.iconst 5, 1) := by decide +kernel
theorem dX10_others_29 : decode cX10_others 29 = .ok (.iload_n 1, 1) := by decide +kernel
theorem dX10_others_30 : decode cX10_others 30 = .ok (.imul, 1) := by decide +kernel
theorem dX10_others_31 : decode cX10_others 31 = .ok (.iload 4, 2) := by decide +kernel
theorem dX10_others_33 : decode cX10_others 33 = .ok (.iadd, 1) := by decide +kernel
theorem dX10_others_34 : decode cX10_others 34 = .ok (.iaload, 1) := by decide +kernel
theorem dX10_others_35 : decode cX10_others 35 = .ok (.if_icmp .eq 7, 3) := by decide +kernel
theorem dX10_others_38 : decode cX10_others 38 = .ok (.iconst 1, 1) := by decide +kernel
theorem dX10_others_39 : decode cX10_others 39 = .ok (.goto 4, 3) := by decide +kernel
theorem dX10_others_42 : decode cX10_others 42 = .ok (.iconst 0, 1) := by decide +kernel
theorem dX10_others_43 : decode cX10_others 43 = .ok (.iadd, 1) := by decide +kernel
theorem dX10_others_44 : decode cX10_others 44 = .ok (.istore_n 3, 1) := by decide +kernel
theorem dX10_others_45 : decode cX10_others 45 = .ok (.iinc 4 1, 3) := by decide +kernel
theorem dX10_others_48 : decode cX10_others 48 = .ok (.goto (-43), 3) := by decide +kernel
theorem dX10_others_51 : decode cX10_others 51 = .ok (.iload_n 3, 1) := by decide +kernel
theorem dX10_others_52 : decode cX10_others 52 = .ok (.ireturn, 1) := by decide +kernel
theorem dX10_goesWith_0 : decode cX10_goesWith 0 = .ok (.aload_n 0, 1) := by decide +kernel
theorem dX10_goesWith_1 : decode cX10_goesWith 1 = .ok (.getfield 13, 3) := by decide +kernel
theorem dX10_goesWith_4 : decode cX10_goesWith 4 = .ok (.iconst 0, 1) := by decide +kernel
theorem dX10_goesWith_5 : decode cX10_goesWith 5 = .ok (.iaload, 1) := by decide +kernel
theorem dX10_goesWith_6 : decode cX10_goesWith 6 = .ok (.iconst 2, 1) := by decide +kernel
theorem dX10_goesWith_7 : decode cX10_goesWith 7 = .ok (.if_icmp .ne 7, 3) := by decide +kernel
theorem dX10_goesWith_10 : decode cX10_goesWith 10 = .ok (.iconst 0, 1) := by decide +kernel
theorem dX10_goesWith_11 : decode cX10_goesWith 11 = .ok (.goto 9, 3) := by decide +kernel
theorem dX10_goesWith_14 : decode cX10_goesWith 14 = .ok (.aload_n 0, 1) := by decide +kernel
theorem dX10_goesWith_15 : decode cX10_goesWith 15 = .ok (.getfield 13, 3) := by decide +kernel
theorem dX10_goesWith_18 : decode cX10_goesWith 18 = .ok (.iconst 0, 1) := by decide +kernel
theorem dX10_goesWith_19 : decode cX10_goesWith 19 = .ok (.iaload, 1) := by decide +kernel
theorem dX10_goesWith_20 : decode cX10_goesWith 20 = .ok (.aload_n 0, 1) := by decide +kernel
theorem dX10_goesWith_21 : decode cX10_goesWith 21 = .ok (.iload_n 1, 1) := by decide +kernel
theorem dX10_goesWith_22 : decode cX10_goesWith 22 = .ok (.iload_n 2, 1) := by decide +kernel
theorem dX10_goesWith_23 : decode cX10_goesWith 23 = .ok (.invokevirtual 176, 3) := by decide +kernel
theorem dX10_goesWith_26 : decode cX10_goesWith 26 = .ok (.iconst 0, 1) := by decide +kernel
theorem dX10_goesWith_27 : decode cX10_goesWith 27 = .ok (.invokestatic 146, 3) := by decide +kernel
theorem dX10_goesWith_30 : decode cX10_goesWith 30 = .ok (.ireturn, 1) := by decide +kernel
theorem dX10_loans_0 : decode cX10_loans 0 = .ok (.aload_n 0, 1) := by decide +kernel
theorem dX10_loans_1 : decode cX10_loans 1 = .ok (.getfield 111, 3) := by decide +kernel
theorem dX10_loans_4 : decode cX10_loans 4 = .ok (.iconst 1, 1) := by decide +kernel
theorem dX10_loans_5 : decode cX10_loans 5 = .ok (.isub, 1) := by decide +kernel
theorem dX10_loans_6 : decode cX10_loans 6 = .ok (.istore_n 1, 1) := by decide +kernel
theorem dX10_loans_7 : decode cX10_loans 7 = .ok (.iload_n 1, 1) := by decide +kernel
theorem dX10_loans_8 : decode cX10_loans 8 = .ok (.ifCond .lt 205, 3) := by decide +kernel
theorem dX10_loans_11 : decode cX10_loans 11 = .ok (.iconst 0, 1) := by decide +kernel
theorem dX10_loans_12 : decode cX10_loans 12 = .ok (.istore_n 2, 1) := by decide +kernel
theorem dX10_loans_13 : decode cX10_loans 13 = .ok (.iload_n 2, 1) := by decide +kernel
theorem dX10_loans_14 : decode cX10_loans 14 = .ok (.bipush 16, 2) := by decide +kernel
theorem dX10_loans_16 : decode cX10_loans 16 = .ok (.if_icmp .ge 191, 3) := by decide +kernel
theorem dX10_loans_19 : decode cX10_loans 19 = .ok (.aload_n 0, 1) := by decide +kernel
theorem dX10_loans_20 : decode cX10_loans 20 = .ok (.aload_n 0, 1) := by decide +kernel
theorem dX10_loans_21 : decode cX10_loans 21 = .ok (.getfield 38, 3) := by decide +kernel
theorem dX10_loans_24 : decode cX10_loans 24 = .ok (.iload_n 1, 1) := by decide +kernel
theorem dX10_loans_25 : decode cX10_loans 25 = .ok (.iaload, 1) := by decide +kernel
theorem dX10_loans_26 : decode cX10_loans 26 = .ok (.iload_n 2, 1) := by decide +kernel
theorem dX10_loans_27 : decode cX10_loans 27 = .ok (.invokevirtual 186, 3) := by decide +kernel
theorem dX10_loans_30 : decode cX10_loans 30 = .ok (.istore_n 3, 1) := by decide +kernel
theorem dX10_loans_31 : decode cX10_loans 31 = .ok (.iload_n 1, 1) := by decide +kernel
theorem dX10_loans_32 : decode cX10_loans 32 = .ok (.aload_n 0, 1) := by decide +kernel
theorem dX10_loans_33 : decode cX10_loans 33 = .ok (.getfield 111, 3) := by decide +kernel
theorem dX10_loans_36 : decode cX10_loans 36 = .ok (.iconst 1, 1) := by decide +kernel
theorem dX10_loans_37 : decode cX10_loans 37 = .ok (.isub, 1) := by decide +kernel
theorem dX10_loans_38 : decode cX10_loans 38 = .ok (.if_icmp .ne 7, 3) := by decide +kernel
theorem dX10_loans_41 : decode cX10_loans 41 = .ok (.iconst 0, 1) := by decide +kernel
end
section
theorem dX10_loans_42 : decode cX10_loans 42 = .ok (.goto 6, 3) := by decide +kernel
theorem dX10_loans_45 : decode cX10_loans 45 = .ok (.sipush 1000, 3) := by decide +kernel
theorem dX10_loans_48 : decode cX10_loans 48 = .ok (.istore 4, 2) := by decide +kernel
theorem dX10_loans_50 : decode cX10_loans 50 = .ok (.iconst 0, 1) := by decide +kernel
theorem dX10_loans_51 : decode cX10_loans 51 = .ok (.istore 5, 2) := by decide +kernel
theorem dX10_loans_53 : decode cX10_loans 53 = .ok (.iload 5, 2) := by decide +kernel
theorem dX10_loans_55 : decode cX10_loans 55 = .ok (.bipush 16, 2) := by decide +kernel
theorem dX10_loans_57 : decode cX10_loans 57 = .ok (.if_icmp .ge 97, 3) := by decide +kernel
theorem dX10_loans_60 : decode cX10_loans 60 = .ok (.iload_n 1, 1) := by decide +kernel
theorem dX10_loans_61 : decode cX10_loans 61 = .ok (.aload_n 0, 1) := by decide +kernel
theorem dX10_loans_62 : decode cX10_loans 62 = .ok (.getfield 111, 3) := by decide +kernel
theorem dX10_loans_65 : decode cX10_loans 65 = .ok (.iconst 1, 1) := by decide +kernel
theorem dX10_loans_66 : decode cX10_loans 66 = .ok (.isub, 1) := by decide +kernel
theorem dX10_loans_67 : decode cX10_loans 67 = .ok (.if_icmp .ge 87, 3) := by decide +kernel
theorem dX10_loans_70 : decode cX10_loans 70 = .ok (.iload_n 3, 1) := by decide +kernel
theorem dX10_loans_71 : decode cX10_loans 71 = .ok (.ifCond .lt 83, 3) := by decide +kernel
theorem dX10_loans_74 : decode cX10_loans 74 = .ok (.aload_n 0, 1) := by decide +kernel
theorem dX10_loans_75 : decode cX10_loans 75 = .ok (.getfield 60, 3) := by decide +kernel
theorem dX10_loans_78 : decode cX10_loans 78 = .ok (.bipush 16, 2) := by decide +kernel
theorem dX10_loans_80 : decode cX10_loans 80 = .ok (.iload_n 1, 1) := by decide +kernel
theorem dX10_loans_81 : decode cX10_loans 81 = .ok (.imul, 1) := by decide +kernel
theorem dX10_loans_82 : decode cX10_loans 82 = .ok (.bipush 16, 2) := by decide +kernel
theorem dX10_loans_84 : decode cX10_loans 84 = .ok (.iadd, 1) := by decide +kernel
theorem dX10_loans_85 : decode cX10_loans 85 = .ok (.iload 5, 2) := by decide +kernel
theorem dX10_loans_87 : decode cX10_loans 87 = .ok (.iadd, 1) := by decide +kernel
theorem dX10_loans_88 : decode cX10_loans 88 = .ok (.iaload, 1) := by decide +kernel
theorem dX10_loans_89 : decode cX10_loans 89 = .ok (.istore 6, 2) := by decide +kernel
theorem dX10_loans_91 : decode cX10_loans 91 = .ok (.aload_n 0, 1) := by decide +kernel
theorem dX10_loans_92 : decode cX10_loans 92 = .ok (.getfield 63, 3) := by decide +kernel
theorem dX10_loans_95 : decode cX10_loans 95 = .ok (.bipush 16, 2) := by decide +kernel
theorem dX10_loans_97 : decode cX10_loans 97 = .ok (.iload_n 1, 1) := by decide +kernel
theorem dX10_loans_98 : decode cX10_loans 98 = .ok (.imul, 1) := by decide +kernel
theorem dX10_loans_99 : decode cX10_loans 99 = .ok (.bipush 16, 2) := by decide +kernel
theorem dX10_loans_101 : decode cX10_loans 101 = .ok (.iadd, 1) := by decide +kernel
theorem dX10_loans_102 : decode cX10_loans 102 = .ok (.iload 5, 2) := by decide +kernel
theorem dX10_loans_104 : decode cX10_loans 104 = .ok (.iadd, 1) := by decide +kernel
theorem dX10_loans_105 : decode cX10_loans 105 = .ok (.iaload, 1) := by decide +kernel
theorem dX10_loans_106 : decode cX10_loans 106 = .ok (.ifCond .lt 38, 3) := by decide +kernel
theorem dX10_loans_109 : decode cX10_loans 109 = .ok (.iload 6, 2) := by decide +kernel
theorem dX10_loans_111 : decode cX10_loans 111 = .ok (.iload 4, 2) := by decide +kernel
theorem dX10_loans_113 : decode cX10_loans 113 = .ok (.if_icmp .ge 31, 3) := by decide +kernel
theorem dX10_loans_116 : decode cX10_loans 116 = .ok (.aload_n 0, 1) := by decide +kernel
theorem dX10_loans_117 : decode cX10_loans 117 = .ok (.iload_n 3, 1) := by decide +kernel
theorem dX10_loans_118 : decode cX10_loans 118 = .ok (.aload_n 0, 1) := by decide +kernel
theorem dX10_loans_119 : decode cX10_loans 119 = .ok (.getfield 63, 3) := by decide +kernel
theorem dX10_loans_122 : decode cX10_loans 122 = .ok (.bipush 16, 2) := by decide +kernel
theorem dX10_loans_124 : decode cX10_loans 124 = .ok (.iload_n 1, 1) := by decide +kernel
theorem dX10_loans_125 : decode cX10_loans 125 = .ok (.imul, 1) := by decide +kernel
theorem dX10_loans_126 : decode cX10_loans 126 = .ok (.bipush 16, 2) := by decide +kernel
theorem dX10_loans_128 : decode cX10_loans 128 = .ok (.iadd, 1) := by decide +kernel
theorem dX10_loans_129 : decode cX10_loans 129 = .ok (.iload 5, 2) := by decide +kernel
theorem dX10_loans_131 : decode cX10_loans 131 = .ok (.iadd, 1) := by decide +kernel
theorem dX10_loans_132 : decode cX10_loans 132 = .ok (.iaload, 1) := by decide +kernel
theorem dX10_loans_133 : decode cX10_loans 133 = .ok (.invokevirtual 189, 3) := by decide +kernel
theorem dX10_loans_136 : decode cX10_loans 136 = .ok (.ifCond .eq 8, 3) := by decide +kernel
theorem dX10_loans_139 : decode cX10_loans 139 = .ok (.iload 6, 2) := by decide +kernel
theorem dX10_loans_141 : decode cX10_loans 141 = .ok (.goto 5, 3) := by decide +kernel
theorem dX10_loans_144 : decode cX10_loans 144 = .ok (.iload 4, 2) := by decide +kernel
theorem dX10_loans_146 : decode cX10_loans 146 = .ok (.istore 4, 2) := by decide +kernel
theorem dX10_loans_148 : decode cX10_loans 148 = .ok (.iinc 5 1, 3) := by decide +kernel
theorem dX10_loans_151 : decode cX10_loans 151 = .ok (.goto (-98), 3) := by decide +kernel
theorem dX10_loans_154 : decode cX10_loans 154 = .ok (.aload_n 0, 1) := by decide +kernel
theorem dX10_loans_155 : decode cX10_loans 155 = .ok (.getfield 63, 3) := by decide +kernel
theorem dX10_loans_158 : decode cX10_loans 158 = .ok (.bipush 16, 2) := by decide +kernel
theorem dX10_loans_160 : decode cX10_loans 160 = .ok (.iload_n 1, 1) := by decide +kernel
theorem dX10_loans_161 : decode cX10_loans 161 = .ok (.imul, 1) := by decide +kernel
theorem dX10_loans_162 : decode cX10_loans 162 = .ok (.iload_n 2, 1) := by decide +kernel
theorem dX10_loans_163 : decode cX10_loans 163 = .ok (.iadd, 1) := by decide +kernel
theorem dX10_loans_164 : decode cX10_loans 164 = .ok (.iload_n 3, 1) := by decide +kernel
theorem dX10_loans_165 : decode cX10_loans 165 = .ok (.iastore, 1) := by decide +kernel
theorem dX10_loans_166 : decode cX10_loans 166 = .ok (.aload_n 0, 1) := by decide +kernel
theorem dX10_loans_167 : decode cX10_loans 167 = .ok (.getfield 60, 3) := by decide +kernel
theorem dX10_loans_170 : decode cX10_loans 170 = .ok (.bipush 16, 2) := by decide +kernel
theorem dX10_loans_172 : decode cX10_loans 172 = .ok (.iload_n 1, 1) := by decide +kernel
theorem dX10_loans_173 : decode cX10_loans 173 = .ok (.imul, 1) := by decide +kernel
theorem dX10_loans_174 : decode cX10_loans 174 = .ok (.iload_n 2, 1) := by decide +kernel
theorem dX10_loans_175 : decode cX10_loans 175 = .ok (.iadd, 1) := by decide +kernel
theorem dX10_loans_176 : decode cX10_loans 176 = .ok (.iload_n 3, 1) := by decide +kernel
theorem dX10_loans_177 : decode cX10_loans 177 = .ok (.ifCond .ge 9, 3) := by decide +kernel
theorem dX10_loans_180 : decode cX10_loans 180 = .ok (.sipush 1000, 3) := by decide +kernel
theorem dX10_loans_183 : decode cX10_loans 183 = .ok (.goto 17, 3) := by decide +kernel
theorem dX10_loans_186 : decode cX10_loans 186 = .ok (.iload 4, 2) := by decide +kernel
theorem dX10_loans_188 : decode cX10_loans 188 = .ok (.aload_n 0, 1) := by decide +kernel
theorem dX10_loans_189 : decode cX10_loans 189 = .ok (.aload_n 0, 1) := by decide +kernel
theorem dX10_loans_190 : decode cX10_loans 190 = .ok (.getfield 38, 3) := by decide +kernel
theorem dX10_loans_193 : decode cX10_loans 193 = .ok (.iload_n 1, 1) := by decide +kernel
theorem dX10_loans_194 : decode cX10_loans 194 = .ok (.iaload, 1) := by decide +kernel
theorem dX10_loans_195 : decode cX10_loans 195 = .ok (.iload_n 3, 1) := by decide +kernel
theorem dX10_loans_196 : decode cX10_loans 196 = .ok (.invokevirtual 193, 3) := by decide +kernel
theorem dX10_loans_199 : decode cX10_loans 199 = .ok (.iadd, 1) := by decide +kernel
theorem dX10_loans_200 : decode cX10_loans 200 = .ok (.iastore, 1) := by decide +kernel
theorem dX10_loans_201 : decode cX10_loans 201 = .ok (.iinc 2 1, 3) := by decide +kernel
theorem dX10_loans_204 : decode cX10_loans 204 = .ok (.goto (-191), 3) := by decide +kernel
theorem dX10_loans_207 : decode cX10_loans 207 = .ok (.iinc 1 (-1), 3) := by decide +kernel
theorem dX10_loans_210 : decode cX10_loans 210 = .ok (.goto (-203), 3) := by decide +kernel
theorem dX10_loans_213 : decode cX10_loans 213 = .ok (.return_, 1) := by decide +kernel
theorem dX10_lent_0 : decode cX10_lent 0 = .ok (.iload_n 1, 1) := by decide +kernel
theorem dX10_lent_1 : decode cX10_lent 1 = .ok (.i2l, 1) := by decide +kernel
theorem dX10_lent_2 : decode cX10_lent 2 = .ok (.ldc2_w 168, 3) := by decide +kernel
theorem dX10_lent_5 : decode cX10_lent 5 = .ok (.aload_n 0, 1) := by decide +kernel
theorem dX10_lent_6 : decode cX10_lent 6 = .ok (.getfield 111, 3) := by decide +kernel
theorem dX10_lent_9 : decode cX10_lent 9 = .ok (.iconst 1, 1) := by decide +kernel
theorem dX10_lent_10 : decode cX10_lent 10 = .ok (.isub, 1) := by decide +kernel
theorem dX10_lent_11 : decode cX10_lent 11 = .ok (.i2l, 1) := by decide +kernel
theorem dX10_lent_12 : decode cX10_lent 12 = .ok (.invokestatic 74, 3) := by decide +kernel
theorem dX10_lent_15 : decode cX10_lent 15 = .ok (.ifCond .ne 5, 3) := by decide +kernel
theorem dX10_lent_18 : decode cX10_lent 18 = .ok (.iconst (-1), 1) := by decide +kernel
theorem dX10_lent_19 : decode cX10_lent 19 = .ok (.ireturn, 1) := by decide +kernel
theorem dX10_lent_20 : decode cX10_lent 20 = .ok (.aload_n 0, 1) := by decide +kernel
theorem dX10_lent_21 : decode cX10_lent 21 = .ok (.getfield 111, 3) := by decide +kernel
theorem dX10_lent_24 : decode cX10_lent 24 = .ok (.ifCond .ne 5, 3) := by decide +kernel
theorem dX10_lent_27 : decode cX10_lent 27 = .ok (.iconst 0, 1) := by decide +kernel
theorem dX10_lent_28 : decode cX10_lent 28 = .ok (.ireturn, 1) := by decide +kernel
theorem dX10_lent_29 : decode cX10_lent 29 = .ok (.aload_n 0, 1) := by decide +kernel
theorem dX10_lent_30 : decode cX10_lent 30 = .ok (.invokevirtual 196, 3) := by decide +kernel
theorem dX10_lent_33 : decode cX10_lent 33 = .ok (.sipush 1000, 3) := by decide +kernel
theorem dX10_lent_36 : decode cX10_lent 36 = .ok (.istore_n 2, 1) := by decide +kernel
theorem dX10_lent_37 : decode cX10_lent 37 = .ok (.iconst 0, 1) := by decide +kernel
theorem dX10_lent_38 : decode cX10_lent 38 = .ok (.istore_n 3, 1) := by decide +kernel
theorem dX10_lent_39 : decode cX10_lent 39 = .ok (.iload_n 3, 1) := by decide +kernel
theorem dX10_lent_40 : decode cX10_lent 40 = .ok (.bipush 16, 2) := by decide +kernel
theorem dX10_lent_42 : decode cX10_lent 42 = .ok (.if_icmp .ge 30, 3) := by decide +kernel
theorem dX10_lent_45 : decode cX10_lent 45 = .ok (.aload_n 0, 1) := by decide +kernel
theorem dX10_lent_46 : decode cX10_lent 46 = .ok (.getfield 60, 3) := by decide +kernel
theorem dX10_lent_49 : decode cX10_lent 49 = .ok (.iload_n 3, 1) := by decide +kernel
theorem dX10_lent_50 : decode cX10_lent 50 = .ok (.iaload, 1) := by decide +kernel
theorem dX10_lent_51 : decode cX10_lent 51 = .ok (.iload_n 2, 1) := by decide +kernel
theorem dX10_lent_52 : decode cX10_lent 52 = .ok (.if_icmp .ge 12, 3) := by decide +kernel
theorem dX10_lent_55 : decode cX10_lent 55 = .ok (.aload_n 0, 1) := by decide +kernel
theorem dX10_lent_56 : decode cX10_lent 56 = .ok (.getfield 60, 3) := by decide +kernel
theorem dX10_lent_59 : decode cX10_lent 59 = .ok (.iload_n 3, 1) := by decide +kernel
theorem dX10_lent_60 : decode cX10_lent 60 = .ok (.iaload, 1) := by decide +kernel
theorem dX10_lent_61 : decode cX10_lent 61 = .ok (.goto 4, 3) := by decide +kernel
theorem dX10_lent_64 : decode cX10_lent 64 = .ok (.iload_n 2, 1) := by decide +kernel
theorem dX10_lent_65 : decode cX10_lent 65 = .ok (.istore_n 2, 1) := by decide +kernel
theorem dX10_lent_66 : decode cX10_lent 66 = .ok (.iinc 3 1, 3) := by decide +kernel
theorem dX10_lent_69 : decode cX10_lent 69 = .ok (.goto (-30), 3) := by decide +kernel
theorem dX10_lent_72 : decode cX10_lent 72 = .ok (.iload_n 2, 1) := by decide +kernel
theorem dX10_lent_73 : decode cX10_lent 73 = .ok (.sipush 1000, 3) := by decide +kernel
theorem dX10_lent_76 : decode cX10_lent 76 = .ok (.if_icmp .ge 7, 3) := by decide +kernel
theorem dX10_lent_79 : decode cX10_lent 79 = .ok (.iload_n 1, 1) := by decide +kernel
theorem dX10_lent_80 : decode cX10_lent 80 = .ok (.ifCond .ge 17, 3) := by decide +kernel
theorem dX10_lent_83 : decode cX10_lent 83 = .ok (.iload_n 2, 1) := by decide +kernel
theorem dX10_lent_84 : decode cX10_lent 84 = .ok (.sipush 1000, 3) := by decide +kernel
theorem dX10_lent_87 : decode cX10_lent 87 = .ok (.if_icmp .lt 8, 3) := by decide +kernel
theorem dX10_lent_90 : decode cX10_lent 90 = .ok (.bipush (-4), 2) := by decide +kernel
theorem dX10_lent_92 : decode cX10_lent 92 = .ok (.goto 4, 3) := by decide +kernel
theorem dX10_lent_95 : decode cX10_lent 95 = .ok (.iload_n 2, 1) := by decide +kernel
theorem dX10_lent_96 : decode cX10_lent 96 = .ok (.ireturn, 1) := by decide +kernel
theorem dX10_lent_97 : decode cX10_lent 97 = .ok (.iconst (-1), 1) := by decide +kernel
theorem dX10_lent_98 : decode cX10_lent 98 = .ok (.istore_n 3, 1) := by decide +kernel
theorem dX10_lent_99 : decode cX10_lent 99 = .ok (.iconst 0, 1) := by decide +kernel
theorem dX10_lent_100 : decode cX10_lent 100 = .ok (.istore 4, 2) := by decide +kernel
theorem dX10_lent_102 : decode cX10_lent 102 = .ok (.iload 4, 2) := by decide +kernel
theorem dX10_lent_104 : decode cX10_lent 104 = .ok (.iload_n 1, 1) := by decide +kernel
theorem dX10_lent_105 : decode cX10_lent 105 = .ok (.if_icmp .gt 132, 3) := by decide +kernel
theorem dX10_lent_108 : decode cX10_lent 108 = .ok (.iconst (-1), 1) := by decide +kernel
theorem dX10_lent_109 : decode cX10_lent 109 = .ok (.istore 5, 2) := by decide +kernel
theorem dX10_lent_111 : decode cX10_lent 111 = .ok (.iconst 0, 1) := by decide +kernel
theorem dX10_lent_112 : decode cX10_lent 112 = .ok (.istore 6, 2) := by decide +kernel
theorem dX10_lent_114 : decode cX10_lent 114 = .ok (.iload 6, 2) := by decide +kernel
theorem dX10_lent_116 : decode cX10_lent 116 = .ok (.bipush 16, 2) := by decide +kernel
theorem dX10_lent_118 : decode cX10_lent 118 = .ok (.if_icmp .ge 94, 3) := by decide +kernel
theorem dX10_lent_121 : decode cX10_lent 121 = .ok (.aload_n 0, 1) := by decide +kernel
theorem dX10_lent_122 : decode cX10_lent 122 = .ok (.getfield 63, 3) := by decide +kernel
theorem dX10_lent_125 : decode cX10_lent 125 = .ok (.bipush 16, 2) := by decide +kernel
theorem dX10_lent_127 : decode cX10_lent 127 = .ok (.iload 4, 2) := by decide +kernel
theorem dX10_lent_129 : decode cX10_lent 129 = .ok (.imul, 1) := by decide +kernel
theorem dX10_lent_130 : decode cX10_lent 130 = .ok (.iload 6, 2) := by decide +kernel
theorem dX10_lent_132 : decode cX10_lent 132 = .ok (.iadd, 1) := by decide +kernel
theorem dX10_lent_133 : decode cX10_lent 133 = .ok (.iaload, 1) := by decide +kernel
theorem dX10_lent_134 : decode cX10_lent 134 = .ok (.istore 7, 2) := by decide +kernel
theorem dX10_lent_136 : decode cX10_lent 136 = .ok (.iload 7, 2) := by decide +kernel
theorem dX10_lent_138 : decode cX10_lent 138 = .ok (.ifCond .lt 39, 3) := by decide +kernel
theorem dX10_lent_141 : decode cX10_lent 141 = .ok (.aload_n 0, 1) := by decide +kernel
theorem dX10_lent_142 : decode cX10_lent 142 = .ok (.getfield 60, 3) := by decide +kernel
theorem dX10_lent_145 : decode cX10_lent 145 = .ok (.bipush 16, 2) := by decide +kernel
theorem dX10_lent_147 : decode cX10_lent 147 = .ok (.iload 4, 2) := by decide +kernel
theorem dX10_lent_149 : decode cX10_lent 149 = .ok (.imul, 1) := by decide +kernel
theorem dX10_lent_150 : decode cX10_lent 150 = .ok (.iload 6, 2) := by decide +kernel
theorem dX10_lent_152 : decode cX10_lent 152 = .ok (.iadd, 1) := by decide +kernel
theorem dX10_lent_153 : decode cX10_lent 153 = .ok (.iaload, 1) := by decide +kernel
theorem dX10_lent_154 : decode cX10_lent 154 = .ok (.iload_n 2, 1) := by decide +kernel
theorem dX10_lent_155 : decode cX10_lent 155 = .ok (.if_icmp .ne 22, 3) := by decide +kernel
theorem dX10_lent_158 : decode cX10_lent 158 = .ok (.iload 4, 2) := by decide +kernel
theorem dX10_lent_160 : decode cX10_lent 160 = .ok (.ifCond .eq 13, 3) := by decide +kernel
theorem dX10_lent_163 : decode cX10_lent 163 = .ok (.aload_n 0, 1) := by decide +kernel
theorem dX10_lent_164 : decode cX10_lent 164 = .ok (.iload_n 3, 1) := by decide +kernel
theorem dX10_lent_165 : decode cX10_lent 165 = .ok (.iload 7, 2) := by decide +kernel
theorem dX10_lent_167 : decode cX10_lent 167 = .ok (.invokevirtual 189, 3) := by decide +kernel
theorem dX10_lent_170 : decode cX10_lent 170 = .ok (.ifCond .eq 7, 3) := by decide +kernel
theorem dX10_lent_173 : decode cX10_lent 173 = .ok (.iconst 1, 1) := by decide +kernel
theorem dX10_lent_174 : decode cX10_lent 174 = .ok (.goto 4, 3) := by decide +kernel
theorem dX10_lent_177 : decode cX10_lent 177 = .ok (.iconst 0, 1) := by decide +kernel
theorem dX10_lent_178 : decode cX10_lent 178 = .ok (.istore 8, 2) := by decide +kernel
theorem dX10_lent_180 : decode cX10_lent 180 = .ok (.iload 8, 2) := by decide +kernel
theorem dX10_lent_182 : decode cX10_lent 182 = .ok (.ifCond .eq 20, 3) := by decide +kernel
theorem dX10_lent_185 : decode cX10_lent 185 = .ok (.iload 5, 2) := by decide +kernel
theorem dX10_lent_187 : decode cX10_lent 187 = .ok (.ifCond .lt 10, 3) := by decide +kernel
theorem dX10_lent_190 : decode cX10_lent 190 = .ok (.iload 7, 2) := by decide +kernel
theorem dX10_lent_192 : decode cX10_lent 192 = .ok (.iload 5, 2) := by decide +kernel
theorem dX10_lent_194 : decode cX10_lent 194 = .ok (.if_icmp .ge 8, 3) := by decide +kernel
theorem dX10_lent_197 : decode cX10_lent 197 = .ok (.iload 7, 2) := by decide +kernel
theorem dX10_lent_199 : decode cX10_lent 199 = .ok (.goto 5, 3) := by decide +kernel
theorem dX10_lent_202 : decode cX10_lent 202 = .ok (.iload 5, 2) := by decide +kernel
theorem dX10_lent_204 : decode cX10_lent 204 = .ok (.istore 5, 2) := by decide +kernel
theorem dX10_lent_206 : decode cX10_lent 206 = .ok (.iinc 6 1, 3) := by decide +kernel
theorem dX10_lent_209 : decode cX10_lent 209 = .ok (.goto (-95), 3) := by decide +kernel
theorem dX10_lent_212 : decode cX10_lent 212 = .ok (.iload 5, 2) := by decide +kernel
theorem dX10_lent_214 : decode cX10_lent 214 = .ok (.istore_n 3, 1) := by decide +kernel
theorem dX10_lent_215 : decode cX10_lent 215 = .ok (.iload_n 2, 1) := by decide +kernel
theorem dX10_lent_216 : decode cX10_lent 216 = .ok (.aload_n 0, 1) := by decide +kernel
theorem dX10_lent_217 : decode cX10_lent 217 = .ok (.aload_n 0, 1) := by decide +kernel
theorem dX10_lent_218 : decode cX10_lent 218 = .ok (.getfield 38, 3) := by decide +kernel
theorem dX10_lent_221 : decode cX10_lent 221 = .ok (.iload 4, 2) := by decide +kernel
theorem dX10_lent_223 : decode cX10_lent 223 = .ok (.iaload, 1) := by decide +kernel
theorem dX10_lent_224 : decode cX10_lent 224 = .ok (.iload 5, 2) := by decide +kernel
theorem dX10_lent_226 : decode cX10_lent 226 = .ok (.invokevirtual 193, 3) := by decide +kernel
theorem dX10_lent_229 : decode cX10_lent 229 = .ok (.isub, 1) := by decide +kernel
theorem dX10_lent_230 : decode cX10_lent 230 = .ok (.istore_n 2, 1) := by decide +kernel
theorem dX10_lent_231 : decode cX10_lent 231 = .ok (.iinc 4 1, 3) := by decide +kernel
theorem dX10_lent_234 : decode cX10_lent 234 = .ok (.goto (-132), 3) := by decide +kernel
theorem dX10_lent_237 : decode cX10_lent 237 = .ok (.iload_n 3, 1) := by decide +kernel
theorem dX10_lent_238 : decode cX10_lent 238 = .ok (.ireturn, 1) := by decide +kernel
theorem dX10_mustSee_0 : decode cX10_mustSee 0 = .ok (.aload_n 0, 1) := by decide +kernel
theorem dX10_mustSee_1 : decode cX10_mustSee 1 = .ok (.getfield 13, 3) := by decide +kernel
theorem dX10_mustSee_4 : decode cX10_mustSee 4 = .ok (.iconst 0, 1) := by decide +kernel
theorem dX10_mustSee_5 : decode cX10_mustSee 5 = .ok (.iaload, 1) := by decide +kernel
theorem dX10_mustSee_6 : decode cX10_mustSee 6 = .ok (.iconst 2, 1) := by decide +kernel
theorem dX10_mustSee_7 : decode cX10_mustSee 7 = .ok (.if_icmp .ne 7, 3) := by decide +kernel
theorem dX10_mustSee_10 : decode cX10_mustSee 10 = .ok (.iconst 0, 1) := by decide +kernel
theorem dX10_mustSee_11 : decode cX10_mustSee 11 = .ok (.goto 9, 3) := by decide +kernel
theorem dX10_mustSee_14 : decode cX10_mustSee 14 = .ok (.aload_n 0, 1) := by decide +kernel
theorem dX10_mustSee_15 : decode cX10_mustSee 15 = .ok (.getfield 13, 3) := by decide +kernel
theorem dX10_mustSee_18 : decode cX10_mustSee 18 = .ok (.iconst 0, 1) := by decide +kernel
theorem dX10_mustSee_19 : decode cX10_mustSee 19 = .ok (.iaload, 1) := by decide +kernel
theorem dX10_mustSee_20 : decode cX10_mustSee 20 = .ok (.istore_n 1, 1) := by decide +kernel
theorem dX10_mustSee_21 : decode cX10_mustSee 21 = .ok (.iconst 1, 1) := by decide +kernel
theorem dX10_mustSee_22 : decode cX10_mustSee 22 = .ok (.aload_n 0, 1) := by decide +kernel
theorem dX10_mustSee_23 : decode cX10_mustSee 23 = .ok (.getfield 17, 3) := by decide +kernel
theorem dX10_mustSee_26 : decode cX10_mustSee 26 = .ok (.iconst 0, 1) := by decide +kernel
theorem dX10_mustSee_27 : decode cX10_mustSee 27 = .ok (.iaload, 1) := by decide +kernel
theorem dX10_mustSee_28 : decode cX10_mustSee 28 = .ok (.ishl, 1) := by decide +kernel
theorem dX10_mustSee_29 : decode cX10_mustSee 29 = .ok (.iconst 1, 1) := by decide +kernel
theorem dX10_mustSee_30 : decode cX10_mustSee 30 = .ok (.isub, 1) := by decide +kernel
theorem dX10_mustSee_31 : decode cX10_mustSee 31 = .ok (.istore_n 2, 1) := by decide +kernel
theorem dX10_mustSee_32 : decode cX10_mustSee 32 = .ok (.iconst 0, 1) := by decide +kernel
theorem dX10_mustSee_33 : decode cX10_mustSee 33 = .ok (.istore_n 3, 1) := by decide +kernel
theorem dX10_mustSee_34 : decode cX10_mustSee 34 = .ok (.iload_n 3, 1) := by decide +kernel
theorem dX10_mustSee_35 : decode cX10_mustSee 35 = .ok (.iconst 1, 1) := by decide +kernel
theorem dX10_mustSee_36 : decode cX10_mustSee 36 = .ok (.aload_n 0, 1) := by decide +kernel
theorem dX10_mustSee_37 : decode cX10_mustSee 37 = .ok (.getfield 17, 3) := by decide +kernel
theorem dX10_mustSee_40 : decode cX10_mustSee 40 = .ok (.iconst 0, 1) := by decide +kernel
theorem dX10_mustSee_41 : decode cX10_mustSee 41 = .ok (.iaload, 1) := by decide +kernel
theorem dX10_mustSee_42 : decode cX10_mustSee 42 = .ok (.ishl, 1) := by decide +kernel
theorem dX10_mustSee_43 : decode cX10_mustSee 43 = .ok (.if_icmp .ge 117, 3) := by decide +kernel
theorem dX10_mustSee_46 : decode cX10_mustSee 46 = .ok (.iload_n 3, 1) := by decide +kernel
theorem dX10_mustSee_47 : decode cX10_mustSee 47 = .ok (.invokestatic 143, 3) := by decide +kernel
theorem dX10_mustSee_50 : decode cX10_mustSee 50 = .ok (.iload_n 2, 1) := by decide +kernel
theorem dX10_mustSee_51 : decode cX10_mustSee 51 = .ok (.invokestatic 143, 3) := by decide +kernel
theorem dX10_mustSee_54 : decode cX10_mustSee 54 = .ok (.if_icmp .ge 7, 3) := by decide +kernel
theorem dX10_mustSee_57 : decode cX10_mustSee 57 = .ok (.iconst 1, 1) := by decide +kernel
theorem dX10_mustSee_58 : decode cX10_mustSee 58 = .ok (.goto 4, 3) := by decide +kernel
theorem dX10_mustSee_61 : decode cX10_mustSee 61 = .ok (.iconst 0, 1) := by decide +kernel
theorem dX10_mustSee_62 : decode cX10_mustSee 62 = .ok (.istore 4, 2) := by decide +kernel
theorem dX10_mustSee_64 : decode cX10_mustSee 64 = .ok (.iconst 0, 1) := by decide +kernel
theorem dX10_mustSee_65 : decode cX10_mustSee 65 = .ok (.istore 5, 2) := by decide +kernel
theorem dX10_mustSee_67 : decode cX10_mustSee 67 = .ok (.iload 5, 2) := by decide +kernel
theorem dX10_mustSee_69 : decode cX10_mustSee 69 = .ok (.aload_n 0, 1) := by decide +kernel
theorem dX10_mustSee_70 : decode cX10_mustSee 70 = .ok (.getfield 26, 3) := by decide +kernel
theorem dX10_mustSee_73 : decode cX10_mustSee 73 = .ok (.iconst 0, 1) := by decide +kernel
theorem dX10_mustSee_74 : decode cX10_mustSee 74 = .ok (.iaload, 1) := by decide +kernel
theorem dX10_mustSee_75 : decode cX10_mustSee 75 = .ok (.if_icmp .ge 68, 3) := by decide +kernel
theorem dX10_mustSee_78 : decode cX10_mustSee 78 = .ok (.iconst 0, 1) := by decide +kernel
theorem dX10_mustSee_79 : decode cX10_mustSee 79 = .ok (.istore 6, 2) := by decide +kernel
theorem dX10_mustSee_81 : decode cX10_mustSee 81 = .ok (.iload 6, 2) := by decide +kernel
theorem dX10_mustSee_83 : decode cX10_mustSee 83 = .ok (.iload 5, 2) := by decide +kernel
theorem dX10_mustSee_85 : decode cX10_mustSee 85 = .ok (.if_icmp .ge 52, 3) := by decide +kernel
theorem dX10_mustSee_88 : decode cX10_mustSee 88 = .ok (.iload 4, 2) := by decide +kernel
theorem dX10_mustSee_90 : decode cX10_mustSee 90 = .ok (.ifCond .eq 47, 3) := by decide +kernel
theorem dX10_mustSee_93 : decode cX10_mustSee 93 = .ok (.iload_n 1, 1) := by decide +kernel
theorem dX10_mustSee_94 : decode cX10_mustSee 94 = .ok (.aload_n 0, 1) := by decide +kernel
theorem dX10_mustSee_95 : decode cX10_mustSee 95 = .ok (.iload 5, 2) := by decide +kernel
theorem dX10_mustSee_97 : decode cX10_mustSee 97 = .ok (.iload 6, 2) := by decide +kernel
theorem dX10_mustSee_99 : decode cX10_mustSee 99 = .ok (.invokevirtual 136, 3) := by decide +kernel
theorem dX10_mustSee_102 : decode cX10_mustSee 102 = .ok (.iload_n 3, 1) := by decide +kernel
theorem dX10_mustSee_103 : decode cX10_mustSee 103 = .ok (.iand, 1) := by decide +kernel
theorem dX10_mustSee_104 : decode cX10_mustSee 104 = .ok (.iconst 0, 1) := by decide +kernel
theorem dX10_mustSee_105 : decode cX10_mustSee 105 = .ok (.invokestatic 146, 3) := by decide +kernel
theorem dX10_mustSee_108 : decode cX10_mustSee 108 = .ok (.iload_n 1, 1) := by decide +kernel
theorem dX10_mustSee_109 : decode cX10_mustSee 109 = .ok (.aload_n 0, 1) := by decide +kernel
theorem dX10_mustSee_110 : decode cX10_mustSee 110 = .ok (.iload 5, 2) := by decide +kernel
theorem dX10_mustSee_112 : decode cX10_mustSee 112 = .ok (.iload 6, 2) := by decide +kernel
theorem dX10_mustSee_114 : decode cX10_mustSee 114 = .ok (.invokevirtual 136, 3) := by decide +kernel
theorem dX10_mustSee_117 : decode cX10_mustSee 117 = .ok (.iconst 0, 1) := by decide +kernel
theorem dX10_mustSee_118 : decode cX10_mustSee 118 = .ok (.invokestatic 146, 3) := by decide +kernel
theorem dX10_mustSee_121 : decode cX10_mustSee 121 = .ok (.if_icmp .ne 7, 3) := by decide +kernel
theorem dX10_mustSee_124 : decode cX10_mustSee 124 = .ok (.iconst 1, 1) := by decide +kernel
theorem dX10_mustSee_125 : decode cX10_mustSee 125 = .ok (.goto 4, 3) := by decide +kernel
theorem dX10_mustSee_128 : decode cX10_mustSee 128 = .ok (.iconst 0, 1) := by decide +kernel
theorem dX10_mustSee_129 : decode cX10_mustSee 129 = .ok (.istore 4, 2) := by decide +kernel
theorem dX10_mustSee_131 : decode cX10_mustSee 131 = .ok (.iinc 6 1, 3) := by decide +kernel
theorem dX10_mustSee_134 : decode cX10_mustSee 134 = .ok (.goto (-53), 3) := by decide +kernel
theorem dX10_mustSee_137 : decode cX10_mustSee 137 = .ok (.iinc 5 1, 3) := by decide +kernel
theorem dX10_mustSee_140 : decode cX10_mustSee 140 = .ok (.goto (-73), 3) := by decide +kernel
theorem dX10_mustSee_143 : decode cX10_mustSee 143 = .ok (.iload 4, 2) := by decide +kernel
theorem dX10_mustSee_145 : decode cX10_mustSee 145 = .ok (.ifCond .eq 7, 3) := by decide +kernel
theorem dX10_mustSee_148 : decode cX10_mustSee 148 = .ok (.iload_n 3, 1) := by decide +kernel
theorem dX10_mustSee_149 : decode cX10_mustSee 149 = .ok (.goto 4, 3) := by decide +kernel
theorem dX10_mustSee_152 : decode cX10_mustSee 152 = .ok (.iload_n 2, 1) := by decide +kernel
theorem dX10_mustSee_153 : decode cX10_mustSee 153 = .ok (.istore_n 2, 1) := by decide +kernel
theorem dX10_mustSee_154 : decode cX10_mustSee 154 = .ok (.iinc 3 1, 3) := by decide +kernel
theorem dX10_mustSee_157 : decode cX10_mustSee 157 = .ok (.goto (-123), 3) := by decide +kernel
theorem dX10_mustSee_160 : decode cX10_mustSee 160 = .ok (.iload_n 2, 1) := by decide +kernel
theorem dX10_mustSee_161 : decode cX10_mustSee 161 = .ok (.ireturn, 1) := by decide +kernel
theorem dX10_crowd_0 : decode cX10_crowd 0 = .ok (.iload_n 1, 1) := by decide +kernel
theorem dX10_crowd_1 : decode cX10_crowd 1 = .ok (.i2l, 1) := by decide +kernel
theorem dX10_crowd_2 : decode cX10_crowd 2 = .ok (.lconst 0, 1) := by decide +kernel
theorem dX10_crowd_3 : decode cX10_crowd 3 = .ok (.ldc2_w 199, 3) := by decide +kernel
theorem dX10_crowd_6 : decode cX10_crowd 6 = .ok (.invokestatic 74, 3) := by decide +kernel
theorem dX10_crowd_9 : decode cX10_crowd 9 = .ok (.ifCond .eq 25, 3) := by decide +kernel
theorem dX10_crowd_12 : decode cX10_crowd 12 = .ok (.iload_n 2, 1) := by decide +kernel
theorem dX10_crowd_13 : decode cX10_crowd 13 = .ok (.i2l, 1) := by decide +kernel
theorem dX10_crowd_14 : decode cX10_crowd 14 = .ok (.lconst 1, 1) := by decide +kernel
theorem dX10_crowd_15 : decode cX10_crowd 15 = .ok (.ldc2_w 201, 3) := by decide +kernel
theorem dX10_crowd_18 : decode cX10_crowd 18 = .ok (.invokestatic 74, 3) := by decide +kernel
theorem dX10_crowd_21 : decode cX10_crowd 21 = .ok (.ifCond .eq 13, 3) := by decide +kernel
theorem dX10_crowd_24 : decode cX10_crowd 24 = .ok (.iload_n 3, 1) := by decide +kernel
theorem dX10_crowd_25 : decode cX10_crowd 25 = .ok (.i2l, 1) := by decide +kernel
theorem dX10_crowd_26 : decode cX10_crowd 26 = .ok (.lconst 0, 1) := by decide +kernel
theorem dX10_crowd_27 : decode cX10_crowd 27 = .ok (.lconst 1, 1) := by decide +kernel
theorem dX10_crowd_28 : decode cX10_crowd 28 = .ok (.invokestatic 74, 3) := by decide +kernel
theorem dX10_crowd_31 : decode cX10_crowd 31 = .ok (.ifCond .ne 5, 3) := by decide +kernel
theorem dX10_crowd_34 : decode cX10_crowd 34 = .ok (.iconst (-1), 1) := by decide +kernel
theorem dX10_crowd_35 : decode cX10_crowd 35 = .ok (.ireturn, 1) := by decide +kernel
theorem dX10_crowd_36 : decode cX10_crowd 36 = .ok (.iconst (-1), 1) := by decide +kernel
theorem dX10_crowd_37 : decode cX10_crowd 37 = .ok (.istore 4, 2) := by decide +kernel
theorem dX10_crowd_39 : decode cX10_crowd 39 = .ok (.iconst 0, 1) := by decide +kernel
theorem dX10_crowd_40 : decode cX10_crowd 40 = .ok (.istore 5, 2) := by decide +kernel
theorem dX10_crowd_42 : decode cX10_crowd 42 = .ok (.iconst 0, 1) := by decide +kernel
theorem dX10_crowd_43 : decode cX10_crowd 43 = .ok (.istore 6, 2) := by decide +kernel
theorem dX10_crowd_45 : decode cX10_crowd 45 = .ok (.iconst 0, 1) := by decide +kernel
theorem dX10_crowd_46 : decode cX10_crowd 46 = .ok (.istore 7, 2) := by decide +kernel
theorem dX10_crowd_48 : decode cX10_crowd 48 = .ok (.iload 7, 2) := by decide +kernel
theorem dX10_crowd_50 : decode cX10_crowd 50 = .ok (.iload_n 2, 1) := by decide +kernel
theorem dX10_crowd_51 : decode cX10_crowd 51 = .ok (.if_icmp .ge 103, 3) := by decide +kernel
theorem dX10_crowd_54 : decode cX10_crowd 54 = .ok (.ldc2_w 203, 3) := by decide +kernel
theorem dX10_crowd_57 : decode cX10_crowd 57 = .ok (.iload_n 1, 1) := by decide +kernel
theorem dX10_crowd_58 : decode cX10_crowd 58 = .ok (.i2l, 1) := by decide +kernel
theorem dX10_crowd_59 : decode cX10_crowd 59 = .ok (.lmul, 1) := by decide +kernel
theorem dX10_crowd_60 : decode cX10_crowd 60 = .ok (.ldc2_w 205, 3) := by decide +kernel
theorem dX10_crowd_63 : decode cX10_crowd 63 = .ok (.iload 7, 2) := by decide +kernel
theorem dX10_crowd_65 : decode cX10_crowd 65 = .ok (.i2l, 1) := by decide +kernel
theorem dX10_crowd_66 : decode cX10_crowd 66 = .ok (.lmul, 1) := by decide +kernel
theorem dX10_crowd_67 : decode cX10_crowd 67 = .ok (.ladd, 1) := by decide +kernel
theorem dX10_crowd_68 : decode cX10_crowd 68 = .ok (.lconst 1, 1) := by decide +kernel
theorem dX10_crowd_69 : decode cX10_crowd 69 = .ok (.ladd, 1) := by decide +kernel
theorem dX10_crowd_70 : decode cX10_crowd 70 = .ok (.lstore 8, 2) := by decide +kernel
theorem dX10_crowd_72 : decode cX10_crowd 72 = .ok (.lload 8, 2) := by decide +kernel
theorem dX10_crowd_74 : decode cX10_crowd 74 = .ok (.lload 8, 2) := by decide +kernel
theorem dX10_crowd_76 : decode cX10_crowd 76 = .ok (.lmul, 1) := by decide +kernel
theorem dX10_crowd_77 : decode cX10_crowd 77 = .ok (.ldc2_w 207, 3) := by decide +kernel
theorem dX10_crowd_80 : decode cX10_crowd 80 = .ok (.lrem, 1) := by decide +kernel
theorem dX10_crowd_81 : decode cX10_crowd 81 = .ok (.aload_n 0, 1) := by decide +kernel
theorem dX10_crowd_82 : decode cX10_crowd 82 = .ok (.getfield 26, 3) := by decide +kernel
theorem dX10_crowd_85 : decode cX10_crowd 85 = .ok (.iconst 0, 1) := by decide +kernel
theorem dX10_crowd_86 : decode cX10_crowd 86 = .ok (.iaload, 1) := by decide +kernel
theorem dX10_crowd_87 : decode cX10_crowd 87 = .ok (.i2l, 1) := by decide +kernel
theorem dX10_crowd_88 : decode cX10_crowd 88 = .ok (.lrem, 1) := by decide +kernel
theorem dX10_crowd_89 : decode cX10_crowd 89 = .ok (.l2i, 1) := by decide +kernel
theorem dX10_crowd_90 : decode cX10_crowd 90 = .ok (.istore 10, 2) := by decide +kernel
theorem dX10_crowd_92 : decode cX10_crowd 92 = .ok (.iload 4, 2) := by decide +kernel
theorem dX10_crowd_94 : decode cX10_crowd 94 = .ok (.ifCond .ge 7, 3) := by decide +kernel
theorem dX10_crowd_97 : decode cX10_crowd 97 = .ok (.iconst 0, 1) := by decide +kernel
theorem dX10_crowd_98 : decode cX10_crowd 98 = .ok (.goto 16, 3) := by decide +kernel
theorem dX10_crowd_101 : decode cX10_crowd 101 = .ok (.aload_n 0, 1) := by decide +kernel
theorem dX10_crowd_102 : decode cX10_crowd 102 = .ok (.iload 10, 2) := by decide +kernel
theorem dX10_crowd_104 : decode cX10_crowd 104 = .ok (.iload 4, 2) := by decide +kernel
theorem dX10_crowd_106 : decode cX10_crowd 106 = .ok (.invokevirtual 136, 3) := by decide +kernel
theorem dX10_crowd_109 : decode cX10_crowd 109 = .ok (.aload_n 0, 1) := by decide +kernel
theorem dX10_crowd_110 : decode cX10_crowd 110 = .ok (.invokevirtual 140, 3) := by decide +kernel
theorem dX10_crowd_113 : decode cX10_crowd 113 = .ok (.iand, 1) := by decide +kernel
theorem dX10_crowd_114 : decode cX10_crowd 114 = .ok (.istore 11, 2) := by decide +kernel
theorem dX10_crowd_116 : decode cX10_crowd 116 = .ok (.iload 4, 2) := by decide +kernel
theorem dX10_crowd_118 : decode cX10_crowd 118 = .ok (.ifCond .lt 19, 3) := by decide +kernel
theorem dX10_crowd_121 : decode cX10_crowd 121 = .ok (.aload_n 0, 1) := by decide +kernel
theorem dX10_crowd_122 : decode cX10_crowd 122 = .ok (.getfield 13, 3) := by decide +kernel
theorem dX10_crowd_125 : decode cX10_crowd 125 = .ok (.iconst 0, 1) := by decide +kernel
theorem dX10_crowd_126 : decode cX10_crowd 126 = .ok (.iaload, 1) := by decide +kernel
theorem dX10_crowd_127 : decode cX10_crowd 127 = .ok (.iload 11, 2) := by decide +kernel
theorem dX10_crowd_129 : decode cX10_crowd 129 = .ok (.iload 5, 2) := by decide +kernel
theorem dX10_crowd_131 : decode cX10_crowd 131 = .ok (.invokestatic 146, 3) := by decide +kernel
theorem dX10_crowd_134 : decode cX10_crowd 134 = .ok (.ifCond .eq 14, 3) := by decide +kernel
theorem dX10_crowd_137 : decode cX10_crowd 137 = .ok (.iload 11, 2) := by decide +kernel
theorem dX10_crowd_139 : decode cX10_crowd 139 = .ok (.istore 5, 2) := by decide +kernel
theorem dX10_crowd_141 : decode cX10_crowd 141 = .ok (.iload 10, 2) := by decide +kernel
theorem dX10_crowd_143 : decode cX10_crowd 143 = .ok (.istore 4, 2) := by decide +kernel
theorem dX10_crowd_145 : decode cX10_crowd 145 = .ok (.iinc 6 1, 3) := by decide +kernel
theorem dX10_crowd_148 : decode cX10_crowd 148 = .ok (.iinc 7 1, 3) := by decide +kernel
theorem dX10_crowd_151 : decode cX10_crowd 151 = .ok (.goto (-103), 3) := by decide +kernel
theorem dX10_crowd_154 : decode cX10_crowd 154 = .ok (.iload_n 3, 1) := by decide +kernel
theorem dX10_crowd_155 : decode cX10_crowd 155 = .ok (.ifCond .ne 8, 3) := by decide +kernel
theorem dX10_crowd_158 : decode cX10_crowd 158 = .ok (.iload 6, 2) := by decide +kernel
theorem dX10_crowd_160 : decode cX10_crowd 160 = .ok (.goto 5, 3) := by decide +kernel
theorem dX10_crowd_163 : decode cX10_crowd 163 = .ok (.iload 4, 2) := by decide +kernel
theorem dX10_crowd_165 : decode cX10_crowd 165 = .ok (.ireturn, 1) := by decide +kernel
theorem dX10_copies_0 : decode cX10_copies 0 = .ok (.iconst 0, 1) := by decide +kernel
theorem dX10_copies_1 : decode cX10_copies 1 = .ok (.istore_n 3, 1) := by decide +kernel
theorem dX10_copies_2 : decode cX10_copies 2 = .ok (.iload_n 3, 1) := by decide +kernel
theorem dX10_copies_3 : decode cX10_copies 3 = .ok (.iconst 3, 1) := by decide +kernel
theorem dX10_copies_4 : decode cX10_copies 4 = .ok (.if_icmp .ge 29, 3) := by decide +kernel
theorem dX10_copies_7 : decode cX10_copies 7 = .ok (.aload_n 0, 1) := by decide +kernel
theorem dX10_copies_8 : decode cX10_copies 8 = .ok (.getfield 32, 3) := by decide +kernel
theorem dX10_copies_11 : decode cX10_copies 11 = .ok (.iconst 3, 1) := by decide +kernel
theorem dX10_copies_12 : decode cX10_copies 12 = .ok (.iload_n 2, 1) := by decide +kernel
theorem dX10_copies_13 : decode cX10_copies 13 = .ok (.imul, 1) := by decide +kernel
theorem dX10_copies_14 : decode cX10_copies 14 = .ok (.iload_n 3, 1) := by decide +kernel
theorem dX10_copies_15 : decode cX10_copies 15 = .ok (.iadd, 1) := by decide +kernel
theorem dX10_copies_16 : decode cX10_copies 16 = .ok (.aload_n 0, 1) := by decide +kernel
theorem dX10_copies_17 : decode cX10_copies 17 = .ok (.getfield 32, 3) := by decide +kernel
theorem dX10_copies_20 : decode cX10_copies 20 = .ok (.iconst 3, 1) := by decide +kernel
theorem dX10_copies_21 : decode cX10_copies 21 = .ok (.iload_n 1, 1) := by decide +kernel
theorem dX10_copies_22 : decode cX10_copies 22 = .ok (.imul, 1) := by decide +kernel
theorem dX10_copies_23 : decode cX10_copies 23 = .ok (.iload_n 3, 1) := by decide +kernel
theorem dX10_copies_24 : decode cX10_copies 24 = .ok (.iadd, 1) := by decide +kernel
theorem dX10_copies_25 : decode cX10_copies 25 = .ok (.iaload, 1) := by decide +kernel
theorem dX10_copies_26 : decode cX10_copies 26 = .ok (.iastore, 1) := by decide +kernel
theorem dX10_copies_27 : decode cX10_copies 27 = .ok (.iinc 3 1, 3) := by decide +kernel
theorem dX10_copies_30 : decode cX10_copies 30 = .ok (.goto (-28), 3) := by decide +kernel
theorem dX10_copies_33 : decode cX10_copies 33 = .ok (.return_, 1) := by decide +kernel
theorem dX10_keep_0 : decode cX10_keep 0 = .ok (.aload_n 0, 1) := by decide +kernel
theorem dX10_keep_1 : decode cX10_keep 1 = .ok (.getfield 117, 3) := by decide +kernel
theorem dX10_keep_4 : decode cX10_keep 4 = .ok (.iconst 2, 1) := by decide +kernel
theorem dX10_keep_5 : decode cX10_keep 5 = .ok (.if_icmp .ne 6, 3) := by decide +kernel
theorem dX10_keep_8 : decode cX10_keep 8 = .ok (.bipush (-3), 2) := by decide +kernel
theorem dX10_keep_10 : decode cX10_keep 10 = .ok (.ireturn, 1) := by decide +kernel
theorem dX10_keep_11 : decode cX10_keep 11 = .ok (.aload_n 0, 1) := by decide +kernel
theorem dX10_keep_12 : decode cX10_keep 12 = .ok (.dup, 1) := by decide +kernel
theorem dX10_keep_13 : decode cX10_keep 13 = .ok (.getfield 117, 3) := by decide +kernel
theorem dX10_keep_16 : decode cX10_keep 16 = .ok (.iconst 1, 1) := by decide +kernel
theorem dX10_keep_17 : decode cX10_keep 17 = .ok (.iadd, 1) := by decide +kernel
theorem dX10_keep_18 : decode cX10_keep 18 = .ok (.putfield 117, 3) := by decide +kernel
theorem dX10_keep_21 : decode cX10_keep 21 = .ok (.aload_n 0, 1) := by decide +kernel
theorem dX10_keep_22 : decode cX10_keep 22 = .ok (.iconst 0, 1) := by decide +kernel
theorem dX10_keep_23 : decode cX10_keep 23 = .ok (.aload_n 0, 1) := by decide +kernel
theorem dX10_keep_24 : decode cX10_keep 24 = .ok (.getfield 117, 3) := by decide +kernel
theorem dX10_keep_27 : decode cX10_keep 27 = .ok (.invokevirtual 209, 3) := by decide +kernel
theorem dX10_keep_30 : decode cX10_keep 30 = .ok (.aload_n 0, 1) := by decide +kernel
theorem dX10_keep_31 : decode cX10_keep 31 = .ok (.getfield 117, 3) := by decide +kernel
theorem dX10_keep_34 : decode cX10_keep 34 = .ok (.ireturn, 1) := by decide +kernel
theorem dX10_back_0 : decode cX10_back 0 = .ok (.aload_n 0, 1) := by decide +kernel
theorem dX10_back_1 : decode cX10_back 1 = .ok (.getfield 117, 3) := by decide +kernel
theorem dX10_back_4 : decode cX10_back 4 = .ok (.ifCond .ne 6, 3) := by decide +kernel
theorem dX10_back_7 : decode cX10_back 7 = .ok (.bipush (-2), 2) := by decide +kernel
theorem dX10_back_9 : decode cX10_back 9 = .ok (.ireturn, 1) := by decide +kernel
theorem dX10_back_10 : decode cX10_back 10 = .ok (.aload_n 0, 1) := by decide +kernel
theorem dX10_back_11 : decode cX10_back 11 = .ok (.aload_n 0, 1) := by decide +kernel
theorem dX10_back_12 : decode cX10_back 12 = .ok (.getfield 117, 3) := by decide +kernel
theorem dX10_back_15 : decode cX10_back 15 = .ok (.iconst 0, 1) := by decide +kernel
theorem dX10_back_16 : decode cX10_back 16 = .ok (.invokevirtual 209, 3) := by decide +kernel
theorem dX10_back_19 : decode cX10_back 19 = .ok (.aload_n 0, 1) := by decide +kernel
theorem dX10_back_20 : decode cX10_back 20 = .ok (.dup, 1) := by decide +kernel
theorem dX10_back_21 : decode cX10_back 21 = .ok (.getfield 117, 3) := by decide +kernel
theorem dX10_back_24 : decode cX10_back 24 = .ok (.iconst 1, 1) := by decide +kernel
theorem dX10_back_25 : decode cX10_back 25 = .ok (.isub, 1) := by decide +kernel
theorem dX10_back_26 : decode cX10_back 26 = .ok (.putfield 117, 3) := by decide +kernel
theorem dX10_back_29 : decode cX10_back 29 = .ok (.aload_n 0, 1) := by decide +kernel
theorem dX10_back_30 : decode cX10_back 30 = .ok (.iconst 0, 1) := by decide +kernel
theorem dX10_back_31 : decode cX10_back 31 = .ok (.putfield 114, 3) := by decide +kernel
theorem dX10_back_34 : decode cX10_back 34 = .ok (.aload_n 0, 1) := by decide +kernel
theorem dX10_back_35 : decode cX10_back 35 = .ok (.getfield 117, 3) := by decide +kernel
theorem dX10_back_38 : decode cX10_back 38 = .ok (.ireturn, 1) := by decide +kernel
theorem dX10_count_0 : decode cX10_count 0 = .ok (.iload_n 1, 1) := by decide +kernel
theorem dX10_count_1 : decode cX10_count 1 = .ok (.tableswitch 107 0 8 #[51, 58, 65, 75, 80, 85, 90, 95, 102], 51) := by decide +kernel
theorem dX10_count_52 : decode cX10_count 52 = .ok (.aload_n 0, 1) := by decide +kernel
theorem dX10_count_53 : decode cX10_count 53 = .ok (.getfield 26, 3) := by decide +kernel
theorem dX10_count_56 : decode cX10_count 56 = .ok (.iconst 0, 1) := by decide +kernel
theorem dX10_count_57 : decode cX10_count 57 = .ok (.iaload, 1) := by decide +kernel
theorem dX10_count_58 : decode cX10_count 58 = .ok (.ireturn, 1) := by decide +kernel
theorem dX10_count_59 : decode cX10_count 59 = .ok (.aload_n 0, 1) := by decide +kernel
theorem dX10_count_60 : decode cX10_count 60 = .ok (.getfield 17, 3) := by decide +kernel
theorem dX10_count_63 : decode cX10_count 63 = .ok (.iconst 0, 1) := by decide +kernel
theorem dX10_count_64 : decode cX10_count 64 = .ok (.iaload, 1) := by decide +kernel
theorem dX10_count_65 : decode cX10_count 65 = .ok (.ireturn, 1) := by decide +kernel
theorem dX10_count_66 : decode cX10_count 66 = .ok (.aload_n 0, 1) := by decide +kernel
theorem dX10_count_67 : decode cX10_count 67 = .ok (.getfield 32, 3) := by decide +kernel
theorem dX10_count_70 : decode cX10_count 70 = .ok (.iconst 0, 1) := by decide +kernel
theorem dX10_count_71 : decode cX10_count 71 = .ok (.iaload, 1) := by decide +kernel
theorem dX10_count_72 : decode cX10_count 72 = .ok (.invokestatic 143, 3) := by decide +kernel
theorem dX10_count_75 : decode cX10_count 75 = .ok (.ireturn, 1) := by decide +kernel
theorem dX10_count_76 : decode cX10_count 76 = .ok (.aload_n 0, 1) := by decide +kernel
theorem dX10_count_77 : decode cX10_count 77 = .ok (.getfield 111, 3) := by decide +kernel
theorem dX10_count_80 : decode cX10_count 80 = .ok (.ireturn, 1) := by decide +kernel
theorem dX10_count_81 : decode cX10_count 81 = .ok (.aload_n 0, 1) := by decide +kernel
theorem dX10_count_82 : decode cX10_count 82 = .ok (.getfield 114, 3) := by decide +kernel
theorem dX10_count_85 : decode cX10_count 85 = .ok (.ireturn, 1) := by decide +kernel
theorem dX10_count_86 : decode cX10_count 86 = .ok (.aload_n 0, 1) := by decide +kernel
theorem dX10_count_87 : decode cX10_count 87 = .ok (.getfield 117, 3) := by decide +kernel
theorem dX10_count_90 : decode cX10_count 90 = .ok (.ireturn, 1) := by decide +kernel
theorem dX10_count_91 : decode cX10_count 91 = .ok (.aload_n 0, 1) := by decide +kernel
theorem dX10_count_92 : decode cX10_count 92 = .ok (.getfield 78, 3) := by decide +kernel
theorem dX10_count_95 : decode cX10_count 95 = .ok (.ireturn, 1) := by decide +kernel
theorem dX10_count_96 : decode cX10_count 96 = .ok (.aload_n 0, 1) := by decide +kernel
theorem dX10_count_97 : decode cX10_count 97 = .ok (.getfield 13, 3) := by decide +kernel
theorem dX10_count_100 : decode cX10_count 100 = .ok (.iconst 0, 1) := by decide +kernel
theorem dX10_count_101 : decode cX10_count 101 = .ok (.iaload, 1) := by decide +kernel
theorem dX10_count_102 : decode cX10_count 102 = .ok (.ireturn, 1) := by decide +kernel
theorem dX10_count_103 : decode cX10_count 103 = .ok (.aload_n 0, 1) := by decide +kernel
theorem dX10_count_104 : decode cX10_count 104 = .ok (.invokevirtual 140, 3) := by decide +kernel
theorem dX10_count_107 : decode cX10_count 107 = .ok (.ireturn, 1) := by decide +kernel
theorem dX10_count_108 : decode cX10_count 108 = .ok (.iconst (-1), 1) := by decide +kernel
theorem dX10_count_109 : decode cX10_count 109 = .ok (.ireturn, 1) := by decide +kernel
theorem dJ6_bitCount_0f7a4_0 : decode cJ6_bitCount_0f7a4 0 = .ok (.iload_n 0, 1) := by decide +kernel
theorem dJ6_bitCount_0f7a4_1 : decode cJ6_bitCount_0f7a4 1 = .ok (.iload_n 0, 1) := by decide +kernel
theorem dJ6_bitCount_0f7a4_2 : decode cJ6_bitCount_0f7a4 2 = .ok (.iconst 1, 1) := by decide +kernel
theorem dJ6_bitCount_0f7a4_3 : decode cJ6_bitCount_0f7a4 3 = .ok (.iushr, 1) := by decide +kernel
theorem dJ6_bitCount_0f7a4_4 : decode cJ6_bitCount_0f7a4 4 = .ok (.ldc_w 265, 3) := by decide +kernel
theorem dJ6_bitCount_0f7a4_7 : decode cJ6_bitCount_0f7a4 7 = .ok (.iand, 1) := by decide +kernel
theorem dJ6_bitCount_0f7a4_8 : decode cJ6_bitCount_0f7a4 8 = .ok (.isub, 1) := by decide +kernel
theorem dJ6_bitCount_0f7a4_9 : decode cJ6_bitCount_0f7a4 9 = .ok (.istore_n 0, 1) := by decide +kernel
theorem dJ6_bitCount_0f7a4_10 : decode cJ6_bitCount_0f7a4 10 = .ok (.iload_n 0, 1) := by decide +kernel
theorem dJ6_bitCount_0f7a4_11 : decode cJ6_bitCount_0f7a4 11 = .ok (.ldc_w 266, 3) := by decide +kernel
theorem dJ6_bitCount_0f7a4_14 : decode cJ6_bitCount_0f7a4 14 = .ok (.iand, 1) := by decide +kernel
theorem dJ6_bitCount_0f7a4_15 : decode cJ6_bitCount_0f7a4 15 = .ok (.iload_n 0, 1) := by decide +kernel
theorem dJ6_bitCount_0f7a4_16 : decode cJ6_bitCount_0f7a4 16 = .ok (.iconst 2, 1) := by decide +kernel
theorem dJ6_bitCount_0f7a4_17 : decode cJ6_bitCount_0f7a4 17 = .ok (.iushr, 1) := by decide +kernel
theorem dJ6_bitCount_0f7a4_18 : decode cJ6_bitCount_0f7a4 18 = .ok (.ldc_w 266, 3) := by decide +kernel
theorem dJ6_bitCount_0f7a4_21 : decode cJ6_bitCount_0f7a4 21 = .ok (.iand, 1) := by decide +kernel
theorem dJ6_bitCount_0f7a4_22 : decode cJ6_bitCount_0f7a4 22 = .ok (.iadd, 1) := by decide +kernel
theorem dJ6_bitCount_0f7a4_23 : decode cJ6_bitCount_0f7a4 23 = .ok (.istore_n 0, 1) := by decide +kernel
theorem dJ6_bitCount_0f7a4_24 : decode cJ6_bitCount_0f7a4 24 = .ok (.iload_n 0, 1) := by decide +kernel
theorem dJ6_bitCount_0f7a4_25 : decode cJ6_bitCount_0f7a4 25 = .ok (.iload_n 0, 1) := by decide +kernel
theorem dJ6_bitCount_0f7a4_26 : decode cJ6_bitCount_0f7a4 26 = .ok (.iconst 4, 1) := by decide +kernel
theorem dJ6_bitCount_0f7a4_27 : decode cJ6_bitCount_0f7a4 27 = .ok (.iushr, 1) := by decide +kernel
theorem dJ6_bitCount_0f7a4_28 : decode cJ6_bitCount_0f7a4 28 = .ok (.iadd, 1) := by decide +kernel
theorem dJ6_bitCount_0f7a4_29 : decode cJ6_bitCount_0f7a4 29 = .ok (.ldc_w 267, 3) := by decide +kernel
theorem dJ6_bitCount_0f7a4_32 : decode cJ6_bitCount_0f7a4 32 = .ok (.iand, 1) := by decide +kernel
theorem dJ6_bitCount_0f7a4_33 : decode cJ6_bitCount_0f7a4 33 = .ok (.istore_n 0, 1) := by decide +kernel
theorem dJ6_bitCount_0f7a4_34 : decode cJ6_bitCount_0f7a4 34 = .ok (.iload_n 0, 1) := by decide +kernel
theorem dJ6_bitCount_0f7a4_35 : decode cJ6_bitCount_0f7a4 35 = .ok (.iload_n 0, 1) := by decide +kernel
theorem dJ6_bitCount_0f7a4_36 : decode cJ6_bitCount_0f7a4 36 = .ok (.bipush 8, 2) := by decide +kernel
theorem dJ6_bitCount_0f7a4_38 : decode cJ6_bitCount_0f7a4 38 = .ok (.iushr, 1) := by decide +kernel
theorem dJ6_bitCount_0f7a4_39 : decode cJ6_bitCount_0f7a4 39 = .ok (.iadd, 1) := by decide +kernel
theorem dJ6_bitCount_0f7a4_40 : decode cJ6_bitCount_0f7a4 40 = .ok (.istore_n 0, 1) := by decide +kernel
theorem dJ6_bitCount_0f7a4_41 : decode cJ6_bitCount_0f7a4 41 = .ok (.iload_n 0, 1) := by decide +kernel
theorem dJ6_bitCount_0f7a4_42 : decode cJ6_bitCount_0f7a4 42 = .ok (.iload_n 0, 1) := by decide +kernel
theorem dJ6_bitCount_0f7a4_43 : decode cJ6_bitCount_0f7a4 43 = .ok (.bipush 16, 2) := by decide +kernel
theorem dJ6_bitCount_0f7a4_45 : decode cJ6_bitCount_0f7a4 45 = .ok (.iushr, 1) := by decide +kernel
theorem dJ6_bitCount_0f7a4_46 : decode cJ6_bitCount_0f7a4 46 = .ok (.iadd, 1) := by decide +kernel
theorem dJ6_bitCount_0f7a4_47 : decode cJ6_bitCount_0f7a4 47 = .ok (.istore_n 0, 1) := by decide +kernel
theorem dJ6_bitCount_0f7a4_48 : decode cJ6_bitCount_0f7a4 48 = .ok (.iload_n 0, 1) := by decide +kernel
theorem dJ6_bitCount_0f7a4_49 : decode cJ6_bitCount_0f7a4 49 = .ok (.bipush 63, 2) := by decide +kernel
theorem dJ6_bitCount_0f7a4_51 : decode cJ6_bitCount_0f7a4 51 = .ok (.iand, 1) := by decide +kernel
theorem dJ6_bitCount_0f7a4_52 : decode cJ6_bitCount_0f7a4 52 = .ok (.ireturn, 1) := by decide +kernel
theorem dJ9_abs_0f7a4_0 : decode cJ9_abs_0f7a4 0 = .ok (.iload_n 0, 1) := by decide +kernel
theorem dJ9_abs_0f7a4_1 : decode cJ9_abs_0f7a4 1 = .ok (.ifCond .ge 8, 3) := by decide +kernel
theorem dJ9_abs_0f7a4_4 : decode cJ9_abs_0f7a4 4 = .ok (.iload_n 0, 1) := by decide +kernel
theorem dJ9_abs_0f7a4_5 : decode cJ9_abs_0f7a4 5 = .ok (.ineg, 1) := by decide +kernel
theorem dJ9_abs_0f7a4_6 : decode cJ9_abs_0f7a4 6 = .ok (.goto 4, 3) := by decide +kernel
theorem dJ9_abs_0f7a4_9 : decode cJ9_abs_0f7a4 9 = .ok (.iload_n 0, 1) := by decide +kernel
theorem dJ9_abs_0f7a4_10 : decode cJ9_abs_0f7a4 10 = .ok (.ireturn, 1) := by decide +kernel
theorem dJ9_max_7cf53_0 : decode cJ9_max_7cf53 0 = .ok (.iload_n 0, 1) := by decide +kernel
theorem dJ9_max_7cf53_1 : decode cJ9_max_7cf53 1 = .ok (.iload_n 1, 1) := by decide +kernel
theorem dJ9_max_7cf53_2 : decode cJ9_max_7cf53 2 = .ok (.if_icmp .lt 7, 3) := by decide +kernel
theorem dJ9_max_7cf53_5 : decode cJ9_max_7cf53 5 = .ok (.iload_n 0, 1) := by decide +kernel
theorem dJ9_max_7cf53_6 : decode cJ9_max_7cf53 6 = .ok (.goto 4, 3) := by decide +kernel
theorem dJ9_max_7cf53_9 : decode cJ9_max_7cf53 9 = .ok (.iload_n 1, 1) := by decide +kernel
theorem dJ9_max_7cf53_10 : decode cJ9_max_7cf53 10 = .ok (.ireturn, 1) := by decide +kernel
theorem dJ9_min_7cf53_0 : decode cJ9_min_7cf53 0 = .ok (.iload_n 0, 1) := by decide +kernel
theorem dJ9_min_7cf53_1 : decode cJ9_min_7cf53 1 = .ok (.iload_n 1, 1) := by decide +kernel
theorem dJ9_min_7cf53_2 : decode cJ9_min_7cf53 2 = .ok (.if_icmp .gt 7, 3) := by decide +kernel
theorem dJ9_min_7cf53_5 : decode cJ9_min_7cf53 5 = .ok (.iload_n 0, 1) := by decide +kernel
theorem dJ9_min_7cf53_6 : decode cJ9_min_7cf53 6 = .ok (.goto 4, 3) := by decide +kernel
theorem dJ9_min_7cf53_9 : decode cJ9_min_7cf53 9 = .ok (.iload_n 1, 1) := by decide +kernel
theorem dJ9_min_7cf53_10 : decode cJ9_min_7cf53 10 = .ok (.ireturn, 1) := by decide +kernel
theorem dJ0_length_8abf5_0 : decode cJ0_length_8abf5 0 = .ok (.aload_n 0, 1) := by decide +kernel
theorem dJ0_length_8abf5_1 : decode cJ0_length_8abf5 1 = .ok (.getfield 9, 3) := by decide +kernel
theorem dJ0_length_8abf5_4 : decode cJ0_length_8abf5 4 = .ok (.arraylength, 1) := by decide +kernel
theorem dJ0_length_8abf5_5 : decode cJ0_length_8abf5 5 = .ok (.aload_n 0, 1) := by decide +kernel
theorem dJ0_length_8abf5_6 : decode cJ0_length_8abf5 6 = .ok (.invokevirtual 335, 3) := by decide +kernel
theorem dJ0_length_8abf5_9 : decode cJ0_length_8abf5 9 = .ok (.ishr, 1) := by decide +kernel
theorem dJ0_length_8abf5_10 : decode cJ0_length_8abf5 10 = .ok (.ireturn, 1) := by decide +kernel
theorem dJ0_charAt_5068e_0 : decode cJ0_charAt_5068e 0 = .ok (.aload_n 0, 1) := by decide +kernel
theorem dJ0_charAt_5068e_1 : decode cJ0_charAt_5068e 1 = .ok (.invokevirtual 492, 3) := by decide +kernel
theorem dJ0_charAt_5068e_4 : decode cJ0_charAt_5068e 4 = .ok (.ifCond .eq 12, 3) := by decide +kernel
theorem dJ0_charAt_5068e_7 : decode cJ0_charAt_5068e 7 = .ok (.aload_n 0, 1) := by decide +kernel
theorem dJ0_charAt_5068e_8 : decode cJ0_charAt_5068e 8 = .ok (.getfield 9, 3) := by decide +kernel
theorem dJ0_charAt_5068e_11 : decode cJ0_charAt_5068e 11 = .ok (.iload_n 1, 1) := by decide +kernel
theorem dJ0_charAt_5068e_12 : decode cJ0_charAt_5068e 12 = .ok (.invokestatic 495, 3) := by decide +kernel
theorem dJ0_charAt_5068e_15 : decode cJ0_charAt_5068e 15 = .ok (.ireturn, 1) := by decide +kernel
theorem dJ0_charAt_5068e_16 : decode cJ0_charAt_5068e 16 = .ok (.aload_n 0, 1) := by decide +kernel
theorem dJ0_charAt_5068e_17 : decode cJ0_charAt_5068e 17 = .ok (.getfield 9, 3) := by decide +kernel
theorem dJ0_charAt_5068e_20 : decode cJ0_charAt_5068e 20 = .ok (.iload_n 1, 1) := by decide +kernel
theorem dJ0_charAt_5068e_21 : decode cJ0_charAt_5068e 21 = .ok (.invokestatic 498, 3) := by decide +kernel
theorem dJ0_charAt_5068e_24 : decode cJ0_charAt_5068e 24 = .ok (.ireturn, 1) := by decide +kernel
theorem dJ0_coder_7d493_0 : decode cJ0_coder_7d493 0 = .ok (.getstatic 38, 3) := by decide +kernel
theorem dJ0_coder_7d493_3 : decode cJ0_coder_7d493 3 = .ok (.ifCond .eq 10, 3) := by decide +kernel
theorem dJ0_coder_7d493_6 : decode cJ0_coder_7d493 6 = .ok (.aload_n 0, 1) := by decide +kernel
theorem dJ0_coder_7d493_7 : decode cJ0_coder_7d493 7 = .ok (.getfield 15, 3) := by decide +kernel
theorem dJ0_coder_7d493_10 : decode cJ0_coder_7d493 10 = .ok (.goto 4, 3) := by decide +kernel
theorem dJ0_coder_7d493_13 : decode cJ0_coder_7d493 13 = .ok (.iconst 1, 1) := by decide +kernel
theorem dJ0_coder_7d493_14 : decode cJ0_coder_7d493 14 = .ok (.ireturn, 1) := by decide +kernel
theorem dJ0_isLatin1_aae02_0 : decode cJ0_isLatin1_aae02 0 = .ok (.getstatic 38, 3) := by decide +kernel
theorem dJ0_isLatin1_aae02_3 : decode cJ0_isLatin1_aae02 3 = .ok (.ifCond .eq 14, 3) := by decide +kernel
theorem dJ0_isLatin1_aae02_6 : decode cJ0_isLatin1_aae02 6 = .ok (.aload_n 0, 1) := by decide +kernel
theorem dJ0_isLatin1_aae02_7 : decode cJ0_isLatin1_aae02 7 = .ok (.getfield 15, 3) := by decide +kernel
theorem dJ0_isLatin1_aae02_10 : decode cJ0_isLatin1_aae02 10 = .ok (.ifCond .ne 7, 3) := by decide +kernel
theorem dJ0_isLatin1_aae02_13 : decode cJ0_isLatin1_aae02 13 = .ok (.iconst 1, 1) := by decide +kernel
theorem dJ0_isLatin1_aae02_14 : decode cJ0_isLatin1_aae02 14 = .ok (.goto 4, 3) := by decide +kernel
theorem dJ0_isLatin1_aae02_17 : decode cJ0_isLatin1_aae02 17 = .ok (.iconst 0, 1) := by decide +kernel
theorem dJ0_isLatin1_aae02_18 : decode cJ0_isLatin1_aae02 18 = .ok (.ireturn, 1) := by decide +kernel
theorem dJ0_checkIndex_df160_0 : decode cJ0_checkIndex_df160 0 = .ok (.iload_n 0, 1) := by decide +kernel
theorem dJ0_checkIndex_df160_1 : decode cJ0_checkIndex_df160 1 = .ok (.iload_n 1, 1) := by decide +kernel
theorem dJ0_checkIndex_df160_2 : decode cJ0_checkIndex_df160 2 = .ok (.getstatic 1053, 3) := by decide +kernel
theorem dJ0_checkIndex_df160_5 : decode cJ0_checkIndex_df160 5 = .ok (.invokestatic 1059, 3) := by decide +kernel
theorem dJ0_checkIndex_df160_8 : decode cJ0_checkIndex_df160 8 = .ok (.pop, 1) := by decide +kernel
theorem dJ0_checkIndex_df160_9 : decode cJ0_checkIndex_df160 9 = .ok (.return_, 1) := by decide +kernel
theorem dJ1_charAt_3b067_0 : decode cJ1_charAt_3b067 0 = .ok (.iload_n 1, 1) := by decide +kernel
theorem dJ1_charAt_3b067_1 : decode cJ1_charAt_3b067 1 = .ok (.aload_n 0, 1) := by decide +kernel
theorem dJ1_charAt_3b067_2 : decode cJ1_charAt_3b067 2 = .ok (.arraylength, 1) := by decide +kernel
theorem dJ1_charAt_3b067_3 : decode cJ1_charAt_3b067 3 = .ok (.invokestatic 9, 3) := by decide +kernel
theorem dJ1_charAt_3b067_6 : decode cJ1_charAt_3b067 6 = .ok (.aload_n 0, 1) := by decide +kernel
theorem dJ1_charAt_3b067_7 : decode cJ1_charAt_3b067 7 = .ok (.iload_n 1, 1) := by decide +kernel
theorem dJ1_charAt_3b067_8 : decode cJ1_charAt_3b067 8 = .ok (.baload, 1) := by decide +kernel
theorem dJ1_charAt_3b067_9 : decode cJ1_charAt_3b067 9 = .ok (.sipush 255, 3) := by decide +kernel
theorem dJ1_charAt_3b067_12 : decode cJ1_charAt_3b067 12 = .ok (.iand, 1) := by decide +kernel
theorem dJ1_charAt_3b067_13 : decode cJ1_charAt_3b067 13 = .ok (.i2c, 1) := by decide +kernel
theorem dJ1_charAt_3b067_14 : decode cJ1_charAt_3b067 14 = .ok (.ireturn, 1) := by decide +kernel
theorem dJ2_getChar_3b067_0 : decode cJ2_getChar_3b067 0 = .ok (.getstatic 44, 3) := by decide +kernel
theorem dJ2_getChar_3b067_3 : decode cJ2_getChar_3b067 3 = .ok (.ifCond .ne 25, 3) := by decide +kernel
theorem dJ2_getChar_3b067_6 : decode cJ2_getChar_3b067 6 = .ok (.iload_n 1, 1) := by decide +kernel
theorem dJ2_getChar_3b067_7 : decode cJ2_getChar_3b067 7 = .ok (.ifCond .lt 11, 3) := by decide +kernel
theorem dJ2_getChar_3b067_10 : decode cJ2_getChar_3b067 10 = .ok (.iload_n 1, 1) := by decide +kernel
theorem dJ2_getChar_3b067_11 : decode cJ2_getChar_3b067 11 = .ok (.aload_n 0, 1) := by decide +kernel
theorem dJ2_getChar_3b067_12 : decode cJ2_getChar_3b067 12 = .ok (.invokestatic 48, 3) := by decide +kernel
theorem dJ2_getChar_3b067_15 : decode cJ2_getChar_3b067 15 = .ok (.if_icmp .lt 13, 3) := by decide +kernel
theorem dJ2_getChar_3b067_18 : decode cJ2_getChar_3b067 18 = .ok (.new 52, 3) := by decide +kernel
theorem dJ2_getChar_3b067_21 : decode cJ2_getChar_3b067 21 = .ok (.dup, 1) := by decide +kernel
theorem dJ2_getChar_3b067_22 : decode cJ2_getChar_3b067 22 = .ok (.ldc 54, 2) := by decide +kernel
theorem dJ2_getChar_3b067_24 : decode cJ2_getChar_3b067 24 = .ok (.invokespecial 56, 3) := by decide +kernel
theorem dJ2_getChar_3b067_27 : decode cJ2_getChar_3b067 27 = .ok (.athrow, 1) := by decide +kernel
theorem dJ2_getChar_3b067_28 : decode cJ2_getChar_3b067 28 = .ok (.iload_n 1, 1) := by decide +kernel
theorem dJ2_getChar_3b067_29 : decode cJ2_getChar_3b067 29 = .ok (.iconst 1, 1) := by decide +kernel
theorem dJ2_getChar_3b067_30 : decode cJ2_getChar_3b067 30 = .ok (.ishl, 1) := by decide +kernel
theorem dJ2_getChar_3b067_31 : decode cJ2_getChar_3b067 31 = .ok (.istore_n 1, 1) := by decide +kernel
theorem dJ2_getChar_3b067_32 : decode cJ2_getChar_3b067 32 = .ok (.aload_n 0, 1) := by decide +kernel
theorem dJ2_getChar_3b067_33 : decode cJ2_getChar_3b067 33 = .ok (.iload_n 1, 1) := by decide +kernel
theorem dJ2_getChar_3b067_34 : decode cJ2_getChar_3b067 34 = .ok (.iinc 1 1, 3) := by decide +kernel
theorem dJ2_getChar_3b067_37 : decode cJ2_getChar_3b067 37 = .ok (.baload, 1) := by decide +kernel
theorem dJ2_getChar_3b067_38 : decode cJ2_getChar_3b067 38 = .ok (.sipush 255, 3) := by decide +kernel
theorem dJ2_getChar_3b067_41 : decode cJ2_getChar_3b067 41 = .ok (.iand, 1) := by decide +kernel
theorem dJ2_getChar_3b067_42 : decode cJ2_getChar_3b067 42 = .ok (.getstatic 59, 3) := by decide +kernel
theorem dJ2_getChar_3b067_45 : decode cJ2_getChar_3b067 45 = .ok (.ishl, 1) := by decide +kernel
theorem dJ2_getChar_3b067_46 : decode cJ2_getChar_3b067 46 = .ok (.aload_n 0, 1) := by decide +kernel
theorem dJ2_getChar_3b067_47 : decode cJ2_getChar_3b067 47 = .ok (.iload_n 1, 1) := by decide +kernel
theorem dJ2_getChar_3b067_48 : decode cJ2_getChar_3b067 48 = .ok (.baload, 1) := by decide +kernel
theorem dJ2_getChar_3b067_49 : decode cJ2_getChar_3b067 49 = .ok (.sipush 255, 3) := by decide +kernel
theorem dJ2_getChar_3b067_52 : decode cJ2_getChar_3b067 52 = .ok (.iand, 1) := by decide +kernel
theorem dJ2_getChar_3b067_53 : decode cJ2_getChar_3b067 53 = .ok (.getstatic 63, 3) := by decide +kernel
theorem dJ2_getChar_3b067_56 : decode cJ2_getChar_3b067 56 = .ok (.ishl, 1) := by decide +kernel
theorem dJ2_getChar_3b067_57 : decode cJ2_getChar_3b067 57 = .ok (.ior, 1) := by decide +kernel
theorem dJ2_getChar_3b067_58 : decode cJ2_getChar_3b067 58 = .ok (.i2c, 1) := by decide +kernel
theorem dJ2_getChar_3b067_59 : decode cJ2_getChar_3b067 59 = .ok (.ireturn, 1) := by decide +kernel
theorem dJ2_length_9d52b_0 : decode cJ2_length_9d52b 0 = .ok (.aload_n 0, 1) := by decide +kernel
theorem dJ2_length_9d52b_1 : decode cJ2_length_9d52b 1 = .ok (.arraylength, 1) := by decide +kernel
theorem dJ2_length_9d52b_2 : decode cJ2_length_9d52b 2 = .ok (.iconst 1, 1) := by decide +kernel
theorem dJ2_length_9d52b_3 : decode cJ2_length_9d52b 3 = .ok (.ishr, 1) := by decide +kernel
theorem dJ2_length_9d52b_4 : decode cJ2_length_9d52b 4 = .ok (.ireturn, 1) := by decide +kernel
theorem dJ2_charAt_3b067_0 : decode cJ2_charAt_3b067 0 = .ok (.iload_n 1, 1) := by decide +kernel
theorem dJ2_charAt_3b067_1 : decode cJ2_charAt_3b067 1 = .ok (.aload_n 0, 1) := by decide +kernel
theorem dJ2_charAt_3b067_2 : decode cJ2_charAt_3b067 2 = .ok (.invokestatic 67, 3) := by decide +kernel
theorem dJ2_charAt_3b067_5 : decode cJ2_charAt_3b067 5 = .ok (.aload_n 0, 1) := by decide +kernel
theorem dJ2_charAt_3b067_6 : decode cJ2_charAt_3b067 6 = .ok (.iload_n 1, 1) := by decide +kernel
theorem dJ2_charAt_3b067_7 : decode cJ2_charAt_3b067 7 = .ok (.invokestatic 71, 3) := by decide +kernel
theorem dJ2_charAt_3b067_10 : decode cJ2_charAt_3b067 10 = .ok (.ireturn, 1) := by decide +kernel
theorem dJ2_checkIndex_2214a_0 : decode cJ2_checkIndex_2214a 0 = .ok (.iload_n 0, 1) := by decide +kernel
theorem dJ2_checkIndex_2214a_1 : decode cJ2_checkIndex_2214a 1 = .ok (.aload_n 1, 1) := by decide +kernel
theorem dJ2_checkIndex_2214a_2 : decode cJ2_checkIndex_2214a 2 = .ok (.invokestatic 48, 3) := by decide +kernel
theorem dJ2_checkIndex_2214a_5 : decode cJ2_checkIndex_2214a 5 = .ok (.invokestatic 414, 3) := by decide +kernel
theorem dJ2_checkIndex_2214a_8 : decode cJ2_checkIndex_2214a 8 = .ok (.return_, 1) := by decide +kernel
theorem dJ7_fill_d0a16_0 : decode cJ7_fill_d0a16 0 = .ok (.iconst 0, 1) := by decide +kernel
theorem dJ7_fill_d0a16_1 : decode cJ7_fill_d0a16 1 = .ok (.istore_n 3, 1) := by decide +kernel
theorem dJ7_fill_d0a16_2 : decode cJ7_fill_d0a16 2 = .ok (.aload_n 0, 1) := by decide +kernel
theorem dJ7_fill_d0a16_3 : decode cJ7_fill_d0a16 3 = .ok (.arraylength, 1) := by decide +kernel
theorem dJ7_fill_d0a16_4 : decode cJ7_fill_d0a16 4 = .ok (.istore 4, 2) := by decide +kernel
theorem dJ7_fill_d0a16_6 : decode cJ7_fill_d0a16 6 = .ok (.iload_n 3, 1) := by decide +kernel
theorem dJ7_fill_d0a16_7 : decode cJ7_fill_d0a16 7 = .ok (.iload 4, 2) := by decide +kernel
theorem dJ7_fill_d0a16_9 : decode cJ7_fill_d0a16 9 = .ok (.if_icmp .ge 13, 3) := by decide +kernel
theorem dJ7_fill_d0a16_12 : decode cJ7_fill_d0a16 12 = .ok (.aload_n 0, 1) := by decide +kernel
theorem dJ7_fill_d0a16_13 : decode cJ7_fill_d0a16 13 = .ok (.iload_n 3, 1) := by decide +kernel
theorem dJ7_fill_d0a16_14 : decode cJ7_fill_d0a16 14 = .ok (.lload_n 1, 1) := by decide +kernel
theorem dJ7_fill_d0a16_15 : decode cJ7_fill_d0a16 15 = .ok (.lastore, 1) := by decide +kernel
theorem dJ7_fill_d0a16_16 : decode cJ7_fill_d0a16 16 = .ok (.iinc 3 1, 3) := by decide +kernel
theorem dJ7_fill_d0a16_19 : decode cJ7_fill_d0a16 19 = .ok (.goto (-13), 3) := by decide +kernel
theorem dJ7_fill_d0a16_22 : decode cJ7_fill_d0a16 22 = .ok (.return_, 1) := by decide +kernel
theorem dJ3_checkIndex_8e157_0 : decode cJ3_checkIndex_8e157 0 = .ok (.iload_n 0, 1) := by decide +kernel
theorem dJ3_checkIndex_8e157_1 : decode cJ3_checkIndex_8e157 1 = .ok (.ifCond .lt 8, 3) := by decide +kernel
theorem dJ3_checkIndex_8e157_4 : decode cJ3_checkIndex_8e157 4 = .ok (.iload_n 0, 1) := by decide +kernel
theorem dJ3_checkIndex_8e157_5 : decode cJ3_checkIndex_8e157 5 = .ok (.iload_n 1, 1) := by decide +kernel
theorem dJ3_checkIndex_8e157_6 : decode cJ3_checkIndex_8e157 6 = .ok (.if_icmp .lt 10, 3) := by decide +kernel
theorem dJ3_checkIndex_8e157_9 : decode cJ3_checkIndex_8e157 9 = .ok (.aload_n 2, 1) := by decide +kernel
theorem dJ3_checkIndex_8e157_10 : decode cJ3_checkIndex_8e157 10 = .ok (.iload_n 0, 1) := by decide +kernel
theorem dJ3_checkIndex_8e157_11 : decode cJ3_checkIndex_8e157 11 = .ok (.iload_n 1, 1) := by decide +kernel
theorem dJ3_checkIndex_8e157_12 : decode cJ3_checkIndex_8e157 12 = .ok (.invokestatic 95, 3) := by decide +kernel
theorem dJ3_checkIndex_8e157_15 : decode cJ3_checkIndex_8e157 15 = .ok (.athrow, 1) := by decide +kernel
theorem dJ3_checkIndex_8e157_16 : decode cJ3_checkIndex_8e157 16 = .ok (.iload_n 0, 1) := by decide +kernel
theorem dJ3_checkIndex_8e157_17 : decode cJ3_checkIndex_8e157 17 = .ok (.ireturn, 1) := by decide +kernel
theorem dL_law_0 : decode cL_law 0 = .ok (.new 7, 3) := by decide +kernel
theorem dL_law_3 : decode cL_law 3 = .ok (.dup, 1) := by decide +kernel
theorem dL_law_4 : decode cL_law 4 = .ok (.invokespecial 9, 3) := by decide +kernel
theorem dL_law_7 : decode cL_law 7 = .ok (.astore_n 1, 1) := by decide +kernel
theorem dL_law_8 : decode cL_law 8 = .ok (.new 10, 3) := by decide +kernel
theorem dL_law_11 : decode cL_law 11 = .ok (.dup, 1) := by decide +kernel
theorem dL_law_12 : decode cL_law 12 = .ok (.invokespecial 12, 3) := by decide +kernel
theorem dL_law_15 : decode cL_law 15 = .ok (.astore_n 2, 1) := by decide +kernel
theorem dL_law_16 : decode cL_law 16 = .ok (.iconst 0, 1) := by decide +kernel
theorem dL_law_17 : decode cL_law 17 = .ok (.istore_n 3, 1) := by decide +kernel
theorem dL_law_18 : decode cL_law 18 = .ok (.iload_n 3, 1) := by decide +kernel
theorem dL_law_19 : decode cL_law 19 = .ok (.aload_n 0, 1) := by decide +kernel
theorem dL_law_20 : decode cL_law 20 = .ok (.arraylength, 1) := by decide +kernel
theorem dL_law_21 : decode cL_law 21 = .ok (.iconst 4, 1) := by decide +kernel
theorem dL_law_22 : decode cL_law 22 = .ok (.isub, 1) := by decide +kernel
theorem dL_law_23 : decode cL_law 23 = .ok (.if_icmp .gt 763, 3) := by decide +kernel
theorem dL_law_26 : decode cL_law 26 = .ok (.aload_n 0, 1) := by decide +kernel
theorem dL_law_27 : decode cL_law 27 = .ok (.iload_n 3, 1) := by decide +kernel
theorem dL_law_28 : decode cL_law 28 = .ok (.iaload, 1) := by decide +kernel
theorem dL_law_29 : decode cL_law 29 = .ok (.bipush 31, 2) := by decide +kernel
theorem dL_law_31 : decode cL_law 31 = .ok (.iand, 1) := by decide +kernel
theorem dL_law_32 : decode cL_law 32 = .ok (.tableswitch 748 0 24 #[116, 179, 192, 205, 218, 251, 310, 333, 356, 379, 392, 405, 428, 441, 454, 487, 500, 544, 577, 620, 643, 656, 699, 712, 725], 116) := by decide +kernel
theorem dL_law_148 : decode cL_law 148 = .ok (.aload_n 1, 1) := by decide +kernel
theorem dL_law_149 : decode cL_law 149 = .ok (.aload_n 0, 1) := by decide +kernel
theorem dL_law_150 : decode cL_law 150 = .ok (.iload_n 3, 1) := by decide +kernel
theorem dL_law_151 : decode cL_law 151 = .ok (.iconst 1, 1) := by decide +kernel
theorem dL_law_152 : decode cL_law 152 = .ok (.iadd, 1) := by decide +kernel
theorem dL_law_153 : decode cL_law 153 = .ok (.iaload, 1) := by decide +kernel
theorem dL_law_154 : decode cL_law 154 = .ok (.aload_n 0, 1) := by decide +kernel
theorem dL_law_155 : decode cL_law 155 = .ok (.iload_n 3, 1) := by decide +kernel
theorem dL_law_156 : decode cL_law 156 = .ok (.iconst 2, 1) := by decide +kernel
theorem dL_law_157 : decode cL_law 157 = .ok (.iadd, 1) := by decide +kernel
theorem dL_law_158 : decode cL_law 158 = .ok (.iaload, 1) := by decide +kernel
theorem dL_law_159 : decode cL_law 159 = .ok (.i2l, 1) := by decide +kernel
theorem dL_law_160 : decode cL_law 160 = .ok (.bipush 32, 2) := by decide +kernel
theorem dL_law_162 : decode cL_law 162 = .ok (.lshl, 1) := by decide +kernel
theorem dL_law_163 : decode cL_law 163 = .ok (.aload_n 0, 1) := by decide +kernel
theorem dL_law_164 : decode cL_law 164 = .ok (.iload_n 3, 1) := by decide +kernel
theorem dL_law_165 : decode cL_law 165 = .ok (.iconst 3, 1) := by decide +kernel
theorem dL_law_166 : decode cL_law 166 = .ok (.iadd, 1) := by decide +kernel
theorem dL_law_167 : decode cL_law 167 = .ok (.iaload, 1) := by decide +kernel
theorem dL_law_168 : decode cL_law 168 = .ok (.i2l, 1) := by decide +kernel
theorem dL_law_169 : decode cL_law 169 = .ok (.ldc2_w 13, 3) := by decide +kernel
theorem dL_law_172 : decode cL_law 172 = .ok (.land, 1) := by decide +kernel
theorem dL_law_173 : decode cL_law 173 = .ok (.lor, 1) := by decide +kernel
theorem dL_law_174 : decode cL_law 174 = .ok (.invokevirtual 15, 3) := by decide +kernel
theorem dL_law_177 : decode cL_law 177 = .ok (.aload_n 2, 1) := by decide +kernel
theorem dL_law_178 : decode cL_law 178 = .ok (.aload_n 0, 1) := by decide +kernel
theorem dL_law_179 : decode cL_law 179 = .ok (.iload_n 3, 1) := by decide +kernel
theorem dL_law_180 : decode cL_law 180 = .ok (.iconst 1, 1) := by decide +kernel
theorem dL_law_181 : decode cL_law 181 = .ok (.iadd, 1) := by decide +kernel
theorem dL_law_182 : decode cL_law 182 = .ok (.iaload, 1) := by decide +kernel
theorem dL_law_183 : decode cL_law 183 = .ok (.aload_n 0, 1) := by decide +kernel
theorem dL_law_184 : decode cL_law 184 = .ok (.iload_n 3, 1) := by decide +kernel
theorem dL_law_185 : decode cL_law 185 = .ok (.iconst 2, 1) := by decide +kernel
theorem dL_law_186 : decode cL_law 186 = .ok (.iadd, 1) := by decide +kernel
theorem dL_law_187 : decode cL_law 187 = .ok (.iaload, 1) := by decide +kernel
theorem dL_law_188 : decode cL_law 188 = .ok (.i2l, 1) := by decide +kernel
theorem dL_law_189 : decode cL_law 189 = .ok (.bipush 32, 2) := by decide +kernel
theorem dL_law_191 : decode cL_law 191 = .ok (.lshl, 1) := by decide +kernel
theorem dL_law_192 : decode cL_law 192 = .ok (.aload_n 0, 1) := by decide +kernel
theorem dL_law_193 : decode cL_law 193 = .ok (.iload_n 3, 1) := by decide +kernel
theorem dL_law_194 : decode cL_law 194 = .ok (.iconst 3, 1) := by decide +kernel
theorem dL_law_195 : decode cL_law 195 = .ok (.iadd, 1) := by decide +kernel
theorem dL_law_196 : decode cL_law 196 = .ok (.iaload, 1) := by decide +kernel
theorem dL_law_197 : decode cL_law 197 = .ok (.i2l, 1) := by decide +kernel
theorem dL_law_198 : decode cL_law 198 = .ok (.ldc2_w 13, 3) := by decide +kernel
theorem dL_law_201 : decode cL_law 201 = .ok (.land, 1) := by decide +kernel
theorem dL_law_202 : decode cL_law 202 = .ok (.lor, 1) := by decide +kernel
theorem dL_law_203 : decode cL_law 203 = .ok (.invokevirtual 19, 3) := by decide +kernel
theorem dL_law_206 : decode cL_law 206 = .ok (.if_icmp .eq 574, 3) := by decide +kernel
theorem dL_law_209 : decode cL_law 209 = .ok (.iconst 0, 1) := by decide +kernel
theorem dL_law_210 : decode cL_law 210 = .ok (.ireturn, 1) := by decide +kernel
theorem dL_law_211 : decode cL_law 211 = .ok (.aload_n 1, 1) := by decide +kernel
theorem dL_law_212 : decode cL_law 212 = .ok (.invokevirtual 20, 3) := by decide +kernel
theorem dL_law_215 : decode cL_law 215 = .ok (.aload_n 2, 1) := by decide +kernel
theorem dL_law_216 : decode cL_law 216 = .ok (.invokevirtual 24, 3) := by decide +kernel
theorem dL_law_219 : decode cL_law 219 = .ok (.if_icmp .eq 561, 3) := by decide +kernel
theorem dL_law_222 : decode cL_law 222 = .ok (.iconst 0, 1) := by decide +kernel
theorem dL_law_223 : decode cL_law 223 = .ok (.ireturn, 1) := by decide +kernel
theorem dL_law_224 : decode cL_law 224 = .ok (.aload_n 1, 1) := by decide +kernel
theorem dL_law_225 : decode cL_law 225 = .ok (.invokevirtual 25, 3) := by decide +kernel
theorem dL_law_228 : decode cL_law 228 = .ok (.aload_n 2, 1) := by decide +kernel
theorem dL_law_229 : decode cL_law 229 = .ok (.invokevirtual 28, 3) := by decide +kernel
theorem dL_law_232 : decode cL_law 232 = .ok (.if_icmp .eq 548, 3) := by decide +kernel
theorem dL_law_235 : decode cL_law 235 = .ok (.iconst 0, 1) := by decide +kernel
theorem dL_law_236 : decode cL_law 236 = .ok (.ireturn, 1) := by decide +kernel
theorem dL_law_237 : decode cL_law 237 = .ok (.aload_n 1, 1) := by decide +kernel
theorem dL_law_238 : decode cL_law 238 = .ok (.invokevirtual 29, 3) := by decide +kernel
theorem dL_law_241 : decode cL_law 241 = .ok (.aload_n 2, 1) := by decide +kernel
theorem dL_law_242 : decode cL_law 242 = .ok (.invokevirtual 32, 3) := by decide +kernel
theorem dL_law_245 : decode cL_law 245 = .ok (.if_icmp .eq 535, 3) := by decide +kernel
theorem dL_law_248 : decode cL_law 248 = .ok (.iconst 0, 1) := by decide +kernel
theorem dL_law_249 : decode cL_law 249 = .ok (.ireturn, 1) := by decide +kernel
theorem dL_law_250 : decode cL_law 250 = .ok (.aload_n 1, 1) := by decide +kernel
theorem dL_law_251 : decode cL_law 251 = .ok (.aload_n 0, 1) := by decide +kernel
theorem dL_law_252 : decode cL_law 252 = .ok (.iload_n 3, 1) := by decide +kernel
theorem dL_law_253 : decode cL_law 253 = .ok (.iconst 1, 1) := by decide +kernel
theorem dL_law_254 : decode cL_law 254 = .ok (.iadd, 1) := by decide +kernel
theorem dL_law_255 : decode cL_law 255 = .ok (.iaload, 1) := by decide +kernel
theorem dL_law_256 : decode cL_law 256 = .ok (.aload_n 0, 1) := by decide +kernel
theorem dL_law_257 : decode cL_law 257 = .ok (.iload_n 3, 1) := by decide +kernel
theorem dL_law_258 : decode cL_law 258 = .ok (.iconst 2, 1) := by decide +kernel
theorem dL_law_259 : decode cL_law 259 = .ok (.iadd, 1) := by decide +kernel
theorem dL_law_260 : decode cL_law 260 = .ok (.iaload, 1) := by decide +kernel
theorem dL_law_261 : decode cL_law 261 = .ok (.invokevirtual 33, 3) := by decide +kernel
theorem dL_law_264 : decode cL_law 264 = .ok (.aload_n 2, 1) := by decide +kernel
theorem dL_law_265 : decode cL_law 265 = .ok (.aload_n 0, 1) := by decide +kernel
theorem dL_law_266 : decode cL_law 266 = .ok (.iload_n 3, 1) := by decide +kernel
theorem dL_law_267 : decode cL_law 267 = .ok (.iconst 1, 1) := by decide +kernel
theorem dL_law_268 : decode cL_law 268 = .ok (.iadd, 1) := by decide +kernel
theorem dL_law_269 : decode cL_law 269 = .ok (.iaload, 1) := by decide +kernel
theorem dL_law_270 : decode cL_law 270 = .ok (.aload_n 0, 1) := by decide +kernel
theorem dL_law_271 : decode cL_law 271 = .ok (.iload_n 3, 1) := by decide +kernel
theorem dL_law_272 : decode cL_law 272 = .ok (.iconst 2, 1) := by decide +kernel
theorem dL_law_273 : decode cL_law 273 = .ok (.iadd, 1) := by decide +kernel
theorem dL_law_274 : decode cL_law 274 = .ok (.iaload, 1) := by decide +kernel
theorem dL_law_275 : decode cL_law 275 = .ok (.invokevirtual 37, 3) := by decide +kernel
theorem dL_law_278 : decode cL_law 278 = .ok (.if_icmp .eq 502, 3) := by decide +kernel
theorem dL_law_281 : decode cL_law 281 = .ok (.iconst 0, 1) := by decide +kernel
theorem dL_law_282 : decode cL_law 282 = .ok (.ireturn, 1) := by decide +kernel
theorem dL_law_283 : decode cL_law 283 = .ok (.aload_n 1, 1) := by decide +kernel
theorem dL_law_284 : decode cL_law 284 = .ok (.aload_n 0, 1) := by decide +kernel
theorem dL_law_285 : decode cL_law 285 = .ok (.iload_n 3, 1) := by decide +kernel
theorem dL_law_286 : decode cL_law 286 = .ok (.iconst 1, 1) := by decide +kernel
theorem dL_law_287 : decode cL_law 287 = .ok (.iadd, 1) := by decide +kernel
theorem dL_law_288 : decode cL_law 288 = .ok (.iaload, 1) := by decide +kernel
theorem dL_law_289 : decode cL_law 289 = .ok (.aload_n 0, 1) := by decide +kernel
theorem dL_law_290 : decode cL_law 290 = .ok (.iload_n 3, 1) := by decide +kernel
theorem dL_law_291 : decode cL_law 291 = .ok (.iconst 2, 1) := by decide +kernel
theorem dL_law_292 : decode cL_law 292 = .ok (.iadd, 1) := by decide +kernel
theorem dL_law_293 : decode cL_law 293 = .ok (.iaload, 1) := by decide +kernel
theorem dL_law_294 : decode cL_law 294 = .ok (.aload_n 0, 1) := by decide +kernel
theorem dL_law_295 : decode cL_law 295 = .ok (.iload_n 3, 1) := by decide +kernel
theorem dL_law_296 : decode cL_law 296 = .ok (.iconst 3, 1) := by decide +kernel
theorem dL_law_297 : decode cL_law 297 = .ok (.iadd, 1) := by decide +kernel
theorem dL_law_298 : decode cL_law 298 = .ok (.iaload, 1) := by decide +kernel
theorem dL_law_299 : decode cL_law 299 = .ok (.ifCond .eq 7, 3) := by decide +kernel
theorem dL_law_302 : decode cL_law 302 = .ok (.iconst 1, 1) := by decide +kernel
theorem dL_law_303 : decode cL_law 303 = .ok (.goto 4, 3) := by decide +kernel
theorem dL_law_306 : decode cL_law 306 = .ok (.iconst 0, 1) := by decide +kernel
theorem dL_law_307 : decode cL_law 307 = .ok (.invokevirtual 38, 3) := by decide +kernel
theorem dL_law_310 : decode cL_law 310 = .ok (.aload_n 2, 1) := by decide +kernel
theorem dL_law_311 : decode cL_law 311 = .ok (.aload_n 0, 1) := by decide +kernel
theorem dL_law_312 : decode cL_law 312 = .ok (.iload_n 3, 1) := by decide +kernel
theorem dL_law_313 : decode cL_law 313 = .ok (.iconst 1, 1) := by decide +kernel
theorem dL_law_314 : decode cL_law 314 = .ok (.iadd, 1) := by decide +kernel
theorem dL_law_315 : decode cL_law 315 = .ok (.iaload, 1) := by decide +kernel
theorem dL_law_316 : decode cL_law 316 = .ok (.aload_n 0, 1) := by decide +kernel
theorem dL_law_317 : decode cL_law 317 = .ok (.iload_n 3, 1) := by decide +kernel
theorem dL_law_318 : decode cL_law 318 = .ok (.iconst 2, 1) := by decide +kernel
theorem dL_law_319 : decode cL_law 319 = .ok (.iadd, 1) := by decide +kernel
theorem dL_law_320 : decode cL_law 320 = .ok (.iaload, 1) := by decide +kernel
theorem dL_law_321 : decode cL_law 321 = .ok (.aload_n 0, 1) := by decide +kernel
theorem dL_law_322 : decode cL_law 322 = .ok (.iload_n 3, 1) := by decide +kernel
theorem dL_law_323 : decode cL_law 323 = .ok (.iconst 3, 1) := by decide +kernel
theorem dL_law_324 : decode cL_law 324 = .ok (.iadd, 1) := by decide +kernel
theorem dL_law_325 : decode cL_law 325 = .ok (.iaload, 1) := by decide +kernel
theorem dL_law_326 : decode cL_law 326 = .ok (.ifCond .eq 7, 3) := by decide +kernel
theorem dL_law_329 : decode cL_law 329 = .ok (.iconst 1, 1) := by decide +kernel
theorem dL_law_330 : decode cL_law 330 = .ok (.goto 4, 3) := by decide +kernel
theorem dL_law_333 : decode cL_law 333 = .ok (.iconst 0, 1) := by decide +kernel
theorem dL_law_334 : decode cL_law 334 = .ok (.invokevirtual 42, 3) := by decide +kernel
theorem dL_law_337 : decode cL_law 337 = .ok (.if_icmp .eq 443, 3) := by decide +kernel
theorem dL_law_340 : decode cL_law 340 = .ok (.iconst 0, 1) := by decide +kernel
theorem dL_law_341 : decode cL_law 341 = .ok (.ireturn, 1) := by decide +kernel
theorem dL_law_342 : decode cL_law 342 = .ok (.aload_n 1, 1) := by decide +kernel
theorem dL_law_343 : decode cL_law 343 = .ok (.aload_n 0, 1) := by decide +kernel
theorem dL_law_344 : decode cL_law 344 = .ok (.iload_n 3, 1) := by decide +kernel
theorem dL_law_345 : decode cL_law 345 = .ok (.iconst 1, 1) := by decide +kernel
theorem dL_law_346 : decode cL_law 346 = .ok (.iadd, 1) := by decide +kernel
theorem dL_law_347 : decode cL_law 347 = .ok (.iaload, 1) := by decide +kernel
theorem dL_law_348 : decode cL_law 348 = .ok (.invokevirtual 43, 3) := by decide +kernel
theorem dL_law_351 : decode cL_law 351 = .ok (.aload_n 2, 1) := by decide +kernel
theorem dL_law_352 : decode cL_law 352 = .ok (.aload_n 0, 1) := by decide +kernel
theorem dL_law_353 : decode cL_law 353 = .ok (.iload_n 3, 1) := by decide +kernel
theorem dL_law_354 : decode cL_law 354 = .ok (.iconst 1, 1) := by decide +kernel
theorem dL_law_355 : decode cL_law 355 = .ok (.iadd, 1) := by decide +kernel
theorem dL_law_356 : decode cL_law 356 = .ok (.iaload, 1) := by decide +kernel
theorem dL_law_357 : decode cL_law 357 = .ok (.invokevirtual 47, 3) := by decide +kernel
theorem dL_law_360 : decode cL_law 360 = .ok (.if_icmp .eq 420, 3) := by decide +kernel
theorem dL_law_363 : decode cL_law 363 = .ok (.iconst 0, 1) := by decide +kernel
theorem dL_law_364 : decode cL_law 364 = .ok (.ireturn, 1) := by decide +kernel
theorem dL_law_365 : decode cL_law 365 = .ok (.aload_n 1, 1) := by decide +kernel
theorem dL_law_366 : decode cL_law 366 = .ok (.aload_n 0, 1) := by decide +kernel
theorem dL_law_367 : decode cL_law 367 = .ok (.iload_n 3, 1) := by decide +kernel
theorem dL_law_368 : decode cL_law 368 = .ok (.iconst 1, 1) := by decide +kernel
theorem dL_law_369 : decode cL_law 369 = .ok (.iadd, 1) := by decide +kernel
theorem dL_law_370 : decode cL_law 370 = .ok (.iaload, 1) := by decide +kernel
theorem dL_law_371 : decode cL_law 371 = .ok (.invokevirtual 48, 3) := by decide +kernel
theorem dL_law_374 : decode cL_law 374 = .ok (.aload_n 2, 1) := by decide +kernel
theorem dL_law_375 : decode cL_law 375 = .ok (.aload_n 0, 1) := by decide +kernel
theorem dL_law_376 : decode cL_law 376 = .ok (.iload_n 3, 1) := by decide +kernel
theorem dL_law_377 : decode cL_law 377 = .ok (.iconst 1, 1) := by decide +kernel
theorem dL_law_378 : decode cL_law 378 = .ok (.iadd, 1) := by decide +kernel
theorem dL_law_379 : decode cL_law 379 = .ok (.iaload, 1) := by decide +kernel
theorem dL_law_380 : decode cL_law 380 = .ok (.invokevirtual 51, 3) := by decide +kernel
theorem dL_law_383 : decode cL_law 383 = .ok (.if_icmp .eq 397, 3) := by decide +kernel
theorem dL_law_386 : decode cL_law 386 = .ok (.iconst 0, 1) := by decide +kernel
theorem dL_law_387 : decode cL_law 387 = .ok (.ireturn, 1) := by decide +kernel
theorem dL_law_388 : decode cL_law 388 = .ok (.aload_n 1, 1) := by decide +kernel
theorem dL_law_389 : decode cL_law 389 = .ok (.aload_n 0, 1) := by decide +kernel
theorem dL_law_390 : decode cL_law 390 = .ok (.iload_n 3, 1) := by decide +kernel
theorem dL_law_391 : decode cL_law 391 = .ok (.iconst 1, 1) := by decide +kernel
theorem dL_law_392 : decode cL_law 392 = .ok (.iadd, 1) := by decide +kernel
theorem dL_law_393 : decode cL_law 393 = .ok (.iaload, 1) := by decide +kernel
theorem dL_law_394 : decode cL_law 394 = .ok (.invokevirtual 52, 3) := by decide +kernel
theorem dL_law_397 : decode cL_law 397 = .ok (.aload_n 2, 1) := by decide +kernel
theorem dL_law_398 : decode cL_law 398 = .ok (.aload_n 0, 1) := by decide +kernel
theorem dL_law_399 : decode cL_law 399 = .ok (.iload_n 3, 1) := by decide +kernel
theorem dL_law_400 : decode cL_law 400 = .ok (.iconst 1, 1) := by decide +kernel
theorem dL_law_401 : decode cL_law 401 = .ok (.iadd, 1) := by decide +kernel
theorem dL_law_402 : decode cL_law 402 = .ok (.iaload, 1) := by decide +kernel
theorem dL_law_403 : decode cL_law 403 = .ok (.invokevirtual 55, 3) := by decide +kernel
theorem dL_law_406 : decode cL_law 406 = .ok (.if_icmp .eq 374, 3) := by decide +kernel
theorem dL_law_409 : decode cL_law 409 = .ok (.iconst 0, 1) := by decide +kernel
theorem dL_law_410 : decode cL_law 410 = .ok (.ireturn, 1) := by decide +kernel
theorem dL_law_411 : decode cL_law 411 = .ok (.aload_n 1, 1) := by decide +kernel
theorem dL_law_412 : decode cL_law 412 = .ok (.invokevirtual 56, 3) := by decide +kernel
theorem dL_law_415 : decode cL_law 415 = .ok (.aload_n 2, 1) := by decide +kernel
theorem dL_law_416 : decode cL_law 416 = .ok (.invokevirtual 59, 3) := by decide +kernel
theorem dL_law_419 : decode cL_law 419 = .ok (.if_icmp .eq 361, 3) := by decide +kernel
theorem dL_law_422 : decode cL_law 422 = .ok (.iconst 0, 1) := by decide +kernel
theorem dL_law_423 : decode cL_law 423 = .ok (.ireturn, 1) := by decide +kernel
theorem dL_law_424 : decode cL_law 424 = .ok (.aload_n 1, 1) := by decide +kernel
theorem dL_law_425 : decode cL_law 425 = .ok (.invokevirtual 60, 3) := by decide +kernel
theorem dL_law_428 : decode cL_law 428 = .ok (.aload_n 2, 1) := by decide +kernel
theorem dL_law_429 : decode cL_law 429 = .ok (.invokevirtual 63, 3) := by decide +kernel
theorem dL_law_432 : decode cL_law 432 = .ok (.if_icmp .eq 348, 3) := by decide +kernel
theorem dL_law_435 : decode cL_law 435 = .ok (.iconst 0, 1) := by decide +kernel
theorem dL_law_436 : decode cL_law 436 = .ok (.ireturn, 1) := by decide +kernel
theorem dL_law_437 : decode cL_law 437 = .ok (.aload_n 1, 1) := by decide +kernel
theorem dL_law_438 : decode cL_law 438 = .ok (.aload_n 0, 1) := by decide +kernel
theorem dL_law_439 : decode cL_law 439 = .ok (.iload_n 3, 1) := by decide +kernel
theorem dL_law_440 : decode cL_law 440 = .ok (.iconst 1, 1) := by decide +kernel
theorem dL_law_441 : decode cL_law 441 = .ok (.iadd, 1) := by decide +kernel
theorem dL_law_442 : decode cL_law 442 = .ok (.iaload, 1) := by decide +kernel
theorem dL_law_443 : decode cL_law 443 = .ok (.invokevirtual 64, 3) := by decide +kernel
theorem dL_law_446 : decode cL_law 446 = .ok (.aload_n 2, 1) := by decide +kernel
theorem dL_law_447 : decode cL_law 447 = .ok (.aload_n 0, 1) := by decide +kernel
theorem dL_law_448 : decode cL_law 448 = .ok (.iload_n 3, 1) := by decide +kernel
theorem dL_law_449 : decode cL_law 449 = .ok (.iconst 1, 1) := by decide +kernel
theorem dL_law_450 : decode cL_law 450 = .ok (.iadd, 1) := by decide +kernel
theorem dL_law_451 : decode cL_law 451 = .ok (.iaload, 1) := by decide +kernel
theorem dL_law_452 : decode cL_law 452 = .ok (.invokevirtual 67, 3) := by decide +kernel
theorem dL_law_455 : decode cL_law 455 = .ok (.if_icmp .eq 325, 3) := by decide +kernel
theorem dL_law_458 : decode cL_law 458 = .ok (.iconst 0, 1) := by decide +kernel
theorem dL_law_459 : decode cL_law 459 = .ok (.ireturn, 1) := by decide +kernel
theorem dL_law_460 : decode cL_law 460 = .ok (.aload_n 1, 1) := by decide +kernel
theorem dL_law_461 : decode cL_law 461 = .ok (.invokevirtual 68, 3) := by decide +kernel
theorem dL_law_464 : decode cL_law 464 = .ok (.aload_n 2, 1) := by decide +kernel
theorem dL_law_465 : decode cL_law 465 = .ok (.invokevirtual 71, 3) := by decide +kernel
theorem dL_law_468 : decode cL_law 468 = .ok (.if_icmp .eq 312, 3) := by decide +kernel
theorem dL_law_471 : decode cL_law 471 = .ok (.iconst 0, 1) := by decide +kernel
theorem dL_law_472 : decode cL_law 472 = .ok (.ireturn, 1) := by decide +kernel
theorem dL_law_473 : decode cL_law 473 = .ok (.aload_n 1, 1) := by decide +kernel
theorem dL_law_474 : decode cL_law 474 = .ok (.invokevirtual 72, 3) := by decide +kernel
theorem dL_law_477 : decode cL_law 477 = .ok (.aload_n 2, 1) := by decide +kernel
theorem dL_law_478 : decode cL_law 478 = .ok (.invokevirtual 75, 3) := by decide +kernel
theorem dL_law_481 : decode cL_law 481 = .ok (.if_icmp .eq 299, 3) := by decide +kernel
theorem dL_law_484 : decode cL_law 484 = .ok (.iconst 0, 1) := by decide +kernel
theorem dL_law_485 : decode cL_law 485 = .ok (.ireturn, 1) := by decide +kernel
theorem dL_law_486 : decode cL_law 486 = .ok (.aload_n 1, 1) := by decide +kernel
theorem dL_law_487 : decode cL_law 487 = .ok (.aload_n 0, 1) := by decide +kernel
theorem dL_law_488 : decode cL_law 488 = .ok (.iload_n 3, 1) := by decide +kernel
theorem dL_law_489 : decode cL_law 489 = .ok (.iconst 1, 1) := by decide +kernel
theorem dL_law_490 : decode cL_law 490 = .ok (.iadd, 1) := by decide +kernel
theorem dL_law_491 : decode cL_law 491 = .ok (.iaload, 1) := by decide +kernel
theorem dL_law_492 : decode cL_law 492 = .ok (.aload_n 0, 1) := by decide +kernel
theorem dL_law_493 : decode cL_law 493 = .ok (.iload_n 3, 1) := by decide +kernel
theorem dL_law_494 : decode cL_law 494 = .ok (.iconst 2, 1) := by decide +kernel
theorem dL_law_495 : decode cL_law 495 = .ok (.iadd, 1) := by decide +kernel
theorem dL_law_496 : decode cL_law 496 = .ok (.iaload, 1) := by decide +kernel
theorem dL_law_497 : decode cL_law 497 = .ok (.invokevirtual 76, 3) := by decide +kernel
theorem dL_law_500 : decode cL_law 500 = .ok (.aload_n 2, 1) := by decide +kernel
theorem dL_law_501 : decode cL_law 501 = .ok (.aload_n 0, 1) := by decide +kernel
theorem dL_law_502 : decode cL_law 502 = .ok (.iload_n 3, 1) := by decide +kernel
theorem dL_law_503 : decode cL_law 503 = .ok (.iconst 1, 1) := by decide +kernel
theorem dL_law_504 : decode cL_law 504 = .ok (.iadd, 1) := by decide +kernel
theorem dL_law_505 : decode cL_law 505 = .ok (.iaload, 1) := by decide +kernel
theorem dL_law_506 : decode cL_law 506 = .ok (.aload_n 0, 1) := by decide +kernel
theorem dL_law_507 : decode cL_law 507 = .ok (.iload_n 3, 1) := by decide +kernel
theorem dL_law_508 : decode cL_law 508 = .ok (.iconst 2, 1) := by decide +kernel
theorem dL_law_509 : decode cL_law 509 = .ok (.iadd, 1) := by decide +kernel
theorem dL_law_510 : decode cL_law 510 = .ok (.iaload, 1) := by decide +kernel
theorem dL_law_511 : decode cL_law 511 = .ok (.invokevirtual 79, 3) := by decide +kernel
theorem dL_law_514 : decode cL_law 514 = .ok (.if_icmp .eq 266, 3) := by decide +kernel
theorem dL_law_517 : decode cL_law 517 = .ok (.iconst 0, 1) := by decide +kernel
theorem dL_law_518 : decode cL_law 518 = .ok (.ireturn, 1) := by decide +kernel
theorem dL_law_519 : decode cL_law 519 = .ok (.aload_n 1, 1) := by decide +kernel
theorem dL_law_520 : decode cL_law 520 = .ok (.invokevirtual 80, 3) := by decide +kernel
theorem dL_law_523 : decode cL_law 523 = .ok (.aload_n 2, 1) := by decide +kernel
theorem dL_law_524 : decode cL_law 524 = .ok (.invokevirtual 83, 3) := by decide +kernel
theorem dL_law_527 : decode cL_law 527 = .ok (.if_icmp .eq 253, 3) := by decide +kernel
theorem dL_law_530 : decode cL_law 530 = .ok (.iconst 0, 1) := by decide +kernel
theorem dL_law_531 : decode cL_law 531 = .ok (.ireturn, 1) := by decide +kernel
theorem dL_law_532 : decode cL_law 532 = .ok (.aload_n 1, 1) := by decide +kernel
theorem dL_law_533 : decode cL_law 533 = .ok (.aload_n 0, 1) := by decide +kernel
theorem dL_law_534 : decode cL_law 534 = .ok (.iload_n 3, 1) := by decide +kernel
theorem dL_law_535 : decode cL_law 535 = .ok (.iconst 1, 1) := by decide +kernel
theorem dL_law_536 : decode cL_law 536 = .ok (.iadd, 1) := by decide +kernel
theorem dL_law_537 : decode cL_law 537 = .ok (.iaload, 1) := by decide +kernel
theorem dL_law_538 : decode cL_law 538 = .ok (.aload_n 0, 1) := by decide +kernel
theorem dL_law_539 : decode cL_law 539 = .ok (.iload_n 3, 1) := by decide +kernel
theorem dL_law_540 : decode cL_law 540 = .ok (.iconst 2, 1) := by decide +kernel
theorem dL_law_541 : decode cL_law 541 = .ok (.iadd, 1) := by decide +kernel
theorem dL_law_542 : decode cL_law 542 = .ok (.iaload, 1) := by decide +kernel
theorem dL_law_543 : decode cL_law 543 = .ok (.aload_n 0, 1) := by decide +kernel
theorem dL_law_544 : decode cL_law 544 = .ok (.iload_n 3, 1) := by decide +kernel
theorem dL_law_545 : decode cL_law 545 = .ok (.iconst 3, 1) := by decide +kernel
theorem dL_law_546 : decode cL_law 546 = .ok (.iadd, 1) := by decide +kernel
theorem dL_law_547 : decode cL_law 547 = .ok (.iaload, 1) := by decide +kernel
theorem dL_law_548 : decode cL_law 548 = .ok (.invokevirtual 84, 3) := by decide +kernel
theorem dL_law_551 : decode cL_law 551 = .ok (.aload_n 2, 1) := by decide +kernel
theorem dL_law_552 : decode cL_law 552 = .ok (.aload_n 0, 1) := by decide +kernel
theorem dL_law_553 : decode cL_law 553 = .ok (.iload_n 3, 1) := by decide +kernel
theorem dL_law_554 : decode cL_law 554 = .ok (.iconst 1, 1) := by decide +kernel
theorem dL_law_555 : decode cL_law 555 = .ok (.iadd, 1) := by decide +kernel
theorem dL_law_556 : decode cL_law 556 = .ok (.iaload, 1) := by decide +kernel
theorem dL_law_557 : decode cL_law 557 = .ok (.aload_n 0, 1) := by decide +kernel
theorem dL_law_558 : decode cL_law 558 = .ok (.iload_n 3, 1) := by decide +kernel
theorem dL_law_559 : decode cL_law 559 = .ok (.iconst 2, 1) := by decide +kernel
theorem dL_law_560 : decode cL_law 560 = .ok (.iadd, 1) := by decide +kernel
theorem dL_law_561 : decode cL_law 561 = .ok (.iaload, 1) := by decide +kernel
theorem dL_law_562 : decode cL_law 562 = .ok (.aload_n 0, 1) := by decide +kernel
theorem dL_law_563 : decode cL_law 563 = .ok (.iload_n 3, 1) := by decide +kernel
theorem dL_law_564 : decode cL_law 564 = .ok (.iconst 3, 1) := by decide +kernel
theorem dL_law_565 : decode cL_law 565 = .ok (.iadd, 1) := by decide +kernel
theorem dL_law_566 : decode cL_law 566 = .ok (.iaload, 1) := by decide +kernel
theorem dL_law_567 : decode cL_law 567 = .ok (.invokevirtual 88, 3) := by decide +kernel
theorem dL_law_570 : decode cL_law 570 = .ok (.lcmp, 1) := by decide +kernel
theorem dL_law_571 : decode cL_law 571 = .ok (.ifCond .eq 209, 3) := by decide +kernel
theorem dL_law_574 : decode cL_law 574 = .ok (.iconst 0, 1) := by decide +kernel
theorem dL_law_575 : decode cL_law 575 = .ok (.ireturn, 1) := by decide +kernel
theorem dL_law_576 : decode cL_law 576 = .ok (.aload_n 1, 1) := by decide +kernel
theorem dL_law_577 : decode cL_law 577 = .ok (.aload_n 0, 1) := by decide +kernel
theorem dL_law_578 : decode cL_law 578 = .ok (.iload_n 3, 1) := by decide +kernel
theorem dL_law_579 : decode cL_law 579 = .ok (.iconst 1, 1) := by decide +kernel
theorem dL_law_580 : decode cL_law 580 = .ok (.iadd, 1) := by decide +kernel
theorem dL_law_581 : decode cL_law 581 = .ok (.iaload, 1) := by decide +kernel
theorem dL_law_582 : decode cL_law 582 = .ok (.aload_n 0, 1) := by decide +kernel
theorem dL_law_583 : decode cL_law 583 = .ok (.iload_n 3, 1) := by decide +kernel
theorem dL_law_584 : decode cL_law 584 = .ok (.iconst 2, 1) := by decide +kernel
theorem dL_law_585 : decode cL_law 585 = .ok (.iadd, 1) := by decide +kernel
theorem dL_law_586 : decode cL_law 586 = .ok (.iaload, 1) := by decide +kernel
theorem dL_law_587 : decode cL_law 587 = .ok (.invokevirtual 89, 3) := by decide +kernel
theorem dL_law_590 : decode cL_law 590 = .ok (.aload_n 2, 1) := by decide +kernel
theorem dL_law_591 : decode cL_law 591 = .ok (.aload_n 0, 1) := by decide +kernel
theorem dL_law_592 : decode cL_law 592 = .ok (.iload_n 3, 1) := by decide +kernel
theorem dL_law_593 : decode cL_law 593 = .ok (.iconst 1, 1) := by decide +kernel
theorem dL_law_594 : decode cL_law 594 = .ok (.iadd, 1) := by decide +kernel
theorem dL_law_595 : decode cL_law 595 = .ok (.iaload, 1) := by decide +kernel
theorem dL_law_596 : decode cL_law 596 = .ok (.aload_n 0, 1) := by decide +kernel
theorem dL_law_597 : decode cL_law 597 = .ok (.iload_n 3, 1) := by decide +kernel
theorem dL_law_598 : decode cL_law 598 = .ok (.iconst 2, 1) := by decide +kernel
theorem dL_law_599 : decode cL_law 599 = .ok (.iadd, 1) := by decide +kernel
theorem dL_law_600 : decode cL_law 600 = .ok (.iaload, 1) := by decide +kernel
theorem dL_law_601 : decode cL_law 601 = .ok (.invokevirtual 92, 3) := by decide +kernel
theorem dL_law_604 : decode cL_law 604 = .ok (.if_icmp .eq 176, 3) := by decide +kernel
theorem dL_law_607 : decode cL_law 607 = .ok (.iconst 0, 1) := by decide +kernel
theorem dL_law_608 : decode cL_law 608 = .ok (.ireturn, 1) := by decide +kernel
theorem dL_law_609 : decode cL_law 609 = .ok (.aload_n 1, 1) := by decide +kernel
theorem dL_law_610 : decode cL_law 610 = .ok (.aload_n 0, 1) := by decide +kernel
theorem dL_law_611 : decode cL_law 611 = .ok (.iload_n 3, 1) := by decide +kernel
theorem dL_law_612 : decode cL_law 612 = .ok (.iconst 1, 1) := by decide +kernel
theorem dL_law_613 : decode cL_law 613 = .ok (.iadd, 1) := by decide +kernel
theorem dL_law_614 : decode cL_law 614 = .ok (.iaload, 1) := by decide +kernel
theorem dL_law_615 : decode cL_law 615 = .ok (.aload_n 0, 1) := by decide +kernel
theorem dL_law_616 : decode cL_law 616 = .ok (.iload_n 3, 1) := by decide +kernel
theorem dL_law_617 : decode cL_law 617 = .ok (.iconst 2, 1) := by decide +kernel
theorem dL_law_618 : decode cL_law 618 = .ok (.iadd, 1) := by decide +kernel
theorem dL_law_619 : decode cL_law 619 = .ok (.iaload, 1) := by decide +kernel
theorem dL_law_620 : decode cL_law 620 = .ok (.aload_n 0, 1) := by decide +kernel
theorem dL_law_621 : decode cL_law 621 = .ok (.iload_n 3, 1) := by decide +kernel
theorem dL_law_622 : decode cL_law 622 = .ok (.iconst 3, 1) := by decide +kernel
theorem dL_law_623 : decode cL_law 623 = .ok (.iadd, 1) := by decide +kernel
theorem dL_law_624 : decode cL_law 624 = .ok (.iaload, 1) := by decide +kernel
theorem dL_law_625 : decode cL_law 625 = .ok (.invokevirtual 93, 3) := by decide +kernel
theorem dL_law_628 : decode cL_law 628 = .ok (.aload_n 2, 1) := by decide +kernel
theorem dL_law_629 : decode cL_law 629 = .ok (.aload_n 0, 1) := by decide +kernel
theorem dL_law_630 : decode cL_law 630 = .ok (.iload_n 3, 1) := by decide +kernel
theorem dL_law_631 : decode cL_law 631 = .ok (.iconst 1, 1) := by decide +kernel
theorem dL_law_632 : decode cL_law 632 = .ok (.iadd, 1) := by decide +kernel
theorem dL_law_633 : decode cL_law 633 = .ok (.iaload, 1) := by decide +kernel
theorem dL_law_634 : decode cL_law 634 = .ok (.aload_n 0, 1) := by decide +kernel
theorem dL_law_635 : decode cL_law 635 = .ok (.iload_n 3, 1) := by decide +kernel
theorem dL_law_636 : decode cL_law 636 = .ok (.iconst 2, 1) := by decide +kernel
theorem dL_law_637 : decode cL_law 637 = .ok (.iadd, 1) := by decide +kernel
theorem dL_law_638 : decode cL_law 638 = .ok (.iaload, 1) := by decide +kernel
theorem dL_law_639 : decode cL_law 639 = .ok (.aload_n 0, 1) := by decide +kernel
theorem dL_law_640 : decode cL_law 640 = .ok (.iload_n 3, 1) := by decide +kernel
theorem dL_law_641 : decode cL_law 641 = .ok (.iconst 3, 1) := by decide +kernel
theorem dL_law_642 : decode cL_law 642 = .ok (.iadd, 1) := by decide +kernel
theorem dL_law_643 : decode cL_law 643 = .ok (.iaload, 1) := by decide +kernel
theorem dL_law_644 : decode cL_law 644 = .ok (.invokevirtual 97, 3) := by decide +kernel
theorem dL_law_647 : decode cL_law 647 = .ok (.if_icmp .eq 133, 3) := by decide +kernel
theorem dL_law_650 : decode cL_law 650 = .ok (.iconst 0, 1) := by decide +kernel
theorem dL_law_651 : decode cL_law 651 = .ok (.ireturn, 1) := by decide +kernel
theorem dL_law_652 : decode cL_law 652 = .ok (.aload_n 1, 1) := by decide +kernel
theorem dL_law_653 : decode cL_law 653 = .ok (.aload_n 0, 1) := by decide +kernel
theorem dL_law_654 : decode cL_law 654 = .ok (.iload_n 3, 1) := by decide +kernel
theorem dL_law_655 : decode cL_law 655 = .ok (.iconst 1, 1) := by decide +kernel
theorem dL_law_656 : decode cL_law 656 = .ok (.iadd, 1) := by decide +kernel
theorem dL_law_657 : decode cL_law 657 = .ok (.iaload, 1) := by decide +kernel
theorem dL_law_658 : decode cL_law 658 = .ok (.invokevirtual 98, 3) := by decide +kernel
theorem dL_law_661 : decode cL_law 661 = .ok (.aload_n 2, 1) := by decide +kernel
theorem dL_law_662 : decode cL_law 662 = .ok (.aload_n 0, 1) := by decide +kernel
theorem dL_law_663 : decode cL_law 663 = .ok (.iload_n 3, 1) := by decide +kernel
theorem dL_law_664 : decode cL_law 664 = .ok (.iconst 1, 1) := by decide +kernel
theorem dL_law_665 : decode cL_law 665 = .ok (.iadd, 1) := by decide +kernel
theorem dL_law_666 : decode cL_law 666 = .ok (.iaload, 1) := by decide +kernel
theorem dL_law_667 : decode cL_law 667 = .ok (.invokevirtual 101, 3) := by decide +kernel
theorem dL_law_670 : decode cL_law 670 = .ok (.if_icmp .eq 110, 3) := by decide +kernel
theorem dL_law_673 : decode cL_law 673 = .ok (.iconst 0, 1) := by decide +kernel
theorem dL_law_674 : decode cL_law 674 = .ok (.ireturn, 1) := by decide +kernel
theorem dL_law_675 : decode cL_law 675 = .ok (.aload_n 1, 1) := by decide +kernel
theorem dL_law_676 : decode cL_law 676 = .ok (.invokevirtual 102, 3) := by decide +kernel
theorem dL_law_679 : decode cL_law 679 = .ok (.aload_n 2, 1) := by decide +kernel
theorem dL_law_680 : decode cL_law 680 = .ok (.invokevirtual 105, 3) := by decide +kernel
theorem dL_law_683 : decode cL_law 683 = .ok (.if_icmp .eq 97, 3) := by decide +kernel
theorem dL_law_686 : decode cL_law 686 = .ok (.iconst 0, 1) := by decide +kernel
theorem dL_law_687 : decode cL_law 687 = .ok (.ireturn, 1) := by decide +kernel
theorem dL_law_688 : decode cL_law 688 = .ok (.aload_n 1, 1) := by decide +kernel
theorem dL_law_689 : decode cL_law 689 = .ok (.aload_n 0, 1) := by decide +kernel
theorem dL_law_690 : decode cL_law 690 = .ok (.iload_n 3, 1) := by decide +kernel
theorem dL_law_691 : decode cL_law 691 = .ok (.iconst 1, 1) := by decide +kernel
theorem dL_law_692 : decode cL_law 692 = .ok (.iadd, 1) := by decide +kernel
theorem dL_law_693 : decode cL_law 693 = .ok (.iaload, 1) := by decide +kernel
theorem dL_law_694 : decode cL_law 694 = .ok (.aload_n 0, 1) := by decide +kernel
theorem dL_law_695 : decode cL_law 695 = .ok (.iload_n 3, 1) := by decide +kernel
theorem dL_law_696 : decode cL_law 696 = .ok (.iconst 2, 1) := by decide +kernel
theorem dL_law_697 : decode cL_law 697 = .ok (.iadd, 1) := by decide +kernel
theorem dL_law_698 : decode cL_law 698 = .ok (.iaload, 1) := by decide +kernel
theorem dL_law_699 : decode cL_law 699 = .ok (.aload_n 0, 1) := by decide +kernel
theorem dL_law_700 : decode cL_law 700 = .ok (.iload_n 3, 1) := by decide +kernel
theorem dL_law_701 : decode cL_law 701 = .ok (.iconst 3, 1) := by decide +kernel
theorem dL_law_702 : decode cL_law 702 = .ok (.iadd, 1) := by decide +kernel
theorem dL_law_703 : decode cL_law 703 = .ok (.iaload, 1) := by decide +kernel
theorem dL_law_704 : decode cL_law 704 = .ok (.invokevirtual 106, 3) := by decide +kernel
theorem dL_law_707 : decode cL_law 707 = .ok (.aload_n 2, 1) := by decide +kernel
theorem dL_law_708 : decode cL_law 708 = .ok (.aload_n 0, 1) := by decide +kernel
theorem dL_law_709 : decode cL_law 709 = .ok (.iload_n 3, 1) := by decide +kernel
theorem dL_law_710 : decode cL_law 710 = .ok (.iconst 1, 1) := by decide +kernel
theorem dL_law_711 : decode cL_law 711 = .ok (.iadd, 1) := by decide +kernel
theorem dL_law_712 : decode cL_law 712 = .ok (.iaload, 1) := by decide +kernel
theorem dL_law_713 : decode cL_law 713 = .ok (.aload_n 0, 1) := by decide +kernel
theorem dL_law_714 : decode cL_law 714 = .ok (.iload_n 3, 1) := by decide +kernel
theorem dL_law_715 : decode cL_law 715 = .ok (.iconst 2, 1) := by decide +kernel
theorem dL_law_716 : decode cL_law 716 = .ok (.iadd, 1) := by decide +kernel
theorem dL_law_717 : decode cL_law 717 = .ok (.iaload, 1) := by decide +kernel
theorem dL_law_718 : decode cL_law 718 = .ok (.aload_n 0, 1) := by decide +kernel
theorem dL_law_719 : decode cL_law 719 = .ok (.iload_n 3, 1) := by decide +kernel
theorem dL_law_720 : decode cL_law 720 = .ok (.iconst 3, 1) := by decide +kernel
theorem dL_law_721 : decode cL_law 721 = .ok (.iadd, 1) := by decide +kernel
theorem dL_law_722 : decode cL_law 722 = .ok (.iaload, 1) := by decide +kernel
theorem dL_law_723 : decode cL_law 723 = .ok (.invokevirtual 109, 3) := by decide +kernel
theorem dL_law_726 : decode cL_law 726 = .ok (.if_icmp .eq 54, 3) := by decide +kernel
theorem dL_law_729 : decode cL_law 729 = .ok (.iconst 0, 1) := by decide +kernel
theorem dL_law_730 : decode cL_law 730 = .ok (.ireturn, 1) := by decide +kernel
theorem dL_law_731 : decode cL_law 731 = .ok (.aload_n 1, 1) := by decide +kernel
theorem dL_law_732 : decode cL_law 732 = .ok (.invokevirtual 110, 3) := by decide +kernel
theorem dL_law_735 : decode cL_law 735 = .ok (.aload_n 2, 1) := by decide +kernel
theorem dL_law_736 : decode cL_law 736 = .ok (.invokevirtual 113, 3) := by decide +kernel
theorem dL_law_739 : decode cL_law 739 = .ok (.if_icmp .eq 41, 3) := by decide +kernel
theorem dL_law_742 : decode cL_law 742 = .ok (.iconst 0, 1) := by decide +kernel
theorem dL_law_743 : decode cL_law 743 = .ok (.ireturn, 1) := by decide +kernel
theorem dL_law_744 : decode cL_law 744 = .ok (.aload_n 1, 1) := by decide +kernel
theorem dL_law_745 : decode cL_law 745 = .ok (.invokevirtual 114, 3) := by decide +kernel
theorem dL_law_748 : decode cL_law 748 = .ok (.aload_n 2, 1) := by decide +kernel
theorem dL_law_749 : decode cL_law 749 = .ok (.invokevirtual 117, 3) := by decide +kernel
theorem dL_law_752 : decode cL_law 752 = .ok (.if_icmp .eq 28, 3) := by decide +kernel
theorem dL_law_755 : decode cL_law 755 = .ok (.iconst 0, 1) := by decide +kernel
theorem dL_law_756 : decode cL_law 756 = .ok (.ireturn, 1) := by decide +kernel
theorem dL_law_757 : decode cL_law 757 = .ok (.aload_n 1, 1) := by decide +kernel
theorem dL_law_758 : decode cL_law 758 = .ok (.aload_n 0, 1) := by decide +kernel
theorem dL_law_759 : decode cL_law 759 = .ok (.iload_n 3, 1) := by decide +kernel
theorem dL_law_760 : decode cL_law 760 = .ok (.iconst 1, 1) := by decide +kernel
theorem dL_law_761 : decode cL_law 761 = .ok (.iadd, 1) := by decide +kernel
theorem dL_law_762 : decode cL_law 762 = .ok (.iaload, 1) := by decide +kernel
theorem dL_law_763 : decode cL_law 763 = .ok (.invokevirtual 118, 3) := by decide +kernel
theorem dL_law_766 : decode cL_law 766 = .ok (.aload_n 2, 1) := by decide +kernel
theorem dL_law_767 : decode cL_law 767 = .ok (.aload_n 0, 1) := by decide +kernel
theorem dL_law_768 : decode cL_law 768 = .ok (.iload_n 3, 1) := by decide +kernel
theorem dL_law_769 : decode cL_law 769 = .ok (.iconst 1, 1) := by decide +kernel
theorem dL_law_770 : decode cL_law 770 = .ok (.iadd, 1) := by decide +kernel
theorem dL_law_771 : decode cL_law 771 = .ok (.iaload, 1) := by decide +kernel
theorem dL_law_772 : decode cL_law 772 = .ok (.invokevirtual 121, 3) := by decide +kernel
theorem dL_law_775 : decode cL_law 775 = .ok (.if_icmp .eq 5, 3) := by decide +kernel
theorem dL_law_778 : decode cL_law 778 = .ok (.iconst 0, 1) := by decide +kernel
theorem dL_law_779 : decode cL_law 779 = .ok (.ireturn, 1) := by decide +kernel
theorem dL_law_780 : decode cL_law 780 = .ok (.iinc 3 4, 3) := by decide +kernel
theorem dL_law_783 : decode cL_law 783 = .ok (.goto (-765), 3) := by decide +kernel
theorem dL_law_786 : decode cL_law 786 = .ok (.iconst 1, 1) := by decide +kernel
theorem dL_law_787 : decode cL_law 787 = .ok (.ireturn, 1) := by decide +kernel
end
section

/-! the tables' words that every contract may use; the nest words, which ride beside -/
def GW : List Cond := lw_tbl.filter goodWord
theorem gw_mem {w : Cond} (h : w ∈ lw_tbl) (hg : goodWord w = true) : w ∈ GW := List.mem_filter.mpr ⟨h, hg⟩
theorem gw_tbl {w : Cond} (h : w ∈ tables_1) (hg : goodWord w = true) : w ∈ GW := gw_mem (List.mem_append_right _ h) hg
def isNest : Cond → Bool
  | .fieldLinkNest _ _ _ _ _ _ => true
  | .methodLinkNest _ _ _ _ => true
  | _ => false
def nestW : List Cond := tables_1.filter isNest
theorem nw_mem {w : Cond} (h : w ∈ tables_1) (hg : isNest w = true) : w ∈ nestW := List.mem_filter.mpr ⟨h, hg⟩
abbrev GG : Type := Launch × (Nat → ClassId) × (Nat → Nat → Nat) × (ClassId × ClassId × ClassId) × (Nat → Nat) × Nat
abbrev gl (G : GG) : Launch := G.1
abbrev gD (G : GG) : va_G := (G.2.1, G.2.2.1)
abbrev gB (G : GG) : ClassId := G.2.2.2.1.1
abbrev gI (G : GG) : ClassId := G.2.2.2.1.2.1
abbrev gJ (G : GG) : ClassId := G.2.2.2.1.2.2
abbrev ga (G : GG) : Nat → Nat := G.2.2.2.2.1
abbrev gN (G : GG) : Nat := G.2.2.2.2.2
abbrev WW : Type := Nat → va_E
def wd (G : GG) (σ : WW) : va_W := (List.range (gN G)).map fun i => (ga G i, σ i)
theorem wd_at {G : GG} {σ : WW} {i : Nat} (h : i < gN G) : (wd G σ)[i]? = some (ga G i, σ i) := by
  simp [wd, List.getElem?_map, List.getElem?_range h]
theorem wd_lt {G : GG} {σ : WW} {i : Nat} {q : Nat × va_E} (h : (wd G σ)[i]? = some q) : i < gN G ∧ q = (ga G i, σ i) := by
  have hl : i < (wd G σ).length := (List.getElem?_eq_some_iff.mp h).1
  have hi : i < gN G := by simpa [wd] using hl
  rw [wd_at hi] at h
  exact ⟨hi, (Option.some.inj h).symm⟩
theorem wd_set {G : GG} {σ : WW} {i : Nat} (e : va_E) (h : i < gN G) : (wd G σ).set i (ga G i, e) = wd G (va_up σ i e) := by
  refine List.ext_getElem? fun j => ?_
  by_cases hj : j < gN G
  · rw [wd_at hj, List.getElem?_set]
    by_cases hij : i = j
    · subst hij
      simp [va_up, wd, h]
    · rw [if_neg hij, wd_at hj]
      simp [va_up, Ne.symm hij]
  · have e1 : (wd G (va_up σ i e))[j]? = none := by
      refine List.getElem?_eq_none ?_
      simp [wd]; omega
    rw [e1]
    refine List.getElem?_eq_none ?_
    simp [wd]; omega
def tys3 (G : GG) : List (ClassId × FieldType) := [(gB G, .byte), (gI G, .int), (gJ G, .long)]
def AA (G : GG) (sz : Nat) : Nat → Prop := fun q => (∃ i, i < gN G ∧ q = ga G i) ∨ sz ≤ q
theorem AA_mono {G : GG} {a b : Nat} (h : a ≤ b) : ∀ q, AA G b q → AA G a q := fun _ hq => hq.elim Or.inl (fun h1 => Or.inr (Nat.le_trans h h1))
def holdV : Nat → Value := fun j => .int (if j = 0 then (-1431655766) else if j = 1 then (-858993460) else if j = 2 then (-252645136) else if j = 3 then (-16711936) else (-65536))
def Hold (G : GG) (U : State) : Prop := ∃ t : Nat, va_Z "UnlikeGate$Strangers" "HOLDING" "[I" (.ref t) (AA G U.heap.size) U U.heap ∧ va_T .int t 5 holdV (AA G U.heap.size) U U.heap
def Inj (G : GG) : Prop := ∀ i j, i < gN G → j < gN G → ga G i = ga G j → i = j
def Ok (G : GG) (U : State) : Prop := va_K (gD G) vwCl (tys3 G) U ∧ (∀ w ∈ nestW, va_Nw w U) ∧ Inj G ∧ Hold G U
theorem wd_D {G : GG} {σ : WW} {sz : Nat} (h : Inj G) : va_D (AA G sz) (wd G σ) := by
  refine ⟨fun i j p q hp hq hpq => ?_, fun k q hk => ?_⟩
  · obtain ⟨h1, rfl⟩ := wd_lt hp
    obtain ⟨h2, rfl⟩ := wd_lt hq
    exact h i j h1 h2 hpq
  · obtain ⟨h1, rfl⟩ := wd_lt hk
    exact Or.inl ⟨k, h1, rfl⟩
/-- a method: its name, code, locals, answer's type, frames and locals' words that it takes -/
abbrev MM : Type := MethodName × ByteArray × Nat × Option FieldType × Nat × Nat
abbrev My (M : MM) : MethodName := M.1
abbrev Mc (M : MM) : ByteArray := M.2.1
abbrev Mn (M : MM) : Nat := M.2.2.1
abbrev Mt0 (M : MM) : Option FieldType := M.2.2.2.1
abbrev Mr (M : MM) : Room := { frames := M.2.2.2.2.1, cells := 0, slots := 0, locals := M.2.2.2.2.2 }
def wy (M : MM) : List Cond := .code (My M) (Mc M) (Mn M) (Mt0 M) :: GW
def Qr (G : GG) (r : Option Value) (σ' : WW) (sz : Nat) : Array Value → State → Outcome → State → Prop := fun _ st oc t => (oc = .returned r ∧ va_P (gD G) vwCl (wd G σ') t.heap) ∧ va_F (AA G sz) st t
def Pr (G : GG) (as : List Value) (σ : WW) (sz : Nat) : Array Value → State → Prop := va_Pc as (fun U => U.heap.size = sz ∧ va_P (gD G) vwCl (wd G σ) U.heap ∧ Ok G U)
/-- the method M, called with these values over the world σ, answers r and leaves σ' -/
def Mt (G : GG) (M : MM) (as : List Value) (σ : WW) (r : Option Value) (σ' : WW) : Prop := ∀ sz : Nat, Met (gl G) (My M) (wy M) (Mr M) (Pr G as σ sz) (Qr G r σ' sz) 0 0 (AA G sz)
abbrev KK : Type := Program × Env × State × MethodId × Array Value × List Frame × Method × Code
abbrev kp (κ : KK) : Program := κ.1
abbrev ke (κ : KK) : Env := κ.2.1
abbrev ks (κ : KK) : State := κ.2.2.1
abbrev km (κ : KK) : MethodId := κ.2.2.2.1
abbrev ka (κ : KK) : Array Value := κ.2.2.2.2.1
abbrev kb (κ : KK) : List Frame := κ.2.2.2.2.2.1
abbrev kh (κ : KK) : Method := κ.2.2.2.2.2.2.1
abbrev kc (κ : KK) : Code := κ.2.2.2.2.2.2.2
def lg : List (Nat × Value) → Nat → Option Value
  | [], _ => none
  | q :: t, k => if q.1 = k then some q.2 else lg t k
/-- what the locals hold, the first row of a place counting -/
def Has (ls : Array Slot) (n : Nat) (lv : List (Nat × Value)) : Prop := ls.size = n ∧ lv_wf ls ∧ ∀ k v, lg lv k = some v → ls[k]? = some (.val v)
/-- what stands through a method's body -/
def Cx (G : GG) (M : MM) (κ : KK) : Prop := (kp κ).tables.exec = Jvm.exec ∧ (kc κ).code = Mc M ∧ (kh κ).sig.returnType = Mt0 M ∧ (kc κ).maxLocals = Mn M ∧ (ks κ).vm.findClass (My M).cls = some (km κ).cls ∧ (∀ w ∈ GW, w.before (ka κ) (ks κ) = true) ∧ (kh κ).locks = false ∧ Ok G (ks κ)
/-- the machine at pc of M with these locals and this stack over the world σ will answer r and leave σ' -/
def Go (G : GG) (M : MM) (κ : KK) (r : Option Value) (σ' σ : WW) (pc : Nat) (lv : List (Nat × Value)) (st : List Value) : Prop :=
  ∀ (H : Heap) (locs : List Loc) (ls : Array Slot), va_P (gD G) vwCl (wd G σ) H → va_S (AA G (ks κ).heap.size) (ks κ).heap H locs → Has ls (Mn M) lv →
    W (kp κ) (gl G) (ke κ) (Mr M) (ks κ) (km κ) (ka κ) (kb κ) (kh κ) (kc κ) H locs 0 0 (MQ (kb κ) (Qr G r σ' (ks κ).heap.size) (ka κ) (ks κ) 0 0 (AA G (ks κ).heap.size)) (F0 (km κ) pc ls st)
theorem lg_mem : ∀ {lv : List (Nat × Value)} {k : Nat} {v : Value}, lg lv k = some v → (k, v) ∈ lv
  | q :: t, k, v, h => by
    unfold lg at h
    by_cases hq : q.1 = k
    · rw [if_pos hq] at h
      cases h
      exact List.mem_cons.mpr (Or.inl (by rw [← hq]))
    · rw [if_neg hq] at h
      exact List.mem_cons.mpr (Or.inr (lg_mem h))
theorem Has.ofv {ls : Array Slot} {n : Nat} {lv : List (Nat × Value)} (h : lv_has ls n lv) : Has ls n lv := ⟨h.1, h.2.1, fun k v hk => h.2.2 (k, v) (lg_mem hk)⟩
theorem Has.v1 {ls : Array Slot} {n : Nat} {lv : List (Nat × Value)} (h : Has ls n lv) {k : Nat} {v : Value} (hk : lg lv k = some v) : lv_has ls n [(k, v)] := ⟨h.1, h.2.1, fun q hq => by
  rw [List.mem_singleton.mp hq]
  exact h.2.2 k v hk⟩
/-- values of one word may be stored anywhere but behind a long that is still listed -/
def st1 (lv : List (Nat × Value)) (k : Nat) : Bool := match k with
  | 0 => true
  | j + 1 => match lg lv j with
    | some v => v.category != 2
    | none => true
theorem Has.store1 {ls : Array Slot} {n : Nat} {lv : List (Nat × Value)} {k : Nat} {v : Value} (h : Has ls n lv) (hk : k < n) (hc : v.category = 1) (hs : st1 lv k = true) : ∃ ls', storeLocals ls k v = some ls' ∧ Has ls' n ((k, v) :: lv) := by
  obtain ⟨ls0, h0, -⟩ := lv_store1 (l := []) (v := v) ⟨h.1, h.2.1, fun q hq => by cases hq⟩ hk hc
  refine ⟨ls0, h0, ?_⟩
  have key : ∀ j w, lg lv j = some w → j ≠ k → ls0[j]? = some (.val w) := by
    intro j w hj hne
    obtain ⟨ls1, h1, q1, q2, q3⟩ := lv_store1 (v := v) (h.v1 hj) hk hc
    rw [h0] at h1
    cases h1
    refine q3 (j, w) (List.mem_cons.mpr (Or.inr (List.mem_filter.mpr ⟨List.mem_singleton.mpr rfl, ?_⟩)))
    have a1 : (j == k) = false := by simpa using hne
    have a2 : (j + 1 == k && w.category == 2) = false := by
      by_cases e : j + 1 = k
      · subst e
        unfold st1 at hs
        simp only [hj] at hs
        have : w.category ≠ 2 := by simpa using hs
        simp [this]
      · simp [e]
    simp [a1, a2]
  obtain ⟨ls1, h1, q1, q2, q3⟩ := lv_store1 (l := []) (v := v) ⟨h.1, h.2.1, fun q hq => by cases hq⟩ hk hc
  rw [h0] at h1
  cases h1
  refine ⟨q1, q2, fun j w hj => ?_⟩
  unfold lg at hj
  by_cases e : k = j
  · rw [if_pos e] at hj
    cases hj
    subst e
    exact q3 (k, v) List.mem_cons_self
  · rw [if_neg e] at hj
    exact key j w hj (Ne.symm e)
def lvs (lv : List (Nat × Value)) : List (Nat × Value) → Prop
  | [] => True
  | q :: t => lg lv q.1 = some q.2 ∧ lvs lv t
theorem lvs_spec {lv : List (Nat × Value)} : ∀ {l2 : List (Nat × Value)}, lvs lv l2 → ∀ k v, lg l2 k = some v → lg lv k = some v
  | q :: t, h, k, v, hk => by
    unfold lg at hk
    by_cases e : q.1 = k
    · rw [if_pos e] at hk
      cases hk
      rw [← e]
      exact h.1
    · rw [if_neg e] at hk
      exact lvs_spec h.2 k v hk
section GO
variable {G : GG} {M : MM} {κ : KK} {r : Option Value} {σ σ' : WW} {pc : Nat} {lv : List (Nat × Value)} {st : List Value}
/-- fewer listed locals, in any order -/
theorem g_lv (lv' : List (Nat × Value)) (h : lvs lv lv') (k : Go G M κ r σ' σ pc lv' st) : Go G M κ r σ' σ pc lv st := fun H locs ls hP hS hl => k H locs ls hP hS ⟨hl.1, hl.2.1, fun a v ha => hl.2.2 a v (lvs_spec h a v ha)⟩
theorem Mt.of {as : List Value} (hp : plainName (My M).cls = true) (hn : (lg_sl as).length ≤ Mn M) (body : ∀ κ : KK, Cx G M κ → Go G M κ r σ' σ 0 (lv_args 0 as) []) : Mt G M as σ r σ' := by
  intro sz
  refine Met.ofW (cc := Mc M) (maxL := Mn M) (ret := Mt0 M) hp rfl ?_
  intro p e s m args below meth c s₁ B hml hv
  obtain ⟨rfl, rfl, hP, hok⟩ := hv
  have hts := atoms_spec (ws := wy M) B.pre
  have hl := lv_entry as (n := Mn M) hn
  rw [lg_entry_eq]
  exact body (p, e, s, m, as.toArray, below, meth, c) ⟨B.exec, B.bytes, B.returns, hml, findClass_of_methodNamed B.named, fun w hw => hts w (List.mem_cons_of_mem _ hw), B.notSynchronized, hok⟩ s.heap [] _ hP va_S.rf (Has.ofv hl)
theorem Qr.iret {v : Value} {t : State} {H : Heap} {locs : List Loc} (h1 : r = some v) (h2 : σ' = σ) (hP : va_P (gD G) vwCl (wd G σ) H) (hS : va_S (AA G (ks κ).heap.size) (ks κ).heap H locs) (ht : t.heap = H) : Qr G r σ' (ks κ).heap.size (ka κ) (ks κ) (.returned (some v)) t := ⟨⟨by rw [h1], by rw [ht, h2]; exact hP⟩, hS.F ht⟩
theorem g_ireturn (C : Cx G M κ) {v : Int32} (hd : decode (Mc M) pc = .ok (.ireturn, 1)) (hr : Mt0 M = some .int) (h1 : r = some (.int v)) (h2 : σ' = σ) : Go G M κ r σ' σ pc lv [.int v] := fun H locs ls hP hS hl =>
  W.iret C.1 C.2.1 (C.2.2.1.trans hr) (fun t ht _ => Qr.iret h1 h2 hP hS ht) hS.2.2 hd C.2.2.2.2.2.2.1
theorem g_zreturn (C : Cx G M κ) {v : Int32} (hd : decode (Mc M) pc = .ok (.ireturn, 1)) (hr : Mt0 M = some .boolean) (h0 : v = 0 ∨ v = 1) (h1 : r = some (.int v)) (h2 : σ' = σ) : Go G M κ r σ' σ pc lv [.int v] := fun H locs ls hP hS hl =>
  W.zret C.1 C.2.1 (C.2.2.1.trans hr) (by rcases h0 with rfl | rfl <;> rfl) (fun t ht _ => Qr.iret h1 h2 hP hS ht) hS.2.2 hd C.2.2.2.2.2.2.1
theorem g_lreturn (C : Cx G M κ) {v : Int64} (hd : decode (Mc M) pc = .ok (.lreturn, 1)) (hr : Mt0 M = some .long) (h1 : r = some (.long v)) (h2 : σ' = σ) : Go G M κ r σ' σ pc lv [.long v] := fun H locs ls hP hS hl =>
  W.lret C.1 C.2.1 (C.2.2.1.trans hr) (fun t ht _ => Qr.iret h1 h2 hP hS ht) hS.2.2 hd C.2.2.2.2.2.2.1
theorem g_return (C : Cx G M κ) (hd : decode (Mc M) pc = .ok (.return_, 1)) (hr : Mt0 M = none) (h1 : r = none) (h2 : σ' = σ) : Go G M κ r σ' σ pc lv [] := fun H locs ls hP hS hl =>
  W.vret C.1 C.2.1 (C.2.2.1.trans hr) (fun t ht _ => ⟨⟨by rw [h1], by rw [ht, h2]; exact hP⟩, hS.F ht⟩) hS.2.2 hd C.2.2.2.2.2.2.1

theorem g_iconst (C : Cx G M κ) {n : Int} {v : Int32} (hd : decode (Mc M) pc = .ok (.iconst n, 1)) (hv : Int32.ofInt n = v) (k : Go G M κ r σ' σ (pc + 1) lv (.int v :: st)) : Go G M κ r σ' σ pc lv (st) := fun H locs ls hP hS hl => lv_iconst C.1 C.2.1 hd hv (k H locs ls hP hS hl)
theorem g_bipush (C : Cx G M κ) {n : Int} {v : Int32} (hd : decode (Mc M) pc = .ok (.bipush n, 2)) (hv : (Int8.ofInt n).toInt32 = v) (k : Go G M κ r σ' σ (pc + 2) lv (.int v :: st)) : Go G M κ r σ' σ pc lv (st) := fun H locs ls hP hS hl => lv_bipush C.1 C.2.1 hd hv (k H locs ls hP hS hl)
theorem g_sipush (C : Cx G M κ) {n : Int} {v : Int32} (hd : decode (Mc M) pc = .ok (.sipush n, 3)) (hv : (Int16.ofInt n).toInt32 = v) (k : Go G M κ r σ' σ (pc + 3) lv (.int v :: st)) : Go G M κ r σ' σ pc lv (st) := fun H locs ls hP hS hl => lv_sipush C.1 C.2.1 hd hv (k H locs ls hP hS hl)
theorem g_lconst (C : Cx G M κ) {n : Fin 2} {v : Int64} (hd : decode (Mc M) pc = .ok (.lconst n, 1)) (hv : Int64.ofNat (n : Nat) = v) (k : Go G M κ r σ' σ (pc + 1) lv (.long v :: st)) : Go G M κ r σ' σ pc lv (st) := fun H locs ls hP hS hl => lv_lconst C.1 C.2.1 hd hv (k H locs ls hP hS hl)
theorem g_iload_n (C : Cx G M κ) {i : Fin 4} {x : Int32} (hd : decode (Mc M) pc = .ok (.iload_n i, 1)) (hx : lg lv (i : Nat) = some (.int x)) (k : Go G M κ r σ' σ (pc + 1) lv (.int x :: st)) : Go G M κ r σ' σ pc lv (st) := fun H locs ls hP hS hl => lv_iload_n C.1 C.2.1 hd rfl (hl.2.2 _ _ hx) (k H locs ls hP hS hl)
theorem g_iload (C : Cx G M κ) {i : Nat} {x : Int32} (hd : decode (Mc M) pc = .ok (.iload i, 2)) (hx : lg lv i = some (.int x)) (k : Go G M κ r σ' σ (pc + 2) lv (.int x :: st)) : Go G M κ r σ' σ pc lv (st) := fun H locs ls hP hS hl => lv_iload C.1 C.2.1 hd (hl.2.2 _ _ hx) (k H locs ls hP hS hl)
theorem g_lload_n (C : Cx G M κ) {i : Fin 4} {x : Int64} (hd : decode (Mc M) pc = .ok (.lload_n i, 1)) (hx : lg lv (i : Nat) = some (.long x)) (k : Go G M κ r σ' σ (pc + 1) lv (.long x :: st)) : Go G M κ r σ' σ pc lv (st) := fun H locs ls hP hS hl => lv_lload_n C.1 C.2.1 hd rfl (hl.2.2 _ _ hx) (k H locs ls hP hS hl)
theorem g_lload (C : Cx G M κ) {i : Nat} {x : Int64} (hd : decode (Mc M) pc = .ok (.lload i, 2)) (hx : lg lv i = some (.long x)) (k : Go G M κ r σ' σ (pc + 2) lv (.long x :: st)) : Go G M κ r σ' σ pc lv (st) := fun H locs ls hP hS hl => lv_lload C.1 C.2.1 hd (hl.2.2 _ _ hx) (k H locs ls hP hS hl)
theorem g_aload_n (C : Cx G M κ) {i : Fin 4} {x : Nat} (hd : decode (Mc M) pc = .ok (.aload_n i, 1)) (hx : lg lv (i : Nat) = some (.ref x)) (k : Go G M κ r σ' σ (pc + 1) lv (.ref x :: st)) : Go G M κ r σ' σ pc lv (st) := fun H locs ls hP hS hl => lv_aload_n C.1 C.2.1 hd rfl (hl.2.2 _ _ hx) (k H locs ls hP hS hl)
theorem g_aload (C : Cx G M κ) {i : Nat} {x : Nat} (hd : decode (Mc M) pc = .ok (.aload i, 2)) (hx : lg lv i = some (.ref x)) (k : Go G M κ r σ' σ (pc + 2) lv (.ref x :: st)) : Go G M κ r σ' σ pc lv (st) := fun H locs ls hP hS hl => lv_aload C.1 C.2.1 hd (hl.2.2 _ _ hx) (k H locs ls hP hS hl)
theorem g_iadd (C : Cx G M κ) {x y : Int32} (hd : decode (Mc M) pc = .ok (.iadd, 1)) (k : Go G M κ r σ' σ (pc + 1) lv (.int (x + y) :: st)) : Go G M κ r σ' σ pc lv (.int y :: .int x :: st) := fun H locs ls hP hS hl => lv_iadd C.1 C.2.1 hd (k H locs ls hP hS hl)
theorem g_isub (C : Cx G M κ) {x y : Int32} (hd : decode (Mc M) pc = .ok (.isub, 1)) (k : Go G M κ r σ' σ (pc + 1) lv (.int (x - y) :: st)) : Go G M κ r σ' σ pc lv (.int y :: .int x :: st) := fun H locs ls hP hS hl => lv_isub C.1 C.2.1 hd (k H locs ls hP hS hl)
theorem g_imul (C : Cx G M κ) {x y : Int32} (hd : decode (Mc M) pc = .ok (.imul, 1)) (k : Go G M κ r σ' σ (pc + 1) lv (.int (x * y) :: st)) : Go G M κ r σ' σ pc lv (.int y :: .int x :: st) := fun H locs ls hP hS hl => lv_imul C.1 C.2.1 hd (k H locs ls hP hS hl)
theorem g_iand (C : Cx G M κ) {x y : Int32} (hd : decode (Mc M) pc = .ok (.iand, 1)) (k : Go G M κ r σ' σ (pc + 1) lv (.int (x &&& y) :: st)) : Go G M κ r σ' σ pc lv (.int y :: .int x :: st) := fun H locs ls hP hS hl => lv_iand C.1 C.2.1 hd (k H locs ls hP hS hl)
theorem g_ior (C : Cx G M κ) {x y : Int32} (hd : decode (Mc M) pc = .ok (.ior, 1)) (k : Go G M κ r σ' σ (pc + 1) lv (.int (x ||| y) :: st)) : Go G M κ r σ' σ pc lv (.int y :: .int x :: st) := fun H locs ls hP hS hl => lv_ior C.1 C.2.1 hd (k H locs ls hP hS hl)
theorem g_ixor (C : Cx G M κ) {x y : Int32} (hd : decode (Mc M) pc = .ok (.ixor, 1)) (k : Go G M κ r σ' σ (pc + 1) lv (.int (x ^^^ y) :: st)) : Go G M κ r σ' σ pc lv (.int y :: .int x :: st) := fun H locs ls hP hS hl => lv_ixor C.1 C.2.1 hd (k H locs ls hP hS hl)
theorem g_ishl (C : Cx G M κ) {x y : Int32} (hd : decode (Mc M) pc = .ok (.ishl, 1)) (k : Go G M κ r σ' σ (pc + 1) lv (.int (x <<< (y &&& 31)) :: st)) : Go G M κ r σ' σ pc lv (.int y :: .int x :: st) := fun H locs ls hP hS hl => lv_ishl C.1 C.2.1 hd (k H locs ls hP hS hl)
theorem g_ishr (C : Cx G M κ) {x y : Int32} (hd : decode (Mc M) pc = .ok (.ishr, 1)) (k : Go G M κ r σ' σ (pc + 1) lv (.int (x >>> (y &&& 31)) :: st)) : Go G M κ r σ' σ pc lv (.int y :: .int x :: st) := fun H locs ls hP hS hl => lv_ishr C.1 C.2.1 hd (k H locs ls hP hS hl)
theorem g_iushr (C : Cx G M κ) {x y : Int32} (hd : decode (Mc M) pc = .ok (.iushr, 1)) (k : Go G M κ r σ' σ (pc + 1) lv (.int ((x.toUInt32 >>> (y.toUInt32 &&& Int32.toUInt32 31)).toInt32) :: st)) : Go G M κ r σ' σ pc lv (.int y :: .int x :: st) := fun H locs ls hP hS hl => lv_iushr C.1 C.2.1 hd rfl (k H locs ls hP hS hl)
theorem g_idiv (C : Cx G M κ) {x y : Int32} (hd : decode (Mc M) pc = .ok (.idiv, 1)) (hne : ¬ y = 0) (k : Go G M κ r σ' σ (pc + 1) lv (.int (x / y) :: st)) : Go G M κ r σ' σ pc lv (.int y :: .int x :: st) := fun H locs ls hP hS hl => lv_idiv C.1 C.2.1 hd hne (k H locs ls hP hS hl)
theorem g_irem (C : Cx G M κ) {x y : Int32} (hd : decode (Mc M) pc = .ok (.irem, 1)) (hne : ¬ y = 0) (k : Go G M κ r σ' σ (pc + 1) lv (.int (x - x / y * y) :: st)) : Go G M κ r σ' σ pc lv (.int y :: .int x :: st) := fun H locs ls hP hS hl => lv_irem C.1 C.2.1 hd hne (k H locs ls hP hS hl)
theorem g_ladd (C : Cx G M κ) {x y : Int64} (hd : decode (Mc M) pc = .ok (.ladd, 1)) (k : Go G M κ r σ' σ (pc + 1) lv (.long (x + y) :: st)) : Go G M κ r σ' σ pc lv (.long y :: .long x :: st) := fun H locs ls hP hS hl => lv_ladd C.1 C.2.1 hd (k H locs ls hP hS hl)
theorem g_lsub (C : Cx G M κ) {x y : Int64} (hd : decode (Mc M) pc = .ok (.lsub, 1)) (k : Go G M κ r σ' σ (pc + 1) lv (.long (x - y) :: st)) : Go G M κ r σ' σ pc lv (.long y :: .long x :: st) := fun H locs ls hP hS hl => lv_lsub C.1 C.2.1 hd (k H locs ls hP hS hl)
theorem g_lmul (C : Cx G M κ) {x y : Int64} (hd : decode (Mc M) pc = .ok (.lmul, 1)) (k : Go G M κ r σ' σ (pc + 1) lv (.long (x * y) :: st)) : Go G M κ r σ' σ pc lv (.long y :: .long x :: st) := fun H locs ls hP hS hl => lv_lmul C.1 C.2.1 hd (k H locs ls hP hS hl)
theorem g_land (C : Cx G M κ) {x y : Int64} (hd : decode (Mc M) pc = .ok (.land, 1)) (k : Go G M κ r σ' σ (pc + 1) lv (.long (x &&& y) :: st)) : Go G M κ r σ' σ pc lv (.long y :: .long x :: st) := fun H locs ls hP hS hl => lv_land C.1 C.2.1 hd (k H locs ls hP hS hl)
theorem g_lor (C : Cx G M κ) {x y : Int64} (hd : decode (Mc M) pc = .ok (.lor, 1)) (k : Go G M κ r σ' σ (pc + 1) lv (.long (x ||| y) :: st)) : Go G M κ r σ' σ pc lv (.long y :: .long x :: st) := fun H locs ls hP hS hl => lv_lor C.1 C.2.1 hd (k H locs ls hP hS hl)
theorem g_lrem (C : Cx G M κ) {x y : Int64} (hd : decode (Mc M) pc = .ok (.lrem, 1)) (hne : ¬ y = 0) (k : Go G M κ r σ' σ (pc + 1) lv (.long (x - x / y * y) :: st)) : Go G M κ r σ' σ pc lv (.long y :: .long x :: st) := fun H locs ls hP hS hl => lv_lrem C.1 C.2.1 hd hne (k H locs ls hP hS hl)
theorem g_lcmp (C : Cx G M κ) {x y : Int64} (hd : decode (Mc M) pc = .ok (.lcmp, 1)) (k : Go G M κ r σ' σ (pc + 1) lv (.int (lg_cmp x y) :: st)) : Go G M κ r σ' σ pc lv (.long y :: .long x :: st) := fun H locs ls hP hS hl => W.lcmp C.1 C.2.1 hd (k H locs ls hP hS hl)
theorem g_lshl (C : Cx G M κ) {x : Int64} {y : Int32} (hd : decode (Mc M) pc = .ok (.lshl, 1)) (k : Go G M κ r σ' σ (pc + 1) lv (.long (x <<< (y.toInt64 &&& 63)) :: st)) : Go G M κ r σ' σ pc lv (.int y :: .long x :: st) := fun H locs ls hP hS hl => lv_lshl C.1 C.2.1 hd rfl (k H locs ls hP hS hl)
theorem g_lshr (C : Cx G M κ) {x : Int64} {y : Int32} (hd : decode (Mc M) pc = .ok (.lshr, 1)) (k : Go G M κ r σ' σ (pc + 1) lv (.long (x >>> (y.toInt64 &&& 63)) :: st)) : Go G M κ r σ' σ pc lv (.int y :: .long x :: st) := fun H locs ls hP hS hl => lv_lshr C.1 C.2.1 hd rfl (k H locs ls hP hS hl)
theorem g_lushr (C : Cx G M κ) {x : Int64} {y : Int32} (hd : decode (Mc M) pc = .ok (.lushr, 1)) (k : Go G M κ r σ' σ (pc + 1) lv (.long ((x.toUInt64 >>> (y.toInt64.toUInt64 &&& Int64.toUInt64 63)).toInt64) :: st)) : Go G M κ r σ' σ pc lv (.int y :: .long x :: st) := fun H locs ls hP hS hl => lv_lushr C.1 C.2.1 hd rfl (k H locs ls hP hS hl)
theorem g_i2l (C : Cx G M κ) {x : Int32} (hd : decode (Mc M) pc = .ok (.i2l, 1)) (k : Go G M κ r σ' σ (pc + 1) lv (.long x.toInt64 :: st)) : Go G M κ r σ' σ pc lv (.int x :: st) := fun H locs ls hP hS hl => lv_i2l C.1 C.2.1 hd rfl (k H locs ls hP hS hl)
theorem g_l2i (C : Cx G M κ) {x : Int64} (hd : decode (Mc M) pc = .ok (.l2i, 1)) (k : Go G M κ r σ' σ (pc + 1) lv (.int x.toInt32 :: st)) : Go G M κ r σ' σ pc lv (.long x :: st) := fun H locs ls hP hS hl => lv_l2i C.1 C.2.1 hd rfl (k H locs ls hP hS hl)
theorem g_i2b (C : Cx G M κ) {x : Int32} (hd : decode (Mc M) pc = .ok (.i2b, 1)) (k : Go G M κ r σ' σ (pc + 1) lv (.int x.toInt8.toInt32 :: st)) : Go G M κ r σ' σ pc lv (.int x :: st) := fun H locs ls hP hS hl => lv_i2b C.1 C.2.1 hd rfl (k H locs ls hP hS hl)
theorem g_dup (C : Cx G M κ) {va : Value} (hd : decode (Mc M) pc = .ok (.dup, 1)) (hc : va.category = 1) (k : Go G M κ r σ' σ (pc + 1) lv (va :: va :: st)) : Go G M κ r σ' σ pc lv (va :: st) := fun H locs ls hP hS hl => lv_dup C.1 C.2.1 hd hc (k H locs ls hP hS hl)
theorem g_pop (C : Cx G M κ) {va : Value} (hd : decode (Mc M) pc = .ok (.pop, 1)) (hc : va.category = 1) (k : Go G M κ r σ' σ (pc + 1) lv (st)) : Go G M κ r σ' σ pc lv (va :: st) := fun H locs ls hP hS hl => lv_pop C.1 C.2.1 hd hc (k H locs ls hP hS hl)
theorem g_dup2 (C : Cx G M κ) {va vb : Value} (hd : decode (Mc M) pc = .ok (.dup2, 1)) (hc : va.category = 1) (hc2 : vb.category = 1) (k : Go G M κ r σ' σ (pc + 1) lv (va :: vb :: va :: vb :: st)) : Go G M κ r σ' σ pc lv (va :: vb :: st) := fun H locs ls hP hS hl => lv_dup2_11 C.1 C.2.1 hd hc hc2 (k H locs ls hP hS hl)
theorem g_ldc (C : Cx G M κ) {ix : Nat} {v : Int32} (hd : decode (Mc M) pc = .ok (.ldc ix, 2)) (hw : Cond.constant (My M).cls ix v ∈ GW) (k : Go G M κ r σ' σ (pc + 2) lv (.int v :: st)) : Go G M κ r σ' σ pc lv (st) := fun H locs ls hP hS hl => lv_ldc C.1 C.2.1 C.2.2.2.2.1 (C.2.2.2.2.2.1 _ hw) hd (k H locs ls hP hS hl)
theorem g_ldc2 (C : Cx G M κ) {ix : Nat} {v : Int64} (hd : decode (Mc M) pc = .ok (.ldc2_w ix, 3)) (hw : Cond.constantLong (My M).cls ix v ∈ GW) (k : Go G M κ r σ' σ (pc + 3) lv (.long v :: st)) : Go G M κ r σ' σ pc lv (st) := fun H locs ls hP hS hl => lv_ldc2 C.1 C.2.1 C.2.2.2.2.1 (C.2.2.2.2.2.1 _ hw) hd (k H locs ls hP hS hl)
theorem g_if_eq (C : Cx G M κ) {x : Int32} {off : Int} (tgt : Nat) (hd : decode (Mc M) pc = .ok (.ifCond .eq off, 3)) (ht : (pc : Int) + off = (tgt : Int)) (kt : x = 0 → Go G M κ r σ' σ tgt lv st) (kf : ¬ (x = 0) → Go G M κ r σ' σ (pc + 3) lv st) : Go G M κ r σ' σ pc lv (.int x :: st) := fun H locs ls hP hS hl => lv_if_eq C.1 C.2.1 hd ht (fun h => kt (by simpa using h) H locs ls hP hS hl) (fun h => kf (by simpa using h) H locs ls hP hS hl)
theorem g_icmp_eq (C : Cx G M κ) {x y : Int32} {off : Int} (tgt : Nat) (hd : decode (Mc M) pc = .ok (.if_icmp .eq off, 3)) (ht : (pc : Int) + off = (tgt : Int)) (kt : x = y → Go G M κ r σ' σ tgt lv st) (kf : ¬ (x = y) → Go G M κ r σ' σ (pc + 3) lv st) : Go G M κ r σ' σ pc lv (.int y :: .int x :: st) := fun H locs ls hP hS hl => lv_icmp_eq C.1 C.2.1 hd ht (fun h => kt (by simpa using h) H locs ls hP hS hl) (fun h => kf (by simpa using h) H locs ls hP hS hl)
theorem g_if_ne (C : Cx G M κ) {x : Int32} {off : Int} (tgt : Nat) (hd : decode (Mc M) pc = .ok (.ifCond .ne off, 3)) (ht : (pc : Int) + off = (tgt : Int)) (kt : ¬ x = 0 → Go G M κ r σ' σ tgt lv st) (kf : ¬ (¬ x = 0) → Go G M κ r σ' σ (pc + 3) lv st) : Go G M κ r σ' σ pc lv (.int x :: st) := fun H locs ls hP hS hl => lv_if_ne C.1 C.2.1 hd ht (fun h => kt (by simpa using h) H locs ls hP hS hl) (fun h => kf (by simpa using h) H locs ls hP hS hl)
theorem g_icmp_ne (C : Cx G M κ) {x y : Int32} {off : Int} (tgt : Nat) (hd : decode (Mc M) pc = .ok (.if_icmp .ne off, 3)) (ht : (pc : Int) + off = (tgt : Int)) (kt : ¬ x = y → Go G M κ r σ' σ tgt lv st) (kf : ¬ (¬ x = y) → Go G M κ r σ' σ (pc + 3) lv st) : Go G M κ r σ' σ pc lv (.int y :: .int x :: st) := fun H locs ls hP hS hl => lv_icmp_ne C.1 C.2.1 hd ht (fun h => kt (by simpa using h) H locs ls hP hS hl) (fun h => kf (by simpa using h) H locs ls hP hS hl)
theorem g_if_lt (C : Cx G M κ) {x : Int32} {off : Int} (tgt : Nat) (hd : decode (Mc M) pc = .ok (.ifCond .lt off, 3)) (ht : (pc : Int) + off = (tgt : Int)) (kt : x < 0 → Go G M κ r σ' σ tgt lv st) (kf : ¬ (x < 0) → Go G M κ r σ' σ (pc + 3) lv st) : Go G M κ r σ' σ pc lv (.int x :: st) := fun H locs ls hP hS hl => lv_if_lt C.1 C.2.1 hd ht (fun h => kt (by simpa using h) H locs ls hP hS hl) (fun h => kf (by simpa using h) H locs ls hP hS hl)
theorem g_icmp_lt (C : Cx G M κ) {x y : Int32} {off : Int} (tgt : Nat) (hd : decode (Mc M) pc = .ok (.if_icmp .lt off, 3)) (ht : (pc : Int) + off = (tgt : Int)) (kt : x < y → Go G M κ r σ' σ tgt lv st) (kf : ¬ (x < y) → Go G M κ r σ' σ (pc + 3) lv st) : Go G M κ r σ' σ pc lv (.int y :: .int x :: st) := fun H locs ls hP hS hl => lv_icmp_lt C.1 C.2.1 hd ht (fun h => kt (by simpa using h) H locs ls hP hS hl) (fun h => kf (by simpa using h) H locs ls hP hS hl)
theorem g_if_ge (C : Cx G M κ) {x : Int32} {off : Int} (tgt : Nat) (hd : decode (Mc M) pc = .ok (.ifCond .ge off, 3)) (ht : (pc : Int) + off = (tgt : Int)) (kt : 0 ≤ x → Go G M κ r σ' σ tgt lv st) (kf : ¬ (0 ≤ x) → Go G M κ r σ' σ (pc + 3) lv st) : Go G M κ r σ' σ pc lv (.int x :: st) := fun H locs ls hP hS hl => lv_if_ge C.1 C.2.1 hd ht (fun h => kt (by simpa using h) H locs ls hP hS hl) (fun h => kf (by simpa using h) H locs ls hP hS hl)
theorem g_icmp_ge (C : Cx G M κ) {x y : Int32} {off : Int} (tgt : Nat) (hd : decode (Mc M) pc = .ok (.if_icmp .ge off, 3)) (ht : (pc : Int) + off = (tgt : Int)) (kt : y ≤ x → Go G M κ r σ' σ tgt lv st) (kf : ¬ (y ≤ x) → Go G M κ r σ' σ (pc + 3) lv st) : Go G M κ r σ' σ pc lv (.int y :: .int x :: st) := fun H locs ls hP hS hl => lv_icmp_ge C.1 C.2.1 hd ht (fun h => kt (by simpa using h) H locs ls hP hS hl) (fun h => kf (by simpa using h) H locs ls hP hS hl)
theorem g_if_gt (C : Cx G M κ) {x : Int32} {off : Int} (tgt : Nat) (hd : decode (Mc M) pc = .ok (.ifCond .gt off, 3)) (ht : (pc : Int) + off = (tgt : Int)) (kt : 0 < x → Go G M κ r σ' σ tgt lv st) (kf : ¬ (0 < x) → Go G M κ r σ' σ (pc + 3) lv st) : Go G M κ r σ' σ pc lv (.int x :: st) := fun H locs ls hP hS hl => lv_if_gt C.1 C.2.1 hd ht (fun h => kt (by simpa using h) H locs ls hP hS hl) (fun h => kf (by simpa using h) H locs ls hP hS hl)
theorem g_icmp_gt (C : Cx G M κ) {x y : Int32} {off : Int} (tgt : Nat) (hd : decode (Mc M) pc = .ok (.if_icmp .gt off, 3)) (ht : (pc : Int) + off = (tgt : Int)) (kt : y < x → Go G M κ r σ' σ tgt lv st) (kf : ¬ (y < x) → Go G M κ r σ' σ (pc + 3) lv st) : Go G M κ r σ' σ pc lv (.int y :: .int x :: st) := fun H locs ls hP hS hl => lv_icmp_gt C.1 C.2.1 hd ht (fun h => kt (by simpa using h) H locs ls hP hS hl) (fun h => kf (by simpa using h) H locs ls hP hS hl)
theorem g_if_le (C : Cx G M κ) {x : Int32} {off : Int} (tgt : Nat) (hd : decode (Mc M) pc = .ok (.ifCond .le off, 3)) (ht : (pc : Int) + off = (tgt : Int)) (kt : x ≤ 0 → Go G M κ r σ' σ tgt lv st) (kf : ¬ (x ≤ 0) → Go G M κ r σ' σ (pc + 3) lv st) : Go G M κ r σ' σ pc lv (.int x :: st) := fun H locs ls hP hS hl => lv_if_le C.1 C.2.1 hd ht (fun h => kt (by simpa using h) H locs ls hP hS hl) (fun h => kf (by simpa using h) H locs ls hP hS hl)
theorem g_icmp_le (C : Cx G M κ) {x y : Int32} {off : Int} (tgt : Nat) (hd : decode (Mc M) pc = .ok (.if_icmp .le off, 3)) (ht : (pc : Int) + off = (tgt : Int)) (kt : x ≤ y → Go G M κ r σ' σ tgt lv st) (kf : ¬ (x ≤ y) → Go G M κ r σ' σ (pc + 3) lv st) : Go G M κ r σ' σ pc lv (.int y :: .int x :: st) := fun H locs ls hP hS hl => lv_icmp_le C.1 C.2.1 hd ht (fun h => kt (by simpa using h) H locs ls hP hS hl) (fun h => kf (by simpa using h) H locs ls hP hS hl)
theorem g_goto (C : Cx G M κ) {off : Int} (tgt : Nat) (hd : decode (Mc M) pc = .ok (.goto off, 3)) (ht : (pc : Int) + off = (tgt : Int)) (k : Go G M κ r σ' σ tgt lv st) : Go G M κ r σ' σ pc lv st := fun H locs ls hP hS hl => lv_goto C.1 C.2.1 hd ht (k H locs ls hP hS hl)
end GO
end
section
section GO2
variable {G : GG} {M : MM} {κ : KK} {r : Option Value} {σ σ' : WW} {pc : Nat} {lv : List (Nat × Value)} {st : List Value}
theorem g_istore_n (C : Cx G M κ) {i : Fin 4} {x : Int32} (hd : decode (Mc M) pc = .ok (.istore_n i, 1)) (hn : (i : Nat) < Mn M) (hs : st1 lv (i : Nat) = true) (k : Go G M κ r σ' σ (pc + 1) (((i : Nat), .int x) :: lv) st) : Go G M κ r σ' σ pc lv (.int x :: st) := by
  intro H locs ls hP hS hl
  obtain ⟨ls', e', h'⟩ := hl.store1 (v := .int x) hn rfl hs
  intro T hT X
  obtain ⟨t, a, b⟩ := k H locs ls' hP hS h' T hT X
  refine ⟨t, ?_, b⟩
  have hexec := C.1
  have hb := C.2.1
  jvm_step X.here [X.here.top, ↓top_set X.here.top, hexec, hb, hd, e']
  exact a
theorem g_istore (C : Cx G M κ) {i : Nat} {x : Int32} (hd : decode (Mc M) pc = .ok (.istore i, 2)) (hn : i < Mn M) (hs : st1 lv i = true) (k : Go G M κ r σ' σ (pc + 2) ((i, .int x) :: lv) st) : Go G M κ r σ' σ pc lv (.int x :: st) := by
  intro H locs ls hP hS hl
  obtain ⟨ls', e', h'⟩ := hl.store1 (v := .int x) hn rfl hs
  intro T hT X
  obtain ⟨t, a, b⟩ := k H locs ls' hP hS h' T hT X
  refine ⟨t, ?_, b⟩
  have hexec := C.1
  have hb := C.2.1
  jvm_step X.here [X.here.top, ↓top_set X.here.top, hexec, hb, hd, e']
  exact a
theorem g_astore_n (C : Cx G M κ) {i : Fin 4} {x : Nat} (hd : decode (Mc M) pc = .ok (.astore_n i, 1)) (hn : (i : Nat) < Mn M) (hs : st1 lv (i : Nat) = true) (k : Go G M κ r σ' σ (pc + 1) (((i : Nat), .ref x) :: lv) st) : Go G M κ r σ' σ pc lv (.ref x :: st) := by
  intro H locs ls hP hS hl
  obtain ⟨ls', e', h'⟩ := hl.store1 (v := .ref x) hn rfl hs
  intro T hT X
  obtain ⟨t, a, b⟩ := k H locs ls' hP hS h' T hT X
  refine ⟨t, ?_, b⟩
  have hexec := C.1
  have hb := C.2.1
  jvm_step X.here [X.here.top, ↓top_set X.here.top, hexec, hb, hd, e', Value.isRef]
  exact a
theorem g_astore (C : Cx G M κ) {i : Nat} {x : Nat} (hd : decode (Mc M) pc = .ok (.astore i, 2)) (hn : i < Mn M) (hs : st1 lv i = true) (k : Go G M κ r σ' σ (pc + 2) ((i, .ref x) :: lv) st) : Go G M κ r σ' σ pc lv (.ref x :: st) := by
  intro H locs ls hP hS hl
  obtain ⟨ls', e', h'⟩ := hl.store1 (v := .ref x) hn rfl hs
  intro T hT X
  obtain ⟨t, a, b⟩ := k H locs ls' hP hS h' T hT X
  refine ⟨t, ?_, b⟩
  have hexec := C.1
  have hb := C.2.1
  jvm_step X.here [X.here.top, ↓top_set X.here.top, hexec, hb, hd, e', Value.isRef]
  exact a
theorem g_iinc (C : Cx G M κ) {i : Nat} {n : Int} {x : Int32} (hd : decode (Mc M) pc = .ok (.iinc i n, 3)) (hx : lg lv i = some (.int x)) (hn : i < Mn M) (hs : st1 lv i = true) (k : Go G M κ r σ' σ (pc + 3) ((i, .int (x + Int32.ofInt n)) :: lv) st) : Go G M κ r σ' σ pc lv st := by
  intro H locs ls hP hS hl
  obtain ⟨ls', e', h'⟩ := hl.store1 (v := .int (x + Int32.ofInt n)) hn rfl hs
  have hg := hl.2.2 _ _ hx
  intro T hT X
  obtain ⟨t, a, b⟩ := k H locs ls' hP hS h' T hT X
  refine ⟨t, ?_, b⟩
  have hexec := C.1
  have hb := C.2.1
  jvm_step X.here [X.here.top, ↓top_set X.here.top, hexec, hb, hd, hg, e']
  exact a
/-- a long is stored: the rows lv' go on beside it -/
theorem Has.store2 {ls : Array Slot} {n : Nat} {l2 : List (Nat × Value)} {k : Nat} {x : Int64} (h : Has ls n l2) (hk : k + 1 < n) (h1 : lg l2 (k + 1) = none) (hs : st1 l2 k = true) : ∃ ls', storeLocals ls k (.long x) = some ls' ∧ Has ls' n ((k, .long x) :: l2) := by
  obtain ⟨ls0, h0, q1, q2, q3⟩ := lv_store2 (l := []) (v := .long x) ⟨h.1, h.2.1, fun q hq => by cases hq⟩ hk rfl
  refine ⟨ls0, h0, q1, q2, fun j w hj => ?_⟩
  unfold lg at hj
  by_cases e : k = j
  · rw [if_pos e] at hj
    cases hj
    subst e
    exact q3 (k, .long x) List.mem_cons_self
  · rw [if_neg e] at hj
    obtain ⟨ls1, h1', p1, p2, p3⟩ := lv_store2 (v := .long x) (h.v1 hj) hk rfl
    rw [h0] at h1'
    cases h1'
    refine p3 (j, w) (List.mem_cons.mpr (Or.inr (List.mem_filter.mpr ⟨List.mem_singleton.mpr rfl, ?_⟩)))
    have a1 : (j == k) = false := by simpa using Ne.symm e
    have a0 : (j == k + 1) = false := by
      have : j ≠ k + 1 := fun q => by rw [q, h1] at hj; cases hj
      simpa using this
    have a2 : (j + 1 == k && w.category == 2) = false := by
      by_cases e : j + 1 = k
      · subst e
        unfold st1 at hs
        simp only [hj] at hs
        have : w.category ≠ 2 := by simpa using hs
        simp [this]
      · simp [e]
    simp [a0, a1, a2]
theorem g_lstore_n (C : Cx G M κ) {i : Fin 4} {x : Int64} (lv' : List (Nat × Value)) (hd : decode (Mc M) pc = .ok (.lstore_n i, 1)) (hn : (i : Nat) + 1 < Mn M) (hv : lvs lv lv') (h1 : lg lv' ((i : Nat) + 1) = none) (hs : st1 lv' (i : Nat) = true) (k : Go G M κ r σ' σ (pc + 1) (((i : Nat), .long x) :: lv') st) : Go G M κ r σ' σ pc lv (.long x :: st) := by
  intro H locs ls hP hS hl
  obtain ⟨ls', e', h'⟩ := Has.store2 (x := x) (l2 := lv') ⟨hl.1, hl.2.1, fun a v ha => hl.2.2 a v (lvs_spec hv a v ha)⟩ hn h1 hs
  intro T hT X
  obtain ⟨t, a, b⟩ := k H locs ls' hP hS h' T hT X
  refine ⟨t, ?_, b⟩
  have hexec := C.1
  have hb := C.2.1
  jvm_step X.here [X.here.top, ↓top_set X.here.top, hexec, hb, hd, e']
  exact a
theorem g_lstore (C : Cx G M κ) {i : Nat} {x : Int64} (lv' : List (Nat × Value)) (hd : decode (Mc M) pc = .ok (.lstore i, 2)) (hn : i + 1 < Mn M) (hv : lvs lv lv') (h1 : lg lv' (i + 1) = none) (hs : st1 lv' i = true) (k : Go G M κ r σ' σ (pc + 2) ((i, .long x) :: lv') st) : Go G M κ r σ' σ pc lv (.long x :: st) := by
  intro H locs ls hP hS hl
  obtain ⟨ls', e', h'⟩ := Has.store2 (x := x) (l2 := lv') ⟨hl.1, hl.2.1, fun a v ha => hl.2.2 a v (lvs_spec hv a v ha)⟩ hn h1 hs
  intro T hT X
  obtain ⟨t, a, b⟩ := k H locs ls' hP hS h' T hT X
  refine ⟨t, ?_, b⟩
  have hexec := C.1
  have hb := C.2.1
  jvm_step X.here [X.here.top, ↓top_set X.here.top, hexec, hb, hd, e']
  exact a

theorem Cx.okk (C : Cx G M κ) : Ok G (ks κ) := C.2.2.2.2.2.2.2
theorem Cx.ts (C : Cx G M κ) : ∀ w ∈ GW, w.before (ka κ) (ks κ) = true := C.2.2.2.2.2.1
theorem Cx.own (C : Cx G M κ) : (ks κ).vm.findClass (My M).cls = some (km κ).cls := C.2.2.2.2.1
theorem Cx.ml (C : Cx G M κ) : (kc κ).maxLocals = Mn M := C.2.2.2.1
theorem Cx.nest (C : Cx G M κ) {w : Cond} (h : w ∈ nestW) (ht : w.onTables = true) : w.before (ka κ) (ks κ) = true := va_Nw.use ht (C.okk.2.1 w h)
theorem wd_is {i : Nat} {e : va_E} (hi : i < gN G) (hσ : σ i = e) : (wd G σ)[i]? = some (ga G i, e) := by rw [wd_at hi, hσ]
/-- fields -/
theorem g_getf (C : Cx G M κ) {ix ci k n i : Nat} {Cn : String} {T : u_T} {fs : List Value} {v : Value} (hd : decode (Mc M) pc = .ok (.getfield ix, 3)) (hc : vwCl[ci]? = some (Cn, T, n)) (hin : ∀ w ∈ u_ws Cn T n, w ∈ GW) (hk : k < n) (hw : Cond.fieldLink (My M).cls ix (T k).1 (T k).2.1 (T k).2.2.1 ∈ GW) (hi : i < gN G) (hσ : σ i = .inr (ci, fs)) (hv : fs[k]? = some v) (kk : Go G M κ r σ' σ (pc + 3) lv (v :: st)) : Go G M κ r σ' σ pc lv (.ref (ga G i) :: st) := fun H locs ls hP hS hl =>
  va_get (D := gD G) (ci := ci) (v := v) (C := Cn) (T := T) (N := n) C.1 C.2.1 C.ts hin C.own C.okk.1 hP i (wd_is hi hσ) hc k hk (C.ts _ hw) (fun _ h => h) hv hd (kk H locs ls hP hS hl)
theorem g_getn (C : Cx G M κ) {ix ci k n i : Nat} {Cn host : String} {T : u_T} {fs : List Value} {v : Value} (hd : decode (Mc M) pc = .ok (.getfield ix, 3)) (hc : vwCl[ci]? = some (Cn, T, n)) (hin : ∀ w ∈ u_ws Cn T n, w ∈ GW) (hk : k < n) (hw : Cond.fieldLinkNest (My M).cls ix (T k).1 (T k).2.1 (T k).2.2.1 host ∈ nestW) (hi : i < gN G) (hσ : σ i = .inr (ci, fs)) (hv : fs[k]? = some v) (kk : Go G M κ r σ' σ (pc + 3) lv (v :: st)) : Go G M κ r σ' σ pc lv (.ref (ga G i) :: st) := fun H locs ls hP hS hl =>
  va_getN (D := gD G) (ci := ci) (v := v) (C := Cn) (T := T) (N := n) C.1 C.2.1 C.ts hin C.own C.okk.1 hP i (wd_is hi hσ) hc k hk (C.nest hw rfl) (fun _ h => h) hv hd (kk H locs ls hP hS hl)
theorem g_putf (C : Cx G M κ) {ix ci k n i : Nat} {Cn : String} {T : u_T} {ty0 : Nat → FieldType} {ty : FieldType} {fs : List Value} {v : Value} (hd : decode (Mc M) pc = .ok (.putfield ix, 3)) (hc : vwCl[ci]? = some (Cn, T, n)) (hin : ∀ w ∈ u_ws Cn T n, w ∈ GW) (hty : ∀ k, k < n → parseFieldDescriptor (T k).2.2.1 = some (ty0 k)) (hnm : ∀ a, a < n → ∀ b, b < n → a ≠ b → (T a).2.1 ≠ (T b).2.1) (hk : k < n) (hw : Cond.fieldLink (My M).cls ix (T k).1 (T k).2.1 (T k).2.2.1 ∈ GW) (hfin : (T k).2.2.2 = false) (hpd : parseFieldDescriptor (T k).2.2.1 = some ty) (hi : i < gN G) (hσ : σ i = .inr (ci, fs)) (hn : narrow ty v = v) (hfit : fits ty v = true) (hl : k < fs.length) (kk : Go G M κ r σ' (va_up σ i (.inr (ci, fs.set k v))) (pc + 3) lv st) : Go G M κ r σ' σ pc lv (v :: .ref (ga G i) :: st) := fun H locs ls hP hS hl2 =>
  va_put (D := gD G) (ci := ci) (v := v) (C := Cn) (T := T) (N := n) C.1 C.2.1 C.ts hin ty0 hty hnm C.own C.okk.1 hP (wd_D C.okk.2.2.1) hS i (wd_is hi hσ) hc k hk (C.ts _ hw) (fun _ h => h) hfin hpd hn hfit hl hd (fun H1 locs1 h1 _ h3 => kk H1 locs1 ls (by rw [← wd_set _ hi]; exact h1) h3 hl2)
theorem g_putn (C : Cx G M κ) {ix ci k n i : Nat} {Cn host : String} {T : u_T} {ty0 : Nat → FieldType} {ty : FieldType} {fs : List Value} {v : Value} (hd : decode (Mc M) pc = .ok (.putfield ix, 3)) (hc : vwCl[ci]? = some (Cn, T, n)) (hin : ∀ w ∈ u_ws Cn T n, w ∈ GW) (hty : ∀ k, k < n → parseFieldDescriptor (T k).2.2.1 = some (ty0 k)) (hnm : ∀ a, a < n → ∀ b, b < n → a ≠ b → (T a).2.1 ≠ (T b).2.1) (hk : k < n) (hw : Cond.fieldLinkNest (My M).cls ix (T k).1 (T k).2.1 (T k).2.2.1 host ∈ nestW) (hfin : (T k).2.2.2 = false) (hpd : parseFieldDescriptor (T k).2.2.1 = some ty) (hi : i < gN G) (hσ : σ i = .inr (ci, fs)) (hn : narrow ty v = v) (hfit : fits ty v = true) (hl : k < fs.length) (kk : Go G M κ r σ' (va_up σ i (.inr (ci, fs.set k v))) (pc + 3) lv st) : Go G M κ r σ' σ pc lv (v :: .ref (ga G i) :: st) := fun H locs ls hP hS hl2 =>
  va_putN (D := gD G) (ci := ci) (v := v) (C := Cn) (T := T) (N := n) C.1 C.2.1 C.ts hin ty0 hty hnm C.own C.okk.1 hP (wd_D C.okk.2.2.1) hS i (wd_is hi hσ) hc k hk (C.nest hw rfl) (fun _ h => h) hfin hpd hn hfit hl hd (fun H1 locs1 h1 _ h3 => kk H1 locs1 ls (by rw [← wd_set _ hi]; exact h1) h3 hl2)
/-- arrays -/
theorem g_iaload (C : Cx G M κ) {i n : Nat} {f : Nat → Int32} {j : Int32} (hd : decode (Mc M) pc = .ok (.iaload, 1)) (hi : i < gN G) (hσ : σ i = .inl (gI G, n, .inl f)) (hj : vp_in j n) (kk : Go G M κ r σ' σ (pc + 1) lv (.int (f j.toNatClampNeg) :: st)) : Go G M κ r σ' σ pc lv (.int j :: .ref (ga G i) :: st) := fun H locs ls hP hS hl =>
  va_iald C.1 C.2.1 C.okk.1 hP i 1 (wd_is hi hσ) rfl hj hd (kk H locs ls hP hS hl)
theorem g_baload (C : Cx G M κ) {i n : Nat} {f : Nat → Int32} {j : Int32} (hd : decode (Mc M) pc = .ok (.baload, 1)) (hi : i < gN G) (hσ : σ i = .inl (gB G, n, .inl f)) (hj : vp_in j n) (kk : Go G M κ r σ' σ (pc + 1) lv (.int (f j.toNatClampNeg) :: st)) : Go G M κ r σ' σ pc lv (.int j :: .ref (ga G i) :: st) := fun H locs ls hP hS hl =>
  va_bald C.1 C.2.1 C.okk.1 hP i 0 (wd_is hi hσ) rfl hj hd (kk H locs ls hP hS hl)
theorem g_laload (C : Cx G M κ) {i n : Nat} {f : Nat → Int64} {j : Int32} (hd : decode (Mc M) pc = .ok (.laload, 1)) (hi : i < gN G) (hσ : σ i = .inl (gJ G, n, .inr (.inl f))) (hj : vp_in j n) (kk : Go G M κ r σ' σ (pc + 1) lv (.long (f j.toNatClampNeg) :: st)) : Go G M κ r σ' σ pc lv (.int j :: .ref (ga G i) :: st) := fun H locs ls hP hS hl =>
  va_lald C.1 C.2.1 C.okk.1 hP i 2 (wd_is hi hσ) rfl hj hd (kk H locs ls hP hS hl)
theorem g_iastore (C : Cx G M κ) {i n : Nat} {f : Nat → Int32} {j x : Int32} (hd : decode (Mc M) pc = .ok (.iastore, 1)) (hi : i < gN G) (hσ : σ i = .inl (gI G, n, .inl f)) (hj : vp_in j n) (kk : Go G M κ r σ' (va_up σ i (.inl (gI G, n, .inl (upd f j.toNatClampNeg x)))) (pc + 1) lv st) : Go G M κ r σ' σ pc lv (.int x :: .int j :: .ref (ga G i) :: st) := fun H locs ls hP hS hl =>
  va_iast C.1 C.2.1 C.okk.1 hP (wd_D C.okk.2.2.1) hS i 1 (wd_is hi hσ) rfl hj hd (fun H1 locs1 h1 _ h3 => kk H1 locs1 ls (by rw [← wd_set _ hi]; exact h1) h3 hl)
theorem g_bastore (C : Cx G M κ) {i n : Nat} {f : Nat → Int32} {j x : Int32} (hd : decode (Mc M) pc = .ok (.bastore, 1)) (hi : i < gN G) (hσ : σ i = .inl (gB G, n, .inl f)) (hj : vp_in j n) (kk : Go G M κ r σ' (va_up σ i (.inl (gB G, n, .inl (upd f j.toNatClampNeg (vp_nar .byte x))))) (pc + 1) lv st) : Go G M κ r σ' σ pc lv (.int x :: .int j :: .ref (ga G i) :: st) := fun H locs ls hP hS hl =>
  va_bast C.1 C.2.1 C.okk.1 hP (wd_D C.okk.2.2.1) hS i 0 (wd_is hi hσ) rfl hj hd (fun H1 locs1 h1 _ h3 => kk H1 locs1 ls (by rw [← wd_set _ hi]; exact h1) h3 hl)
theorem g_lastore (C : Cx G M κ) {i n : Nat} {f : Nat → Int64} {j : Int32} {x : Int64} (hd : decode (Mc M) pc = .ok (.lastore, 1)) (hi : i < gN G) (hσ : σ i = .inl (gJ G, n, .inr (.inl f))) (hj : vp_in j n) (kk : Go G M κ r σ' (va_up σ i (.inl (gJ G, n, .inr (.inl (vp_updL f j.toNatClampNeg x))))) (pc + 1) lv st) : Go G M κ r σ' σ pc lv (.long x :: .int j :: .ref (ga G i) :: st) := fun H locs ls hP hS hl =>
  va_last C.1 C.2.1 C.okk.1 hP (wd_D C.okk.2.2.1) hS i 2 (wd_is hi hσ) rfl hj hd (fun H1 locs1 h1 _ h3 => kk H1 locs1 ls (by rw [← wd_set _ hi]; exact h1) h3 hl)
theorem g_alenJ (C : Cx G M κ) {i n : Nat} {f : Nat → Int64} (hd : decode (Mc M) pc = .ok (.arraylength, 1)) (hi : i < gN G) (hσ : σ i = .inl (gJ G, n, .inr (.inl f))) (kk : Go G M κ r σ' σ (pc + 1) lv (.int (Int32.ofNat n) :: st)) : Go G M κ r σ' σ pc lv (.ref (ga G i) :: st) := fun H locs ls hP hS hl =>
  va_alen C.1 C.2.1 C.okk.1 hP i 2 (wd_is hi hσ) (ty := .long) rfl rfl hd (kk H locs ls hP hS hl)
/-- the static array HOLDING -/
theorem g_hold (C : Cx G M κ) {ix : Nat} (hd : decode (Mc M) pc = .ok (.getstatic ix, 3)) (hw : Cond.fieldLink (My M).cls ix "UnlikeGate$Strangers" "HOLDING" "[I" ∈ GW) (kk : ∀ t : Nat, (∀ {pc2 : Nat} {st2 : List Value} {lv2 : List (Nat × Value)} {σ2 : WW} {j : Int32} {v : Value}, decode (Mc M) pc2 = .ok (.iaload, 1) → vp_in j 5 → holdV j.toNatClampNeg = v → Go G M κ r σ' σ2 (pc2 + 1) lv2 (v :: st2) → Go G M κ r σ' σ2 pc2 lv2 (.int j :: .ref t :: st2)) → Go G M κ r σ' σ (pc + 3) lv (.ref t :: st)) : Go G M κ r σ' σ pc lv st := fun H locs ls hP hS hl => by
  obtain ⟨t, hZ, hT⟩ := C.okk.2.2.2
  refine va_gets C.1 C.2.1 hZ hS C.own (C.ts _ hw) (fun _ h => h) hd (kk t ?_ H locs ls hP hS hl)
  intro pc2 st2 lv2 σ2 j v h1 h2 h3 h4 H locs ls hP hS hl
  exact va_ti C.1 C.2.1 hT hS h2 h3 h1 (h4 H locs ls hP hS hl)
/-- calls -/
theorem gw_good {ws : List Cond} (h : ∀ w ∈ ws, w ∈ GW) : GoodIn GW ws := fun w hw => ⟨h w hw, good_of_word (List.mem_filter.mp (h w hw)).2⟩
theorem nestW_warm {s U : State} (hW : s.WarmedH U.vm) {w : Cond} (hw : w ∈ nestW) (h : va_Nw w s) : va_Nw w U := by
  have h2 := (List.mem_filter.mp hw).2
  cases w <;> first | (simp [isNest] at h2; done) | exact va_Nw.warmF hW h | exact va_Nw.warmM hW h
theorem nestW_same {s U : State} (hv : s.vm = U.vm) {w : Cond} (hw : w ∈ nestW) (h : va_Nw w s) : va_Nw w U := by
  have h2 := (List.mem_filter.mp hw).2
  cases w <;> first | (simp [isNest] at h2; done) | exact va_Nw.same rfl hv h
theorem Ok.warm {s U : State} {H : Heap} {locs : List Loc} (h : Ok G s) (hU : U.heap = H) (hS : va_S (AA G s.heap.size) s.heap H locs) (hW : s.WarmedH U.vm) : Ok G U := by
  obtain ⟨hK, hN, hI, t, hZ, hT⟩ := h
  refine ⟨va_K.moved hW.alike hK, fun w hw => nestW_warm hW hw (hN w hw), hI, t, ?_, ?_⟩
  · rw [hU]
    exact ((hZ.kept (H1 := H) (fun a h1 h2 => hS.2.1 a h1 h2)).narrow (AA_mono hS.1)).moved hW.alike
  · rw [hU]
    exact ((hT.kept (H1 := H) (fun a h1 h2 => hS.2.1 a h1 h2)).narrow (AA_mono hS.1)).moved hW.alike
theorem Pr.blind {as : List Value} {sz : Nat} : FrameBlind (Pr G as σ sz) := by
  intro a U g mk h
  obtain ⟨h0, h1, h2, hK, hN, hI, t, hZ, hT⟩ := h
  exact ⟨h0, h1, h2, va_K.moved (u := U) (U := U.calling g mk a) (Vm.Alike.refl U.vm) hK, fun w hw => nestW_same (s := U) (U := U.calling g mk a) rfl hw (hN w hw), hI, t, va_Z.moved (u := U) (U := U.calling g mk a) (Vm.Alike.refl U.vm) hZ, va_T.moved (u := U) (U := U.calling g mk a) (Vm.Alike.refl U.vm) hT⟩
/-- behind a call -/
theorem g_behind {N : MM} {as rest : List Value} {r1 : Option Value} {σ1 : WW} {a : Array Value} {st0 : List Value} (hrun : ∀ (H : Heap) (locs : List Loc) (ls : Array Slot), va_P (gD G) vwCl (wd G σ) H → va_S (AA G (ks κ).heap.size) (ks κ).heap H locs → Has ls (Mn M) lv → va_Run (kp κ) (gl G) (ke κ) (Mr M) (ks κ) (km κ) (ka κ) (kb κ) (kh κ) (kc κ) H locs 0 0 0 0 (F0 (km κ) pc ls st0) rest (Qr G r1 σ1 H.size a) (AA G H.size)) (kk : Go G M κ r σ' σ1 (pc + 3) lv (r1.toList ++ rest)) : Go G M κ r σ' σ pc lv st0 := by
  intro H locs ls hP hS hl T hT X
  obtain ⟨v, st₀, t, T', L, h0, X', hL, e1, e2, ⟨⟨hv, hP1⟩, hz, hk⟩, st⟩ := hrun H locs ls hP hS hl T hT X
  cases hv
  rw [h0] at hz hk
  have hS' : va_S (AA G (ks κ).heap.size) (ks κ).heap T'.heap (locs ++ L) := ⟨Nat.le_trans hS.1 (by rw [e1]; exact hz), fun q h1 h2 => by
      rw [e1, hk q (Nat.lt_of_lt_of_le h1 hS.1) (fun z => h2 (AA_mono hS.1 q z))]
      exact hS.2.1 q h1 h2, fun q hq => by
      rcases List.mem_append.mp hq with h | h
      · exact hS.2.2 q h
      · exact AA_mono hS.1 _ (hL q h)⟩
  obtain ⟨t2, a1, b1⟩ := kk T'.heap (locs ++ L) ls (by rw [e1]; exact hP1) hS' hl T' rfl X'
  exact ⟨t2, st t2 a1, b1⟩
def roomOk (M N : MM) : Prop := (Mr N).frames + 1 ≤ (Mr M).frames ∧ 8 + (Mn N + 11) + (Mr N).locals ≤ (Mr M).locals
def descOk (N : MM) (n : Nat) : Prop := (My N).cls ≠ "java/lang/invoke/MethodHandle" ∧ (My N).cls ≠ "java/lang/invoke/VarHandle" ∧ (parseMethodDescriptor (My N).desc).map (fun d => d.parameters.length) = some n
theorem wy_good {N : MM} (h : Cond.code (My N) (Mc N) (Mn N) (Mt0 N) ∈ GW) : GoodIn GW (wy N) := gw_good (List.forall_mem_cons.mpr ⟨h, fun _ h => h⟩)
theorem g_callV (C : Cx G M κ) {N : MM} {ix i ci : Nat} {T : u_T} {n : Nat} {fs As rest : List Value} {r1 : Option Value} {σ1 : WW} (hM : Mt G N (.ref (ga G i) :: As) σ r1 σ1) (hd : decode (Mc M) pc = .ok (.invokevirtual ix, 3))
    (hc : vwCl[ci]? = some ((My N).cls, T, n)) (hcode : Cond.code (My N) (Mc N) (Mn N) (Mt0 N) ∈ GW) (hw : ∀ w ∈ ([.methodLink (My M).cls ix (My N), .instanceMethod (My N), .selects (My N).cls (My N) (My N), .initialized (My N).cls] : List Cond), w ∈ GW) (hds : descOk N As.length) (hi : i < gN G) (hσ : σ i = .inr (ci, fs)) (hR : roomOk M N) (hst : (rest.map fun v => v.category).sum ≤ 8)
    (kk : Go G M κ r σ' σ1 (pc + 3) lv (r1.toList ++ rest)) : Go G M κ r σ' σ pc lv (As.reverse ++ .ref (ga G i) :: rest) := by
  refine g_behind (N := N) (as := .ref (ga G i) :: As) (a := (Value.ref (ga G i) :: As).toArray) (fun H locs ls hP hS hl => ?_) kk
  exact va_runV (C := (My N).cls) (As := As) (rest := rest) ⟨C.1, C.2.1, C.ml, C.own, C.ts⟩ (hM H.size) (cwV As.length C.ts (gw_good (by unfold wsV; exact fun w h => (List.mem_append.mp h).elim (hw w) (fun h => (wy_good hcode w h).1))) rfl rfl rfl ⟨rfl, hds⟩ hR) ⟨Pr.blind, va_recv C.okk.1 hP hc (wd_is hi hσ), fun U hU hW => ⟨rfl, by rw [hU], by rw [hU]; exact hP, C.okk.warm hU hS hW⟩⟩ rfl rfl hl.1 rfl (lv_room hst) hd ⟨Nat.zero_le _, Nat.zero_le _⟩
theorem g_callS (C : Cx G M κ) {N : MM} {ix : Nat} {As rest : List Value} {r1 : Option Value} {σ1 : WW} (hM : Mt G N As σ r1 σ1) (hd : decode (Mc M) pc = .ok (.invokestatic ix, 3))
    (hcode : Cond.code (My N) (Mc N) (Mn N) (Mt0 N) ∈ GW) (hw : ∀ w ∈ ([.methodLink (My M).cls ix (My N), .static (My N), .initialized (My N).cls] : List Cond), w ∈ GW) (hds : descOk N As.length) (hR : roomOk M N) (hst : (rest.map fun v => v.category).sum ≤ 8)
    (kk : Go G M κ r σ' σ1 (pc + 3) lv (r1.toList ++ rest)) : Go G M κ r σ' σ pc lv (As.reverse ++ rest) := by
  refine g_behind (N := N) (as := As) (a := As.toArray) (fun H locs ls hP hS hl => ?_) kk
  have h1 := C.ts _ (hw _ (List.mem_cons_self))
  have h2 := C.ts _ (hw _ (List.mem_cons_of_mem _ List.mem_cons_self))
  have h3 := C.ts _ (hw _ (List.mem_cons_of_mem _ (List.mem_cons_of_mem _ List.mem_cons_self)))
  exact va_runS (As := As) (rest := rest) ⟨C.1, C.2.1, C.ml, C.own, C.ts⟩ (hM H.size) ⟨callB_of As.length C.ts (wy_good hcode) rfl rfl rfl h3 h1 hds hR, h2⟩ ⟨Pr.blind, fun U hU hW => ⟨rfl, by rw [hU], by rw [hU]; exact hP, C.okk.warm hU hS hW⟩⟩ rfl rfl hl.1 rfl (lv_room hst) hd ⟨Nat.zero_le _, Nat.zero_le _⟩
theorem g_callSN (C : Cx G M κ) {N : MM} {ix : Nat} {host : String} {As rest : List Value} {r1 : Option Value} {σ1 : WW} (hM : Mt G N As σ r1 σ1) (hd : decode (Mc M) pc = .ok (.invokestatic ix, 3))
    (hcode : Cond.code (My N) (Mc N) (Mn N) (Mt0 N) ∈ GW) (hn : Cond.methodLinkNest (My M).cls ix (My N) host ∈ nestW) (hw : ∀ w ∈ ([.static (My N), .initialized (My N).cls] : List Cond), w ∈ GW) (hds : descOk N As.length) (hR : roomOk M N) (hst : (rest.map fun v => v.category).sum ≤ 8)
    (kk : Go G M κ r σ' σ1 (pc + 3) lv (r1.toList ++ rest)) : Go G M κ r σ' σ pc lv (As.reverse ++ rest) := by
  refine g_behind (N := N) (as := As) (a := As.toArray) (fun H locs ls hP hS hl => ?_) kk
  have h2 := C.ts _ (hw _ (List.mem_cons_self))
  have h3 := C.ts _ (hw _ (List.mem_cons_of_mem _ List.mem_cons_self))
  exact va_runSN (As := As) (rest := rest) ⟨C.1, C.2.1, C.ml, C.own, C.ts⟩ (hM H.size) ⟨va_cnB As.length C.ts (wy_good hcode) rfl rfl rfl (C.okk.2.1 _ hn) h3 hds hR, h2, trivial⟩ ⟨Pr.blind, fun U hU hW => ⟨rfl, by rw [hU], by rw [hU]; exact hP, C.okk.warm hU hS hW⟩⟩ rfl rfl hl.1 rfl (lv_room hst) hd ⟨Nat.zero_le _, Nat.zero_le _⟩
/-- switches -/
theorem g_tableIn (C : Cx G M κ) {dflt lo hi : Int} {offs : Array Int} {len : Nat} {x : Int32} {off : Int} (tgt : Nat) (hd : decode (Mc M) pc = .ok (.tableswitch dflt lo hi offs, len)) (h1 : ¬ x.toInt < lo) (h2 : ¬ hi < x.toInt) (ho : offs[(x.toInt - lo).toNat]? = some off) (ht : (pc : Int) + off = (tgt : Int)) (k : Go G M κ r σ' σ tgt lv st) : Go G M κ r σ' σ pc lv (.int x :: st) := fun H locs ls hP hS hl => lv_tableIn C.1 C.2.1 hd h1 h2 ho ht (k H locs ls hP hS hl)
theorem g_tableOut (C : Cx G M κ) {dflt lo hi : Int} {offs : Array Int} {len : Nat} {x : Int32} (tgt : Nat) (hd : decode (Mc M) pc = .ok (.tableswitch dflt lo hi offs, len)) (h : x.toInt < lo ∨ hi < x.toInt) (ht : (pc : Int) + dflt = (tgt : Int)) (k : Go G M κ r σ' σ tgt lv st) : Go G M κ r σ' σ pc lv (.int x :: st) := fun H locs ls hP hS hl => lv_tableOut C.1 C.2.1 hd h ht (k H locs ls hP hS hl)
theorem g_lookup (C : Cx G M κ) {dflt : Int} {ps : Array (Int × Int)} {len : Nat} {x : Int32} {off : Int} (tgt : Nat) (hd : decode (Mc M) pc = .ok (.lookupswitch dflt ps, len)) (hp : (ps.toList.zip (ps.toList.drop 1)).all (fun (a, next) => a.1 < next.1) = true) (ho : Op.lookupswitch.offset ps.toList dflt x.toInt = off) (ht : (pc : Int) + off = (tgt : Int)) (k : Go G M κ r σ' σ tgt lv st) : Go G M κ r σ' σ pc lv (.int x :: st) := fun H locs ls hP hS hl => lv_lookup C.1 C.2.1 hd hp ho ht (k H locs ls hP hS hl)
end GO2
end
