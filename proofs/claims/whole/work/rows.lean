section
/-- a private method of a class that the tables say can be made, by its rows of tables_1 -/
def lw_okq (q : MethodName × Nat) : Prop := (q.1.cls ≠ "java/lang/invoke/MethodHandle" ∧ q.1.cls ≠ "java/lang/invoke/VarHandle") ∧ Cond.instantiable q.1.cls q.2 ∈ tables_1 ∧ Cond.privateMethod q.1 ∈ tables_1 ∧ Cond.instanceMethod q.1 ∈ tables_1
theorem lw_p0 : lw_okq (⟨"ToWhoNeeds", "refuse", "(I)I"⟩, 8) := ⟨⟨by decide +kernel, by decide +kernel⟩, List.mem_of_getElem? (i := 22) (by decide +kernel), List.mem_of_getElem? (i := 263) (by decide +kernel), List.mem_of_getElem? (i := 264) (by decide +kernel)⟩
theorem lw_p1 : lw_okq (⟨"ToWhoNeeds$Reader", "isShaped", "()Z"⟩, 4) := ⟨⟨by decide +kernel, by decide +kernel⟩, List.mem_of_getElem? (i := 134) (by decide +kernel), List.mem_of_getElem? (i := 307) (by decide +kernel), List.mem_of_getElem? (i := 308) (by decide +kernel)⟩
theorem lw_p2 : lw_okq (⟨"ToWhoNeeds$Reader", "scanStatement", "()Z"⟩, 4) := ⟨⟨by decide +kernel, by decide +kernel⟩, List.mem_of_getElem? (i := 134) (by decide +kernel), List.mem_of_getElem? (i := 311) (by decide +kernel), List.mem_of_getElem? (i := 312) (by decide +kernel)⟩
theorem lw_p3 : lw_okq (⟨"ToWhoNeeds$Reader", "pass", "(C)Z"⟩, 4) := ⟨⟨by decide +kernel, by decide +kernel⟩, List.mem_of_getElem? (i := 134) (by decide +kernel), List.mem_of_getElem? (i := 315) (by decide +kernel), List.mem_of_getElem? (i := 316) (by decide +kernel)⟩
theorem lw_p4 : lw_okq (⟨"ToWhoNeeds$Reader", "scanPerson", "()Z"⟩, 4) := ⟨⟨by decide +kernel, by decide +kernel⟩, List.mem_of_getElem? (i := 134) (by decide +kernel), List.mem_of_getElem? (i := 320) (by decide +kernel), List.mem_of_getElem? (i := 321) (by decide +kernel)⟩
theorem lw_p5 : lw_okq (⟨"ToWhoNeeds$Reader", "scanNeed", "(I)Z"⟩, 4) := ⟨⟨by decide +kernel, by decide +kernel⟩, List.mem_of_getElem? (i := 134) (by decide +kernel), List.mem_of_getElem? (i := 324) (by decide +kernel), List.mem_of_getElem? (i := 325) (by decide +kernel)⟩
theorem lw_p6 : lw_okq (⟨"ToWhoNeeds$Reader", "scanDigit", "(I)Z"⟩, 4) := ⟨⟨by decide +kernel, by decide +kernel⟩, List.mem_of_getElem? (i := 134) (by decide +kernel), List.mem_of_getElem? (i := 328) (by decide +kernel), List.mem_of_getElem? (i := 329) (by decide +kernel)⟩
theorem lw_p7 : lw_okq (⟨"ToWhoNeeds$Reader", "scanKind", "()Z"⟩, 4) := ⟨⟨by decide +kernel, by decide +kernel⟩, List.mem_of_getElem? (i := 134) (by decide +kernel), List.mem_of_getElem? (i := 332) (by decide +kernel), List.mem_of_getElem? (i := 333) (by decide +kernel)⟩
theorem lw_p8 : lw_okq (⟨"ToWhoNeeds$Reader", "scanAmounts", "()Z"⟩, 4) := ⟨⟨by decide +kernel, by decide +kernel⟩, List.mem_of_getElem? (i := 134) (by decide +kernel), List.mem_of_getElem? (i := 385) (by decide +kernel), List.mem_of_getElem? (i := 386) (by decide +kernel)⟩
theorem lw_p9 : lw_okq (⟨"ToWhoNeeds$Reader", "enterAll", "()I"⟩, 4) := ⟨⟨by decide +kernel, by decide +kernel⟩, List.mem_of_getElem? (i := 134) (by decide +kernel), List.mem_of_getElem? (i := 389) (by decide +kernel), List.mem_of_getElem? (i := 390) (by decide +kernel)⟩
theorem lw_p10 : lw_okq (⟨"ToWhoNeeds$Reader", "enter", "(I)Z"⟩, 4) := ⟨⟨by decide +kernel, by decide +kernel⟩, List.mem_of_getElem? (i := 134) (by decide +kernel), List.mem_of_getElem? (i := 393) (by decide +kernel), List.mem_of_getElem? (i := 394) (by decide +kernel)⟩
theorem lw_p11 : lw_okq (⟨"ToWhoNeeds$Reader", "enterPerson", "()Z"⟩, 4) := ⟨⟨by decide +kernel, by decide +kernel⟩, List.mem_of_getElem? (i := 134) (by decide +kernel), List.mem_of_getElem? (i := 397) (by decide +kernel), List.mem_of_getElem? (i := 398) (by decide +kernel)⟩
theorem lw_p12 : lw_okq (⟨"ToWhoNeeds$Reader", "areAtMost", "(I)Z"⟩, 4) := ⟨⟨by decide +kernel, by decide +kernel⟩, List.mem_of_getElem? (i := 134) (by decide +kernel), List.mem_of_getElem? (i := 401) (by decide +kernel), List.mem_of_getElem? (i := 402) (by decide +kernel)⟩
theorem lw_p13 : lw_okq (⟨"ToWhoNeeds$Reader", "enterWriter", "()Z"⟩, 4) := ⟨⟨by decide +kernel, by decide +kernel⟩, List.mem_of_getElem? (i := 134) (by decide +kernel), List.mem_of_getElem? (i := 419) (by decide +kernel), List.mem_of_getElem? (i := 420) (by decide +kernel)⟩
theorem lw_p14 : lw_okq (⟨"ToWhoNeeds$Reader", "enterAmounts", "()Z"⟩, 4) := ⟨⟨by decide +kernel, by decide +kernel⟩, List.mem_of_getElem? (i := 134) (by decide +kernel), List.mem_of_getElem? (i := 429) (by decide +kernel), List.mem_of_getElem? (i := 430) (by decide +kernel)⟩
theorem lw_p15 : lw_okq (⟨"ToWhoNeeds", "isPlace", "(II)Z"⟩, 8) := ⟨⟨by decide +kernel, by decide +kernel⟩, List.mem_of_getElem? (i := 22) (by decide +kernel), List.mem_of_getElem? (i := 445) (by decide +kernel), List.mem_of_getElem? (i := 446) (by decide +kernel)⟩
def lw_privs_1 : List (MethodName × Nat) := [(⟨"ToWhoNeeds", "refuse", "(I)I"⟩, 8), (⟨"ToWhoNeeds$Reader", "isShaped", "()Z"⟩, 4), (⟨"ToWhoNeeds$Reader", "scanStatement", "()Z"⟩, 4), (⟨"ToWhoNeeds$Reader", "pass", "(C)Z"⟩, 4), (⟨"ToWhoNeeds$Reader", "scanPerson", "()Z"⟩, 4), (⟨"ToWhoNeeds$Reader", "scanNeed", "(I)Z"⟩, 4), (⟨"ToWhoNeeds$Reader", "scanDigit", "(I)Z"⟩, 4), (⟨"ToWhoNeeds$Reader", "scanKind", "()Z"⟩, 4), (⟨"ToWhoNeeds$Reader", "scanAmounts", "()Z"⟩, 4), (⟨"ToWhoNeeds$Reader", "enterAll", "()I"⟩, 4), (⟨"ToWhoNeeds$Reader", "enter", "(I)Z"⟩, 4), (⟨"ToWhoNeeds$Reader", "enterPerson", "()Z"⟩, 4), (⟨"ToWhoNeeds$Reader", "areAtMost", "(I)Z"⟩, 4), (⟨"ToWhoNeeds$Reader", "enterWriter", "()Z"⟩, 4), (⟨"ToWhoNeeds$Reader", "enterAmounts", "()Z"⟩, 4), (⟨"ToWhoNeeds", "isPlace", "(II)Z"⟩, 8)]
theorem lw_r1 : ∀ q ∈ lw_privs_1, lw_okq q := List.forall_mem_cons.mpr ⟨lw_p0, List.forall_mem_cons.mpr ⟨lw_p1, List.forall_mem_cons.mpr ⟨lw_p2, List.forall_mem_cons.mpr ⟨lw_p3, List.forall_mem_cons.mpr ⟨lw_p4, List.forall_mem_cons.mpr ⟨lw_p5, List.forall_mem_cons.mpr ⟨lw_p6, List.forall_mem_cons.mpr ⟨lw_p7, List.forall_mem_cons.mpr ⟨lw_p8, List.forall_mem_cons.mpr ⟨lw_p9, List.forall_mem_cons.mpr ⟨lw_p10, List.forall_mem_cons.mpr ⟨lw_p11, List.forall_mem_cons.mpr ⟨lw_p12, List.forall_mem_cons.mpr ⟨lw_p13, List.forall_mem_cons.mpr ⟨lw_p14, List.forall_mem_cons.mpr ⟨lw_p15, fun _ h => absurd h List.not_mem_nil⟩⟩⟩⟩⟩⟩⟩⟩⟩⟩⟩⟩⟩⟩⟩⟩
theorem lw_p16 : lw_okq (⟨"ToWhoNeeds", "lawNow", "()LToWhoNeeds$Law;"⟩, 8) := ⟨⟨by decide +kernel, by decide +kernel⟩, List.mem_of_getElem? (i := 22) (by decide +kernel), List.mem_of_getElem? (i := 478) (by decide +kernel), List.mem_of_getElem? (i := 479) (by decide +kernel)⟩
theorem lw_p17 : lw_okq (⟨"ToWhoNeeds$Mind", "costOfNext", "(LToWhoNeeds$Law;II)I"⟩, 5) := ⟨⟨by decide +kernel, by decide +kernel⟩, List.mem_of_getElem? (i := 158) (by decide +kernel), List.mem_of_getElem? (i := 619) (by decide +kernel), List.mem_of_getElem? (i := 620) (by decide +kernel)⟩
theorem lw_p18 : lw_okq (⟨"ToWhoNeeds$Mind", "stepLine", "()Z"⟩, 5) := ⟨⟨by decide +kernel, by decide +kernel⟩, List.mem_of_getElem? (i := 158) (by decide +kernel), List.mem_of_getElem? (i := 661) (by decide +kernel), List.mem_of_getElem? (i := 662) (by decide +kernel)⟩
theorem lw_p19 : lw_okq (⟨"ToWhoNeeds$Mind", "swapInLine", "(II)V"⟩, 5) := ⟨⟨by decide +kernel, by decide +kernel⟩, List.mem_of_getElem? (i := 158) (by decide +kernel), List.mem_of_getElem? (i := 665) (by decide +kernel), List.mem_of_getElem? (i := 666) (by decide +kernel)⟩
theorem lw_p20 : lw_okq (⟨"ToWhoNeeds$Mind", "greediest", "(LToWhoNeeds$Law;LToWhoNeeds$Numbers;I)I"⟩, 5) := ⟨⟨by decide +kernel, by decide +kernel⟩, List.mem_of_getElem? (i := 158) (by decide +kernel), List.mem_of_getElem? (i := 680) (by decide +kernel), List.mem_of_getElem? (i := 681) (by decide +kernel)⟩
theorem lw_p21 : lw_okq (⟨"ToWhoNeeds$Mind", "allWentSo", "(LToWhoNeeds$State;LToWhoNeeds$Law;)Z"⟩, 5) := ⟨⟨by decide +kernel, by decide +kernel⟩, List.mem_of_getElem? (i := 158) (by decide +kernel), List.mem_of_getElem? (i := 713) (by decide +kernel), List.mem_of_getElem? (i := 714) (by decide +kernel)⟩
theorem lw_p22 : lw_okq (⟨"ToWhoNeeds$Mind", "receiversOver", "(LToWhoNeeds$Law;IIII)I"⟩, 5) := ⟨⟨by decide +kernel, by decide +kernel⟩, List.mem_of_getElem? (i := 158) (by decide +kernel), List.mem_of_getElem? (i := 732) (by decide +kernel), List.mem_of_getElem? (i := 733) (by decide +kernel)⟩
theorem lw_p23 : lw_okq (⟨"ToWhoNeeds$Mind", "meetingMost", "(LToWhoNeeds$People;LToWhoNeeds$Law;)I"⟩, 5) := ⟨⟨by decide +kernel, by decide +kernel⟩, List.mem_of_getElem? (i := 158) (by decide +kernel), List.mem_of_getElem? (i := 774) (by decide +kernel), List.mem_of_getElem? (i := 775) (by decide +kernel)⟩
theorem lw_p24 : lw_okq (⟨"ToWhoNeeds$Mind", "easing", "(LToWhoNeeds$People;LToWhoNeeds$Law;II)I"⟩, 5) := ⟨⟨by decide +kernel, by decide +kernel⟩, List.mem_of_getElem? (i := 158) (by decide +kernel), List.mem_of_getElem? (i := 778) (by decide +kernel), List.mem_of_getElem? (i := 779) (by decide +kernel)⟩
theorem lw_p25 : lw_okq (⟨"ToWhoNeeds$Mind", "aimedBehind", "(LToWhoNeeds$State;LToWhoNeeds$Law;II)I"⟩, 5) := ⟨⟨by decide +kernel, by decide +kernel⟩, List.mem_of_getElem? (i := 158) (by decide +kernel), List.mem_of_getElem? (i := 794) (by decide +kernel), List.mem_of_getElem? (i := 795) (by decide +kernel)⟩
theorem lw_p26 : lw_okq (⟨"ToWhoNeeds$Mind", "drawBelow", "(I)I"⟩, 5) := ⟨⟨by decide +kernel, by decide +kernel⟩, List.mem_of_getElem? (i := 158) (by decide +kernel), List.mem_of_getElem? (i := 806) (by decide +kernel), List.mem_of_getElem? (i := 807) (by decide +kernel)⟩
theorem lw_p27 : lw_okq (⟨"ToWhoNeedsModel", "no", "(I)I"⟩, 39) := ⟨⟨by decide +kernel, by decide +kernel⟩, List.mem_of_getElem? (i := 840) (by decide +kernel), List.mem_of_getElem? (i := 971) (by decide +kernel), List.mem_of_getElem? (i := 972) (by decide +kernel)⟩
theorem lw_p28 : lw_okq (⟨"ToWhoNeedsModel", "statement", "()Z"⟩, 39) := ⟨⟨by decide +kernel, by decide +kernel⟩, List.mem_of_getElem? (i := 840) (by decide +kernel), List.mem_of_getElem? (i := 979) (by decide +kernel), List.mem_of_getElem? (i := 980) (by decide +kernel)⟩
theorem lw_p29 : lw_okq (⟨"ToWhoNeedsModel", "next", "()I"⟩, 39) := ⟨⟨by decide +kernel, by decide +kernel⟩, List.mem_of_getElem? (i := 840) (by decide +kernel), List.mem_of_getElem? (i := 983) (by decide +kernel), List.mem_of_getElem? (i := 984) (by decide +kernel)⟩
theorem lw_p30 : lw_okq (⟨"ToWhoNeedsModel", "readsPerson", "(I)Z"⟩, 39) := ⟨⟨by decide +kernel, by decide +kernel⟩, List.mem_of_getElem? (i := 840) (by decide +kernel), List.mem_of_getElem? (i := 987) (by decide +kernel), List.mem_of_getElem? (i := 988) (by decide +kernel)⟩
theorem lw_p31 : lw_okq (⟨"ToWhoNeedsModel", "number", "(I)I"⟩, 39) := ⟨⟨by decide +kernel, by decide +kernel⟩, List.mem_of_getElem? (i := 840) (by decide +kernel), List.mem_of_getElem? (i := 991) (by decide +kernel), List.mem_of_getElem? (i := 992) (by decide +kernel)⟩
def lw_privs_2 : List (MethodName × Nat) := [(⟨"ToWhoNeeds", "lawNow", "()LToWhoNeeds$Law;"⟩, 8), (⟨"ToWhoNeeds$Mind", "costOfNext", "(LToWhoNeeds$Law;II)I"⟩, 5), (⟨"ToWhoNeeds$Mind", "stepLine", "()Z"⟩, 5), (⟨"ToWhoNeeds$Mind", "swapInLine", "(II)V"⟩, 5), (⟨"ToWhoNeeds$Mind", "greediest", "(LToWhoNeeds$Law;LToWhoNeeds$Numbers;I)I"⟩, 5), (⟨"ToWhoNeeds$Mind", "allWentSo", "(LToWhoNeeds$State;LToWhoNeeds$Law;)Z"⟩, 5), (⟨"ToWhoNeeds$Mind", "receiversOver", "(LToWhoNeeds$Law;IIII)I"⟩, 5), (⟨"ToWhoNeeds$Mind", "meetingMost", "(LToWhoNeeds$People;LToWhoNeeds$Law;)I"⟩, 5), (⟨"ToWhoNeeds$Mind", "easing", "(LToWhoNeeds$People;LToWhoNeeds$Law;II)I"⟩, 5), (⟨"ToWhoNeeds$Mind", "aimedBehind", "(LToWhoNeeds$State;LToWhoNeeds$Law;II)I"⟩, 5), (⟨"ToWhoNeeds$Mind", "drawBelow", "(I)I"⟩, 5), (⟨"ToWhoNeedsModel", "no", "(I)I"⟩, 39), (⟨"ToWhoNeedsModel", "statement", "()Z"⟩, 39), (⟨"ToWhoNeedsModel", "next", "()I"⟩, 39), (⟨"ToWhoNeedsModel", "readsPerson", "(I)Z"⟩, 39), (⟨"ToWhoNeedsModel", "number", "(I)I"⟩, 39)]
theorem lw_r2 : ∀ q ∈ lw_privs_2, lw_okq q := List.forall_mem_cons.mpr ⟨lw_p16, List.forall_mem_cons.mpr ⟨lw_p17, List.forall_mem_cons.mpr ⟨lw_p18, List.forall_mem_cons.mpr ⟨lw_p19, List.forall_mem_cons.mpr ⟨lw_p20, List.forall_mem_cons.mpr ⟨lw_p21, List.forall_mem_cons.mpr ⟨lw_p22, List.forall_mem_cons.mpr ⟨lw_p23, List.forall_mem_cons.mpr ⟨lw_p24, List.forall_mem_cons.mpr ⟨lw_p25, List.forall_mem_cons.mpr ⟨lw_p26, List.forall_mem_cons.mpr ⟨lw_p27, List.forall_mem_cons.mpr ⟨lw_p28, List.forall_mem_cons.mpr ⟨lw_p29, List.forall_mem_cons.mpr ⟨lw_p30, List.forall_mem_cons.mpr ⟨lw_p31, fun _ h => absurd h List.not_mem_nil⟩⟩⟩⟩⟩⟩⟩⟩⟩⟩⟩⟩⟩⟩⟩⟩
theorem lw_p32 : lw_okq (⟨"ToWhoNeedsModel", "isNext", "(I)Z"⟩, 39) := ⟨⟨by decide +kernel, by decide +kernel⟩, List.mem_of_getElem? (i := 840) (by decide +kernel), List.mem_of_getElem? (i := 998) (by decide +kernel), List.mem_of_getElem? (i := 999) (by decide +kernel)⟩
theorem lw_p33 : lw_okq (⟨"ToWhoNeedsModel", "readsLetter", "(I)Z"⟩, 39) := ⟨⟨by decide +kernel, by decide +kernel⟩, List.mem_of_getElem? (i := 840) (by decide +kernel), List.mem_of_getElem? (i := 1002) (by decide +kernel), List.mem_of_getElem? (i := 1003) (by decide +kernel)⟩
theorem lw_p34 : lw_okq (⟨"ToWhoNeedsModel", "passesAll", "(IZ)V"⟩, 39) := ⟨⟨by decide +kernel, by decide +kernel⟩, List.mem_of_getElem? (i := 840) (by decide +kernel), List.mem_of_getElem? (i := 1009) (by decide +kernel), List.mem_of_getElem? (i := 1010) (by decide +kernel)⟩
theorem lw_p35 : lw_okq (⟨"ToWhoNeedsModel", "passes", "([I)V"⟩, 39) := ⟨⟨by decide +kernel, by decide +kernel⟩, List.mem_of_getElem? (i := 840) (by decide +kernel), List.mem_of_getElem? (i := 1013) (by decide +kernel), List.mem_of_getElem? (i := 1014) (by decide +kernel)⟩
theorem lw_p36 : lw_okq (⟨"ToWhoNeedsModel", "passOne", "(I)I"⟩, 39) := ⟨⟨by decide +kernel, by decide +kernel⟩, List.mem_of_getElem? (i := 840) (by decide +kernel), List.mem_of_getElem? (i := 1017) (by decide +kernel), List.mem_of_getElem? (i := 1018) (by decide +kernel)⟩
theorem lw_p37 : lw_okq (⟨"ToWhoNeedsModel", "comes", "(I)Z"⟩, 39) := ⟨⟨by decide +kernel, by decide +kernel⟩, List.mem_of_getElem? (i := 840) (by decide +kernel), List.mem_of_getElem? (i := 1021) (by decide +kernel), List.mem_of_getElem? (i := 1022) (by decide +kernel)⟩
theorem lw_p38 : lw_okq (⟨"ToWhoNeedsModel", "isPerson", "(I)Z"⟩, 39) := ⟨⟨by decide +kernel, by decide +kernel⟩, List.mem_of_getElem? (i := 840) (by decide +kernel), List.mem_of_getElem? (i := 1025) (by decide +kernel), List.mem_of_getElem? (i := 1026) (by decide +kernel)⟩
theorem lw_p39 : lw_okq (⟨"ToWhoNeedsModel", "isWriter", "(I)Z"⟩, 39) := ⟨⟨by decide +kernel, by decide +kernel⟩, List.mem_of_getElem? (i := 840) (by decide +kernel), List.mem_of_getElem? (i := 1037) (by decide +kernel), List.mem_of_getElem? (i := 1038) (by decide +kernel)⟩
theorem lw_p40 : lw_okq (⟨"ToWhoNeedsModel", "scoreOf", "(II)I"⟩, 39) := ⟨⟨by decide +kernel, by decide +kernel⟩, List.mem_of_getElem? (i := 840) (by decide +kernel), List.mem_of_getElem? (i := 1059) (by decide +kernel), List.mem_of_getElem? (i := 1060) (by decide +kernel)⟩
theorem lw_p41 : lw_okq (⟨"ToWhoNeedsModel", "goesTo", "(I)I"⟩, 39) := ⟨⟨by decide +kernel, by decide +kernel⟩, List.mem_of_getElem? (i := 840) (by decide +kernel), List.mem_of_getElem? (i := 1067) (by decide +kernel), List.mem_of_getElem? (i := 1068) (by decide +kernel)⟩
theorem lw_p42 : lw_okq (⟨"ToWhoNeedsModel", "firstBut", "(II)I"⟩, 39) := ⟨⟨by decide +kernel, by decide +kernel⟩, List.mem_of_getElem? (i := 840) (by decide +kernel), List.mem_of_getElem? (i := 1071) (by decide +kernel), List.mem_of_getElem? (i := 1072) (by decide +kernel)⟩
theorem lw_p43 : lw_okq (⟨"ToWhoNeedsModel", "posts", "(I)I"⟩, 39) := ⟨⟨by decide +kernel, by decide +kernel⟩, List.mem_of_getElem? (i := 840) (by decide +kernel), List.mem_of_getElem? (i := 1079) (by decide +kernel), List.mem_of_getElem? (i := 1080) (by decide +kernel)⟩
theorem lw_p44 : lw_okq (⟨"ToWhoNeedsModel", "has", "(II)V"⟩, 39) := ⟨⟨by decide +kernel, by decide +kernel⟩, List.mem_of_getElem? (i := 840) (by decide +kernel), List.mem_of_getElem? (i := 1083) (by decide +kernel), List.mem_of_getElem? (i := 1084) (by decide +kernel)⟩
theorem lw_p45 : lw_okq (⟨"ToWhoNeedsModel", "grows", "()V"⟩, 39) := ⟨⟨by decide +kernel, by decide +kernel⟩, List.mem_of_getElem? (i := 840) (by decide +kernel), List.mem_of_getElem? (i := 1091) (by decide +kernel), List.mem_of_getElem? (i := 1092) (by decide +kernel)⟩
theorem lw_p46 : lw_okq (⟨"ToWhoNeedsModel", "sumOf", "()I"⟩, 39) := ⟨⟨by decide +kernel, by decide +kernel⟩, List.mem_of_getElem? (i := 840) (by decide +kernel), List.mem_of_getElem? (i := 1095) (by decide +kernel), List.mem_of_getElem? (i := 1096) (by decide +kernel)⟩
theorem lw_p47 : lw_okq (⟨"ToWhoNeedsModel", "canOf", "(I)I"⟩, 39) := ⟨⟨by decide +kernel, by decide +kernel⟩, List.mem_of_getElem? (i := 840) (by decide +kernel), List.mem_of_getElem? (i := 1107) (by decide +kernel), List.mem_of_getElem? (i := 1108) (by decide +kernel)⟩
def lw_privs_3 : List (MethodName × Nat) := [(⟨"ToWhoNeedsModel", "isNext", "(I)Z"⟩, 39), (⟨"ToWhoNeedsModel", "readsLetter", "(I)Z"⟩, 39), (⟨"ToWhoNeedsModel", "passesAll", "(IZ)V"⟩, 39), (⟨"ToWhoNeedsModel", "passes", "([I)V"⟩, 39), (⟨"ToWhoNeedsModel", "passOne", "(I)I"⟩, 39), (⟨"ToWhoNeedsModel", "comes", "(I)Z"⟩, 39), (⟨"ToWhoNeedsModel", "isPerson", "(I)Z"⟩, 39), (⟨"ToWhoNeedsModel", "isWriter", "(I)Z"⟩, 39), (⟨"ToWhoNeedsModel", "scoreOf", "(II)I"⟩, 39), (⟨"ToWhoNeedsModel", "goesTo", "(I)I"⟩, 39), (⟨"ToWhoNeedsModel", "firstBut", "(II)I"⟩, 39), (⟨"ToWhoNeedsModel", "posts", "(I)I"⟩, 39), (⟨"ToWhoNeedsModel", "has", "(II)V"⟩, 39), (⟨"ToWhoNeedsModel", "grows", "()V"⟩, 39), (⟨"ToWhoNeedsModel", "sumOf", "()I"⟩, 39), (⟨"ToWhoNeedsModel", "canOf", "(I)I"⟩, 39)]
theorem lw_r3 : ∀ q ∈ lw_privs_3, lw_okq q := List.forall_mem_cons.mpr ⟨lw_p32, List.forall_mem_cons.mpr ⟨lw_p33, List.forall_mem_cons.mpr ⟨lw_p34, List.forall_mem_cons.mpr ⟨lw_p35, List.forall_mem_cons.mpr ⟨lw_p36, List.forall_mem_cons.mpr ⟨lw_p37, List.forall_mem_cons.mpr ⟨lw_p38, List.forall_mem_cons.mpr ⟨lw_p39, List.forall_mem_cons.mpr ⟨lw_p40, List.forall_mem_cons.mpr ⟨lw_p41, List.forall_mem_cons.mpr ⟨lw_p42, List.forall_mem_cons.mpr ⟨lw_p43, List.forall_mem_cons.mpr ⟨lw_p44, List.forall_mem_cons.mpr ⟨lw_p45, List.forall_mem_cons.mpr ⟨lw_p46, List.forall_mem_cons.mpr ⟨lw_p47, fun _ h => absurd h List.not_mem_nil⟩⟩⟩⟩⟩⟩⟩⟩⟩⟩⟩⟩⟩⟩⟩⟩
theorem lw_p48 : lw_okq (⟨"ToWhoNeedsModel", "whoGets", "()I"⟩, 39) := ⟨⟨by decide +kernel, by decide +kernel⟩, List.mem_of_getElem? (i := 840) (by decide +kernel), List.mem_of_getElem? (i := 1121) (by decide +kernel), List.mem_of_getElem? (i := 1122) (by decide +kernel)⟩
theorem lw_p49 : lw_okq (⟨"ToWhoNeedsModel", "costAhead", "(II)I"⟩, 39) := ⟨⟨by decide +kernel, by decide +kernel⟩, List.mem_of_getElem? (i := 840) (by decide +kernel), List.mem_of_getElem? (i := 1133) (by decide +kernel), List.mem_of_getElem? (i := 1134) (by decide +kernel)⟩
theorem lw_p50 : lw_okq (⟨"ToWhoNeedsModel", "isReached", "(I)Z"⟩, 39) := ⟨⟨by decide +kernel, by decide +kernel⟩, List.mem_of_getElem? (i := 840) (by decide +kernel), List.mem_of_getElem? (i := 1137) (by decide +kernel), List.mem_of_getElem? (i := 1138) (by decide +kernel)⟩
theorem lw_p51 : lw_okq (⟨"ToWhoNeedsModel", "keeps", "(I)V"⟩, 39) := ⟨⟨by decide +kernel, by decide +kernel⟩, List.mem_of_getElem? (i := 840) (by decide +kernel), List.mem_of_getElem? (i := 1141) (by decide +kernel), List.mem_of_getElem? (i := 1142) (by decide +kernel)⟩
theorem lw_p52 : lw_okq (⟨"ToWhoNeedsModel", "costAheadOne", "(III)I"⟩, 39) := ⟨⟨by decide +kernel, by decide +kernel⟩, List.mem_of_getElem? (i := 840) (by decide +kernel), List.mem_of_getElem? (i := 1145) (by decide +kernel), List.mem_of_getElem? (i := 1146) (by decide +kernel)⟩
theorem lw_p53 : lw_okq (⟨"ToWhoNeedsModel", "putsBack", "(I)V"⟩, 39) := ⟨⟨by decide +kernel, by decide +kernel⟩, List.mem_of_getElem? (i := 840) (by decide +kernel), List.mem_of_getElem? (i := 1149) (by decide +kernel), List.mem_of_getElem? (i := 1150) (by decide +kernel)⟩
theorem lw_p54 : lw_okq (⟨"ToWhoNeedsModel", "metBy", "(I)I"⟩, 39) := ⟨⟨by decide +kernel, by decide +kernel⟩, List.mem_of_getElem? (i := 840) (by decide +kernel), List.mem_of_getElem? (i := 1165) (by decide +kernel), List.mem_of_getElem? (i := 1166) (by decide +kernel)⟩
theorem lw_p55 : lw_okq (⟨"ToWhoNeedsModel", "ordersBy", "(I)V"⟩, 39) := ⟨⟨by decide +kernel, by decide +kernel⟩, List.mem_of_getElem? (i := 840) (by decide +kernel), List.mem_of_getElem? (i := 1173) (by decide +kernel), List.mem_of_getElem? (i := 1174) (by decide +kernel)⟩
theorem lw_p56 : lw_okq (⟨"ToWhoNeedsModel", "fitting", "(II)I"⟩, 39) := ⟨⟨by decide +kernel, by decide +kernel⟩, List.mem_of_getElem? (i := 840) (by decide +kernel), List.mem_of_getElem? (i := 1196) (by decide +kernel), List.mem_of_getElem? (i := 1197) (by decide +kernel)⟩
theorem lw_p57 : lw_okq (⟨"ToWhoNeedsModel", "isThought", "()Z"⟩, 39) := ⟨⟨by decide +kernel, by decide +kernel⟩, List.mem_of_getElem? (i := 840) (by decide +kernel), List.mem_of_getElem? (i := 1200) (by decide +kernel), List.mem_of_getElem? (i := 1201) (by decide +kernel)⟩
theorem lw_p58 : lw_okq (⟨"ToWhoNeedsModel", "chanceOf", "(II)I"⟩, 39) := ⟨⟨by decide +kernel, by decide +kernel⟩, List.mem_of_getElem? (i := 840) (by decide +kernel), List.mem_of_getElem? (i := 1216) (by decide +kernel), List.mem_of_getElem? (i := 1217) (by decide +kernel)⟩
theorem lw_p59 : lw_okq (⟨"ToWhoNeedsModel", "writesOf", "(I)I"⟩, 39) := ⟨⟨by decide +kernel, by decide +kernel⟩, List.mem_of_getElem? (i := 840) (by decide +kernel), List.mem_of_getElem? (i := 1231) (by decide +kernel), List.mem_of_getElem? (i := 1232) (by decide +kernel)⟩
theorem lw_p60 : lw_okq (⟨"ToWhoNeedsModel", "aimOf", "(I)I"⟩, 39) := ⟨⟨by decide +kernel, by decide +kernel⟩, List.mem_of_getElem? (i := 840) (by decide +kernel), List.mem_of_getElem? (i := 1235) (by decide +kernel), List.mem_of_getElem? (i := 1236) (by decide +kernel)⟩
theorem lw_p61 : lw_okq (⟨"ToWhoNeedsModel", "allOf", "()I"⟩, 39) := ⟨⟨by decide +kernel, by decide +kernel⟩, List.mem_of_getElem? (i := 840) (by decide +kernel), List.mem_of_getElem? (i := 1239) (by decide +kernel), List.mem_of_getElem? (i := 1240) (by decide +kernel)⟩
theorem lw_p62 : lw_okq (⟨"ToWhoNeedsModel", "aheadOf", "(I)I"⟩, 39) := ⟨⟨by decide +kernel, by decide +kernel⟩, List.mem_of_getElem? (i := 840) (by decide +kernel), List.mem_of_getElem? (i := 1243) (by decide +kernel), List.mem_of_getElem? (i := 1244) (by decide +kernel)⟩
theorem lw_p63 : lw_okq (⟨"ToWhoNeedsModel", "aimBehind", "(II)I"⟩, 39) := ⟨⟨by decide +kernel, by decide +kernel⟩, List.mem_of_getElem? (i := 840) (by decide +kernel), List.mem_of_getElem? (i := 1255) (by decide +kernel), List.mem_of_getElem? (i := 1256) (by decide +kernel)⟩
def lw_privs_4 : List (MethodName × Nat) := [(⟨"ToWhoNeedsModel", "whoGets", "()I"⟩, 39), (⟨"ToWhoNeedsModel", "costAhead", "(II)I"⟩, 39), (⟨"ToWhoNeedsModel", "isReached", "(I)Z"⟩, 39), (⟨"ToWhoNeedsModel", "keeps", "(I)V"⟩, 39), (⟨"ToWhoNeedsModel", "costAheadOne", "(III)I"⟩, 39), (⟨"ToWhoNeedsModel", "putsBack", "(I)V"⟩, 39), (⟨"ToWhoNeedsModel", "metBy", "(I)I"⟩, 39), (⟨"ToWhoNeedsModel", "ordersBy", "(I)V"⟩, 39), (⟨"ToWhoNeedsModel", "fitting", "(II)I"⟩, 39), (⟨"ToWhoNeedsModel", "isThought", "()Z"⟩, 39), (⟨"ToWhoNeedsModel", "chanceOf", "(II)I"⟩, 39), (⟨"ToWhoNeedsModel", "writesOf", "(I)I"⟩, 39), (⟨"ToWhoNeedsModel", "aimOf", "(I)I"⟩, 39), (⟨"ToWhoNeedsModel", "allOf", "()I"⟩, 39), (⟨"ToWhoNeedsModel", "aheadOf", "(I)I"⟩, 39), (⟨"ToWhoNeedsModel", "aimBehind", "(II)I"⟩, 39)]
theorem lw_r4 : ∀ q ∈ lw_privs_4, lw_okq q := List.forall_mem_cons.mpr ⟨lw_p48, List.forall_mem_cons.mpr ⟨lw_p49, List.forall_mem_cons.mpr ⟨lw_p50, List.forall_mem_cons.mpr ⟨lw_p51, List.forall_mem_cons.mpr ⟨lw_p52, List.forall_mem_cons.mpr ⟨lw_p53, List.forall_mem_cons.mpr ⟨lw_p54, List.forall_mem_cons.mpr ⟨lw_p55, List.forall_mem_cons.mpr ⟨lw_p56, List.forall_mem_cons.mpr ⟨lw_p57, List.forall_mem_cons.mpr ⟨lw_p58, List.forall_mem_cons.mpr ⟨lw_p59, List.forall_mem_cons.mpr ⟨lw_p60, List.forall_mem_cons.mpr ⟨lw_p61, List.forall_mem_cons.mpr ⟨lw_p62, List.forall_mem_cons.mpr ⟨lw_p63, fun _ h => absurd h List.not_mem_nil⟩⟩⟩⟩⟩⟩⟩⟩⟩⟩⟩⟩⟩⟩⟩⟩
theorem lw_p64 : lw_okq (⟨"ToWhoNeedsModel", "draw", "(I)I"⟩, 39) := ⟨⟨by decide +kernel, by decide +kernel⟩, List.mem_of_getElem? (i := 840) (by decide +kernel), List.mem_of_getElem? (i := 1263) (by decide +kernel), List.mem_of_getElem? (i := 1264) (by decide +kernel)⟩
def lw_privs_5 : List (MethodName × Nat) := [(⟨"ToWhoNeedsModel", "draw", "(I)I"⟩, 39)]
theorem lw_r5 : ∀ q ∈ lw_privs_5, lw_okq q := List.forall_mem_cons.mpr ⟨lw_p64, fun _ h => absurd h List.not_mem_nil⟩
def lw_privs : List (MethodName × Nat) := lw_privs_1 ++ (lw_privs_2 ++ (lw_privs_3 ++ (lw_privs_4 ++ (lw_privs_5))))
def lw_tbl : List Cond := k2_sels lw_privs ++ tables_1
theorem lw_privs_ok : ∀ q ∈ lw_privs, lw_okq q := by
  show ∀ q ∈ lw_privs_1 ++ (lw_privs_2 ++ (lw_privs_3 ++ (lw_privs_4 ++ (lw_privs_5)))), lw_okq q
  exact List.forall_mem_append.mpr ⟨lw_r1, List.forall_mem_append.mpr ⟨lw_r2, List.forall_mem_append.mpr ⟨lw_r3, List.forall_mem_append.mpr ⟨lw_r4, lw_r5⟩⟩⟩⟩
end
section
def RX0 : String := "ToWhoNeeds$Law"
abbrev cX0_init : ByteArray := prog_2_method_1_code
def yX0_init : MethodName := ⟨RX0, "<init>", "(I)V"⟩
def RX1 : String := "ToWhoNeeds$Met"
def TX1 : u_T := fun k => match k with
  | _ => ("ToWhoNeeds$Law", "place", "I", true)
def tyX1 : Nat → FieldType := fun k => match k with
  | _ => .int
theorem nmX1 : ∀ a, a < 1 → ∀ b, b < 1 → a ≠ b → (TX1 a).2.1 ≠ (TX1 b).2.1 := by decide +kernel
theorem tyX1_ok : ∀ k, k < 1 → parseFieldDescriptor (TX1 k).2.2.1 = some (tyX1 k) := by decide +kernel
abbrev cX1_init : ByteArray := prog_3_method_1_code
def yX1_init : MethodName := ⟨RX1, "<init>", "()V"⟩
def RX2 : String := "ToWhoNeeds$Mind"
def TX2 : u_T := fun k => match k with
  | 0 => ("ToWhoNeeds$Mind", "thought", "LToWhoNeeds$People;", true)
  | 1 => ("ToWhoNeeds$Mind", "further", "LToWhoNeeds$People;", true)
  | 2 => ("ToWhoNeeds$Mind", "line", "LToWhoNeeds$Numbers;", true)
  | 3 => ("ToWhoNeeds$Mind", "bestLine", "LToWhoNeeds$Numbers;", true)
  | _ => ("ToWhoNeeds$Mind", "seed", "I", false)
def tyX2 : Nat → FieldType := fun k => match k with
  | 0 => .object "ToWhoNeeds$People"
  | 1 => .object "ToWhoNeeds$People"
  | 2 => .object "ToWhoNeeds$Numbers"
  | 3 => .object "ToWhoNeeds$Numbers"
  | _ => .int
theorem nmX2 : ∀ a, a < 5 → ∀ b, b < 5 → a ≠ b → (TX2 a).2.1 ≠ (TX2 b).2.1 := by decide +kernel
theorem tyX2_ok : ∀ k, k < 5 → parseFieldDescriptor (TX2 k).2.2.1 = some (tyX2 k) := by decide +kernel
abbrev cX2_init : ByteArray := prog_4_method_1_code
def yX2_init : MethodName := ⟨RX2, "<init>", "()V"⟩
def RX3 : String := "ToWhoNeeds$Most"
def TX3 : u_T := fun k => match k with
  | _ => ("ToWhoNeeds$Law", "place", "I", true)
def tyX3 : Nat → FieldType := fun k => match k with
  | _ => .int
theorem nmX3 : ∀ a, a < 1 → ∀ b, b < 1 → a ≠ b → (TX3 a).2.1 ≠ (TX3 b).2.1 := by decide +kernel
theorem tyX3_ok : ∀ k, k < 1 → parseFieldDescriptor (TX3 k).2.2.1 = some (tyX3 k) := by decide +kernel
abbrev cX3_init : ByteArray := prog_5_method_1_code
def yX3_init : MethodName := ⟨RX3, "<init>", "()V"⟩
def RX4 : String := "ToWhoNeeds$Numbers"
def TX4 : u_T := fun k => match k with
  | 0 => ("ToWhoNeeds$Numbers", "items", "[I", true)
  | _ => ("ToWhoNeeds$Numbers", "size", "I", false)
def tyX4 : Nat → FieldType := fun k => match k with
  | 0 => .array .int
  | _ => .int
theorem nmX4 : ∀ a, a < 2 → ∀ b, b < 2 → a ≠ b → (TX4 a).2.1 ≠ (TX4 b).2.1 := by decide +kernel
theorem tyX4_ok : ∀ k, k < 2 → parseFieldDescriptor (TX4 k).2.2.1 = some (tyX4 k) := by decide +kernel
abbrev cX4_init : ByteArray := prog_6_method_1_code
def yX4_init : MethodName := ⟨RX4, "<init>", "(I)V"⟩
def RX5 : String := "ToWhoNeeds$People"
def TX5 : u_T := fun k => match k with
  | 0 => ("ToWhoNeeds$People", "needs", "[I", true)
  | 1 => ("ToWhoNeeds$People", "growths", "[I", true)
  | _ => ("ToWhoNeeds$People", "size", "I", false)
def tyX5 : Nat → FieldType := fun k => match k with
  | 0 => .array .int
  | 1 => .array .int
  | _ => .int
theorem nmX5 : ∀ a, a < 3 → ∀ b, b < 3 → a ≠ b → (TX5 a).2.1 ≠ (TX5 b).2.1 := by decide +kernel
theorem tyX5_ok : ∀ k, k < 3 → parseFieldDescriptor (TX5 k).2.2.1 = some (tyX5 k) := by decide +kernel
abbrev cX5_init : ByteArray := prog_7_method_1_code
def yX5_init : MethodName := ⟨RX5, "<init>", "()V"⟩
def RX6 : String := "ToWhoNeeds$ReadOn"
def TX6 : u_T := fun k => match k with
  | _ => ("ToWhoNeeds$Law", "place", "I", true)
def tyX6 : Nat → FieldType := fun k => match k with
  | _ => .int
theorem nmX6 : ∀ a, a < 1 → ∀ b, b < 1 → a ≠ b → (TX6 a).2.1 ≠ (TX6 b).2.1 := by decide +kernel
theorem tyX6_ok : ∀ k, k < 1 → parseFieldDescriptor (TX6 k).2.2.1 = some (tyX6 k) := by decide +kernel
abbrev cX6_init : ByteArray := prog_8_method_1_code
def yX6_init : MethodName := ⟨RX6, "<init>", "()V"⟩
def RX7 : String := "ToWhoNeeds$Reader"
def TX7 : u_T := fun k => match k with
  | 0 => ("ToWhoNeeds$Reader", "text", "LToWhoNeeds$Numbers;", true)
  | 1 => ("ToWhoNeeds$Reader", "draft", "LToWhoNeeds$State;", true)
  | 2 => ("ToWhoNeeds$Reader", "numbers", "[I", true)
  | _ => ("ToWhoNeeds$Reader", "at", "I", false)
def tyX7 : Nat → FieldType := fun k => match k with
  | 0 => .object "ToWhoNeeds$Numbers"
  | 1 => .object "ToWhoNeeds$State"
  | 2 => .array .int
  | _ => .int
theorem nmX7 : ∀ a, a < 4 → ∀ b, b < 4 → a ≠ b → (TX7 a).2.1 ≠ (TX7 b).2.1 := by decide +kernel
theorem tyX7_ok : ∀ k, k < 4 → parseFieldDescriptor (TX7 k).2.2.1 = some (tyX7 k) := by decide +kernel
abbrev cX7_init : ByteArray := prog_9_method_1_code
def yX7_init : MethodName := ⟨RX7, "<init>", "()V"⟩
def RX8 : String := "ToWhoNeeds$Second"
def TX8 : u_T := fun k => match k with
  | _ => ("ToWhoNeeds$Law", "place", "I", true)
def tyX8 : Nat → FieldType := fun k => match k with
  | _ => .int
theorem nmX8 : ∀ a, a < 1 → ∀ b, b < 1 → a ≠ b → (TX8 a).2.1 ≠ (TX8 b).2.1 := by decide +kernel
theorem tyX8_ok : ∀ k, k < 1 → parseFieldDescriptor (TX8 k).2.2.1 = some (tyX8 k) := by decide +kernel
abbrev cX8_init : ByteArray := prog_10_method_1_code
def yX8_init : MethodName := ⟨RX8, "<init>", "()V"⟩
def RX9 : String := "ToWhoNeeds$State"
def TX9 : u_T := fun k => match k with
  | 0 => ("ToWhoNeeds$State", "people", "LToWhoNeeds$People;", true)
  | 1 => ("ToWhoNeeds$State", "kinds", "LToWhoNeeds$Numbers;", true)
  | 2 => ("ToWhoNeeds$State", "aims", "LToWhoNeeds$Numbers;", true)
  | 3 => ("ToWhoNeeds$State", "letters", "LToWhoNeeds$Numbers;", true)
  | 4 => ("ToWhoNeeds$State", "told", "LToWhoNeeds$Numbers;", true)
  | 5 => ("ToWhoNeeds$State", "wentLetter", "LToWhoNeeds$Numbers;", true)
  | 6 => ("ToWhoNeeds$State", "wentTo", "LToWhoNeeds$Numbers;", true)
  | 7 => ("ToWhoNeeds$State", "law", "I", false)
  | 8 => ("ToWhoNeeds$State", "err", "I", false)
  | 9 => ("ToWhoNeeds$State", "day", "I", false)
  | _ => ("ToWhoNeeds$State", "posted", "I", false)
def tyX9 : Nat → FieldType := fun k => match k with
  | 0 => .object "ToWhoNeeds$People"
  | 1 => .object "ToWhoNeeds$Numbers"
  | 2 => .object "ToWhoNeeds$Numbers"
  | 3 => .object "ToWhoNeeds$Numbers"
  | 4 => .object "ToWhoNeeds$Numbers"
  | 5 => .object "ToWhoNeeds$Numbers"
  | 6 => .object "ToWhoNeeds$Numbers"
  | 7 => .int
  | 8 => .int
  | 9 => .int
  | _ => .int
theorem nmX9 : ∀ a, a < 11 → ∀ b, b < 11 → a ≠ b → (TX9 a).2.1 ≠ (TX9 b).2.1 := by decide +kernel
theorem tyX9_ok : ∀ k, k < 11 → parseFieldDescriptor (TX9 k).2.2.1 = some (tyX9 k) := by decide +kernel
abbrev cX9_init : ByteArray := prog_11_method_1_code
def yX9_init : MethodName := ⟨RX9, "<init>", "()V"⟩
def RX10 : String := "ToWhoNeeds$Sum"
def TX10 : u_T := fun k => match k with
  | _ => ("ToWhoNeeds$Law", "place", "I", true)
def tyX10 : Nat → FieldType := fun k => match k with
  | _ => .int
theorem nmX10 : ∀ a, a < 1 → ∀ b, b < 1 → a ≠ b → (TX10 a).2.1 ≠ (TX10 b).2.1 := by decide +kernel
theorem tyX10_ok : ∀ k, k < 1 → parseFieldDescriptor (TX10 k).2.2.1 = some (tyX10 k) := by decide +kernel
abbrev cX10_init : ByteArray := prog_12_method_1_code
def yX10_init : MethodName := ⟨RX10, "<init>", "(I)V"⟩
def RX11 : String := "ToWhoNeeds"
def TX11 : u_T := fun k => match k with
  | 0 => ("ToWhoNeeds", "state", "LToWhoNeeds$State;", true)
  | 1 => ("ToWhoNeeds", "kept", "LToWhoNeeds$State;", true)
  | 2 => ("ToWhoNeeds", "reader", "LToWhoNeeds$Reader;", true)
  | 3 => ("ToWhoNeeds", "mind", "LToWhoNeeds$Mind;", true)
  | 4 => ("ToWhoNeeds", "kindsOfLaw", "[LToWhoNeeds$Law;", true)
  | 5 => ("ToWhoNeeds", "row", "LToWhoNeeds$Numbers;", true)
  | 6 => ("ToWhoNeeds", "refused", "[I", true)
  | _ => ("ToWhoNeeds", "isKept", "Z", false)
def tyX11 : Nat → FieldType := fun k => match k with
  | 0 => .object "ToWhoNeeds$State"
  | 1 => .object "ToWhoNeeds$State"
  | 2 => .object "ToWhoNeeds$Reader"
  | 3 => .object "ToWhoNeeds$Mind"
  | 4 => .array (.object "ToWhoNeeds$Law")
  | 5 => .object "ToWhoNeeds$Numbers"
  | 6 => .array .int
  | _ => .boolean
theorem nmX11 : ∀ a, a < 8 → ∀ b, b < 8 → a ≠ b → (TX11 a).2.1 ≠ (TX11 b).2.1 := by decide +kernel
theorem tyX11_ok : ∀ k, k < 8 → parseFieldDescriptor (TX11 k).2.2.1 = some (tyX11 k) := by decide +kernel
abbrev cX11_init : ByteArray := prog_1_method_1_code
def yX11_init : MethodName := ⟨RX11, "<init>", "()V"⟩
def RX12 : String := "ToWhoNeedsModel"
def TX12 : u_T := fun k => match k with
  | 0 => ("ToWhoNeedsModel", "refused", "[I", true)
  | 1 => ("ToWhoNeedsModel", "need", "[I", true)
  | 2 => ("ToWhoNeedsModel", "growth", "[I", true)
  | 3 => ("ToWhoNeedsModel", "kind", "[I", true)
  | 4 => ("ToWhoNeedsModel", "his", "[I", true)
  | 5 => ("ToWhoNeedsModel", "told", "[I", true)
  | 6 => ("ToWhoNeedsModel", "ordered", "[I", true)
  | 7 => ("ToWhoNeedsModel", "goingLetter", "[I", true)
  | 8 => ("ToWhoNeedsModel", "goingTo", "[I", true)
  | 9 => ("ToWhoNeedsModel", "persons", "I", false)
  | 10 => ("ToWhoNeedsModel", "writers", "I", false)
  | 11 => ("ToWhoNeedsModel", "law", "I", false)
  | 12 => ("ToWhoNeedsModel", "err", "I", false)
  | 13 => ("ToWhoNeedsModel", "orders", "I", false)
  | 14 => ("ToWhoNeedsModel", "goings", "I", false)
  | 15 => ("ToWhoNeedsModel", "day", "I", false)
  | 16 => ("ToWhoNeedsModel", "posted", "I", false)
  | 17 => ("ToWhoNeedsModel", "tape", "[I", true)
  | 18 => ("ToWhoNeedsModel", "letter", "[I", true)
  | 19 => ("ToWhoNeedsModel", "letterAt", "[I", true)
  | 20 => ("ToWhoNeedsModel", "one", "[I", true)
  | 21 => ("ToWhoNeedsModel", "other", "[I", true)
  | 22 => ("ToWhoNeedsModel", "third", "[I", true)
  | 23 => ("ToWhoNeedsModel", "fourth", "[I", true)
  | 24 => ("ToWhoNeedsModel", "fifth", "[I", true)
  | 25 => ("ToWhoNeedsModel", "taped", "I", false)
  | 26 => ("ToWhoNeedsModel", "at", "I", false)
  | 27 => ("ToWhoNeedsModel", "statements", "I", false)
  | 28 => ("ToWhoNeedsModel", "kept", "[I", true)
  | 29 => ("ToWhoNeedsModel", "needs", "[I", true)
  | 30 => ("ToWhoNeedsModel", "hasImage", "Z", false)
  | 31 => ("ToWhoNeedsModel", "isKeeping", "Z", false)
  | 32 => ("ToWhoNeedsModel", "cursor", "I", false)
  | 33 => ("ToWhoNeedsModel", "had", "I", false)
  | 34 => ("ToWhoNeedsModel", "place", "[I", true)
  | 35 => ("ToWhoNeedsModel", "bestPlace", "[I", true)
  | 36 => ("ToWhoNeedsModel", "lots", "I", false)
  | 37 => ("ToWhoNeedsModel", "row", "[I", true)
  | _ => ("ToWhoNeedsModel", "rowMany", "I", false)
def tyX12 : Nat → FieldType := fun k => match k with
  | 0 => .array .int
  | 1 => .array .int
  | 2 => .array .int
  | 3 => .array .int
  | 4 => .array .int
  | 5 => .array .int
  | 6 => .array .int
  | 7 => .array .int
  | 8 => .array .int
  | 9 => .int
  | 10 => .int
  | 11 => .int
  | 12 => .int
  | 13 => .int
  | 14 => .int
  | 15 => .int
  | 16 => .int
  | 17 => .array .int
  | 18 => .array .int
  | 19 => .array .int
  | 20 => .array .int
  | 21 => .array .int
  | 22 => .array .int
  | 23 => .array .int
  | 24 => .array .int
  | 25 => .int
  | 26 => .int
  | 27 => .int
  | 28 => .array .int
  | 29 => .array .int
  | 30 => .boolean
  | 31 => .boolean
  | 32 => .int
  | 33 => .int
  | 34 => .array .int
  | 35 => .array .int
  | 36 => .int
  | 37 => .array .int
  | _ => .int
theorem nmX12 : ∀ a, a < 39 → ∀ b, b < 39 → a ≠ b → (TX12 a).2.1 ≠ (TX12 b).2.1 := by decide +kernel
theorem tyX12_ok : ∀ k, k < 39 → parseFieldDescriptor (TX12 k).2.2.1 = some (tyX12 k) := by decide +kernel
abbrev cX12_init : ByteArray := prog_14_method_1_code
def yX12_init : MethodName := ⟨RX12, "<init>", "()V"⟩
def RL : String := "ToWhoNeedsLaw"
abbrev cL_law : ByteArray := code
end
section
theorem dX0_init_0 : decode cX0_init 0 = .ok (.aload_n 0, 1) := by decide +kernel
theorem dX0_init_1 : decode cX0_init 1 = .ok (.invokespecial 3, 3) := by decide +kernel
theorem dX0_init_4 : decode cX0_init 4 = .ok (.aload_n 0, 1) := by decide +kernel
theorem dX0_init_5 : decode cX0_init 5 = .ok (.iload_n 1, 1) := by decide +kernel
theorem dX0_init_6 : decode cX0_init 6 = .ok (.putfield 9, 3) := by decide +kernel
theorem dX0_init_9 : decode cX0_init 9 = .ok (.return_, 1) := by decide +kernel
theorem dX1_init_0 : decode cX1_init 0 = .ok (.aload_n 0, 1) := by decide +kernel
theorem dX1_init_1 : decode cX1_init 1 = .ok (.iconst 0, 1) := by decide +kernel
theorem dX1_init_2 : decode cX1_init 2 = .ok (.invokespecial 3, 3) := by decide +kernel
theorem dX1_init_5 : decode cX1_init 5 = .ok (.return_, 1) := by decide +kernel
theorem dX2_init_0 : decode cX2_init 0 = .ok (.aload_n 0, 1) := by decide +kernel
theorem dX2_init_1 : decode cX2_init 1 = .ok (.invokespecial 3, 3) := by decide +kernel
theorem dX2_init_4 : decode cX2_init 4 = .ok (.aload_n 0, 1) := by decide +kernel
theorem dX2_init_5 : decode cX2_init 5 = .ok (.new 9, 3) := by decide +kernel
theorem dX2_init_8 : decode cX2_init 8 = .ok (.dup, 1) := by decide +kernel
theorem dX2_init_9 : decode cX2_init 9 = .ok (.invokespecial 11, 3) := by decide +kernel
theorem dX2_init_12 : decode cX2_init 12 = .ok (.putfield 12, 3) := by decide +kernel
theorem dX2_init_15 : decode cX2_init 15 = .ok (.aload_n 0, 1) := by decide +kernel
theorem dX2_init_16 : decode cX2_init 16 = .ok (.new 9, 3) := by decide +kernel
theorem dX2_init_19 : decode cX2_init 19 = .ok (.dup, 1) := by decide +kernel
theorem dX2_init_20 : decode cX2_init 20 = .ok (.invokespecial 11, 3) := by decide +kernel
theorem dX2_init_23 : decode cX2_init 23 = .ok (.putfield 18, 3) := by decide +kernel
theorem dX2_init_26 : decode cX2_init 26 = .ok (.aload_n 0, 1) := by decide +kernel
theorem dX2_init_27 : decode cX2_init 27 = .ok (.new 21, 3) := by decide +kernel
theorem dX2_init_30 : decode cX2_init 30 = .ok (.dup, 1) := by decide +kernel
theorem dX2_init_31 : decode cX2_init 31 = .ok (.iconst 5, 1) := by decide +kernel
theorem dX2_init_32 : decode cX2_init 32 = .ok (.invokespecial 23, 3) := by decide +kernel
theorem dX2_init_35 : decode cX2_init 35 = .ok (.putfield 26, 3) := by decide +kernel
theorem dX2_init_38 : decode cX2_init 38 = .ok (.aload_n 0, 1) := by decide +kernel
theorem dX2_init_39 : decode cX2_init 39 = .ok (.new 21, 3) := by decide +kernel
theorem dX2_init_42 : decode cX2_init 42 = .ok (.dup, 1) := by decide +kernel
theorem dX2_init_43 : decode cX2_init 43 = .ok (.iconst 5, 1) := by decide +kernel
theorem dX2_init_44 : decode cX2_init 44 = .ok (.invokespecial 23, 3) := by decide +kernel
theorem dX2_init_47 : decode cX2_init 47 = .ok (.putfield 30, 3) := by decide +kernel
theorem dX2_init_50 : decode cX2_init 50 = .ok (.return_, 1) := by decide +kernel
theorem dX3_init_0 : decode cX3_init 0 = .ok (.aload_n 0, 1) := by decide +kernel
theorem dX3_init_1 : decode cX3_init 1 = .ok (.iconst 0, 1) := by decide +kernel
theorem dX3_init_2 : decode cX3_init 2 = .ok (.invokespecial 3, 3) := by decide +kernel
theorem dX3_init_5 : decode cX3_init 5 = .ok (.return_, 1) := by decide +kernel
theorem dX4_init_0 : decode cX4_init 0 = .ok (.aload_n 0, 1) := by decide +kernel
theorem dX4_init_1 : decode cX4_init 1 = .ok (.invokespecial 1, 3) := by decide +kernel
theorem dX4_init_4 : decode cX4_init 4 = .ok (.aload_n 0, 1) := by decide +kernel
theorem dX4_init_5 : decode cX4_init 5 = .ok (.iload_n 1, 1) := by decide +kernel
theorem dX4_init_6 : decode cX4_init 6 = .ok (.ifCond .le 7, 3) := by decide +kernel
theorem dX4_init_9 : decode cX4_init 9 = .ok (.iload_n 1, 1) := by decide +kernel
theorem dX4_init_10 : decode cX4_init 10 = .ok (.goto 4, 3) := by decide +kernel
theorem dX4_init_14 : decode cX4_init 14 = .ok (.newarray .int, 2) := by decide +kernel
theorem dX4_init_16 : decode cX4_init 16 = .ok (.putfield 7, 3) := by decide +kernel
theorem dX4_init_19 : decode cX4_init 19 = .ok (.return_, 1) := by decide +kernel
theorem dX5_init_0 : decode cX5_init 0 = .ok (.aload_n 0, 1) := by decide +kernel
theorem dX5_init_1 : decode cX5_init 1 = .ok (.invokespecial 3, 3) := by decide +kernel
theorem dX5_init_4 : decode cX5_init 4 = .ok (.aload_n 0, 1) := by decide +kernel
theorem dX5_init_5 : decode cX5_init 5 = .ok (.bipush 24, 2) := by decide +kernel
theorem dX5_init_7 : decode cX5_init 7 = .ok (.newarray .int, 2) := by decide +kernel
theorem dX5_init_9 : decode cX5_init 9 = .ok (.putfield 9, 3) := by decide +kernel
theorem dX5_init_12 : decode cX5_init 12 = .ok (.aload_n 0, 1) := by decide +kernel
theorem dX5_init_13 : decode cX5_init 13 = .ok (.bipush 6, 2) := by decide +kernel
theorem dX5_init_15 : decode cX5_init 15 = .ok (.newarray .int, 2) := by decide +kernel
theorem dX5_init_17 : decode cX5_init 17 = .ok (.putfield 15, 3) := by decide +kernel
theorem dX5_init_20 : decode cX5_init 20 = .ok (.return_, 1) := by decide +kernel
theorem dX6_init_0 : decode cX6_init 0 = .ok (.aload_n 0, 1) := by decide +kernel
theorem dX6_init_1 : decode cX6_init 1 = .ok (.invokespecial 1, 3) := by decide +kernel
theorem dX6_init_4 : decode cX6_init 4 = .ok (.return_, 1) := by decide +kernel
theorem dX7_init_0 : decode cX7_init 0 = .ok (.aload_n 0, 1) := by decide +kernel
theorem dX7_init_1 : decode cX7_init 1 = .ok (.invokespecial 3, 3) := by decide +kernel
theorem dX7_init_4 : decode cX7_init 4 = .ok (.aload_n 0, 1) := by decide +kernel
theorem dX7_init_5 : decode cX7_init 5 = .ok (.new 9, 3) := by decide +kernel
theorem dX7_init_8 : decode cX7_init 8 = .ok (.dup, 1) := by decide +kernel
theorem dX7_init_9 : decode cX7_init 9 = .ok (.bipush 64, 2) := by decide +kernel
theorem dX7_init_11 : decode cX7_init 11 = .ok (.invokespecial 11, 3) := by decide +kernel
theorem dX7_init_14 : decode cX7_init 14 = .ok (.putfield 14, 3) := by decide +kernel
theorem dX7_init_17 : decode cX7_init 17 = .ok (.aload_n 0, 1) := by decide +kernel
theorem dX7_init_18 : decode cX7_init 18 = .ok (.new 20, 3) := by decide +kernel
theorem dX7_init_21 : decode cX7_init 21 = .ok (.dup, 1) := by decide +kernel
theorem dX7_init_22 : decode cX7_init 22 = .ok (.invokespecial 22, 3) := by decide +kernel
theorem dX7_init_25 : decode cX7_init 25 = .ok (.putfield 23, 3) := by decide +kernel
theorem dX7_init_28 : decode cX7_init 28 = .ok (.aload_n 0, 1) := by decide +kernel
theorem dX7_init_29 : decode cX7_init 29 = .ok (.iconst 5, 1) := by decide +kernel
theorem dX7_init_30 : decode cX7_init 30 = .ok (.newarray .int, 2) := by decide +kernel
theorem dX7_init_32 : decode cX7_init 32 = .ok (.putfield 27, 3) := by decide +kernel
theorem dX7_init_35 : decode cX7_init 35 = .ok (.return_, 1) := by decide +kernel
theorem dX8_init_0 : decode cX8_init 0 = .ok (.aload_n 0, 1) := by decide +kernel
theorem dX8_init_1 : decode cX8_init 1 = .ok (.iconst 1, 1) := by decide +kernel
theorem dX8_init_2 : decode cX8_init 2 = .ok (.invokespecial 1, 3) := by decide +kernel
theorem dX8_init_5 : decode cX8_init 5 = .ok (.return_, 1) := by decide +kernel
theorem dX9_init_0 : decode cX9_init 0 = .ok (.aload_n 0, 1) := by decide +kernel
theorem dX9_init_1 : decode cX9_init 1 = .ok (.invokespecial 3, 3) := by decide +kernel
theorem dX9_init_4 : decode cX9_init 4 = .ok (.aload_n 0, 1) := by decide +kernel
theorem dX9_init_5 : decode cX9_init 5 = .ok (.new 9, 3) := by decide +kernel
theorem dX9_init_8 : decode cX9_init 8 = .ok (.dup, 1) := by decide +kernel
theorem dX9_init_9 : decode cX9_init 9 = .ok (.invokespecial 11, 3) := by decide +kernel
theorem dX9_init_12 : decode cX9_init 12 = .ok (.putfield 12, 3) := by decide +kernel
theorem dX9_init_15 : decode cX9_init 15 = .ok (.aload_n 0, 1) := by decide +kernel
theorem dX9_init_16 : decode cX9_init 16 = .ok (.new 18, 3) := by decide +kernel
theorem dX9_init_19 : decode cX9_init 19 = .ok (.dup, 1) := by decide +kernel
theorem dX9_init_20 : decode cX9_init 20 = .ok (.iconst 4, 1) := by decide +kernel
theorem dX9_init_21 : decode cX9_init 21 = .ok (.invokespecial 20, 3) := by decide +kernel
theorem dX9_init_24 : decode cX9_init 24 = .ok (.putfield 23, 3) := by decide +kernel
theorem dX9_init_27 : decode cX9_init 27 = .ok (.aload_n 0, 1) := by decide +kernel
theorem dX9_init_28 : decode cX9_init 28 = .ok (.new 18, 3) := by decide +kernel
theorem dX9_init_31 : decode cX9_init 31 = .ok (.dup, 1) := by decide +kernel
theorem dX9_init_32 : decode cX9_init 32 = .ok (.iconst 4, 1) := by decide +kernel
theorem dX9_init_33 : decode cX9_init 33 = .ok (.invokespecial 20, 3) := by decide +kernel
theorem dX9_init_36 : decode cX9_init 36 = .ok (.putfield 27, 3) := by decide +kernel
theorem dX9_init_39 : decode cX9_init 39 = .ok (.aload_n 0, 1) := by decide +kernel
theorem dX9_init_40 : decode cX9_init 40 = .ok (.new 18, 3) := by decide +kernel
theorem dX9_init_43 : decode cX9_init 43 = .ok (.dup, 1) := by decide +kernel
theorem dX9_init_44 : decode cX9_init 44 = .ok (.iconst 4, 1) := by decide +kernel
theorem dX9_init_45 : decode cX9_init 45 = .ok (.invokespecial 20, 3) := by decide +kernel
theorem dX9_init_48 : decode cX9_init 48 = .ok (.putfield 30, 3) := by decide +kernel
theorem dX9_init_51 : decode cX9_init 51 = .ok (.aload_n 0, 1) := by decide +kernel
theorem dX9_init_52 : decode cX9_init 52 = .ok (.new 18, 3) := by decide +kernel
theorem dX9_init_55 : decode cX9_init 55 = .ok (.dup, 1) := by decide +kernel
theorem dX9_init_56 : decode cX9_init 56 = .ok (.iconst 5, 1) := by decide +kernel
theorem dX9_init_57 : decode cX9_init 57 = .ok (.invokespecial 20, 3) := by decide +kernel
theorem dX9_init_60 : decode cX9_init 60 = .ok (.putfield 33, 3) := by decide +kernel
theorem dX9_init_63 : decode cX9_init 63 = .ok (.aload_n 0, 1) := by decide +kernel
theorem dX9_init_64 : decode cX9_init 64 = .ok (.new 18, 3) := by decide +kernel
theorem dX9_init_67 : decode cX9_init 67 = .ok (.dup, 1) := by decide +kernel
theorem dX9_init_68 : decode cX9_init 68 = .ok (.bipush 6, 2) := by decide +kernel
theorem dX9_init_70 : decode cX9_init 70 = .ok (.invokespecial 20, 3) := by decide +kernel
theorem dX9_init_73 : decode cX9_init 73 = .ok (.putfield 36, 3) := by decide +kernel
theorem dX9_init_76 : decode cX9_init 76 = .ok (.aload_n 0, 1) := by decide +kernel
theorem dX9_init_77 : decode cX9_init 77 = .ok (.new 18, 3) := by decide +kernel
theorem dX9_init_80 : decode cX9_init 80 = .ok (.dup, 1) := by decide +kernel
theorem dX9_init_81 : decode cX9_init 81 = .ok (.bipush 6, 2) := by decide +kernel
theorem dX9_init_83 : decode cX9_init 83 = .ok (.invokespecial 20, 3) := by decide +kernel
theorem dX9_init_86 : decode cX9_init 86 = .ok (.putfield 39, 3) := by decide +kernel
theorem dX9_init_89 : decode cX9_init 89 = .ok (.return_, 1) := by decide +kernel
theorem dX10_init_0 : decode cX10_init 0 = .ok (.aload_n 0, 1) := by decide +kernel
theorem dX10_init_1 : decode cX10_init 1 = .ok (.iload_n 1, 1) := by decide +kernel
theorem dX10_init_2 : decode cX10_init 2 = .ok (.invokespecial 3, 3) := by decide +kernel
theorem dX10_init_5 : decode cX10_init 5 = .ok (.return_, 1) := by decide +kernel
theorem dX11_init_0 : decode cX11_init 0 = .ok (.aload_n 0, 1) := by decide +kernel
theorem dX11_init_1 : decode cX11_init 1 = .ok (.invokespecial 1, 3) := by decide +kernel
theorem dX11_init_4 : decode cX11_init 4 = .ok (.aload_n 0, 1) := by decide +kernel
theorem dX11_init_5 : decode cX11_init 5 = .ok (.new 7, 3) := by decide +kernel
theorem dX11_init_8 : decode cX11_init 8 = .ok (.dup, 1) := by decide +kernel
theorem dX11_init_9 : decode cX11_init 9 = .ok (.invokespecial 9, 3) := by decide +kernel
theorem dX11_init_12 : decode cX11_init 12 = .ok (.putfield 10, 3) := by decide +kernel
theorem dX11_init_15 : decode cX11_init 15 = .ok (.aload_n 0, 1) := by decide +kernel
theorem dX11_init_16 : decode cX11_init 16 = .ok (.new 7, 3) := by decide +kernel
theorem dX11_init_19 : decode cX11_init 19 = .ok (.dup, 1) := by decide +kernel
theorem dX11_init_20 : decode cX11_init 20 = .ok (.invokespecial 9, 3) := by decide +kernel
theorem dX11_init_23 : decode cX11_init 23 = .ok (.putfield 16, 3) := by decide +kernel
theorem dX11_init_26 : decode cX11_init 26 = .ok (.aload_n 0, 1) := by decide +kernel
theorem dX11_init_27 : decode cX11_init 27 = .ok (.new 19, 3) := by decide +kernel
theorem dX11_init_30 : decode cX11_init 30 = .ok (.dup, 1) := by decide +kernel
theorem dX11_init_31 : decode cX11_init 31 = .ok (.invokespecial 21, 3) := by decide +kernel
theorem dX11_init_34 : decode cX11_init 34 = .ok (.putfield 22, 3) := by decide +kernel
theorem dX11_init_37 : decode cX11_init 37 = .ok (.aload_n 0, 1) := by decide +kernel
theorem dX11_init_38 : decode cX11_init 38 = .ok (.new 26, 3) := by decide +kernel
theorem dX11_init_41 : decode cX11_init 41 = .ok (.dup, 1) := by decide +kernel
theorem dX11_init_42 : decode cX11_init 42 = .ok (.invokespecial 28, 3) := by decide +kernel
theorem dX11_init_45 : decode cX11_init 45 = .ok (.putfield 29, 3) := by decide +kernel
theorem dX11_init_48 : decode cX11_init 48 = .ok (.aload_n 0, 1) := by decide +kernel
theorem dX11_init_49 : decode cX11_init 49 = .ok (.iconst 5, 1) := by decide +kernel
theorem dX11_init_50 : decode cX11_init 50 = .ok (.anewarray 33, 3) := by decide +kernel
theorem dX11_init_53 : decode cX11_init 53 = .ok (.dup, 1) := by decide +kernel
theorem dX11_init_54 : decode cX11_init 54 = .ok (.iconst 0, 1) := by decide +kernel
theorem dX11_init_55 : decode cX11_init 55 = .ok (.new 35, 3) := by decide +kernel
theorem dX11_init_58 : decode cX11_init 58 = .ok (.dup, 1) := by decide +kernel
theorem dX11_init_59 : decode cX11_init 59 = .ok (.iconst 0, 1) := by decide +kernel
theorem dX11_init_60 : decode cX11_init 60 = .ok (.invokespecial 37, 3) := by decide +kernel
theorem dX11_init_63 : decode cX11_init 63 = .ok (.aastore, 1) := by decide +kernel
theorem dX11_init_64 : decode cX11_init 64 = .ok (.dup, 1) := by decide +kernel
theorem dX11_init_65 : decode cX11_init 65 = .ok (.iconst 1, 1) := by decide +kernel
theorem dX11_init_66 : decode cX11_init 66 = .ok (.new 40, 3) := by decide +kernel
theorem dX11_init_69 : decode cX11_init 69 = .ok (.dup, 1) := by decide +kernel
theorem dX11_init_70 : decode cX11_init 70 = .ok (.invokespecial 42, 3) := by decide +kernel
theorem dX11_init_73 : decode cX11_init 73 = .ok (.aastore, 1) := by decide +kernel
theorem dX11_init_74 : decode cX11_init 74 = .ok (.dup, 1) := by decide +kernel
theorem dX11_init_75 : decode cX11_init 75 = .ok (.iconst 2, 1) := by decide +kernel
theorem dX11_init_76 : decode cX11_init 76 = .ok (.new 43, 3) := by decide +kernel
theorem dX11_init_79 : decode cX11_init 79 = .ok (.dup, 1) := by decide +kernel
theorem dX11_init_80 : decode cX11_init 80 = .ok (.invokespecial 45, 3) := by decide +kernel
theorem dX11_init_83 : decode cX11_init 83 = .ok (.aastore, 1) := by decide +kernel
theorem dX11_init_84 : decode cX11_init 84 = .ok (.dup, 1) := by decide +kernel
theorem dX11_init_85 : decode cX11_init 85 = .ok (.iconst 3, 1) := by decide +kernel
theorem dX11_init_86 : decode cX11_init 86 = .ok (.new 46, 3) := by decide +kernel
theorem dX11_init_89 : decode cX11_init 89 = .ok (.dup, 1) := by decide +kernel
theorem dX11_init_90 : decode cX11_init 90 = .ok (.invokespecial 48, 3) := by decide +kernel
theorem dX11_init_93 : decode cX11_init 93 = .ok (.aastore, 1) := by decide +kernel
theorem dX11_init_94 : decode cX11_init 94 = .ok (.dup, 1) := by decide +kernel
theorem dX11_init_95 : decode cX11_init 95 = .ok (.iconst 4, 1) := by decide +kernel
theorem dX11_init_96 : decode cX11_init 96 = .ok (.new 49, 3) := by decide +kernel
theorem dX11_init_99 : decode cX11_init 99 = .ok (.dup, 1) := by decide +kernel
theorem dX11_init_100 : decode cX11_init 100 = .ok (.invokespecial 51, 3) := by decide +kernel
theorem dX11_init_103 : decode cX11_init 103 = .ok (.aastore, 1) := by decide +kernel
theorem dX11_init_104 : decode cX11_init 104 = .ok (.putfield 52, 3) := by decide +kernel
theorem dX11_init_107 : decode cX11_init 107 = .ok (.aload_n 0, 1) := by decide +kernel
theorem dX11_init_108 : decode cX11_init 108 = .ok (.new 56, 3) := by decide +kernel
theorem dX11_init_111 : decode cX11_init 111 = .ok (.dup, 1) := by decide +kernel
theorem dX11_init_112 : decode cX11_init 112 = .ok (.bipush 8, 2) := by decide +kernel
theorem dX11_init_114 : decode cX11_init 114 = .ok (.invokespecial 58, 3) := by decide +kernel
theorem dX11_init_117 : decode cX11_init 117 = .ok (.putfield 59, 3) := by decide +kernel
theorem dX11_init_120 : decode cX11_init 120 = .ok (.aload_n 0, 1) := by decide +kernel
theorem dX11_init_121 : decode cX11_init 121 = .ok (.bipush 7, 2) := by decide +kernel
theorem dX11_init_123 : decode cX11_init 123 = .ok (.newarray .int, 2) := by decide +kernel
theorem dX11_init_125 : decode cX11_init 125 = .ok (.putfield 63, 3) := by decide +kernel
theorem dX11_init_128 : decode cX11_init 128 = .ok (.return_, 1) := by decide +kernel
end
section
theorem dX12_init_0 : decode cX12_init 0 = .ok (.aload_n 0, 1) := by decide +kernel
theorem dX12_init_1 : decode cX12_init 1 = .ok (.invokespecial 1, 3) := by decide +kernel
theorem dX12_init_4 : decode cX12_init 4 = .ok (.aload_n 0, 1) := by decide +kernel
theorem dX12_init_5 : decode cX12_init 5 = .ok (.bipush 7, 2) := by decide +kernel
theorem dX12_init_7 : decode cX12_init 7 = .ok (.newarray .int, 2) := by decide +kernel
theorem dX12_init_9 : decode cX12_init 9 = .ok (.putfield 7, 3) := by decide +kernel
theorem dX12_init_12 : decode cX12_init 12 = .ok (.aload_n 0, 1) := by decide +kernel
theorem dX12_init_13 : decode cX12_init 13 = .ok (.bipush 24, 2) := by decide +kernel
theorem dX12_init_15 : decode cX12_init 15 = .ok (.newarray .int, 2) := by decide +kernel
theorem dX12_init_17 : decode cX12_init 17 = .ok (.putfield 13, 3) := by decide +kernel
theorem dX12_init_20 : decode cX12_init 20 = .ok (.aload_n 0, 1) := by decide +kernel
theorem dX12_init_21 : decode cX12_init 21 = .ok (.bipush 6, 2) := by decide +kernel
theorem dX12_init_23 : decode cX12_init 23 = .ok (.newarray .int, 2) := by decide +kernel
theorem dX12_init_25 : decode cX12_init 25 = .ok (.putfield 16, 3) := by decide +kernel
theorem dX12_init_28 : decode cX12_init 28 = .ok (.aload_n 0, 1) := by decide +kernel
theorem dX12_init_29 : decode cX12_init 29 = .ok (.iconst 4, 1) := by decide +kernel
theorem dX12_init_30 : decode cX12_init 30 = .ok (.newarray .int, 2) := by decide +kernel
theorem dX12_init_32 : decode cX12_init 32 = .ok (.putfield 19, 3) := by decide +kernel
theorem dX12_init_35 : decode cX12_init 35 = .ok (.aload_n 0, 1) := by decide +kernel
theorem dX12_init_36 : decode cX12_init 36 = .ok (.iconst 4, 1) := by decide +kernel
theorem dX12_init_37 : decode cX12_init 37 = .ok (.newarray .int, 2) := by decide +kernel
theorem dX12_init_39 : decode cX12_init 39 = .ok (.putfield 22, 3) := by decide +kernel
theorem dX12_init_42 : decode cX12_init 42 = .ok (.aload_n 0, 1) := by decide +kernel
theorem dX12_init_43 : decode cX12_init 43 = .ok (.iconst 4, 1) := by decide +kernel
theorem dX12_init_44 : decode cX12_init 44 = .ok (.newarray .int, 2) := by decide +kernel
theorem dX12_init_46 : decode cX12_init 46 = .ok (.putfield 25, 3) := by decide +kernel
theorem dX12_init_49 : decode cX12_init 49 = .ok (.aload_n 0, 1) := by decide +kernel
theorem dX12_init_50 : decode cX12_init 50 = .ok (.iconst 5, 1) := by decide +kernel
theorem dX12_init_51 : decode cX12_init 51 = .ok (.newarray .int, 2) := by decide +kernel
theorem dX12_init_53 : decode cX12_init 53 = .ok (.putfield 28, 3) := by decide +kernel
theorem dX12_init_56 : decode cX12_init 56 = .ok (.aload_n 0, 1) := by decide +kernel
theorem dX12_init_57 : decode cX12_init 57 = .ok (.bipush 6, 2) := by decide +kernel
theorem dX12_init_59 : decode cX12_init 59 = .ok (.newarray .int, 2) := by decide +kernel
theorem dX12_init_61 : decode cX12_init 61 = .ok (.putfield 31, 3) := by decide +kernel
theorem dX12_init_64 : decode cX12_init 64 = .ok (.aload_n 0, 1) := by decide +kernel
theorem dX12_init_65 : decode cX12_init 65 = .ok (.bipush 6, 2) := by decide +kernel
theorem dX12_init_67 : decode cX12_init 67 = .ok (.newarray .int, 2) := by decide +kernel
theorem dX12_init_69 : decode cX12_init 69 = .ok (.putfield 34, 3) := by decide +kernel
theorem dX12_init_72 : decode cX12_init 72 = .ok (.aload_n 0, 1) := by decide +kernel
theorem dX12_init_73 : decode cX12_init 73 = .ok (.bipush 64, 2) := by decide +kernel
theorem dX12_init_75 : decode cX12_init 75 = .ok (.newarray .int, 2) := by decide +kernel
theorem dX12_init_77 : decode cX12_init 77 = .ok (.putfield 37, 3) := by decide +kernel
theorem dX12_init_80 : decode cX12_init 80 = .ok (.aload_n 0, 1) := by decide +kernel
theorem dX12_init_81 : decode cX12_init 81 = .ok (.bipush 32, 2) := by decide +kernel
theorem dX12_init_83 : decode cX12_init 83 = .ok (.newarray .int, 2) := by decide +kernel
theorem dX12_init_85 : decode cX12_init 85 = .ok (.putfield 40, 3) := by decide +kernel
theorem dX12_init_88 : decode cX12_init 88 = .ok (.aload_n 0, 1) := by decide +kernel
theorem dX12_init_89 : decode cX12_init 89 = .ok (.bipush 32, 2) := by decide +kernel
theorem dX12_init_91 : decode cX12_init 91 = .ok (.newarray .int, 2) := by decide +kernel
theorem dX12_init_93 : decode cX12_init 93 = .ok (.putfield 43, 3) := by decide +kernel
theorem dX12_init_96 : decode cX12_init 96 = .ok (.aload_n 0, 1) := by decide +kernel
theorem dX12_init_97 : decode cX12_init 97 = .ok (.bipush 32, 2) := by decide +kernel
theorem dX12_init_99 : decode cX12_init 99 = .ok (.newarray .int, 2) := by decide +kernel
theorem dX12_init_101 : decode cX12_init 101 = .ok (.putfield 46, 3) := by decide +kernel
theorem dX12_init_104 : decode cX12_init 104 = .ok (.aload_n 0, 1) := by decide +kernel
theorem dX12_init_105 : decode cX12_init 105 = .ok (.bipush 32, 2) := by decide +kernel
theorem dX12_init_107 : decode cX12_init 107 = .ok (.newarray .int, 2) := by decide +kernel
theorem dX12_init_109 : decode cX12_init 109 = .ok (.putfield 49, 3) := by decide +kernel
theorem dX12_init_112 : decode cX12_init 112 = .ok (.aload_n 0, 1) := by decide +kernel
theorem dX12_init_113 : decode cX12_init 113 = .ok (.bipush 32, 2) := by decide +kernel
theorem dX12_init_115 : decode cX12_init 115 = .ok (.newarray .int, 2) := by decide +kernel
theorem dX12_init_117 : decode cX12_init 117 = .ok (.putfield 52, 3) := by decide +kernel
theorem dX12_init_120 : decode cX12_init 120 = .ok (.aload_n 0, 1) := by decide +kernel
theorem dX12_init_121 : decode cX12_init 121 = .ok (.bipush 32, 2) := by decide +kernel
theorem dX12_init_123 : decode cX12_init 123 = .ok (.newarray .int, 2) := by decide +kernel
theorem dX12_init_125 : decode cX12_init 125 = .ok (.putfield 55, 3) := by decide +kernel
theorem dX12_init_128 : decode cX12_init 128 = .ok (.aload_n 0, 1) := by decide +kernel
theorem dX12_init_129 : decode cX12_init 129 = .ok (.bipush 32, 2) := by decide +kernel
theorem dX12_init_131 : decode cX12_init 131 = .ok (.newarray .int, 2) := by decide +kernel
theorem dX12_init_133 : decode cX12_init 133 = .ok (.putfield 58, 3) := by decide +kernel
theorem dX12_init_136 : decode cX12_init 136 = .ok (.aload_n 0, 1) := by decide +kernel
theorem dX12_init_137 : decode cX12_init 137 = .ok (.sipush 300, 3) := by decide +kernel
theorem dX12_init_140 : decode cX12_init 140 = .ok (.newarray .int, 2) := by decide +kernel
theorem dX12_init_142 : decode cX12_init 142 = .ok (.putfield 61, 3) := by decide +kernel
theorem dX12_init_145 : decode cX12_init 145 = .ok (.aload_n 0, 1) := by decide +kernel
theorem dX12_init_146 : decode cX12_init 146 = .ok (.bipush 120, 2) := by decide +kernel
theorem dX12_init_148 : decode cX12_init 148 = .ok (.newarray .int, 2) := by decide +kernel
theorem dX12_init_150 : decode cX12_init 150 = .ok (.putfield 64, 3) := by decide +kernel
theorem dX12_init_153 : decode cX12_init 153 = .ok (.aload_n 0, 1) := by decide +kernel
theorem dX12_init_154 : decode cX12_init 154 = .ok (.iconst 5, 1) := by decide +kernel
theorem dX12_init_155 : decode cX12_init 155 = .ok (.newarray .int, 2) := by decide +kernel
theorem dX12_init_157 : decode cX12_init 157 = .ok (.putfield 67, 3) := by decide +kernel
theorem dX12_init_160 : decode cX12_init 160 = .ok (.aload_n 0, 1) := by decide +kernel
theorem dX12_init_161 : decode cX12_init 161 = .ok (.iconst 5, 1) := by decide +kernel
theorem dX12_init_162 : decode cX12_init 162 = .ok (.newarray .int, 2) := by decide +kernel
theorem dX12_init_164 : decode cX12_init 164 = .ok (.putfield 70, 3) := by decide +kernel
theorem dX12_init_167 : decode cX12_init 167 = .ok (.aload_n 0, 1) := by decide +kernel
theorem dX12_init_168 : decode cX12_init 168 = .ok (.bipush 8, 2) := by decide +kernel
theorem dX12_init_170 : decode cX12_init 170 = .ok (.newarray .int, 2) := by decide +kernel
theorem dX12_init_172 : decode cX12_init 172 = .ok (.putfield 73, 3) := by decide +kernel
theorem dX12_init_175 : decode cX12_init 175 = .ok (.return_, 1) := by decide +kernel
end
section
theorem dL_law_0 : decode cL_law 0 = .ok (.new 7, 3) := by decide +kernel
theorem dL_law_3 : decode cL_law 3 = .ok (.dup, 1) := by decide +kernel
theorem dL_law_4 : decode cL_law 4 = .ok (.invokespecial 9, 3) := by decide +kernel
theorem dL_law_7 : decode cL_law 7 = .ok (.astore_n 1, 1) := by decide +kernel
theorem dL_law_8 : decode cL_law 8 = .ok (.new 10, 3) := by decide +kernel
theorem dL_law_11 : decode cL_law 11 = .ok (.dup, 1) := by decide +kernel
theorem dL_law_12 : decode cL_law 12 = .ok (.invokespecial 12, 3) := by decide +kernel
theorem dL_law_15 : decode cL_law 15 = .ok (.astore_n 2, 1) := by decide +kernel
end
section
abbrev Sg : Type := Nat → Nat → Int32
abbrev Ev : Type := va_G × (Nat → Nat) × (Nat → Nat)
abbrev Yv : Type := MethodName × ByteArray × Nat × Option FieldType × Nat × Nat
abbrev Xv : Type := Program × Launch × Env × State × MethodId × Array Value × List Frame × Method × Code
abbrev Pv : Type := Option Value × Sg
def kdL : List (Nat × Nat) := [(0, 0), (1, 0), (2, 0), (8, 24), (8, 6), (3, 0), (8, 4), (3, 0), (8, 4), (3, 0), (8, 4), (3, 0), (8, 5), (3, 0), (8, 6), (3, 0), (8, 6), (1, 0), (2, 0), (8, 24), (8, 6), (3, 0), (8, 4), (3, 0), (8, 4), (3, 0), (8, 4), (3, 0), (8, 5), (3, 0), (8, 6), (3, 0), (8, 6), (4, 0), (3, 0), (8, 64), (1, 0), (2, 0), (8, 24), (8, 6), (3, 0), (8, 4), (3, 0), (8, 4), (3, 0), (8, 4), (3, 0), (8, 5), (3, 0), (8, 6), (3, 0), (8, 6), (8, 5), (5, 0), (2, 0), (8, 24), (8, 6), (2, 0), (8, 24), (8, 6), (3, 0), (8, 5), (3, 0), (8, 5), (9, 5), (6, 9), (6, 0), (6, 2), (6, 7), (6, 5), (3, 0), (8, 8), (8, 7), (7, 0), (8, 7), (8, 24), (8, 6), (8, 4), (8, 4), (8, 4), (8, 5), (8, 6), (8, 6), (8, 64), (8, 32), (8, 32), (8, 32), (8, 32), (8, 32), (8, 32), (8, 32), (8, 300), (8, 120), (8, 5), (8, 5), (8, 8)]
def kd (q : Nat) : Nat × Nat := kdL.getD q (99, 0)
abbrev vwC : List vw_C := [(RX1, TX1, 1), (RX2, TX2, 5), (RX3, TX3, 1), (RX4, TX4, 2), (RX5, TX5, 3), (RX6, TX6, 1), (RX7, TX7, 4), (RX8, TX8, 1), (RX9, TX9, 11), (RX10, TX10, 1), (RX11, TX11, 8), (RX12, TX12, 39)]
abbrev fs_0 (E : Ev) (σ : Sg) (q : Nat) : List Value := [.ref (E.2.1 1), .ref (E.2.1 17), .ref (E.2.1 33), .ref (E.2.1 53), .ref (E.2.1 64), .ref (E.2.1 70), .ref (E.2.1 72), .int (σ q 7)]
abbrev fs_1 (E : Ev) (σ : Sg) (q : Nat) : List Value := [.ref (E.2.1 (q + 1)), .ref (E.2.1 (q + 4)), .ref (E.2.1 (q + 6)), .ref (E.2.1 (q + 8)), .ref (E.2.1 (q + 10)), .ref (E.2.1 (q + 12)), .ref (E.2.1 (q + 14)), .int (σ q 7), .int (σ q 8), .int (σ q 9), .int (σ q 10)]
abbrev fs_2 (E : Ev) (σ : Sg) (q : Nat) : List Value := [.ref (E.2.1 (q + 1)), .ref (E.2.1 (q + 2)), .int (σ q 2)]
abbrev fs_3 (E : Ev) (σ : Sg) (q : Nat) : List Value := [.ref (E.2.1 (q + 1)), .int (σ q 1)]
abbrev fs_4 (E : Ev) (σ : Sg) (q : Nat) : List Value := [.ref (E.2.1 34), .ref (E.2.1 36), .ref (E.2.1 52), .int (σ q 3)]
abbrev fs_5 (E : Ev) (σ : Sg) (q : Nat) : List Value := [.ref (E.2.1 54), .ref (E.2.1 57), .ref (E.2.1 60), .ref (E.2.1 62), .int (σ q 4)]
abbrev fs_6 (_ : Ev) (σ : Sg) (q : Nat) : List Value := [.int (σ q 0)]
abbrev fs_7 (E : Ev) (σ : Sg) (q : Nat) : List Value := [.ref (E.2.1 74), .ref (E.2.1 75), .ref (E.2.1 76), .ref (E.2.1 77), .ref (E.2.1 78), .ref (E.2.1 79), .ref (E.2.1 80), .ref (E.2.1 81), .ref (E.2.1 82), .int (σ q 9), .int (σ q 10), .int (σ q 11), .int (σ q 12), .int (σ q 13), .int (σ q 14), .int (σ q 15), .int (σ q 16), .ref (E.2.1 83), .ref (E.2.1 84), .ref (E.2.1 85), .ref (E.2.1 86), .ref (E.2.1 87), .ref (E.2.1 88), .ref (E.2.1 89), .ref (E.2.1 90), .int (σ q 25), .int (σ q 26), .int (σ q 27), .ref (E.2.1 91), .ref (E.2.1 92), .int (σ q 30), .int (σ q 31), .int (σ q 32), .int (σ q 33), .ref (E.2.1 93), .ref (E.2.1 94), .int (σ q 36), .ref (E.2.1 95), .int (σ q 38)]
def lawsAt (E : Ev) (j : Nat) : Option Nat := if j < 5 then some (E.2.1 (65 + j)) else none
def wc (E : Ev) (σ : Sg) (q : Nat) : va_E := match (kd q).1 with
  | 0 => .inr (10, fs_0 E σ q)
  | 1 => .inr (8, fs_1 E σ q)
  | 2 => .inr (4, fs_2 E σ q)
  | 3 => .inr (3, fs_3 E σ q)
  | 4 => .inr (6, fs_4 E σ q)
  | 5 => .inr (1, fs_5 E σ q)
  | 6 => .inr ((kd q).2, fs_6 E σ q)
  | 7 => .inr (11, fs_7 E σ q)
  | 8 => .inl (E.2.2 0, (kd q).2, .inl (σ q))
  | _ => .inl (E.2.2 1, (kd q).2, .inr (.inr (.inr (.inr (lawsAt E)))))
def wl (E : Ev) (σ : Sg) : va_W := (List.range 96).map (fun q => (E.2.1 q, wc E σ q))
theorem wl_get (E : Ev) (σ : Sg) {q : Nat} (h : q < 96) : (wl E σ)[q]? = some (E.2.1 q, wc E σ q) := by
  simp [wl, List.getElem?_map, List.getElem?_range h]
def Aw (E : Ev) : Nat → Prop := fun a => ∃ k, k < 96 ∧ a = E.2.1 k
def Inj (E : Ev) : Prop := ∀ i j, i < 96 → j < 96 → E.2.1 i = E.2.1 j → i = j
/-- the words that travel -/
def WT : List Cond := lw_tbl.filter goodWord
theorem wt_of {w : Cond} (h : w ∈ lw_tbl) (hg : goodWord w = true) : w ∈ WT := List.mem_filter.mpr ⟨h, hg⟩
theorem wt_good {y : MethodName} {cc : ByteArray} {n : Nat} {r : Option FieldType} (h : Cond.code y cc n r ∈ WT) : GoodIn WT (Cond.code y cc n r :: WT) := by
  intro w hw
  have hm : w ∈ WT := by
    rcases List.mem_cons.mp hw with rfl | hw
    · exact h
    · exact hw
  exact ⟨hm, good_of_word (List.mem_filter.mp hm).2⟩
/-- the words of nest mates' members: they are carried in the start -/
def isNest : Cond → Bool
  | .fieldLinkNest _ _ _ _ _ _ => true
  | .methodLinkNest _ _ _ _ => true
  | .declares _ => true
  | _ => false
def NW : List Cond := tables_1.filter isNest
def twoL : List Int32 := [0, 1, 2, 10, 11, 12, 20, 21, 22, 100, 101, 102, 110, 111, 112, 120, 121, 122, 200, 201, 202, 210, 211, 212, 220, 221, 222, 1000, 1001, 1002, 1010, 1011, 1012, 1020, 1021, 1022, 1100, 1101, 1102, 1110, 1111, 1112, 1120, 1121, 1122, 1200, 1201, 1202, 1210, 1211, 1212, 1220, 1221, 1222, 2000, 2001, 2002, 2010, 2011, 2012, 2020, 2021, 2022, 2100, 2101, 2102, 2110, 2111, 2112, 2120, 2121, 2122, 2200, 2201, 2202, 2210, 2211, 2212, 2220, 2221, 2222]
def twoV (j : Nat) : Value := .int (twoL.getD j 0)
def digL : List Int32 := [1, 10, 100, 1000]
def digV (j : Nat) : Value := .int (digL.getD j 0)
def Amb (E : Ev) (U : State) : Prop := va_K E.1 vwC [(E.2.2 0, .int), (E.2.2 1, .object "ToWhoNeeds$Law")] U ∧ (∀ w ∈ NW, va_Nw w U) ∧ (va_Z "ToWhoNeeds" "TWO" "[I" (.ref (E.2.2 2)) (Aw E) U U.heap ∧ va_T .int (E.2.2 2) 81 twoV (Aw E) U U.heap) ∧ (va_Z "ToWhoNeeds" "DIGIT" "[I" (.ref (E.2.2 3)) (Aw E) U U.heap ∧ va_T .int (E.2.2 3) 4 digV (Aw E) U U.heap) ∧ Inj E ∧ (vk_R "ToWhoNeeds$Reader" 80 "pamth" (E.2.2 4) U ∧ vk_S 1 [5] [[112, 97, 109, 116, 104]] (fun _ => E.2.2 4) (fun _ => E.2.2 5) (Aw E) U U.heap) ∧ (va_Z "java/lang/String" "COMPACT_STRINGS" "Z" (.int 1) (Aw E) U U.heap ∧ va_Zq "jdk/internal/util/Preconditions" "SIOOBE_FORMATTER" "Ljava/util/function/BiFunction;" (Aw E) U U.heap)
theorem nw_moved {s U : State} (hW : s.WarmedH U.vm) (h : ∀ w ∈ NW, va_Nw w s) : ∀ w ∈ NW, va_Nw w U := by
  intro w hw
  have h1 := h w hw
  have h2 := (List.mem_filter.mp hw).2
  cases w <;> first | exact va_Nw.warmF hW h1 | exact va_Nw.warmM hW h1 | exact va_Nw.warmD hW h1 | (exact absurd h2 (by simp [isNest]))
theorem Amb.mov {E : Ev} {s U : State} {H : Heap} {locs : List Loc} (h : Amb E s) (hS : va_S (Aw E) s.heap H locs) (hU : U.heap = H) (hW : s.WarmedH U.vm) : Amb E U := by
  obtain ⟨h1, h2, ⟨h3, h4⟩, ⟨h5, h6⟩, h7, ⟨h8, h9⟩, h10, h11⟩ := h
  subst hU
  have hk : ∀ a : Nat, a < s.heap.size → ¬ Aw E a → U.heap[a]? = s.heap[a]? := hS.2.1
  exact ⟨h1.moved hW.alike, nw_moved hW h2, ⟨(h3.kept hk).moved hW.alike, (h4.kept hk).moved hW.alike⟩, ⟨(h5.kept hk).moved hW.alike, (h6.kept hk).moved hW.alike⟩, h7, ⟨h8.warm hW, (h9.kept hk).moved hW.alike⟩, (h10.kept hk).moved hW.alike, (h11.kept hk).moved hW.alike⟩
def Post (E : Ev) (P : Pv) : Array Value → State → Outcome → State → Prop := fun _ st o t => (o = .returned P.1 ∧ va_P E.1 vwC (wl E P.2) t.heap) ∧ va_F (Aw E) st t
section ZROWS
variable {E : Ev} {X : Xv} {Y : Yv} {P : Pv} {σ : Sg} {pc : Nat} {lv : List (Nat × Value)} {st : List Value}
theorem wc_arr {q n : Nat} (h : kd q = (8, n)) : wc E σ q = .inl (E.2.2 0, n, .inl (σ q)) := by
  unfold wc
  rw [h]
  rfl
theorem Amb.calling {U : State} {g : JFrame} {mk : MethodId} {a : Array Value} (h : Amb E U) : Amb E (U.calling g mk a) := by
  obtain ⟨h1, h2, ⟨h3, h4⟩, ⟨h5, h6⟩, h7, ⟨h8, h9⟩, h10, h11⟩ := h
  have ha : U.vm.Alike (U.calling g mk a).vm := Vm.Alike.refl U.vm
  refine ⟨va_K.moved (u := U) ha h1, fun w hw => ?_, ⟨va_Z.moved (u := U) ha h3, va_T.moved (u := U) ha h4⟩, ⟨va_Z.moved (u := U) ha h5, va_T.moved (u := U) ha h6⟩, h7, ⟨vk_R.same (u := U) rfl h8, vk_S.moved (u := U) ha h9⟩, va_Z.moved (u := U) ha h10, va_Zq.moved (u := U) ha h11⟩
  have h1 := h2 w hw
  have h2 := (List.mem_filter.mp hw).2
  cases w <;> first | exact va_Nw.same (u := U) rfl rfl h1 | (exact absurd h2 (by simp [isNest]))
/-- the words of a callee that a caller shows -/
def Lk (Y Y2 : Yv) (n : Nat) : Prop := Cond.code Y2.1 Y2.2.1 Y2.2.2.1 Y2.2.2.2.1 ∈ WT ∧ Cond.initialized Y2.1.cls ∈ WT ∧ (Y2.1.cls ≠ "java/lang/invoke/MethodHandle" ∧ Y2.1.cls ≠ "java/lang/invoke/VarHandle") ∧ (parseMethodDescriptor Y2.1.desc).map (fun d => d.parameters.length) = some n
theorem len_of {x : MethodName} {n : Nat} (h : (parseMethodDescriptor x.desc).map (fun d => d.parameters.length) = some n) : ∀ sig, parseMethodDescriptor x.desc = some sig → n = sig.parameters.length := by
  intro sig hs
  rw [hs] at h
  exact (Option.some.inj h).symm
end ZROWS
end
section
theorem t_1 : Jvm.Cond.initialized "ToWhoNeeds" ∈ WT := wt_of (List.mem_of_getElem? (i := 66) (by decide +kernel)) rfl
theorem t_2 : Jvm.Cond.initialized "ToWhoNeeds$State" ∈ WT := wt_of (List.mem_of_getElem? (i := 67) (by decide +kernel)) rfl
theorem t_3 : Jvm.Cond.initialized "ToWhoNeeds$People" ∈ WT := wt_of (List.mem_of_getElem? (i := 68) (by decide +kernel)) rfl
theorem t_4 : Jvm.Cond.initialized "ToWhoNeeds$Numbers" ∈ WT := wt_of (List.mem_of_getElem? (i := 69) (by decide +kernel)) rfl
theorem t_5 : Jvm.Cond.initialized "ToWhoNeeds$Reader" ∈ WT := wt_of (List.mem_of_getElem? (i := 70) (by decide +kernel)) rfl
theorem t_6 : Jvm.Cond.initialized "ToWhoNeeds$Mind" ∈ WT := wt_of (List.mem_of_getElem? (i := 71) (by decide +kernel)) rfl
theorem t_7 : Jvm.Cond.initialized "ToWhoNeeds$Law" ∈ WT := wt_of (List.mem_of_getElem? (i := 72) (by decide +kernel)) rfl
theorem t_8 : Jvm.Cond.initialized "ToWhoNeeds$Sum" ∈ WT := wt_of (List.mem_of_getElem? (i := 73) (by decide +kernel)) rfl
theorem t_9 : Jvm.Cond.initialized "ToWhoNeeds$Met" ∈ WT := wt_of (List.mem_of_getElem? (i := 74) (by decide +kernel)) rfl
theorem t_10 : Jvm.Cond.initialized "ToWhoNeeds$Most" ∈ WT := wt_of (List.mem_of_getElem? (i := 75) (by decide +kernel)) rfl
theorem t_12 : Jvm.Cond.initialized "ToWhoNeeds$ReadOn" ∈ WT := wt_of (List.mem_of_getElem? (i := 77) (by decide +kernel)) rfl
theorem t_13 : Jvm.Cond.initialized "ToWhoNeedsModel" ∈ WT := wt_of (List.mem_of_getElem? (i := 78) (by decide +kernel)) rfl
theorem t_41 : Jvm.Cond.fieldLink "ToWhoNeeds$People" (9 : Nat) "ToWhoNeeds$People" "needs" "[I" ∈ WT := wt_of (List.mem_of_getElem? (i := 106) (by decide +kernel)) rfl
theorem t_45 : Jvm.Cond.fieldLink "ToWhoNeeds$People" (15 : Nat) "ToWhoNeeds$People" "growths" "[I" ∈ WT := wt_of (List.mem_of_getElem? (i := 110) (by decide +kernel)) rfl
theorem t_66 : Jvm.Cond.fieldLink "ToWhoNeeds$Numbers" (7 : Nat) "ToWhoNeeds$Numbers" "items" "[I" ∈ WT := wt_of (List.mem_of_getElem? (i := 131) (by decide +kernel)) rfl
theorem t_77 : Jvm.Cond.fieldLink "ToWhoNeeds$State" (12 : Nat) "ToWhoNeeds$State" "people" "LToWhoNeeds$People;" ∈ WT := wt_of (List.mem_of_getElem? (i := 142) (by decide +kernel)) rfl
theorem t_81 : Jvm.Cond.fieldLink "ToWhoNeeds$State" (23 : Nat) "ToWhoNeeds$State" "kinds" "LToWhoNeeds$Numbers;" ∈ WT := wt_of (List.mem_of_getElem? (i := 146) (by decide +kernel)) rfl
theorem t_85 : Jvm.Cond.fieldLink "ToWhoNeeds$State" (27 : Nat) "ToWhoNeeds$State" "aims" "LToWhoNeeds$Numbers;" ∈ WT := wt_of (List.mem_of_getElem? (i := 150) (by decide +kernel)) rfl
theorem t_89 : Jvm.Cond.fieldLink "ToWhoNeeds$State" (30 : Nat) "ToWhoNeeds$State" "letters" "LToWhoNeeds$Numbers;" ∈ WT := wt_of (List.mem_of_getElem? (i := 154) (by decide +kernel)) rfl
theorem t_93 : Jvm.Cond.fieldLink "ToWhoNeeds$State" (33 : Nat) "ToWhoNeeds$State" "told" "LToWhoNeeds$Numbers;" ∈ WT := wt_of (List.mem_of_getElem? (i := 158) (by decide +kernel)) rfl
theorem t_95 : Jvm.Cond.fieldLink "ToWhoNeeds$State" (36 : Nat) "ToWhoNeeds$State" "wentLetter" "LToWhoNeeds$Numbers;" ∈ WT := wt_of (List.mem_of_getElem? (i := 160) (by decide +kernel)) rfl
theorem t_98 : Jvm.Cond.fieldLink "ToWhoNeeds$State" (39 : Nat) "ToWhoNeeds$State" "wentTo" "LToWhoNeeds$Numbers;" ∈ WT := wt_of (List.mem_of_getElem? (i := 163) (by decide +kernel)) rfl
theorem t_143 : Jvm.Cond.fieldLink "ToWhoNeeds$Reader" (14 : Nat) "ToWhoNeeds$Reader" "text" "LToWhoNeeds$Numbers;" ∈ WT := wt_of (List.mem_of_getElem? (i := 208) (by decide +kernel)) rfl
theorem t_145 : Jvm.Cond.fieldLink "ToWhoNeeds$Reader" (23 : Nat) "ToWhoNeeds$Reader" "draft" "LToWhoNeeds$State;" ∈ WT := wt_of (List.mem_of_getElem? (i := 210) (by decide +kernel)) rfl
theorem t_146 : Jvm.Cond.fieldLink "ToWhoNeeds$Reader" (27 : Nat) "ToWhoNeeds$Reader" "numbers" "[I" ∈ WT := wt_of (List.mem_of_getElem? (i := 211) (by decide +kernel)) rfl
theorem t_167 : Jvm.Cond.fieldLink "ToWhoNeeds$Mind" (12 : Nat) "ToWhoNeeds$Mind" "thought" "LToWhoNeeds$People;" ∈ WT := wt_of (List.mem_of_getElem? (i := 232) (by decide +kernel)) rfl
theorem t_168 : Jvm.Cond.fieldLink "ToWhoNeeds$Mind" (18 : Nat) "ToWhoNeeds$Mind" "further" "LToWhoNeeds$People;" ∈ WT := wt_of (List.mem_of_getElem? (i := 233) (by decide +kernel)) rfl
theorem t_169 : Jvm.Cond.fieldLink "ToWhoNeeds$Mind" (26 : Nat) "ToWhoNeeds$Mind" "line" "LToWhoNeeds$Numbers;" ∈ WT := wt_of (List.mem_of_getElem? (i := 234) (by decide +kernel)) rfl
theorem t_170 : Jvm.Cond.fieldLink "ToWhoNeeds$Mind" (30 : Nat) "ToWhoNeeds$Mind" "bestLine" "LToWhoNeeds$Numbers;" ∈ WT := wt_of (List.mem_of_getElem? (i := 235) (by decide +kernel)) rfl
theorem t_195 : Jvm.Cond.fieldLink "ToWhoNeeds$Law" (9 : Nat) "ToWhoNeeds$Law" "place" "I" ∈ WT := wt_of (List.mem_of_getElem? (i := 260) (by decide +kernel)) rfl
theorem t_233 : Jvm.Cond.fieldLink "ToWhoNeeds" (10 : Nat) "ToWhoNeeds" "state" "LToWhoNeeds$State;" ∈ WT := wt_of (List.mem_of_getElem? (i := 298) (by decide +kernel)) rfl
theorem t_234 : Jvm.Cond.fieldLink "ToWhoNeeds" (16 : Nat) "ToWhoNeeds" "kept" "LToWhoNeeds$State;" ∈ WT := wt_of (List.mem_of_getElem? (i := 299) (by decide +kernel)) rfl
theorem t_235 : Jvm.Cond.fieldLink "ToWhoNeeds" (22 : Nat) "ToWhoNeeds" "reader" "LToWhoNeeds$Reader;" ∈ WT := wt_of (List.mem_of_getElem? (i := 300) (by decide +kernel)) rfl
theorem t_236 : Jvm.Cond.fieldLink "ToWhoNeeds" (29 : Nat) "ToWhoNeeds" "mind" "LToWhoNeeds$Mind;" ∈ WT := wt_of (List.mem_of_getElem? (i := 301) (by decide +kernel)) rfl
theorem t_237 : Jvm.Cond.fieldLink "ToWhoNeeds" (52 : Nat) "ToWhoNeeds" "kindsOfLaw" "[LToWhoNeeds$Law;" ∈ WT := wt_of (List.mem_of_getElem? (i := 302) (by decide +kernel)) rfl
theorem t_238 : Jvm.Cond.fieldLink "ToWhoNeeds" (59 : Nat) "ToWhoNeeds" "row" "LToWhoNeeds$Numbers;" ∈ WT := wt_of (List.mem_of_getElem? (i := 303) (by decide +kernel)) rfl
theorem t_239 : Jvm.Cond.fieldLink "ToWhoNeeds" (63 : Nat) "ToWhoNeeds" "refused" "[I" ∈ WT := wt_of (List.mem_of_getElem? (i := 304) (by decide +kernel)) rfl
theorem t_845 : Jvm.Cond.fieldLink "ToWhoNeedsModel" (7 : Nat) "ToWhoNeedsModel" "refused" "[I" ∈ WT := wt_of (List.mem_of_getElem? (i := 910) (by decide +kernel)) rfl
theorem t_846 : Jvm.Cond.fieldLink "ToWhoNeedsModel" (13 : Nat) "ToWhoNeedsModel" "need" "[I" ∈ WT := wt_of (List.mem_of_getElem? (i := 911) (by decide +kernel)) rfl
theorem t_847 : Jvm.Cond.fieldLink "ToWhoNeedsModel" (16 : Nat) "ToWhoNeedsModel" "growth" "[I" ∈ WT := wt_of (List.mem_of_getElem? (i := 912) (by decide +kernel)) rfl
theorem t_848 : Jvm.Cond.fieldLink "ToWhoNeedsModel" (19 : Nat) "ToWhoNeedsModel" "kind" "[I" ∈ WT := wt_of (List.mem_of_getElem? (i := 913) (by decide +kernel)) rfl
theorem t_849 : Jvm.Cond.fieldLink "ToWhoNeedsModel" (22 : Nat) "ToWhoNeedsModel" "his" "[I" ∈ WT := wt_of (List.mem_of_getElem? (i := 914) (by decide +kernel)) rfl
theorem t_850 : Jvm.Cond.fieldLink "ToWhoNeedsModel" (25 : Nat) "ToWhoNeedsModel" "told" "[I" ∈ WT := wt_of (List.mem_of_getElem? (i := 915) (by decide +kernel)) rfl
theorem t_851 : Jvm.Cond.fieldLink "ToWhoNeedsModel" (28 : Nat) "ToWhoNeedsModel" "ordered" "[I" ∈ WT := wt_of (List.mem_of_getElem? (i := 916) (by decide +kernel)) rfl
theorem t_852 : Jvm.Cond.fieldLink "ToWhoNeedsModel" (31 : Nat) "ToWhoNeedsModel" "goingLetter" "[I" ∈ WT := wt_of (List.mem_of_getElem? (i := 917) (by decide +kernel)) rfl
theorem t_853 : Jvm.Cond.fieldLink "ToWhoNeedsModel" (34 : Nat) "ToWhoNeedsModel" "goingTo" "[I" ∈ WT := wt_of (List.mem_of_getElem? (i := 918) (by decide +kernel)) rfl
theorem t_862 : Jvm.Cond.fieldLink "ToWhoNeedsModel" (37 : Nat) "ToWhoNeedsModel" "tape" "[I" ∈ WT := wt_of (List.mem_of_getElem? (i := 927) (by decide +kernel)) rfl
theorem t_863 : Jvm.Cond.fieldLink "ToWhoNeedsModel" (40 : Nat) "ToWhoNeedsModel" "letter" "[I" ∈ WT := wt_of (List.mem_of_getElem? (i := 928) (by decide +kernel)) rfl
theorem t_864 : Jvm.Cond.fieldLink "ToWhoNeedsModel" (43 : Nat) "ToWhoNeedsModel" "letterAt" "[I" ∈ WT := wt_of (List.mem_of_getElem? (i := 929) (by decide +kernel)) rfl
theorem t_865 : Jvm.Cond.fieldLink "ToWhoNeedsModel" (46 : Nat) "ToWhoNeedsModel" "one" "[I" ∈ WT := wt_of (List.mem_of_getElem? (i := 930) (by decide +kernel)) rfl
theorem t_866 : Jvm.Cond.fieldLink "ToWhoNeedsModel" (49 : Nat) "ToWhoNeedsModel" "other" "[I" ∈ WT := wt_of (List.mem_of_getElem? (i := 931) (by decide +kernel)) rfl
theorem t_867 : Jvm.Cond.fieldLink "ToWhoNeedsModel" (52 : Nat) "ToWhoNeedsModel" "third" "[I" ∈ WT := wt_of (List.mem_of_getElem? (i := 932) (by decide +kernel)) rfl
theorem t_868 : Jvm.Cond.fieldLink "ToWhoNeedsModel" (55 : Nat) "ToWhoNeedsModel" "fourth" "[I" ∈ WT := wt_of (List.mem_of_getElem? (i := 933) (by decide +kernel)) rfl
theorem t_869 : Jvm.Cond.fieldLink "ToWhoNeedsModel" (58 : Nat) "ToWhoNeedsModel" "fifth" "[I" ∈ WT := wt_of (List.mem_of_getElem? (i := 934) (by decide +kernel)) rfl
theorem t_873 : Jvm.Cond.fieldLink "ToWhoNeedsModel" (61 : Nat) "ToWhoNeedsModel" "kept" "[I" ∈ WT := wt_of (List.mem_of_getElem? (i := 938) (by decide +kernel)) rfl
theorem t_874 : Jvm.Cond.fieldLink "ToWhoNeedsModel" (64 : Nat) "ToWhoNeedsModel" "needs" "[I" ∈ WT := wt_of (List.mem_of_getElem? (i := 939) (by decide +kernel)) rfl
theorem t_879 : Jvm.Cond.fieldLink "ToWhoNeedsModel" (67 : Nat) "ToWhoNeedsModel" "place" "[I" ∈ WT := wt_of (List.mem_of_getElem? (i := 944) (by decide +kernel)) rfl
theorem t_880 : Jvm.Cond.fieldLink "ToWhoNeedsModel" (70 : Nat) "ToWhoNeedsModel" "bestPlace" "[I" ∈ WT := wt_of (List.mem_of_getElem? (i := 945) (by decide +kernel)) rfl
theorem t_882 : Jvm.Cond.fieldLink "ToWhoNeedsModel" (73 : Nat) "ToWhoNeedsModel" "row" "[I" ∈ WT := wt_of (List.mem_of_getElem? (i := 947) (by decide +kernel)) rfl
theorem in_X1 : ∀ w ∈ u_ws RX1 TX1 1, w ∈ WT := by decide +kernel
theorem in_X2 : ∀ w ∈ u_ws RX2 TX2 5, w ∈ WT := by decide +kernel
theorem in_X3 : ∀ w ∈ u_ws RX3 TX3 1, w ∈ WT := by decide +kernel
theorem in_X4 : ∀ w ∈ u_ws RX4 TX4 2, w ∈ WT := by decide +kernel
theorem in_X5 : ∀ w ∈ u_ws RX5 TX5 3, w ∈ WT := by decide +kernel
theorem in_X6 : ∀ w ∈ u_ws RX6 TX6 1, w ∈ WT := by decide +kernel
theorem in_X7 : ∀ w ∈ u_ws RX7 TX7 4, w ∈ WT := by decide +kernel
theorem in_X8 : ∀ w ∈ u_ws RX8 TX8 1, w ∈ WT := by decide +kernel
theorem in_X9 : ∀ w ∈ u_ws RX9 TX9 11, w ∈ WT := by decide +kernel
theorem in_X10 : ∀ w ∈ u_ws RX10 TX10 1, w ∈ WT := by decide +kernel
theorem in_X11 : ∀ w ∈ u_ws RX11 TX11 8, w ∈ WT := by decide +kernel
theorem in_X12 : ∀ w ∈ u_ws RX12 TX12 39, w ∈ WT := by decide +kernel
end
section
def σ0 : Sg := fun q k => if q = 68 ∧ k = 0 then 1 else 0
theorem s0z {q : Nat} (h : (kd q).1 ≠ 6) (k : Nat) : σ0 q k = 0 := by
  unfold σ0
  rw [if_neg]
  rintro ⟨rfl, -⟩
  exact h rfl
theorem s0a {q n : Nat} (h : kd q = (8, n)) : σ0 q = fun _ => 0 := funext fun k => s0z (by rw [h]; simp) k
def sl (E : Ev) (i n : Nat) : va_W := (List.range n).map (fun j => (E.2.1 (i + j), wc E σ0 (i + j)))
theorem sl_app (E : Ev) (i n m : Nat) {j : Nat} (h : j = i + n) : sl E i n ++ sl E j m = sl E i (n + m) := by
  subst h
  unfold sl
  rw [List.range_add, List.map_append, List.map_map]
  congr 1
  apply List.map_congr_left
  intro a _
  simp [Nat.add_assoc]
theorem sl_one (E : Ev) (i : Nat) : sl E i 1 = [(E.2.1 i, wc E σ0 i)] := by simp [sl, List.range_succ]
theorem sl_snoc (E : Ev) (i n : Nat) {j : Nat} {e : va_E} (h : j = i + n) (he : wc E σ0 j = e) : sl E i n ++ [(E.2.1 j, e)] = sl E i (n + 1) := by
  rw [← he, ← sl_one, sl_app E i n 1 h]
theorem sl_cons (E : Ev) (i n : Nat) {e : va_E} (he : wc E σ0 i = e) : (E.2.1 i, e) :: sl E (i + 1) n = sl E i (n + 1) := by
  have h := sl_app E i 1 n (j := i + 1) rfl
  rw [sl_one, he] at h
  rw [Nat.add_comm n 1, ← h]
  rfl
theorem wl_sl (E : Ev) : wl E σ0 = sl E 0 96 := by simp [wl, sl]
def lawCs : List String := ["ToWhoNeeds$Sum", "ToWhoNeeds$Met", "ToWhoNeeds$Most", "ToWhoNeeds$Second", "ToWhoNeeds$ReadOn"]
def AmbN (E : Ev) (U : State) : Prop := va_K E.1 vwC [(E.2.2 0, .int), (E.2.2 1, .object "ToWhoNeeds$Law")] U ∧ (∀ w ∈ NW, va_Nw w U) ∧ va_AO "ToWhoNeeds$Law" U ∧ ∀ C ∈ lawCs, va_Nw (.castable C "ToWhoNeeds$Law") U
theorem AmbN.mov {E : Ev} {s U : State} (h : AmbN E s) (hW : s.WarmedH U.vm) : AmbN E U := ⟨h.1.moved hW.alike, nw_moved hW h.2.1, h.2.2.1.moved hW.alike, fun C hC => va_Nw.warmC hW (h.2.2.2 C hC)⟩
theorem AmbN.calling {E : Ev} {U : State} {g : JFrame} {mk : MethodId} {a : Array Value} (h : AmbN E U) : AmbN E (U.calling g mk a) := by
  have ha : U.vm.Alike (U.calling g mk a).vm := Vm.Alike.refl U.vm
  refine ⟨va_K.moved (u := U) ha h.1, fun w hw => ?_, va_AO.moved (u := U) ha h.2.2.1, fun C hC => va_Nw.same (u := U) rfl rfl (h.2.2.2 C hC)⟩
  have h1 := h.2.1 w hw
  have h2 := (List.mem_filter.mp hw).2
  cases w <;> first | exact va_Nw.same (u := U) rfl rfl h1 | (exact absurd h2 (by simp [isNest]))
def Rn (fr lo mc ms : Nat) : Room := { frames := fr, cells := mc, slots := ms, locals := lo }
def Aq (E : Ev) (q : Nat) : Nat → Prop := fun a => E.2.1 q ≤ a
def Ad (E : Ev) : Prop := ∀ k, E.2.1 k = E.2.1 0 + k
def PreN (E : Ev) (q : Nat) (av : List Value) (e : va_E) : Array Value → State → Prop := va_Pc av (fun U => U.heap.size = E.2.1 (q + 1) ∧ AmbN E U ∧ va_P E.1 vwC [(E.2.1 q, e)] U.heap)
def PostN (E : Ev) (q : Nat) (P : va_W × Nat) : Array Value → State → Outcome → State → Prop := fun _ st o t => (o = .returned none ∧ t.heap.size = E.2.1 P.2 ∧ va_P E.1 vwC P.1 t.heap ∧ va_D (Aq E q) P.1) ∧ va_F (Aq E q) st t
/-- a constructor's contract: on the object at place q, the last cell of the heap, it makes the cells P.1 (its own among them); the next place is P.2 -/
def Cn (l : Launch) (E : Ev) (Y : Yv) (mc ms q : Nat) (av : List Value) (e : va_E) (P : va_W × Nat) : Prop := Met l Y.1 (Cond.code Y.1 Y.2.1 Y.2.2.1 Y.2.2.2.1 :: WT) (Rn Y.2.2.2.2.1 Y.2.2.2.2.2 mc ms) (PreN E q av e) (PostN E q P) mc ms (Aq E q)
def Cxn (E : Ev) (X : Xv) (Y : Yv) (q : Nat) : Prop := X.1.tables.exec = Jvm.exec ∧ X.2.2.2.2.2.2.2.2.code = Y.2.1 ∧ X.2.2.2.2.2.2.2.1.sig.returnType = Y.2.2.2.1 ∧ X.2.2.2.2.2.2.2.2.maxLocals = Y.2.2.1 ∧ X.2.2.2.1.vm.findClass Y.1.cls = some X.2.2.2.2.1.cls ∧ (∀ w ∈ WT, w.before X.2.2.2.2.2.1 X.2.2.2.1 = true) ∧ X.2.2.2.2.2.2.2.1.locks = false ∧ AmbN E X.2.2.2.1 ∧ Ad E ∧ X.2.2.2.1.heap.size = E.2.1 (q + 1) ∧ X.2.2.2.2.2.2.2.1.name = Y.1.name
def Zn (E : Ev) (X : Xv) (Y : Yv) (mc ms q : Nat) (P : va_W × Nat) (ws : va_W) (nx kc ks pc : Nat) (lv : List (Nat × Value)) (st : List Value) : Prop := ∀ (H : Heap) (locs : List Loc) (ls : Array Slot), H.size = E.2.1 nx → va_P E.1 vwC ws H → va_D (Aq E q) ws → va_S (Aq E q) X.2.2.2.1.heap H locs → lv_has ls Y.2.2.1 lv → W X.1 X.2.1 X.2.2.1 (Rn Y.2.2.2.2.1 Y.2.2.2.2.2 mc ms) X.2.2.2.1 X.2.2.2.2.1 X.2.2.2.2.2.1 X.2.2.2.2.2.2.1 X.2.2.2.2.2.2.2.1 X.2.2.2.2.2.2.2.2 H locs kc ks (MQ X.2.2.2.2.2.2.1 (PostN E q P) X.2.2.2.2.2.1 X.2.2.2.1 mc ms (Aq E q)) (F0 X.2.2.2.2.1 pc ls st)
theorem cn_of {l : Launch} {E : Ev} {Y : Yv} {mc ms q : Nat} {av : List Value} {e : va_E} {P : va_W × Nat} (hE : Ad E) (hy : plainName Y.1.cls = true) (hn : (lg_sl av).length ≤ Y.2.2.1) (lv : List (Nat × Value)) (hlv : lv_args 0 av = lv)
    (h : ∀ X : Xv, X.2.1 = l → Cxn E X Y q → Zn E X Y mc ms q P [(E.2.1 q, e)] (q + 1) 0 0 0 lv []) : Cn l E Y mc ms q av e P := by
  refine Met.ofW (cc := Y.2.1) (maxL := Y.2.2.1) (ret := Y.2.2.2.1) hy rfl ?_
  intro p e' s m args below meth c s₁ B hml hv
  obtain ⟨rfl, hsz, hA, hP⟩ := hv
  have hts := atoms_spec (ws := Cond.code Y.1 Y.2.1 Y.2.2.1 Y.2.2.2.1 :: WT) B.pre
  have hl := lv_entry av (n := Y.2.2.1) hn
  rw [lg_entry_eq]
  rw [hlv] at hl
  refine h (p, l, e', s, m, av.toArray, below, meth, c) rfl ⟨B.exec, B.bytes, B.returns, hml, findClass_of_methodNamed B.named, fun w hw => hts w (List.mem_cons_of_mem _ hw), B.notSynchronized, hA, hE, hsz, (name_of_methodNamed B.named B.method).1⟩ s.heap [] _ hsz hP ⟨fun i j x y hi hj _ => ?_, fun k x hx => ?_⟩ va_S.rf hl
  · have h1 : i < 1 := (List.getElem?_eq_some_iff.mp hi).1
    have h2 : j < 1 := (List.getElem?_eq_some_iff.mp hj).1
    omega
  · have h1 : k < 1 := (List.getElem?_eq_some_iff.mp hx).1
    rw [show k = 0 by omega] at hx
    cases hx
    exact Nat.le_refl _
section ZNEW
variable {E : Ev} {X : Xv} {Y : Yv} {mc ms q : Nat} {P : va_W × Nat} {ws : va_W} {nx kc ks pc : Nat} {lv : List (Nat × Value)} {st : List Value}
theorem zn_eq {ws' : va_W} {nx' : Nat} (hw : ws = ws') (hn : nx = nx') (k : Zn E X Y mc ms q P ws' nx' kc ks pc lv st) : Zn E X Y mc ms q P ws nx kc ks pc lv st := by
  subst hw
  subst hn
  exact k
theorem zn_aload_n (C : Cxn E X Y q) {i : Fin 4} {x : Nat} (d : decode Y.2.1 pc = .ok (.aload_n i, 1)) (j : Nat) (hj : lv[j]? = some (i.1, .ref x)) (k : Zn E X Y mc ms q P ws nx kc ks (pc + 1) lv (.ref x :: st)) : Zn E X Y mc ms q P ws nx kc ks pc lv st := fun H locs ls hz hP hD hS hl => lv_aload_n C.1 C.2.1 d rfl (lv_at hl j hj) (k H locs ls hz hP hD hS hl)
theorem zn_iload_n (C : Cxn E X Y q) {i : Fin 4} {x : Int32} (d : decode Y.2.1 pc = .ok (.iload_n i, 1)) (j : Nat) (hj : lv[j]? = some (i.1, .int x)) (k : Zn E X Y mc ms q P ws nx kc ks (pc + 1) lv (.int x :: st)) : Zn E X Y mc ms q P ws nx kc ks pc lv st := fun H locs ls hz hP hD hS hl => lv_iload_n C.1 C.2.1 d rfl (lv_at hl j hj) (k H locs ls hz hP hD hS hl)
theorem zn_iconst (C : Cxn E X Y q) {n : Int} {v : Int32} (d : decode Y.2.1 pc = .ok (.iconst n, 1)) (hv : Int32.ofInt n = v) (k : Zn E X Y mc ms q P ws nx kc ks (pc + 1) lv (.int v :: st)) : Zn E X Y mc ms q P ws nx kc ks pc lv st := fun H locs ls hz hP hD hS hl => lv_iconst C.1 C.2.1 d hv (k H locs ls hz hP hD hS hl)
theorem zn_bipush (C : Cxn E X Y q) {n : Int} {v : Int32} (d : decode Y.2.1 pc = .ok (.bipush n, 2)) (hv : (Int8.ofInt n).toInt32 = v) (k : Zn E X Y mc ms q P ws nx kc ks (pc + 2) lv (.int v :: st)) : Zn E X Y mc ms q P ws nx kc ks pc lv st := fun H locs ls hz hP hD hS hl => lv_bipush C.1 C.2.1 d hv (k H locs ls hz hP hD hS hl)
theorem zn_sipush (C : Cxn E X Y q) {n : Int} {v : Int32} (d : decode Y.2.1 pc = .ok (.sipush n, 3)) (hv : (Int16.ofInt n).toInt32 = v) (k : Zn E X Y mc ms q P ws nx kc ks (pc + 3) lv (.int v :: st)) : Zn E X Y mc ms q P ws nx kc ks pc lv st := fun H locs ls hz hP hD hS hl => lv_sipush C.1 C.2.1 d hv (k H locs ls hz hP hD hS hl)
theorem zn_dup (C : Cxn E X Y q) {v : Value} (d : decode Y.2.1 pc = .ok (.dup, 1)) (hv : v.category = 1) (k : Zn E X Y mc ms q P ws nx kc ks (pc + 1) lv (v :: v :: st)) : Zn E X Y mc ms q P ws nx kc ks pc lv (v :: st) := fun H locs ls hz hP hD hS hl => lv_dup C.1 C.2.1 d hv (k H locs ls hz hP hD hS hl)
theorem zn_goto (C : Cxn E X Y q) {off : Int} {tgt : Nat} (d : decode Y.2.1 pc = .ok (.goto off, 3)) (ht : (pc : Int) + off = (tgt : Int)) (k : Zn E X Y mc ms q P ws nx kc ks tgt lv st) : Zn E X Y mc ms q P ws nx kc ks pc lv st := fun H locs ls hz hP hD hS hl => lv_goto C.1 C.2.1 d ht (k H locs ls hz hP hD hS hl)
theorem zn_if_le (C : Cxn E X Y q) {x : Int32} {off : Int} {tgt : Nat} (d : decode Y.2.1 pc = .ok (.ifCond .le off, 3)) (ht : (pc : Int) + off = (tgt : Int)) (hx : ¬ x ≤ 0) (k : Zn E X Y mc ms q P ws nx kc ks (pc + 3) lv st) : Zn E X Y mc ms q P ws nx kc ks pc lv (.int x :: st) := fun H locs ls hz hP hD hS hl => lv_if_le C.1 C.2.1 d ht (fun h => absurd h hx) (fun _ => k H locs ls hz hP hD hS hl)
theorem zn_obj (C : Cxn E X Y q) {i a : Nat} (hw1 : Cond.methodLink Y.1.cls i objectInit ∈ WT) (hw2 : Cond.instanceMethod objectInit ∈ WT) (hw3 : Cond.code objectInit ⟨#[0xb1]⟩ 1 none ∈ WT) (d : decode Y.2.1 pc = .ok (.invokespecial i, 3)) (hf : 1 ≤ Y.2.2.2.2.1) (hlo : (st.map fun v => v.category).sum + 12 ≤ Y.2.2.2.2.2) (k : Zn E X Y mc ms q P ws nx kc ks (pc + 3) lv st) : Zn E X Y mc ms q P ws nx kc ks pc lv (.ref a :: st) := fun H locs ls hz hP hD hS hl => W.objInit C.1 C.2.1 C.2.2.2.2.1 (C.2.2.2.2.2.1 _ hw1) (C.2.2.2.2.2.1 _ hw2) (C.2.2.2.2.2.1 _ hw3) rfl (by rw [C.2.2.2.1]; exact hl.1) rfl d hf (by show 2 * 0 + (st.map fun v => v.category).sum + 12 ≤ Y.2.2.2.2.2; omega) (k H locs ls hz hP hD hS hl)
theorem zn_vret (C : Cxn E X Y q) (d : decode Y.2.1 pc = .ok (.return_, 1)) (hr : Y.2.2.2.1 = none) (hc : kc = mc) (hs : ks = ms) (hp : P = (ws, nx)) : Zn E X Y mc ms q P ws nx kc ks pc lv [] := by
  subst hp
  subst hc
  subst hs
  intro H locs ls hz hP hD hS hl
  exact W.vret C.1 C.2.1 (C.2.2.1.trans hr) (fun t ht _ => ⟨⟨rfl, by rw [ht]; exact hz, by rw [ht]; exact hP, hD⟩, hS.F ht⟩) hS.2.2 d C.2.2.2.2.2.2.1
theorem zn_sz {H1 : Heap} {locs1 : List Loc} {Q : State → Prop} {g : JFrame} (C : Cxn E X Y q) (hnk : nx = q + 1 + kc) (hle : E.2.1 nx ≤ H1.size) (k : H1.size = E.2.1 nx → W X.1 X.2.1 X.2.2.1 (Rn Y.2.2.2.2.1 Y.2.2.2.2.2 mc ms) X.2.2.2.1 X.2.2.2.2.1 X.2.2.2.2.2.1 X.2.2.2.2.2.2.1 X.2.2.2.2.2.2.2.1 X.2.2.2.2.2.2.2.2 H1 locs1 kc ks Q g) : W X.1 X.2.1 X.2.2.1 (Rn Y.2.2.2.2.1 Y.2.2.2.2.2 mc ms) X.2.2.2.1 X.2.2.2.2.1 X.2.2.2.2.2.1 X.2.2.2.2.2.2.1 X.2.2.2.2.2.2.2.1 X.2.2.2.2.2.2.2.2 H1 locs1 kc ks Q g := by
  intro T hT S
  have h1 := S.heapSize
  have hE := C.2.2.2.2.2.2.2.2.1
  have h2 := C.2.2.2.2.2.2.2.2.2.1
  refine k ?_ T hT S
  rw [hT, h2] at h1
  rw [hE nx] at hle ⊢
  rw [hE (q + 1)] at h1
  omega
theorem zn_putF (C : Cxn E X Y q) {CC : String} {TT : u_T} {N ci i a : Nat} {fs : List Value} {tl : va_W} {ty : FieldType} {v : Value} (ty0 : Nat → FieldType) (hty : ∀ k, k < N → parseFieldDescriptor (TT k).2.2.1 = some (ty0 k)) (hnm : ∀ a, a < N → ∀ b, b < N → a ≠ b → (TT a).2.1 ≠ (TT b).2.1) (hc : vwC[ci]? = some (CC, TT, N)) (hin : ∀ w ∈ u_ws CC TT N, w ∈ WT) (n : Nat) (hk : n < N) (hw : Cond.fieldLink Y.1.cls i (TT n).1 (TT n).2.1 (TT n).2.2.1 ∈ WT) (hfin : (TT n).2.2.2 = true) (hini : Y.1.name = "<init>") (hdc : (TT n).1 = Y.1.cls) (hd : parseFieldDescriptor (TT n).2.2.1 = some ty) (hna : narrow ty v = v) (hfit : fits ty v = true) (hl' : n < fs.length) (hnk : nx = q + 1 + kc) (d : decode Y.2.1 pc = .ok (.putfield i, 3)) (k : Zn E X Y mc ms q P ((a, .inr (ci, fs.set n v)) :: tl) nx kc ks (pc + 3) lv st) : Zn E X Y mc ms q P ((a, .inr (ci, fs)) :: tl) nx kc ks pc lv (v :: .ref a :: st) := by
  intro H locs ls hz hP hD hS hl
  refine va_putF (q0 := 0) C.1 C.2.1 C.2.2.2.2.2.1 hin ty0 hty hnm C.2.2.2.2.1 C.2.2.2.2.2.2.2.1.1 hP hD (H0 := H) ⟨Nat.le_refl _, fun _ _ _ => rfl, fun l hl => hS.2.2 l hl⟩ rfl hc n hk (C.2.2.2.2.2.1 _ hw) (fun _ h => h) hfin (C.2.2.2.2.2.2.2.2.2.2.trans hini) hdc hd hna hfit hl' d (fun H1 locs1 hP1 hD1 hS1 => ?_)
  refine zn_sz C hnk (by rw [← hz]; exact hS1.1) (fun hz1 => ?_)
  exact k H1 locs1 ls hz1 hP1 hD1 ⟨Nat.le_trans hS.1 hS1.1, fun x h1 h2 => (hS1.2.1 x (Nat.lt_of_lt_of_le h1 hS.1) h2).trans (hS.2.1 x h1 h2), hS1.2.2⟩ hl
theorem zn_new (C : Cxn E X Y q) {CC : String} {TT : u_T} {N ci i : Nat} {fs : List Value} (ty0 : Nat → FieldType) (hty : ∀ k, k < N → parseFieldDescriptor (TT k).2.2.1 = some (ty0 k)) (hc : vwC[ci]? = some (CC, TT, N)) (hin : ∀ w ∈ u_ws CC TT N, w ∈ WT) (hw1 : Cond.classLink Y.1.cls i CC ∈ WT) (hw2 : Cond.instantiable CC N ∈ WT) (hw3 : Cond.initialized CC ∈ WT) (hfs : ∀ j, j < N → defaultValue (ty0 j) = vp_V fs j) (hkc : kc + 1 ≤ mc) (hks : ks + N ≤ ms) (hq : q ≤ nx) (d : decode Y.2.1 pc = .ok (.new i, 3)) (k : Zn E X Y mc ms q P (ws ++ [(E.2.1 nx, .inr (ci, fs))]) (nx + 1) (kc + 1) (ks + N) (pc + 3) lv (.ref (E.2.1 nx) :: st)) : Zn E X Y mc ms q P ws nx kc ks pc lv st := by
  intro H locs ls hz hP hD hS hl
  have hts := C.2.2.2.2.2.1
  have hKn := C.2.2.2.2.2.2.2.1.1.1 ci _ hc
  have hE := C.2.2.2.2.2.2.2.2.1
  refine W.newcK C.1 C.2.1 C.2.2.2.2.1 (hts _ hw1) (hts _ hw2) (hts _ hw3) rfl d hkc hks hKn.2.1 hz fun H1 kC hkC e1 z1 o1 => ?_
  have hk : ∀ (j : Nat) (x : Nat × va_E), ws[j]? = some x → H1[x.1]? = H[x.1]? := fun j x hx => o1 x.1 (by rw [← hz]; exact (hP j x hx).lt)
  refine k H1 locs ls (by rw [z1, hE (nx + 1), hE nx]; omega) ((hP.kept hk).app (fun j x hx => ?_)) (hD.push hP hz.symm (by show E.2.1 q ≤ E.2.1 nx; rw [hE q, hE nx]; omega)) ⟨Nat.le_trans hS.1 (by rw [z1, ← hz]; omega), fun x h1 h2 => (o1 x (by rw [← hz]; exact Nat.lt_of_lt_of_le h1 hS.1)).trans (hS.2.1 x h1 h2), hS.2.2⟩ hl
  have hj : j < 1 := (List.getElem?_eq_some_iff.mp hx).1
  rw [show j = 0 by omega] at hx
  cases hx
  exact ⟨_, hc, (u_born ty0 hts hin hKn hkC e1 hty).to hfs⟩
theorem zn_newa (C : Cxn E X Y q) {n : Int32} {N : Nat} (hw : Cond.arrayClass .int ∈ WT) (hn : ¬ n < 0) (hN : n.toNatClampNeg = N) (hbytes : N * componentBytes .int ≤ 536870912) (hkc : kc + 1 ≤ mc) (hks : ks + N ≤ ms) (hq : q ≤ nx) (d : decode Y.2.1 pc = .ok (.newarray .int, 2)) (k : Zn E X Y mc ms q P (ws ++ [(E.2.1 nx, .inl (E.2.2 0, N, .inl (fun _ => 0)))]) (nx + 1) (kc + 1) (ks + N) (pc + 2) lv (.ref (E.2.1 nx) :: st)) : Zn E X Y mc ms q P ws nx kc ks pc lv (.int n :: st) := by
  intro H locs ls hz hP hD hS hl
  have hE := C.2.2.2.2.2.2.2.2.1
  refine va_newaK (atype := .int) C.1 C.2.1 (C.2.2.2.2.2.1 _ hw) rfl d rfl hn hN hbytes hkc hks hz fun H1 cA e1 z1 o1 _ hNm => ?_
  have hcI : E.2.2 0 = cA := by
    have h := (C.2.2.2.2.2.2.2.1.1.2 0 _ rfl).2
    exact Option.some.inj (h.symm.trans hNm)
  have hk : ∀ (j : Nat) (x : Nat × va_E), ws[j]? = some x → H1[x.1]? = H[x.1]? := fun j x hx => o1 x.1 (by rw [← hz]; exact (hP j x hx).lt)
  refine k H1 locs ls (by rw [z1, hE (nx + 1), hE nx]; omega) ((hP.kept hk).app (fun j x hx => ?_)) (hD.push hP hz.symm (by show E.2.1 q ≤ E.2.1 nx; rw [hE q, hE nx]; omega)) ⟨Nat.le_trans hS.1 (by rw [z1, ← hz]; omega), fun x h1 h2 => (o1 x (by rw [← hz]; exact Nat.lt_of_lt_of_le h1 hS.1)).trans (hS.2.1 x h1 h2), hS.2.2⟩ hl
  have hj : j < 1 := (List.getElem?_eq_some_iff.mp hx).1
  rw [show j = 0 by omega] at hx
  cases hx
  show H1[E.2.1 nx]? = some (vp_cell (E.2.2 0) (N, .inl (fun _ => 0)))
  rw [hcI]
  exact e1
theorem zn_newq (C : Cxn E X Y q) {i : Nat} (hw : Cond.classLink Y.1.cls i "ToWhoNeeds$Law" ∈ WT) (hkc : kc + 1 ≤ mc) (hks : ks + 5 ≤ ms) (hq : q ≤ nx) (d : decode Y.2.1 pc = .ok (.anewarray i, 3)) (k : Zn E X Y mc ms q P (ws ++ [(E.2.1 nx, .inl (E.2.2 1, 5, .inr (.inr (.inr (.inr (fun _ => none))))))]) (nx + 1) (kc + 1) (ks + 5) (pc + 3) lv (.ref (E.2.1 nx) :: st)) : Zn E X Y mc ms q P ws nx kc ks pc lv (.int 5 :: st) := by
  intro H locs ls hz hP hD hS hl
  have hE := C.2.2.2.2.2.2.2.2.1
  refine W.anew (n := 5) C.1 C.2.1 C.2.2.2.2.1 (C.2.2.2.2.2.1 _ hw) (va_AO.use C.2.2.2.2.2.2.2.1.2.2.1) rfl d rfl (by decide) (by decide) hkc hks fun cA kA comp f1 f2 f3 f4 => ?_
  generalize hH1 : H.push ({ cls := cA, slots := Array.replicate (5 : Int32).toNatClampNeg .null, vm := .none } : Cell) = H1
  have z1 : H1.size = H.size + 1 := by rw [← hH1, Array.size_push]
  have e1 : H1[H.size]? = some (arrV cA (5 : Int32).toNatClampNeg (fun _ => .null)) := by rw [← hH1, Array.getElem?_push_size, ← arrV_new]
  have o1 : ∀ x : Nat, x < H.size → H1[x]? = H[x]? := fun x hx => by rw [← hH1, Array.getElem?_push, if_neg (Nat.ne_of_lt hx)]
  have hcL : E.2.2 1 = cA := by
    obtain ⟨_, _, _, _, _, h⟩ := (C.2.2.2.2.2.2.2.1.1.2 1 _ rfl).2
    exact Option.some.inj (h.symm.trans f1)
  have hk : ∀ (j : Nat) (x : Nat × va_E), ws[j]? = some x → H1[x.1]? = H[x.1]? := fun j x hx => o1 x.1 ((hP j x hx).lt)
  rw [hz]
  refine k H1 locs ls (by rw [z1, hz, hE (nx + 1), hE nx]; omega) ((hP.kept hk).app (fun j x hx => ?_)) (hD.push hP hz.symm (by show E.2.1 q ≤ E.2.1 nx; rw [hE q, hE nx]; omega)) ⟨Nat.le_trans hS.1 (by rw [z1]; omega), fun x h1 h2 => (o1 x (Nat.lt_of_lt_of_le h1 hS.1)).trans (hS.2.1 x h1 h2), hS.2.2⟩ hl
  have hj : j < 1 := (List.getElem?_eq_some_iff.mp hx).1
  rw [show j = 0 by omega] at hx
  cases hx
  show H1[E.2.1 nx]? = some (vp_cell (E.2.2 1) (5, .inr (.inr (.inr (.inr (fun _ => none))))))
  rw [hcL, ← hz]
  exact e1
theorem zn_astq (C : Cxn E X Y q) {q0 qk ci a v : Nat} {r : vw_C} {vs : List Value} {f : Nat → Option Nat} {ws' : va_W} {i : Int32} (ha : ws[q0]? = some (a, .inl (E.2.2 1, 5, .inr (.inr (.inr (.inr f)))))) (hw : r.1 ∈ lawCs) (hv : ws[qk]? = some (v, .inr (ci, vs))) (hc : vwC[ci]? = some r) (hin : vp_in i 5) (hws : ws.set q0 (a, .inl (E.2.2 1, 5, .inr (.inr (.inr (.inr (va_up f i.toNatClampNeg (some v))))))) = ws') (hnk : nx = q + 1 + kc) (d : decode Y.2.1 pc = .ok (.aastore, 1)) (k : Zn E X Y mc ms q P ws' nx kc ks (pc + 1) lv st) : Zn E X Y mc ms q P ws nx kc ks pc lv (.ref v :: .int i :: .ref a :: st) := by
  intro H locs ls hz hP hD hS hl
  refine va_astqO C.1 C.2.1 C.2.2.2.2.2.2.2.1.1 hP hD (H0 := H) ⟨Nat.le_refl _, fun _ _ _ => rfl, fun l hl => hS.2.2 l hl⟩ q0 1 qk ci ha rfl (C.2.2.2.2.2.2.2.1.2.2.2 _ hw) hv hc hin d (fun H1 locs1 hP1 hD1 hS1 => ?_)
  rw [hws] at hP1 hD1
  refine zn_sz C hnk (by rw [← hz]; exact hS1.1) (fun hz1 => ?_)
  exact k H1 locs1 ls hz1 hP1 hD1 ⟨Nat.le_trans hS.1 hS1.1, fun x h1 h2 => (hS1.2.1 x (Nat.lt_of_lt_of_le h1 hS.1) h2).trans (hS.2.1 x h1 h2), hS1.2.2⟩ hl
theorem preN_blind {p : Nat} {av : List Value} {e : va_E} : FrameBlind (PreN E p av e) := fun a U g mk x => ⟨x.1, x.2.1, AmbN.calling x.2.2.1, x.2.2.2⟩
/-- behind a constructor's call on the last cell: what was ahead stands, what came stands behind it -/
theorem zn_go (C : Cxn E X Y q) {mc2 ms2 p : Nat} {pre : va_W} {e : va_E} {P2 : va_W × Nat} {a : Array Value} {H : Heap} {locs : List Loc} {ls : Array Slot} {stk : List Value} {Q : State → Prop} (hqp : q ≤ p) (hz : H.size = E.2.1 (p + 1)) (hP : va_P E.1 vwC (pre ++ [(E.2.1 p, e)]) H) (hD : va_D (Aq E q) (pre ++ [(E.2.1 p, e)])) (hS : va_S (Aq E q) X.2.2.2.1.heap H locs)
    (hr : va_Run X.1 X.2.1 X.2.2.1 (Rn Y.2.2.2.2.1 Y.2.2.2.2.2 mc ms) X.2.2.2.1 X.2.2.2.2.1 X.2.2.2.2.2.1 X.2.2.2.2.2.2.1 X.2.2.2.2.2.2.2.1 X.2.2.2.2.2.2.2.2 H locs kc ks mc2 ms2 (F0 X.2.2.2.2.1 pc ls stk) st (PostN E p P2 a) (Aq E p))
    (kk : ∀ (H1 : Heap) (locs1 : List Loc), H1.size = E.2.1 P2.2 → va_P E.1 vwC (pre ++ P2.1) H1 → va_D (Aq E q) (pre ++ P2.1) → va_S (Aq E q) X.2.2.2.1.heap H1 locs1 → W X.1 X.2.1 X.2.2.1 (Rn Y.2.2.2.2.1 Y.2.2.2.2.2 mc ms) X.2.2.2.1 X.2.2.2.2.1 X.2.2.2.2.2.1 X.2.2.2.2.2.2.1 X.2.2.2.2.2.2.2.1 X.2.2.2.2.2.2.2.2 H1 locs1 (kc + mc2) (ks + ms2) Q (F0 X.2.2.2.2.1 (pc + 3) ls st)) : W X.1 X.2.1 X.2.2.1 (Rn Y.2.2.2.2.1 Y.2.2.2.2.2 mc ms) X.2.2.2.1 X.2.2.2.2.1 X.2.2.2.2.2.1 X.2.2.2.2.2.2.1 X.2.2.2.2.2.2.2.1 X.2.2.2.2.2.2.2.2 H locs kc ks Q (F0 X.2.2.2.2.1 pc ls stk) := by
  have hE := C.2.2.2.2.2.2.2.2.1
  have hqa : E.2.1 q ≤ E.2.1 p := by rw [hE q, hE p]; omega
  have hlast : (pre ++ [(E.2.1 p, e)])[pre.length]? = some (E.2.1 p, e) := by rw [List.getElem?_append_right (Nat.le_refl _), Nat.sub_self]; rfl
  have hpre : ∀ (i : Nat) (x : Nat × va_E), pre[i]? = some x → (pre ++ [(E.2.1 p, e)])[i]? = some x := fun i x hx => by
    rw [List.getElem?_append_left (List.getElem?_eq_some_iff.mp hx).1]; exact hx
  have hlow : ∀ (i : Nat) (x : Nat × va_E), pre[i]? = some x → x.1 < E.2.1 p := by
    intro i x hx
    have h1 := (hP i x (hpre i x hx)).lt
    have h2 : x.1 ≠ E.2.1 p := fun h => by
      have := hD.1 i pre.length x (E.2.1 p, e) (hpre i x hx) hlast h
      have := (List.getElem?_eq_some_iff.mp hx).1
      omega
    rw [hz, hE (p + 1)] at h1
    rw [hE p] at h2 ⊢
    omega
  intro T hT S
  obtain ⟨v, st₀, t, T', L, h0, X', hL, e1, e2, ⟨⟨hv, hs1, hp1, hd1⟩, hzz, hkk⟩, stp⟩ := hr T hT S
  have hv' : v = none := by injection hv
  subst hv'
  rw [h0] at hzz hkk
  obtain ⟨t2, a1, b1⟩ := kk T'.heap (locs ++ L) (by rw [e1]; exact hs1)
    (va_P.app (fun i x hx => ((hP i x (hpre i x hx))).kept (by rw [e1]; exact hkk x.1 ((hP i x (hpre i x hx)).lt) (fun h => absurd (hlow i x hx) (Nat.not_lt.mpr h)))) (by rw [e1]; exact hp1))
    (va_D.app ⟨fun i j x y hi hj hxy => hD.1 i j x y (hpre i x hi) (hpre j y hj) hxy, fun i x hx => hD.2 i x (hpre i x hx)⟩ (hd1.weaken (fun _ x _ h => Nat.le_trans hqa h)) (fun i j x y hx hy hxy => by
      have h1 := hlow i x hx
      have h2 : E.2.1 p ≤ y.1 := hd1.2 j y hy
      omega))
    ⟨Nat.le_trans hS.1 (by rw [e1]; exact hzz), fun x h1 h2 => by rw [e1, hkk x (Nat.lt_of_lt_of_le h1 hS.1) (fun h => h2 (Nat.le_trans hqa h))]; exact hS.2.1 x h1 h2, fun x hx => by
      rcases List.mem_append.mp hx with h | h
      · exact hS.2.2 x h
      · exact Nat.le_trans hqa (hL x h)⟩ T' rfl X'
  exact ⟨t2, stp t2 a1, b1⟩
theorem zn_last {p : Nat} {pre : va_W} {e : va_E} {H : Heap} (hP : va_P E.1 vwC (pre ++ [(E.2.1 p, e)]) H) : va_P E.1 vwC [(E.2.1 p, e)] H := by
  intro k x hx
  have hk : k < 1 := (List.getElem?_eq_some_iff.mp hx).1
  rw [show k = 0 by omega] at hx
  exact hP (pre.length + 0) x (by rw [List.getElem?_append_right (by omega)]; simpa using hx)
theorem zn_init (C : Cxn E X Y q) {Y2 : Yv} {mc2 ms2 p i n : Nat} {pre : va_W} {e : va_E} {P2 : va_W × Nat} {As stk : List Value} (hL : Lk Y Y2 n) (hr2 : Y2.2.2.2.1 = none) (hnm : Y2.1.name = "<init>") (hw1 : Cond.methodLink Y.1.cls i Y2.1 ∈ WT) (hw2 : Cond.instanceMethod Y2.1 ∈ WT) (hqp : q ≤ p) (hfr : Y2.2.2.2.2.1 + 1 ≤ Y.2.2.2.2.1) (hlo : 8 + (Y2.2.2.1 + 11) + Y2.2.2.2.2.2 ≤ Y.2.2.2.2.2) (hkc : kc + mc2 ≤ mc) (hks : ks + ms2 ≤ ms) (d : decode Y.2.1 pc = .ok (.invokespecial i, 3)) (hst : (st.map fun v => v.category).sum ≤ 8) (hn : As.length = n) (hs : stk = As.reverse ++ .ref (E.2.1 p) :: st) (hM : Cn X.2.1 E Y2 mc2 ms2 p (.ref (E.2.1 p) :: As) e P2) (k : Zn E X Y mc ms q P (pre ++ P2.1) P2.2 (kc + mc2) (ks + ms2) (pc + 3) lv st) : Zn E X Y mc ms q P (pre ++ [(E.2.1 p, e)]) (p + 1) kc ks pc lv stk := by
  subst hs
  intro H locs ls hz hP hD hS hl
  have hA := C.2.2.2.2.2.2.2.1
  have hts := C.2.2.2.2.2.1
  have hL1 := hL.1
  rw [hr2] at hL1
  have hM' := hM
  unfold Cn at hM'
  rw [hr2] at hM'
  exact zn_go C hqp hz hP hD hS (va_runI (As := As) (rest := st) (n := n) (bytes := Y2.2.1) (maxL := Y2.2.2.1) ⟨C.1, C.2.1, C.2.2.2.1, C.2.2.2.2.1, hts⟩ hM' ⟨⟨rfl, rfl, hfr, hlo, pay_in hts (wt_good hL1), List.mem_cons_self, hts _ hL1, hts _ hL.2.1, hL.2.2.1, len_of hL.2.2.2, hts _ hw1⟩, hnm, hts _ hw2⟩ ⟨preN_blind, fun U hU hW => ⟨rfl, by rw [hU]; exact hz, hA.mov hW, by rw [hU]; exact zn_last hP⟩⟩ rfl hn hl.1 rfl (by show 2 * 0 + _ ≤ 8; omega) d ⟨hkc, hks⟩) (fun H1 locs1 hz1 hP1 hD1 hS1 => k H1 locs1 ls hz1 hP1 hD1 hS1 hl)
theorem zn_initN (C : Cxn E X Y q) {Y2 : Yv} {host : String} {mc2 ms2 p i n : Nat} {pre : va_W} {e : va_E} {P2 : va_W × Nat} {As stk : List Value} (hL : Lk Y Y2 n) (hr2 : Y2.2.2.2.1 = none) (hnm : Y2.1.name = "<init>") (hw1 : Cond.methodLinkNest Y.1.cls i Y2.1 host ∈ NW) (hw2 : Cond.instanceMethod Y2.1 ∈ WT) (hqp : q ≤ p) (hfr : Y2.2.2.2.2.1 + 1 ≤ Y.2.2.2.2.1) (hlo : 8 + (Y2.2.2.1 + 11) + Y2.2.2.2.2.2 ≤ Y.2.2.2.2.2) (hkc : kc + mc2 ≤ mc) (hks : ks + ms2 ≤ ms) (d : decode Y.2.1 pc = .ok (.invokespecial i, 3)) (hst : (st.map fun v => v.category).sum ≤ 8) (hn : As.length = n) (hs : stk = As.reverse ++ .ref (E.2.1 p) :: st) (hM : Cn X.2.1 E Y2 mc2 ms2 p (.ref (E.2.1 p) :: As) e P2) (k : Zn E X Y mc ms q P (pre ++ P2.1) P2.2 (kc + mc2) (ks + ms2) (pc + 3) lv st) : Zn E X Y mc ms q P (pre ++ [(E.2.1 p, e)]) (p + 1) kc ks pc lv stk := by
  subst hs
  intro H locs ls hz hP hD hS hl
  have hA := C.2.2.2.2.2.2.2.1
  have hts := C.2.2.2.2.2.1
  have hL1 := hL.1
  rw [hr2] at hL1
  have hM' := hM
  unfold Cn at hM'
  rw [hr2] at hM'
  exact zn_go C hqp hz hP hD hS (va_runIN (host := host) (As := As) (rest := st) (n := n) (bytes := Y2.2.1) (maxL := Y2.2.2.1) ⟨C.1, C.2.1, C.2.2.2.1, C.2.2.2.2.1, hts⟩ hM' ⟨⟨⟨rfl, rfl, hfr, hlo, pay_in hts (wt_good hL1), List.mem_cons_self⟩, hts _ hL1, hts _ hL.2.1, hL.2.2.1, len_of hL.2.2.2, va_Nw.use rfl (hA.2.1 _ hw1)⟩, hnm, hts _ hw2⟩ ⟨preN_blind, fun U hU hW => ⟨rfl, by rw [hU]; exact hz, hA.mov hW, by rw [hU]; exact zn_last hP⟩⟩ rfl hn hl.1 rfl (by show 2 * 0 + _ ≤ 8; omega) d ⟨hkc, hks⟩) (fun H1 locs1 hz1 hP1 hD1 hS1 => k H1 locs1 ls hz1 hP1 hD1 hS1 hl)
end ZNEW
end
section
theorem t_11 : Jvm.Cond.initialized "ToWhoNeeds$Second" ∈ WT := wt_of (List.mem_of_getElem? (i := 76) (by decide +kernel)) rfl
theorem t_25 : Jvm.Cond.code ({ cls := "ToWhoNeeds", name := "<init>", desc := "()V" } : Jvm.MethodName) prog_1_method_1_code (1 : Nat) (Option.none : Option Jvm.ClassFile.FieldType) ∈ WT := wt_of (List.mem_of_getElem? (i := 90) (by decide +kernel)) rfl
theorem t_26 : Jvm.Cond.methodLink "ToWhoNeeds" (1 : Nat) ({ cls := "java/lang/Object", name := "<init>", desc := "()V" } : Jvm.MethodName) ∈ WT := wt_of (List.mem_of_getElem? (i := 91) (by decide +kernel)) rfl
theorem t_27 : Jvm.Cond.instanceMethod ({ cls := "java/lang/Object", name := "<init>", desc := "()V" } : Jvm.MethodName) ∈ WT := wt_of (List.mem_of_getElem? (i := 92) (by decide +kernel)) rfl
theorem t_28 : Jvm.Cond.code ({ cls := "java/lang/Object", name := "<init>", desc := "()V" } : Jvm.MethodName) object_method_1_code (1 : Nat) (Option.none : Option Jvm.ClassFile.FieldType) ∈ WT := wt_of (List.mem_of_getElem? (i := 93) (by decide +kernel)) rfl
theorem t_29 : Jvm.Cond.classLink "ToWhoNeeds" (7 : Nat) "ToWhoNeeds$State" ∈ WT := wt_of (List.mem_of_getElem? (i := 94) (by decide +kernel)) rfl
theorem t_30 : Jvm.Cond.instantiable "ToWhoNeeds$State" (11 : Nat) ∈ WT := wt_of (List.mem_of_getElem? (i := 95) (by decide +kernel)) rfl
theorem t_32 : Jvm.Cond.instanceMethod ({ cls := "ToWhoNeeds$State", name := "<init>", desc := "()V" } : Jvm.MethodName) ∈ WT := wt_of (List.mem_of_getElem? (i := 97) (by decide +kernel)) rfl
theorem t_33 : Jvm.Cond.code ({ cls := "ToWhoNeeds$State", name := "<init>", desc := "()V" } : Jvm.MethodName) prog_11_method_1_code (1 : Nat) (Option.none : Option Jvm.ClassFile.FieldType) ∈ WT := wt_of (List.mem_of_getElem? (i := 98) (by decide +kernel)) rfl
theorem t_34 : Jvm.Cond.methodLink "ToWhoNeeds$State" (3 : Nat) ({ cls := "java/lang/Object", name := "<init>", desc := "()V" } : Jvm.MethodName) ∈ WT := wt_of (List.mem_of_getElem? (i := 99) (by decide +kernel)) rfl
theorem t_35 : Jvm.Cond.classLink "ToWhoNeeds$State" (9 : Nat) "ToWhoNeeds$People" ∈ WT := wt_of (List.mem_of_getElem? (i := 100) (by decide +kernel)) rfl
theorem t_36 : Jvm.Cond.instantiable "ToWhoNeeds$People" (3 : Nat) ∈ WT := wt_of (List.mem_of_getElem? (i := 101) (by decide +kernel)) rfl
theorem t_38 : Jvm.Cond.instanceMethod ({ cls := "ToWhoNeeds$People", name := "<init>", desc := "()V" } : Jvm.MethodName) ∈ WT := wt_of (List.mem_of_getElem? (i := 103) (by decide +kernel)) rfl
theorem t_39 : Jvm.Cond.code ({ cls := "ToWhoNeeds$People", name := "<init>", desc := "()V" } : Jvm.MethodName) prog_7_method_1_code (1 : Nat) (Option.none : Option Jvm.ClassFile.FieldType) ∈ WT := wt_of (List.mem_of_getElem? (i := 104) (by decide +kernel)) rfl
theorem t_40 : Jvm.Cond.methodLink "ToWhoNeeds$People" (3 : Nat) ({ cls := "java/lang/Object", name := "<init>", desc := "()V" } : Jvm.MethodName) ∈ WT := wt_of (List.mem_of_getElem? (i := 105) (by decide +kernel)) rfl
theorem t_59 : Jvm.Cond.arrayClass Jvm.ClassFile.FieldType.int ∈ WT := wt_of (List.mem_of_getElem? (i := 124) (by decide +kernel)) rfl
theorem t_60 : Jvm.Cond.classLink "ToWhoNeeds$State" (18 : Nat) "ToWhoNeeds$Numbers" ∈ WT := wt_of (List.mem_of_getElem? (i := 125) (by decide +kernel)) rfl
theorem t_61 : Jvm.Cond.instantiable "ToWhoNeeds$Numbers" (2 : Nat) ∈ WT := wt_of (List.mem_of_getElem? (i := 126) (by decide +kernel)) rfl
theorem t_62 : Jvm.Cond.methodLink "ToWhoNeeds$State" (20 : Nat) ({ cls := "ToWhoNeeds$Numbers", name := "<init>", desc := "(I)V" } : Jvm.MethodName) ∈ WT := wt_of (List.mem_of_getElem? (i := 127) (by decide +kernel)) rfl
theorem t_63 : Jvm.Cond.instanceMethod ({ cls := "ToWhoNeeds$Numbers", name := "<init>", desc := "(I)V" } : Jvm.MethodName) ∈ WT := wt_of (List.mem_of_getElem? (i := 128) (by decide +kernel)) rfl
theorem t_64 : Jvm.Cond.code ({ cls := "ToWhoNeeds$Numbers", name := "<init>", desc := "(I)V" } : Jvm.MethodName) prog_6_method_1_code (2 : Nat) (Option.none : Option Jvm.ClassFile.FieldType) ∈ WT := wt_of (List.mem_of_getElem? (i := 129) (by decide +kernel)) rfl
theorem t_65 : Jvm.Cond.methodLink "ToWhoNeeds$Numbers" (1 : Nat) ({ cls := "java/lang/Object", name := "<init>", desc := "()V" } : Jvm.MethodName) ∈ WT := wt_of (List.mem_of_getElem? (i := 130) (by decide +kernel)) rfl
theorem t_133 : Jvm.Cond.classLink "ToWhoNeeds" (19 : Nat) "ToWhoNeeds$Reader" ∈ WT := wt_of (List.mem_of_getElem? (i := 198) (by decide +kernel)) rfl
theorem t_134 : Jvm.Cond.instantiable "ToWhoNeeds$Reader" (4 : Nat) ∈ WT := wt_of (List.mem_of_getElem? (i := 199) (by decide +kernel)) rfl
theorem t_136 : Jvm.Cond.instanceMethod ({ cls := "ToWhoNeeds$Reader", name := "<init>", desc := "()V" } : Jvm.MethodName) ∈ WT := wt_of (List.mem_of_getElem? (i := 201) (by decide +kernel)) rfl
theorem t_137 : Jvm.Cond.code ({ cls := "ToWhoNeeds$Reader", name := "<init>", desc := "()V" } : Jvm.MethodName) prog_9_method_1_code (1 : Nat) (Option.none : Option Jvm.ClassFile.FieldType) ∈ WT := wt_of (List.mem_of_getElem? (i := 202) (by decide +kernel)) rfl
theorem t_138 : Jvm.Cond.methodLink "ToWhoNeeds$Reader" (3 : Nat) ({ cls := "java/lang/Object", name := "<init>", desc := "()V" } : Jvm.MethodName) ∈ WT := wt_of (List.mem_of_getElem? (i := 203) (by decide +kernel)) rfl
theorem t_139 : Jvm.Cond.classLink "ToWhoNeeds$Reader" (9 : Nat) "ToWhoNeeds$Numbers" ∈ WT := wt_of (List.mem_of_getElem? (i := 204) (by decide +kernel)) rfl
theorem t_140 : Jvm.Cond.methodLink "ToWhoNeeds$Reader" (11 : Nat) ({ cls := "ToWhoNeeds$Numbers", name := "<init>", desc := "(I)V" } : Jvm.MethodName) ∈ WT := wt_of (List.mem_of_getElem? (i := 205) (by decide +kernel)) rfl
theorem t_141 : Jvm.Cond.classLink "ToWhoNeeds$Reader" (20 : Nat) "ToWhoNeeds$State" ∈ WT := wt_of (List.mem_of_getElem? (i := 206) (by decide +kernel)) rfl
theorem t_157 : Jvm.Cond.classLink "ToWhoNeeds" (26 : Nat) "ToWhoNeeds$Mind" ∈ WT := wt_of (List.mem_of_getElem? (i := 222) (by decide +kernel)) rfl
theorem t_158 : Jvm.Cond.instantiable "ToWhoNeeds$Mind" (5 : Nat) ∈ WT := wt_of (List.mem_of_getElem? (i := 223) (by decide +kernel)) rfl
theorem t_160 : Jvm.Cond.instanceMethod ({ cls := "ToWhoNeeds$Mind", name := "<init>", desc := "()V" } : Jvm.MethodName) ∈ WT := wt_of (List.mem_of_getElem? (i := 225) (by decide +kernel)) rfl
theorem t_161 : Jvm.Cond.code ({ cls := "ToWhoNeeds$Mind", name := "<init>", desc := "()V" } : Jvm.MethodName) prog_4_method_1_code (1 : Nat) (Option.none : Option Jvm.ClassFile.FieldType) ∈ WT := wt_of (List.mem_of_getElem? (i := 226) (by decide +kernel)) rfl
theorem t_162 : Jvm.Cond.methodLink "ToWhoNeeds$Mind" (3 : Nat) ({ cls := "java/lang/Object", name := "<init>", desc := "()V" } : Jvm.MethodName) ∈ WT := wt_of (List.mem_of_getElem? (i := 227) (by decide +kernel)) rfl
theorem t_163 : Jvm.Cond.classLink "ToWhoNeeds$Mind" (9 : Nat) "ToWhoNeeds$People" ∈ WT := wt_of (List.mem_of_getElem? (i := 228) (by decide +kernel)) rfl
theorem t_165 : Jvm.Cond.classLink "ToWhoNeeds$Mind" (21 : Nat) "ToWhoNeeds$Numbers" ∈ WT := wt_of (List.mem_of_getElem? (i := 230) (by decide +kernel)) rfl
theorem t_166 : Jvm.Cond.methodLink "ToWhoNeeds$Mind" (23 : Nat) ({ cls := "ToWhoNeeds$Numbers", name := "<init>", desc := "(I)V" } : Jvm.MethodName) ∈ WT := wt_of (List.mem_of_getElem? (i := 231) (by decide +kernel)) rfl
theorem t_184 : Jvm.Cond.classLink "ToWhoNeeds" (33 : Nat) "ToWhoNeeds$Law" ∈ WT := wt_of (List.mem_of_getElem? (i := 249) (by decide +kernel)) rfl
theorem t_186 : Jvm.Cond.classLink "ToWhoNeeds" (35 : Nat) "ToWhoNeeds$Sum" ∈ WT := wt_of (List.mem_of_getElem? (i := 251) (by decide +kernel)) rfl
theorem t_187 : Jvm.Cond.instantiable "ToWhoNeeds$Sum" (1 : Nat) ∈ WT := wt_of (List.mem_of_getElem? (i := 252) (by decide +kernel)) rfl
theorem t_188 : Jvm.Cond.methodLink "ToWhoNeeds" (37 : Nat) ({ cls := "ToWhoNeeds$Sum", name := "<init>", desc := "(I)V" } : Jvm.MethodName) ∈ WT := wt_of (List.mem_of_getElem? (i := 253) (by decide +kernel)) rfl
theorem t_189 : Jvm.Cond.instanceMethod ({ cls := "ToWhoNeeds$Sum", name := "<init>", desc := "(I)V" } : Jvm.MethodName) ∈ WT := wt_of (List.mem_of_getElem? (i := 254) (by decide +kernel)) rfl
theorem t_190 : Jvm.Cond.code ({ cls := "ToWhoNeeds$Sum", name := "<init>", desc := "(I)V" } : Jvm.MethodName) prog_12_method_1_code (2 : Nat) (Option.none : Option Jvm.ClassFile.FieldType) ∈ WT := wt_of (List.mem_of_getElem? (i := 255) (by decide +kernel)) rfl
theorem t_191 : Jvm.Cond.methodLink "ToWhoNeeds$Sum" (3 : Nat) ({ cls := "ToWhoNeeds$Law", name := "<init>", desc := "(I)V" } : Jvm.MethodName) ∈ WT := wt_of (List.mem_of_getElem? (i := 256) (by decide +kernel)) rfl
theorem t_192 : Jvm.Cond.instanceMethod ({ cls := "ToWhoNeeds$Law", name := "<init>", desc := "(I)V" } : Jvm.MethodName) ∈ WT := wt_of (List.mem_of_getElem? (i := 257) (by decide +kernel)) rfl
theorem t_193 : Jvm.Cond.code ({ cls := "ToWhoNeeds$Law", name := "<init>", desc := "(I)V" } : Jvm.MethodName) prog_2_method_1_code (2 : Nat) (Option.none : Option Jvm.ClassFile.FieldType) ∈ WT := wt_of (List.mem_of_getElem? (i := 258) (by decide +kernel)) rfl
theorem t_194 : Jvm.Cond.methodLink "ToWhoNeeds$Law" (3 : Nat) ({ cls := "java/lang/Object", name := "<init>", desc := "()V" } : Jvm.MethodName) ∈ WT := wt_of (List.mem_of_getElem? (i := 259) (by decide +kernel)) rfl
theorem t_199 : Jvm.Cond.classLink "ToWhoNeeds" (40 : Nat) "ToWhoNeeds$Met" ∈ WT := wt_of (List.mem_of_getElem? (i := 264) (by decide +kernel)) rfl
theorem t_200 : Jvm.Cond.instantiable "ToWhoNeeds$Met" (1 : Nat) ∈ WT := wt_of (List.mem_of_getElem? (i := 265) (by decide +kernel)) rfl
theorem t_201 : Jvm.Cond.methodLink "ToWhoNeeds" (42 : Nat) ({ cls := "ToWhoNeeds$Met", name := "<init>", desc := "()V" } : Jvm.MethodName) ∈ WT := wt_of (List.mem_of_getElem? (i := 266) (by decide +kernel)) rfl
theorem t_202 : Jvm.Cond.instanceMethod ({ cls := "ToWhoNeeds$Met", name := "<init>", desc := "()V" } : Jvm.MethodName) ∈ WT := wt_of (List.mem_of_getElem? (i := 267) (by decide +kernel)) rfl
theorem t_203 : Jvm.Cond.code ({ cls := "ToWhoNeeds$Met", name := "<init>", desc := "()V" } : Jvm.MethodName) prog_3_method_1_code (1 : Nat) (Option.none : Option Jvm.ClassFile.FieldType) ∈ WT := wt_of (List.mem_of_getElem? (i := 268) (by decide +kernel)) rfl
theorem t_204 : Jvm.Cond.methodLink "ToWhoNeeds$Met" (3 : Nat) ({ cls := "ToWhoNeeds$Sum", name := "<init>", desc := "(I)V" } : Jvm.MethodName) ∈ WT := wt_of (List.mem_of_getElem? (i := 269) (by decide +kernel)) rfl
theorem t_207 : Jvm.Cond.classLink "ToWhoNeeds" (43 : Nat) "ToWhoNeeds$Most" ∈ WT := wt_of (List.mem_of_getElem? (i := 272) (by decide +kernel)) rfl
theorem t_208 : Jvm.Cond.instantiable "ToWhoNeeds$Most" (1 : Nat) ∈ WT := wt_of (List.mem_of_getElem? (i := 273) (by decide +kernel)) rfl
theorem t_209 : Jvm.Cond.methodLink "ToWhoNeeds" (45 : Nat) ({ cls := "ToWhoNeeds$Most", name := "<init>", desc := "()V" } : Jvm.MethodName) ∈ WT := wt_of (List.mem_of_getElem? (i := 274) (by decide +kernel)) rfl
theorem t_210 : Jvm.Cond.instanceMethod ({ cls := "ToWhoNeeds$Most", name := "<init>", desc := "()V" } : Jvm.MethodName) ∈ WT := wt_of (List.mem_of_getElem? (i := 275) (by decide +kernel)) rfl
theorem t_211 : Jvm.Cond.code ({ cls := "ToWhoNeeds$Most", name := "<init>", desc := "()V" } : Jvm.MethodName) prog_5_method_1_code (1 : Nat) (Option.none : Option Jvm.ClassFile.FieldType) ∈ WT := wt_of (List.mem_of_getElem? (i := 276) (by decide +kernel)) rfl
theorem t_212 : Jvm.Cond.methodLink "ToWhoNeeds$Most" (3 : Nat) ({ cls := "ToWhoNeeds$Law", name := "<init>", desc := "(I)V" } : Jvm.MethodName) ∈ WT := wt_of (List.mem_of_getElem? (i := 277) (by decide +kernel)) rfl
theorem t_215 : Jvm.Cond.classLink "ToWhoNeeds" (46 : Nat) "ToWhoNeeds$Second" ∈ WT := wt_of (List.mem_of_getElem? (i := 280) (by decide +kernel)) rfl
theorem t_216 : Jvm.Cond.instantiable "ToWhoNeeds$Second" (1 : Nat) ∈ WT := wt_of (List.mem_of_getElem? (i := 281) (by decide +kernel)) rfl
theorem t_217 : Jvm.Cond.methodLink "ToWhoNeeds" (48 : Nat) ({ cls := "ToWhoNeeds$Second", name := "<init>", desc := "()V" } : Jvm.MethodName) ∈ WT := wt_of (List.mem_of_getElem? (i := 282) (by decide +kernel)) rfl
theorem t_218 : Jvm.Cond.instanceMethod ({ cls := "ToWhoNeeds$Second", name := "<init>", desc := "()V" } : Jvm.MethodName) ∈ WT := wt_of (List.mem_of_getElem? (i := 283) (by decide +kernel)) rfl
theorem t_219 : Jvm.Cond.code ({ cls := "ToWhoNeeds$Second", name := "<init>", desc := "()V" } : Jvm.MethodName) prog_10_method_1_code (1 : Nat) (Option.none : Option Jvm.ClassFile.FieldType) ∈ WT := wt_of (List.mem_of_getElem? (i := 284) (by decide +kernel)) rfl
theorem t_220 : Jvm.Cond.methodLink "ToWhoNeeds$Second" (1 : Nat) ({ cls := "ToWhoNeeds$Sum", name := "<init>", desc := "(I)V" } : Jvm.MethodName) ∈ WT := wt_of (List.mem_of_getElem? (i := 285) (by decide +kernel)) rfl
theorem t_223 : Jvm.Cond.classLink "ToWhoNeeds" (49 : Nat) "ToWhoNeeds$ReadOn" ∈ WT := wt_of (List.mem_of_getElem? (i := 288) (by decide +kernel)) rfl
theorem t_224 : Jvm.Cond.instantiable "ToWhoNeeds$ReadOn" (1 : Nat) ∈ WT := wt_of (List.mem_of_getElem? (i := 289) (by decide +kernel)) rfl
theorem t_226 : Jvm.Cond.instanceMethod ({ cls := "ToWhoNeeds$ReadOn", name := "<init>", desc := "()V" } : Jvm.MethodName) ∈ WT := wt_of (List.mem_of_getElem? (i := 291) (by decide +kernel)) rfl
theorem t_227 : Jvm.Cond.code ({ cls := "ToWhoNeeds$ReadOn", name := "<init>", desc := "()V" } : Jvm.MethodName) prog_8_method_1_code (1 : Nat) (Option.none : Option Jvm.ClassFile.FieldType) ∈ WT := wt_of (List.mem_of_getElem? (i := 292) (by decide +kernel)) rfl
theorem t_228 : Jvm.Cond.methodLink "ToWhoNeeds$ReadOn" (1 : Nat) ({ cls := "ToWhoNeeds$Met", name := "<init>", desc := "()V" } : Jvm.MethodName) ∈ WT := wt_of (List.mem_of_getElem? (i := 293) (by decide +kernel)) rfl
theorem t_231 : Jvm.Cond.classLink "ToWhoNeeds" (56 : Nat) "ToWhoNeeds$Numbers" ∈ WT := wt_of (List.mem_of_getElem? (i := 296) (by decide +kernel)) rfl
theorem t_232 : Jvm.Cond.methodLink "ToWhoNeeds" (58 : Nat) ({ cls := "ToWhoNeeds$Numbers", name := "<init>", desc := "(I)V" } : Jvm.MethodName) ∈ WT := wt_of (List.mem_of_getElem? (i := 297) (by decide +kernel)) rfl
theorem t_843 : Jvm.Cond.code ({ cls := "ToWhoNeedsModel", name := "<init>", desc := "()V" } : Jvm.MethodName) prog_14_method_1_code (1 : Nat) (Option.none : Option Jvm.ClassFile.FieldType) ∈ WT := wt_of (List.mem_of_getElem? (i := 908) (by decide +kernel)) rfl
theorem t_844 : Jvm.Cond.methodLink "ToWhoNeedsModel" (1 : Nat) ({ cls := "java/lang/Object", name := "<init>", desc := "()V" } : Jvm.MethodName) ∈ WT := wt_of (List.mem_of_getElem? (i := 909) (by decide +kernel)) rfl
theorem n_31 : Jvm.Cond.methodLinkNest "ToWhoNeeds" (9 : Nat) ({ cls := "ToWhoNeeds$State", name := "<init>", desc := "()V" } : Jvm.MethodName) "ToWhoNeeds" ∈ NW := List.mem_filter.mpr ⟨List.mem_of_getElem? (i := 31) (by decide +kernel), rfl⟩
theorem n_37 : Jvm.Cond.methodLinkNest "ToWhoNeeds$State" (11 : Nat) ({ cls := "ToWhoNeeds$People", name := "<init>", desc := "()V" } : Jvm.MethodName) "ToWhoNeeds" ∈ NW := List.mem_filter.mpr ⟨List.mem_of_getElem? (i := 37) (by decide +kernel), rfl⟩
theorem n_135 : Jvm.Cond.methodLinkNest "ToWhoNeeds" (21 : Nat) ({ cls := "ToWhoNeeds$Reader", name := "<init>", desc := "()V" } : Jvm.MethodName) "ToWhoNeeds" ∈ NW := List.mem_filter.mpr ⟨List.mem_of_getElem? (i := 135) (by decide +kernel), rfl⟩
theorem n_142 : Jvm.Cond.methodLinkNest "ToWhoNeeds$Reader" (22 : Nat) ({ cls := "ToWhoNeeds$State", name := "<init>", desc := "()V" } : Jvm.MethodName) "ToWhoNeeds" ∈ NW := List.mem_filter.mpr ⟨List.mem_of_getElem? (i := 142) (by decide +kernel), rfl⟩
theorem n_159 : Jvm.Cond.methodLinkNest "ToWhoNeeds" (28 : Nat) ({ cls := "ToWhoNeeds$Mind", name := "<init>", desc := "()V" } : Jvm.MethodName) "ToWhoNeeds" ∈ NW := List.mem_filter.mpr ⟨List.mem_of_getElem? (i := 159) (by decide +kernel), rfl⟩
theorem n_164 : Jvm.Cond.methodLinkNest "ToWhoNeeds$Mind" (11 : Nat) ({ cls := "ToWhoNeeds$People", name := "<init>", desc := "()V" } : Jvm.MethodName) "ToWhoNeeds" ∈ NW := List.mem_filter.mpr ⟨List.mem_of_getElem? (i := 164) (by decide +kernel), rfl⟩
theorem n_225 : Jvm.Cond.methodLinkNest "ToWhoNeeds" (51 : Nat) ({ cls := "ToWhoNeeds$ReadOn", name := "<init>", desc := "()V" } : Jvm.MethodName) "ToWhoNeeds" ∈ NW := List.mem_filter.mpr ⟨List.mem_of_getElem? (i := 225) (by decide +kernel), rfl⟩
end
section
abbrev YX0_init : Yv := (yX0_init, cX0_init, 2, none, 1, 12)
theorem lk_X0_init {Y : Yv} : Lk Y YX0_init 1 := ⟨t_193, t_7, ⟨by decide +kernel, by decide +kernel⟩, by decide +kernel⟩
abbrev YX1_init : Yv := (yX1_init, cX1_init, 1, none, 3, 54)
theorem lk_X1_init {Y : Yv} : Lk Y YX1_init 0 := ⟨t_203, t_9, ⟨by decide +kernel, by decide +kernel⟩, by decide +kernel⟩
abbrev YX2_init : Yv := (yX2_init, cX2_init, 1, none, 2, 33)
theorem lk_X2_init {Y : Yv} : Lk Y YX2_init 0 := ⟨t_161, t_6, ⟨by decide +kernel, by decide +kernel⟩, by decide +kernel⟩
abbrev YX3_init : Yv := (yX3_init, cX3_init, 1, none, 2, 33)
theorem lk_X3_init {Y : Yv} : Lk Y YX3_init 0 := ⟨t_211, t_10, ⟨by decide +kernel, by decide +kernel⟩, by decide +kernel⟩
abbrev YX4_init : Yv := (yX4_init, cX4_init, 2, none, 1, 12)
theorem lk_X4_init {Y : Yv} : Lk Y YX4_init 1 := ⟨t_64, t_4, ⟨by decide +kernel, by decide +kernel⟩, by decide +kernel⟩
abbrev YX5_init : Yv := (yX5_init, cX5_init, 1, none, 1, 12)
theorem lk_X5_init {Y : Yv} : Lk Y YX5_init 0 := ⟨t_39, t_3, ⟨by decide +kernel, by decide +kernel⟩, by decide +kernel⟩
abbrev YX6_init : Yv := (yX6_init, cX6_init, 1, none, 4, 74)
theorem lk_X6_init {Y : Yv} : Lk Y YX6_init 0 := ⟨t_227, t_12, ⟨by decide +kernel, by decide +kernel⟩, by decide +kernel⟩
abbrev YX7_init : Yv := (yX7_init, cX7_init, 1, none, 3, 53)
theorem lk_X7_init {Y : Yv} : Lk Y YX7_init 0 := ⟨t_137, t_5, ⟨by decide +kernel, by decide +kernel⟩, by decide +kernel⟩
abbrev YX8_init : Yv := (yX8_init, cX8_init, 1, none, 3, 54)
theorem lk_X8_init {Y : Yv} : Lk Y YX8_init 0 := ⟨t_219, t_11, ⟨by decide +kernel, by decide +kernel⟩, by decide +kernel⟩
abbrev YX9_init : Yv := (yX9_init, cX9_init, 1, none, 2, 33)
theorem lk_X9_init {Y : Yv} : Lk Y YX9_init 0 := ⟨t_33, t_2, ⟨by decide +kernel, by decide +kernel⟩, by decide +kernel⟩
abbrev YX10_init : Yv := (yX10_init, cX10_init, 2, none, 2, 33)
theorem lk_X10_init {Y : Yv} : Lk Y YX10_init 1 := ⟨t_190, t_8, ⟨by decide +kernel, by decide +kernel⟩, by decide +kernel⟩
abbrev YX11_init : Yv := (yX11_init, cX11_init, 1, none, 5, 94)
theorem lk_X11_init {Y : Yv} : Lk Y YX11_init 0 := ⟨t_25, t_1, ⟨by decide +kernel, by decide +kernel⟩, by decide +kernel⟩
abbrev YX12_init : Yv := (yX12_init, cX12_init, 1, none, 1, 12)
theorem lk_X12_init {Y : Yv} : Lk Y YX12_init 0 := ⟨t_843, t_13, ⟨by decide +kernel, by decide +kernel⟩, by decide +kernel⟩
theorem wc_a0 {E : Ev} {q n : Nat} (h : kd q = (8, n)) : wc E σ0 q = .inl (E.2.2 0, n, .inl (fun _ => 0)) := by rw [wc_arr h, s0a h]
theorem w0_nu {E : Ev} {o : Nat} (h : kd o = (3, 0)) : wc E σ0 o = .inr (3, [.ref (E.2.1 (o + 1)), .int 0]) := by
  have hz := s0z (q := o) (by rw [h]; decide)
  unfold wc
  rw [h]
  show Sum.inr (3, fs_3 E σ0 o) = _
  simp only [fs_3, hz]
theorem w0_pe {E : Ev} {o : Nat} (h : kd o = (2, 0)) : wc E σ0 o = .inr (4, [.ref (E.2.1 (o + 1)), .ref (E.2.1 (o + 2)), .int 0]) := by
  have hz := s0z (q := o) (by rw [h]; decide)
  unfold wc
  rw [h]
  show Sum.inr (4, fs_2 E σ0 o) = _
  simp only [fs_2, hz]
theorem w0_st {E : Ev} {o : Nat} (h : kd o = (1, 0)) : wc E σ0 o = .inr (8, [.ref (E.2.1 (o + 1)), .ref (E.2.1 (o + 4)), .ref (E.2.1 (o + 6)), .ref (E.2.1 (o + 8)), .ref (E.2.1 (o + 10)), .ref (E.2.1 (o + 12)), .ref (E.2.1 (o + 14)), .int 0, .int 0, .int 0, .int 0]) := by
  have hz := s0z (q := o) (by rw [h]; decide)
  unfold wc
  rw [h]
  show Sum.inr (8, fs_1 E σ0 o) = _
  simp only [fs_1, hz]
theorem at_pre {pre l : va_W} {n j : Nat} (h : pre.length = n) : (pre ++ l)[n + j]? = l[j]? := by
  rw [List.getElem?_append_right (by omega)]
  congr 1
  omega
theorem set_pre {pre l : va_W} {n j : Nat} {x : Nat × va_E} (h : pre.length = n) : (pre ++ l).set (n + j) x = pre ++ l.set j x := by
  rw [List.set_append_right _ _ (by omega)]
  congr 2
  omega
theorem sl_len (E : Ev) (i n : Nat) : (sl E i n).length = n := by simp [sl]
set_option maxRecDepth 20000 in
theorem cn_X0_X10 (l : Launch) (E : Ev) (hE : Ad E) (q : Nat) (x : Int32) : Cn l E YX0_init 0 0 q [.ref (E.2.1 q), .int x] (.inr (9, [.int 0])) ([(E.2.1 q, .inr (9, [.int x]))], q + 1) := by
  refine cn_of hE (by decide +kernel) (Nat.le_of_ble_eq_true rfl) [(0, .ref (E.2.1 q)), (1, .int x)] rfl (fun X hX C => ?_)
  refine zn_aload_n C dX0_init_0 0 rfl ?_
  refine zn_obj C t_194 t_27 t_28 dX0_init_1 (Nat.le_of_ble_eq_true rfl) (Nat.le_of_ble_eq_true rfl) ?_
  refine zn_aload_n C dX0_init_4 0 rfl ?_
  refine zn_iload_n C dX0_init_5 1 rfl ?_
  refine zn_putF (TT := TX10) (N := 1) (ci := 9) (ty := .int) (tl := []) C tyX10 tyX10_ok nmX10 rfl in_X10 0 (by decide) t_195 rfl rfl rfl (by decide +kernel) rfl rfl (Nat.le_of_ble_eq_true rfl) rfl dX0_init_6 ?_
  exact zn_vret C dX0_init_9 rfl rfl rfl rfl
set_option maxRecDepth 20000 in
theorem cn_X10_X10 (l : Launch) (E : Ev) (hE : Ad E) (q : Nat) (x : Int32) : Cn l E YX10_init 0 0 q [.ref (E.2.1 q), .int x] (.inr (9, [.int 0])) ([(E.2.1 q, .inr (9, [.int x]))], q + 1) := by
  refine cn_of hE (by decide +kernel) (Nat.le_of_ble_eq_true rfl) [(0, .ref (E.2.1 q)), (1, .int x)] rfl (fun X hX C => ?_)
  refine zn_aload_n C dX10_init_0 0 rfl ?_
  refine zn_iload_n C dX10_init_1 1 rfl ?_
  refine zn_init (Y2 := YX0_init) (mc2 := 0) (ms2 := 0) (p := q) (pre := []) (As := [.int x]) C lk_X0_init rfl rfl t_191 t_192 (Nat.le_refl _) (Nat.le_of_ble_eq_true rfl) (Nat.le_of_ble_eq_true rfl) (Nat.le_of_ble_eq_true rfl) (Nat.le_of_ble_eq_true rfl) dX10_init_2 (Nat.le_of_ble_eq_true rfl) rfl rfl (cn_X0_X10 X.2.1 E hE q x) ?_
  exact zn_vret C dX10_init_5 rfl rfl rfl rfl
set_option maxRecDepth 20000 in
theorem cn_X0_X1 (l : Launch) (E : Ev) (hE : Ad E) (q : Nat) (x : Int32) : Cn l E YX0_init 0 0 q [.ref (E.2.1 q), .int x] (.inr (0, [.int 0])) ([(E.2.1 q, .inr (0, [.int x]))], q + 1) := by
  refine cn_of hE (by decide +kernel) (Nat.le_of_ble_eq_true rfl) [(0, .ref (E.2.1 q)), (1, .int x)] rfl (fun X hX C => ?_)
  refine zn_aload_n C dX0_init_0 0 rfl ?_
  refine zn_obj C t_194 t_27 t_28 dX0_init_1 (Nat.le_of_ble_eq_true rfl) (Nat.le_of_ble_eq_true rfl) ?_
  refine zn_aload_n C dX0_init_4 0 rfl ?_
  refine zn_iload_n C dX0_init_5 1 rfl ?_
  refine zn_putF (TT := TX1) (N := 1) (ci := 0) (ty := .int) (tl := []) C tyX1 tyX1_ok nmX1 rfl in_X1 0 (by decide) t_195 rfl rfl rfl (by decide +kernel) rfl rfl (Nat.le_of_ble_eq_true rfl) rfl dX0_init_6 ?_
  exact zn_vret C dX0_init_9 rfl rfl rfl rfl
set_option maxRecDepth 20000 in
theorem cn_X10_X1 (l : Launch) (E : Ev) (hE : Ad E) (q : Nat) (x : Int32) : Cn l E YX10_init 0 0 q [.ref (E.2.1 q), .int x] (.inr (0, [.int 0])) ([(E.2.1 q, .inr (0, [.int x]))], q + 1) := by
  refine cn_of hE (by decide +kernel) (Nat.le_of_ble_eq_true rfl) [(0, .ref (E.2.1 q)), (1, .int x)] rfl (fun X hX C => ?_)
  refine zn_aload_n C dX10_init_0 0 rfl ?_
  refine zn_iload_n C dX10_init_1 1 rfl ?_
  refine zn_init (Y2 := YX0_init) (mc2 := 0) (ms2 := 0) (p := q) (pre := []) (As := [.int x]) C lk_X0_init rfl rfl t_191 t_192 (Nat.le_refl _) (Nat.le_of_ble_eq_true rfl) (Nat.le_of_ble_eq_true rfl) (Nat.le_of_ble_eq_true rfl) (Nat.le_of_ble_eq_true rfl) dX10_init_2 (Nat.le_of_ble_eq_true rfl) rfl rfl (cn_X0_X1 X.2.1 E hE q x) ?_
  exact zn_vret C dX10_init_5 rfl rfl rfl rfl
set_option maxRecDepth 20000 in
theorem cn_X1_X1 (l : Launch) (E : Ev) (hE : Ad E) (q : Nat) : Cn l E YX1_init 0 0 q [.ref (E.2.1 q)] (.inr (0, [.int 0])) ([(E.2.1 q, .inr (0, [.int 0]))], q + 1) := by
  refine cn_of hE (by decide +kernel) (Nat.le_of_ble_eq_true rfl) [(0, .ref (E.2.1 q))] rfl (fun X hX C => ?_)
  refine zn_aload_n C dX1_init_0 0 rfl ?_
  refine zn_iconst (v := 0) C dX1_init_1 (by decide) ?_
  refine zn_init (Y2 := YX10_init) (mc2 := 0) (ms2 := 0) (p := q) (pre := []) (As := [.int 0]) C lk_X10_init rfl rfl t_204 t_189 (Nat.le_refl _) (Nat.le_of_ble_eq_true rfl) (Nat.le_of_ble_eq_true rfl) (Nat.le_of_ble_eq_true rfl) (Nat.le_of_ble_eq_true rfl) dX1_init_2 (Nat.le_of_ble_eq_true rfl) rfl rfl (cn_X10_X1 X.2.1 E hE q 0) ?_
  exact zn_vret C dX1_init_5 rfl rfl rfl rfl
set_option maxRecDepth 20000 in
theorem cn_X0_X3 (l : Launch) (E : Ev) (hE : Ad E) (q : Nat) (x : Int32) : Cn l E YX0_init 0 0 q [.ref (E.2.1 q), .int x] (.inr (2, [.int 0])) ([(E.2.1 q, .inr (2, [.int x]))], q + 1) := by
  refine cn_of hE (by decide +kernel) (Nat.le_of_ble_eq_true rfl) [(0, .ref (E.2.1 q)), (1, .int x)] rfl (fun X hX C => ?_)
  refine zn_aload_n C dX0_init_0 0 rfl ?_
  refine zn_obj C t_194 t_27 t_28 dX0_init_1 (Nat.le_of_ble_eq_true rfl) (Nat.le_of_ble_eq_true rfl) ?_
  refine zn_aload_n C dX0_init_4 0 rfl ?_
  refine zn_iload_n C dX0_init_5 1 rfl ?_
  refine zn_putF (TT := TX3) (N := 1) (ci := 2) (ty := .int) (tl := []) C tyX3 tyX3_ok nmX3 rfl in_X3 0 (by decide) t_195 rfl rfl rfl (by decide +kernel) rfl rfl (Nat.le_of_ble_eq_true rfl) rfl dX0_init_6 ?_
  exact zn_vret C dX0_init_9 rfl rfl rfl rfl
set_option maxRecDepth 20000 in
theorem cn_X3_X3 (l : Launch) (E : Ev) (hE : Ad E) (q : Nat) : Cn l E YX3_init 0 0 q [.ref (E.2.1 q)] (.inr (2, [.int 0])) ([(E.2.1 q, .inr (2, [.int 0]))], q + 1) := by
  refine cn_of hE (by decide +kernel) (Nat.le_of_ble_eq_true rfl) [(0, .ref (E.2.1 q))] rfl (fun X hX C => ?_)
  refine zn_aload_n C dX3_init_0 0 rfl ?_
  refine zn_iconst (v := 0) C dX3_init_1 (by decide) ?_
  refine zn_init (Y2 := YX0_init) (mc2 := 0) (ms2 := 0) (p := q) (pre := []) (As := [.int 0]) C lk_X0_init rfl rfl t_212 t_192 (Nat.le_refl _) (Nat.le_of_ble_eq_true rfl) (Nat.le_of_ble_eq_true rfl) (Nat.le_of_ble_eq_true rfl) (Nat.le_of_ble_eq_true rfl) dX3_init_2 (Nat.le_of_ble_eq_true rfl) rfl rfl (cn_X0_X3 X.2.1 E hE q 0) ?_
  exact zn_vret C dX3_init_5 rfl rfl rfl rfl
set_option maxRecDepth 20000 in
theorem cn_X0_X8 (l : Launch) (E : Ev) (hE : Ad E) (q : Nat) (x : Int32) : Cn l E YX0_init 0 0 q [.ref (E.2.1 q), .int x] (.inr (7, [.int 0])) ([(E.2.1 q, .inr (7, [.int x]))], q + 1) := by
  refine cn_of hE (by decide +kernel) (Nat.le_of_ble_eq_true rfl) [(0, .ref (E.2.1 q)), (1, .int x)] rfl (fun X hX C => ?_)
  refine zn_aload_n C dX0_init_0 0 rfl ?_
  refine zn_obj C t_194 t_27 t_28 dX0_init_1 (Nat.le_of_ble_eq_true rfl) (Nat.le_of_ble_eq_true rfl) ?_
  refine zn_aload_n C dX0_init_4 0 rfl ?_
  refine zn_iload_n C dX0_init_5 1 rfl ?_
  refine zn_putF (TT := TX8) (N := 1) (ci := 7) (ty := .int) (tl := []) C tyX8 tyX8_ok nmX8 rfl in_X8 0 (by decide) t_195 rfl rfl rfl (by decide +kernel) rfl rfl (Nat.le_of_ble_eq_true rfl) rfl dX0_init_6 ?_
  exact zn_vret C dX0_init_9 rfl rfl rfl rfl
set_option maxRecDepth 20000 in
theorem cn_X10_X8 (l : Launch) (E : Ev) (hE : Ad E) (q : Nat) (x : Int32) : Cn l E YX10_init 0 0 q [.ref (E.2.1 q), .int x] (.inr (7, [.int 0])) ([(E.2.1 q, .inr (7, [.int x]))], q + 1) := by
  refine cn_of hE (by decide +kernel) (Nat.le_of_ble_eq_true rfl) [(0, .ref (E.2.1 q)), (1, .int x)] rfl (fun X hX C => ?_)
  refine zn_aload_n C dX10_init_0 0 rfl ?_
  refine zn_iload_n C dX10_init_1 1 rfl ?_
  refine zn_init (Y2 := YX0_init) (mc2 := 0) (ms2 := 0) (p := q) (pre := []) (As := [.int x]) C lk_X0_init rfl rfl t_191 t_192 (Nat.le_refl _) (Nat.le_of_ble_eq_true rfl) (Nat.le_of_ble_eq_true rfl) (Nat.le_of_ble_eq_true rfl) (Nat.le_of_ble_eq_true rfl) dX10_init_2 (Nat.le_of_ble_eq_true rfl) rfl rfl (cn_X0_X8 X.2.1 E hE q x) ?_
  exact zn_vret C dX10_init_5 rfl rfl rfl rfl
set_option maxRecDepth 20000 in
theorem cn_X8_X8 (l : Launch) (E : Ev) (hE : Ad E) (q : Nat) : Cn l E YX8_init 0 0 q [.ref (E.2.1 q)] (.inr (7, [.int 0])) ([(E.2.1 q, .inr (7, [.int 1]))], q + 1) := by
  refine cn_of hE (by decide +kernel) (Nat.le_of_ble_eq_true rfl) [(0, .ref (E.2.1 q))] rfl (fun X hX C => ?_)
  refine zn_aload_n C dX8_init_0 0 rfl ?_
  refine zn_iconst (v := 1) C dX8_init_1 (by decide) ?_
  refine zn_init (Y2 := YX10_init) (mc2 := 0) (ms2 := 0) (p := q) (pre := []) (As := [.int 1]) C lk_X10_init rfl rfl t_220 t_189 (Nat.le_refl _) (Nat.le_of_ble_eq_true rfl) (Nat.le_of_ble_eq_true rfl) (Nat.le_of_ble_eq_true rfl) (Nat.le_of_ble_eq_true rfl) dX8_init_2 (Nat.le_of_ble_eq_true rfl) rfl rfl (cn_X10_X8 X.2.1 E hE q 1) ?_
  exact zn_vret C dX8_init_5 rfl rfl rfl rfl
set_option maxRecDepth 20000 in
theorem cn_X0_X6 (l : Launch) (E : Ev) (hE : Ad E) (q : Nat) (x : Int32) : Cn l E YX0_init 0 0 q [.ref (E.2.1 q), .int x] (.inr (5, [.int 0])) ([(E.2.1 q, .inr (5, [.int x]))], q + 1) := by
  refine cn_of hE (by decide +kernel) (Nat.le_of_ble_eq_true rfl) [(0, .ref (E.2.1 q)), (1, .int x)] rfl (fun X hX C => ?_)
  refine zn_aload_n C dX0_init_0 0 rfl ?_
  refine zn_obj C t_194 t_27 t_28 dX0_init_1 (Nat.le_of_ble_eq_true rfl) (Nat.le_of_ble_eq_true rfl) ?_
  refine zn_aload_n C dX0_init_4 0 rfl ?_
  refine zn_iload_n C dX0_init_5 1 rfl ?_
  refine zn_putF (TT := TX6) (N := 1) (ci := 5) (ty := .int) (tl := []) C tyX6 tyX6_ok nmX6 rfl in_X6 0 (by decide) t_195 rfl rfl rfl (by decide +kernel) rfl rfl (Nat.le_of_ble_eq_true rfl) rfl dX0_init_6 ?_
  exact zn_vret C dX0_init_9 rfl rfl rfl rfl
set_option maxRecDepth 20000 in
theorem cn_X10_X6 (l : Launch) (E : Ev) (hE : Ad E) (q : Nat) (x : Int32) : Cn l E YX10_init 0 0 q [.ref (E.2.1 q), .int x] (.inr (5, [.int 0])) ([(E.2.1 q, .inr (5, [.int x]))], q + 1) := by
  refine cn_of hE (by decide +kernel) (Nat.le_of_ble_eq_true rfl) [(0, .ref (E.2.1 q)), (1, .int x)] rfl (fun X hX C => ?_)
  refine zn_aload_n C dX10_init_0 0 rfl ?_
  refine zn_iload_n C dX10_init_1 1 rfl ?_
  refine zn_init (Y2 := YX0_init) (mc2 := 0) (ms2 := 0) (p := q) (pre := []) (As := [.int x]) C lk_X0_init rfl rfl t_191 t_192 (Nat.le_refl _) (Nat.le_of_ble_eq_true rfl) (Nat.le_of_ble_eq_true rfl) (Nat.le_of_ble_eq_true rfl) (Nat.le_of_ble_eq_true rfl) dX10_init_2 (Nat.le_of_ble_eq_true rfl) rfl rfl (cn_X0_X6 X.2.1 E hE q x) ?_
  exact zn_vret C dX10_init_5 rfl rfl rfl rfl
set_option maxRecDepth 20000 in
theorem cn_X1_X6 (l : Launch) (E : Ev) (hE : Ad E) (q : Nat) : Cn l E YX1_init 0 0 q [.ref (E.2.1 q)] (.inr (5, [.int 0])) ([(E.2.1 q, .inr (5, [.int 0]))], q + 1) := by
  refine cn_of hE (by decide +kernel) (Nat.le_of_ble_eq_true rfl) [(0, .ref (E.2.1 q))] rfl (fun X hX C => ?_)
  refine zn_aload_n C dX1_init_0 0 rfl ?_
  refine zn_iconst (v := 0) C dX1_init_1 (by decide) ?_
  refine zn_init (Y2 := YX10_init) (mc2 := 0) (ms2 := 0) (p := q) (pre := []) (As := [.int 0]) C lk_X10_init rfl rfl t_204 t_189 (Nat.le_refl _) (Nat.le_of_ble_eq_true rfl) (Nat.le_of_ble_eq_true rfl) (Nat.le_of_ble_eq_true rfl) (Nat.le_of_ble_eq_true rfl) dX1_init_2 (Nat.le_of_ble_eq_true rfl) rfl rfl (cn_X10_X6 X.2.1 E hE q 0) ?_
  exact zn_vret C dX1_init_5 rfl rfl rfl rfl
set_option maxRecDepth 20000 in
theorem cn_X6_X6 (l : Launch) (E : Ev) (hE : Ad E) (q : Nat) : Cn l E YX6_init 0 0 q [.ref (E.2.1 q)] (.inr (5, [.int 0])) ([(E.2.1 q, .inr (5, [.int 0]))], q + 1) := by
  refine cn_of hE (by decide +kernel) (Nat.le_of_ble_eq_true rfl) [(0, .ref (E.2.1 q))] rfl (fun X hX C => ?_)
  refine zn_aload_n C dX6_init_0 0 rfl ?_
  refine zn_init (Y2 := YX1_init) (mc2 := 0) (ms2 := 0) (p := q) (pre := []) (As := []) C lk_X1_init rfl rfl t_228 t_202 (Nat.le_refl _) (Nat.le_of_ble_eq_true rfl) (Nat.le_of_ble_eq_true rfl) (Nat.le_of_ble_eq_true rfl) (Nat.le_of_ble_eq_true rfl) dX6_init_1 (Nat.le_of_ble_eq_true rfl) rfl rfl (cn_X1_X6 X.2.1 E hE q) ?_
  exact zn_vret C dX6_init_4 rfl rfl rfl rfl
set_option maxRecDepth 20000 in
theorem cn_X4 (l : Launch) (E : Ev) (hE : Ad E) (o n : Nat) (h0 : kd o = (3, 0)) (h1 : kd (o + 1) = (8, n)) (hn : 0 < n) (hm : n < 1000) : Cn l E YX4_init 1 n o [.ref (E.2.1 o), .int (nI n)] (.inr (3, [.null, .int 0])) (sl E o 2, o + 2) := by
  refine cn_of hE (by decide +kernel) (Nat.le_of_ble_eq_true rfl) [(0, .ref (E.2.1 o)), (1, .int (nI n))] rfl (fun X hX C => ?_)
  refine zn_aload_n C dX4_init_0 0 rfl ?_
  refine zn_obj C t_65 t_27 t_28 dX4_init_1 (Nat.le_of_ble_eq_true rfl) (Nat.le_of_ble_eq_true rfl) ?_
  refine zn_aload_n C dX4_init_4 0 rfl ?_
  refine zn_iload_n C dX4_init_5 1 rfl ?_
  refine zn_if_le (tgt := 13) C dX4_init_6 (by decide) (nI_nle hn (by omega)) ?_
  refine zn_iload_n C dX4_init_9 1 rfl ?_
  refine zn_goto (tgt := 14) C dX4_init_10 (by decide) ?_
  refine zn_newa (N := n) C t_59 (nI_pos (by omega)) (nI_clamp (by omega)) (by show n * 4 ≤ 536870912; omega) (Nat.le_of_ble_eq_true rfl) (by omega) (by omega) dX4_init_14 ?_
  refine zn_eq (ws' := (E.2.1 o, .inr (3, [.null, .int 0])) :: [(E.2.1 (o + 1), .inl (E.2.2 0, n, .inl (fun _ => 0)))]) rfl rfl ?_
  refine zn_putF (TT := TX4) (N := 2) (ci := 3) (ty := .array .int) C tyX4 tyX4_ok nmX4 rfl in_X4 0 (by decide) t_66 rfl rfl rfl (by decide +kernel) rfl rfl (Nat.le_of_ble_eq_true rfl) rfl dX4_init_16 ?_
  refine zn_eq (ws' := sl E o 2) (nx' := o + 2) (by rw [← sl_cons E o 1 (w0_nu h0), sl_one, wc_a0 h1]; rfl) rfl ?_
  exact zn_vret C dX4_init_19 rfl rfl (by omega) rfl
set_option maxHeartbeats 4000000 in
set_option maxRecDepth 20000 in
theorem cn_X5 (l : Launch) (E : Ev) (hE : Ad E) (o : Nat) (h0 : kd o = (2, 0)) (h1 : kd (o + 1) = (8, 24)) (h2 : kd (o + 2) = (8, 6)) : Cn l E YX5_init 2 30 o [.ref (E.2.1 o)] (.inr (4, [.null, .null, .int 0])) (sl E o 3, (o + 3)) := by
  refine cn_of hE (by decide +kernel) (Nat.le_of_ble_eq_true rfl) [(0, .ref (E.2.1 o))] rfl (fun X hX C => ?_)
  refine zn_eq (ws' := ((E.2.1 o, (.inr (4, [.null, .null, .int 0]) : va_E)) :: sl E (o + 1) 0)) (nx' := (o + 1)) rfl rfl ?_
  refine zn_aload_n C dX5_init_0 0 rfl ?_
  refine zn_obj C t_40 t_27 t_28 dX5_init_1 (Nat.le_of_ble_eq_true rfl) (Nat.le_of_ble_eq_true rfl) ?_
  refine zn_aload_n C dX5_init_4 0 rfl ?_
  refine zn_bipush (v := 24) C dX5_init_5 (by decide) ?_
  refine zn_newa (N := 24) C t_59 (by decide) (by decide) (by decide) (Nat.le_of_ble_eq_true rfl) (Nat.le_of_ble_eq_true rfl) (by omega) dX5_init_7 ?_
  refine zn_eq (ws' := ((E.2.1 o, (.inr (4, [.null, .null, .int 0]) : va_E)) :: sl E (o + 1) 1)) (nx' := (o + 2)) (by rw [List.cons_append, sl_snoc E (o + 1) 0 (j := (o + 1)) rfl (wc_a0 h1)]) rfl ?_
  refine zn_putF (TT := TX5) (N := 3) (ci := 4) (ty := (.array .int)) C tyX5 tyX5_ok nmX5 rfl in_X5 0 (by decide) t_41 rfl rfl rfl (by decide +kernel) rfl rfl (Nat.le_of_ble_eq_true rfl) rfl dX5_init_9 ?_
  refine zn_eq (ws' := ((E.2.1 o, (.inr (4, [.ref (E.2.1 (o + 1)), .null, .int 0]) : va_E)) :: sl E (o + 1) 1)) (nx' := (o + 2)) rfl rfl ?_
  refine zn_aload_n C dX5_init_12 0 rfl ?_
  refine zn_bipush (v := 6) C dX5_init_13 (by decide) ?_
  refine zn_newa (N := 6) C t_59 (by decide) (by decide) (by decide) (Nat.le_of_ble_eq_true rfl) (Nat.le_of_ble_eq_true rfl) (by omega) dX5_init_15 ?_
  refine zn_eq (ws' := ((E.2.1 o, (.inr (4, [.ref (E.2.1 (o + 1)), .null, .int 0]) : va_E)) :: sl E (o + 1) 2)) (nx' := (o + 3)) (by rw [List.cons_append, sl_snoc E (o + 1) 1 (j := (o + 2)) rfl (wc_a0 h2)]) rfl ?_
  refine zn_putF (TT := TX5) (N := 3) (ci := 4) (ty := (.array .int)) C tyX5 tyX5_ok nmX5 rfl in_X5 1 (by decide) t_45 rfl rfl rfl (by decide +kernel) rfl rfl (Nat.le_of_ble_eq_true rfl) rfl dX5_init_17 ?_
  refine zn_eq (ws' := ((E.2.1 o, (.inr (4, [.ref (E.2.1 (o + 1)), .ref (E.2.1 (o + 2)), .int 0]) : va_E)) :: sl E (o + 1) 2)) (nx' := (o + 3)) rfl rfl ?_
  refine zn_eq (ws' := sl E o 3) (nx' := (o + 3)) (sl_cons E o 2 (w0_pe h0)) rfl ?_
  exact zn_vret C dX5_init_20 rfl rfl rfl rfl
set_option maxHeartbeats 4000000 in
set_option maxRecDepth 20000 in
theorem cn_X9 (l : Launch) (E : Ev) (hE : Ad E) (s : Nat) (hk : ∀ j, j < 16 → kd (s + j) = kd (1 + j)) : Cn l E YX9_init 15 74 s [.ref (E.2.1 s)] (.inr (8, [.null, .null, .null, .null, .null, .null, .null, .int 0, .int 0, .int 0, .int 0])) (sl E s 16, (s + 16)) := by
  refine cn_of hE (by decide +kernel) (Nat.le_of_ble_eq_true rfl) [(0, .ref (E.2.1 s))] rfl (fun X hX C => ?_)
  refine zn_eq (ws' := ((E.2.1 s, (.inr (8, [.null, .null, .null, .null, .null, .null, .null, .int 0, .int 0, .int 0, .int 0]) : va_E)) :: sl E (s + 1) 0)) (nx' := (s + 1)) rfl rfl ?_
  refine zn_aload_n C dX9_init_0 0 rfl ?_
  refine zn_obj C t_34 t_27 t_28 dX9_init_1 (Nat.le_of_ble_eq_true rfl) (Nat.le_of_ble_eq_true rfl) ?_
  refine zn_aload_n C dX9_init_4 0 rfl ?_
  refine zn_new (CC := RX5) (TT := TX5) (N := 3) (ci := 4) (fs := [.null, .null, .int 0]) C tyX5 tyX5_ok rfl in_X5 t_35 t_36 t_3 (by decide +kernel) (Nat.le_of_ble_eq_true rfl) (Nat.le_of_ble_eq_true rfl) (by omega) dX9_init_5 ?_
  refine zn_dup C dX9_init_8 rfl ?_
  refine zn_initN (Y2 := YX5_init) (mc2 := 2) (ms2 := 30) (p := (s + 1)) (pre := ((E.2.1 s, (.inr (8, [.null, .null, .null, .null, .null, .null, .null, .int 0, .int 0, .int 0, .int 0]) : va_E)) :: sl E (s + 1) 0)) (As := []) C lk_X5_init rfl rfl n_37 t_38 (by omega) (Nat.le_of_ble_eq_true rfl) (Nat.le_of_ble_eq_true rfl) (Nat.le_of_ble_eq_true rfl) (Nat.le_of_ble_eq_true rfl) dX9_init_9 (Nat.le_of_ble_eq_true rfl) rfl rfl (cn_X5 X.2.1 E hE (s + 1) (hk 1 (by decide)) (hk 2 (by decide)) (hk 3 (by decide))) ?_
  refine zn_eq (ws' := ((E.2.1 s, (.inr (8, [.null, .null, .null, .null, .null, .null, .null, .int 0, .int 0, .int 0, .int 0]) : va_E)) :: sl E (s + 1) 3)) (nx' := (s + 4)) (by rw [List.cons_append, sl_app E (s + 1) 0 3 (j := (s + 1)) rfl]) rfl ?_
  refine zn_putF (TT := TX9) (N := 11) (ci := 8) (ty := (.object "ToWhoNeeds$People")) C tyX9 tyX9_ok nmX9 rfl in_X9 0 (by decide) t_77 rfl rfl rfl (by decide +kernel) rfl rfl (Nat.le_of_ble_eq_true rfl) rfl dX9_init_12 ?_
  refine zn_eq (ws' := ((E.2.1 s, (.inr (8, [.ref (E.2.1 (s + 1)), .null, .null, .null, .null, .null, .null, .int 0, .int 0, .int 0, .int 0]) : va_E)) :: sl E (s + 1) 3)) (nx' := (s + 4)) rfl rfl ?_
  refine zn_aload_n C dX9_init_15 0 rfl ?_
  refine zn_new (CC := RX4) (TT := TX4) (N := 2) (ci := 3) (fs := [.null, .int 0]) C tyX4 tyX4_ok rfl in_X4 t_60 t_61 t_4 (by decide +kernel) (Nat.le_of_ble_eq_true rfl) (Nat.le_of_ble_eq_true rfl) (by omega) dX9_init_16 ?_
  refine zn_dup C dX9_init_19 rfl ?_
  refine zn_iconst (v := 4) C dX9_init_20 (by decide) ?_
  refine zn_init (Y2 := YX4_init) (mc2 := 1) (ms2 := 4) (p := (s + 4)) (pre := ((E.2.1 s, (.inr (8, [.ref (E.2.1 (s + 1)), .null, .null, .null, .null, .null, .null, .int 0, .int 0, .int 0, .int 0]) : va_E)) :: sl E (s + 1) 3)) (As := [.int 4]) C lk_X4_init rfl rfl t_62 t_63 (by omega) (Nat.le_of_ble_eq_true rfl) (Nat.le_of_ble_eq_true rfl) (Nat.le_of_ble_eq_true rfl) (Nat.le_of_ble_eq_true rfl) dX9_init_21 (Nat.le_of_ble_eq_true rfl) rfl rfl (cn_X4 X.2.1 E hE (s + 4) 4 (hk 4 (by decide)) (hk 5 (by decide)) (by decide) (by decide)) ?_
  refine zn_eq (ws' := ((E.2.1 s, (.inr (8, [.ref (E.2.1 (s + 1)), .null, .null, .null, .null, .null, .null, .int 0, .int 0, .int 0, .int 0]) : va_E)) :: sl E (s + 1) 5)) (nx' := (s + 6)) (by rw [List.cons_append, sl_app E (s + 1) 3 2 (j := (s + 4)) rfl]) rfl ?_
  refine zn_putF (TT := TX9) (N := 11) (ci := 8) (ty := (.object "ToWhoNeeds$Numbers")) C tyX9 tyX9_ok nmX9 rfl in_X9 1 (by decide) t_81 rfl rfl rfl (by decide +kernel) rfl rfl (Nat.le_of_ble_eq_true rfl) rfl dX9_init_24 ?_
  refine zn_eq (ws' := ((E.2.1 s, (.inr (8, [.ref (E.2.1 (s + 1)), .ref (E.2.1 (s + 4)), .null, .null, .null, .null, .null, .int 0, .int 0, .int 0, .int 0]) : va_E)) :: sl E (s + 1) 5)) (nx' := (s + 6)) rfl rfl ?_
  refine zn_aload_n C dX9_init_27 0 rfl ?_
  refine zn_new (CC := RX4) (TT := TX4) (N := 2) (ci := 3) (fs := [.null, .int 0]) C tyX4 tyX4_ok rfl in_X4 t_60 t_61 t_4 (by decide +kernel) (Nat.le_of_ble_eq_true rfl) (Nat.le_of_ble_eq_true rfl) (by omega) dX9_init_28 ?_
  refine zn_dup C dX9_init_31 rfl ?_
  refine zn_iconst (v := 4) C dX9_init_32 (by decide) ?_
  refine zn_init (Y2 := YX4_init) (mc2 := 1) (ms2 := 4) (p := (s + 6)) (pre := ((E.2.1 s, (.inr (8, [.ref (E.2.1 (s + 1)), .ref (E.2.1 (s + 4)), .null, .null, .null, .null, .null, .int 0, .int 0, .int 0, .int 0]) : va_E)) :: sl E (s + 1) 5)) (As := [.int 4]) C lk_X4_init rfl rfl t_62 t_63 (by omega) (Nat.le_of_ble_eq_true rfl) (Nat.le_of_ble_eq_true rfl) (Nat.le_of_ble_eq_true rfl) (Nat.le_of_ble_eq_true rfl) dX9_init_33 (Nat.le_of_ble_eq_true rfl) rfl rfl (cn_X4 X.2.1 E hE (s + 6) 4 (hk 6 (by decide)) (hk 7 (by decide)) (by decide) (by decide)) ?_
  refine zn_eq (ws' := ((E.2.1 s, (.inr (8, [.ref (E.2.1 (s + 1)), .ref (E.2.1 (s + 4)), .null, .null, .null, .null, .null, .int 0, .int 0, .int 0, .int 0]) : va_E)) :: sl E (s + 1) 7)) (nx' := (s + 8)) (by rw [List.cons_append, sl_app E (s + 1) 5 2 (j := (s + 6)) rfl]) rfl ?_
  refine zn_putF (TT := TX9) (N := 11) (ci := 8) (ty := (.object "ToWhoNeeds$Numbers")) C tyX9 tyX9_ok nmX9 rfl in_X9 2 (by decide) t_85 rfl rfl rfl (by decide +kernel) rfl rfl (Nat.le_of_ble_eq_true rfl) rfl dX9_init_36 ?_
  refine zn_eq (ws' := ((E.2.1 s, (.inr (8, [.ref (E.2.1 (s + 1)), .ref (E.2.1 (s + 4)), .ref (E.2.1 (s + 6)), .null, .null, .null, .null, .int 0, .int 0, .int 0, .int 0]) : va_E)) :: sl E (s + 1) 7)) (nx' := (s + 8)) rfl rfl ?_
  refine zn_aload_n C dX9_init_39 0 rfl ?_
  refine zn_new (CC := RX4) (TT := TX4) (N := 2) (ci := 3) (fs := [.null, .int 0]) C tyX4 tyX4_ok rfl in_X4 t_60 t_61 t_4 (by decide +kernel) (Nat.le_of_ble_eq_true rfl) (Nat.le_of_ble_eq_true rfl) (by omega) dX9_init_40 ?_
  refine zn_dup C dX9_init_43 rfl ?_
  refine zn_iconst (v := 4) C dX9_init_44 (by decide) ?_
  refine zn_init (Y2 := YX4_init) (mc2 := 1) (ms2 := 4) (p := (s + 8)) (pre := ((E.2.1 s, (.inr (8, [.ref (E.2.1 (s + 1)), .ref (E.2.1 (s + 4)), .ref (E.2.1 (s + 6)), .null, .null, .null, .null, .int 0, .int 0, .int 0, .int 0]) : va_E)) :: sl E (s + 1) 7)) (As := [.int 4]) C lk_X4_init rfl rfl t_62 t_63 (by omega) (Nat.le_of_ble_eq_true rfl) (Nat.le_of_ble_eq_true rfl) (Nat.le_of_ble_eq_true rfl) (Nat.le_of_ble_eq_true rfl) dX9_init_45 (Nat.le_of_ble_eq_true rfl) rfl rfl (cn_X4 X.2.1 E hE (s + 8) 4 (hk 8 (by decide)) (hk 9 (by decide)) (by decide) (by decide)) ?_
  refine zn_eq (ws' := ((E.2.1 s, (.inr (8, [.ref (E.2.1 (s + 1)), .ref (E.2.1 (s + 4)), .ref (E.2.1 (s + 6)), .null, .null, .null, .null, .int 0, .int 0, .int 0, .int 0]) : va_E)) :: sl E (s + 1) 9)) (nx' := (s + 10)) (by rw [List.cons_append, sl_app E (s + 1) 7 2 (j := (s + 8)) rfl]) rfl ?_
  refine zn_putF (TT := TX9) (N := 11) (ci := 8) (ty := (.object "ToWhoNeeds$Numbers")) C tyX9 tyX9_ok nmX9 rfl in_X9 3 (by decide) t_89 rfl rfl rfl (by decide +kernel) rfl rfl (Nat.le_of_ble_eq_true rfl) rfl dX9_init_48 ?_
  refine zn_eq (ws' := ((E.2.1 s, (.inr (8, [.ref (E.2.1 (s + 1)), .ref (E.2.1 (s + 4)), .ref (E.2.1 (s + 6)), .ref (E.2.1 (s + 8)), .null, .null, .null, .int 0, .int 0, .int 0, .int 0]) : va_E)) :: sl E (s + 1) 9)) (nx' := (s + 10)) rfl rfl ?_
  refine zn_aload_n C dX9_init_51 0 rfl ?_
  refine zn_new (CC := RX4) (TT := TX4) (N := 2) (ci := 3) (fs := [.null, .int 0]) C tyX4 tyX4_ok rfl in_X4 t_60 t_61 t_4 (by decide +kernel) (Nat.le_of_ble_eq_true rfl) (Nat.le_of_ble_eq_true rfl) (by omega) dX9_init_52 ?_
  refine zn_dup C dX9_init_55 rfl ?_
  refine zn_iconst (v := 5) C dX9_init_56 (by decide) ?_
  refine zn_init (Y2 := YX4_init) (mc2 := 1) (ms2 := 5) (p := (s + 10)) (pre := ((E.2.1 s, (.inr (8, [.ref (E.2.1 (s + 1)), .ref (E.2.1 (s + 4)), .ref (E.2.1 (s + 6)), .ref (E.2.1 (s + 8)), .null, .null, .null, .int 0, .int 0, .int 0, .int 0]) : va_E)) :: sl E (s + 1) 9)) (As := [.int 5]) C lk_X4_init rfl rfl t_62 t_63 (by omega) (Nat.le_of_ble_eq_true rfl) (Nat.le_of_ble_eq_true rfl) (Nat.le_of_ble_eq_true rfl) (Nat.le_of_ble_eq_true rfl) dX9_init_57 (Nat.le_of_ble_eq_true rfl) rfl rfl (cn_X4 X.2.1 E hE (s + 10) 5 (hk 10 (by decide)) (hk 11 (by decide)) (by decide) (by decide)) ?_
  refine zn_eq (ws' := ((E.2.1 s, (.inr (8, [.ref (E.2.1 (s + 1)), .ref (E.2.1 (s + 4)), .ref (E.2.1 (s + 6)), .ref (E.2.1 (s + 8)), .null, .null, .null, .int 0, .int 0, .int 0, .int 0]) : va_E)) :: sl E (s + 1) 11)) (nx' := (s + 12)) (by rw [List.cons_append, sl_app E (s + 1) 9 2 (j := (s + 10)) rfl]) rfl ?_
  refine zn_putF (TT := TX9) (N := 11) (ci := 8) (ty := (.object "ToWhoNeeds$Numbers")) C tyX9 tyX9_ok nmX9 rfl in_X9 4 (by decide) t_93 rfl rfl rfl (by decide +kernel) rfl rfl (Nat.le_of_ble_eq_true rfl) rfl dX9_init_60 ?_
  refine zn_eq (ws' := ((E.2.1 s, (.inr (8, [.ref (E.2.1 (s + 1)), .ref (E.2.1 (s + 4)), .ref (E.2.1 (s + 6)), .ref (E.2.1 (s + 8)), .ref (E.2.1 (s + 10)), .null, .null, .int 0, .int 0, .int 0, .int 0]) : va_E)) :: sl E (s + 1) 11)) (nx' := (s + 12)) rfl rfl ?_
  refine zn_aload_n C dX9_init_63 0 rfl ?_
  refine zn_new (CC := RX4) (TT := TX4) (N := 2) (ci := 3) (fs := [.null, .int 0]) C tyX4 tyX4_ok rfl in_X4 t_60 t_61 t_4 (by decide +kernel) (Nat.le_of_ble_eq_true rfl) (Nat.le_of_ble_eq_true rfl) (by omega) dX9_init_64 ?_
  refine zn_dup C dX9_init_67 rfl ?_
  refine zn_bipush (v := 6) C dX9_init_68 (by decide) ?_
  refine zn_init (Y2 := YX4_init) (mc2 := 1) (ms2 := 6) (p := (s + 12)) (pre := ((E.2.1 s, (.inr (8, [.ref (E.2.1 (s + 1)), .ref (E.2.1 (s + 4)), .ref (E.2.1 (s + 6)), .ref (E.2.1 (s + 8)), .ref (E.2.1 (s + 10)), .null, .null, .int 0, .int 0, .int 0, .int 0]) : va_E)) :: sl E (s + 1) 11)) (As := [.int 6]) C lk_X4_init rfl rfl t_62 t_63 (by omega) (Nat.le_of_ble_eq_true rfl) (Nat.le_of_ble_eq_true rfl) (Nat.le_of_ble_eq_true rfl) (Nat.le_of_ble_eq_true rfl) dX9_init_70 (Nat.le_of_ble_eq_true rfl) rfl rfl (cn_X4 X.2.1 E hE (s + 12) 6 (hk 12 (by decide)) (hk 13 (by decide)) (by decide) (by decide)) ?_
  refine zn_eq (ws' := ((E.2.1 s, (.inr (8, [.ref (E.2.1 (s + 1)), .ref (E.2.1 (s + 4)), .ref (E.2.1 (s + 6)), .ref (E.2.1 (s + 8)), .ref (E.2.1 (s + 10)), .null, .null, .int 0, .int 0, .int 0, .int 0]) : va_E)) :: sl E (s + 1) 13)) (nx' := (s + 14)) (by rw [List.cons_append, sl_app E (s + 1) 11 2 (j := (s + 12)) rfl]) rfl ?_
  refine zn_putF (TT := TX9) (N := 11) (ci := 8) (ty := (.object "ToWhoNeeds$Numbers")) C tyX9 tyX9_ok nmX9 rfl in_X9 5 (by decide) t_95 rfl rfl rfl (by decide +kernel) rfl rfl (Nat.le_of_ble_eq_true rfl) rfl dX9_init_73 ?_
  refine zn_eq (ws' := ((E.2.1 s, (.inr (8, [.ref (E.2.1 (s + 1)), .ref (E.2.1 (s + 4)), .ref (E.2.1 (s + 6)), .ref (E.2.1 (s + 8)), .ref (E.2.1 (s + 10)), .ref (E.2.1 (s + 12)), .null, .int 0, .int 0, .int 0, .int 0]) : va_E)) :: sl E (s + 1) 13)) (nx' := (s + 14)) rfl rfl ?_
  refine zn_aload_n C dX9_init_76 0 rfl ?_
  refine zn_new (CC := RX4) (TT := TX4) (N := 2) (ci := 3) (fs := [.null, .int 0]) C tyX4 tyX4_ok rfl in_X4 t_60 t_61 t_4 (by decide +kernel) (Nat.le_of_ble_eq_true rfl) (Nat.le_of_ble_eq_true rfl) (by omega) dX9_init_77 ?_
  refine zn_dup C dX9_init_80 rfl ?_
  refine zn_bipush (v := 6) C dX9_init_81 (by decide) ?_
  refine zn_init (Y2 := YX4_init) (mc2 := 1) (ms2 := 6) (p := (s + 14)) (pre := ((E.2.1 s, (.inr (8, [.ref (E.2.1 (s + 1)), .ref (E.2.1 (s + 4)), .ref (E.2.1 (s + 6)), .ref (E.2.1 (s + 8)), .ref (E.2.1 (s + 10)), .ref (E.2.1 (s + 12)), .null, .int 0, .int 0, .int 0, .int 0]) : va_E)) :: sl E (s + 1) 13)) (As := [.int 6]) C lk_X4_init rfl rfl t_62 t_63 (by omega) (Nat.le_of_ble_eq_true rfl) (Nat.le_of_ble_eq_true rfl) (Nat.le_of_ble_eq_true rfl) (Nat.le_of_ble_eq_true rfl) dX9_init_83 (Nat.le_of_ble_eq_true rfl) rfl rfl (cn_X4 X.2.1 E hE (s + 14) 6 (hk 14 (by decide)) (hk 15 (by decide)) (by decide) (by decide)) ?_
  refine zn_eq (ws' := ((E.2.1 s, (.inr (8, [.ref (E.2.1 (s + 1)), .ref (E.2.1 (s + 4)), .ref (E.2.1 (s + 6)), .ref (E.2.1 (s + 8)), .ref (E.2.1 (s + 10)), .ref (E.2.1 (s + 12)), .null, .int 0, .int 0, .int 0, .int 0]) : va_E)) :: sl E (s + 1) 15)) (nx' := (s + 16)) (by rw [List.cons_append, sl_app E (s + 1) 13 2 (j := (s + 14)) rfl]) rfl ?_
  refine zn_putF (TT := TX9) (N := 11) (ci := 8) (ty := (.object "ToWhoNeeds$Numbers")) C tyX9 tyX9_ok nmX9 rfl in_X9 6 (by decide) t_98 rfl rfl rfl (by decide +kernel) rfl rfl (Nat.le_of_ble_eq_true rfl) rfl dX9_init_86 ?_
  refine zn_eq (ws' := ((E.2.1 s, (.inr (8, [.ref (E.2.1 (s + 1)), .ref (E.2.1 (s + 4)), .ref (E.2.1 (s + 6)), .ref (E.2.1 (s + 8)), .ref (E.2.1 (s + 10)), .ref (E.2.1 (s + 12)), .ref (E.2.1 (s + 14)), .int 0, .int 0, .int 0, .int 0]) : va_E)) :: sl E (s + 1) 15)) (nx' := (s + 16)) rfl rfl ?_
  refine zn_eq (ws' := sl E s 16) (nx' := (s + 16)) (sl_cons E s 15 (w0_st (hk 0 (by decide)))) rfl ?_
  exact zn_vret C dX9_init_89 rfl rfl rfl rfl
set_option maxHeartbeats 4000000 in
set_option maxRecDepth 20000 in
theorem cn_X7 (l : Launch) (E : Ev) (hE : Ad E) : Cn l E YX7_init 19 156 33 [.ref (E.2.1 33)] (.inr (6, [.null, .null, .null, .int 0])) (sl E 33 20, 53) := by
  refine cn_of hE (by decide +kernel) (Nat.le_of_ble_eq_true rfl) [(0, .ref (E.2.1 33))] rfl (fun X hX C => ?_)
  refine zn_eq (ws' := ((E.2.1 33, (.inr (6, [.null, .null, .null, .int 0]) : va_E)) :: sl E 34 0)) (nx' := 34) rfl rfl ?_
  refine zn_aload_n C dX7_init_0 0 rfl ?_
  refine zn_obj C t_138 t_27 t_28 dX7_init_1 (Nat.le_of_ble_eq_true rfl) (Nat.le_of_ble_eq_true rfl) ?_
  refine zn_aload_n C dX7_init_4 0 rfl ?_
  refine zn_new (CC := RX4) (TT := TX4) (N := 2) (ci := 3) (fs := [.null, .int 0]) C tyX4 tyX4_ok rfl in_X4 t_139 t_61 t_4 (by decide +kernel) (Nat.le_of_ble_eq_true rfl) (Nat.le_of_ble_eq_true rfl) (by omega) dX7_init_5 ?_
  refine zn_dup C dX7_init_8 rfl ?_
  refine zn_bipush (v := 64) C dX7_init_9 (by decide) ?_
  refine zn_init (Y2 := YX4_init) (mc2 := 1) (ms2 := 64) (p := 34) (pre := ((E.2.1 33, (.inr (6, [.null, .null, .null, .int 0]) : va_E)) :: sl E 34 0)) (As := [.int 64]) C lk_X4_init rfl rfl t_140 t_63 (by omega) (Nat.le_of_ble_eq_true rfl) (Nat.le_of_ble_eq_true rfl) (Nat.le_of_ble_eq_true rfl) (Nat.le_of_ble_eq_true rfl) dX7_init_11 (Nat.le_of_ble_eq_true rfl) rfl rfl (cn_X4 X.2.1 E hE 34 64 rfl rfl (by decide) (by decide)) ?_
  refine zn_eq (ws' := ((E.2.1 33, (.inr (6, [.null, .null, .null, .int 0]) : va_E)) :: sl E 34 2)) (nx' := 36) (by rw [List.cons_append, sl_app E 34 0 2 (j := 34) rfl]) rfl ?_
  refine zn_putF (TT := TX7) (N := 4) (ci := 6) (ty := (.object "ToWhoNeeds$Numbers")) C tyX7 tyX7_ok nmX7 rfl in_X7 0 (by decide) t_143 rfl rfl rfl (by decide +kernel) rfl rfl (Nat.le_of_ble_eq_true rfl) rfl dX7_init_14 ?_
  refine zn_eq (ws' := ((E.2.1 33, (.inr (6, [.ref (E.2.1 34), .null, .null, .int 0]) : va_E)) :: sl E 34 2)) (nx' := 36) rfl rfl ?_
  refine zn_aload_n C dX7_init_17 0 rfl ?_
  refine zn_new (CC := RX9) (TT := TX9) (N := 11) (ci := 8) (fs := [.null, .null, .null, .null, .null, .null, .null, .int 0, .int 0, .int 0, .int 0]) C tyX9 tyX9_ok rfl in_X9 t_141 t_30 t_2 (by decide +kernel) (Nat.le_of_ble_eq_true rfl) (Nat.le_of_ble_eq_true rfl) (by omega) dX7_init_18 ?_
  refine zn_dup C dX7_init_21 rfl ?_
  refine zn_initN (Y2 := YX9_init) (mc2 := 15) (ms2 := 74) (p := 36) (pre := ((E.2.1 33, (.inr (6, [.ref (E.2.1 34), .null, .null, .int 0]) : va_E)) :: sl E 34 2)) (As := []) C lk_X9_init rfl rfl n_142 t_32 (by omega) (Nat.le_of_ble_eq_true rfl) (Nat.le_of_ble_eq_true rfl) (Nat.le_of_ble_eq_true rfl) (Nat.le_of_ble_eq_true rfl) dX7_init_22 (Nat.le_of_ble_eq_true rfl) rfl rfl (cn_X9 X.2.1 E hE 36 (by decide)) ?_
  refine zn_eq (ws' := ((E.2.1 33, (.inr (6, [.ref (E.2.1 34), .null, .null, .int 0]) : va_E)) :: sl E 34 18)) (nx' := 52) (by rw [List.cons_append, sl_app E 34 2 16 (j := 36) rfl]) rfl ?_
  refine zn_putF (TT := TX7) (N := 4) (ci := 6) (ty := (.object "ToWhoNeeds$State")) C tyX7 tyX7_ok nmX7 rfl in_X7 1 (by decide) t_145 rfl rfl rfl (by decide +kernel) rfl rfl (Nat.le_of_ble_eq_true rfl) rfl dX7_init_25 ?_
  refine zn_eq (ws' := ((E.2.1 33, (.inr (6, [.ref (E.2.1 34), .ref (E.2.1 36), .null, .int 0]) : va_E)) :: sl E 34 18)) (nx' := 52) rfl rfl ?_
  refine zn_aload_n C dX7_init_28 0 rfl ?_
  refine zn_iconst (v := 5) C dX7_init_29 (by decide) ?_
  refine zn_newa (N := 5) C t_59 (by decide) (by decide) (by decide) (Nat.le_of_ble_eq_true rfl) (Nat.le_of_ble_eq_true rfl) (by omega) dX7_init_30 ?_
  refine zn_eq (ws' := ((E.2.1 33, (.inr (6, [.ref (E.2.1 34), .ref (E.2.1 36), .null, .int 0]) : va_E)) :: sl E 34 19)) (nx' := 53) (by rw [List.cons_append, sl_snoc E 34 18 (j := 52) rfl (wc_a0 rfl)]) rfl ?_
  refine zn_putF (TT := TX7) (N := 4) (ci := 6) (ty := (.array .int)) C tyX7 tyX7_ok nmX7 rfl in_X7 2 (by decide) t_146 rfl rfl rfl (by decide +kernel) rfl rfl (Nat.le_of_ble_eq_true rfl) rfl dX7_init_32 ?_
  refine zn_eq (ws' := ((E.2.1 33, (.inr (6, [.ref (E.2.1 34), .ref (E.2.1 36), .ref (E.2.1 52), .int 0]) : va_E)) :: sl E 34 19)) (nx' := 53) rfl rfl ?_
  refine zn_eq (ws' := sl E 33 20) (nx' := 53) (sl_cons E 33 19 rfl) rfl ?_
  exact zn_vret C dX7_init_35 rfl rfl rfl rfl
set_option maxHeartbeats 4000000 in
set_option maxRecDepth 20000 in
theorem cn_X2 (l : Launch) (E : Ev) (hE : Ad E) : Cn l E YX2_init 10 80 53 [.ref (E.2.1 53)] (.inr (1, [.null, .null, .null, .null, .int 0])) (sl E 53 11, 64) := by
  refine cn_of hE (by decide +kernel) (Nat.le_of_ble_eq_true rfl) [(0, .ref (E.2.1 53))] rfl (fun X hX C => ?_)
  refine zn_eq (ws' := ((E.2.1 53, (.inr (1, [.null, .null, .null, .null, .int 0]) : va_E)) :: sl E 54 0)) (nx' := 54) rfl rfl ?_
  refine zn_aload_n C dX2_init_0 0 rfl ?_
  refine zn_obj C t_162 t_27 t_28 dX2_init_1 (Nat.le_of_ble_eq_true rfl) (Nat.le_of_ble_eq_true rfl) ?_
  refine zn_aload_n C dX2_init_4 0 rfl ?_
  refine zn_new (CC := RX5) (TT := TX5) (N := 3) (ci := 4) (fs := [.null, .null, .int 0]) C tyX5 tyX5_ok rfl in_X5 t_163 t_36 t_3 (by decide +kernel) (Nat.le_of_ble_eq_true rfl) (Nat.le_of_ble_eq_true rfl) (by omega) dX2_init_5 ?_
  refine zn_dup C dX2_init_8 rfl ?_
  refine zn_initN (Y2 := YX5_init) (mc2 := 2) (ms2 := 30) (p := 54) (pre := ((E.2.1 53, (.inr (1, [.null, .null, .null, .null, .int 0]) : va_E)) :: sl E 54 0)) (As := []) C lk_X5_init rfl rfl n_164 t_38 (by omega) (Nat.le_of_ble_eq_true rfl) (Nat.le_of_ble_eq_true rfl) (Nat.le_of_ble_eq_true rfl) (Nat.le_of_ble_eq_true rfl) dX2_init_9 (Nat.le_of_ble_eq_true rfl) rfl rfl (cn_X5 X.2.1 E hE 54 rfl rfl rfl) ?_
  refine zn_eq (ws' := ((E.2.1 53, (.inr (1, [.null, .null, .null, .null, .int 0]) : va_E)) :: sl E 54 3)) (nx' := 57) (by rw [List.cons_append, sl_app E 54 0 3 (j := 54) rfl]) rfl ?_
  refine zn_putF (TT := TX2) (N := 5) (ci := 1) (ty := (.object "ToWhoNeeds$People")) C tyX2 tyX2_ok nmX2 rfl in_X2 0 (by decide) t_167 rfl rfl rfl (by decide +kernel) rfl rfl (Nat.le_of_ble_eq_true rfl) rfl dX2_init_12 ?_
  refine zn_eq (ws' := ((E.2.1 53, (.inr (1, [.ref (E.2.1 54), .null, .null, .null, .int 0]) : va_E)) :: sl E 54 3)) (nx' := 57) rfl rfl ?_
  refine zn_aload_n C dX2_init_15 0 rfl ?_
  refine zn_new (CC := RX5) (TT := TX5) (N := 3) (ci := 4) (fs := [.null, .null, .int 0]) C tyX5 tyX5_ok rfl in_X5 t_163 t_36 t_3 (by decide +kernel) (Nat.le_of_ble_eq_true rfl) (Nat.le_of_ble_eq_true rfl) (by omega) dX2_init_16 ?_
  refine zn_dup C dX2_init_19 rfl ?_
  refine zn_initN (Y2 := YX5_init) (mc2 := 2) (ms2 := 30) (p := 57) (pre := ((E.2.1 53, (.inr (1, [.ref (E.2.1 54), .null, .null, .null, .int 0]) : va_E)) :: sl E 54 3)) (As := []) C lk_X5_init rfl rfl n_164 t_38 (by omega) (Nat.le_of_ble_eq_true rfl) (Nat.le_of_ble_eq_true rfl) (Nat.le_of_ble_eq_true rfl) (Nat.le_of_ble_eq_true rfl) dX2_init_20 (Nat.le_of_ble_eq_true rfl) rfl rfl (cn_X5 X.2.1 E hE 57 rfl rfl rfl) ?_
  refine zn_eq (ws' := ((E.2.1 53, (.inr (1, [.ref (E.2.1 54), .null, .null, .null, .int 0]) : va_E)) :: sl E 54 6)) (nx' := 60) (by rw [List.cons_append, sl_app E 54 3 3 (j := 57) rfl]) rfl ?_
  refine zn_putF (TT := TX2) (N := 5) (ci := 1) (ty := (.object "ToWhoNeeds$People")) C tyX2 tyX2_ok nmX2 rfl in_X2 1 (by decide) t_168 rfl rfl rfl (by decide +kernel) rfl rfl (Nat.le_of_ble_eq_true rfl) rfl dX2_init_23 ?_
  refine zn_eq (ws' := ((E.2.1 53, (.inr (1, [.ref (E.2.1 54), .ref (E.2.1 57), .null, .null, .int 0]) : va_E)) :: sl E 54 6)) (nx' := 60) rfl rfl ?_
  refine zn_aload_n C dX2_init_26 0 rfl ?_
  refine zn_new (CC := RX4) (TT := TX4) (N := 2) (ci := 3) (fs := [.null, .int 0]) C tyX4 tyX4_ok rfl in_X4 t_165 t_61 t_4 (by decide +kernel) (Nat.le_of_ble_eq_true rfl) (Nat.le_of_ble_eq_true rfl) (by omega) dX2_init_27 ?_
  refine zn_dup C dX2_init_30 rfl ?_
  refine zn_iconst (v := 5) C dX2_init_31 (by decide) ?_
  refine zn_init (Y2 := YX4_init) (mc2 := 1) (ms2 := 5) (p := 60) (pre := ((E.2.1 53, (.inr (1, [.ref (E.2.1 54), .ref (E.2.1 57), .null, .null, .int 0]) : va_E)) :: sl E 54 6)) (As := [.int 5]) C lk_X4_init rfl rfl t_166 t_63 (by omega) (Nat.le_of_ble_eq_true rfl) (Nat.le_of_ble_eq_true rfl) (Nat.le_of_ble_eq_true rfl) (Nat.le_of_ble_eq_true rfl) dX2_init_32 (Nat.le_of_ble_eq_true rfl) rfl rfl (cn_X4 X.2.1 E hE 60 5 rfl rfl (by decide) (by decide)) ?_
  refine zn_eq (ws' := ((E.2.1 53, (.inr (1, [.ref (E.2.1 54), .ref (E.2.1 57), .null, .null, .int 0]) : va_E)) :: sl E 54 8)) (nx' := 62) (by rw [List.cons_append, sl_app E 54 6 2 (j := 60) rfl]) rfl ?_
  refine zn_putF (TT := TX2) (N := 5) (ci := 1) (ty := (.object "ToWhoNeeds$Numbers")) C tyX2 tyX2_ok nmX2 rfl in_X2 2 (by decide) t_169 rfl rfl rfl (by decide +kernel) rfl rfl (Nat.le_of_ble_eq_true rfl) rfl dX2_init_35 ?_
  refine zn_eq (ws' := ((E.2.1 53, (.inr (1, [.ref (E.2.1 54), .ref (E.2.1 57), .ref (E.2.1 60), .null, .int 0]) : va_E)) :: sl E 54 8)) (nx' := 62) rfl rfl ?_
  refine zn_aload_n C dX2_init_38 0 rfl ?_
  refine zn_new (CC := RX4) (TT := TX4) (N := 2) (ci := 3) (fs := [.null, .int 0]) C tyX4 tyX4_ok rfl in_X4 t_165 t_61 t_4 (by decide +kernel) (Nat.le_of_ble_eq_true rfl) (Nat.le_of_ble_eq_true rfl) (by omega) dX2_init_39 ?_
  refine zn_dup C dX2_init_42 rfl ?_
  refine zn_iconst (v := 5) C dX2_init_43 (by decide) ?_
  refine zn_init (Y2 := YX4_init) (mc2 := 1) (ms2 := 5) (p := 62) (pre := ((E.2.1 53, (.inr (1, [.ref (E.2.1 54), .ref (E.2.1 57), .ref (E.2.1 60), .null, .int 0]) : va_E)) :: sl E 54 8)) (As := [.int 5]) C lk_X4_init rfl rfl t_166 t_63 (by omega) (Nat.le_of_ble_eq_true rfl) (Nat.le_of_ble_eq_true rfl) (Nat.le_of_ble_eq_true rfl) (Nat.le_of_ble_eq_true rfl) dX2_init_44 (Nat.le_of_ble_eq_true rfl) rfl rfl (cn_X4 X.2.1 E hE 62 5 rfl rfl (by decide) (by decide)) ?_
  refine zn_eq (ws' := ((E.2.1 53, (.inr (1, [.ref (E.2.1 54), .ref (E.2.1 57), .ref (E.2.1 60), .null, .int 0]) : va_E)) :: sl E 54 10)) (nx' := 64) (by rw [List.cons_append, sl_app E 54 8 2 (j := 62) rfl]) rfl ?_
  refine zn_putF (TT := TX2) (N := 5) (ci := 1) (ty := (.object "ToWhoNeeds$Numbers")) C tyX2 tyX2_ok nmX2 rfl in_X2 3 (by decide) t_170 rfl rfl rfl (by decide +kernel) rfl rfl (Nat.le_of_ble_eq_true rfl) rfl dX2_init_47 ?_
  refine zn_eq (ws' := ((E.2.1 53, (.inr (1, [.ref (E.2.1 54), .ref (E.2.1 57), .ref (E.2.1 60), .ref (E.2.1 62), .int 0]) : va_E)) :: sl E 54 10)) (nx' := 64) rfl rfl ?_
  refine zn_eq (ws' := sl E 53 11) (nx' := 64) (sl_cons E 53 10 rfl) rfl ?_
  exact zn_vret C dX2_init_50 rfl rfl rfl rfl
set_option maxHeartbeats 4000000 in
set_option maxRecDepth 20000 in
theorem cn_X11 (l : Launch) (E : Ev) (hE : Ad E) : Cn l E YX11_init 72 442 0 [.ref (E.2.1 0)] (.inr (10, [.null, .null, .null, .null, .null, .null, .null, .int 0])) (sl E 0 73, 73) := by
  refine cn_of hE (by decide +kernel) (Nat.le_of_ble_eq_true rfl) [(0, .ref (E.2.1 0))] rfl (fun X hX C => ?_)
  refine zn_eq (ws' := ((E.2.1 0, (.inr (10, [.null, .null, .null, .null, .null, .null, .null, .int 0]) : va_E)) :: sl E 1 0)) (nx' := 1) rfl rfl ?_
  refine zn_aload_n C dX11_init_0 0 rfl ?_
  refine zn_obj C t_26 t_27 t_28 dX11_init_1 (Nat.le_of_ble_eq_true rfl) (Nat.le_of_ble_eq_true rfl) ?_
  refine zn_aload_n C dX11_init_4 0 rfl ?_
  refine zn_new (CC := RX9) (TT := TX9) (N := 11) (ci := 8) (fs := [.null, .null, .null, .null, .null, .null, .null, .int 0, .int 0, .int 0, .int 0]) C tyX9 tyX9_ok rfl in_X9 t_29 t_30 t_2 (by decide +kernel) (Nat.le_of_ble_eq_true rfl) (Nat.le_of_ble_eq_true rfl) (by omega) dX11_init_5 ?_
  refine zn_dup C dX11_init_8 rfl ?_
  refine zn_initN (Y2 := YX9_init) (mc2 := 15) (ms2 := 74) (p := 1) (pre := ((E.2.1 0, (.inr (10, [.null, .null, .null, .null, .null, .null, .null, .int 0]) : va_E)) :: sl E 1 0)) (As := []) C lk_X9_init rfl rfl n_31 t_32 (by omega) (Nat.le_of_ble_eq_true rfl) (Nat.le_of_ble_eq_true rfl) (Nat.le_of_ble_eq_true rfl) (Nat.le_of_ble_eq_true rfl) dX11_init_9 (Nat.le_of_ble_eq_true rfl) rfl rfl (cn_X9 X.2.1 E hE 1 (by decide)) ?_
  refine zn_eq (ws' := ((E.2.1 0, (.inr (10, [.null, .null, .null, .null, .null, .null, .null, .int 0]) : va_E)) :: sl E 1 16)) (nx' := 17) (by rw [List.cons_append, sl_app E 1 0 16 (j := 1) rfl]) rfl ?_
  refine zn_putF (TT := TX11) (N := 8) (ci := 10) (ty := (.object "ToWhoNeeds$State")) C tyX11 tyX11_ok nmX11 rfl in_X11 0 (by decide) t_233 rfl rfl rfl (by decide +kernel) rfl rfl (Nat.le_of_ble_eq_true rfl) rfl dX11_init_12 ?_
  refine zn_eq (ws' := ((E.2.1 0, (.inr (10, [.ref (E.2.1 1), .null, .null, .null, .null, .null, .null, .int 0]) : va_E)) :: sl E 1 16)) (nx' := 17) rfl rfl ?_
  refine zn_aload_n C dX11_init_15 0 rfl ?_
  refine zn_new (CC := RX9) (TT := TX9) (N := 11) (ci := 8) (fs := [.null, .null, .null, .null, .null, .null, .null, .int 0, .int 0, .int 0, .int 0]) C tyX9 tyX9_ok rfl in_X9 t_29 t_30 t_2 (by decide +kernel) (Nat.le_of_ble_eq_true rfl) (Nat.le_of_ble_eq_true rfl) (by omega) dX11_init_16 ?_
  refine zn_dup C dX11_init_19 rfl ?_
  refine zn_initN (Y2 := YX9_init) (mc2 := 15) (ms2 := 74) (p := 17) (pre := ((E.2.1 0, (.inr (10, [.ref (E.2.1 1), .null, .null, .null, .null, .null, .null, .int 0]) : va_E)) :: sl E 1 16)) (As := []) C lk_X9_init rfl rfl n_31 t_32 (by omega) (Nat.le_of_ble_eq_true rfl) (Nat.le_of_ble_eq_true rfl) (Nat.le_of_ble_eq_true rfl) (Nat.le_of_ble_eq_true rfl) dX11_init_20 (Nat.le_of_ble_eq_true rfl) rfl rfl (cn_X9 X.2.1 E hE 17 (by decide)) ?_
  refine zn_eq (ws' := ((E.2.1 0, (.inr (10, [.ref (E.2.1 1), .null, .null, .null, .null, .null, .null, .int 0]) : va_E)) :: sl E 1 32)) (nx' := 33) (by rw [List.cons_append, sl_app E 1 16 16 (j := 17) rfl]) rfl ?_
  refine zn_putF (TT := TX11) (N := 8) (ci := 10) (ty := (.object "ToWhoNeeds$State")) C tyX11 tyX11_ok nmX11 rfl in_X11 1 (by decide) t_234 rfl rfl rfl (by decide +kernel) rfl rfl (Nat.le_of_ble_eq_true rfl) rfl dX11_init_23 ?_
  refine zn_eq (ws' := ((E.2.1 0, (.inr (10, [.ref (E.2.1 1), .ref (E.2.1 17), .null, .null, .null, .null, .null, .int 0]) : va_E)) :: sl E 1 32)) (nx' := 33) rfl rfl ?_
  refine zn_aload_n C dX11_init_26 0 rfl ?_
  refine zn_new (CC := RX7) (TT := TX7) (N := 4) (ci := 6) (fs := [.null, .null, .null, .int 0]) C tyX7 tyX7_ok rfl in_X7 t_133 t_134 t_5 (by decide +kernel) (Nat.le_of_ble_eq_true rfl) (Nat.le_of_ble_eq_true rfl) (by omega) dX11_init_27 ?_
  refine zn_dup C dX11_init_30 rfl ?_
  refine zn_initN (Y2 := YX7_init) (mc2 := 19) (ms2 := 156) (p := 33) (pre := ((E.2.1 0, (.inr (10, [.ref (E.2.1 1), .ref (E.2.1 17), .null, .null, .null, .null, .null, .int 0]) : va_E)) :: sl E 1 32)) (As := []) C lk_X7_init rfl rfl n_135 t_136 (by omega) (Nat.le_of_ble_eq_true rfl) (Nat.le_of_ble_eq_true rfl) (Nat.le_of_ble_eq_true rfl) (Nat.le_of_ble_eq_true rfl) dX11_init_31 (Nat.le_of_ble_eq_true rfl) rfl rfl (cn_X7 X.2.1 E hE) ?_
  refine zn_eq (ws' := ((E.2.1 0, (.inr (10, [.ref (E.2.1 1), .ref (E.2.1 17), .null, .null, .null, .null, .null, .int 0]) : va_E)) :: sl E 1 52)) (nx' := 53) (by rw [List.cons_append, sl_app E 1 32 20 (j := 33) rfl]) rfl ?_
  refine zn_putF (TT := TX11) (N := 8) (ci := 10) (ty := (.object "ToWhoNeeds$Reader")) C tyX11 tyX11_ok nmX11 rfl in_X11 2 (by decide) t_235 rfl rfl rfl (by decide +kernel) rfl rfl (Nat.le_of_ble_eq_true rfl) rfl dX11_init_34 ?_
  refine zn_eq (ws' := ((E.2.1 0, (.inr (10, [.ref (E.2.1 1), .ref (E.2.1 17), .ref (E.2.1 33), .null, .null, .null, .null, .int 0]) : va_E)) :: sl E 1 52)) (nx' := 53) rfl rfl ?_
  refine zn_aload_n C dX11_init_37 0 rfl ?_
  refine zn_new (CC := RX2) (TT := TX2) (N := 5) (ci := 1) (fs := [.null, .null, .null, .null, .int 0]) C tyX2 tyX2_ok rfl in_X2 t_157 t_158 t_6 (by decide +kernel) (Nat.le_of_ble_eq_true rfl) (Nat.le_of_ble_eq_true rfl) (by omega) dX11_init_38 ?_
  refine zn_dup C dX11_init_41 rfl ?_
  refine zn_initN (Y2 := YX2_init) (mc2 := 10) (ms2 := 80) (p := 53) (pre := ((E.2.1 0, (.inr (10, [.ref (E.2.1 1), .ref (E.2.1 17), .ref (E.2.1 33), .null, .null, .null, .null, .int 0]) : va_E)) :: sl E 1 52)) (As := []) C lk_X2_init rfl rfl n_159 t_160 (by omega) (Nat.le_of_ble_eq_true rfl) (Nat.le_of_ble_eq_true rfl) (Nat.le_of_ble_eq_true rfl) (Nat.le_of_ble_eq_true rfl) dX11_init_42 (Nat.le_of_ble_eq_true rfl) rfl rfl (cn_X2 X.2.1 E hE) ?_
  refine zn_eq (ws' := ((E.2.1 0, (.inr (10, [.ref (E.2.1 1), .ref (E.2.1 17), .ref (E.2.1 33), .null, .null, .null, .null, .int 0]) : va_E)) :: sl E 1 63)) (nx' := 64) (by rw [List.cons_append, sl_app E 1 52 11 (j := 53) rfl]) rfl ?_
  refine zn_putF (TT := TX11) (N := 8) (ci := 10) (ty := (.object "ToWhoNeeds$Mind")) C tyX11 tyX11_ok nmX11 rfl in_X11 3 (by decide) t_236 rfl rfl rfl (by decide +kernel) rfl rfl (Nat.le_of_ble_eq_true rfl) rfl dX11_init_45 ?_
  refine zn_eq (ws' := ((E.2.1 0, (.inr (10, [.ref (E.2.1 1), .ref (E.2.1 17), .ref (E.2.1 33), .ref (E.2.1 53), .null, .null, .null, .int 0]) : va_E)) :: sl E 1 63)) (nx' := 64) rfl rfl ?_
  refine zn_aload_n C dX11_init_48 0 rfl ?_
  refine zn_iconst (v := 5) C dX11_init_49 (by decide) ?_
  refine zn_newq C t_184 (Nat.le_of_ble_eq_true rfl) (Nat.le_of_ble_eq_true rfl) (by omega) dX11_init_50 ?_
  refine zn_eq (ws' := (((E.2.1 0, (.inr (10, [.ref (E.2.1 1), .ref (E.2.1 17), .ref (E.2.1 33), .ref (E.2.1 53), .null, .null, .null, .int 0]) : va_E)) :: sl E 1 63) ++ [(E.2.1 64, (.inl (E.2.2 1, 5, .inr (.inr (.inr (.inr (fun _ => none))))) : va_E))])) (nx' := 65) rfl rfl ?_
  refine zn_dup C dX11_init_53 rfl ?_
  refine zn_iconst (v := 0) C dX11_init_54 (by decide) ?_
  refine zn_new (CC := RX10) (TT := TX10) (N := 1) (ci := 9) (fs := [.int 0]) C tyX10 tyX10_ok rfl in_X10 t_186 t_187 t_8 (by decide +kernel) (Nat.le_of_ble_eq_true rfl) (Nat.le_of_ble_eq_true rfl) (by omega) dX11_init_55 ?_
  refine zn_dup C dX11_init_58 rfl ?_
  refine zn_iconst (v := 0) C dX11_init_59 (by decide) ?_
  refine zn_init (Y2 := YX10_init) (mc2 := 0) (ms2 := 0) (p := 65) (pre := (((E.2.1 0, (.inr (10, [.ref (E.2.1 1), .ref (E.2.1 17), .ref (E.2.1 33), .ref (E.2.1 53), .null, .null, .null, .int 0]) : va_E)) :: sl E 1 63) ++ [(E.2.1 64, (.inl (E.2.2 1, 5, .inr (.inr (.inr (.inr (fun _ => none))))) : va_E))])) (As := [.int 0]) C lk_X10_init rfl rfl t_188 t_189 (by omega) (Nat.le_of_ble_eq_true rfl) (Nat.le_of_ble_eq_true rfl) (Nat.le_of_ble_eq_true rfl) (Nat.le_of_ble_eq_true rfl) dX11_init_60 (Nat.le_of_ble_eq_true rfl) rfl rfl (cn_X10_X10 X.2.1 E hE 65 0) ?_
  refine zn_eq (ws' := (((E.2.1 0, (.inr (10, [.ref (E.2.1 1), .ref (E.2.1 17), .ref (E.2.1 33), .ref (E.2.1 53), .null, .null, .null, .int 0]) : va_E)) :: sl E 1 63) ++ [(E.2.1 64, (.inl (E.2.2 1, 5, .inr (.inr (.inr (.inr (fun _ => none))))) : va_E)), (E.2.1 65, (.inr (9, [.int 0]) : va_E))])) (nx' := 66) (by simp only [List.append_assoc, List.cons_append, List.nil_append]) rfl ?_
  refine zn_astq (q0 := 64 + 0) (qk := 64 + 1) (ci := 9) (r := (RX10, TX10, 1)) (ws' := (((E.2.1 0, (.inr (10, [.ref (E.2.1 1), .ref (E.2.1 17), .ref (E.2.1 33), .ref (E.2.1 53), .null, .null, .null, .int 0]) : va_E)) :: sl E 1 63) ++ [(E.2.1 64, (.inl (E.2.2 1, 5, .inr (.inr (.inr (.inr (va_up (fun _ => none) (Int32.toNatClampNeg 0) (some (E.2.1 65))))))) : va_E)), (E.2.1 65, (.inr (9, [.int 0]) : va_E))])) C (at_pre (by simp only [List.length_cons, sl_len])) (by decide +kernel) (at_pre (by simp only [List.length_cons, sl_len])) rfl (by unfold vp_in; decide) (set_pre (by simp only [List.length_cons, sl_len])) rfl dX11_init_63 ?_
  refine zn_dup C dX11_init_64 rfl ?_
  refine zn_iconst (v := 1) C dX11_init_65 (by decide) ?_
  refine zn_new (CC := RX1) (TT := TX1) (N := 1) (ci := 0) (fs := [.int 0]) C tyX1 tyX1_ok rfl in_X1 t_199 t_200 t_9 (by decide +kernel) (Nat.le_of_ble_eq_true rfl) (Nat.le_of_ble_eq_true rfl) (by omega) dX11_init_66 ?_
  refine zn_dup C dX11_init_69 rfl ?_
  refine zn_init (Y2 := YX1_init) (mc2 := 0) (ms2 := 0) (p := 66) (pre := (((E.2.1 0, (.inr (10, [.ref (E.2.1 1), .ref (E.2.1 17), .ref (E.2.1 33), .ref (E.2.1 53), .null, .null, .null, .int 0]) : va_E)) :: sl E 1 63) ++ [(E.2.1 64, (.inl (E.2.2 1, 5, .inr (.inr (.inr (.inr (va_up (fun _ => none) (Int32.toNatClampNeg 0) (some (E.2.1 65))))))) : va_E)), (E.2.1 65, (.inr (9, [.int 0]) : va_E))])) (As := []) C lk_X1_init rfl rfl t_201 t_202 (by omega) (Nat.le_of_ble_eq_true rfl) (Nat.le_of_ble_eq_true rfl) (Nat.le_of_ble_eq_true rfl) (Nat.le_of_ble_eq_true rfl) dX11_init_70 (Nat.le_of_ble_eq_true rfl) rfl rfl (cn_X1_X1 X.2.1 E hE 66) ?_
  refine zn_eq (ws' := (((E.2.1 0, (.inr (10, [.ref (E.2.1 1), .ref (E.2.1 17), .ref (E.2.1 33), .ref (E.2.1 53), .null, .null, .null, .int 0]) : va_E)) :: sl E 1 63) ++ [(E.2.1 64, (.inl (E.2.2 1, 5, .inr (.inr (.inr (.inr (va_up (fun _ => none) (Int32.toNatClampNeg 0) (some (E.2.1 65))))))) : va_E)), (E.2.1 65, (.inr (9, [.int 0]) : va_E)), (E.2.1 66, (.inr (0, [.int 0]) : va_E))])) (nx' := 67) (by simp only [List.append_assoc, List.cons_append, List.nil_append]) rfl ?_
  refine zn_astq (q0 := 64 + 0) (qk := 64 + 2) (ci := 0) (r := (RX1, TX1, 1)) (ws' := (((E.2.1 0, (.inr (10, [.ref (E.2.1 1), .ref (E.2.1 17), .ref (E.2.1 33), .ref (E.2.1 53), .null, .null, .null, .int 0]) : va_E)) :: sl E 1 63) ++ [(E.2.1 64, (.inl (E.2.2 1, 5, .inr (.inr (.inr (.inr (va_up (va_up (fun _ => none) (Int32.toNatClampNeg 0) (some (E.2.1 65))) (Int32.toNatClampNeg 1) (some (E.2.1 66))))))) : va_E)), (E.2.1 65, (.inr (9, [.int 0]) : va_E)), (E.2.1 66, (.inr (0, [.int 0]) : va_E))])) C (at_pre (by simp only [List.length_cons, sl_len])) (by decide +kernel) (at_pre (by simp only [List.length_cons, sl_len])) rfl (by unfold vp_in; decide) (set_pre (by simp only [List.length_cons, sl_len])) rfl dX11_init_73 ?_
  refine zn_dup C dX11_init_74 rfl ?_
  refine zn_iconst (v := 2) C dX11_init_75 (by decide) ?_
  refine zn_new (CC := RX3) (TT := TX3) (N := 1) (ci := 2) (fs := [.int 0]) C tyX3 tyX3_ok rfl in_X3 t_207 t_208 t_10 (by decide +kernel) (Nat.le_of_ble_eq_true rfl) (Nat.le_of_ble_eq_true rfl) (by omega) dX11_init_76 ?_
  refine zn_dup C dX11_init_79 rfl ?_
  refine zn_init (Y2 := YX3_init) (mc2 := 0) (ms2 := 0) (p := 67) (pre := (((E.2.1 0, (.inr (10, [.ref (E.2.1 1), .ref (E.2.1 17), .ref (E.2.1 33), .ref (E.2.1 53), .null, .null, .null, .int 0]) : va_E)) :: sl E 1 63) ++ [(E.2.1 64, (.inl (E.2.2 1, 5, .inr (.inr (.inr (.inr (va_up (va_up (fun _ => none) (Int32.toNatClampNeg 0) (some (E.2.1 65))) (Int32.toNatClampNeg 1) (some (E.2.1 66))))))) : va_E)), (E.2.1 65, (.inr (9, [.int 0]) : va_E)), (E.2.1 66, (.inr (0, [.int 0]) : va_E))])) (As := []) C lk_X3_init rfl rfl t_209 t_210 (by omega) (Nat.le_of_ble_eq_true rfl) (Nat.le_of_ble_eq_true rfl) (Nat.le_of_ble_eq_true rfl) (Nat.le_of_ble_eq_true rfl) dX11_init_80 (Nat.le_of_ble_eq_true rfl) rfl rfl (cn_X3_X3 X.2.1 E hE 67) ?_
  refine zn_eq (ws' := (((E.2.1 0, (.inr (10, [.ref (E.2.1 1), .ref (E.2.1 17), .ref (E.2.1 33), .ref (E.2.1 53), .null, .null, .null, .int 0]) : va_E)) :: sl E 1 63) ++ [(E.2.1 64, (.inl (E.2.2 1, 5, .inr (.inr (.inr (.inr (va_up (va_up (fun _ => none) (Int32.toNatClampNeg 0) (some (E.2.1 65))) (Int32.toNatClampNeg 1) (some (E.2.1 66))))))) : va_E)), (E.2.1 65, (.inr (9, [.int 0]) : va_E)), (E.2.1 66, (.inr (0, [.int 0]) : va_E)), (E.2.1 67, (.inr (2, [.int 0]) : va_E))])) (nx' := 68) (by simp only [List.append_assoc, List.cons_append, List.nil_append]) rfl ?_
  refine zn_astq (q0 := 64 + 0) (qk := 64 + 3) (ci := 2) (r := (RX3, TX3, 1)) (ws' := (((E.2.1 0, (.inr (10, [.ref (E.2.1 1), .ref (E.2.1 17), .ref (E.2.1 33), .ref (E.2.1 53), .null, .null, .null, .int 0]) : va_E)) :: sl E 1 63) ++ [(E.2.1 64, (.inl (E.2.2 1, 5, .inr (.inr (.inr (.inr (va_up (va_up (va_up (fun _ => none) (Int32.toNatClampNeg 0) (some (E.2.1 65))) (Int32.toNatClampNeg 1) (some (E.2.1 66))) (Int32.toNatClampNeg 2) (some (E.2.1 67))))))) : va_E)), (E.2.1 65, (.inr (9, [.int 0]) : va_E)), (E.2.1 66, (.inr (0, [.int 0]) : va_E)), (E.2.1 67, (.inr (2, [.int 0]) : va_E))])) C (at_pre (by simp only [List.length_cons, sl_len])) (by decide +kernel) (at_pre (by simp only [List.length_cons, sl_len])) rfl (by unfold vp_in; decide) (set_pre (by simp only [List.length_cons, sl_len])) rfl dX11_init_83 ?_
  refine zn_dup C dX11_init_84 rfl ?_
  refine zn_iconst (v := 3) C dX11_init_85 (by decide) ?_
  refine zn_new (CC := RX8) (TT := TX8) (N := 1) (ci := 7) (fs := [.int 0]) C tyX8 tyX8_ok rfl in_X8 t_215 t_216 t_11 (by decide +kernel) (Nat.le_of_ble_eq_true rfl) (Nat.le_of_ble_eq_true rfl) (by omega) dX11_init_86 ?_
  refine zn_dup C dX11_init_89 rfl ?_
  refine zn_init (Y2 := YX8_init) (mc2 := 0) (ms2 := 0) (p := 68) (pre := (((E.2.1 0, (.inr (10, [.ref (E.2.1 1), .ref (E.2.1 17), .ref (E.2.1 33), .ref (E.2.1 53), .null, .null, .null, .int 0]) : va_E)) :: sl E 1 63) ++ [(E.2.1 64, (.inl (E.2.2 1, 5, .inr (.inr (.inr (.inr (va_up (va_up (va_up (fun _ => none) (Int32.toNatClampNeg 0) (some (E.2.1 65))) (Int32.toNatClampNeg 1) (some (E.2.1 66))) (Int32.toNatClampNeg 2) (some (E.2.1 67))))))) : va_E)), (E.2.1 65, (.inr (9, [.int 0]) : va_E)), (E.2.1 66, (.inr (0, [.int 0]) : va_E)), (E.2.1 67, (.inr (2, [.int 0]) : va_E))])) (As := []) C lk_X8_init rfl rfl t_217 t_218 (by omega) (Nat.le_of_ble_eq_true rfl) (Nat.le_of_ble_eq_true rfl) (Nat.le_of_ble_eq_true rfl) (Nat.le_of_ble_eq_true rfl) dX11_init_90 (Nat.le_of_ble_eq_true rfl) rfl rfl (cn_X8_X8 X.2.1 E hE 68) ?_
  refine zn_eq (ws' := (((E.2.1 0, (.inr (10, [.ref (E.2.1 1), .ref (E.2.1 17), .ref (E.2.1 33), .ref (E.2.1 53), .null, .null, .null, .int 0]) : va_E)) :: sl E 1 63) ++ [(E.2.1 64, (.inl (E.2.2 1, 5, .inr (.inr (.inr (.inr (va_up (va_up (va_up (fun _ => none) (Int32.toNatClampNeg 0) (some (E.2.1 65))) (Int32.toNatClampNeg 1) (some (E.2.1 66))) (Int32.toNatClampNeg 2) (some (E.2.1 67))))))) : va_E)), (E.2.1 65, (.inr (9, [.int 0]) : va_E)), (E.2.1 66, (.inr (0, [.int 0]) : va_E)), (E.2.1 67, (.inr (2, [.int 0]) : va_E)), (E.2.1 68, (.inr (7, [.int 1]) : va_E))])) (nx' := 69) (by simp only [List.append_assoc, List.cons_append, List.nil_append]) rfl ?_
  refine zn_astq (q0 := 64 + 0) (qk := 64 + 4) (ci := 7) (r := (RX8, TX8, 1)) (ws' := (((E.2.1 0, (.inr (10, [.ref (E.2.1 1), .ref (E.2.1 17), .ref (E.2.1 33), .ref (E.2.1 53), .null, .null, .null, .int 0]) : va_E)) :: sl E 1 63) ++ [(E.2.1 64, (.inl (E.2.2 1, 5, .inr (.inr (.inr (.inr (va_up (va_up (va_up (va_up (fun _ => none) (Int32.toNatClampNeg 0) (some (E.2.1 65))) (Int32.toNatClampNeg 1) (some (E.2.1 66))) (Int32.toNatClampNeg 2) (some (E.2.1 67))) (Int32.toNatClampNeg 3) (some (E.2.1 68))))))) : va_E)), (E.2.1 65, (.inr (9, [.int 0]) : va_E)), (E.2.1 66, (.inr (0, [.int 0]) : va_E)), (E.2.1 67, (.inr (2, [.int 0]) : va_E)), (E.2.1 68, (.inr (7, [.int 1]) : va_E))])) C (at_pre (by simp only [List.length_cons, sl_len])) (by decide +kernel) (at_pre (by simp only [List.length_cons, sl_len])) rfl (by unfold vp_in; decide) (set_pre (by simp only [List.length_cons, sl_len])) rfl dX11_init_93 ?_
  refine zn_dup C dX11_init_94 rfl ?_
  refine zn_iconst (v := 4) C dX11_init_95 (by decide) ?_
  refine zn_new (CC := RX6) (TT := TX6) (N := 1) (ci := 5) (fs := [.int 0]) C tyX6 tyX6_ok rfl in_X6 t_223 t_224 t_12 (by decide +kernel) (Nat.le_of_ble_eq_true rfl) (Nat.le_of_ble_eq_true rfl) (by omega) dX11_init_96 ?_
  refine zn_dup C dX11_init_99 rfl ?_
  refine zn_initN (Y2 := YX6_init) (mc2 := 0) (ms2 := 0) (p := 69) (pre := (((E.2.1 0, (.inr (10, [.ref (E.2.1 1), .ref (E.2.1 17), .ref (E.2.1 33), .ref (E.2.1 53), .null, .null, .null, .int 0]) : va_E)) :: sl E 1 63) ++ [(E.2.1 64, (.inl (E.2.2 1, 5, .inr (.inr (.inr (.inr (va_up (va_up (va_up (va_up (fun _ => none) (Int32.toNatClampNeg 0) (some (E.2.1 65))) (Int32.toNatClampNeg 1) (some (E.2.1 66))) (Int32.toNatClampNeg 2) (some (E.2.1 67))) (Int32.toNatClampNeg 3) (some (E.2.1 68))))))) : va_E)), (E.2.1 65, (.inr (9, [.int 0]) : va_E)), (E.2.1 66, (.inr (0, [.int 0]) : va_E)), (E.2.1 67, (.inr (2, [.int 0]) : va_E)), (E.2.1 68, (.inr (7, [.int 1]) : va_E))])) (As := []) C lk_X6_init rfl rfl n_225 t_226 (by omega) (Nat.le_of_ble_eq_true rfl) (Nat.le_of_ble_eq_true rfl) (Nat.le_of_ble_eq_true rfl) (Nat.le_of_ble_eq_true rfl) dX11_init_100 (Nat.le_of_ble_eq_true rfl) rfl rfl (cn_X6_X6 X.2.1 E hE 69) ?_
  refine zn_eq (ws' := (((E.2.1 0, (.inr (10, [.ref (E.2.1 1), .ref (E.2.1 17), .ref (E.2.1 33), .ref (E.2.1 53), .null, .null, .null, .int 0]) : va_E)) :: sl E 1 63) ++ [(E.2.1 64, (.inl (E.2.2 1, 5, .inr (.inr (.inr (.inr (va_up (va_up (va_up (va_up (fun _ => none) (Int32.toNatClampNeg 0) (some (E.2.1 65))) (Int32.toNatClampNeg 1) (some (E.2.1 66))) (Int32.toNatClampNeg 2) (some (E.2.1 67))) (Int32.toNatClampNeg 3) (some (E.2.1 68))))))) : va_E)), (E.2.1 65, (.inr (9, [.int 0]) : va_E)), (E.2.1 66, (.inr (0, [.int 0]) : va_E)), (E.2.1 67, (.inr (2, [.int 0]) : va_E)), (E.2.1 68, (.inr (7, [.int 1]) : va_E)), (E.2.1 69, (.inr (5, [.int 0]) : va_E))])) (nx' := 70) (by simp only [List.append_assoc, List.cons_append, List.nil_append]) rfl ?_
  refine zn_astq (q0 := 64 + 0) (qk := 64 + 5) (ci := 5) (r := (RX6, TX6, 1)) (ws' := (((E.2.1 0, (.inr (10, [.ref (E.2.1 1), .ref (E.2.1 17), .ref (E.2.1 33), .ref (E.2.1 53), .null, .null, .null, .int 0]) : va_E)) :: sl E 1 63) ++ [(E.2.1 64, (.inl (E.2.2 1, 5, .inr (.inr (.inr (.inr (va_up (va_up (va_up (va_up (va_up (fun _ => none) (Int32.toNatClampNeg 0) (some (E.2.1 65))) (Int32.toNatClampNeg 1) (some (E.2.1 66))) (Int32.toNatClampNeg 2) (some (E.2.1 67))) (Int32.toNatClampNeg 3) (some (E.2.1 68))) (Int32.toNatClampNeg 4) (some (E.2.1 69))))))) : va_E)), (E.2.1 65, (.inr (9, [.int 0]) : va_E)), (E.2.1 66, (.inr (0, [.int 0]) : va_E)), (E.2.1 67, (.inr (2, [.int 0]) : va_E)), (E.2.1 68, (.inr (7, [.int 1]) : va_E)), (E.2.1 69, (.inr (5, [.int 0]) : va_E))])) C (at_pre (by simp only [List.length_cons, sl_len])) (by decide +kernel) (at_pre (by simp only [List.length_cons, sl_len])) rfl (by unfold vp_in; decide) (set_pre (by simp only [List.length_cons, sl_len])) rfl dX11_init_103 ?_
  have hfa : (va_up (va_up (va_up (va_up (va_up (fun _ => none) (Int32.toNatClampNeg 0) (some (E.2.1 65))) (Int32.toNatClampNeg 1) (some (E.2.1 66))) (Int32.toNatClampNeg 2) (some (E.2.1 67))) (Int32.toNatClampNeg 3) (some (E.2.1 68))) (Int32.toNatClampNeg 4) (some (E.2.1 69))) = lawsAt E := by
    funext j
    unfold lawsAt va_up
    by_cases h0 : j = 0
    · subst h0; rfl
    by_cases h1 : j = 1
    · subst h1; rfl
    by_cases h2 : j = 2
    · subst h2; rfl
    by_cases h3 : j = 3
    · subst h3; rfl
    by_cases h4 : j = 4
    · subst h4; rfl
    rw [if_neg (show ¬ j < 5 by omega)]
    rw [if_neg (show ¬ j = Int32.toNatClampNeg 4 from h4), if_neg (show ¬ j = Int32.toNatClampNeg 3 from h3), if_neg (show ¬ j = Int32.toNatClampNeg 2 from h2), if_neg (show ¬ j = Int32.toNatClampNeg 1 from h1), if_neg (show ¬ j = Int32.toNatClampNeg 0 from h0)]
  refine zn_eq (ws' := ((E.2.1 0, (.inr (10, [.ref (E.2.1 1), .ref (E.2.1 17), .ref (E.2.1 33), .ref (E.2.1 53), .null, .null, .null, .int 0]) : va_E)) :: sl E 1 69)) (nx' := 70) (by rw [hfa, List.cons_append, ← sl_app E 1 63 6 (j := 64) rfl]; rfl) rfl ?_
  refine zn_putF (TT := TX11) (N := 8) (ci := 10) (ty := (.array (.object "ToWhoNeeds$Law"))) C tyX11 tyX11_ok nmX11 rfl in_X11 4 (by decide) t_237 rfl rfl rfl (by decide +kernel) rfl rfl (Nat.le_of_ble_eq_true rfl) rfl dX11_init_104 ?_
  refine zn_eq (ws' := ((E.2.1 0, (.inr (10, [.ref (E.2.1 1), .ref (E.2.1 17), .ref (E.2.1 33), .ref (E.2.1 53), .ref (E.2.1 64), .null, .null, .int 0]) : va_E)) :: sl E 1 69)) (nx' := 70) rfl rfl ?_
  refine zn_aload_n C dX11_init_107 0 rfl ?_
  refine zn_new (CC := RX4) (TT := TX4) (N := 2) (ci := 3) (fs := [.null, .int 0]) C tyX4 tyX4_ok rfl in_X4 t_231 t_61 t_4 (by decide +kernel) (Nat.le_of_ble_eq_true rfl) (Nat.le_of_ble_eq_true rfl) (by omega) dX11_init_108 ?_
  refine zn_dup C dX11_init_111 rfl ?_
  refine zn_bipush (v := 8) C dX11_init_112 (by decide) ?_
  refine zn_init (Y2 := YX4_init) (mc2 := 1) (ms2 := 8) (p := 70) (pre := ((E.2.1 0, (.inr (10, [.ref (E.2.1 1), .ref (E.2.1 17), .ref (E.2.1 33), .ref (E.2.1 53), .ref (E.2.1 64), .null, .null, .int 0]) : va_E)) :: sl E 1 69)) (As := [.int 8]) C lk_X4_init rfl rfl t_232 t_63 (by omega) (Nat.le_of_ble_eq_true rfl) (Nat.le_of_ble_eq_true rfl) (Nat.le_of_ble_eq_true rfl) (Nat.le_of_ble_eq_true rfl) dX11_init_114 (Nat.le_of_ble_eq_true rfl) rfl rfl (cn_X4 X.2.1 E hE 70 8 rfl rfl (by decide) (by decide)) ?_
  refine zn_eq (ws' := ((E.2.1 0, (.inr (10, [.ref (E.2.1 1), .ref (E.2.1 17), .ref (E.2.1 33), .ref (E.2.1 53), .ref (E.2.1 64), .null, .null, .int 0]) : va_E)) :: sl E 1 71)) (nx' := 72) (by rw [List.cons_append, sl_app E 1 69 2 (j := 70) rfl]) rfl ?_
  refine zn_putF (TT := TX11) (N := 8) (ci := 10) (ty := (.object "ToWhoNeeds$Numbers")) C tyX11 tyX11_ok nmX11 rfl in_X11 5 (by decide) t_238 rfl rfl rfl (by decide +kernel) rfl rfl (Nat.le_of_ble_eq_true rfl) rfl dX11_init_117 ?_
  refine zn_eq (ws' := ((E.2.1 0, (.inr (10, [.ref (E.2.1 1), .ref (E.2.1 17), .ref (E.2.1 33), .ref (E.2.1 53), .ref (E.2.1 64), .ref (E.2.1 70), .null, .int 0]) : va_E)) :: sl E 1 71)) (nx' := 72) rfl rfl ?_
  refine zn_aload_n C dX11_init_120 0 rfl ?_
  refine zn_bipush (v := 7) C dX11_init_121 (by decide) ?_
  refine zn_newa (N := 7) C t_59 (by decide) (by decide) (by decide) (Nat.le_of_ble_eq_true rfl) (Nat.le_of_ble_eq_true rfl) (by omega) dX11_init_123 ?_
  refine zn_eq (ws' := ((E.2.1 0, (.inr (10, [.ref (E.2.1 1), .ref (E.2.1 17), .ref (E.2.1 33), .ref (E.2.1 53), .ref (E.2.1 64), .ref (E.2.1 70), .null, .int 0]) : va_E)) :: sl E 1 72)) (nx' := 73) (by rw [List.cons_append, sl_snoc E 1 71 (j := 72) rfl (wc_a0 rfl)]) rfl ?_
  refine zn_putF (TT := TX11) (N := 8) (ci := 10) (ty := (.array .int)) C tyX11 tyX11_ok nmX11 rfl in_X11 6 (by decide) t_239 rfl rfl rfl (by decide +kernel) rfl rfl (Nat.le_of_ble_eq_true rfl) rfl dX11_init_125 ?_
  refine zn_eq (ws' := ((E.2.1 0, (.inr (10, [.ref (E.2.1 1), .ref (E.2.1 17), .ref (E.2.1 33), .ref (E.2.1 53), .ref (E.2.1 64), .ref (E.2.1 70), .ref (E.2.1 72), .int 0]) : va_E)) :: sl E 1 72)) (nx' := 73) rfl rfl ?_
  refine zn_eq (ws' := sl E 0 73) (nx' := 73) (sl_cons E 0 72 rfl) rfl ?_
  exact zn_vret C dX11_init_128 rfl rfl rfl rfl
set_option maxHeartbeats 4000000 in
set_option maxRecDepth 20000 in
theorem cn_X12 (l : Launch) (E : Ev) (hE : Ad E) : Cn l E YX12_init 22 792 73 [.ref (E.2.1 73)] (.inr (11, [.null, .null, .null, .null, .null, .null, .null, .null, .null, .int 0, .int 0, .int 0, .int 0, .int 0, .int 0, .int 0, .int 0, .null, .null, .null, .null, .null, .null, .null, .null, .int 0, .int 0, .int 0, .null, .null, .int 0, .int 0, .int 0, .int 0, .null, .null, .int 0, .null, .int 0])) (sl E 73 23, 96) := by
  refine cn_of hE (by decide +kernel) (Nat.le_of_ble_eq_true rfl) [(0, .ref (E.2.1 73))] rfl (fun X hX C => ?_)
  refine zn_eq (ws' := ((E.2.1 73, (.inr (11, [.null, .null, .null, .null, .null, .null, .null, .null, .null, .int 0, .int 0, .int 0, .int 0, .int 0, .int 0, .int 0, .int 0, .null, .null, .null, .null, .null, .null, .null, .null, .int 0, .int 0, .int 0, .null, .null, .int 0, .int 0, .int 0, .int 0, .null, .null, .int 0, .null, .int 0]) : va_E)) :: sl E 74 0)) (nx' := 74) rfl rfl ?_
  refine zn_aload_n C dX12_init_0 0 rfl ?_
  refine zn_obj C t_844 t_27 t_28 dX12_init_1 (Nat.le_of_ble_eq_true rfl) (Nat.le_of_ble_eq_true rfl) ?_
  refine zn_aload_n C dX12_init_4 0 rfl ?_
  refine zn_bipush (v := 7) C dX12_init_5 (by decide) ?_
  refine zn_newa (N := 7) C t_59 (by decide) (by decide) (by decide) (Nat.le_of_ble_eq_true rfl) (Nat.le_of_ble_eq_true rfl) (by omega) dX12_init_7 ?_
  refine zn_eq (ws' := ((E.2.1 73, (.inr (11, [.null, .null, .null, .null, .null, .null, .null, .null, .null, .int 0, .int 0, .int 0, .int 0, .int 0, .int 0, .int 0, .int 0, .null, .null, .null, .null, .null, .null, .null, .null, .int 0, .int 0, .int 0, .null, .null, .int 0, .int 0, .int 0, .int 0, .null, .null, .int 0, .null, .int 0]) : va_E)) :: sl E 74 1)) (nx' := 75) (by rw [List.cons_append, sl_snoc E 74 0 (j := 74) rfl (wc_a0 rfl)]) rfl ?_
  refine zn_putF (TT := TX12) (N := 39) (ci := 11) (ty := (.array .int)) C tyX12 tyX12_ok nmX12 rfl in_X12 0 (by decide) t_845 rfl rfl rfl (by decide +kernel) rfl rfl (Nat.le_of_ble_eq_true rfl) rfl dX12_init_9 ?_
  refine zn_eq (ws' := ((E.2.1 73, (.inr (11, [.ref (E.2.1 74), .null, .null, .null, .null, .null, .null, .null, .null, .int 0, .int 0, .int 0, .int 0, .int 0, .int 0, .int 0, .int 0, .null, .null, .null, .null, .null, .null, .null, .null, .int 0, .int 0, .int 0, .null, .null, .int 0, .int 0, .int 0, .int 0, .null, .null, .int 0, .null, .int 0]) : va_E)) :: sl E 74 1)) (nx' := 75) rfl rfl ?_
  refine zn_aload_n C dX12_init_12 0 rfl ?_
  refine zn_bipush (v := 24) C dX12_init_13 (by decide) ?_
  refine zn_newa (N := 24) C t_59 (by decide) (by decide) (by decide) (Nat.le_of_ble_eq_true rfl) (Nat.le_of_ble_eq_true rfl) (by omega) dX12_init_15 ?_
  refine zn_eq (ws' := ((E.2.1 73, (.inr (11, [.ref (E.2.1 74), .null, .null, .null, .null, .null, .null, .null, .null, .int 0, .int 0, .int 0, .int 0, .int 0, .int 0, .int 0, .int 0, .null, .null, .null, .null, .null, .null, .null, .null, .int 0, .int 0, .int 0, .null, .null, .int 0, .int 0, .int 0, .int 0, .null, .null, .int 0, .null, .int 0]) : va_E)) :: sl E 74 2)) (nx' := 76) (by rw [List.cons_append, sl_snoc E 74 1 (j := 75) rfl (wc_a0 rfl)]) rfl ?_
  refine zn_putF (TT := TX12) (N := 39) (ci := 11) (ty := (.array .int)) C tyX12 tyX12_ok nmX12 rfl in_X12 1 (by decide) t_846 rfl rfl rfl (by decide +kernel) rfl rfl (Nat.le_of_ble_eq_true rfl) rfl dX12_init_17 ?_
  refine zn_eq (ws' := ((E.2.1 73, (.inr (11, [.ref (E.2.1 74), .ref (E.2.1 75), .null, .null, .null, .null, .null, .null, .null, .int 0, .int 0, .int 0, .int 0, .int 0, .int 0, .int 0, .int 0, .null, .null, .null, .null, .null, .null, .null, .null, .int 0, .int 0, .int 0, .null, .null, .int 0, .int 0, .int 0, .int 0, .null, .null, .int 0, .null, .int 0]) : va_E)) :: sl E 74 2)) (nx' := 76) rfl rfl ?_
  refine zn_aload_n C dX12_init_20 0 rfl ?_
  refine zn_bipush (v := 6) C dX12_init_21 (by decide) ?_
  refine zn_newa (N := 6) C t_59 (by decide) (by decide) (by decide) (Nat.le_of_ble_eq_true rfl) (Nat.le_of_ble_eq_true rfl) (by omega) dX12_init_23 ?_
  refine zn_eq (ws' := ((E.2.1 73, (.inr (11, [.ref (E.2.1 74), .ref (E.2.1 75), .null, .null, .null, .null, .null, .null, .null, .int 0, .int 0, .int 0, .int 0, .int 0, .int 0, .int 0, .int 0, .null, .null, .null, .null, .null, .null, .null, .null, .int 0, .int 0, .int 0, .null, .null, .int 0, .int 0, .int 0, .int 0, .null, .null, .int 0, .null, .int 0]) : va_E)) :: sl E 74 3)) (nx' := 77) (by rw [List.cons_append, sl_snoc E 74 2 (j := 76) rfl (wc_a0 rfl)]) rfl ?_
  refine zn_putF (TT := TX12) (N := 39) (ci := 11) (ty := (.array .int)) C tyX12 tyX12_ok nmX12 rfl in_X12 2 (by decide) t_847 rfl rfl rfl (by decide +kernel) rfl rfl (Nat.le_of_ble_eq_true rfl) rfl dX12_init_25 ?_
  refine zn_eq (ws' := ((E.2.1 73, (.inr (11, [.ref (E.2.1 74), .ref (E.2.1 75), .ref (E.2.1 76), .null, .null, .null, .null, .null, .null, .int 0, .int 0, .int 0, .int 0, .int 0, .int 0, .int 0, .int 0, .null, .null, .null, .null, .null, .null, .null, .null, .int 0, .int 0, .int 0, .null, .null, .int 0, .int 0, .int 0, .int 0, .null, .null, .int 0, .null, .int 0]) : va_E)) :: sl E 74 3)) (nx' := 77) rfl rfl ?_
  refine zn_aload_n C dX12_init_28 0 rfl ?_
  refine zn_iconst (v := 4) C dX12_init_29 (by decide) ?_
  refine zn_newa (N := 4) C t_59 (by decide) (by decide) (by decide) (Nat.le_of_ble_eq_true rfl) (Nat.le_of_ble_eq_true rfl) (by omega) dX12_init_30 ?_
  refine zn_eq (ws' := ((E.2.1 73, (.inr (11, [.ref (E.2.1 74), .ref (E.2.1 75), .ref (E.2.1 76), .null, .null, .null, .null, .null, .null, .int 0, .int 0, .int 0, .int 0, .int 0, .int 0, .int 0, .int 0, .null, .null, .null, .null, .null, .null, .null, .null, .int 0, .int 0, .int 0, .null, .null, .int 0, .int 0, .int 0, .int 0, .null, .null, .int 0, .null, .int 0]) : va_E)) :: sl E 74 4)) (nx' := 78) (by rw [List.cons_append, sl_snoc E 74 3 (j := 77) rfl (wc_a0 rfl)]) rfl ?_
  refine zn_putF (TT := TX12) (N := 39) (ci := 11) (ty := (.array .int)) C tyX12 tyX12_ok nmX12 rfl in_X12 3 (by decide) t_848 rfl rfl rfl (by decide +kernel) rfl rfl (Nat.le_of_ble_eq_true rfl) rfl dX12_init_32 ?_
  refine zn_eq (ws' := ((E.2.1 73, (.inr (11, [.ref (E.2.1 74), .ref (E.2.1 75), .ref (E.2.1 76), .ref (E.2.1 77), .null, .null, .null, .null, .null, .int 0, .int 0, .int 0, .int 0, .int 0, .int 0, .int 0, .int 0, .null, .null, .null, .null, .null, .null, .null, .null, .int 0, .int 0, .int 0, .null, .null, .int 0, .int 0, .int 0, .int 0, .null, .null, .int 0, .null, .int 0]) : va_E)) :: sl E 74 4)) (nx' := 78) rfl rfl ?_
  refine zn_aload_n C dX12_init_35 0 rfl ?_
  refine zn_iconst (v := 4) C dX12_init_36 (by decide) ?_
  refine zn_newa (N := 4) C t_59 (by decide) (by decide) (by decide) (Nat.le_of_ble_eq_true rfl) (Nat.le_of_ble_eq_true rfl) (by omega) dX12_init_37 ?_
  refine zn_eq (ws' := ((E.2.1 73, (.inr (11, [.ref (E.2.1 74), .ref (E.2.1 75), .ref (E.2.1 76), .ref (E.2.1 77), .null, .null, .null, .null, .null, .int 0, .int 0, .int 0, .int 0, .int 0, .int 0, .int 0, .int 0, .null, .null, .null, .null, .null, .null, .null, .null, .int 0, .int 0, .int 0, .null, .null, .int 0, .int 0, .int 0, .int 0, .null, .null, .int 0, .null, .int 0]) : va_E)) :: sl E 74 5)) (nx' := 79) (by rw [List.cons_append, sl_snoc E 74 4 (j := 78) rfl (wc_a0 rfl)]) rfl ?_
  refine zn_putF (TT := TX12) (N := 39) (ci := 11) (ty := (.array .int)) C tyX12 tyX12_ok nmX12 rfl in_X12 4 (by decide) t_849 rfl rfl rfl (by decide +kernel) rfl rfl (Nat.le_of_ble_eq_true rfl) rfl dX12_init_39 ?_
  refine zn_eq (ws' := ((E.2.1 73, (.inr (11, [.ref (E.2.1 74), .ref (E.2.1 75), .ref (E.2.1 76), .ref (E.2.1 77), .ref (E.2.1 78), .null, .null, .null, .null, .int 0, .int 0, .int 0, .int 0, .int 0, .int 0, .int 0, .int 0, .null, .null, .null, .null, .null, .null, .null, .null, .int 0, .int 0, .int 0, .null, .null, .int 0, .int 0, .int 0, .int 0, .null, .null, .int 0, .null, .int 0]) : va_E)) :: sl E 74 5)) (nx' := 79) rfl rfl ?_
  refine zn_aload_n C dX12_init_42 0 rfl ?_
  refine zn_iconst (v := 4) C dX12_init_43 (by decide) ?_
  refine zn_newa (N := 4) C t_59 (by decide) (by decide) (by decide) (Nat.le_of_ble_eq_true rfl) (Nat.le_of_ble_eq_true rfl) (by omega) dX12_init_44 ?_
  refine zn_eq (ws' := ((E.2.1 73, (.inr (11, [.ref (E.2.1 74), .ref (E.2.1 75), .ref (E.2.1 76), .ref (E.2.1 77), .ref (E.2.1 78), .null, .null, .null, .null, .int 0, .int 0, .int 0, .int 0, .int 0, .int 0, .int 0, .int 0, .null, .null, .null, .null, .null, .null, .null, .null, .int 0, .int 0, .int 0, .null, .null, .int 0, .int 0, .int 0, .int 0, .null, .null, .int 0, .null, .int 0]) : va_E)) :: sl E 74 6)) (nx' := 80) (by rw [List.cons_append, sl_snoc E 74 5 (j := 79) rfl (wc_a0 rfl)]) rfl ?_
  refine zn_putF (TT := TX12) (N := 39) (ci := 11) (ty := (.array .int)) C tyX12 tyX12_ok nmX12 rfl in_X12 5 (by decide) t_850 rfl rfl rfl (by decide +kernel) rfl rfl (Nat.le_of_ble_eq_true rfl) rfl dX12_init_46 ?_
  refine zn_eq (ws' := ((E.2.1 73, (.inr (11, [.ref (E.2.1 74), .ref (E.2.1 75), .ref (E.2.1 76), .ref (E.2.1 77), .ref (E.2.1 78), .ref (E.2.1 79), .null, .null, .null, .int 0, .int 0, .int 0, .int 0, .int 0, .int 0, .int 0, .int 0, .null, .null, .null, .null, .null, .null, .null, .null, .int 0, .int 0, .int 0, .null, .null, .int 0, .int 0, .int 0, .int 0, .null, .null, .int 0, .null, .int 0]) : va_E)) :: sl E 74 6)) (nx' := 80) rfl rfl ?_
  refine zn_aload_n C dX12_init_49 0 rfl ?_
  refine zn_iconst (v := 5) C dX12_init_50 (by decide) ?_
  refine zn_newa (N := 5) C t_59 (by decide) (by decide) (by decide) (Nat.le_of_ble_eq_true rfl) (Nat.le_of_ble_eq_true rfl) (by omega) dX12_init_51 ?_
  refine zn_eq (ws' := ((E.2.1 73, (.inr (11, [.ref (E.2.1 74), .ref (E.2.1 75), .ref (E.2.1 76), .ref (E.2.1 77), .ref (E.2.1 78), .ref (E.2.1 79), .null, .null, .null, .int 0, .int 0, .int 0, .int 0, .int 0, .int 0, .int 0, .int 0, .null, .null, .null, .null, .null, .null, .null, .null, .int 0, .int 0, .int 0, .null, .null, .int 0, .int 0, .int 0, .int 0, .null, .null, .int 0, .null, .int 0]) : va_E)) :: sl E 74 7)) (nx' := 81) (by rw [List.cons_append, sl_snoc E 74 6 (j := 80) rfl (wc_a0 rfl)]) rfl ?_
  refine zn_putF (TT := TX12) (N := 39) (ci := 11) (ty := (.array .int)) C tyX12 tyX12_ok nmX12 rfl in_X12 6 (by decide) t_851 rfl rfl rfl (by decide +kernel) rfl rfl (Nat.le_of_ble_eq_true rfl) rfl dX12_init_53 ?_
  refine zn_eq (ws' := ((E.2.1 73, (.inr (11, [.ref (E.2.1 74), .ref (E.2.1 75), .ref (E.2.1 76), .ref (E.2.1 77), .ref (E.2.1 78), .ref (E.2.1 79), .ref (E.2.1 80), .null, .null, .int 0, .int 0, .int 0, .int 0, .int 0, .int 0, .int 0, .int 0, .null, .null, .null, .null, .null, .null, .null, .null, .int 0, .int 0, .int 0, .null, .null, .int 0, .int 0, .int 0, .int 0, .null, .null, .int 0, .null, .int 0]) : va_E)) :: sl E 74 7)) (nx' := 81) rfl rfl ?_
  refine zn_aload_n C dX12_init_56 0 rfl ?_
  refine zn_bipush (v := 6) C dX12_init_57 (by decide) ?_
  refine zn_newa (N := 6) C t_59 (by decide) (by decide) (by decide) (Nat.le_of_ble_eq_true rfl) (Nat.le_of_ble_eq_true rfl) (by omega) dX12_init_59 ?_
  refine zn_eq (ws' := ((E.2.1 73, (.inr (11, [.ref (E.2.1 74), .ref (E.2.1 75), .ref (E.2.1 76), .ref (E.2.1 77), .ref (E.2.1 78), .ref (E.2.1 79), .ref (E.2.1 80), .null, .null, .int 0, .int 0, .int 0, .int 0, .int 0, .int 0, .int 0, .int 0, .null, .null, .null, .null, .null, .null, .null, .null, .int 0, .int 0, .int 0, .null, .null, .int 0, .int 0, .int 0, .int 0, .null, .null, .int 0, .null, .int 0]) : va_E)) :: sl E 74 8)) (nx' := 82) (by rw [List.cons_append, sl_snoc E 74 7 (j := 81) rfl (wc_a0 rfl)]) rfl ?_
  refine zn_putF (TT := TX12) (N := 39) (ci := 11) (ty := (.array .int)) C tyX12 tyX12_ok nmX12 rfl in_X12 7 (by decide) t_852 rfl rfl rfl (by decide +kernel) rfl rfl (Nat.le_of_ble_eq_true rfl) rfl dX12_init_61 ?_
  refine zn_eq (ws' := ((E.2.1 73, (.inr (11, [.ref (E.2.1 74), .ref (E.2.1 75), .ref (E.2.1 76), .ref (E.2.1 77), .ref (E.2.1 78), .ref (E.2.1 79), .ref (E.2.1 80), .ref (E.2.1 81), .null, .int 0, .int 0, .int 0, .int 0, .int 0, .int 0, .int 0, .int 0, .null, .null, .null, .null, .null, .null, .null, .null, .int 0, .int 0, .int 0, .null, .null, .int 0, .int 0, .int 0, .int 0, .null, .null, .int 0, .null, .int 0]) : va_E)) :: sl E 74 8)) (nx' := 82) rfl rfl ?_
  refine zn_aload_n C dX12_init_64 0 rfl ?_
  refine zn_bipush (v := 6) C dX12_init_65 (by decide) ?_
  refine zn_newa (N := 6) C t_59 (by decide) (by decide) (by decide) (Nat.le_of_ble_eq_true rfl) (Nat.le_of_ble_eq_true rfl) (by omega) dX12_init_67 ?_
  refine zn_eq (ws' := ((E.2.1 73, (.inr (11, [.ref (E.2.1 74), .ref (E.2.1 75), .ref (E.2.1 76), .ref (E.2.1 77), .ref (E.2.1 78), .ref (E.2.1 79), .ref (E.2.1 80), .ref (E.2.1 81), .null, .int 0, .int 0, .int 0, .int 0, .int 0, .int 0, .int 0, .int 0, .null, .null, .null, .null, .null, .null, .null, .null, .int 0, .int 0, .int 0, .null, .null, .int 0, .int 0, .int 0, .int 0, .null, .null, .int 0, .null, .int 0]) : va_E)) :: sl E 74 9)) (nx' := 83) (by rw [List.cons_append, sl_snoc E 74 8 (j := 82) rfl (wc_a0 rfl)]) rfl ?_
  refine zn_putF (TT := TX12) (N := 39) (ci := 11) (ty := (.array .int)) C tyX12 tyX12_ok nmX12 rfl in_X12 8 (by decide) t_853 rfl rfl rfl (by decide +kernel) rfl rfl (Nat.le_of_ble_eq_true rfl) rfl dX12_init_69 ?_
  refine zn_eq (ws' := ((E.2.1 73, (.inr (11, [.ref (E.2.1 74), .ref (E.2.1 75), .ref (E.2.1 76), .ref (E.2.1 77), .ref (E.2.1 78), .ref (E.2.1 79), .ref (E.2.1 80), .ref (E.2.1 81), .ref (E.2.1 82), .int 0, .int 0, .int 0, .int 0, .int 0, .int 0, .int 0, .int 0, .null, .null, .null, .null, .null, .null, .null, .null, .int 0, .int 0, .int 0, .null, .null, .int 0, .int 0, .int 0, .int 0, .null, .null, .int 0, .null, .int 0]) : va_E)) :: sl E 74 9)) (nx' := 83) rfl rfl ?_
  refine zn_aload_n C dX12_init_72 0 rfl ?_
  refine zn_bipush (v := 64) C dX12_init_73 (by decide) ?_
  refine zn_newa (N := 64) C t_59 (by decide) (by decide) (by decide) (Nat.le_of_ble_eq_true rfl) (Nat.le_of_ble_eq_true rfl) (by omega) dX12_init_75 ?_
  refine zn_eq (ws' := ((E.2.1 73, (.inr (11, [.ref (E.2.1 74), .ref (E.2.1 75), .ref (E.2.1 76), .ref (E.2.1 77), .ref (E.2.1 78), .ref (E.2.1 79), .ref (E.2.1 80), .ref (E.2.1 81), .ref (E.2.1 82), .int 0, .int 0, .int 0, .int 0, .int 0, .int 0, .int 0, .int 0, .null, .null, .null, .null, .null, .null, .null, .null, .int 0, .int 0, .int 0, .null, .null, .int 0, .int 0, .int 0, .int 0, .null, .null, .int 0, .null, .int 0]) : va_E)) :: sl E 74 10)) (nx' := 84) (by rw [List.cons_append, sl_snoc E 74 9 (j := 83) rfl (wc_a0 rfl)]) rfl ?_
  refine zn_putF (TT := TX12) (N := 39) (ci := 11) (ty := (.array .int)) C tyX12 tyX12_ok nmX12 rfl in_X12 17 (by decide) t_862 rfl rfl rfl (by decide +kernel) rfl rfl (Nat.le_of_ble_eq_true rfl) rfl dX12_init_77 ?_
  refine zn_eq (ws' := ((E.2.1 73, (.inr (11, [.ref (E.2.1 74), .ref (E.2.1 75), .ref (E.2.1 76), .ref (E.2.1 77), .ref (E.2.1 78), .ref (E.2.1 79), .ref (E.2.1 80), .ref (E.2.1 81), .ref (E.2.1 82), .int 0, .int 0, .int 0, .int 0, .int 0, .int 0, .int 0, .int 0, .ref (E.2.1 83), .null, .null, .null, .null, .null, .null, .null, .int 0, .int 0, .int 0, .null, .null, .int 0, .int 0, .int 0, .int 0, .null, .null, .int 0, .null, .int 0]) : va_E)) :: sl E 74 10)) (nx' := 84) rfl rfl ?_
  refine zn_aload_n C dX12_init_80 0 rfl ?_
  refine zn_bipush (v := 32) C dX12_init_81 (by decide) ?_
  refine zn_newa (N := 32) C t_59 (by decide) (by decide) (by decide) (Nat.le_of_ble_eq_true rfl) (Nat.le_of_ble_eq_true rfl) (by omega) dX12_init_83 ?_
  refine zn_eq (ws' := ((E.2.1 73, (.inr (11, [.ref (E.2.1 74), .ref (E.2.1 75), .ref (E.2.1 76), .ref (E.2.1 77), .ref (E.2.1 78), .ref (E.2.1 79), .ref (E.2.1 80), .ref (E.2.1 81), .ref (E.2.1 82), .int 0, .int 0, .int 0, .int 0, .int 0, .int 0, .int 0, .int 0, .ref (E.2.1 83), .null, .null, .null, .null, .null, .null, .null, .int 0, .int 0, .int 0, .null, .null, .int 0, .int 0, .int 0, .int 0, .null, .null, .int 0, .null, .int 0]) : va_E)) :: sl E 74 11)) (nx' := 85) (by rw [List.cons_append, sl_snoc E 74 10 (j := 84) rfl (wc_a0 rfl)]) rfl ?_
  refine zn_putF (TT := TX12) (N := 39) (ci := 11) (ty := (.array .int)) C tyX12 tyX12_ok nmX12 rfl in_X12 18 (by decide) t_863 rfl rfl rfl (by decide +kernel) rfl rfl (Nat.le_of_ble_eq_true rfl) rfl dX12_init_85 ?_
  refine zn_eq (ws' := ((E.2.1 73, (.inr (11, [.ref (E.2.1 74), .ref (E.2.1 75), .ref (E.2.1 76), .ref (E.2.1 77), .ref (E.2.1 78), .ref (E.2.1 79), .ref (E.2.1 80), .ref (E.2.1 81), .ref (E.2.1 82), .int 0, .int 0, .int 0, .int 0, .int 0, .int 0, .int 0, .int 0, .ref (E.2.1 83), .ref (E.2.1 84), .null, .null, .null, .null, .null, .null, .int 0, .int 0, .int 0, .null, .null, .int 0, .int 0, .int 0, .int 0, .null, .null, .int 0, .null, .int 0]) : va_E)) :: sl E 74 11)) (nx' := 85) rfl rfl ?_
  refine zn_aload_n C dX12_init_88 0 rfl ?_
  refine zn_bipush (v := 32) C dX12_init_89 (by decide) ?_
  refine zn_newa (N := 32) C t_59 (by decide) (by decide) (by decide) (Nat.le_of_ble_eq_true rfl) (Nat.le_of_ble_eq_true rfl) (by omega) dX12_init_91 ?_
  refine zn_eq (ws' := ((E.2.1 73, (.inr (11, [.ref (E.2.1 74), .ref (E.2.1 75), .ref (E.2.1 76), .ref (E.2.1 77), .ref (E.2.1 78), .ref (E.2.1 79), .ref (E.2.1 80), .ref (E.2.1 81), .ref (E.2.1 82), .int 0, .int 0, .int 0, .int 0, .int 0, .int 0, .int 0, .int 0, .ref (E.2.1 83), .ref (E.2.1 84), .null, .null, .null, .null, .null, .null, .int 0, .int 0, .int 0, .null, .null, .int 0, .int 0, .int 0, .int 0, .null, .null, .int 0, .null, .int 0]) : va_E)) :: sl E 74 12)) (nx' := 86) (by rw [List.cons_append, sl_snoc E 74 11 (j := 85) rfl (wc_a0 rfl)]) rfl ?_
  refine zn_putF (TT := TX12) (N := 39) (ci := 11) (ty := (.array .int)) C tyX12 tyX12_ok nmX12 rfl in_X12 19 (by decide) t_864 rfl rfl rfl (by decide +kernel) rfl rfl (Nat.le_of_ble_eq_true rfl) rfl dX12_init_93 ?_
  refine zn_eq (ws' := ((E.2.1 73, (.inr (11, [.ref (E.2.1 74), .ref (E.2.1 75), .ref (E.2.1 76), .ref (E.2.1 77), .ref (E.2.1 78), .ref (E.2.1 79), .ref (E.2.1 80), .ref (E.2.1 81), .ref (E.2.1 82), .int 0, .int 0, .int 0, .int 0, .int 0, .int 0, .int 0, .int 0, .ref (E.2.1 83), .ref (E.2.1 84), .ref (E.2.1 85), .null, .null, .null, .null, .null, .int 0, .int 0, .int 0, .null, .null, .int 0, .int 0, .int 0, .int 0, .null, .null, .int 0, .null, .int 0]) : va_E)) :: sl E 74 12)) (nx' := 86) rfl rfl ?_
  refine zn_aload_n C dX12_init_96 0 rfl ?_
  refine zn_bipush (v := 32) C dX12_init_97 (by decide) ?_
  refine zn_newa (N := 32) C t_59 (by decide) (by decide) (by decide) (Nat.le_of_ble_eq_true rfl) (Nat.le_of_ble_eq_true rfl) (by omega) dX12_init_99 ?_
  refine zn_eq (ws' := ((E.2.1 73, (.inr (11, [.ref (E.2.1 74), .ref (E.2.1 75), .ref (E.2.1 76), .ref (E.2.1 77), .ref (E.2.1 78), .ref (E.2.1 79), .ref (E.2.1 80), .ref (E.2.1 81), .ref (E.2.1 82), .int 0, .int 0, .int 0, .int 0, .int 0, .int 0, .int 0, .int 0, .ref (E.2.1 83), .ref (E.2.1 84), .ref (E.2.1 85), .null, .null, .null, .null, .null, .int 0, .int 0, .int 0, .null, .null, .int 0, .int 0, .int 0, .int 0, .null, .null, .int 0, .null, .int 0]) : va_E)) :: sl E 74 13)) (nx' := 87) (by rw [List.cons_append, sl_snoc E 74 12 (j := 86) rfl (wc_a0 rfl)]) rfl ?_
  refine zn_putF (TT := TX12) (N := 39) (ci := 11) (ty := (.array .int)) C tyX12 tyX12_ok nmX12 rfl in_X12 20 (by decide) t_865 rfl rfl rfl (by decide +kernel) rfl rfl (Nat.le_of_ble_eq_true rfl) rfl dX12_init_101 ?_
  refine zn_eq (ws' := ((E.2.1 73, (.inr (11, [.ref (E.2.1 74), .ref (E.2.1 75), .ref (E.2.1 76), .ref (E.2.1 77), .ref (E.2.1 78), .ref (E.2.1 79), .ref (E.2.1 80), .ref (E.2.1 81), .ref (E.2.1 82), .int 0, .int 0, .int 0, .int 0, .int 0, .int 0, .int 0, .int 0, .ref (E.2.1 83), .ref (E.2.1 84), .ref (E.2.1 85), .ref (E.2.1 86), .null, .null, .null, .null, .int 0, .int 0, .int 0, .null, .null, .int 0, .int 0, .int 0, .int 0, .null, .null, .int 0, .null, .int 0]) : va_E)) :: sl E 74 13)) (nx' := 87) rfl rfl ?_
  refine zn_aload_n C dX12_init_104 0 rfl ?_
  refine zn_bipush (v := 32) C dX12_init_105 (by decide) ?_
  refine zn_newa (N := 32) C t_59 (by decide) (by decide) (by decide) (Nat.le_of_ble_eq_true rfl) (Nat.le_of_ble_eq_true rfl) (by omega) dX12_init_107 ?_
  refine zn_eq (ws' := ((E.2.1 73, (.inr (11, [.ref (E.2.1 74), .ref (E.2.1 75), .ref (E.2.1 76), .ref (E.2.1 77), .ref (E.2.1 78), .ref (E.2.1 79), .ref (E.2.1 80), .ref (E.2.1 81), .ref (E.2.1 82), .int 0, .int 0, .int 0, .int 0, .int 0, .int 0, .int 0, .int 0, .ref (E.2.1 83), .ref (E.2.1 84), .ref (E.2.1 85), .ref (E.2.1 86), .null, .null, .null, .null, .int 0, .int 0, .int 0, .null, .null, .int 0, .int 0, .int 0, .int 0, .null, .null, .int 0, .null, .int 0]) : va_E)) :: sl E 74 14)) (nx' := 88) (by rw [List.cons_append, sl_snoc E 74 13 (j := 87) rfl (wc_a0 rfl)]) rfl ?_
  refine zn_putF (TT := TX12) (N := 39) (ci := 11) (ty := (.array .int)) C tyX12 tyX12_ok nmX12 rfl in_X12 21 (by decide) t_866 rfl rfl rfl (by decide +kernel) rfl rfl (Nat.le_of_ble_eq_true rfl) rfl dX12_init_109 ?_
  refine zn_eq (ws' := ((E.2.1 73, (.inr (11, [.ref (E.2.1 74), .ref (E.2.1 75), .ref (E.2.1 76), .ref (E.2.1 77), .ref (E.2.1 78), .ref (E.2.1 79), .ref (E.2.1 80), .ref (E.2.1 81), .ref (E.2.1 82), .int 0, .int 0, .int 0, .int 0, .int 0, .int 0, .int 0, .int 0, .ref (E.2.1 83), .ref (E.2.1 84), .ref (E.2.1 85), .ref (E.2.1 86), .ref (E.2.1 87), .null, .null, .null, .int 0, .int 0, .int 0, .null, .null, .int 0, .int 0, .int 0, .int 0, .null, .null, .int 0, .null, .int 0]) : va_E)) :: sl E 74 14)) (nx' := 88) rfl rfl ?_
  refine zn_aload_n C dX12_init_112 0 rfl ?_
  refine zn_bipush (v := 32) C dX12_init_113 (by decide) ?_
  refine zn_newa (N := 32) C t_59 (by decide) (by decide) (by decide) (Nat.le_of_ble_eq_true rfl) (Nat.le_of_ble_eq_true rfl) (by omega) dX12_init_115 ?_
  refine zn_eq (ws' := ((E.2.1 73, (.inr (11, [.ref (E.2.1 74), .ref (E.2.1 75), .ref (E.2.1 76), .ref (E.2.1 77), .ref (E.2.1 78), .ref (E.2.1 79), .ref (E.2.1 80), .ref (E.2.1 81), .ref (E.2.1 82), .int 0, .int 0, .int 0, .int 0, .int 0, .int 0, .int 0, .int 0, .ref (E.2.1 83), .ref (E.2.1 84), .ref (E.2.1 85), .ref (E.2.1 86), .ref (E.2.1 87), .null, .null, .null, .int 0, .int 0, .int 0, .null, .null, .int 0, .int 0, .int 0, .int 0, .null, .null, .int 0, .null, .int 0]) : va_E)) :: sl E 74 15)) (nx' := 89) (by rw [List.cons_append, sl_snoc E 74 14 (j := 88) rfl (wc_a0 rfl)]) rfl ?_
  refine zn_putF (TT := TX12) (N := 39) (ci := 11) (ty := (.array .int)) C tyX12 tyX12_ok nmX12 rfl in_X12 22 (by decide) t_867 rfl rfl rfl (by decide +kernel) rfl rfl (Nat.le_of_ble_eq_true rfl) rfl dX12_init_117 ?_
  refine zn_eq (ws' := ((E.2.1 73, (.inr (11, [.ref (E.2.1 74), .ref (E.2.1 75), .ref (E.2.1 76), .ref (E.2.1 77), .ref (E.2.1 78), .ref (E.2.1 79), .ref (E.2.1 80), .ref (E.2.1 81), .ref (E.2.1 82), .int 0, .int 0, .int 0, .int 0, .int 0, .int 0, .int 0, .int 0, .ref (E.2.1 83), .ref (E.2.1 84), .ref (E.2.1 85), .ref (E.2.1 86), .ref (E.2.1 87), .ref (E.2.1 88), .null, .null, .int 0, .int 0, .int 0, .null, .null, .int 0, .int 0, .int 0, .int 0, .null, .null, .int 0, .null, .int 0]) : va_E)) :: sl E 74 15)) (nx' := 89) rfl rfl ?_
  refine zn_aload_n C dX12_init_120 0 rfl ?_
  refine zn_bipush (v := 32) C dX12_init_121 (by decide) ?_
  refine zn_newa (N := 32) C t_59 (by decide) (by decide) (by decide) (Nat.le_of_ble_eq_true rfl) (Nat.le_of_ble_eq_true rfl) (by omega) dX12_init_123 ?_
  refine zn_eq (ws' := ((E.2.1 73, (.inr (11, [.ref (E.2.1 74), .ref (E.2.1 75), .ref (E.2.1 76), .ref (E.2.1 77), .ref (E.2.1 78), .ref (E.2.1 79), .ref (E.2.1 80), .ref (E.2.1 81), .ref (E.2.1 82), .int 0, .int 0, .int 0, .int 0, .int 0, .int 0, .int 0, .int 0, .ref (E.2.1 83), .ref (E.2.1 84), .ref (E.2.1 85), .ref (E.2.1 86), .ref (E.2.1 87), .ref (E.2.1 88), .null, .null, .int 0, .int 0, .int 0, .null, .null, .int 0, .int 0, .int 0, .int 0, .null, .null, .int 0, .null, .int 0]) : va_E)) :: sl E 74 16)) (nx' := 90) (by rw [List.cons_append, sl_snoc E 74 15 (j := 89) rfl (wc_a0 rfl)]) rfl ?_
  refine zn_putF (TT := TX12) (N := 39) (ci := 11) (ty := (.array .int)) C tyX12 tyX12_ok nmX12 rfl in_X12 23 (by decide) t_868 rfl rfl rfl (by decide +kernel) rfl rfl (Nat.le_of_ble_eq_true rfl) rfl dX12_init_125 ?_
  refine zn_eq (ws' := ((E.2.1 73, (.inr (11, [.ref (E.2.1 74), .ref (E.2.1 75), .ref (E.2.1 76), .ref (E.2.1 77), .ref (E.2.1 78), .ref (E.2.1 79), .ref (E.2.1 80), .ref (E.2.1 81), .ref (E.2.1 82), .int 0, .int 0, .int 0, .int 0, .int 0, .int 0, .int 0, .int 0, .ref (E.2.1 83), .ref (E.2.1 84), .ref (E.2.1 85), .ref (E.2.1 86), .ref (E.2.1 87), .ref (E.2.1 88), .ref (E.2.1 89), .null, .int 0, .int 0, .int 0, .null, .null, .int 0, .int 0, .int 0, .int 0, .null, .null, .int 0, .null, .int 0]) : va_E)) :: sl E 74 16)) (nx' := 90) rfl rfl ?_
  refine zn_aload_n C dX12_init_128 0 rfl ?_
  refine zn_bipush (v := 32) C dX12_init_129 (by decide) ?_
  refine zn_newa (N := 32) C t_59 (by decide) (by decide) (by decide) (Nat.le_of_ble_eq_true rfl) (Nat.le_of_ble_eq_true rfl) (by omega) dX12_init_131 ?_
  refine zn_eq (ws' := ((E.2.1 73, (.inr (11, [.ref (E.2.1 74), .ref (E.2.1 75), .ref (E.2.1 76), .ref (E.2.1 77), .ref (E.2.1 78), .ref (E.2.1 79), .ref (E.2.1 80), .ref (E.2.1 81), .ref (E.2.1 82), .int 0, .int 0, .int 0, .int 0, .int 0, .int 0, .int 0, .int 0, .ref (E.2.1 83), .ref (E.2.1 84), .ref (E.2.1 85), .ref (E.2.1 86), .ref (E.2.1 87), .ref (E.2.1 88), .ref (E.2.1 89), .null, .int 0, .int 0, .int 0, .null, .null, .int 0, .int 0, .int 0, .int 0, .null, .null, .int 0, .null, .int 0]) : va_E)) :: sl E 74 17)) (nx' := 91) (by rw [List.cons_append, sl_snoc E 74 16 (j := 90) rfl (wc_a0 rfl)]) rfl ?_
  refine zn_putF (TT := TX12) (N := 39) (ci := 11) (ty := (.array .int)) C tyX12 tyX12_ok nmX12 rfl in_X12 24 (by decide) t_869 rfl rfl rfl (by decide +kernel) rfl rfl (Nat.le_of_ble_eq_true rfl) rfl dX12_init_133 ?_
  refine zn_eq (ws' := ((E.2.1 73, (.inr (11, [.ref (E.2.1 74), .ref (E.2.1 75), .ref (E.2.1 76), .ref (E.2.1 77), .ref (E.2.1 78), .ref (E.2.1 79), .ref (E.2.1 80), .ref (E.2.1 81), .ref (E.2.1 82), .int 0, .int 0, .int 0, .int 0, .int 0, .int 0, .int 0, .int 0, .ref (E.2.1 83), .ref (E.2.1 84), .ref (E.2.1 85), .ref (E.2.1 86), .ref (E.2.1 87), .ref (E.2.1 88), .ref (E.2.1 89), .ref (E.2.1 90), .int 0, .int 0, .int 0, .null, .null, .int 0, .int 0, .int 0, .int 0, .null, .null, .int 0, .null, .int 0]) : va_E)) :: sl E 74 17)) (nx' := 91) rfl rfl ?_
  refine zn_aload_n C dX12_init_136 0 rfl ?_
  refine zn_sipush (v := 300) C dX12_init_137 (by decide) ?_
  refine zn_newa (N := 300) C t_59 (by decide) (by decide) (by decide) (Nat.le_of_ble_eq_true rfl) (Nat.le_of_ble_eq_true rfl) (by omega) dX12_init_140 ?_
  refine zn_eq (ws' := ((E.2.1 73, (.inr (11, [.ref (E.2.1 74), .ref (E.2.1 75), .ref (E.2.1 76), .ref (E.2.1 77), .ref (E.2.1 78), .ref (E.2.1 79), .ref (E.2.1 80), .ref (E.2.1 81), .ref (E.2.1 82), .int 0, .int 0, .int 0, .int 0, .int 0, .int 0, .int 0, .int 0, .ref (E.2.1 83), .ref (E.2.1 84), .ref (E.2.1 85), .ref (E.2.1 86), .ref (E.2.1 87), .ref (E.2.1 88), .ref (E.2.1 89), .ref (E.2.1 90), .int 0, .int 0, .int 0, .null, .null, .int 0, .int 0, .int 0, .int 0, .null, .null, .int 0, .null, .int 0]) : va_E)) :: sl E 74 18)) (nx' := 92) (by rw [List.cons_append, sl_snoc E 74 17 (j := 91) rfl (wc_a0 rfl)]) rfl ?_
  refine zn_putF (TT := TX12) (N := 39) (ci := 11) (ty := (.array .int)) C tyX12 tyX12_ok nmX12 rfl in_X12 28 (by decide) t_873 rfl rfl rfl (by decide +kernel) rfl rfl (Nat.le_of_ble_eq_true rfl) rfl dX12_init_142 ?_
  refine zn_eq (ws' := ((E.2.1 73, (.inr (11, [.ref (E.2.1 74), .ref (E.2.1 75), .ref (E.2.1 76), .ref (E.2.1 77), .ref (E.2.1 78), .ref (E.2.1 79), .ref (E.2.1 80), .ref (E.2.1 81), .ref (E.2.1 82), .int 0, .int 0, .int 0, .int 0, .int 0, .int 0, .int 0, .int 0, .ref (E.2.1 83), .ref (E.2.1 84), .ref (E.2.1 85), .ref (E.2.1 86), .ref (E.2.1 87), .ref (E.2.1 88), .ref (E.2.1 89), .ref (E.2.1 90), .int 0, .int 0, .int 0, .ref (E.2.1 91), .null, .int 0, .int 0, .int 0, .int 0, .null, .null, .int 0, .null, .int 0]) : va_E)) :: sl E 74 18)) (nx' := 92) rfl rfl ?_
  refine zn_aload_n C dX12_init_145 0 rfl ?_
  refine zn_bipush (v := 120) C dX12_init_146 (by decide) ?_
  refine zn_newa (N := 120) C t_59 (by decide) (by decide) (by decide) (Nat.le_of_ble_eq_true rfl) (Nat.le_of_ble_eq_true rfl) (by omega) dX12_init_148 ?_
  refine zn_eq (ws' := ((E.2.1 73, (.inr (11, [.ref (E.2.1 74), .ref (E.2.1 75), .ref (E.2.1 76), .ref (E.2.1 77), .ref (E.2.1 78), .ref (E.2.1 79), .ref (E.2.1 80), .ref (E.2.1 81), .ref (E.2.1 82), .int 0, .int 0, .int 0, .int 0, .int 0, .int 0, .int 0, .int 0, .ref (E.2.1 83), .ref (E.2.1 84), .ref (E.2.1 85), .ref (E.2.1 86), .ref (E.2.1 87), .ref (E.2.1 88), .ref (E.2.1 89), .ref (E.2.1 90), .int 0, .int 0, .int 0, .ref (E.2.1 91), .null, .int 0, .int 0, .int 0, .int 0, .null, .null, .int 0, .null, .int 0]) : va_E)) :: sl E 74 19)) (nx' := 93) (by rw [List.cons_append, sl_snoc E 74 18 (j := 92) rfl (wc_a0 rfl)]) rfl ?_
  refine zn_putF (TT := TX12) (N := 39) (ci := 11) (ty := (.array .int)) C tyX12 tyX12_ok nmX12 rfl in_X12 29 (by decide) t_874 rfl rfl rfl (by decide +kernel) rfl rfl (Nat.le_of_ble_eq_true rfl) rfl dX12_init_150 ?_
  refine zn_eq (ws' := ((E.2.1 73, (.inr (11, [.ref (E.2.1 74), .ref (E.2.1 75), .ref (E.2.1 76), .ref (E.2.1 77), .ref (E.2.1 78), .ref (E.2.1 79), .ref (E.2.1 80), .ref (E.2.1 81), .ref (E.2.1 82), .int 0, .int 0, .int 0, .int 0, .int 0, .int 0, .int 0, .int 0, .ref (E.2.1 83), .ref (E.2.1 84), .ref (E.2.1 85), .ref (E.2.1 86), .ref (E.2.1 87), .ref (E.2.1 88), .ref (E.2.1 89), .ref (E.2.1 90), .int 0, .int 0, .int 0, .ref (E.2.1 91), .ref (E.2.1 92), .int 0, .int 0, .int 0, .int 0, .null, .null, .int 0, .null, .int 0]) : va_E)) :: sl E 74 19)) (nx' := 93) rfl rfl ?_
  refine zn_aload_n C dX12_init_153 0 rfl ?_
  refine zn_iconst (v := 5) C dX12_init_154 (by decide) ?_
  refine zn_newa (N := 5) C t_59 (by decide) (by decide) (by decide) (Nat.le_of_ble_eq_true rfl) (Nat.le_of_ble_eq_true rfl) (by omega) dX12_init_155 ?_
  refine zn_eq (ws' := ((E.2.1 73, (.inr (11, [.ref (E.2.1 74), .ref (E.2.1 75), .ref (E.2.1 76), .ref (E.2.1 77), .ref (E.2.1 78), .ref (E.2.1 79), .ref (E.2.1 80), .ref (E.2.1 81), .ref (E.2.1 82), .int 0, .int 0, .int 0, .int 0, .int 0, .int 0, .int 0, .int 0, .ref (E.2.1 83), .ref (E.2.1 84), .ref (E.2.1 85), .ref (E.2.1 86), .ref (E.2.1 87), .ref (E.2.1 88), .ref (E.2.1 89), .ref (E.2.1 90), .int 0, .int 0, .int 0, .ref (E.2.1 91), .ref (E.2.1 92), .int 0, .int 0, .int 0, .int 0, .null, .null, .int 0, .null, .int 0]) : va_E)) :: sl E 74 20)) (nx' := 94) (by rw [List.cons_append, sl_snoc E 74 19 (j := 93) rfl (wc_a0 rfl)]) rfl ?_
  refine zn_putF (TT := TX12) (N := 39) (ci := 11) (ty := (.array .int)) C tyX12 tyX12_ok nmX12 rfl in_X12 34 (by decide) t_879 rfl rfl rfl (by decide +kernel) rfl rfl (Nat.le_of_ble_eq_true rfl) rfl dX12_init_157 ?_
  refine zn_eq (ws' := ((E.2.1 73, (.inr (11, [.ref (E.2.1 74), .ref (E.2.1 75), .ref (E.2.1 76), .ref (E.2.1 77), .ref (E.2.1 78), .ref (E.2.1 79), .ref (E.2.1 80), .ref (E.2.1 81), .ref (E.2.1 82), .int 0, .int 0, .int 0, .int 0, .int 0, .int 0, .int 0, .int 0, .ref (E.2.1 83), .ref (E.2.1 84), .ref (E.2.1 85), .ref (E.2.1 86), .ref (E.2.1 87), .ref (E.2.1 88), .ref (E.2.1 89), .ref (E.2.1 90), .int 0, .int 0, .int 0, .ref (E.2.1 91), .ref (E.2.1 92), .int 0, .int 0, .int 0, .int 0, .ref (E.2.1 93), .null, .int 0, .null, .int 0]) : va_E)) :: sl E 74 20)) (nx' := 94) rfl rfl ?_
  refine zn_aload_n C dX12_init_160 0 rfl ?_
  refine zn_iconst (v := 5) C dX12_init_161 (by decide) ?_
  refine zn_newa (N := 5) C t_59 (by decide) (by decide) (by decide) (Nat.le_of_ble_eq_true rfl) (Nat.le_of_ble_eq_true rfl) (by omega) dX12_init_162 ?_
  refine zn_eq (ws' := ((E.2.1 73, (.inr (11, [.ref (E.2.1 74), .ref (E.2.1 75), .ref (E.2.1 76), .ref (E.2.1 77), .ref (E.2.1 78), .ref (E.2.1 79), .ref (E.2.1 80), .ref (E.2.1 81), .ref (E.2.1 82), .int 0, .int 0, .int 0, .int 0, .int 0, .int 0, .int 0, .int 0, .ref (E.2.1 83), .ref (E.2.1 84), .ref (E.2.1 85), .ref (E.2.1 86), .ref (E.2.1 87), .ref (E.2.1 88), .ref (E.2.1 89), .ref (E.2.1 90), .int 0, .int 0, .int 0, .ref (E.2.1 91), .ref (E.2.1 92), .int 0, .int 0, .int 0, .int 0, .ref (E.2.1 93), .null, .int 0, .null, .int 0]) : va_E)) :: sl E 74 21)) (nx' := 95) (by rw [List.cons_append, sl_snoc E 74 20 (j := 94) rfl (wc_a0 rfl)]) rfl ?_
  refine zn_putF (TT := TX12) (N := 39) (ci := 11) (ty := (.array .int)) C tyX12 tyX12_ok nmX12 rfl in_X12 35 (by decide) t_880 rfl rfl rfl (by decide +kernel) rfl rfl (Nat.le_of_ble_eq_true rfl) rfl dX12_init_164 ?_
  refine zn_eq (ws' := ((E.2.1 73, (.inr (11, [.ref (E.2.1 74), .ref (E.2.1 75), .ref (E.2.1 76), .ref (E.2.1 77), .ref (E.2.1 78), .ref (E.2.1 79), .ref (E.2.1 80), .ref (E.2.1 81), .ref (E.2.1 82), .int 0, .int 0, .int 0, .int 0, .int 0, .int 0, .int 0, .int 0, .ref (E.2.1 83), .ref (E.2.1 84), .ref (E.2.1 85), .ref (E.2.1 86), .ref (E.2.1 87), .ref (E.2.1 88), .ref (E.2.1 89), .ref (E.2.1 90), .int 0, .int 0, .int 0, .ref (E.2.1 91), .ref (E.2.1 92), .int 0, .int 0, .int 0, .int 0, .ref (E.2.1 93), .ref (E.2.1 94), .int 0, .null, .int 0]) : va_E)) :: sl E 74 21)) (nx' := 95) rfl rfl ?_
  refine zn_aload_n C dX12_init_167 0 rfl ?_
  refine zn_bipush (v := 8) C dX12_init_168 (by decide) ?_
  refine zn_newa (N := 8) C t_59 (by decide) (by decide) (by decide) (Nat.le_of_ble_eq_true rfl) (Nat.le_of_ble_eq_true rfl) (by omega) dX12_init_170 ?_
  refine zn_eq (ws' := ((E.2.1 73, (.inr (11, [.ref (E.2.1 74), .ref (E.2.1 75), .ref (E.2.1 76), .ref (E.2.1 77), .ref (E.2.1 78), .ref (E.2.1 79), .ref (E.2.1 80), .ref (E.2.1 81), .ref (E.2.1 82), .int 0, .int 0, .int 0, .int 0, .int 0, .int 0, .int 0, .int 0, .ref (E.2.1 83), .ref (E.2.1 84), .ref (E.2.1 85), .ref (E.2.1 86), .ref (E.2.1 87), .ref (E.2.1 88), .ref (E.2.1 89), .ref (E.2.1 90), .int 0, .int 0, .int 0, .ref (E.2.1 91), .ref (E.2.1 92), .int 0, .int 0, .int 0, .int 0, .ref (E.2.1 93), .ref (E.2.1 94), .int 0, .null, .int 0]) : va_E)) :: sl E 74 22)) (nx' := 96) (by rw [List.cons_append, sl_snoc E 74 21 (j := 95) rfl (wc_a0 rfl)]) rfl ?_
  refine zn_putF (TT := TX12) (N := 39) (ci := 11) (ty := (.array .int)) C tyX12 tyX12_ok nmX12 rfl in_X12 37 (by decide) t_882 rfl rfl rfl (by decide +kernel) rfl rfl (Nat.le_of_ble_eq_true rfl) rfl dX12_init_172 ?_
  refine zn_eq (ws' := ((E.2.1 73, (.inr (11, [.ref (E.2.1 74), .ref (E.2.1 75), .ref (E.2.1 76), .ref (E.2.1 77), .ref (E.2.1 78), .ref (E.2.1 79), .ref (E.2.1 80), .ref (E.2.1 81), .ref (E.2.1 82), .int 0, .int 0, .int 0, .int 0, .int 0, .int 0, .int 0, .int 0, .ref (E.2.1 83), .ref (E.2.1 84), .ref (E.2.1 85), .ref (E.2.1 86), .ref (E.2.1 87), .ref (E.2.1 88), .ref (E.2.1 89), .ref (E.2.1 90), .int 0, .int 0, .int 0, .ref (E.2.1 91), .ref (E.2.1 92), .int 0, .int 0, .int 0, .int 0, .ref (E.2.1 93), .ref (E.2.1 94), .int 0, .ref (E.2.1 95), .int 0]) : va_E)) :: sl E 74 22)) (nx' := 96) rfl rfl ?_
  refine zn_eq (ws' := sl E 73 23) (nx' := 96) (sl_cons E 73 22 rfl) rfl ?_
  exact zn_vret C dX12_init_175 rfl rfl rfl rfl
end
section
def R_law : String := "ToWhoNeedsLaw"
def lw_P (b : Addr) (xs : List Int32) (args : Array Value) (s : State) : Prop := args = #[.ref b] ∧ s.IntsAt b xs ∧ xs.length ≤ 256 ∧ (Jvm.Cond.and given_1 narrow_1).before args s = true
/-- what holds at the law's entry: the machine, the code, the tables' words (any of lw_tbl by 'hts w (by decide +kernel)'), the script of L ints xs at the cell b, what the Statement gives of the start (any of its parts by flat_of_before) -/
def lw_At (p : Program) (s : State) (m : MethodId) (meth : Method) (c : Code) (b L : Nat) (xs : Nat → Int32) : Prop :=
  p.tables.exec = Jvm.exec ∧ c.code = code ∧ meth.sig.returnType = ret ∧ c.maxLocals = 4 ∧ s.vm.findClass R_law = some m.cls ∧ (∀ w ∈ lw_tbl, w.before #[Value.ref b] s = true) ∧ va_X b L xs s s.heap ∧ b < s.heap.size ∧ meth.locks = false ∧ (Jvm.Cond.and given_1 narrow_1).before #[Value.ref b] s = true
theorem lw_pre_spec {args : Array Value} {s : State} (h : (Jvm.Cond.and given_1 narrow_1).before args s = true) (hr : rest_1_c.before args s = true) : ∃ (b : Addr) (xs : List Int32), lw_P b xs args s := by
  have hs := flat_of_before _ h
  have hq := flat_of_before _ hr
  have hc : (Cond.count 1).before args s = true := hs _ (by decide +kernel)
  have harr : (Cond.arrayOf (.arg 0) .int).before args s = true := hs _ (by decide +kernel)
  have hle : (Cond.le (.length (.arg 0)) (.int 256)).before args s = true := hs _ (by decide +kernel)
  have hlen : (Cond.isInt (.length (.arg 0))).before args s = true := hq _ (by decide +kernel)
  have hall : (Cond.all (.arg 0) (.isInt (.elem (.arg 0) (.index 0)))).before args s = true := hq _ (by decide +kernel)
  obtain ⟨b, xs, hb, hx⟩ := State.ints_of_pre rfl harr hlen hall
  have hsm : xs.length < 2 ^ 31 := hx.choose_spec.2.2.2
  have hev : (Term.length (.arg 0)).eval args s none [] s = some (.int xs.length.toInt32) := hx.length_eval hb
  have hv := Cond.le_ints hev (show (Term.int 256).eval args s none [] s = some (.int 256) from rfl)
  have hd : xs.length.toInt32 ≤ 256 := by
    simpa [Cond.before, Cond.holds, hv] using hle
  have hN : xs.length ≤ 256 := (Int32.ofNat_le_ofNat hsm (by decide)).mp (show Int32.ofNat xs.length ≤ Int32.ofNat 256 from hd)
  exact ⟨b, xs, Cond.one_arg hc (show args[0]? = some (.ref b) from hb), hx, hN, h⟩
end
section
theorem t_21 : Jvm.Cond.classLink "ToWhoNeedsLaw" (7 : Nat) "ToWhoNeeds" ∈ WT := wt_of (List.mem_of_getElem? (i := 86) (by decide +kernel)) rfl
theorem t_22 : Jvm.Cond.instantiable "ToWhoNeeds" (8 : Nat) ∈ WT := wt_of (List.mem_of_getElem? (i := 87) (by decide +kernel)) rfl
theorem t_23 : Jvm.Cond.methodLink "ToWhoNeedsLaw" (9 : Nat) ({ cls := "ToWhoNeeds", name := "<init>", desc := "()V" } : Jvm.MethodName) ∈ WT := wt_of (List.mem_of_getElem? (i := 88) (by decide +kernel)) rfl
theorem t_24 : Jvm.Cond.instanceMethod ({ cls := "ToWhoNeeds", name := "<init>", desc := "()V" } : Jvm.MethodName) ∈ WT := wt_of (List.mem_of_getElem? (i := 89) (by decide +kernel)) rfl
theorem t_839 : Jvm.Cond.classLink "ToWhoNeedsLaw" (10 : Nat) "ToWhoNeedsModel" ∈ WT := wt_of (List.mem_of_getElem? (i := 904) (by decide +kernel)) rfl
theorem t_840 : Jvm.Cond.instantiable "ToWhoNeedsModel" (39 : Nat) ∈ WT := wt_of (List.mem_of_getElem? (i := 905) (by decide +kernel)) rfl
theorem t_841 : Jvm.Cond.methodLink "ToWhoNeedsLaw" (12 : Nat) ({ cls := "ToWhoNeedsModel", name := "<init>", desc := "()V" } : Jvm.MethodName) ∈ WT := wt_of (List.mem_of_getElem? (i := 906) (by decide +kernel)) rfl
theorem t_842 : Jvm.Cond.instanceMethod ({ cls := "ToWhoNeedsModel", name := "<init>", desc := "()V" } : Jvm.MethodName) ∈ WT := wt_of (List.mem_of_getElem? (i := 907) (by decide +kernel)) rfl
section ZLAW
variable {E : Ev} {p : Program} {l : Launch} {e : Env} {R : Room} {s : State} {m : MethodId} {args : Array Value} {below : List Frame} {meth : Method} {c : Code} {Q : State → Prop} {kc ks pc : Nat} {ls : Array Slot} {st : List Value}
theorem zl_go {mc2 ms2 q : Nat} {pre : va_W} {x : va_E} {P2 : va_W × Nat} {a : Array Value} {H : Heap} {locs : List Loc} {stk : List Value} (hE : Ad E) (hz : H.size = E.2.1 (q + 1)) (hP : va_P E.1 vwC (pre ++ [(E.2.1 q, x)]) H) (hD : va_D (Aq E 0) (pre ++ [(E.2.1 q, x)])) (hS : va_S (Aq E 0) s.heap H locs)
    (hr : va_Run p l e R s m args below meth c H locs kc ks mc2 ms2 (F0 m pc ls stk) st (PostN E q P2 a) (Aq E q))
    (kk : ∀ (H1 : Heap) (locs1 : List Loc), H1.size = E.2.1 P2.2 → va_P E.1 vwC (pre ++ P2.1) H1 → va_D (Aq E 0) (pre ++ P2.1) → va_S (Aq E 0) s.heap H1 locs1 → W p l e R s m args below meth c H1 locs1 (kc + mc2) (ks + ms2) Q (F0 m (pc + 3) ls st)) : W p l e R s m args below meth c H locs kc ks Q (F0 m pc ls stk) := by
  have hqa : E.2.1 0 ≤ E.2.1 q := by rw [hE q]; omega
  have hlast : (pre ++ [(E.2.1 q, x)])[pre.length]? = some (E.2.1 q, x) := by rw [List.getElem?_append_right (Nat.le_refl _), Nat.sub_self]; rfl
  have hpre : ∀ (i : Nat) (y : Nat × va_E), pre[i]? = some y → (pre ++ [(E.2.1 q, x)])[i]? = some y := fun i y hy => by
    rw [List.getElem?_append_left (List.getElem?_eq_some_iff.mp hy).1]; exact hy
  have hlow : ∀ (i : Nat) (y : Nat × va_E), pre[i]? = some y → y.1 < E.2.1 q := by
    intro i y hy
    have h1 := (hP i y (hpre i y hy)).lt
    have h2 : y.1 ≠ E.2.1 q := fun h => by
      have := hD.1 i pre.length y (E.2.1 q, x) (hpre i y hy) hlast h
      have := (List.getElem?_eq_some_iff.mp hy).1
      omega
    rw [hz, hE (q + 1)] at h1
    rw [hE q] at h2 ⊢
    omega
  intro T hT S
  obtain ⟨v, st₀, t, T', L, h0, X', hL, e1, e2, ⟨⟨hv, hs1, hp1, hd1⟩, hzz, hkk⟩, stp⟩ := hr T hT S
  have hv' : v = none := by injection hv
  subst hv'
  rw [h0] at hzz hkk
  obtain ⟨t2, a1, b1⟩ := kk T'.heap (locs ++ L) (by rw [e1]; exact hs1)
    (va_P.app (fun i y hy => ((hP i y (hpre i y hy))).kept (by rw [e1]; exact hkk y.1 ((hP i y (hpre i y hy)).lt) (fun h => absurd (hlow i y hy) (Nat.not_lt.mpr h)))) (by rw [e1]; exact hp1))
    (va_D.app ⟨fun i j y z hi hj hyz => hD.1 i j y z (hpre i y hi) (hpre j z hj) hyz, fun i y hy => hD.2 i y (hpre i y hy)⟩ (hd1.weaken (fun _ y _ h => Nat.le_trans hqa h)) (fun i j y z hy hz' hyz => by
      have h1 := hlow i y hy
      have h2 : E.2.1 q ≤ z.1 := hd1.2 j z hz'
      omega))
    ⟨Nat.le_trans hS.1 (by rw [e1]; exact hzz), fun y h1 h2 => by rw [e1, hkk y (Nat.lt_of_lt_of_le h1 hS.1) (fun h => h2 (Nat.le_trans hqa h))]; exact hS.2.1 y h1 h2, fun y hy => by
      rcases List.mem_append.mp hy with h | h
      · exact hS.2.2 y h
      · exact Nat.le_trans hqa (hL y h)⟩ T' rfl X'
  exact ⟨t2, stp t2 a1, b1⟩
/-- the law makes an object of a class, and its constructor runs -/
theorem zl_make {Y2 : Yv} {CC : String} {TT : u_T} {N ci i j q mc2 ms2 : Nat} {ws : va_W} {H : Heap} {locs : List Loc} {fs : List Value} {P2 : va_W × Nat} (hE : Ad E) (hA : AmbN E s) (hx : p.tables.exec = Jvm.exec) (hb : c.code = cL_law) (hml : c.maxLocals = 4) (hown : s.vm.findClass RL = some m.cls) (hts : ∀ w ∈ WT, w.before args s = true) (hl : ls.size = 4) (ty0 : Nat → FieldType) (hty : ∀ k, k < N → parseFieldDescriptor (TT k).2.2.1 = some (ty0 k)) (hc : vwC[ci]? = some (CC, TT, N)) (hin : ∀ w ∈ u_ws CC TT N, w ∈ WT) (hw1 : Cond.classLink RL i CC ∈ WT) (hw2 : Cond.instantiable CC N ∈ WT) (hw3 : Cond.initialized CC ∈ WT) (hfs : ∀ j, j < N → defaultValue (ty0 j) = vp_V fs j)
    (hL : Lk Y2 Y2 0) (hr2 : Y2.2.2.2.1 = none) (hnm : Y2.1.name = "<init>") (hw4 : Cond.methodLink RL j Y2.1 ∈ WT) (hw5 : Cond.instanceMethod Y2.1 ∈ WT) (hfr : Y2.2.2.2.2.1 + 1 ≤ R.frames) (hlo : 8 + (Y2.2.2.1 + 11) + Y2.2.2.2.2.2 ≤ R.locals) (hkc : kc + 1 ≤ R.cells) (hks : ks + N ≤ R.slots) (hkc2 : kc + 1 + mc2 ≤ R.cells) (hks2 : ks + N + ms2 ≤ R.slots)
    (d1 : decode cL_law pc = .ok (.new i, 3)) (d2 : decode cL_law (pc + 3) = .ok (.dup, 1)) (d3 : decode cL_law (pc + 4) = .ok (.invokespecial j, 3)) (hM : Cn l E Y2 mc2 ms2 q [.ref (E.2.1 q)] (.inr (ci, fs)) P2)
    (hz : H.size = E.2.1 q) (hP : va_P E.1 vwC ws H) (hD : va_D (Aq E 0) ws) (hS : va_S (Aq E 0) s.heap H locs)
    (kk : ∀ (H1 : Heap) (locs1 : List Loc), H1.size = E.2.1 P2.2 → va_P E.1 vwC (ws ++ P2.1) H1 → va_D (Aq E 0) (ws ++ P2.1) → va_S (Aq E 0) s.heap H1 locs1 → W p l e R s m args below meth c H1 locs1 (kc + 1 + mc2) (ks + N + ms2) Q (F0 m (pc + 7) ls [.ref (E.2.1 q)])) : W p l e R s m args below meth c H locs kc ks Q (F0 m pc ls []) := by
  have hKn := hA.1.1 ci _ hc
  have hqa : E.2.1 0 ≤ E.2.1 q := by rw [hE q]; omega
  refine W.newcK hx hb hown (hts _ hw1) (hts _ hw2) (hts _ hw3) rfl d1 hkc hks hKn.2.1 hz fun H1 kC hkC e1 z1 o1 => ?_
  have hk : ∀ (j : Nat) (x : Nat × va_E), ws[j]? = some x → H1[x.1]? = H[x.1]? := fun j x hx => o1 x.1 (by rw [← hz]; exact (hP j x hx).lt)
  have hP1 : va_P E.1 vwC (ws ++ [(E.2.1 q, .inr (ci, fs))]) H1 := (hP.kept hk).app (fun j x hx => by
    have hj : j < 1 := (List.getElem?_eq_some_iff.mp hx).1
    rw [show j = 0 by omega] at hx
    cases hx
    exact ⟨_, hc, (u_born ty0 hts hin hKn hkC e1 hty).to hfs⟩)
  have hD1 : va_D (Aq E 0) (ws ++ [(E.2.1 q, .inr (ci, fs))]) := hD.push hP hz.symm hqa
  have hS1 : va_S (Aq E 0) s.heap H1 locs := ⟨Nat.le_trans hS.1 (by rw [z1, ← hz]; omega), fun x h1 h2 => (o1 x (by rw [← hz]; exact Nat.lt_of_lt_of_le h1 hS.1)).trans (hS.2.1 x h1 h2), hS.2.2⟩
  have hz1 : H1.size = E.2.1 (q + 1) := by rw [z1, hE (q + 1), hE q]; omega
  refine lv_dup hx hb d2 rfl ?_
  have hL1 := hL.1
  rw [hr2] at hL1
  have hM' := hM
  unfold Cn at hM'
  rw [hr2] at hM'
  exact zl_go hE hz1 hP1 hD1 hS1 (va_runI (As := []) (rest := [.ref (E.2.1 q)]) (n := 0) (bytes := Y2.2.1) (maxL := Y2.2.2.1) ⟨hx, hb, hml, hown, hts⟩ hM' ⟨⟨rfl, rfl, hfr, hlo, pay_in hts (wt_good hL1), List.mem_cons_self, hts _ hL1, hts _ hL.2.1, hL.2.2.1, len_of hL.2.2.2, hts _ hw4⟩, hnm, hts _ hw5⟩ ⟨preN_blind, fun U hU hW => ⟨rfl, by rw [hU]; exact hz1, hA.mov hW, by rw [hU]; exact zn_last hP1⟩⟩ rfl rfl hl rfl (Nat.le_of_ble_eq_true rfl) d3 ⟨hkc2, hks2⟩) kk
end ZLAW
/-- at the law's entry: the classes' numbers, and what the constructors ask -/
theorem amb_start {p : Program} {s : State} {m : MethodId} {meth : Method} {c : Code} {b L : Nat} {xs : Nat → Int32} (C0 : lw_At p s m meth c b L xs) : ∃ E : Ev, E.2.1 = (fun k => s.heap.size + k) ∧ AmbN E s := by
  obtain ⟨hx, hb, hr, hml, hown, hts, hX, hbl, hlocks, hgv⟩ := C0
  obtain ⟨c0, i0, k0⟩ := u_known (C := RX1) (T := TX1) (N := 1) (n := 1) hts (fun w h => (List.mem_filter.mp (in_X1 w h)).1) (hts _ (List.mem_filter.mp t_200).1)
  obtain ⟨c1, i1, k1⟩ := u_known (C := RX2) (T := TX2) (N := 5) (n := 5) hts (fun w h => (List.mem_filter.mp (in_X2 w h)).1) (hts _ (List.mem_filter.mp t_158).1)
  obtain ⟨c2, i2, k2⟩ := u_known (C := RX3) (T := TX3) (N := 1) (n := 1) hts (fun w h => (List.mem_filter.mp (in_X3 w h)).1) (hts _ (List.mem_filter.mp t_208).1)
  obtain ⟨c3, i3, k3⟩ := u_known (C := RX4) (T := TX4) (N := 2) (n := 2) hts (fun w h => (List.mem_filter.mp (in_X4 w h)).1) (hts _ (List.mem_filter.mp t_61).1)
  obtain ⟨c4, i4, k4⟩ := u_known (C := RX5) (T := TX5) (N := 3) (n := 3) hts (fun w h => (List.mem_filter.mp (in_X5 w h)).1) (hts _ (List.mem_filter.mp t_36).1)
  obtain ⟨c5, i5, k5⟩ := u_known (C := RX6) (T := TX6) (N := 1) (n := 1) hts (fun w h => (List.mem_filter.mp (in_X6 w h)).1) (hts _ (List.mem_filter.mp t_224).1)
  obtain ⟨c6, i6, k6⟩ := u_known (C := RX7) (T := TX7) (N := 4) (n := 4) hts (fun w h => (List.mem_filter.mp (in_X7 w h)).1) (hts _ (List.mem_filter.mp t_134).1)
  obtain ⟨c7, i7, k7⟩ := u_known (C := RX8) (T := TX8) (N := 1) (n := 1) hts (fun w h => (List.mem_filter.mp (in_X8 w h)).1) (hts _ (List.mem_filter.mp t_216).1)
  obtain ⟨c8, i8, k8⟩ := u_known (C := RX9) (T := TX9) (N := 11) (n := 11) hts (fun w h => (List.mem_filter.mp (in_X9 w h)).1) (hts _ (List.mem_filter.mp t_30).1)
  obtain ⟨c9, i9, k9⟩ := u_known (C := RX10) (T := TX10) (N := 1) (n := 1) hts (fun w h => (List.mem_filter.mp (in_X10 w h)).1) (hts _ (List.mem_filter.mp t_187).1)
  obtain ⟨c10, i10, k10⟩ := u_known (C := RX11) (T := TX11) (N := 8) (n := 8) hts (fun w h => (List.mem_filter.mp (in_X11 w h)).1) (hts _ (List.mem_filter.mp t_22).1)
  obtain ⟨c11, i11, k11⟩ := u_known (C := RX12) (T := TX12) (N := 39) (n := 39) hts (fun w h => (List.mem_filter.mp (in_X12 w h)).1) (hts _ (List.mem_filter.mp t_840).1)
  obtain ⟨cI, kI, compI, a1, a2, a3⟩ := Cond.arrayClass_spec (hts _ (List.mem_filter.mp t_59).1)
  have hao : va_AO "ToWhoNeeds$Law" s := va_AO.of (hts _ (List.mem_of_getElem? (i := 250) (by decide +kernel)))
  obtain ⟨compL, cL, kL, b1, b2, b3, b4, b5⟩ := Cond.arrayOver_spec hao
  refine ⟨((fun k => [c0, c1, c2, c3, c4, c5, c6, c7, c8, c9, c10, c11].getD k 0, fun k => [i0, i1, i2, i3, i4, i5, i6, i7, i8, i9, i10, i11].getD k i0), (fun k => s.heap.size + k), (fun k => if k = 0 then cI else cL)), rfl, ⟨fun k q hq => ?_, fun k q hq => ?_⟩, fun w hw => ?_, hao, ?_⟩
  · match k, hq with
    | 0, hq => cases hq; exact k0
    | 1, hq => cases hq; exact k1
    | 2, hq => cases hq; exact k2
    | 3, hq => cases hq; exact k3
    | 4, hq => cases hq; exact k4
    | 5, hq => cases hq; exact k5
    | 6, hq => cases hq; exact k6
    | 7, hq => cases hq; exact k7
    | 8, hq => cases hq; exact k8
    | 9, hq => cases hq; exact k9
    | 10, hq => cases hq; exact k10
    | 11, hq => cases hq; exact k11
    | k + 12, hq => simp [vwC] at hq
  · match k, hq with
    | 0, hq => cases hq; exact ⟨fun n z => ⟨fun k h => (by cases h), kI, a2, compI, a3⟩, a1⟩
    | 1, hq => cases hq; exact ⟨fun n z => ⟨fun k h => (by cases h), kL, b3, compL, b4⟩, kL, compL, b3, b4, b1, b5⟩
    | k + 2, hq => simp at hq
  · have h1 := List.mem_filter.mp hw
    have h2 := hts w (List.mem_append_right _ h1.1)
    have h3 := h1.2
    cases w <;> first | exact va_Nw.of rfl h2 | (exact absurd h3 (by simp [isNest]))
  · intro C hC
    have hm : Cond.castable C "ToWhoNeeds$Law" ∈ lw_tbl := by
      have : C = "ToWhoNeeds$Sum" ∨ C = "ToWhoNeeds$Met" ∨ C = "ToWhoNeeds$Most" ∨ C = "ToWhoNeeds$Second" ∨ C = "ToWhoNeeds$ReadOn" := by simpa [lawCs] using hC
      rcases this with rfl | rfl | rfl | rfl | rfl
      · exact List.mem_of_getElem? (i := 1354) (by decide +kernel)
      · exact List.mem_of_getElem? (i := 1355) (by decide +kernel)
      · exact List.mem_of_getElem? (i := 1356) (by decide +kernel)
      · exact List.mem_of_getElem? (i := 1357) (by decide +kernel)
      · exact List.mem_of_getElem? (i := 1358) (by decide +kernel)
    exact va_Nw.of rfl (hts _ hm)
theorem sum_low : ∀ (n : Nat) (low : Nat → Nat) (l : List Nat), (∀ k, k < n → ∃ v, l[k]? = some v ∧ low k ≤ v) → ((List.range n).map low).sum ≤ l.sum
  | 0, _, _, _ => by simp
  | n + 1, low, [], h => by
    obtain ⟨v, hv, -⟩ := h 0 (by omega)
    simp at hv
  | n + 1, low, x :: l, h => by
    have ih := sum_low n (fun k => low (k + 1)) l (fun k hk => by
      obtain ⟨v, hv, h2⟩ := h (k + 1) (by omega)
      exact ⟨v, by simpa using hv, h2⟩)
    obtain ⟨v, hv, h0⟩ := h 0 (by omega)
    have hv' : x = v := by simpa using hv
    subst hv'
    have e : ((List.range (n + 1)).map low).sum = low 0 + ((List.range n).map (fun k => low (k + 1))).sum := by
      rw [List.range_succ_eq_map, List.map_cons, List.map_map, List.sum_cons]
      rfl
    rw [e, List.sum_cons]
    omega
/-- what the arrays among the places hold at least -/
def arrLow (k : Nat) : Nat := if (kd k).1 = 8 ∨ (kd k).1 = 9 then (kd k).2 else 0
theorem arrLow_sum : ((List.range 96).map arrLow).sum = 1128 := by decide +kernel
theorem wl_big {E : Ev} {H : Heap} {b : Nat} (hE : ∀ k, E.2.1 k = b + k) (hP : va_P E.1 vwC (wl E σ0) H) : 1128 ≤ ((H.toList.drop b).map (fun x => x.slots.size)).sum := by
  rw [← arrLow_sum]
  refine sum_low 96 arrLow _ (fun k hk => ?_)
  have h := hP k _ (wl_get E σ0 hk)
  have hg : ∀ cell : Cell, H[E.2.1 k]? = some cell → ((H.toList.drop b).map (fun x => x.slots.size))[k]? = some cell.slots.size := by
    intro cell hc
    rw [List.getElem?_map, List.getElem?_drop, ← hE k, Array.getElem?_toList, hc]
    rfl
  unfold va_at at h
  by_cases h8 : (kd k).1 = 8
  · have e : wc E σ0 k = .inl (E.2.2 0, (kd k).2, .inl (σ0 k)) := by unfold wc; rw [h8]; rfl
    rw [e] at h
    refine ⟨_, hg _ h, ?_⟩
    show arrLow k ≤ (vp_cell (E.2.2 0) ((kd k).2, .inl (σ0 k))).slots.size
    rw [vp_cell_i, arrV_size]
    simp [arrLow, h8]
  by_cases h9 : (kd k).1 = 9
  · have e : wc E σ0 k = .inl (E.2.2 1, (kd k).2, .inr (.inr (.inr (.inr (lawsAt E))))) := by unfold wc; rw [h9]; rfl
    rw [e] at h
    refine ⟨_, hg _ h, ?_⟩
    show arrLow k ≤ (vp_cell (E.2.2 1) ((kd k).2, .inr (.inr (.inr (.inr (lawsAt E)))))).slots.size
    rw [vp_cell_q, arrV_size]
    simp [arrLow, h9]
  · have hz : arrLow k = 0 := by simp [arrLow, h8, h9]
    rw [hz]
    have hex : ∃ cell : Cell, H[E.2.1 k]? = some cell := by
      have hl : E.2.1 k < H.size := (hP k _ (wl_get E σ0 hk)).lt
      exact ⟨H[E.2.1 k], by simp [hl]⟩
    obtain ⟨cell, hc⟩ := hex
    exact ⟨_, hg cell hc, Nat.zero_le _⟩
def R1281 : Room := { frames := 12, cells := 96, slots := 1281, locals := 434 }
/-- the law at its loop's head, with so many new slots -/
theorem many_here {p : Program} {l : Launch} {e : Env} {R : Room} {s : State} {m : MethodId} {args : Array Value} {below : List Frame} {meth : Method} {c : Code} {kc ks : Nat} {locs : List Loc} {H : Heap} {g : JFrame} (hbig : 1128 ≤ ((H.toList.drop s.heap.size).map (fun x => x.slots.size)).sum) : W p l e R s m args below meth c H locs kc ks (fun t => s.slotsUsed + 1128 ≤ t.slotsUsed) g := by
  intro T hT X
  refine ⟨T.setTop g, Steps.refl _, ?_⟩
  have h : T.slotsUsed = s.slotsUsed + ((T.heap.toList.drop s.heap.size).map (fun x => x.slots.size)).sum := X.same.2.2.2.1
  have h2 : (T.setTop g).slotsUsed = T.slotsUsed := rfl
  rw [hT] at h
  show s.slotsUsed + 1128 ≤ (T.setTop g).slotsUsed
  omega
set_option maxHeartbeats 4000000 in
set_option maxRecDepth 20000 in
/-- in a room that is large enough, on EVERY script, the law comes to its loop's head, and 1128 slots have come -/
theorem law_many {p : Program} {l : Launch} {e : Env} {s : State} {m : MethodId} {below : List Frame} {meth : Method} {c : Code} {b L : Nat} {xs : Nat → Int32} (C0 : lw_At p s m meth c b L xs) : W p l e R1281 s m #[Value.ref b] below meth c s.heap [] 0 0 (fun t => s.slotsUsed + 1128 ≤ t.slotsUsed) (entryFrame m ([Value.ref b] : List Value).toArray 4) := by
  obtain ⟨E, hEa, hA⟩ := amb_start C0
  obtain ⟨hx, hb, hr, hml, hown, hts, hX, hbl, hlocks, hgv⟩ := C0
  have hE0 : ∀ k, E.2.1 k = s.heap.size + k := fun k => by rw [hEa]
  have hE : Ad E := fun k => by rw [hE0 k, hE0 0]; omega
  have htw : ∀ w ∈ WT, w.before #[Value.ref b] s = true := fun w hw => hts w (List.mem_filter.mp hw).1
  have hbA : ¬ Aq E 0 b := by show ¬ E.2.1 0 ≤ b; rw [hE0 0]; omega
  have hl := lv_entry ([.ref b]) (n := 4) (Nat.le_of_ble_eq_true rfl)
  rw [lg_entry_eq]
  generalize (lg_sl ([.ref b]) ++ List.replicate (4 - (lg_sl ([.ref b])).length) Slot.unset).toArray = ls at hl ⊢
  have hl : lv_has ls 4 [(0, .ref b)] := hl
  refine zl_make (Y2 := YX11_init) (CC := RX11) (TT := TX11) (N := 8) (ci := 10) (q := 0) (ws := []) (fs := [.null, .null, .null, .null, .null, .null, .null, .int 0]) (mc2 := 72) (ms2 := 442) hE hA hx hb hml hown htw hl.1 tyX11 tyX11_ok rfl in_X11 t_21 t_22 t_1 (by decide +kernel) lk_X11_init rfl rfl t_23 t_24 (Nat.le_of_ble_eq_true rfl) (Nat.le_of_ble_eq_true rfl) (Nat.le_of_ble_eq_true rfl) (Nat.le_of_ble_eq_true rfl) (Nat.le_of_ble_eq_true rfl) (Nat.le_of_ble_eq_true rfl) dL_law_0 dL_law_3 dL_law_4 (cn_X11 l E hE) (by rw [hE0 0]; rfl) (fun k q h => by simp at h) ⟨fun i j x y h => by simp at h, fun k q h => by simp at h⟩ va_S.rf (fun H locs hz hP hD hS => ?_)
  refine lv_astore_n (lv' := [(1, .ref (E.2.1 0)), (0, .ref b)]) hx hb dL_law_7 rfl hl (by decide) rfl (fun ls hl => ?_)
  refine zl_make (Y2 := YX12_init) (CC := RX12) (TT := TX12) (N := 39) (ci := 11) (q := 73) (fs := [.null, .null, .null, .null, .null, .null, .null, .null, .null, .int 0, .int 0, .int 0, .int 0, .int 0, .int 0, .int 0, .int 0, .null, .null, .null, .null, .null, .null, .null, .null, .int 0, .int 0, .int 0, .null, .null, .int 0, .int 0, .int 0, .int 0, .null, .null, .int 0, .null, .int 0]) (mc2 := 22) (ms2 := 792) hE hA hx hb hml hown htw hl.1 tyX12 tyX12_ok rfl in_X12 t_839 t_840 t_13 (by decide +kernel) lk_X12_init rfl rfl t_841 t_842 (Nat.le_of_ble_eq_true rfl) (Nat.le_of_ble_eq_true rfl) (Nat.le_of_ble_eq_true rfl) (Nat.le_of_ble_eq_true rfl) (Nat.le_of_ble_eq_true rfl) (Nat.le_of_ble_eq_true rfl) dL_law_8 dL_law_11 dL_law_12 (cn_X12 l E hE) hz hP hD hS (fun H locs hz hP hD hS => ?_)
  have hP : va_P E.1 vwC (wl E σ0) H := by
    rw [wl_sl, ← sl_app E 0 73 23 (j := 73) rfl]
    exact hP
  refine lv_astore_n (lv' := [(2, .ref (E.2.1 73)), (1, .ref (E.2.1 0)), (0, .ref b)]) hx hb dL_law_15 rfl hl (by decide) rfl (fun ls hl => ?_)
  exact many_here (wl_big hE0 hP)
end
section
theorem not_within {t : State} {below : List Frame} {o : Outcome} (h : Ended t below o) : ¬ Within t below := by
  rintro ⟨above, h1, h2, h3⟩
  cases o with
  | threw a =>
    have h4 : t.frames = .throwing a :: below := h
    rw [h4] at h1
    have h5 : [Frame.throwing a] ++ below = above ++ below := h1
    exact h3 a (List.append_cancel_right h5).symm
  | returned v =>
    have hlen : t.frames.length = below.length := by
      unfold Ended at h
      split at h
      · rename_i hh
        cases hh
      · rename_i hh
        split at h
        · obtain ⟨_, _, _, _, _, h4⟩ := h
          rw [h4]; simp
        · rw [h]; simp
        · rw [h]; simp
        · rw [h.2]
    rw [h1, List.length_append] at hlen
    exact h2 (List.length_eq_zero_iff.mp (by omega))
/-- the first step of an invocation: its body's frame stands -/
theorem enters {p : Program} {l : Launch} {y : MethodName} {S : Spec} {cc : ByteArray} {n : Nat} {r : Option FieldType} {e : Env} {s : State} {m : MethodId} {args : Array Value} {below : List Frame} {meth : Method} {c : Code} {s₁ : State} (B : BodyLoose p l y S cc n r e s m args below meth c s₁) (hc : meth.code = some c) (hn : c.maxLocals = n) (hrun : s.status = .running) (hable : s.curStatus? = some .runnable) (halone : s.alone = true) {t : State} (hs : Steps p.tables e below (s₁.setTop (entryFrame m args n)) t) : Steps p.tables e below s t := by
  have hcur := B.cur
  have ht1 : s₁.topJava? = some (entryFrame m args n) := State.topJava?_of_frames B.frames₁
  have hfull : e.platform.stackFull (s.setFrames below).me (s.setFrames below).frames c.maxLocals = false := by
    obtain ⟨-, h1, -, h2⟩ := State.hasRoom_stack B.room
    rw [B.frames, List.length_cons] at h1
    rw [State.localsInUse_invoking B.frames B.method hc] at h2
    have hw := stackUse_le_stackWeight below
    rw [State.frames_setFrames _ hcur]
    exact Platform.stackFull_eq_false (by rw [State.stackLimits_setFrames]; omega) (by rw [State.stackLimits_setFrames]; omega)
  have hstep : (stepThread p.tables e s).1 = s₁.setTop (entryFrame m args n) := by
    rw [State.setTop_self ht1, B.state, stepThread_invoking B.frames, (doInvoke_java (s := s.setFrames below) (e := e) (meth := meth) (code := c) B.method hc B.notSynchronized hfull).1]
    simp only [State.pushFrame, State.frames_setFrames _ hcur, State.setFrames_setFrames, hn, entryFrame]
  exact Steps.head ⟨hrun, hable, halone⟩ ⟨[.invoking m args], B.frames, by simp, by simp⟩ (hstep ▸ hs)
set_option maxHeartbeats 4000000 in
/-- from every start with room for 1281 slots, on every script, the law's run comes to a moment with 1128 new slots -/
theorem many_come {l : Launch} {p : Program} {e : Env} {s : State} {m : MethodId} {args : Array Value} {below : List Frame} (ha : l.admits e) (hc : FairCas e.choices) (hk : FairClock e.choices) (hf : s.frames = .invoking m args :: below) (happ : (headSpec (Jvm.Cond.code x code maxLocals ret :: tables_1) R1281).appliesLoose x e.platform s = true) {b : Addr} {xs : List Int32} (hP : lw_P b xs args s) : ∃ t, Steps p.tables e below s t ∧ s.slotsUsed + 1128 ≤ t.slotsUsed := by
  obtain ⟨hrun, hable, halone, hname, hhears, hinit, hroom, hpre⟩ := (Spec.appliesLoose_iff hf).mp happ
  obtain ⟨meth, c, hmeth, hcode, hbytes, hlocals, hret, hlocks, -, -⟩ := Cond.code_spec hname (atoms_spec (ws := Jvm.Cond.code x code maxLocals ret :: tables_1) hpre _ List.mem_cons_self)
  have hcur := State.cur_lt_of_frames hf
  have hf1 : (s.setFrames (.java (entryFrame m args maxLocals) :: below)).frames = .java (entryFrame m args maxLocals) :: below := State.frames_setFrames _ hcur
  have hplain : (s.setFrames (.java (entryFrame m args maxLocals) :: below)).plainMethod m := by
    refine State.plainMethod.of_name fun k hk => ?_
    obtain ⟨k', hk', hn⟩ := className_of_methodNamed hname
    cases (show s.vm.classes[m.cls]? = some k from hk).symm.trans hk'
    rw [hn]; decide
  have hAt : At (s.setFrames (.java (entryFrame m args maxLocals) :: below)) m c below :=
    ⟨by rw [State.topJava?_of_frames hf1]; rfl, ⟨[], by rw [hf1]; rfl⟩, hrun, by simpa using hable, by simpa using halone, by rw [State.code?_eq]; simp [State.setFrames, hmeth, hcode], hplain⟩
  have B : BodyLoose p l x (headSpec (Jvm.Cond.code x code maxLocals ret :: tables_1) R1281) code maxLocals ret e s m args below meth c (s.setFrames (.java (entryFrame m args maxLocals) :: below)) :=
    ⟨ha, hc, hk, by cases p <;> rfl, hf, hname, hhears, hinit, hroom, hpre, hmeth, hret, hlocks, hbytes, rfl, hAt⟩
  have K : ∃ t, Steps p.tables e below ((s.setFrames (.java (entryFrame m args maxLocals) :: below)).setTop (entryFrame m args maxLocals)) t ∧ s.slotsUsed + 1128 ≤ t.slotsUsed := by
    obtain ⟨rfl, hx, hbd, hgv⟩ := hP
    obtain ⟨scr, harrAt, hlist, hof, hsmall⟩ := hx
    obtain ⟨hcb, hkn, -, -⟩ := State.arrayAt?_spec harrAt
    have hown : s.vm.findClass R_law = some m.cls := findClass_of_methodNamed hname
    have hts0 : ∀ c ∈ (Jvm.Cond.code x code maxLocals ret :: tables_1), c.before #[Value.ref b] s = true := atoms_spec (ws := Jvm.Cond.code x code maxLocals ret :: tables_1) hpre
    have hts : ∀ w ∈ lw_tbl, w.before #[Value.ref b] s = true := k2_hts_sels lw_privs (fun w hw => hts0 w (List.mem_cons_of_mem _ hw)) lw_privs_ok
    have X₀ : Stand p l e R1281 s m #[Value.ref b] below meth c _ [] 0 0 := Stand.of_body B
    have hsz : scr.slots.size = xs.length := by rw [← Array.length_toList, hlist, List.length_map]
    have hval : ∀ j : Nat, j < xs.length → scr.slots[j]? = some (.int (xs.getD j 0)) := fun j hj => by
      rw [← Array.getElem?_toList, hlist]
      simp [hj]
    have hbl : b < s.heap.size := (Array.getElem?_eq_some_iff.mp hcb).1
    have hX : va_X b xs.length (fun j => xs.getD j 0) s s.heap := ⟨scr, hcb, hof, hkn, hsz, hval⟩
    exact law_many ⟨B.exec, hbytes, hret, hlocals, hown, hts, hX, hbl, hlocks, hgv⟩ _ rfl X₀
  obtain ⟨t, h1, h2⟩ := K
  exact ⟨t, enters B hcode hlocals hrun hable halone h1, h2⟩
/-- the same machine with so many slots more -/
def roomier (e : Env) (k : Nat) : Env := { e with platform := { e.platform with maxSlots := e.platform.maxSlots + k } }
theorem roomier_admits {l : Launch} {e : Env} (k : Nat) (h : l.admits e) : l.admits (roomier e k) := by
  obtain ⟨h1, h2, h3, h4, h5, h6, h7, h8, h9⟩ := h
  exact ⟨h1, h2, h3, h4, congrArg (fun P : Platform => { P with maxSlots := e.platform.maxSlots + k }) h5, h6, h7, Nat.le_trans h8 (Nat.le_add_right _ k), h9⟩
/-- room_1 here: 169 slots more there -/
theorem roomier_room {e : Env} {s : State} (h : s.hasRoom e.platform room_1 = true) : s.hasRoom (roomier e 169).platform R1281 = true := by
  simp only [State.hasRoom, Bool.and_eq_true, decide_eq_true_eq] at h
  obtain ⟨⟨⟨⟨a1, a2, a3, a4, a5, a6⟩, a7⟩, a8⟩, a9⟩ := h
  refine State.hasRoom_of a6 a2 a4 a7 ?_ a9 a1
  show s.slotsUsed + 1281 ≤ e.platform.maxSlots + 169
  have h8 : s.slotsUsed + 1112 ≤ e.platform.maxSlots := a8
  omega
theorem roomier_room1 {e : Env} {s : State} (k : Nat) (h : s.hasRoom e.platform room_1 = true) : s.hasRoom (roomier e k).platform room_1 = true := by
  simp only [State.hasRoom, Bool.and_eq_true, decide_eq_true_eq] at h
  obtain ⟨⟨⟨⟨a1, a2, a3, a4, a5, a6⟩, a7⟩, a8⟩, a9⟩ := h
  exact State.hasRoom_of a6 a2 a4 a7 (Nat.le_trans a8 (Nat.le_add_right _ k)) a9 a1
/-- whatever end asks for the frame of 96 cells and 1112 slots is failed by every start that meets the premises -/
theorem arm_falls {Post : Tables → Env → Array Value → State → Outcome → State → Prop} (hPost : ∀ tb e a s o t, Post tb e a s o t → Framed s o t [] 96 1112) {l : Launch} {p : Program} {e : Env} {s : State} {m : MethodId} {args : Array Value} {below : List Frame} (hflags : l.flags = flags0) (hS : AtStart classFile x code maxLocals ret World_1 tables_1 room_1 Calls_1 rest_1 Pre_1 l p e s m args below) : ¬ ArmFor flags0 classFile x code maxLocals ret World_1 tables_1 room_1 Calls_1 rest_1 Pre_1 Post := by
  intro hC
  obtain ⟨hLs, hWd, ha, -, hc, hk, hf, hfit, hheap, happ, hcalls, hrest, hPre⟩ := hS
  obtain ⟨b, xs, hP⟩ := lw_pre_spec hPre hrest
  have hl := (Spec.applies_iff hf).mp happ
  have happ1 : (headSpec (Jvm.Cond.code x code maxLocals ret :: tables_1) room_1).applies x (roomier e 169).platform s = true := by
    obtain ⟨g1, g2, g3, g4, g5, g6, g7, g8⟩ := hl
    exact (Spec.applies_iff hf).mpr ⟨g1, g2, g3, g4, g5, g6, roomier_room1 169 g7, g8⟩
  have happ2 : (headSpec (Jvm.Cond.code x code maxLocals ret :: tables_1) R1281).appliesLoose x (roomier e 169).platform s = true := by
    obtain ⟨g1, g2, g3, g4, g5, g6, g7, g8⟩ := (Spec.appliesLoose_iff hf).mp ((Spec.applies_iff_loose hf).mp happ).1
    exact (Spec.appliesLoose_iff hf).mpr ⟨g1, g2, g3, g4, g5, g6, roomier_room g7, g8⟩
  obtain ⟨t, ⟨n1, e1, w1⟩, hbig⟩ := many_come (p := p) (e := roomier e 169) (roomier_admits 169 ha) hc hk hf happ2 hP
  obtain ⟨n2, o2, w2, -, e2, q2⟩ := hC l hflags hLs hWd p (roomier e 169) (roomier_admits 169 ha) hc hk s m args below hf hfit hheap happ1 ⟨hcalls, hrest, hPre⟩
  have hle : n1 ≤ n2 := Nat.le_of_not_lt fun h => not_within e2 (w1 n2 h)
  have hmono := (stepsAlone_heap_grows_add p.tables (roomier e 169) n1 (n2 - n1) s).2
  rw [show n1 + (n2 - n1) = n2 by omega, e1] at hmono
  have hF : Framed s o2 (stepsAlone p.tables (roomier e 169) n2 s) [] 96 1112 := hPost _ _ _ _ _ _ q2
  have h4 : (stepsAlone p.tables (roomier e 169) n2 s).slotsUsed = s.slotsUsed + (((stepsAlone p.tables (roomier e 169) n2 s).heap.toList.drop s.heap.size).map (fun x => x.slots.size)).sum := hF.2.2.2.2.2.1
  have h5 : (((stepsAlone p.tables (roomier e 169) n2 s).heap.toList.drop s.heap.size).map (fun x => x.slots.size)).sum ≤ 1112 := hF.2.2.2.2.2.2.1
  omega
/-- THE STATEMENT AS PRINTED IS FALSE, both its halves: its own witness is a start that fails them -/
theorem owed_1_falls : WitnessClaimed_1 → ¬ Claimed_1_1 := by
  rintro ⟨p, e, s, m, args, below, h⟩
  exact arm_falls (fun _ _ _ _ _ _ h => h.2) (l := launch0) rfl h
theorem owed_2_falls : WitnessClaimed_1 → ¬ Claimed_1_2 := by
  rintro ⟨p, e, s, m, args, below, h⟩
  exact arm_falls (fun _ _ _ _ _ _ h => h.2) (l := launch0) rfl h
/-- .. and that witness is proved, by the printed module beside these rows -/
theorem refuted_1 : ¬ Claimed_1_1 := owed_1_falls witness_1
theorem refuted_2 : ¬ Claimed_1_2 := owed_2_falls witness_1
theorem owed_refuted : ¬ (Claimed_1_1 ∧ Claimed_1_2) := fun h => refuted_1 h.1
theorem owed_refuted_both : ¬ Claimed_1_1 ∧ ¬ Claimed_1_2 ∧ ¬ (Claimed_1_1 ∧ Claimed_1_2) := ⟨refuted_1, refuted_2, owed_refuted⟩
end
section
/-- the printed witness's start with the EMPTY script in the place of its own -/
def fall_s : State := start1.aboutOf #[]
theorem fall_join {α : Type} (p : α → Bool) (n : Nat) (l : List α) (h1 : (l.take n).all p = true) (h2 : (l.drop n).all p = true) : l.all p = true := by
  rw [← List.take_append_drop n l, List.all_append, h1, h2]; rfl
set_option maxRecDepth 16384 in
theorem fall_o_1_0 : (tables_1_1.take 40).all (fun c => su_isCode c || c.before start1.args0 fall_s) = true := by decide +kernel
set_option maxRecDepth 16384 in
theorem fall_o_1_1 : ((tables_1_1.drop 40).take 40).all (fun c => su_isCode c || c.before start1.args0 fall_s) = true := by decide +kernel
set_option maxRecDepth 16384 in
theorem fall_o_1_2 : (((tables_1_1.drop 40).drop 40).take 40).all (fun c => su_isCode c || c.before start1.args0 fall_s) = true := by decide +kernel
set_option maxRecDepth 16384 in
theorem fall_o_1_3 : ((((tables_1_1.drop 40).drop 40).drop 40).take 40).all (fun c => su_isCode c || c.before start1.args0 fall_s) = true := by decide +kernel
set_option maxRecDepth 16384 in
theorem fall_o_1_4 : (((((tables_1_1.drop 40).drop 40).drop 40).drop 40).take 40).all (fun c => su_isCode c || c.before start1.args0 fall_s) = true := by decide +kernel
set_option maxRecDepth 16384 in
theorem fall_o_1_5 : (((((tables_1_1.drop 40).drop 40).drop 40).drop 40).drop 40).all (fun c => su_isCode c || c.before start1.args0 fall_s) = true := by decide +kernel
theorem fall_o_1 : tables_1_1.all (fun c => su_isCode c || c.before start1.args0 fall_s) = true := fall_join (fun c => su_isCode c || c.before start1.args0 fall_s) 40 tables_1_1 fall_o_1_0 (fall_join (fun c => su_isCode c || c.before start1.args0 fall_s) 40 (tables_1_1.drop 40) fall_o_1_1 (fall_join (fun c => su_isCode c || c.before start1.args0 fall_s) 40 ((tables_1_1.drop 40).drop 40) fall_o_1_2 (fall_join (fun c => su_isCode c || c.before start1.args0 fall_s) 40 (((tables_1_1.drop 40).drop 40).drop 40) fall_o_1_3 (fall_join (fun c => su_isCode c || c.before start1.args0 fall_s) 40 ((((tables_1_1.drop 40).drop 40).drop 40).drop 40) fall_o_1_4 (fall_o_1_5)))))
set_option maxRecDepth 16384 in
theorem fall_o_2_0 : (tables_1_2.take 40).all (fun c => su_isCode c || c.before start1.args0 fall_s) = true := by decide +kernel
set_option maxRecDepth 16384 in
theorem fall_o_2_1 : ((tables_1_2.drop 40).take 40).all (fun c => su_isCode c || c.before start1.args0 fall_s) = true := by decide +kernel
set_option maxRecDepth 16384 in
theorem fall_o_2_2 : (((tables_1_2.drop 40).drop 40).take 27).all (fun c => su_isCode c || c.before start1.args0 fall_s) = true := by decide +kernel
set_option maxRecDepth 16384 in
theorem fall_o_2_3 : ((((tables_1_2.drop 40).drop 40).drop 27).take 13).all (fun c => su_isCode c || c.before start1.args0 fall_s) = true := by decide +kernel
set_option maxRecDepth 16384 in
theorem fall_o_2_4 : (((((tables_1_2.drop 40).drop 40).drop 27).drop 13).take 20).all (fun c => su_isCode c || c.before start1.args0 fall_s) = true := by decide +kernel
set_option maxRecDepth 16384 in
theorem fall_o_2_5 : ((((((tables_1_2.drop 40).drop 40).drop 27).drop 13).drop 20).take 40).all (fun c => su_isCode c || c.before start1.args0 fall_s) = true := by decide +kernel
set_option maxRecDepth 16384 in
theorem fall_o_2_6 : (((((((tables_1_2.drop 40).drop 40).drop 27).drop 13).drop 20).drop 40).take 40).all (fun c => su_isCode c || c.before start1.args0 fall_s) = true := by decide +kernel
set_option maxRecDepth 16384 in
theorem fall_o_2_7 : (((((((tables_1_2.drop 40).drop 40).drop 27).drop 13).drop 20).drop 40).drop 40).all (fun c => su_isCode c || c.before start1.args0 fall_s) = true := by decide +kernel
theorem fall_o_2 : tables_1_2.all (fun c => su_isCode c || c.before start1.args0 fall_s) = true := fall_join (fun c => su_isCode c || c.before start1.args0 fall_s) 40 tables_1_2 fall_o_2_0 (fall_join (fun c => su_isCode c || c.before start1.args0 fall_s) 40 (tables_1_2.drop 40) fall_o_2_1 (fall_join (fun c => su_isCode c || c.before start1.args0 fall_s) 27 ((tables_1_2.drop 40).drop 40) fall_o_2_2 (fall_join (fun c => su_isCode c || c.before start1.args0 fall_s) 13 (((tables_1_2.drop 40).drop 40).drop 27) fall_o_2_3 (fall_join (fun c => su_isCode c || c.before start1.args0 fall_s) 20 ((((tables_1_2.drop 40).drop 40).drop 27).drop 13) fall_o_2_4 (fall_join (fun c => su_isCode c || c.before start1.args0 fall_s) 40 (((((tables_1_2.drop 40).drop 40).drop 27).drop 13).drop 20) fall_o_2_5 (fall_join (fun c => su_isCode c || c.before start1.args0 fall_s) 40 ((((((tables_1_2.drop 40).drop 40).drop 27).drop 13).drop 20).drop 40) fall_o_2_6 (fall_o_2_7)))))))
set_option maxRecDepth 16384 in
theorem fall_o_3_0 : (tables_1_3.take 40).all (fun c => su_isCode c || c.before start1.args0 fall_s) = true := by decide +kernel
set_option maxRecDepth 16384 in
theorem fall_o_3_1 : ((tables_1_3.drop 40).take 40).all (fun c => su_isCode c || c.before start1.args0 fall_s) = true := by decide +kernel
set_option maxRecDepth 16384 in
theorem fall_o_3_2 : (((tables_1_3.drop 40).drop 40).take 40).all (fun c => su_isCode c || c.before start1.args0 fall_s) = true := by decide +kernel
set_option maxRecDepth 16384 in
theorem fall_o_3_3 : ((((tables_1_3.drop 40).drop 40).drop 40).take 40).all (fun c => su_isCode c || c.before start1.args0 fall_s) = true := by decide +kernel
set_option maxRecDepth 16384 in
theorem fall_o_3_4 : (((((tables_1_3.drop 40).drop 40).drop 40).drop 40).take 40).all (fun c => su_isCode c || c.before start1.args0 fall_s) = true := by decide +kernel
set_option maxRecDepth 16384 in
theorem fall_o_3_5 : (((((tables_1_3.drop 40).drop 40).drop 40).drop 40).drop 40).all (fun c => su_isCode c || c.before start1.args0 fall_s) = true := by decide +kernel
theorem fall_o_3 : tables_1_3.all (fun c => su_isCode c || c.before start1.args0 fall_s) = true := fall_join (fun c => su_isCode c || c.before start1.args0 fall_s) 40 tables_1_3 fall_o_3_0 (fall_join (fun c => su_isCode c || c.before start1.args0 fall_s) 40 (tables_1_3.drop 40) fall_o_3_1 (fall_join (fun c => su_isCode c || c.before start1.args0 fall_s) 40 ((tables_1_3.drop 40).drop 40) fall_o_3_2 (fall_join (fun c => su_isCode c || c.before start1.args0 fall_s) 40 (((tables_1_3.drop 40).drop 40).drop 40) fall_o_3_3 (fall_join (fun c => su_isCode c || c.before start1.args0 fall_s) 40 ((((tables_1_3.drop 40).drop 40).drop 40).drop 40) fall_o_3_4 (fall_o_3_5)))))
end
section
set_option maxRecDepth 16384 in
theorem fall_o_4_0 : (tables_1_4.take 40).all (fun c => su_isCode c || c.before start1.args0 fall_s) = true := by decide +kernel
set_option maxRecDepth 16384 in
theorem fall_o_4_1 : ((tables_1_4.drop 40).take 40).all (fun c => su_isCode c || c.before start1.args0 fall_s) = true := by decide +kernel
set_option maxRecDepth 16384 in
theorem fall_o_4_2 : (((tables_1_4.drop 40).drop 40).take 40).all (fun c => su_isCode c || c.before start1.args0 fall_s) = true := by decide +kernel
set_option maxRecDepth 16384 in
theorem fall_o_4_3 : ((((tables_1_4.drop 40).drop 40).drop 40).take 38).all (fun c => su_isCode c || c.before start1.args0 fall_s) = true := by decide +kernel
set_option maxRecDepth 16384 in
theorem fall_o_4_4 : (((((tables_1_4.drop 40).drop 40).drop 40).drop 38).take 38).all (fun c => su_isCode c || c.before start1.args0 fall_s) = true := by decide +kernel
set_option maxRecDepth 16384 in
theorem fall_o_4_5 : ((((((tables_1_4.drop 40).drop 40).drop 40).drop 38).drop 38).take 38).all (fun c => su_isCode c || c.before start1.args0 fall_s) = true := by decide +kernel
set_option maxRecDepth 16384 in
theorem fall_o_4_6 : ((((((tables_1_4.drop 40).drop 40).drop 40).drop 38).drop 38).drop 38).all (fun c => su_isCode c || c.before start1.args0 fall_s) = true := by decide +kernel
theorem fall_o_4 : tables_1_4.all (fun c => su_isCode c || c.before start1.args0 fall_s) = true := fall_join (fun c => su_isCode c || c.before start1.args0 fall_s) 40 tables_1_4 fall_o_4_0 (fall_join (fun c => su_isCode c || c.before start1.args0 fall_s) 40 (tables_1_4.drop 40) fall_o_4_1 (fall_join (fun c => su_isCode c || c.before start1.args0 fall_s) 40 ((tables_1_4.drop 40).drop 40) fall_o_4_2 (fall_join (fun c => su_isCode c || c.before start1.args0 fall_s) 38 (((tables_1_4.drop 40).drop 40).drop 40) fall_o_4_3 (fall_join (fun c => su_isCode c || c.before start1.args0 fall_s) 38 ((((tables_1_4.drop 40).drop 40).drop 40).drop 38) fall_o_4_4 (fall_join (fun c => su_isCode c || c.before start1.args0 fall_s) 38 (((((tables_1_4.drop 40).drop 40).drop 40).drop 38).drop 38) fall_o_4_5 (fall_o_4_6))))))
set_option maxRecDepth 16384 in
theorem fall_o_5_0 : (tables_1_5.take 38).all (fun c => su_isCode c || c.before start1.args0 fall_s) = true := by decide +kernel
set_option maxRecDepth 16384 in
theorem fall_o_5_1 : ((tables_1_5.drop 38).take 38).all (fun c => su_isCode c || c.before start1.args0 fall_s) = true := by decide +kernel
set_option maxRecDepth 16384 in
theorem fall_o_5_2 : (((tables_1_5.drop 38).drop 38).take 38).all (fun c => su_isCode c || c.before start1.args0 fall_s) = true := by decide +kernel
set_option maxRecDepth 16384 in
theorem fall_o_5_3 : ((((tables_1_5.drop 38).drop 38).drop 38).take 38).all (fun c => su_isCode c || c.before start1.args0 fall_s) = true := by decide +kernel
set_option maxRecDepth 16384 in
theorem fall_o_5_4 : (((((tables_1_5.drop 38).drop 38).drop 38).drop 38).take 38).all (fun c => su_isCode c || c.before start1.args0 fall_s) = true := by decide +kernel
set_option maxRecDepth 16384 in
theorem fall_o_5_5 : ((((((tables_1_5.drop 38).drop 38).drop 38).drop 38).drop 38).take 38).all (fun c => su_isCode c || c.before start1.args0 fall_s) = true := by decide +kernel
set_option maxRecDepth 16384 in
theorem fall_o_5_6 : ((((((tables_1_5.drop 38).drop 38).drop 38).drop 38).drop 38).drop 38).all (fun c => su_isCode c || c.before start1.args0 fall_s) = true := by decide +kernel
theorem fall_o_5 : tables_1_5.all (fun c => su_isCode c || c.before start1.args0 fall_s) = true := fall_join (fun c => su_isCode c || c.before start1.args0 fall_s) 38 tables_1_5 fall_o_5_0 (fall_join (fun c => su_isCode c || c.before start1.args0 fall_s) 38 (tables_1_5.drop 38) fall_o_5_1 (fall_join (fun c => su_isCode c || c.before start1.args0 fall_s) 38 ((tables_1_5.drop 38).drop 38) fall_o_5_2 (fall_join (fun c => su_isCode c || c.before start1.args0 fall_s) 38 (((tables_1_5.drop 38).drop 38).drop 38) fall_o_5_3 (fall_join (fun c => su_isCode c || c.before start1.args0 fall_s) 38 ((((tables_1_5.drop 38).drop 38).drop 38).drop 38) fall_o_5_4 (fall_join (fun c => su_isCode c || c.before start1.args0 fall_s) 38 (((((tables_1_5.drop 38).drop 38).drop 38).drop 38).drop 38) fall_o_5_5 (fall_o_5_6))))))
set_option maxRecDepth 16384 in
theorem fall_o_6_0 : (tables_1_6.take 38).all (fun c => su_isCode c || c.before start1.args0 fall_s) = true := by decide +kernel
set_option maxRecDepth 16384 in
theorem fall_o_6_1 : ((tables_1_6.drop 38).take 38).all (fun c => su_isCode c || c.before start1.args0 fall_s) = true := by decide +kernel
set_option maxRecDepth 16384 in
theorem fall_o_6_2 : ((tables_1_6.drop 38).drop 38).all (fun c => su_isCode c || c.before start1.args0 fall_s) = true := by decide +kernel
theorem fall_o_6 : tables_1_6.all (fun c => su_isCode c || c.before start1.args0 fall_s) = true := fall_join (fun c => su_isCode c || c.before start1.args0 fall_s) 38 tables_1_6 fall_o_6_0 (fall_join (fun c => su_isCode c || c.before start1.args0 fall_s) 38 (tables_1_6.drop 38) fall_o_6_1 (fall_o_6_2))
end
section
theorem dL_law_16 : decode cL_law 16 = .ok (.iconst 0, 1) := by decide +kernel
theorem dL_law_17 : decode cL_law 17 = .ok (.istore_n 3, 1) := by decide +kernel
theorem dL_law_18 : decode cL_law 18 = .ok (.iload_n 3, 1) := by decide +kernel
theorem dL_law_19 : decode cL_law 19 = .ok (.aload_n 0, 1) := by decide +kernel
theorem dL_law_20 : decode cL_law 20 = .ok (.arraylength, 1) := by decide +kernel
theorem dL_law_21 : decode cL_law 21 = .ok (.iconst 4, 1) := by decide +kernel
theorem dL_law_22 : decode cL_law 22 = .ok (.isub, 1) := by decide +kernel
theorem dL_law_23 : decode cL_law 23 = .ok (.if_icmp .gt 1043, 3) := by decide +kernel
theorem dL_law_1066 : decode cL_law 1066 = .ok (.iconst 1, 1) := by decide +kernel
theorem dL_law_1067 : decode cL_law 1067 = .ok (.ireturn, 1) := by decide +kernel
def overQ (below : List Frame) (s : State) : State → Prop := fun t => ∃ o, t.status = .running ∧ Ended t below o ∧ ¬ Framed s o t [] 96 1112
theorem over_ret {p : Program} {l : Launch} {e : Env} {R : Room} {s : State} {m : MethodId} {args : Array Value} {below : List Frame} {meth : Method} {c : Code} {kc ks : Nat} {locs : List Loc} (hx : p.tables.exec = Jvm.exec) (hb : c.code = code) (hr : meth.sig.returnType = ret) (hlocks : meth.locks = false) {pc : Nat} {H : Heap} {ls : Array Slot} (hdg : decode code pc = .ok (.ireturn, 1)) (hbig : 1128 ≤ ((H.toList.drop s.heap.size).map (fun x => x.slots.size)).sum) : W p l e R s m args below meth c H locs kc ks (overQ below s) (F0 m pc ls [.int 1]) := by
  intro T hT X
  obtain ⟨fs, hret, hrun, hended, hW, hframe⟩ := X.leave (v := some (.int 1)) (hlocks := hlocks) (fun h => by rw [hr] at h; cases h)
  have hmeth' : T.vm.method? m = some meth := X.method'
  refine ⟨T.setFrames fs, ?_, .returned (some (.int 1)), hrun, hended, ?_⟩
  · jvm_step X.here [X.here.top, hx, hb, hdg, hmeth', hr, ret, narrow_b1]
    (try refine ⟨rfl, ?_⟩); (try refine ⟨rfl, ?_⟩)
    first | (intro acts; rw [hret _ acts rfl rfl rfl]) | rw [hret _ _ rfl rfl rfl]
    exact Steps.refl _
  · intro hF
    have h1 : (((T.setFrames fs).heap.toList.drop s.heap.size).map (fun x => x.slots.size)).sum ≤ 1112 := hF.2.2.2.2.2.2.1
    have h2 : (T.setFrames fs).heap = H := hT
    rw [h2] at h1
    omega
set_option maxHeartbeats 4000000 in
set_option maxRecDepth 20000 in
/-- THE LAW'S END in a room that is large enough, on a script of less than four ints: more than 1112 slots have come -/
theorem law_over {p : Program} {l : Launch} {e : Env} {s : State} {m : MethodId} {below : List Frame} {meth : Method} {c : Code} {b L : Nat} {xs : Nat → Int32} (hL : L < 4) (C0 : lw_At p s m meth c b L xs) : W p l e R1281 s m #[Value.ref b] below meth c s.heap [] 0 0 (overQ below s) (entryFrame m ([Value.ref b] : List Value).toArray 4) := by
  obtain ⟨E, hEa, hA⟩ := amb_start C0
  obtain ⟨hx, hb, hr, hml, hown, hts, hX, hbl, hlocks, hgv⟩ := C0
  have hE0 : ∀ k, E.2.1 k = s.heap.size + k := fun k => by rw [hEa]
  have hE : Ad E := fun k => by rw [hE0 k, hE0 0]; omega
  have htw : ∀ w ∈ WT, w.before #[Value.ref b] s = true := fun w hw => hts w (List.mem_filter.mp hw).1
  have hbA : ¬ Aq E 0 b := by show ¬ E.2.1 0 ≤ b; rw [hE0 0]; omega
  have hl := lv_entry ([.ref b]) (n := 4) (Nat.le_of_ble_eq_true rfl)
  rw [lg_entry_eq]
  generalize (lg_sl ([.ref b]) ++ List.replicate (4 - (lg_sl ([.ref b])).length) Slot.unset).toArray = ls at hl ⊢
  have hl : lv_has ls 4 [(0, .ref b)] := hl
  refine zl_make (Y2 := YX11_init) (CC := RX11) (TT := TX11) (N := 8) (ci := 10) (q := 0) (ws := []) (fs := [.null, .null, .null, .null, .null, .null, .null, .int 0]) (mc2 := 72) (ms2 := 442) hE hA hx hb hml hown htw hl.1 tyX11 tyX11_ok rfl in_X11 t_21 t_22 t_1 (by decide +kernel) lk_X11_init rfl rfl t_23 t_24 (Nat.le_of_ble_eq_true rfl) (Nat.le_of_ble_eq_true rfl) (Nat.le_of_ble_eq_true rfl) (Nat.le_of_ble_eq_true rfl) (Nat.le_of_ble_eq_true rfl) (Nat.le_of_ble_eq_true rfl) dL_law_0 dL_law_3 dL_law_4 (cn_X11 l E hE) (by rw [hE0 0]; rfl) (fun k q h => by simp at h) ⟨fun i j x y h => by simp at h, fun k q h => by simp at h⟩ va_S.rf (fun H locs hz hP hD hS => ?_)
  refine lv_astore_n (lv' := [(1, .ref (E.2.1 0)), (0, .ref b)]) hx hb dL_law_7 rfl hl (by decide) rfl (fun ls hl => ?_)
  refine zl_make (Y2 := YX12_init) (CC := RX12) (TT := TX12) (N := 39) (ci := 11) (q := 73) (fs := [.null, .null, .null, .null, .null, .null, .null, .null, .null, .int 0, .int 0, .int 0, .int 0, .int 0, .int 0, .int 0, .int 0, .null, .null, .null, .null, .null, .null, .null, .null, .int 0, .int 0, .int 0, .null, .null, .int 0, .int 0, .int 0, .int 0, .null, .null, .int 0, .null, .int 0]) (mc2 := 22) (ms2 := 792) hE hA hx hb hml hown htw hl.1 tyX12 tyX12_ok rfl in_X12 t_839 t_840 t_13 (by decide +kernel) lk_X12_init rfl rfl t_841 t_842 (Nat.le_of_ble_eq_true rfl) (Nat.le_of_ble_eq_true rfl) (Nat.le_of_ble_eq_true rfl) (Nat.le_of_ble_eq_true rfl) (Nat.le_of_ble_eq_true rfl) (Nat.le_of_ble_eq_true rfl) dL_law_8 dL_law_11 dL_law_12 (cn_X12 l E hE) hz hP hD hS (fun H locs hz hP hD hS => ?_)
  have hP : va_P E.1 vwC (wl E σ0) H := by
    rw [wl_sl, ← sl_app E 0 73 23 (j := 73) rfl]
    exact hP
  refine lv_astore_n (lv' := [(2, .ref (E.2.1 73)), (1, .ref (E.2.1 0)), (0, .ref b)]) hx hb dL_law_15 rfl hl (by decide) rfl (fun ls hl => ?_)
  refine lv_iconst (v := 0) hx hb dL_law_16 (by decide) ?_
  refine lv_istore_n (lv' := [(3, .int 0), (2, .ref (E.2.1 73)), (1, .ref (E.2.1 0)), (0, .ref b)]) hx hb dL_law_17 rfl hl (by decide) rfl (fun ls hl => ?_)
  refine lv_iload_n hx hb dL_law_18 rfl (lv_at hl 0 rfl) ?_
  refine lv_aload_n hx hb dL_law_19 rfl (lv_at hl 3 rfl) ?_
  refine va_slen hx hb hX hbl hbA hS dL_law_20 ?_
  refine lv_iconst (v := 4) hx hb dL_law_21 (by decide) ?_
  refine lv_isub hx hb dL_law_22 ?_
  refine lv_icmp_gt (tgt := 1066) hx hb dL_law_23 (by decide) (fun _ => ?_) (fun h => absurd ?_ h)
  · refine lv_iconst (v := 1) hx hb dL_law_1066 (by decide) ?_
    exact over_ret hx hb hr hlocks dL_law_1067 (wl_big hE0 hP)
  · have hc : L = 0 ∨ L = 1 ∨ L = 2 ∨ L = 3 := by omega
    rcases hc with rfl | rfl | rfl | rfl <;> decide
set_option maxHeartbeats 4000000 in
/-- the law's run on a script of less than four ints, from a start with room for 1281 slots: its end isn't framed by 96 cells and 1112 slots -/
theorem over_walk (l : Launch) (b : Addr) (xs : List Int32) : MetFree l x (headSpec (Jvm.Cond.code x code maxLocals ret :: tables_1) R1281) (fun args s => lw_P b xs args s ∧ xs.length < 4) (fun _ _ _ _ _ => True) (fun _ s o t => ¬ Framed s o t [] 96 1112) := by
  refine MetFree.of_bodyS (code := code) (maxLocals := maxLocals) (ret := ret) (by decide) ?_ ?_
  · intro args s m h hn
    obtain ⟨meth, c, h1, h2, h3, h4, h5, h6, -, -⟩ := Cond.code_spec hn (atoms_spec (ws := Jvm.Cond.code x code maxLocals ret :: tables_1) h _ List.mem_cons_self)
    exact ⟨meth, c, h1, h2, h3, h4, h5, h6⟩
  · intro p e s m args below meth c s₁ B hml0 hP _
    obtain ⟨⟨rfl, hx, hbd, hgv⟩, hshort⟩ := hP
    obtain ⟨scr, harrAt, hlist, hof, hsmall⟩ := hx
    obtain ⟨hcb, hkn, -, -⟩ := State.arrayAt?_spec harrAt
    have hown : s.vm.findClass R_law = some m.cls := findClass_of_methodNamed B.named
    have hts0 : ∀ c ∈ (Jvm.Cond.code x code maxLocals ret :: tables_1), c.before #[Value.ref b] s = true := atoms_spec (ws := Jvm.Cond.code x code maxLocals ret :: tables_1) B.pre
    have hts : ∀ w ∈ lw_tbl, w.before #[Value.ref b] s = true := k2_hts_sels lw_privs (fun w hw => hts0 w (List.mem_cons_of_mem _ hw)) lw_privs_ok
    have hml : c.maxLocals = 4 := B.maxLocals_eq (hts0 _ List.mem_cons_self)
    have X₀ : Stand p l e R1281 s m #[Value.ref b] below meth c s₁ [] 0 0 := Stand.of_body B
    have hh0 : s₁.heap = s.heap := by rw [B.state]; rfl
    have hsz : scr.slots.size = xs.length := by rw [← Array.length_toList, hlist, List.length_map]
    have hval : ∀ j : Nat, j < xs.length → scr.slots[j]? = some (.int (xs.getD j 0)) := fun j hj => by
      rw [← Array.getElem?_toList, hlist]
      simp [hj]
    have hbl : b < s.heap.size := (Array.getElem?_eq_some_iff.mp hcb).1
    have hX : va_X b xs.length (fun j => xs.getD j 0) s s.heap := ⟨scr, hcb, hof, hkn, hsz, hval⟩
    have K : W p l e R1281 s m #[Value.ref b] below meth c s₁.heap [] 0 0 (overQ below s) (entryFrame m ([Value.ref b] : List Value).toArray 4) := by
      rw [hh0]
      exact law_over hshort ⟨B.exec, B.bytes, B.returns, hml, hown, hts, hX, hbl, B.notSynchronized, hgv⟩
    obtain ⟨t, a1, o, b1, b2, b3⟩ := K s₁ rfl X₀
    exact ⟨t, o, a1, b1, b2, b3⟩
theorem fall_code {c : Jvm.Cond} {a : Array Value} {s t : State} (hv : s.vm = t.vm) (h : su_isCode c = true) (hb : c.before a s = true) : c.before a t = true := by
  cases c with
  | code y bytes n r =>
    simp only [Cond.before, Cond.holds, Cond.value, State.methodNamed?, hv] at hb ⊢
    exact hb
  | _ => exact absurd (show false = true from h) (by decide)
theorem fall_words : ∀ c ∈ (Jvm.Cond.code x code maxLocals ret :: tables_1), c.before start1.args0 fall_s = true := by
  intro c hc
  cases hq : su_isCode c with
  | true => exact fall_code (s := start1.about) rfl hq (start1.words c hc)
  | false =>
    have go : ∀ (l : List Jvm.Cond), l.all (fun c => su_isCode c || c.before start1.args0 fall_s) = true → c ∈ l → c.before start1.args0 fall_s = true := fun l hl hm => by
      have h := List.all_eq_true.mp hl c hm
      rw [hq, Bool.false_or] at h
      exact h
    rcases List.mem_cons.mp hc with h | h
    · rw [h] at hq
      exact absurd (show true = false from hq) (by decide)
    · have h1 : c ∈ tables_1_1 ++ (tables_1_2 ++ (tables_1_3 ++ (tables_1_4 ++ (tables_1_5 ++ tables_1_6)))) := h
      rcases List.mem_append.mp h1 with h2 | h1
      · exact go _ fall_o_1 h2
      rcases List.mem_append.mp h1 with h2 | h1
      · exact go _ fall_o_2 h2
      rcases List.mem_append.mp h1 with h2 | h1
      · exact go _ fall_o_3 h2
      rcases List.mem_append.mp h1 with h2 | h1
      · exact go _ fall_o_4 h2
      rcases List.mem_append.mp h1 with h2 | h1
      · exact go _ fall_o_5 h2
      exact go _ fall_o_6 h1
set_option maxRecDepth 16384 in
/-- the empty script is a start that meets the claim's premises, in the printed launch's own machine -/
theorem fall_start : AtStart classFile x code maxLocals ret World_1 tables_1 room_1 Calls_1 rest_1 Pre_1 launch0 start1.p0 start1.e0 fall_s ⟨0, 0⟩ start1.args0 Lib.HandBits.below0 := by
  obtain ⟨hL, hW, ha, hle, hc, hk, -, -, -, -, -, -, -⟩ := start1.atStart
  exact ⟨hL, hW, ha, hle, hc, hk, rfl, by decide +kernel, by decide +kernel,
    (Spec.applies_iff rfl).mpr ⟨rfl, rfl, rfl, by decide +kernel, by decide +kernel, by decide +kernel, launch0.hasRoom_least _ room_1 (by decide +kernel) (by decide +kernel) (by decide +kernel) (by decide +kernel) (by decide +kernel) (by decide +kernel), atoms_intro fall_words⟩,
    trivial, (show rest_1_c.before start1.args0 fall_s = true by decide +kernel), (show (Cond.and given_1 narrow_1).before start1.args0 fall_s = true by decide +kernel)⟩
theorem fall_room : fall_s.hasRoom start1.e0.platform R1281 = true :=
  show fall_s.hasRoom (launch0.env 0 0 0).platform R1281 = true from launch0.hasRoom_least _ R1281 (by decide +kernel) (by decide +kernel) (by decide +kernel) (by decide +kernel) (by decide +kernel) (by decide +kernel)
theorem fall_short {b : Addr} {xs : List Int32} (hP : lw_P b xs start1.args0 fall_s) : xs.length < 4 := by
  obtain ⟨hb, hx, -, -⟩ := hP
  have h1 : start1.args0[0]? = some (Value.ref b) := by rw [hb]; rfl
  have h2 : some (Value.ref 0) = some (Value.ref b) := h1
  injection h2 with h2
  injection h2 with h2
  subst h2
  obtain ⟨scr, harrAt, hlist, -, -⟩ := hx
  obtain ⟨hcb, -, -, -⟩ := State.arrayAt?_spec harrAt
  have e0 : ∃ cell : Cell, fall_s.heap[0]? = some cell ∧ cell.slots = #[] := ⟨_, rfl, rfl⟩
  obtain ⟨cell, e1, e2⟩ := e0
  rw [e1] at hcb
  injection hcb with hcb
  subst hcb
  have h3 := congrArg List.length hlist
  rw [e2, List.length_map] at h3
  have h4 : (#[] : Array Value).toList.length = 0 := rfl
  omega
/-- there the law's run ends, and its end is not framed by 96 cells and 1112 slots -/
theorem fall_run : ∃ (n : Nat) (o : Outcome), (∀ k, k < n → Within (stepsAlone start1.p0.tables start1.e0 k fall_s) Lib.HandBits.below0) ∧ (stepsAlone start1.p0.tables start1.e0 n fall_s).status = Status.running ∧ Ended (stepsAlone start1.p0.tables start1.e0 n fall_s) Lib.HandBits.below0 o ∧ ¬ Framed fall_s o (stepsAlone start1.p0.tables start1.e0 n fall_s) [] 96 1112 := by
  obtain ⟨-, -, ha, -, hc, hk, hf, -, -, happ, -, hrest, hPre⟩ := fall_start
  obtain ⟨b, xs, hP⟩ := lw_pre_spec hPre hrest
  have hl := ((Spec.applies_iff_loose hf).mp happ).1
  have hl' : (headSpec (Jvm.Cond.code x code maxLocals ret :: tables_1) R1281).appliesLoose x start1.e0.platform fall_s = true := by
    obtain ⟨g1, g2, g3, g4, g5, g6, -, g8⟩ := (Spec.appliesLoose_iff hf).mp hl
    exact (Spec.appliesLoose_iff hf).mpr ⟨g1, g2, g3, g4, g5, g6, fall_room, g8⟩
  obtain ⟨n1, o1, w1, r1, e1, q1⟩ := over_walk launch0 b xs start1.p0 start1.e0 ha hc hk fall_s ⟨0, 0⟩ start1.args0 Lib.HandBits.below0 hf hl' ⟨hP, fall_short hP⟩ trivial
  exact ⟨n1, o1, w1, r1, e1, q1⟩
/-- THE STATEMENT'S OWN WORDS FOR 'REFUTED', both halves: at the empty script -/
theorem falls_1 : RefutedClaimed_1_1 := by
  obtain ⟨n, o, hw, hr, he, hq⟩ := fall_run
  exact ⟨launch0, start1.p0, start1.e0, fall_s, ⟨0, 0⟩, start1.args0, Lib.HandBits.below0, rfl, fall_start, n, o, hw, hr, he, fun h => hq h.2⟩
theorem falls_2 : RefutedClaimed_1_2 := by
  obtain ⟨n, o, hw, hr, he, hq⟩ := fall_run
  exact ⟨launch0, start1.p0, start1.e0, fall_s, ⟨0, 0⟩, start1.args0, Lib.HandBits.below0, rfl, fall_start, n, o, hw, hr, he, fun h => hq h.2⟩
theorem falls_both : RefutedClaimed_1_1 ∧ RefutedClaimed_1_2 := ⟨falls_1, falls_2⟩
end
