section
-- ===== PART A: goes FIRST, ahead of the names: the tables' words, and 'selects' of the private methods out of them =====
/-- a private method of a class that the tables say can be made, by its rows of tables_1 -/
def lw_okq (q : MethodName × Nat) : Prop := (q.1.cls ≠ "java/lang/invoke/MethodHandle" ∧ q.1.cls ≠ "java/lang/invoke/VarHandle") ∧ Cond.instantiable q.1.cls q.2 ∈ tables_1 ∧ Cond.privateMethod q.1 ∈ tables_1 ∧ Cond.instanceMethod q.1 ∈ tables_1
theorem lw_p0 : lw_okq (⟨"ToWhoNeeds", "refuse", "(I)I"⟩, 8) := ⟨⟨by decide +kernel, by decide +kernel⟩, List.mem_of_getElem? (i := 22) (by decide +kernel), List.mem_of_getElem? (i := 263) (by decide +kernel), List.mem_of_getElem? (i := 264) (by decide +kernel)⟩
theorem lw_p1 : lw_okq (⟨"ToWhoNeeds$Reader", "isShaped", "()Z"⟩, 4) := ⟨⟨by decide +kernel, by decide +kernel⟩, List.mem_of_getElem? (i := 134) (by decide +kernel), List.mem_of_getElem? (i := 307) (by decide +kernel), List.mem_of_getElem? (i := 308) (by decide +kernel)⟩
theorem lw_p2 : lw_okq (⟨"ToWhoNeeds$Reader", "scanStatement", "()Z"⟩, 4) := ⟨⟨by decide +kernel, by decide +kernel⟩, List.mem_of_getElem? (i := 134) (by decide +kernel), List.mem_of_getElem? (i := 311) (by decide +kernel), List.mem_of_getElem? (i := 312) (by decide +kernel)⟩
theorem lw_p3 : lw_okq (⟨"ToWhoNeeds$Reader", "pass", "(C)Z"⟩, 4) := ⟨⟨by decide +kernel, by decide +kernel⟩, List.mem_of_getElem? (i := 134) (by decide +kernel), List.mem_of_getElem? (i := 315) (by decide +kernel), List.mem_of_getElem? (i := 316) (by decide +kernel)⟩
theorem lw_p4 : lw_okq (⟨"ToWhoNeeds$Reader", "scanPerson", "()Z"⟩, 4) := ⟨⟨by decide +kernel, by decide +kernel⟩, List.mem_of_getElem? (i := 134) (by decide +kernel), List.mem_of_getElem? (i := 320) (by decide +kernel), List.mem_of_getElem? (i := 321) (by decide +kernel)⟩
theorem lw_p5 : lw_okq (⟨"ToWhoNeeds$Reader", "scanNeed", "(I)Z"⟩, 4) := ⟨⟨by decide +kernel, by decide +kernel⟩, List.mem_of_getElem? (i := 134) (by decide +kernel), List.mem_of_getElem? (i := 324) (by decide +kernel), List.mem_of_getElem? (i := 325) (by decide +kernel)⟩
theorem lw_p6 : lw_okq (⟨"ToWhoNeeds$Reader", "scanDigit", "(I)Z"⟩, 4) := ⟨⟨by decide +kernel, by decide +kernel⟩, List.mem_of_getElem? (i := 134) (by decide +kernel), List.mem_of_getElem? (i := 328) (by decide +kernel), List.mem_of_getElem? (i := 329) (by decide +kernel)⟩
theorem lw_p7 : lw_okq (⟨"ToWhoNeeds$Reader", "scanKind", "()Z"⟩, 4) := ⟨⟨by decide +kernel, by decide +kernel⟩, List.mem_of_getElem? (i := 134) (by decide +kernel), List.mem_of_getElem? (i := 332) (by decide +kernel), List.mem_of_getElem? (i := 333) (by decide +kernel)⟩
theorem lw_p8 : lw_okq (⟨"ToWhoNeeds$Reader", "scanAmounts", "()Z"⟩, 4) := ⟨⟨by decide +kernel, by decide +kernel⟩, List.mem_of_getElem? (i := 134) (by decide +kernel), List.mem_of_getElem? (i := 385) (by decide +kernel), List.mem_of_getElem? (i := 386) (by decide +kernel)⟩
theorem lw_p9 : lw_okq (⟨"ToWhoNeeds$Reader", "enterAll", "()I"⟩, 4) := ⟨⟨by decide +kernel, by decide +kernel⟩, List.mem_of_getElem? (i := 134) (by decide +kernel), List.mem_of_getElem? (i := 389) (by decide +kernel), List.mem_of_getElem? (i := 390) (by decide +kernel)⟩
theorem lw_p10 : lw_okq (⟨"ToWhoNeeds$Reader", "enter", "(I)Z"⟩, 4) := ⟨⟨by decide +kernel, by decide +kernel⟩, List.mem_of_getElem? (i := 134) (by decide +kernel), List.mem_of_getElem? (i := 393) (by decide +kernel), List.mem_of_getElem? (i := 394) (by decide +kernel)⟩
theorem lw_p11 : lw_okq (⟨"ToWhoNeeds$Reader", "enterPerson", "()Z"⟩, 4) := ⟨⟨by decide +kernel, by decide +kernel⟩, List.mem_of_getElem? (i := 134) (by decide +kernel), List.mem_of_getElem? (i := 397) (by decide +kernel), List.mem_of_getElem? (i := 398) (by decide +kernel)⟩
theorem lw_p12 : lw_okq (⟨"ToWhoNeeds$Reader", "areAtMost", "(I)Z"⟩, 4) := ⟨⟨by decide +kernel, by decide +kernel⟩, List.mem_of_getElem? (i := 134) (by decide +kernel), List.mem_of_getElem? (i := 401) (by decide +kernel), List.mem_of_getElem? (i := 402) (by decide +kernel)⟩
theorem lw_p13 : lw_okq (⟨"ToWhoNeeds$Reader", "enterWriter", "()Z"⟩, 4) := ⟨⟨by decide +kernel, by decide +kernel⟩, List.mem_of_getElem? (i := 134) (by decide +kernel), List.mem_of_getElem? (i := 419) (by decide +kernel), List.mem_of_getElem? (i := 420) (by decide +kernel)⟩
theorem lw_p14 : lw_okq (⟨"ToWhoNeeds$Reader", "enterAmounts", "()Z"⟩, 4) := ⟨⟨by decide +kernel, by decide +kernel⟩, List.mem_of_getElem? (i := 134) (by decide +kernel), List.mem_of_getElem? (i := 429) (by decide +kernel), List.mem_of_getElem? (i := 430) (by decide +kernel)⟩
theorem lw_p15 : lw_okq (⟨"ToWhoNeeds", "isPlace", "(II)Z"⟩, 8) := ⟨⟨by decide +kernel, by decide +kernel⟩, List.mem_of_getElem? (i := 22) (by decide +kernel), List.mem_of_getElem? (i := 445) (by decide +kernel), List.mem_of_getElem? (i := 446) (by decide +kernel)⟩
def lw_privs_1 : List (MethodName × Nat) := [(⟨"ToWhoNeeds", "refuse", "(I)I"⟩, 8), (⟨"ToWhoNeeds$Reader", "isShaped", "()Z"⟩, 4), (⟨"ToWhoNeeds$Reader", "scanStatement", "()Z"⟩, 4), (⟨"ToWhoNeeds$Reader", "pass", "(C)Z"⟩, 4), (⟨"ToWhoNeeds$Reader", "scanPerson", "()Z"⟩, 4), (⟨"ToWhoNeeds$Reader", "scanNeed", "(I)Z"⟩, 4), (⟨"ToWhoNeeds$Reader", "scanDigit", "(I)Z"⟩, 4), (⟨"ToWhoNeeds$Reader", "scanKind", "()Z"⟩, 4), (⟨"ToWhoNeeds$Reader", "scanAmounts", "()Z"⟩, 4), (⟨"ToWhoNeeds$Reader", "enterAll", "()I"⟩, 4), (⟨"ToWhoNeeds$Reader", "enter", "(I)Z"⟩, 4), (⟨"ToWhoNeeds$Reader", "enterPerson", "()Z"⟩, 4), (⟨"ToWhoNeeds$Reader", "areAtMost", "(I)Z"⟩, 4), (⟨"ToWhoNeeds$Reader", "enterWriter", "()Z"⟩, 4), (⟨"ToWhoNeeds$Reader", "enterAmounts", "()Z"⟩, 4), (⟨"ToWhoNeeds", "isPlace", "(II)Z"⟩, 8)]
theorem lw_r1 : ∀ q ∈ lw_privs_1, lw_okq q := List.forall_mem_cons.mpr ⟨lw_p0, List.forall_mem_cons.mpr ⟨lw_p1, List.forall_mem_cons.mpr ⟨lw_p2, List.forall_mem_cons.mpr ⟨lw_p3, List.forall_mem_cons.mpr ⟨lw_p4, List.forall_mem_cons.mpr ⟨lw_p5, List.forall_mem_cons.mpr ⟨lw_p6, List.forall_mem_cons.mpr ⟨lw_p7, List.forall_mem_cons.mpr ⟨lw_p8, List.forall_mem_cons.mpr ⟨lw_p9, List.forall_mem_cons.mpr ⟨lw_p10, List.forall_mem_cons.mpr ⟨lw_p11, List.forall_mem_cons.mpr ⟨lw_p12, List.forall_mem_cons.mpr ⟨lw_p13, List.forall_mem_cons.mpr ⟨lw_p14, List.forall_mem_cons.mpr ⟨lw_p15, fun _ h => absurd h List.not_mem_nil⟩⟩⟩⟩⟩⟩⟩⟩⟩⟩⟩⟩⟩⟩⟩⟩
theorem lw_p16 : lw_okq (⟨"ToWhoNeeds", "lawNow", "()LToWhoNeeds$Law;"⟩, 8) := ⟨⟨by decide +kernel, by decide +kernel⟩, List.mem_of_getElem? (i := 22) (by decide +kernel), List.mem_of_getElem? (i := 478) (by decide +kernel), List.mem_of_getElem? (i := 479) (by decide +kernel)⟩
theorem lw_p17 : lw_okq (⟨"ToWhoNeeds$Mind", "costOfNext", "(LToWhoNeeds$Law;II)I"⟩, 5) := ⟨⟨by decide +kernel, by decide +kernel⟩, List.mem_of_getElem? (i := 158) (by decide +kernel), List.mem_of_getElem? (i := 619) (by decide +kernel), List.mem_of_getElem? (i := 620) (by decide +kernel)⟩
theorem lw_p18 : lw_okq (⟨"ToWhoNeeds$Mind", "stepLine", "()Z"⟩, 5) := ⟨⟨by decide +kernel, by decide +kernel⟩, List.mem_of_getElem? (i := 158) (by decide +kernel), List.mem_of_getElem? (i := 661) (by decide +kernel), List.mem_of_getElem? (i := 662) (by decide +kernel)⟩
theorem lw_p19 : lw_okq (⟨"ToWhoNeeds$Mind", "swapInLine", "(II)V"⟩, 5) := ⟨⟨by decide +kernel, by decide +kernel⟩, List.mem_of_getElem? (i := 158) (by decide +kernel), List.mem_of_getElem? (i := 665) (by decide +kernel), List.mem_of_getElem? (i := 666) (by decide +kernel)⟩
theorem lw_p20 : lw_okq (⟨"ToWhoNeeds$Mind", "greediest", "(LToWhoNeeds$Law;LToWhoNeeds$Numbers;I)I"⟩, 5) := ⟨⟨by decide +kernel, by decide +kernel⟩, List.mem_of_getElem? (i := 158) (by decide +kernel), List.mem_of_getElem? (i := 680) (by decide +kernel), List.mem_of_getElem? (i := 681) (by decide +kernel)⟩
theorem lw_p21 : lw_okq (⟨"ToWhoNeeds$Mind", "allWentSo", "(LToWhoNeeds$State;LToWhoNeeds$Law;)Z"⟩, 5) := ⟨⟨by decide +kernel, by decide +kernel⟩, List.mem_of_getElem? (i := 158) (by decide +kernel), List.mem_of_getElem? (i := 713) (by decide +kernel), List.mem_of_getElem? (i := 714) (by decide +kernel)⟩
theorem lw_p22 : lw_okq (⟨"ToWhoNeeds$Mind", "receiversOver", "(LToWhoNeeds$Law;IIII)I"⟩, 5) := ⟨⟨by decide +kernel, by decide +kernel⟩, List.mem_of_getElem? (i := 158) (by decide +kernel), List.mem_of_getElem? (i := 732) (by decide +kernel), List.mem_of_getElem? (i := 733) (by decide +kernel)⟩
theorem lw_p23 : lw_okq (⟨"ToWhoNeeds$Mind", "meetingMost", "(LToWhoNeeds$People;LToWhoNeeds$Law;)I"⟩, 5) := ⟨⟨by decide +kernel, by decide +kernel⟩, List.mem_of_getElem? (i := 158) (by decide +kernel), List.mem_of_getElem? (i := 774) (by decide +kernel), List.mem_of_getElem? (i := 775) (by decide +kernel)⟩
theorem lw_p24 : lw_okq (⟨"ToWhoNeeds$Mind", "easing", "(LToWhoNeeds$People;LToWhoNeeds$Law;II)I"⟩, 5) := ⟨⟨by decide +kernel, by decide +kernel⟩, List.mem_of_getElem? (i := 158) (by decide +kernel), List.mem_of_getElem? (i := 778) (by decide +kernel), List.mem_of_getElem? (i := 779) (by decide +kernel)⟩
theorem lw_p25 : lw_okq (⟨"ToWhoNeeds$Mind", "aimedBehind", "(LToWhoNeeds$State;LToWhoNeeds$Law;II)I"⟩, 5) := ⟨⟨by decide +kernel, by decide +kernel⟩, List.mem_of_getElem? (i := 158) (by decide +kernel), List.mem_of_getElem? (i := 794) (by decide +kernel), List.mem_of_getElem? (i := 795) (by decide +kernel)⟩
theorem lw_p26 : lw_okq (⟨"ToWhoNeeds$Mind", "drawBelow", "(I)I"⟩, 5) := ⟨⟨by decide +kernel, by decide +kernel⟩, List.mem_of_getElem? (i := 158) (by decide +kernel), List.mem_of_getElem? (i := 806) (by decide +kernel), List.mem_of_getElem? (i := 807) (by decide +kernel)⟩
theorem lw_p27 : lw_okq (⟨"ToWhoNeedsModel", "no", "(I)I"⟩, 39) := ⟨⟨by decide +kernel, by decide +kernel⟩, List.mem_of_getElem? (i := 840) (by decide +kernel), List.mem_of_getElem? (i := 971) (by decide +kernel), List.mem_of_getElem? (i := 972) (by decide +kernel)⟩
theorem lw_p28 : lw_okq (⟨"ToWhoNeedsModel", "statement", "()Z"⟩, 39) := ⟨⟨by decide +kernel, by decide +kernel⟩, List.mem_of_getElem? (i := 840) (by decide +kernel), List.mem_of_getElem? (i := 979) (by decide +kernel), List.mem_of_getElem? (i := 980) (by decide +kernel)⟩
theorem lw_p29 : lw_okq (⟨"ToWhoNeedsModel", "next", "()I"⟩, 39) := ⟨⟨by decide +kernel, by decide +kernel⟩, List.mem_of_getElem? (i := 840) (by decide +kernel), List.mem_of_getElem? (i := 983) (by decide +kernel), List.mem_of_getElem? (i := 984) (by decide +kernel)⟩
theorem lw_p30 : lw_okq (⟨"ToWhoNeedsModel", "readsPerson", "(I)Z"⟩, 39) := ⟨⟨by decide +kernel, by decide +kernel⟩, List.mem_of_getElem? (i := 840) (by decide +kernel), List.mem_of_getElem? (i := 987) (by decide +kernel), List.mem_of_getElem? (i := 988) (by decide +kernel)⟩
theorem lw_p31 : lw_okq (⟨"ToWhoNeedsModel", "number", "(I)I"⟩, 39) := ⟨⟨by decide +kernel, by decide +kernel⟩, List.mem_of_getElem? (i := 840) (by decide +kernel), List.mem_of_getElem? (i := 991) (by decide +kernel), List.mem_of_getElem? (i := 992) (by decide +kernel)⟩
def lw_privs_2 : List (MethodName × Nat) := [(⟨"ToWhoNeeds", "lawNow", "()LToWhoNeeds$Law;"⟩, 8), (⟨"ToWhoNeeds$Mind", "costOfNext", "(LToWhoNeeds$Law;II)I"⟩, 5), (⟨"ToWhoNeeds$Mind", "stepLine", "()Z"⟩, 5), (⟨"ToWhoNeeds$Mind", "swapInLine", "(II)V"⟩, 5), (⟨"ToWhoNeeds$Mind", "greediest", "(LToWhoNeeds$Law;LToWhoNeeds$Numbers;I)I"⟩, 5), (⟨"ToWhoNeeds$Mind", "allWentSo", "(LToWhoNeeds$State;LToWhoNeeds$Law;)Z"⟩, 5), (⟨"ToWhoNeeds$Mind", "receiversOver", "(LToWhoNeeds$Law;IIII)I"⟩, 5), (⟨"ToWhoNeeds$Mind", "meetingMost", "(LToWhoNeeds$People;LToWhoNeeds$Law;)I"⟩, 5), (⟨"ToWhoNeeds$Mind", "easing", "(LToWhoNeeds$People;LToWhoNeeds$Law;II)I"⟩, 5), (⟨"ToWhoNeeds$Mind", "aimedBehind", "(LToWhoNeeds$State;LToWhoNeeds$Law;II)I"⟩, 5), (⟨"ToWhoNeeds$Mind", "drawBelow", "(I)I"⟩, 5), (⟨"ToWhoNeedsModel", "no", "(I)I"⟩, 39), (⟨"ToWhoNeedsModel", "statement", "()Z"⟩, 39), (⟨"ToWhoNeedsModel", "next", "()I"⟩, 39), (⟨"ToWhoNeedsModel", "readsPerson", "(I)Z"⟩, 39), (⟨"ToWhoNeedsModel", "number", "(I)I"⟩, 39)]
theorem lw_r2 : ∀ q ∈ lw_privs_2, lw_okq q := List.forall_mem_cons.mpr ⟨lw_p16, List.forall_mem_cons.mpr ⟨lw_p17, List.forall_mem_cons.mpr ⟨lw_p18, List.forall_mem_cons.mpr ⟨lw_p19, List.forall_mem_cons.mpr ⟨lw_p20, List.forall_mem_cons.mpr ⟨lw_p21, List.forall_mem_cons.mpr ⟨lw_p22, List.forall_mem_cons.mpr ⟨lw_p23, List.forall_mem_cons.mpr ⟨lw_p24, List.forall_mem_cons.mpr ⟨lw_p25, List.forall_mem_cons.mpr ⟨lw_p26, List.forall_mem_cons.mpr ⟨lw_p27, List.forall_mem_cons.mpr ⟨lw_p28, List.forall_mem_cons.mpr ⟨lw_p29, List.forall_mem_cons.mpr ⟨lw_p30, List.forall_mem_cons.mpr ⟨lw_p31, fun _ h => absurd h List.not_mem_nil⟩⟩⟩⟩⟩⟩⟩⟩⟩⟩⟩⟩⟩⟩⟩⟩
theorem lw_p32 : lw_okq (⟨"ToWhoNeedsModel", "isNext", "(I)Z"⟩, 39) := ⟨⟨by decide +kernel, by decide +kernel⟩, List.mem_of_getElem? (i := 840) (by decide +kernel), List.mem_of_getElem? (i := 998) (by decide +kernel), List.mem_of_getElem? (i := 999) (by decide +kernel)⟩
theorem lw_p33 : lw_okq (⟨"ToWhoNeedsModel", "readsLetter", "(I)Z"⟩, 39) := ⟨⟨by decide +kernel, by decide +kernel⟩, List.mem_of_getElem? (i := 840) (by decide +kernel), List.mem_of_getElem? (i := 1002) (by decide +kernel), List.mem_of_getElem? (i := 1003) (by decide +kernel)⟩
theorem lw_p34 : lw_okq (⟨"ToWhoNeedsModel", "passesAll", "(IZ)V"⟩, 39) := ⟨⟨by decide +kernel, by decide +kernel⟩, List.mem_of_getElem? (i := 840) (by decide +kernel), List.mem_of_getElem? (i := 1009) (by decide +kernel), List.mem_of_getElem? (i := 1010) (by decide +kernel)⟩
theorem lw_p35 : lw_okq (⟨"ToWhoNeedsModel", "passes", "([I)V"⟩, 39) := ⟨⟨by decide +kernel, by decide +kernel⟩, List.mem_of_getElem? (i := 840) (by decide +kernel), List.mem_of_getElem? (i := 1013) (by decide +kernel), List.mem_of_getElem? (i := 1014) (by decide +kernel)⟩
theorem lw_p36 : lw_okq (⟨"ToWhoNeedsModel", "passOne", "(I)I"⟩, 39) := ⟨⟨by decide +kernel, by decide +kernel⟩, List.mem_of_getElem? (i := 840) (by decide +kernel), List.mem_of_getElem? (i := 1017) (by decide +kernel), List.mem_of_getElem? (i := 1018) (by decide +kernel)⟩
theorem lw_p37 : lw_okq (⟨"ToWhoNeedsModel", "comes", "(I)Z"⟩, 39) := ⟨⟨by decide +kernel, by decide +kernel⟩, List.mem_of_getElem? (i := 840) (by decide +kernel), List.mem_of_getElem? (i := 1021) (by decide +kernel), List.mem_of_getElem? (i := 1022) (by decide +kernel)⟩
theorem lw_p38 : lw_okq (⟨"ToWhoNeedsModel", "isPerson", "(I)Z"⟩, 39) := ⟨⟨by decide +kernel, by decide +kernel⟩, List.mem_of_getElem? (i := 840) (by decide +kernel), List.mem_of_getElem? (i := 1025) (by decide +kernel), List.mem_of_getElem? (i := 1026) (by decide +kernel)⟩
theorem lw_p39 : lw_okq (⟨"ToWhoNeedsModel", "isWriter", "(I)Z"⟩, 39) := ⟨⟨by decide +kernel, by decide +kernel⟩, List.mem_of_getElem? (i := 840) (by decide +kernel), List.mem_of_getElem? (i := 1037) (by decide +kernel), List.mem_of_getElem? (i := 1038) (by decide +kernel)⟩
theorem lw_p40 : lw_okq (⟨"ToWhoNeedsModel", "scoreOf", "(II)I"⟩, 39) := ⟨⟨by decide +kernel, by decide +kernel⟩, List.mem_of_getElem? (i := 840) (by decide +kernel), List.mem_of_getElem? (i := 1059) (by decide +kernel), List.mem_of_getElem? (i := 1060) (by decide +kernel)⟩
theorem lw_p41 : lw_okq (⟨"ToWhoNeedsModel", "goesTo", "(I)I"⟩, 39) := ⟨⟨by decide +kernel, by decide +kernel⟩, List.mem_of_getElem? (i := 840) (by decide +kernel), List.mem_of_getElem? (i := 1067) (by decide +kernel), List.mem_of_getElem? (i := 1068) (by decide +kernel)⟩
theorem lw_p42 : lw_okq (⟨"ToWhoNeedsModel", "firstBut", "(II)I"⟩, 39) := ⟨⟨by decide +kernel, by decide +kernel⟩, List.mem_of_getElem? (i := 840) (by decide +kernel), List.mem_of_getElem? (i := 1071) (by decide +kernel), List.mem_of_getElem? (i := 1072) (by decide +kernel)⟩
theorem lw_p43 : lw_okq (⟨"ToWhoNeedsModel", "posts", "(I)I"⟩, 39) := ⟨⟨by decide +kernel, by decide +kernel⟩, List.mem_of_getElem? (i := 840) (by decide +kernel), List.mem_of_getElem? (i := 1079) (by decide +kernel), List.mem_of_getElem? (i := 1080) (by decide +kernel)⟩
theorem lw_p44 : lw_okq (⟨"ToWhoNeedsModel", "has", "(II)V"⟩, 39) := ⟨⟨by decide +kernel, by decide +kernel⟩, List.mem_of_getElem? (i := 840) (by decide +kernel), List.mem_of_getElem? (i := 1083) (by decide +kernel), List.mem_of_getElem? (i := 1084) (by decide +kernel)⟩
theorem lw_p45 : lw_okq (⟨"ToWhoNeedsModel", "grows", "()V"⟩, 39) := ⟨⟨by decide +kernel, by decide +kernel⟩, List.mem_of_getElem? (i := 840) (by decide +kernel), List.mem_of_getElem? (i := 1091) (by decide +kernel), List.mem_of_getElem? (i := 1092) (by decide +kernel)⟩
theorem lw_p46 : lw_okq (⟨"ToWhoNeedsModel", "sumOf", "()I"⟩, 39) := ⟨⟨by decide +kernel, by decide +kernel⟩, List.mem_of_getElem? (i := 840) (by decide +kernel), List.mem_of_getElem? (i := 1095) (by decide +kernel), List.mem_of_getElem? (i := 1096) (by decide +kernel)⟩
theorem lw_p47 : lw_okq (⟨"ToWhoNeedsModel", "canOf", "(I)I"⟩, 39) := ⟨⟨by decide +kernel, by decide +kernel⟩, List.mem_of_getElem? (i := 840) (by decide +kernel), List.mem_of_getElem? (i := 1107) (by decide +kernel), List.mem_of_getElem? (i := 1108) (by decide +kernel)⟩
def lw_privs_3 : List (MethodName × Nat) := [(⟨"ToWhoNeedsModel", "isNext", "(I)Z"⟩, 39), (⟨"ToWhoNeedsModel", "readsLetter", "(I)Z"⟩, 39), (⟨"ToWhoNeedsModel", "passesAll", "(IZ)V"⟩, 39), (⟨"ToWhoNeedsModel", "passes", "([I)V"⟩, 39), (⟨"ToWhoNeedsModel", "passOne", "(I)I"⟩, 39), (⟨"ToWhoNeedsModel", "comes", "(I)Z"⟩, 39), (⟨"ToWhoNeedsModel", "isPerson", "(I)Z"⟩, 39), (⟨"ToWhoNeedsModel", "isWriter", "(I)Z"⟩, 39), (⟨"ToWhoNeedsModel", "scoreOf", "(II)I"⟩, 39), (⟨"ToWhoNeedsModel", "goesTo", "(I)I"⟩, 39), (⟨"ToWhoNeedsModel", "firstBut", "(II)I"⟩, 39), (⟨"ToWhoNeedsModel", "posts", "(I)I"⟩, 39), (⟨"ToWhoNeedsModel", "has", "(II)V"⟩, 39), (⟨"ToWhoNeedsModel", "grows", "()V"⟩, 39), (⟨"ToWhoNeedsModel", "sumOf", "()I"⟩, 39), (⟨"ToWhoNeedsModel", "canOf", "(I)I"⟩, 39)]
theorem lw_r3 : ∀ q ∈ lw_privs_3, lw_okq q := List.forall_mem_cons.mpr ⟨lw_p32, List.forall_mem_cons.mpr ⟨lw_p33, List.forall_mem_cons.mpr ⟨lw_p34, List.forall_mem_cons.mpr ⟨lw_p35, List.forall_mem_cons.mpr ⟨lw_p36, List.forall_mem_cons.mpr ⟨lw_p37, List.forall_mem_cons.mpr ⟨lw_p38, List.forall_mem_cons.mpr ⟨lw_p39, List.forall_mem_cons.mpr ⟨lw_p40, List.forall_mem_cons.mpr ⟨lw_p41, List.forall_mem_cons.mpr ⟨lw_p42, List.forall_mem_cons.mpr ⟨lw_p43, List.forall_mem_cons.mpr ⟨lw_p44, List.forall_mem_cons.mpr ⟨lw_p45, List.forall_mem_cons.mpr ⟨lw_p46, List.forall_mem_cons.mpr ⟨lw_p47, fun _ h => absurd h List.not_mem_nil⟩⟩⟩⟩⟩⟩⟩⟩⟩⟩⟩⟩⟩⟩⟩⟩
theorem lw_p48 : lw_okq (⟨"ToWhoNeedsModel", "whoGets", "()I"⟩, 39) := ⟨⟨by decide +kernel, by decide +kernel⟩, List.mem_of_getElem? (i := 840) (by decide +kernel), List.mem_of_getElem? (i := 1121) (by decide +kernel), List.mem_of_getElem? (i := 1122) (by decide +kernel)⟩
theorem lw_p49 : lw_okq (⟨"ToWhoNeedsModel", "costAhead", "(II)I"⟩, 39) := ⟨⟨by decide +kernel, by decide +kernel⟩, List.mem_of_getElem? (i := 840) (by decide +kernel), List.mem_of_getElem? (i := 1133) (by decide +kernel), List.mem_of_getElem? (i := 1134) (by decide +kernel)⟩
theorem lw_p50 : lw_okq (⟨"ToWhoNeedsModel", "isReached", "(I)Z"⟩, 39) := ⟨⟨by decide +kernel, by decide +kernel⟩, List.mem_of_getElem? (i := 840) (by decide +kernel), List.mem_of_getElem? (i := 1137) (by decide +kernel), List.mem_of_getElem? (i := 1138) (by decide +kernel)⟩
theorem lw_p51 : lw_okq (⟨"ToWhoNeedsModel", "keeps", "(I)V"⟩, 39) := ⟨⟨by decide +kernel, by decide +kernel⟩, List.mem_of_getElem? (i := 840) (by decide +kernel), List.mem_of_getElem? (i := 1141) (by decide +kernel), List.mem_of_getElem? (i := 1142) (by decide +kernel)⟩
theorem lw_p52 : lw_okq (⟨"ToWhoNeedsModel", "costAheadOne", "(III)I"⟩, 39) := ⟨⟨by decide +kernel, by decide +kernel⟩, List.mem_of_getElem? (i := 840) (by decide +kernel), List.mem_of_getElem? (i := 1145) (by decide +kernel), List.mem_of_getElem? (i := 1146) (by decide +kernel)⟩
theorem lw_p53 : lw_okq (⟨"ToWhoNeedsModel", "putsBack", "(I)V"⟩, 39) := ⟨⟨by decide +kernel, by decide +kernel⟩, List.mem_of_getElem? (i := 840) (by decide +kernel), List.mem_of_getElem? (i := 1149) (by decide +kernel), List.mem_of_getElem? (i := 1150) (by decide +kernel)⟩
theorem lw_p54 : lw_okq (⟨"ToWhoNeedsModel", "metBy", "(I)I"⟩, 39) := ⟨⟨by decide +kernel, by decide +kernel⟩, List.mem_of_getElem? (i := 840) (by decide +kernel), List.mem_of_getElem? (i := 1165) (by decide +kernel), List.mem_of_getElem? (i := 1166) (by decide +kernel)⟩
theorem lw_p55 : lw_okq (⟨"ToWhoNeedsModel", "ordersBy", "(I)V"⟩, 39) := ⟨⟨by decide +kernel, by decide +kernel⟩, List.mem_of_getElem? (i := 840) (by decide +kernel), List.mem_of_getElem? (i := 1173) (by decide +kernel), List.mem_of_getElem? (i := 1174) (by decide +kernel)⟩
theorem lw_p56 : lw_okq (⟨"ToWhoNeedsModel", "fitting", "(II)I"⟩, 39) := ⟨⟨by decide +kernel, by decide +kernel⟩, List.mem_of_getElem? (i := 840) (by decide +kernel), List.mem_of_getElem? (i := 1196) (by decide +kernel), List.mem_of_getElem? (i := 1197) (by decide +kernel)⟩
theorem lw_p57 : lw_okq (⟨"ToWhoNeedsModel", "isThought", "()Z"⟩, 39) := ⟨⟨by decide +kernel, by decide +kernel⟩, List.mem_of_getElem? (i := 840) (by decide +kernel), List.mem_of_getElem? (i := 1200) (by decide +kernel), List.mem_of_getElem? (i := 1201) (by decide +kernel)⟩
theorem lw_p58 : lw_okq (⟨"ToWhoNeedsModel", "chanceOf", "(II)I"⟩, 39) := ⟨⟨by decide +kernel, by decide +kernel⟩, List.mem_of_getElem? (i := 840) (by decide +kernel), List.mem_of_getElem? (i := 1216) (by decide +kernel), List.mem_of_getElem? (i := 1217) (by decide +kernel)⟩
theorem lw_p59 : lw_okq (⟨"ToWhoNeedsModel", "writesOf", "(I)I"⟩, 39) := ⟨⟨by decide +kernel, by decide +kernel⟩, List.mem_of_getElem? (i := 840) (by decide +kernel), List.mem_of_getElem? (i := 1231) (by decide +kernel), List.mem_of_getElem? (i := 1232) (by decide +kernel)⟩
theorem lw_p60 : lw_okq (⟨"ToWhoNeedsModel", "aimOf", "(I)I"⟩, 39) := ⟨⟨by decide +kernel, by decide +kernel⟩, List.mem_of_getElem? (i := 840) (by decide +kernel), List.mem_of_getElem? (i := 1235) (by decide +kernel), List.mem_of_getElem? (i := 1236) (by decide +kernel)⟩
theorem lw_p61 : lw_okq (⟨"ToWhoNeedsModel", "allOf", "()I"⟩, 39) := ⟨⟨by decide +kernel, by decide +kernel⟩, List.mem_of_getElem? (i := 840) (by decide +kernel), List.mem_of_getElem? (i := 1239) (by decide +kernel), List.mem_of_getElem? (i := 1240) (by decide +kernel)⟩
theorem lw_p62 : lw_okq (⟨"ToWhoNeedsModel", "aheadOf", "(I)I"⟩, 39) := ⟨⟨by decide +kernel, by decide +kernel⟩, List.mem_of_getElem? (i := 840) (by decide +kernel), List.mem_of_getElem? (i := 1243) (by decide +kernel), List.mem_of_getElem? (i := 1244) (by decide +kernel)⟩
theorem lw_p63 : lw_okq (⟨"ToWhoNeedsModel", "aimBehind", "(II)I"⟩, 39) := ⟨⟨by decide +kernel, by decide +kernel⟩, List.mem_of_getElem? (i := 840) (by decide +kernel), List.mem_of_getElem? (i := 1255) (by decide +kernel), List.mem_of_getElem? (i := 1256) (by decide +kernel)⟩
def lw_privs_4 : List (MethodName × Nat) := [(⟨"ToWhoNeedsModel", "whoGets", "()I"⟩, 39), (⟨"ToWhoNeedsModel", "costAhead", "(II)I"⟩, 39), (⟨"ToWhoNeedsModel", "isReached", "(I)Z"⟩, 39), (⟨"ToWhoNeedsModel", "keeps", "(I)V"⟩, 39), (⟨"ToWhoNeedsModel", "costAheadOne", "(III)I"⟩, 39), (⟨"ToWhoNeedsModel", "putsBack", "(I)V"⟩, 39), (⟨"ToWhoNeedsModel", "metBy", "(I)I"⟩, 39), (⟨"ToWhoNeedsModel", "ordersBy", "(I)V"⟩, 39), (⟨"ToWhoNeedsModel", "fitting", "(II)I"⟩, 39), (⟨"ToWhoNeedsModel", "isThought", "()Z"⟩, 39), (⟨"ToWhoNeedsModel", "chanceOf", "(II)I"⟩, 39), (⟨"ToWhoNeedsModel", "writesOf", "(I)I"⟩, 39), (⟨"ToWhoNeedsModel", "aimOf", "(I)I"⟩, 39), (⟨"ToWhoNeedsModel", "allOf", "()I"⟩, 39), (⟨"ToWhoNeedsModel", "aheadOf", "(I)I"⟩, 39), (⟨"ToWhoNeedsModel", "aimBehind", "(II)I"⟩, 39)]
theorem lw_r4 : ∀ q ∈ lw_privs_4, lw_okq q := List.forall_mem_cons.mpr ⟨lw_p48, List.forall_mem_cons.mpr ⟨lw_p49, List.forall_mem_cons.mpr ⟨lw_p50, List.forall_mem_cons.mpr ⟨lw_p51, List.forall_mem_cons.mpr ⟨lw_p52, List.forall_mem_cons.mpr ⟨lw_p53, List.forall_mem_cons.mpr ⟨lw_p54, List.forall_mem_cons.mpr ⟨lw_p55, List.forall_mem_cons.mpr ⟨lw_p56, List.forall_mem_cons.mpr ⟨lw_p57, List.forall_mem_cons.mpr ⟨lw_p58, List.forall_mem_cons.mpr ⟨lw_p59, List.forall_mem_cons.mpr ⟨lw_p60, List.forall_mem_cons.mpr ⟨lw_p61, List.forall_mem_cons.mpr ⟨lw_p62, List.forall_mem_cons.mpr ⟨lw_p63, fun _ h => absurd h List.not_mem_nil⟩⟩⟩⟩⟩⟩⟩⟩⟩⟩⟩⟩⟩⟩⟩⟩
theorem lw_p64 : lw_okq (⟨"ToWhoNeedsModel", "draw", "(I)I"⟩, 39) := ⟨⟨by decide +kernel, by decide +kernel⟩, List.mem_of_getElem? (i := 840) (by decide +kernel), List.mem_of_getElem? (i := 1263) (by decide +kernel), List.mem_of_getElem? (i := 1264) (by decide +kernel)⟩
def lw_privs_5 : List (MethodName × Nat) := [(⟨"ToWhoNeedsModel", "draw", "(I)I"⟩, 39)]
theorem lw_r5 : ∀ q ∈ lw_privs_5, lw_okq q := List.forall_mem_cons.mpr ⟨lw_p64, fun _ h => absurd h List.not_mem_nil⟩
def lw_privs : List (MethodName × Nat) := lw_privs_1 ++ (lw_privs_2 ++ (lw_privs_3 ++ (lw_privs_4 ++ (lw_privs_5))))
def lw_tbl : List Cond := k2_sels lw_privs ++ tables_1
theorem lw_privs_ok : ∀ q ∈ lw_privs, lw_okq q := by
  show ∀ q ∈ lw_privs_1 ++ (lw_privs_2 ++ (lw_privs_3 ++ (lw_privs_4 ++ (lw_privs_5)))), lw_okq q
  exact List.forall_mem_append.mpr ⟨lw_r1, List.forall_mem_append.mpr ⟨lw_r2, List.forall_mem_append.mpr ⟨lw_r3, List.forall_mem_append.mpr ⟨lw_r4, lw_r5⟩⟩⟩⟩
end
section
def RX0 : String := "ToWhoNeeds$Law"
def TX0 : u_T := fun k => match k with
  | _ => ("", "", "", false)
def tyX0 : Nat → FieldType := fun k => match k with
  | _ => .int
theorem nmX0 : ∀ a, a < 0 → ∀ b, b < 0 → a ≠ b → (TX0 a).2.1 ≠ (TX0 b).2.1 := by decide +kernel
theorem tyX0_ok : ∀ k, k < 0 → parseFieldDescriptor (TX0 k).2.2.1 = some (tyX0 k) := by decide +kernel
abbrev cX0_init : ByteArray := prog_2_method_1_code
def yX0_init : MethodName := ⟨RX0, "<init>", "(I)V"⟩
abbrev cX0_havers : ByteArray := prog_2_method_3_code
def yX0_havers : MethodName := ⟨RX0, "havers", "(LToWhoNeeds$People;II)I"⟩
abbrev cX0_rank : ByteArray := prog_2_method_4_code
def yX0_rank : MethodName := ⟨RX0, "rank", "(LToWhoNeeds$People;II)I"⟩
abbrev cX0_reaches : ByteArray := prog_2_method_5_code
def yX0_reaches : MethodName := ⟨RX0, "reaches", "(LToWhoNeeds$People;II)Z"⟩
abbrev cX0_receiver : ByteArray := prog_2_method_6_code
def yX0_receiver : MethodName := ⟨RX0, "receiver", "(LToWhoNeeds$People;I)I"⟩
abbrev cX0_deliver : ByteArray := prog_2_method_7_code
def yX0_deliver : MethodName := ⟨RX0, "deliver", "(LToWhoNeeds$People;I)I"⟩
abbrev cX0_chance : ByteArray := prog_2_method_8_code
def yX0_chance : MethodName := ⟨RX0, "chance", "(LToWhoNeeds$People;III)I"⟩
def RX1 : String := "ToWhoNeeds$Met"
def TX1 : u_T := fun k => match k with
  | _ => ("ToWhoNeeds$Law", "place", "I", true)
def tyX1 : Nat → FieldType := fun k => match k with
  | _ => .int
theorem nmX1 : ∀ a, a < 1 → ∀ b, b < 1 → a ≠ b → (TX1 a).2.1 ≠ (TX1 b).2.1 := by decide +kernel
theorem tyX1_ok : ∀ k, k < 1 → parseFieldDescriptor (TX1 k).2.2.1 = some (tyX1 k) := by decide +kernel
abbrev cX1_init : ByteArray := prog_3_method_1_code
def yX1_init : MethodName := ⟨RX1, "<init>", "()V"⟩
abbrev cX1_scoreOf : ByteArray := prog_3_method_2_code
def yX1_scoreOf : MethodName := ⟨RX1, "scoreOf", "(LToWhoNeeds$People;II)I"⟩
def RX2 : String := "ToWhoNeeds$Mind"
def TX2 : u_T := fun k => match k with
  | 0 => ("ToWhoNeeds$Mind", "thought", "LToWhoNeeds$People;", true)
  | 1 => ("ToWhoNeeds$Mind", "further", "LToWhoNeeds$People;", true)
  | 2 => ("ToWhoNeeds$Mind", "line", "LToWhoNeeds$Numbers;", true)
  | 3 => ("ToWhoNeeds$Mind", "bestLine", "LToWhoNeeds$Numbers;", true)
  | _ => ("ToWhoNeeds$Mind", "seed", "I", false)
def tyX2 : Nat → FieldType := fun k => match k with
  | 0 => .object "ToWhoNeeds$People"
  | 1 => .object "ToWhoNeeds$People"
  | 2 => .object "ToWhoNeeds$Numbers"
  | 3 => .object "ToWhoNeeds$Numbers"
  | _ => .int
theorem nmX2 : ∀ a, a < 5 → ∀ b, b < 5 → a ≠ b → (TX2 a).2.1 ≠ (TX2 b).2.1 := by decide +kernel
theorem tyX2_ok : ∀ k, k < 5 → parseFieldDescriptor (TX2 k).2.2.1 = some (tyX2 k) := by decide +kernel
abbrev cX2_init : ByteArray := prog_4_method_1_code
def yX2_init : MethodName := ⟨RX2, "<init>", "()V"⟩
abbrev cX2_cheapestTo : ByteArray := prog_4_method_2_code
def yX2_cheapestTo : MethodName := ⟨RX2, "cheapestTo", "(LToWhoNeeds$People;LToWhoNeeds$Law;II)I"⟩
abbrev cX2_isReached : ByteArray := prog_4_method_3_code
def yX2_isReached : MethodName := ⟨RX2, "isReached", "(LToWhoNeeds$People;LToWhoNeeds$Law;I)Z"⟩
abbrev cX2_reached : ByteArray := prog_4_method_4_code
def yX2_reached : MethodName := ⟨RX2, "reached", "(LToWhoNeeds$People;LToWhoNeeds$Law;)I"⟩
abbrev cX2_costOfOneBefore : ByteArray := prog_4_method_5_code
def yX2_costOfOneBefore : MethodName := ⟨RX2, "costOfOneBefore", "(LToWhoNeeds$People;LToWhoNeeds$Law;I)I"⟩
abbrev cX2_costOfTwoBefore : ByteArray := prog_4_method_6_code
def yX2_costOfTwoBefore : MethodName := ⟨RX2, "costOfTwoBefore", "(LToWhoNeeds$People;LToWhoNeeds$Law;I)I"⟩
abbrev cX2_costOfNext : ByteArray := prog_4_method_7_code
def yX2_costOfNext : MethodName := ⟨RX2, "costOfNext", "(LToWhoNeeds$Law;II)I"⟩
abbrev cX2_takeLine : ByteArray := prog_4_method_8_code
def yX2_takeLine : MethodName := ⟨RX2, "takeLine", "(III)Z"⟩
abbrev cX2_lessByLine : ByteArray := prog_4_method_9_code
def yX2_lessByLine : MethodName := ⟨RX2, "lessByLine", "(LToWhoNeeds$People;LToWhoNeeds$Law;LToWhoNeeds$Numbers;)I"⟩
abbrev cX2_findBestLine : ByteArray := prog_4_method_10_code
def yX2_findBestLine : MethodName := ⟨RX2, "findBestLine", "(LToWhoNeeds$People;LToWhoNeeds$Law;LToWhoNeeds$Numbers;)I"⟩
abbrev cX2_stepLine : ByteArray := prog_4_method_11_code
def yX2_stepLine : MethodName := ⟨RX2, "stepLine", "()Z"⟩
abbrev cX2_swapInLine : ByteArray := prog_4_method_12_code
def yX2_swapInLine : MethodName := ⟨RX2, "swapInLine", "(II)V"⟩
abbrev cX2_lessByGreed : ByteArray := prog_4_method_13_code
def yX2_lessByGreed : MethodName := ⟨RX2, "lessByGreed", "(LToWhoNeeds$People;LToWhoNeeds$Law;LToWhoNeeds$Numbers;)I"⟩
abbrev cX2_greediest : ByteArray := prog_4_method_14_code
def yX2_greediest : MethodName := ⟨RX2, "greediest", "(LToWhoNeeds$Law;LToWhoNeeds$Numbers;I)I"⟩
abbrev cX2_timesTillHad : ByteArray := prog_4_method_15_code
def yX2_timesTillHad : MethodName := ⟨RX2, "timesTillHad", "(LToWhoNeeds$People;LToWhoNeeds$Law;II)I"⟩
abbrev cX2_fittingValues : ByteArray := prog_4_method_16_code
def yX2_fittingValues : MethodName := ⟨RX2, "fittingValues", "(LToWhoNeeds$State;LToWhoNeeds$Law;II)I"⟩
abbrev cX2_allWentSo : ByteArray := prog_4_method_17_code
def yX2_allWentSo : MethodName := ⟨RX2, "allWentSo", "(LToWhoNeeds$State;LToWhoNeeds$Law;)Z"⟩
abbrev cX2_mostTelling : ByteArray := prog_4_method_18_code
def yX2_mostTelling : MethodName := ⟨RX2, "mostTelling", "(LToWhoNeeds$People;LToWhoNeeds$Law;III)I"⟩
abbrev cX2_receiversOver : ByteArray := prog_4_method_19_code
def yX2_receiversOver : MethodName := ⟨RX2, "receiversOver", "(LToWhoNeeds$Law;IIII)I"⟩
abbrev cX2_surestTo : ByteArray := prog_4_method_20_code
def yX2_surestTo : MethodName := ⟨RX2, "surestTo", "(LToWhoNeeds$People;LToWhoNeeds$Law;II)I"⟩
abbrev cX2_written : ByteArray := prog_4_method_21_code
def yX2_written : MethodName := ⟨RX2, "written", "(LToWhoNeeds$State;LToWhoNeeds$Law;I)I"⟩
abbrev cX2_meetingMost : ByteArray := prog_4_method_22_code
def yX2_meetingMost : MethodName := ⟨RX2, "meetingMost", "(LToWhoNeeds$People;LToWhoNeeds$Law;)I"⟩
abbrev cX2_easing : ByteArray := prog_4_method_23_code
def yX2_easing : MethodName := ⟨RX2, "easing", "(LToWhoNeeds$People;LToWhoNeeds$Law;II)I"⟩
abbrev cX2_roundsOfTwo : ByteArray := prog_4_method_24_code
def yX2_roundsOfTwo : MethodName := ⟨RX2, "roundsOfTwo", "(LToWhoNeeds$State;LToWhoNeeds$Law;II)I"⟩
abbrev cX2_aimedBehind : ByteArray := prog_4_method_25_code
def yX2_aimedBehind : MethodName := ⟨RX2, "aimedBehind", "(LToWhoNeeds$State;LToWhoNeeds$Law;II)I"⟩
abbrev cX2_needBehindDays : ByteArray := prog_4_method_26_code
def yX2_needBehindDays : MethodName := ⟨RX2, "needBehindDays", "(LToWhoNeeds$People;LToWhoNeeds$Law;II)I"⟩
abbrev cX2_drawBelow : ByteArray := prog_4_method_27_code
def yX2_drawBelow : MethodName := ⟨RX2, "drawBelow", "(I)I"⟩
abbrev cX2_firstNotSo : ByteArray := prog_4_method_28_code
def yX2_firstNotSo : MethodName := ⟨RX2, "firstNotSo", "(LToWhoNeeds$People;LToWhoNeeds$Law;LToWhoNeeds$Numbers;LToWhoNeeds$Numbers;)I"⟩
def RX3 : String := "ToWhoNeeds$Most"
def TX3 : u_T := fun k => match k with
  | _ => ("ToWhoNeeds$Law", "place", "I", true)
def tyX3 : Nat → FieldType := fun k => match k with
  | _ => .int
theorem nmX3 : ∀ a, a < 1 → ∀ b, b < 1 → a ≠ b → (TX3 a).2.1 ≠ (TX3 b).2.1 := by decide +kernel
theorem tyX3_ok : ∀ k, k < 1 → parseFieldDescriptor (TX3 k).2.2.1 = some (tyX3 k) := by decide +kernel
abbrev cX3_init : ByteArray := prog_5_method_1_code
def yX3_init : MethodName := ⟨RX3, "<init>", "()V"⟩
abbrev cX3_scoreOf : ByteArray := prog_5_method_2_code
def yX3_scoreOf : MethodName := ⟨RX3, "scoreOf", "(LToWhoNeeds$People;II)I"⟩
def RX4 : String := "ToWhoNeeds$Numbers"
def TX4 : u_T := fun k => match k with
  | 0 => ("ToWhoNeeds$Numbers", "items", "[I", true)
  | _ => ("ToWhoNeeds$Numbers", "size", "I", false)
def tyX4 : Nat → FieldType := fun k => match k with
  | 0 => .array .int
  | _ => .int
theorem nmX4 : ∀ a, a < 2 → ∀ b, b < 2 → a ≠ b → (TX4 a).2.1 ≠ (TX4 b).2.1 := by decide +kernel
theorem tyX4_ok : ∀ k, k < 2 → parseFieldDescriptor (TX4 k).2.2.1 = some (tyX4 k) := by decide +kernel
abbrev cX4_init : ByteArray := prog_6_method_1_code
def yX4_init : MethodName := ⟨RX4, "<init>", "(I)V"⟩
abbrev cX4_isFull : ByteArray := prog_6_method_2_code
def yX4_isFull : MethodName := ⟨RX4, "isFull", "()Z"⟩
abbrev cX4_add : ByteArray := prog_6_method_3_code
def yX4_add : MethodName := ⟨RX4, "add", "(I)V"⟩
abbrev cX4_get : ByteArray := prog_6_method_4_code
def yX4_get : MethodName := ⟨RX4, "get", "(I)I"⟩
abbrev cX4_set : ByteArray := prog_6_method_5_code
def yX4_set : MethodName := ⟨RX4, "set", "(II)V"⟩
abbrev cX4_clear : ByteArray := prog_6_method_6_code
def yX4_clear : MethodName := ⟨RX4, "clear", "()V"⟩
abbrev cX4_takeFrom : ByteArray := prog_6_method_7_code
def yX4_takeFrom : MethodName := ⟨RX4, "takeFrom", "(LToWhoNeeds$Numbers;)V"⟩
def RX5 : String := "ToWhoNeeds$People"
def TX5 : u_T := fun k => match k with
  | 0 => ("ToWhoNeeds$People", "needs", "[I", true)
  | 1 => ("ToWhoNeeds$People", "growths", "[I", true)
  | _ => ("ToWhoNeeds$People", "size", "I", false)
def tyX5 : Nat → FieldType := fun k => match k with
  | 0 => .array .int
  | 1 => .array .int
  | _ => .int
theorem nmX5 : ∀ a, a < 3 → ∀ b, b < 3 → a ≠ b → (TX5 a).2.1 ≠ (TX5 b).2.1 := by decide +kernel
theorem tyX5_ok : ∀ k, k < 3 → parseFieldDescriptor (TX5 k).2.2.1 = some (tyX5 k) := by decide +kernel
abbrev cX5_init : ByteArray := prog_7_method_1_code
def yX5_init : MethodName := ⟨RX5, "<init>", "()V"⟩
abbrev cX5_has : ByteArray := prog_7_method_2_code
def yX5_has : MethodName := ⟨RX5, "has", "(I)Z"⟩
abbrev cX5_lack : ByteArray := prog_7_method_3_code
def yX5_lack : MethodName := ⟨RX5, "lack", "(II)I"⟩
abbrev cX5_setLack : ByteArray := prog_7_method_4_code
def yX5_setLack : MethodName := ⟨RX5, "setLack", "(III)V"⟩
abbrev cX5_enter : ByteArray := prog_7_method_5_code
def yX5_enter : MethodName := ⟨RX5, "enter", "(I)Z"⟩
abbrev cX5_takeFrom : ByteArray := prog_7_method_6_code
def yX5_takeFrom : MethodName := ⟨RX5, "takeFrom", "(LToWhoNeeds$People;)V"⟩
abbrev cX5_total : ByteArray := prog_7_method_7_code
def yX5_total : MethodName := ⟨RX5, "total", "()I"⟩
abbrev cX5_grow : ByteArray := prog_7_method_8_code
def yX5_grow : MethodName := ⟨RX5, "grow", "()V"⟩
abbrev cX5_handTo : ByteArray := prog_7_method_9_code
def yX5_handTo : MethodName := ⟨RX5, "handTo", "(II)V"⟩
def RX6 : String := "ToWhoNeeds$ReadOn"
def TX6 : u_T := fun k => match k with
  | _ => ("ToWhoNeeds$Law", "place", "I", true)
def tyX6 : Nat → FieldType := fun k => match k with
  | _ => .int
theorem nmX6 : ∀ a, a < 1 → ∀ b, b < 1 → a ≠ b → (TX6 a).2.1 ≠ (TX6 b).2.1 := by decide +kernel
theorem tyX6_ok : ∀ k, k < 1 → parseFieldDescriptor (TX6 k).2.2.1 = some (tyX6 k) := by decide +kernel
abbrev cX6_init : ByteArray := prog_8_method_1_code
def yX6_init : MethodName := ⟨RX6, "<init>", "()V"⟩
abbrev cX6_havers : ByteArray := prog_8_method_2_code
def yX6_havers : MethodName := ⟨RX6, "havers", "(LToWhoNeeds$People;II)I"⟩
def RX7 : String := "ToWhoNeeds$Reader"
def TX7 : u_T := fun k => match k with
  | 0 => ("ToWhoNeeds$Reader", "text", "LToWhoNeeds$Numbers;", true)
  | 1 => ("ToWhoNeeds$Reader", "draft", "LToWhoNeeds$State;", true)
  | 2 => ("ToWhoNeeds$Reader", "numbers", "[I", true)
  | _ => ("ToWhoNeeds$Reader", "at", "I", false)
def tyX7 : Nat → FieldType := fun k => match k with
  | 0 => .object "ToWhoNeeds$Numbers"
  | 1 => .object "ToWhoNeeds$State"
  | 2 => .array .int
  | _ => .int
theorem nmX7 : ∀ a, a < 4 → ∀ b, b < 4 → a ≠ b → (TX7 a).2.1 ≠ (TX7 b).2.1 := by decide +kernel
theorem tyX7_ok : ∀ k, k < 4 → parseFieldDescriptor (TX7 k).2.2.1 = some (tyX7 k) := by decide +kernel
abbrev cX7_init : ByteArray := prog_9_method_1_code
def yX7_init : MethodName := ⟨RX7, "<init>", "()V"⟩
abbrev cX7_read : ByteArray := prog_9_method_2_code
def yX7_read : MethodName := ⟨RX7, "read", "(LToWhoNeeds$State;)I"⟩
abbrev cX7_isShaped : ByteArray := prog_9_method_3_code
def yX7_isShaped : MethodName := ⟨RX7, "isShaped", "()Z"⟩
abbrev cX7_enterAll : ByteArray := prog_9_method_4_code
def yX7_enterAll : MethodName := ⟨RX7, "enterAll", "()I"⟩
abbrev cX7_scanStatement : ByteArray := prog_9_method_5_code
def yX7_scanStatement : MethodName := ⟨RX7, "scanStatement", "()Z"⟩
abbrev cX7_scanPerson : ByteArray := prog_9_method_6_code
def yX7_scanPerson : MethodName := ⟨RX7, "scanPerson", "()Z"⟩
abbrev cX7_scanAmounts : ByteArray := prog_9_method_7_code
def yX7_scanAmounts : MethodName := ⟨RX7, "scanAmounts", "()Z"⟩
abbrev cX7_scanNeed : ByteArray := prog_9_method_8_code
def yX7_scanNeed : MethodName := ⟨RX7, "scanNeed", "(I)Z"⟩
abbrev cX7_scanKind : ByteArray := prog_9_method_9_code
def yX7_scanKind : MethodName := ⟨RX7, "scanKind", "()Z"⟩
abbrev cX7_scanDigit : ByteArray := prog_9_method_10_code
def yX7_scanDigit : MethodName := ⟨RX7, "scanDigit", "(I)Z"⟩
abbrev cX7_pass : ByteArray := prog_9_method_11_code
def yX7_pass : MethodName := ⟨RX7, "pass", "(C)Z"⟩
abbrev cX7_enter : ByteArray := prog_9_method_12_code
def yX7_enter : MethodName := ⟨RX7, "enter", "(I)Z"⟩
abbrev cX7_enterPerson : ByteArray := prog_9_method_13_code
def yX7_enterPerson : MethodName := ⟨RX7, "enterPerson", "()Z"⟩
abbrev cX7_enterWriter : ByteArray := prog_9_method_14_code
def yX7_enterWriter : MethodName := ⟨RX7, "enterWriter", "()Z"⟩
abbrev cX7_enterAmounts : ByteArray := prog_9_method_15_code
def yX7_enterAmounts : MethodName := ⟨RX7, "enterAmounts", "()Z"⟩
abbrev cX7_areAtMost : ByteArray := prog_9_method_16_code
def yX7_areAtMost : MethodName := ⟨RX7, "areAtMost", "(I)Z"⟩
def RX8 : String := "ToWhoNeeds$Second"
def TX8 : u_T := fun k => match k with
  | _ => ("ToWhoNeeds$Law", "place", "I", true)
def tyX8 : Nat → FieldType := fun k => match k with
  | _ => .int
theorem nmX8 : ∀ a, a < 1 → ∀ b, b < 1 → a ≠ b → (TX8 a).2.1 ≠ (TX8 b).2.1 := by decide +kernel
theorem tyX8_ok : ∀ k, k < 1 → parseFieldDescriptor (TX8 k).2.2.1 = some (tyX8 k) := by decide +kernel
abbrev cX8_init : ByteArray := prog_10_method_1_code
def yX8_init : MethodName := ⟨RX8, "<init>", "()V"⟩
def RX9 : String := "ToWhoNeeds$State"
def TX9 : u_T := fun k => match k with
  | 0 => ("ToWhoNeeds$State", "people", "LToWhoNeeds$People;", true)
  | 1 => ("ToWhoNeeds$State", "kinds", "LToWhoNeeds$Numbers;", true)
  | 2 => ("ToWhoNeeds$State", "aims", "LToWhoNeeds$Numbers;", true)
  | 3 => ("ToWhoNeeds$State", "letters", "LToWhoNeeds$Numbers;", true)
  | 4 => ("ToWhoNeeds$State", "told", "LToWhoNeeds$Numbers;", true)
  | 5 => ("ToWhoNeeds$State", "wentLetter", "LToWhoNeeds$Numbers;", true)
  | 6 => ("ToWhoNeeds$State", "wentTo", "LToWhoNeeds$Numbers;", true)
  | 7 => ("ToWhoNeeds$State", "law", "I", false)
  | 8 => ("ToWhoNeeds$State", "err", "I", false)
  | 9 => ("ToWhoNeeds$State", "day", "I", false)
  | _ => ("ToWhoNeeds$State", "posted", "I", false)
def tyX9 : Nat → FieldType := fun k => match k with
  | 0 => .object "ToWhoNeeds$People"
  | 1 => .object "ToWhoNeeds$Numbers"
  | 2 => .object "ToWhoNeeds$Numbers"
  | 3 => .object "ToWhoNeeds$Numbers"
  | 4 => .object "ToWhoNeeds$Numbers"
  | 5 => .object "ToWhoNeeds$Numbers"
  | 6 => .object "ToWhoNeeds$Numbers"
  | 7 => .int
  | 8 => .int
  | 9 => .int
  | _ => .int
theorem nmX9 : ∀ a, a < 11 → ∀ b, b < 11 → a ≠ b → (TX9 a).2.1 ≠ (TX9 b).2.1 := by decide +kernel
theorem tyX9_ok : ∀ k, k < 11 → parseFieldDescriptor (TX9 k).2.2.1 = some (tyX9 k) := by decide +kernel
abbrev cX9_init : ByteArray := prog_11_method_1_code
def yX9_init : MethodName := ⟨RX9, "<init>", "()V"⟩
abbrev cX9_isWriter : ByteArray := prog_11_method_2_code
def yX9_isWriter : MethodName := ⟨RX9, "isWriter", "(I)Z"⟩
abbrev cX9_takeFrom : ByteArray := prog_11_method_3_code
def yX9_takeFrom : MethodName := ⟨RX9, "takeFrom", "(LToWhoNeeds$State;)V"⟩
def RX10 : String := "ToWhoNeeds$Sum"
def TX10 : u_T := fun k => match k with
  | _ => ("ToWhoNeeds$Law", "place", "I", true)
def tyX10 : Nat → FieldType := fun k => match k with
  | _ => .int
theorem nmX10 : ∀ a, a < 1 → ∀ b, b < 1 → a ≠ b → (TX10 a).2.1 ≠ (TX10 b).2.1 := by decide +kernel
theorem tyX10_ok : ∀ k, k < 1 → parseFieldDescriptor (TX10 k).2.2.1 = some (tyX10 k) := by decide +kernel
abbrev cX10_init : ByteArray := prog_12_method_1_code
def yX10_init : MethodName := ⟨RX10, "<init>", "(I)V"⟩
abbrev cX10_scoreOf : ByteArray := prog_12_method_2_code
def yX10_scoreOf : MethodName := ⟨RX10, "scoreOf", "(LToWhoNeeds$People;II)I"⟩
def RX11 : String := "ToWhoNeeds"
def TX11 : u_T := fun k => match k with
  | 0 => ("ToWhoNeeds", "state", "LToWhoNeeds$State;", true)
  | 1 => ("ToWhoNeeds", "kept", "LToWhoNeeds$State;", true)
  | 2 => ("ToWhoNeeds", "reader", "LToWhoNeeds$Reader;", true)
  | 3 => ("ToWhoNeeds", "mind", "LToWhoNeeds$Mind;", true)
  | 4 => ("ToWhoNeeds", "kindsOfLaw", "[LToWhoNeeds$Law;", true)
  | 5 => ("ToWhoNeeds", "row", "LToWhoNeeds$Numbers;", true)
  | 6 => ("ToWhoNeeds", "refused", "[I", true)
  | _ => ("ToWhoNeeds", "isKept", "Z", false)
def tyX11 : Nat → FieldType := fun k => match k with
  | 0 => .object "ToWhoNeeds$State"
  | 1 => .object "ToWhoNeeds$State"
  | 2 => .object "ToWhoNeeds$Reader"
  | 3 => .object "ToWhoNeeds$Mind"
  | 4 => .array (.object "ToWhoNeeds$Law")
  | 5 => .object "ToWhoNeeds$Numbers"
  | 6 => .array .int
  | _ => .boolean
theorem nmX11 : ∀ a, a < 8 → ∀ b, b < 8 → a ≠ b → (TX11 a).2.1 ≠ (TX11 b).2.1 := by decide +kernel
theorem tyX11_ok : ∀ k, k < 8 → parseFieldDescriptor (TX11 k).2.2.1 = some (tyX11 k) := by decide +kernel
abbrev cX11_init : ByteArray := prog_1_method_1_code
def yX11_init : MethodName := ⟨RX11, "<init>", "()V"⟩
abbrev cX11_letter : ByteArray := prog_1_method_2_code
def yX11_letter : MethodName := ⟨RX11, "letter", "(I)I"⟩
abbrev cX11_parish : ByteArray := prog_1_method_3_code
def yX11_parish : MethodName := ⟨RX11, "parish", "()I"⟩
abbrev cX11_need : ByteArray := prog_1_method_4_code
def yX11_need : MethodName := ⟨RX11, "need", "(II)I"⟩
abbrev cX11_writer : ByteArray := prog_1_method_5_code
def yX11_writer : MethodName := ⟨RX11, "writer", "(II)I"⟩
abbrev cX11_law : ByteArray := prog_1_method_6_code
def yX11_law : MethodName := ⟨RX11, "law", "(I)I"⟩
abbrev cX11_err : ByteArray := prog_1_method_7_code
def yX11_err : MethodName := ⟨RX11, "err", "(I)I"⟩
abbrev cX11_score : ByteArray := prog_1_method_8_code
def yX11_score : MethodName := ⟨RX11, "score", "(II)I"⟩
abbrev cX11_goes : ByteArray := prog_1_method_9_code
def yX11_goes : MethodName := ⟨RX11, "goes", "(I)I"⟩
abbrev cX11_post : ByteArray := prog_1_method_10_code
def yX11_post : MethodName := ⟨RX11, "post", "(I)I"⟩
abbrev cX11_day : ByteArray := prog_1_method_11_code
def yX11_day : MethodName := ⟨RX11, "day", "()I"⟩
abbrev cX11_allNeed : ByteArray := prog_1_method_12_code
def yX11_allNeed : MethodName := ⟨RX11, "allNeed", "()I"⟩
abbrev cX11_can : ByteArray := prog_1_method_13_code
def yX11_can : MethodName := ⟨RX11, "can", "(I)I"⟩
abbrev cX11_who : ByteArray := prog_1_method_14_code
def yX11_who : MethodName := ⟨RX11, "who", "()I"⟩
abbrev cX11_never : ByteArray := prog_1_method_15_code
def yX11_never : MethodName := ⟨RX11, "never", "(I)I"⟩
abbrev cX11_before : ByteArray := prog_1_method_16_code
def yX11_before : MethodName := ⟨RX11, "before", "(II)I"⟩
abbrev cX11_order : ByteArray := prog_1_method_17_code
def yX11_order : MethodName := ⟨RX11, "order", "(I)I"⟩
abbrev cX11_forget : ByteArray := prog_1_method_18_code
def yX11_forget : MethodName := ⟨RX11, "forget", "()I"⟩
abbrev cX11_met : ByteArray := prog_1_method_19_code
def yX11_met : MethodName := ⟨RX11, "met", "(II)I"⟩
abbrev cX11_best : ByteArray := prog_1_method_20_code
def yX11_best : MethodName := ⟨RX11, "best", "(I)I"⟩
abbrev cX11_greedy : ByteArray := prog_1_method_21_code
def yX11_greedy : MethodName := ⟨RX11, "greedy", "()I"⟩
abbrev cX11_forty : ByteArray := prog_1_method_22_code
def yX11_forty : MethodName := ⟨RX11, "forty", "(II)I"⟩
abbrev cX11_going : ByteArray := prog_1_method_23_code
def yX11_going : MethodName := ⟨RX11, "going", "(II)I"⟩
abbrev cX11_think : ByteArray := prog_1_method_24_code
def yX11_think : MethodName := ⟨RX11, "think", "(III)I"⟩
abbrev cX11_tell : ByteArray := prog_1_method_25_code
def yX11_tell : MethodName := ⟨RX11, "tell", "(II)I"⟩
abbrev cX11_laws : ByteArray := prog_1_method_26_code
def yX11_laws : MethodName := ⟨RX11, "laws", "(I)I"⟩
abbrev cX11_eye : ByteArray := prog_1_method_27_code
def yX11_eye : MethodName := ⟨RX11, "eye", "(III)I"⟩
abbrev cX11_surest : ByteArray := prog_1_method_28_code
def yX11_surest : MethodName := ⟨RX11, "surest", "(I)I"⟩
abbrev cX11_morning : ByteArray := prog_1_method_29_code
def yX11_morning : MethodName := ⟨RX11, "morning", "()I"⟩
abbrev cX11_writes : ByteArray := prog_1_method_30_code
def yX11_writes : MethodName := ⟨RX11, "writes", "(I)I"⟩
abbrev cX11_both : ByteArray := prog_1_method_31_code
def yX11_both : MethodName := ⟨RX11, "both", "(II)I"⟩
abbrev cX11_year : ByteArray := prog_1_method_32_code
def yX11_year : MethodName := ⟨RX11, "year", "(II)I"⟩
abbrev cX11_row : ByteArray := prog_1_method_33_code
def yX11_row : MethodName := ⟨RX11, "row", "(I)I"⟩
abbrev cX11_judge : ByteArray := prog_1_method_34_code
def yX11_judge : MethodName := ⟨RX11, "judge", "()I"⟩
abbrev cX11_image : ByteArray := prog_1_method_35_code
def yX11_image : MethodName := ⟨RX11, "image", "()I"⟩
abbrev cX11_on : ByteArray := prog_1_method_36_code
def yX11_on : MethodName := ⟨RX11, "on", "()I"⟩
abbrev cX11_count : ByteArray := prog_1_method_37_code
def yX11_count : MethodName := ⟨RX11, "count", "(I)I"⟩
abbrev cX11_refuse : ByteArray := prog_1_method_38_code
def yX11_refuse : MethodName := ⟨RX11, "refuse", "(I)I"⟩
abbrev cX11_lawNow : ByteArray := prog_1_method_39_code
def yX11_lawNow : MethodName := ⟨RX11, "lawNow", "()LToWhoNeeds$Law;"⟩
abbrev cX11_isPlace : ByteArray := prog_1_method_40_code
def yX11_isPlace : MethodName := ⟨RX11, "isPlace", "(II)Z"⟩
abbrev cX11_isLetter : ByteArray := prog_1_method_41_code
def yX11_isLetter : MethodName := ⟨RX11, "isLetter", "(I)Z"⟩
abbrev cX11_costOf : ByteArray := prog_1_method_42_code
def yX11_costOf : MethodName := ⟨RX11, "costOf", "(I)I"⟩
abbrev cX11_leastOf : ByteArray := prog_1_method_43_code
def yX11_leastOf : MethodName := ⟨RX11, "leastOf", "(I)I"⟩
abbrev cX11_greatestOf : ByteArray := prog_1_method_44_code
def yX11_greatestOf : MethodName := ⟨RX11, "greatestOf", "(I)I"⟩
abbrev cX11_inLeastTerms : ByteArray := prog_1_method_45_code
def yX11_inLeastTerms : MethodName := ⟨RX11, "inLeastTerms", "(II)I"⟩
def RX12 : String := "ToWhoNeedsModel"
def TX12 : u_T := fun k => match k with
  | 0 => ("ToWhoNeedsModel", "refused", "[I", true)
  | 1 => ("ToWhoNeedsModel", "need", "[I", true)
  | 2 => ("ToWhoNeedsModel", "growth", "[I", true)
  | 3 => ("ToWhoNeedsModel", "kind", "[I", true)
  | 4 => ("ToWhoNeedsModel", "his", "[I", true)
  | 5 => ("ToWhoNeedsModel", "told", "[I", true)
  | 6 => ("ToWhoNeedsModel", "ordered", "[I", true)
  | 7 => ("ToWhoNeedsModel", "goingLetter", "[I", true)
  | 8 => ("ToWhoNeedsModel", "goingTo", "[I", true)
  | 9 => ("ToWhoNeedsModel", "persons", "I", false)
  | 10 => ("ToWhoNeedsModel", "writers", "I", false)
  | 11 => ("ToWhoNeedsModel", "law", "I", false)
  | 12 => ("ToWhoNeedsModel", "err", "I", false)
  | 13 => ("ToWhoNeedsModel", "orders", "I", false)
  | 14 => ("ToWhoNeedsModel", "goings", "I", false)
  | 15 => ("ToWhoNeedsModel", "day", "I", false)
  | 16 => ("ToWhoNeedsModel", "posted", "I", false)
  | 17 => ("ToWhoNeedsModel", "tape", "[I", true)
  | 18 => ("ToWhoNeedsModel", "letter", "[I", true)
  | 19 => ("ToWhoNeedsModel", "letterAt", "[I", true)
  | 20 => ("ToWhoNeedsModel", "one", "[I", true)
  | 21 => ("ToWhoNeedsModel", "other", "[I", true)
  | 22 => ("ToWhoNeedsModel", "third", "[I", true)
  | 23 => ("ToWhoNeedsModel", "fourth", "[I", true)
  | 24 => ("ToWhoNeedsModel", "fifth", "[I", true)
  | 25 => ("ToWhoNeedsModel", "taped", "I", false)
  | 26 => ("ToWhoNeedsModel", "at", "I", false)
  | 27 => ("ToWhoNeedsModel", "statements", "I", false)
  | 28 => ("ToWhoNeedsModel", "kept", "[I", true)
  | 29 => ("ToWhoNeedsModel", "needs", "[I", true)
  | 30 => ("ToWhoNeedsModel", "hasImage", "Z", false)
  | 31 => ("ToWhoNeedsModel", "isKeeping", "Z", false)
  | 32 => ("ToWhoNeedsModel", "cursor", "I", false)
  | 33 => ("ToWhoNeedsModel", "had", "I", false)
  | 34 => ("ToWhoNeedsModel", "place", "[I", true)
  | 35 => ("ToWhoNeedsModel", "bestPlace", "[I", true)
  | 36 => ("ToWhoNeedsModel", "lots", "I", false)
  | 37 => ("ToWhoNeedsModel", "row", "[I", true)
  | _ => ("ToWhoNeedsModel", "rowMany", "I", false)
def tyX12 : Nat → FieldType := fun k => match k with
  | 0 => .array .int
  | 1 => .array .int
  | 2 => .array .int
  | 3 => .array .int
  | 4 => .array .int
  | 5 => .array .int
  | 6 => .array .int
  | 7 => .array .int
  | 8 => .array .int
  | 9 => .int
  | 10 => .int
  | 11 => .int
  | 12 => .int
  | 13 => .int
  | 14 => .int
  | 15 => .int
  | 16 => .int
  | 17 => .array .int
  | 18 => .array .int
  | 19 => .array .int
  | 20 => .array .int
  | 21 => .array .int
  | 22 => .array .int
  | 23 => .array .int
  | 24 => .array .int
  | 25 => .int
  | 26 => .int
  | 27 => .int
  | 28 => .array .int
  | 29 => .array .int
  | 30 => .boolean
  | 31 => .boolean
  | 32 => .int
  | 33 => .int
  | 34 => .array .int
  | 35 => .array .int
  | 36 => .int
  | 37 => .array .int
  | _ => .int
theorem nmX12 : ∀ a, a < 39 → ∀ b, b < 39 → a ≠ b → (TX12 a).2.1 ≠ (TX12 b).2.1 := by decide +kernel
theorem tyX12_ok : ∀ k, k < 39 → parseFieldDescriptor (TX12 k).2.2.1 = some (tyX12 k) := by decide +kernel
abbrev cX12_init : ByteArray := prog_14_method_1_code
def yX12_init : MethodName := ⟨RX12, "<init>", "()V"⟩
abbrev cX12_no : ByteArray := prog_14_method_2_code
def yX12_no : MethodName := ⟨RX12, "no", "(I)I"⟩
abbrev cX12_isIn : ByteArray := prog_14_method_3_code
def yX12_isIn : MethodName := ⟨RX12, "isIn", "(III)Z"⟩
abbrev cX12_bound : ByteArray := prog_14_method_4_code
def yX12_bound : MethodName := ⟨RX12, "bound", "(III)I"⟩
abbrev cX12_isPerson : ByteArray := prog_14_method_5_code
def yX12_isPerson : MethodName := ⟨RX12, "isPerson", "(I)Z"⟩
abbrev cX12_isWriter : ByteArray := prog_14_method_6_code
def yX12_isWriter : MethodName := ⟨RX12, "isWriter", "(I)Z"⟩
abbrev cX12_amount : ByteArray := prog_14_method_7_code
def yX12_amount : MethodName := ⟨RX12, "amount", "(II)I"⟩
abbrev cX12_isLetter : ByteArray := prog_14_method_8_code
def yX12_isLetter : MethodName := ⟨RX12, "isLetter", "(I)Z"⟩
abbrev cX12_cost : ByteArray := prog_14_method_9_code
def yX12_cost : MethodName := ⟨RX12, "cost", "(I)I"⟩
abbrev cX12_two : ByteArray := prog_14_method_10_code
def yX12_two : MethodName := ⟨RX12, "two", "(I)I"⟩
abbrev cX12_letter : ByteArray := prog_14_method_11_code
def yX12_letter : MethodName := ⟨RX12, "letter", "(I)I"⟩
abbrev cX12_next : ByteArray := prog_14_method_12_code
def yX12_next : MethodName := ⟨RX12, "next", "()I"⟩
abbrev cX12_isNext : ByteArray := prog_14_method_13_code
def yX12_isNext : MethodName := ⟨RX12, "isNext", "(I)Z"⟩
abbrev cX12_number : ByteArray := prog_14_method_14_code
def yX12_number : MethodName := ⟨RX12, "number", "(I)I"⟩
abbrev cX12_kindOf : ByteArray := prog_14_method_15_code
def yX12_kindOf : MethodName := ⟨RX12, "kindOf", "(I)I"⟩
abbrev cX12_readsPerson : ByteArray := prog_14_method_16_code
def yX12_readsPerson : MethodName := ⟨RX12, "readsPerson", "(I)Z"⟩
abbrev cX12_readsLetter : ByteArray := prog_14_method_17_code
def yX12_readsLetter : MethodName := ⟨RX12, "readsLetter", "(I)Z"⟩
abbrev cX12_statement : ByteArray := prog_14_method_18_code
def yX12_statement : MethodName := ⟨RX12, "statement", "()Z"⟩
abbrev cX12_comes : ByteArray := prog_14_method_19_code
def yX12_comes : MethodName := ⟨RX12, "comes", "(I)Z"⟩
abbrev cX12_parish : ByteArray := prog_14_method_20_code
def yX12_parish : MethodName := ⟨RX12, "parish", "()I"⟩
abbrev cX12_passes : ByteArray := prog_14_method_21_code
def yX12_passes : MethodName := ⟨RX12, "passes", "([I)V"⟩
abbrev cX12_passOne : ByteArray := prog_14_method_22_code
def yX12_passOne : MethodName := ⟨RX12, "passOne", "(I)I"⟩
abbrev cX12_passesAll : ByteArray := prog_14_method_23_code
def yX12_passesAll : MethodName := ⟨RX12, "passesAll", "(IZ)V"⟩
abbrev cX12_keeps : ByteArray := prog_14_method_24_code
def yX12_keeps : MethodName := ⟨RX12, "keeps", "(I)V"⟩
abbrev cX12_putsBack : ByteArray := prog_14_method_25_code
def yX12_putsBack : MethodName := ⟨RX12, "putsBack", "(I)V"⟩
abbrev cX12_scoreOf : ByteArray := prog_14_method_26_code
def yX12_scoreOf : MethodName := ⟨RX12, "scoreOf", "(II)I"⟩
abbrev cX12_firstBut : ByteArray := prog_14_method_27_code
def yX12_firstBut : MethodName := ⟨RX12, "firstBut", "(II)I"⟩
abbrev cX12_goesTo : ByteArray := prog_14_method_28_code
def yX12_goesTo : MethodName := ⟨RX12, "goesTo", "(I)I"⟩
abbrev cX12_has : ByteArray := prog_14_method_29_code
def yX12_has : MethodName := ⟨RX12, "has", "(II)V"⟩
abbrev cX12_posts : ByteArray := prog_14_method_30_code
def yX12_posts : MethodName := ⟨RX12, "posts", "(I)I"⟩
abbrev cX12_sumOf : ByteArray := prog_14_method_31_code
def yX12_sumOf : MethodName := ⟨RX12, "sumOf", "()I"⟩
abbrev cX12_grows : ByteArray := prog_14_method_32_code
def yX12_grows : MethodName := ⟨RX12, "grows", "()V"⟩
abbrev cX12_need : ByteArray := prog_14_method_33_code
def yX12_need : MethodName := ⟨RX12, "need", "(II)I"⟩
abbrev cX12_writer : ByteArray := prog_14_method_34_code
def yX12_writer : MethodName := ⟨RX12, "writer", "(II)I"⟩
abbrev cX12_law : ByteArray := prog_14_method_35_code
def yX12_law : MethodName := ⟨RX12, "law", "(I)I"⟩
abbrev cX12_err : ByteArray := prog_14_method_36_code
def yX12_err : MethodName := ⟨RX12, "err", "(I)I"⟩
abbrev cX12_score : ByteArray := prog_14_method_37_code
def yX12_score : MethodName := ⟨RX12, "score", "(II)I"⟩
abbrev cX12_goes : ByteArray := prog_14_method_38_code
def yX12_goes : MethodName := ⟨RX12, "goes", "(I)I"⟩
abbrev cX12_post : ByteArray := prog_14_method_39_code
def yX12_post : MethodName := ⟨RX12, "post", "(I)I"⟩
abbrev cX12_day : ByteArray := prog_14_method_40_code
def yX12_day : MethodName := ⟨RX12, "day", "()I"⟩
abbrev cX12_allNeed : ByteArray := prog_14_method_41_code
def yX12_allNeed : MethodName := ⟨RX12, "allNeed", "()I"⟩
abbrev cX12_canOf : ByteArray := prog_14_method_42_code
def yX12_canOf : MethodName := ⟨RX12, "canOf", "(I)I"⟩
abbrev cX12_can : ByteArray := prog_14_method_43_code
def yX12_can : MethodName := ⟨RX12, "can", "(I)I"⟩
abbrev cX12_whoGets : ByteArray := prog_14_method_44_code
def yX12_whoGets : MethodName := ⟨RX12, "whoGets", "()I"⟩
abbrev cX12_who : ByteArray := prog_14_method_45_code
def yX12_who : MethodName := ⟨RX12, "who", "()I"⟩
abbrev cX12_never : ByteArray := prog_14_method_46_code
def yX12_never : MethodName := ⟨RX12, "never", "(I)I"⟩
abbrev cX12_isReached : ByteArray := prog_14_method_47_code
def yX12_isReached : MethodName := ⟨RX12, "isReached", "(I)Z"⟩
abbrev cX12_costAhead : ByteArray := prog_14_method_48_code
def yX12_costAhead : MethodName := ⟨RX12, "costAhead", "(II)I"⟩
abbrev cX12_costAheadOne : ByteArray := prog_14_method_49_code
def yX12_costAheadOne : MethodName := ⟨RX12, "costAheadOne", "(III)I"⟩
abbrev cX12_before : ByteArray := prog_14_method_50_code
def yX12_before : MethodName := ⟨RX12, "before", "(II)I"⟩
abbrev cX12_order : ByteArray := prog_14_method_51_code
def yX12_order : MethodName := ⟨RX12, "order", "(I)I"⟩
abbrev cX12_forget : ByteArray := prog_14_method_52_code
def yX12_forget : MethodName := ⟨RX12, "forget", "()I"⟩
abbrev cX12_metBy : ByteArray := prog_14_method_53_code
def yX12_metBy : MethodName := ⟨RX12, "metBy", "(I)I"⟩
abbrev cX12_met : ByteArray := prog_14_method_54_code
def yX12_met : MethodName := ⟨RX12, "met", "(II)I"⟩
abbrev cX12_ordersBy : ByteArray := prog_14_method_55_code
def yX12_ordersBy : MethodName := ⟨RX12, "ordersBy", "(I)V"⟩
abbrev cX12_best : ByteArray := prog_14_method_56_code
def yX12_best : MethodName := ⟨RX12, "best", "(I)I"⟩
abbrev cX12_greedy : ByteArray := prog_14_method_57_code
def yX12_greedy : MethodName := ⟨RX12, "greedy", "()I"⟩
abbrev cX12_bits : ByteArray := prog_14_method_58_code
def yX12_bits : MethodName := ⟨RX12, "bits", "(I)I"⟩
abbrev cX12_forty : ByteArray := prog_14_method_59_code
def yX12_forty : MethodName := ⟨RX12, "forty", "(II)I"⟩
abbrev cX12_going : ByteArray := prog_14_method_60_code
def yX12_going : MethodName := ⟨RX12, "going", "(II)I"⟩
abbrev cX12_isThought : ByteArray := prog_14_method_61_code
def yX12_isThought : MethodName := ⟨RX12, "isThought", "()Z"⟩
abbrev cX12_fitting : ByteArray := prog_14_method_62_code
def yX12_fitting : MethodName := ⟨RX12, "fitting", "(II)I"⟩
abbrev cX12_think : ByteArray := prog_14_method_63_code
def yX12_think : MethodName := ⟨RX12, "think", "(III)I"⟩
abbrev cX12_tell : ByteArray := prog_14_method_64_code
def yX12_tell : MethodName := ⟨RX12, "tell", "(II)I"⟩
abbrev cX12_laws : ByteArray := prog_14_method_65_code
def yX12_laws : MethodName := ⟨RX12, "laws", "(I)I"⟩
abbrev cX12_chanceOf : ByteArray := prog_14_method_66_code
def yX12_chanceOf : MethodName := ⟨RX12, "chanceOf", "(II)I"⟩
abbrev cX12_divisor : ByteArray := prog_14_method_67_code
def yX12_divisor : MethodName := ⟨RX12, "divisor", "(II)I"⟩
abbrev cX12_eye : ByteArray := prog_14_method_68_code
def yX12_eye : MethodName := ⟨RX12, "eye", "(III)I"⟩
abbrev cX12_surest : ByteArray := prog_14_method_69_code
def yX12_surest : MethodName := ⟨RX12, "surest", "(I)I"⟩
abbrev cX12_aimOf : ByteArray := prog_14_method_70_code
def yX12_aimOf : MethodName := ⟨RX12, "aimOf", "(I)I"⟩
abbrev cX12_allOf : ByteArray := prog_14_method_71_code
def yX12_allOf : MethodName := ⟨RX12, "allOf", "()I"⟩
abbrev cX12_aheadOf : ByteArray := prog_14_method_72_code
def yX12_aheadOf : MethodName := ⟨RX12, "aheadOf", "(I)I"⟩
abbrev cX12_writesOf : ByteArray := prog_14_method_73_code
def yX12_writesOf : MethodName := ⟨RX12, "writesOf", "(I)I"⟩
abbrev cX12_morning : ByteArray := prog_14_method_74_code
def yX12_morning : MethodName := ⟨RX12, "morning", "()I"⟩
abbrev cX12_writes : ByteArray := prog_14_method_75_code
def yX12_writes : MethodName := ⟨RX12, "writes", "(I)I"⟩
abbrev cX12_aimBehind : ByteArray := prog_14_method_76_code
def yX12_aimBehind : MethodName := ⟨RX12, "aimBehind", "(II)I"⟩
abbrev cX12_both : ByteArray := prog_14_method_77_code
def yX12_both : MethodName := ⟨RX12, "both", "(II)I"⟩
abbrev cX12_draw : ByteArray := prog_14_method_78_code
def yX12_draw : MethodName := ⟨RX12, "draw", "(I)I"⟩
abbrev cX12_year : ByteArray := prog_14_method_79_code
def yX12_year : MethodName := ⟨RX12, "year", "(II)I"⟩
abbrev cX12_row : ByteArray := prog_14_method_80_code
def yX12_row : MethodName := ⟨RX12, "row", "(I)I"⟩
abbrev cX12_judge : ByteArray := prog_14_method_81_code
def yX12_judge : MethodName := ⟨RX12, "judge", "()I"⟩
abbrev cX12_image : ByteArray := prog_14_method_82_code
def yX12_image : MethodName := ⟨RX12, "image", "()I"⟩
abbrev cX12_on : ByteArray := prog_14_method_83_code
def yX12_on : MethodName := ⟨RX12, "on", "()I"⟩
abbrev cX12_count : ByteArray := prog_14_method_84_code
def yX12_count : MethodName := ⟨RX12, "count", "(I)I"⟩
def RJ6 : String := "java/lang/Integer"
def TJ6 : u_T := fun k => match k with
  | _ => ("", "", "", false)
def tyJ6 : Nat → FieldType := fun k => match k with
  | _ => .int
theorem nmJ6 : ∀ a, a < 0 → ∀ b, b < 0 → a ≠ b → (TJ6 a).2.1 ≠ (TJ6 b).2.1 := by decide +kernel
theorem tyJ6_ok : ∀ k, k < 0 → parseFieldDescriptor (TJ6 k).2.2.1 = some (tyJ6 k) := by decide +kernel
abbrev cJ6_bitCount_0f7a4 : ByteArray := prog_15_method_49_code
def yJ6_bitCount_0f7a4 : MethodName := ⟨RJ6, "bitCount", "(I)I"⟩
def RJ9 : String := "java/lang/Math"
def TJ9 : u_T := fun k => match k with
  | _ => ("", "", "", false)
def tyJ9 : Nat → FieldType := fun k => match k with
  | _ => .int
theorem nmJ9 : ∀ a, a < 0 → ∀ b, b < 0 → a ≠ b → (TJ9 a).2.1 ≠ (TJ9 b).2.1 := by decide +kernel
theorem tyJ9_ok : ∀ k, k < 0 → parseFieldDescriptor (TJ9 k).2.2.1 = some (tyJ9 k) := by decide +kernel
abbrev cJ9_max_7cf53 : ByteArray := prog_16_method_65_code
def yJ9_max_7cf53 : MethodName := ⟨RJ9, "max", "(II)I"⟩
abbrev cJ9_min_7cf53 : ByteArray := prog_16_method_69_code
def yJ9_min_7cf53 : MethodName := ⟨RJ9, "min", "(II)I"⟩
def RJ0 : String := "java/lang/String"
def TJ0 : u_T := fun k => match k with
  | _ => ("", "", "", false)
def tyJ0 : Nat → FieldType := fun k => match k with
  | _ => .int
theorem nmJ0 : ∀ a, a < 0 → ∀ b, b < 0 → a ≠ b → (TJ0 a).2.1 ≠ (TJ0 b).2.1 := by decide +kernel
theorem tyJ0_ok : ∀ k, k < 0 → parseFieldDescriptor (TJ0 k).2.2.1 = some (tyJ0 k) := by decide +kernel
abbrev cJ0_length_8abf5 : ByteArray := prog_17_method_54_code
def yJ0_length_8abf5 : MethodName := ⟨RJ0, "length", "()I"⟩
abbrev cJ0_charAt_5068e : ByteArray := prog_17_method_56_code
def yJ0_charAt_5068e : MethodName := ⟨RJ0, "charAt", "(I)C"⟩
abbrev cJ0_coder_7d493 : ByteArray := prog_17_method_152_code
def yJ0_coder_7d493 : MethodName := ⟨RJ0, "coder", "()B"⟩
abbrev cJ0_isLatin1_aae02 : ByteArray := prog_17_method_154_code
def yJ0_isLatin1_aae02 : MethodName := ⟨RJ0, "isLatin1", "()Z"⟩
abbrev cJ0_checkIndex_df160 : ByteArray := prog_17_method_155_code
def yJ0_checkIndex_df160 : MethodName := ⟨RJ0, "checkIndex", "(II)V"⟩
def RJ1 : String := "java/lang/StringLatin1"
def TJ1 : u_T := fun k => match k with
  | _ => ("", "", "", false)
def tyJ1 : Nat → FieldType := fun k => match k with
  | _ => .int
theorem nmJ1 : ∀ a, a < 0 → ∀ b, b < 0 → a ≠ b → (TJ1 a).2.1 ≠ (TJ1 b).2.1 := by decide +kernel
theorem tyJ1_ok : ∀ k, k < 0 → parseFieldDescriptor (TJ1 k).2.2.1 = some (tyJ1 k) := by decide +kernel
abbrev cJ1_charAt_3b067 : ByteArray := prog_18_method_2_code
def yJ1_charAt_3b067 : MethodName := ⟨RJ1, "charAt", "([BI)C"⟩
def RJ2 : String := "java/lang/StringUTF16"
def TJ2 : u_T := fun k => match k with
  | _ => ("", "", "", false)
def tyJ2 : Nat → FieldType := fun k => match k with
  | _ => .int
theorem nmJ2 : ∀ a, a < 0 → ∀ b, b < 0 → a ≠ b → (TJ2 a).2.1 ≠ (TJ2 b).2.1 := by decide +kernel
theorem tyJ2_ok : ∀ k, k < 0 → parseFieldDescriptor (TJ2 k).2.2.1 = some (tyJ2 k) := by decide +kernel
abbrev cJ2_getChar_3b067 : ByteArray := prog_19_method_5_code
def yJ2_getChar_3b067 : MethodName := ⟨RJ2, "getChar", "([BI)C"⟩
abbrev cJ2_length_9d52b : ByteArray := prog_19_method_6_code
def yJ2_length_9d52b : MethodName := ⟨RJ2, "length", "([B)I"⟩
abbrev cJ2_charAt_3b067 : ByteArray := prog_19_method_83_code
def yJ2_charAt_3b067 : MethodName := ⟨RJ2, "charAt", "([BI)C"⟩
abbrev cJ2_checkIndex_2214a : ByteArray := prog_19_method_91_code
def yJ2_checkIndex_2214a : MethodName := ⟨RJ2, "checkIndex", "(I[B)V"⟩
def RJ10 : String := "java/lang/System"
def TJ10 : u_T := fun k => match k with
  | _ => ("", "", "", false)
def tyJ10 : Nat → FieldType := fun k => match k with
  | _ => .int
theorem nmJ10 : ∀ a, a < 0 → ∀ b, b < 0 → a ≠ b → (TJ10 a).2.1 ≠ (TJ10 b).2.1 := by decide +kernel
theorem tyJ10_ok : ∀ k, k < 0 → parseFieldDescriptor (TJ10 k).2.2.1 = some (tyJ10 k) := by decide +kernel
def RJ3 : String := "jdk/internal/util/Preconditions"
def TJ3 : u_T := fun k => match k with
  | _ => ("", "", "", false)
def tyJ3 : Nat → FieldType := fun k => match k with
  | _ => .int
theorem nmJ3 : ∀ a, a < 0 → ∀ b, b < 0 → a ≠ b → (TJ3 a).2.1 ≠ (TJ3 b).2.1 := by decide +kernel
theorem tyJ3_ok : ∀ k, k < 0 → parseFieldDescriptor (TJ3 k).2.2.1 = some (tyJ3 k) := by decide +kernel
abbrev cJ3_checkIndex_8e157 : ByteArray := prog_21_method_11_code
def yJ3_checkIndex_8e157 : MethodName := ⟨RJ3, "checkIndex", "(IILjava/util/function/BiFunction;)I"⟩
def RL : String := "ToWhoNeedsLaw"
abbrev cL_law : ByteArray := code
def yL_law : MethodName := ⟨RL, "law", "([I)Z"⟩
end
section
theorem dX0_init_0 : decode cX0_init 0 = .ok (.aload_n 0, 1) := by decide +kernel
theorem dX0_init_1 : decode cX0_init 1 = .ok (.invokespecial 3, 3) := by decide +kernel
theorem dX0_init_4 : decode cX0_init 4 = .ok (.aload_n 0, 1) := by decide +kernel
theorem dX0_init_5 : decode cX0_init 5 = .ok (.iload_n 1, 1) := by decide +kernel
theorem dX0_init_6 : decode cX0_init 6 = .ok (.putfield 9, 3) := by decide +kernel
theorem dX0_init_9 : decode cX0_init 9 = .ok (.return_, 1) := by decide +kernel
theorem dX0_havers_0 : decode cX0_havers 0 = .ok (.aload_n 1, 1) := by decide +kernel
theorem dX0_havers_1 : decode cX0_havers 1 = .ok (.iload_n 3, 1) := by decide +kernel
theorem dX0_havers_2 : decode cX0_havers 2 = .ok (.invokevirtual 15, 3) := by decide +kernel
theorem dX0_havers_5 : decode cX0_havers 5 = .ok (.ifCond .eq 9, 3) := by decide +kernel
theorem dX0_havers_8 : decode cX0_havers 8 = .ok (.iconst 1, 1) := by decide +kernel
theorem dX0_havers_9 : decode cX0_havers 9 = .ok (.iload_n 3, 1) := by decide +kernel
theorem dX0_havers_10 : decode cX0_havers 10 = .ok (.ishl, 1) := by decide +kernel
theorem dX0_havers_11 : decode cX0_havers 11 = .ok (.goto 4, 3) := by decide +kernel
theorem dX0_havers_14 : decode cX0_havers 14 = .ok (.iconst 0, 1) := by decide +kernel
theorem dX0_havers_15 : decode cX0_havers 15 = .ok (.ireturn, 1) := by decide +kernel
theorem dX0_rank_0 : decode cX0_rank 0 = .ok (.aload_n 0, 1) := by decide +kernel
theorem dX0_rank_1 : decode cX0_rank 1 = .ok (.aload_n 1, 1) := by decide +kernel
theorem dX0_rank_2 : decode cX0_rank 2 = .ok (.iload_n 2, 1) := by decide +kernel
theorem dX0_rank_3 : decode cX0_rank 3 = .ok (.iload_n 3, 1) := by decide +kernel
theorem dX0_rank_4 : decode cX0_rank 4 = .ok (.invokevirtual 21, 3) := by decide +kernel
theorem dX0_rank_7 : decode cX0_rank 7 = .ok (.istore 4, 2) := by decide +kernel
theorem dX0_rank_9 : decode cX0_rank 9 = .ok (.iload 4, 2) := by decide +kernel
theorem dX0_rank_11 : decode cX0_rank 11 = .ok (.ifCond .gt 5, 3) := by decide +kernel
theorem dX0_rank_14 : decode cX0_rank 14 = .ok (.iconst 2, 1) := by decide +kernel
theorem dX0_rank_15 : decode cX0_rank 15 = .ok (.ireturn, 1) := by decide +kernel
theorem dX0_rank_16 : decode cX0_rank 16 = .ok (.iconst 0, 1) := by decide +kernel
theorem dX0_rank_17 : decode cX0_rank 17 = .ok (.istore 5, 2) := by decide +kernel
theorem dX0_rank_19 : decode cX0_rank 19 = .ok (.iconst 1, 1) := by decide +kernel
theorem dX0_rank_20 : decode cX0_rank 20 = .ok (.istore 6, 2) := by decide +kernel
theorem dX0_rank_22 : decode cX0_rank 22 = .ok (.iconst 0, 1) := by decide +kernel
theorem dX0_rank_23 : decode cX0_rank 23 = .ok (.istore 7, 2) := by decide +kernel
theorem dX0_rank_25 : decode cX0_rank 25 = .ok (.iload 7, 2) := by decide +kernel
theorem dX0_rank_27 : decode cX0_rank 27 = .ok (.aload_n 1, 1) := by decide +kernel
theorem dX0_rank_28 : decode cX0_rank 28 = .ok (.getfield 25, 3) := by decide +kernel
theorem dX0_rank_31 : decode cX0_rank 31 = .ok (.if_icmp .ge 75, 3) := by decide +kernel
theorem dX0_rank_34 : decode cX0_rank 34 = .ok (.iload 5, 2) := by decide +kernel
theorem dX0_rank_36 : decode cX0_rank 36 = .ok (.iconst 2, 1) := by decide +kernel
theorem dX0_rank_37 : decode cX0_rank 37 = .ok (.if_icmp .ge 69, 3) := by decide +kernel
theorem dX0_rank_40 : decode cX0_rank 40 = .ok (.iload 7, 2) := by decide +kernel
theorem dX0_rank_42 : decode cX0_rank 42 = .ok (.iload_n 2, 1) := by decide +kernel
theorem dX0_rank_43 : decode cX0_rank 43 = .ok (.if_icmp .ne 7, 3) := by decide +kernel
theorem dX0_rank_46 : decode cX0_rank 46 = .ok (.iconst 0, 1) := by decide +kernel
theorem dX0_rank_47 : decode cX0_rank 47 = .ok (.goto 11, 3) := by decide +kernel
theorem dX0_rank_50 : decode cX0_rank 50 = .ok (.aload_n 0, 1) := by decide +kernel
theorem dX0_rank_51 : decode cX0_rank 51 = .ok (.aload_n 1, 1) := by decide +kernel
theorem dX0_rank_52 : decode cX0_rank 52 = .ok (.iload 7, 2) := by decide +kernel
theorem dX0_rank_54 : decode cX0_rank 54 = .ok (.iload_n 3, 1) := by decide +kernel
theorem dX0_rank_55 : decode cX0_rank 55 = .ok (.invokevirtual 21, 3) := by decide +kernel
theorem dX0_rank_58 : decode cX0_rank 58 = .ok (.istore 8, 2) := by decide +kernel
theorem dX0_rank_60 : decode cX0_rank 60 = .ok (.iload 6, 2) := by decide +kernel
theorem dX0_rank_62 : decode cX0_rank 62 = .ok (.ifCond .eq 12, 3) := by decide +kernel
theorem dX0_rank_65 : decode cX0_rank 65 = .ok (.iload 8, 2) := by decide +kernel
theorem dX0_rank_67 : decode cX0_rank 67 = .ok (.ifCond .gt 7, 3) := by decide +kernel
theorem dX0_rank_70 : decode cX0_rank 70 = .ok (.iconst 1, 1) := by decide +kernel
theorem dX0_rank_71 : decode cX0_rank 71 = .ok (.goto 4, 3) := by decide +kernel
theorem dX0_rank_74 : decode cX0_rank 74 = .ok (.iconst 0, 1) := by decide +kernel
theorem dX0_rank_75 : decode cX0_rank 75 = .ok (.istore 6, 2) := by decide +kernel
theorem dX0_rank_77 : decode cX0_rank 77 = .ok (.iload 8, 2) := by decide +kernel
theorem dX0_rank_79 : decode cX0_rank 79 = .ok (.iload 4, 2) := by decide +kernel
theorem dX0_rank_81 : decode cX0_rank 81 = .ok (.if_icmp .gt 16, 3) := by decide +kernel
theorem dX0_rank_84 : decode cX0_rank 84 = .ok (.iload 8, 2) := by decide +kernel
theorem dX0_rank_86 : decode cX0_rank 86 = .ok (.iload 4, 2) := by decide +kernel
theorem dX0_rank_88 : decode cX0_rank 88 = .ok (.if_icmp .ne 12, 3) := by decide +kernel
theorem dX0_rank_91 : decode cX0_rank 91 = .ok (.iload 7, 2) := by decide +kernel
theorem dX0_rank_93 : decode cX0_rank 93 = .ok (.iload_n 2, 1) := by decide +kernel
theorem dX0_rank_94 : decode cX0_rank 94 = .ok (.if_icmp .ge 6, 3) := by decide +kernel
theorem dX0_rank_97 : decode cX0_rank 97 = .ok (.iinc 5 1, 3) := by decide +kernel
theorem dX0_rank_100 : decode cX0_rank 100 = .ok (.iinc 7 1, 3) := by decide +kernel
theorem dX0_rank_103 : decode cX0_rank 103 = .ok (.goto (-78), 3) := by decide +kernel
theorem dX0_rank_106 : decode cX0_rank 106 = .ok (.iload 6, 2) := by decide +kernel
theorem dX0_rank_108 : decode cX0_rank 108 = .ok (.ifCond .eq 7, 3) := by decide +kernel
theorem dX0_rank_111 : decode cX0_rank 111 = .ok (.iconst (-1), 1) := by decide +kernel
theorem dX0_rank_112 : decode cX0_rank 112 = .ok (.goto 5, 3) := by decide +kernel
theorem dX0_rank_115 : decode cX0_rank 115 = .ok (.iload 5, 2) := by decide +kernel
theorem dX0_rank_117 : decode cX0_rank 117 = .ok (.ireturn, 1) := by decide +kernel
theorem dX0_reaches_0 : decode cX0_reaches 0 = .ok (.aload_n 0, 1) := by decide +kernel
theorem dX0_reaches_1 : decode cX0_reaches 1 = .ok (.aload_n 1, 1) := by decide +kernel
theorem dX0_reaches_2 : decode cX0_reaches 2 = .ok (.iload_n 2, 1) := by decide +kernel
theorem dX0_reaches_3 : decode cX0_reaches 3 = .ok (.iload_n 3, 1) := by decide +kernel
theorem dX0_reaches_4 : decode cX0_reaches 4 = .ok (.invokevirtual 28, 3) := by decide +kernel
theorem dX0_reaches_7 : decode cX0_reaches 7 = .ok (.istore 4, 2) := by decide +kernel
theorem dX0_reaches_9 : decode cX0_reaches 9 = .ok (.iload 4, 2) := by decide +kernel
theorem dX0_reaches_11 : decode cX0_reaches 11 = .ok (.aload_n 0, 1) := by decide +kernel
theorem dX0_reaches_12 : decode cX0_reaches 12 = .ok (.getfield 9, 3) := by decide +kernel
theorem dX0_reaches_15 : decode cX0_reaches 15 = .ok (.if_icmp .eq 9, 3) := by decide +kernel
theorem dX0_reaches_18 : decode cX0_reaches 18 = .ok (.iload 4, 2) := by decide +kernel
theorem dX0_reaches_20 : decode cX0_reaches 20 = .ok (.iconst (-1), 1) := by decide +kernel
theorem dX0_reaches_21 : decode cX0_reaches 21 = .ok (.if_icmp .ne 7, 3) := by decide +kernel
theorem dX0_reaches_24 : decode cX0_reaches 24 = .ok (.iconst 1, 1) := by decide +kernel
theorem dX0_reaches_25 : decode cX0_reaches 25 = .ok (.goto 4, 3) := by decide +kernel
theorem dX0_reaches_28 : decode cX0_reaches 28 = .ok (.iconst 0, 1) := by decide +kernel
theorem dX0_reaches_29 : decode cX0_reaches 29 = .ok (.ireturn, 1) := by decide +kernel
theorem dX0_receiver_0 : decode cX0_receiver 0 = .ok (.iconst 0, 1) := by decide +kernel
theorem dX0_receiver_1 : decode cX0_receiver 1 = .ok (.istore_n 3, 1) := by decide +kernel
theorem dX0_receiver_2 : decode cX0_receiver 2 = .ok (.iload_n 3, 1) := by decide +kernel
theorem dX0_receiver_3 : decode cX0_receiver 3 = .ok (.aload_n 1, 1) := by decide +kernel
theorem dX0_receiver_4 : decode cX0_receiver 4 = .ok (.getfield 25, 3) := by decide +kernel
theorem dX0_receiver_7 : decode cX0_receiver 7 = .ok (.if_icmp .ge 35, 3) := by decide +kernel
theorem dX0_receiver_10 : decode cX0_receiver 10 = .ok (.aload_n 0, 1) := by decide +kernel
theorem dX0_receiver_11 : decode cX0_receiver 11 = .ok (.aload_n 1, 1) := by decide +kernel
theorem dX0_receiver_12 : decode cX0_receiver 12 = .ok (.iload_n 3, 1) := by decide +kernel
theorem dX0_receiver_13 : decode cX0_receiver 13 = .ok (.iload_n 2, 1) := by decide +kernel
theorem dX0_receiver_14 : decode cX0_receiver 14 = .ok (.invokevirtual 28, 3) := by decide +kernel
theorem dX0_receiver_17 : decode cX0_receiver 17 = .ok (.istore 4, 2) := by decide +kernel
theorem dX0_receiver_19 : decode cX0_receiver 19 = .ok (.iload 4, 2) := by decide +kernel
theorem dX0_receiver_21 : decode cX0_receiver 21 = .ok (.aload_n 0, 1) := by decide +kernel
theorem dX0_receiver_22 : decode cX0_receiver 22 = .ok (.getfield 9, 3) := by decide +kernel
theorem dX0_receiver_25 : decode cX0_receiver 25 = .ok (.if_icmp .eq 9, 3) := by decide +kernel
theorem dX0_receiver_28 : decode cX0_receiver 28 = .ok (.iload 4, 2) := by decide +kernel
theorem dX0_receiver_30 : decode cX0_receiver 30 = .ok (.iconst (-1), 1) := by decide +kernel
theorem dX0_receiver_31 : decode cX0_receiver 31 = .ok (.if_icmp .ne 5, 3) := by decide +kernel
theorem dX0_receiver_34 : decode cX0_receiver 34 = .ok (.iload_n 3, 1) := by decide +kernel
theorem dX0_receiver_35 : decode cX0_receiver 35 = .ok (.ireturn, 1) := by decide +kernel
theorem dX0_receiver_36 : decode cX0_receiver 36 = .ok (.iinc 3 1, 3) := by decide +kernel
theorem dX0_receiver_39 : decode cX0_receiver 39 = .ok (.goto (-37), 3) := by decide +kernel
theorem dX0_receiver_42 : decode cX0_receiver 42 = .ok (.bipush (-9), 2) := by decide +kernel
theorem dX0_receiver_44 : decode cX0_receiver 44 = .ok (.ireturn, 1) := by decide +kernel
theorem dX0_deliver_0 : decode cX0_deliver 0 = .ok (.aload_n 0, 1) := by decide +kernel
theorem dX0_deliver_1 : decode cX0_deliver 1 = .ok (.aload_n 1, 1) := by decide +kernel
theorem dX0_deliver_2 : decode cX0_deliver 2 = .ok (.iload_n 2, 1) := by decide +kernel
theorem dX0_deliver_3 : decode cX0_deliver 3 = .ok (.invokevirtual 31, 3) := by decide +kernel
theorem dX0_deliver_6 : decode cX0_deliver 6 = .ok (.istore_n 3, 1) := by decide +kernel
theorem dX0_deliver_7 : decode cX0_deliver 7 = .ok (.aload_n 1, 1) := by decide +kernel
theorem dX0_deliver_8 : decode cX0_deliver 8 = .ok (.aload_n 0, 1) := by decide +kernel
theorem dX0_deliver_9 : decode cX0_deliver 9 = .ok (.aload_n 1, 1) := by decide +kernel
theorem dX0_deliver_10 : decode cX0_deliver 10 = .ok (.iload_n 2, 1) := by decide +kernel
theorem dX0_deliver_11 : decode cX0_deliver 11 = .ok (.iload_n 3, 1) := by decide +kernel
theorem dX0_deliver_12 : decode cX0_deliver 12 = .ok (.invokevirtual 35, 3) := by decide +kernel
theorem dX0_deliver_15 : decode cX0_deliver 15 = .ok (.iload_n 2, 1) := by decide +kernel
theorem dX0_deliver_16 : decode cX0_deliver 16 = .ok (.invokevirtual 38, 3) := by decide +kernel
theorem dX0_deliver_19 : decode cX0_deliver 19 = .ok (.iload_n 3, 1) := by decide +kernel
theorem dX0_deliver_20 : decode cX0_deliver 20 = .ok (.ireturn, 1) := by decide +kernel
theorem dX0_chance_0 : decode cX0_chance 0 = .ok (.aload_n 0, 1) := by decide +kernel
theorem dX0_chance_1 : decode cX0_chance 1 = .ok (.aload_n 1, 1) := by decide +kernel
theorem dX0_chance_2 : decode cX0_chance 2 = .ok (.iload_n 2, 1) := by decide +kernel
theorem dX0_chance_3 : decode cX0_chance 3 = .ok (.iload_n 3, 1) := by decide +kernel
theorem dX0_chance_4 : decode cX0_chance 4 = .ok (.invokevirtual 28, 3) := by decide +kernel
theorem dX0_chance_7 : decode cX0_chance 7 = .ok (.istore 5, 2) := by decide +kernel
theorem dX0_chance_9 : decode cX0_chance 9 = .ok (.iload 5, 2) := by decide +kernel
theorem dX0_chance_11 : decode cX0_chance 11 = .ok (.iconst (-1), 1) := by decide +kernel
theorem dX0_chance_12 : decode cX0_chance 12 = .ok (.if_icmp .ne 6, 3) := by decide +kernel
theorem dX0_chance_15 : decode cX0_chance 15 = .ok (.bipush 100, 2) := by decide +kernel
theorem dX0_chance_17 : decode cX0_chance 17 = .ok (.ireturn, 1) := by decide +kernel
theorem dX0_chance_18 : decode cX0_chance 18 = .ok (.iload 5, 2) := by decide +kernel
theorem dX0_chance_20 : decode cX0_chance 20 = .ok (.aload_n 0, 1) := by decide +kernel
theorem dX0_chance_21 : decode cX0_chance 21 = .ok (.getfield 9, 3) := by decide +kernel
theorem dX0_chance_24 : decode cX0_chance 24 = .ok (.if_icmp .ne 9, 3) := by decide +kernel
theorem dX0_chance_27 : decode cX0_chance 27 = .ok (.bipush 100, 2) := by decide +kernel
theorem dX0_chance_29 : decode cX0_chance 29 = .ok (.iload 4, 2) := by decide +kernel
theorem dX0_chance_31 : decode cX0_chance 31 = .ok (.isub, 1) := by decide +kernel
theorem dX0_chance_32 : decode cX0_chance 32 = .ok (.ireturn, 1) := by decide +kernel
theorem dX0_chance_33 : decode cX0_chance 33 = .ok (.iload 5, 2) := by decide +kernel
theorem dX0_chance_35 : decode cX0_chance 35 = .ok (.iconst 1, 1) := by decide +kernel
theorem dX0_chance_36 : decode cX0_chance 36 = .ok (.aload_n 0, 1) := by decide +kernel
theorem dX0_chance_37 : decode cX0_chance 37 = .ok (.getfield 9, 3) := by decide +kernel
theorem dX0_chance_40 : decode cX0_chance 40 = .ok (.isub, 1) := by decide +kernel
theorem dX0_chance_41 : decode cX0_chance 41 = .ok (.if_icmp .ne 8, 3) := by decide +kernel
theorem dX0_chance_44 : decode cX0_chance 44 = .ok (.iload 4, 2) := by decide +kernel
theorem dX0_chance_46 : decode cX0_chance 46 = .ok (.goto 4, 3) := by decide +kernel
theorem dX0_chance_49 : decode cX0_chance 49 = .ok (.iconst 0, 1) := by decide +kernel
theorem dX0_chance_50 : decode cX0_chance 50 = .ok (.ireturn, 1) := by decide +kernel
theorem dX1_init_0 : decode cX1_init 0 = .ok (.aload_n 0, 1) := by decide +kernel
theorem dX1_init_1 : decode cX1_init 1 = .ok (.iconst 0, 1) := by decide +kernel
theorem dX1_init_2 : decode cX1_init 2 = .ok (.invokespecial 3, 3) := by decide +kernel
theorem dX1_init_5 : decode cX1_init 5 = .ok (.return_, 1) := by decide +kernel
theorem dX1_scoreOf_0 : decode cX1_scoreOf 0 = .ok (.iconst 0, 1) := by decide +kernel
theorem dX1_scoreOf_1 : decode cX1_scoreOf 1 = .ok (.istore 4, 2) := by decide +kernel
theorem dX1_scoreOf_3 : decode cX1_scoreOf 3 = .ok (.iload_n 2, 1) := by decide +kernel
theorem dX1_scoreOf_4 : decode cX1_scoreOf 4 = .ok (.iconst 4, 1) := by decide +kernel
theorem dX1_scoreOf_5 : decode cX1_scoreOf 5 = .ok (.imul, 1) := by decide +kernel
theorem dX1_scoreOf_6 : decode cX1_scoreOf 6 = .ok (.istore 5, 2) := by decide +kernel
theorem dX1_scoreOf_8 : decode cX1_scoreOf 8 = .ok (.iload_n 3, 1) := by decide +kernel
theorem dX1_scoreOf_9 : decode cX1_scoreOf 9 = .ok (.istore 6, 2) := by decide +kernel
theorem dX1_scoreOf_11 : decode cX1_scoreOf 11 = .ok (.iload 6, 2) := by decide +kernel
theorem dX1_scoreOf_13 : decode cX1_scoreOf 13 = .ok (.ifCond .le 67, 3) := by decide +kernel
theorem dX1_scoreOf_16 : decode cX1_scoreOf 16 = .ok (.iload 5, 2) := by decide +kernel
theorem dX1_scoreOf_18 : decode cX1_scoreOf 18 = .ok (.ifCond .lt 62, 3) := by decide +kernel
theorem dX1_scoreOf_21 : decode cX1_scoreOf 21 = .ok (.iload 5, 2) := by decide +kernel
theorem dX1_scoreOf_23 : decode cX1_scoreOf 23 = .ok (.aload_n 1, 1) := by decide +kernel
theorem dX1_scoreOf_24 : decode cX1_scoreOf 24 = .ok (.getfield 9, 3) := by decide +kernel
theorem dX1_scoreOf_27 : decode cX1_scoreOf 27 = .ok (.arraylength, 1) := by decide +kernel
theorem dX1_scoreOf_28 : decode cX1_scoreOf 28 = .ok (.if_icmp .ge 52, 3) := by decide +kernel
theorem dX1_scoreOf_31 : decode cX1_scoreOf 31 = .ok (.iload 6, 2) := by decide +kernel
theorem dX1_scoreOf_33 : decode cX1_scoreOf 33 = .ok (.bipush 10, 2) := by decide +kernel
theorem dX1_scoreOf_35 : decode cX1_scoreOf 35 = .ok (.irem, 1) := by decide +kernel
theorem dX1_scoreOf_36 : decode cX1_scoreOf 36 = .ok (.istore 7, 2) := by decide +kernel
theorem dX1_scoreOf_38 : decode cX1_scoreOf 38 = .ok (.iload 4, 2) := by decide +kernel
theorem dX1_scoreOf_40 : decode cX1_scoreOf 40 = .ok (.iload 7, 2) := by decide +kernel
theorem dX1_scoreOf_42 : decode cX1_scoreOf 42 = .ok (.aload_n 1, 1) := by decide +kernel
theorem dX1_scoreOf_43 : decode cX1_scoreOf 43 = .ok (.getfield 9, 3) := by decide +kernel
theorem dX1_scoreOf_46 : decode cX1_scoreOf 46 = .ok (.iload 5, 2) := by decide +kernel
theorem dX1_scoreOf_48 : decode cX1_scoreOf 48 = .ok (.iaload, 1) := by decide +kernel
theorem dX1_scoreOf_49 : decode cX1_scoreOf 49 = .ok (.if_icmp .ge 8, 3) := by decide +kernel
theorem dX1_scoreOf_52 : decode cX1_scoreOf 52 = .ok (.iload 7, 2) := by decide +kernel
theorem dX1_scoreOf_54 : decode cX1_scoreOf 54 = .ok (.goto 10, 3) := by decide +kernel
theorem dX1_scoreOf_57 : decode cX1_scoreOf 57 = .ok (.aload_n 1, 1) := by decide +kernel
theorem dX1_scoreOf_58 : decode cX1_scoreOf 58 = .ok (.getfield 9, 3) := by decide +kernel
theorem dX1_scoreOf_61 : decode cX1_scoreOf 61 = .ok (.iload 5, 2) := by decide +kernel
theorem dX1_scoreOf_63 : decode cX1_scoreOf 63 = .ok (.iaload, 1) := by decide +kernel
theorem dX1_scoreOf_64 : decode cX1_scoreOf 64 = .ok (.iadd, 1) := by decide +kernel
theorem dX1_scoreOf_65 : decode cX1_scoreOf 65 = .ok (.istore 4, 2) := by decide +kernel
theorem dX1_scoreOf_67 : decode cX1_scoreOf 67 = .ok (.iinc 5 1, 3) := by decide +kernel
theorem dX1_scoreOf_70 : decode cX1_scoreOf 70 = .ok (.iload 6, 2) := by decide +kernel
theorem dX1_scoreOf_72 : decode cX1_scoreOf 72 = .ok (.bipush 10, 2) := by decide +kernel
theorem dX1_scoreOf_74 : decode cX1_scoreOf 74 = .ok (.idiv, 1) := by decide +kernel
theorem dX1_scoreOf_75 : decode cX1_scoreOf 75 = .ok (.istore 6, 2) := by decide +kernel
theorem dX1_scoreOf_77 : decode cX1_scoreOf 77 = .ok (.goto (-66), 3) := by decide +kernel
theorem dX1_scoreOf_80 : decode cX1_scoreOf 80 = .ok (.iload 4, 2) := by decide +kernel
theorem dX1_scoreOf_82 : decode cX1_scoreOf 82 = .ok (.ireturn, 1) := by decide +kernel
theorem dX2_init_0 : decode cX2_init 0 = .ok (.aload_n 0, 1) := by decide +kernel
theorem dX2_init_1 : decode cX2_init 1 = .ok (.invokespecial 3, 3) := by decide +kernel
theorem dX2_init_4 : decode cX2_init 4 = .ok (.aload_n 0, 1) := by decide +kernel
theorem dX2_init_5 : decode cX2_init 5 = .ok (.new 9, 3) := by decide +kernel
theorem dX2_init_8 : decode cX2_init 8 = .ok (.dup, 1) := by decide +kernel
theorem dX2_init_9 : decode cX2_init 9 = .ok (.invokespecial 11, 3) := by decide +kernel
theorem dX2_init_12 : decode cX2_init 12 = .ok (.putfield 12, 3) := by decide +kernel
theorem dX2_init_15 : decode cX2_init 15 = .ok (.aload_n 0, 1) := by decide +kernel
theorem dX2_init_16 : decode cX2_init 16 = .ok (.new 9, 3) := by decide +kernel
theorem dX2_init_19 : decode cX2_init 19 = .ok (.dup, 1) := by decide +kernel
theorem dX2_init_20 : decode cX2_init 20 = .ok (.invokespecial 11, 3) := by decide +kernel
theorem dX2_init_23 : decode cX2_init 23 = .ok (.putfield 18, 3) := by decide +kernel
theorem dX2_init_26 : decode cX2_init 26 = .ok (.aload_n 0, 1) := by decide +kernel
theorem dX2_init_27 : decode cX2_init 27 = .ok (.new 21, 3) := by decide +kernel
theorem dX2_init_30 : decode cX2_init 30 = .ok (.dup, 1) := by decide +kernel
theorem dX2_init_31 : decode cX2_init 31 = .ok (.iconst 5, 1) := by decide +kernel
theorem dX2_init_32 : decode cX2_init 32 = .ok (.invokespecial 23, 3) := by decide +kernel
theorem dX2_init_35 : decode cX2_init 35 = .ok (.putfield 26, 3) := by decide +kernel
theorem dX2_init_38 : decode cX2_init 38 = .ok (.aload_n 0, 1) := by decide +kernel
theorem dX2_init_39 : decode cX2_init 39 = .ok (.new 21, 3) := by decide +kernel
theorem dX2_init_42 : decode cX2_init 42 = .ok (.dup, 1) := by decide +kernel
theorem dX2_init_43 : decode cX2_init 43 = .ok (.iconst 5, 1) := by decide +kernel
theorem dX2_init_44 : decode cX2_init 44 = .ok (.invokespecial 23, 3) := by decide +kernel
theorem dX2_init_47 : decode cX2_init 47 = .ok (.putfield 30, 3) := by decide +kernel
theorem dX2_init_50 : decode cX2_init 50 = .ok (.return_, 1) := by decide +kernel
theorem dX2_cheapestTo_0 : decode cX2_cheapestTo 0 = .ok (.iload 4, 2) := by decide +kernel
theorem dX2_cheapestTo_2 : decode cX2_cheapestTo 2 = .ok (.istore 5, 2) := by decide +kernel
theorem dX2_cheapestTo_4 : decode cX2_cheapestTo 4 = .ok (.bipush 100, 2) := by decide +kernel
theorem dX2_cheapestTo_6 : decode cX2_cheapestTo 6 = .ok (.istore 6, 2) := by decide +kernel
theorem dX2_cheapestTo_8 : decode cX2_cheapestTo 8 = .ok (.iconst 0, 1) := by decide +kernel
theorem dX2_cheapestTo_9 : decode cX2_cheapestTo 9 = .ok (.istore 7, 2) := by decide +kernel
theorem dX2_cheapestTo_11 : decode cX2_cheapestTo 11 = .ok (.iload 7, 2) := by decide +kernel
theorem dX2_cheapestTo_13 : decode cX2_cheapestTo 13 = .ok (.getstatic 33, 3) := by decide +kernel
theorem dX2_cheapestTo_16 : decode cX2_cheapestTo 16 = .ok (.arraylength, 1) := by decide +kernel
theorem dX2_cheapestTo_17 : decode cX2_cheapestTo 17 = .ok (.if_icmp .ge 54, 3) := by decide +kernel
theorem dX2_cheapestTo_20 : decode cX2_cheapestTo 20 = .ok (.getstatic 33, 3) := by decide +kernel
theorem dX2_cheapestTo_23 : decode cX2_cheapestTo 23 = .ok (.iload 7, 2) := by decide +kernel
theorem dX2_cheapestTo_25 : decode cX2_cheapestTo 25 = .ok (.iaload, 1) := by decide +kernel
theorem dX2_cheapestTo_26 : decode cX2_cheapestTo 26 = .ok (.invokestatic 37, 3) := by decide +kernel
theorem dX2_cheapestTo_29 : decode cX2_cheapestTo 29 = .ok (.istore 8, 2) := by decide +kernel
theorem dX2_cheapestTo_31 : decode cX2_cheapestTo 31 = .ok (.iload 8, 2) := by decide +kernel
theorem dX2_cheapestTo_33 : decode cX2_cheapestTo 33 = .ok (.iload 6, 2) := by decide +kernel
theorem dX2_cheapestTo_35 : decode cX2_cheapestTo 35 = .ok (.if_icmp .ge 30, 3) := by decide +kernel
theorem dX2_cheapestTo_38 : decode cX2_cheapestTo 38 = .ok (.aload_n 2, 1) := by decide +kernel
theorem dX2_cheapestTo_39 : decode cX2_cheapestTo 39 = .ok (.aload_n 1, 1) := by decide +kernel
theorem dX2_cheapestTo_40 : decode cX2_cheapestTo 40 = .ok (.iload_n 3, 1) := by decide +kernel
theorem dX2_cheapestTo_41 : decode cX2_cheapestTo 41 = .ok (.getstatic 33, 3) := by decide +kernel
theorem dX2_cheapestTo_44 : decode cX2_cheapestTo 44 = .ok (.iload 7, 2) := by decide +kernel
theorem dX2_cheapestTo_46 : decode cX2_cheapestTo 46 = .ok (.iaload, 1) := by decide +kernel
theorem dX2_cheapestTo_47 : decode cX2_cheapestTo 47 = .ok (.invokevirtual 41, 3) := by decide +kernel
theorem dX2_cheapestTo_50 : decode cX2_cheapestTo 50 = .ok (.ifCond .eq 15, 3) := by decide +kernel
theorem dX2_cheapestTo_53 : decode cX2_cheapestTo 53 = .ok (.iload 8, 2) := by decide +kernel
theorem dX2_cheapestTo_55 : decode cX2_cheapestTo 55 = .ok (.istore 6, 2) := by decide +kernel
theorem dX2_cheapestTo_57 : decode cX2_cheapestTo 57 = .ok (.getstatic 33, 3) := by decide +kernel
theorem dX2_cheapestTo_60 : decode cX2_cheapestTo 60 = .ok (.iload 7, 2) := by decide +kernel
theorem dX2_cheapestTo_62 : decode cX2_cheapestTo 62 = .ok (.iaload, 1) := by decide +kernel
theorem dX2_cheapestTo_63 : decode cX2_cheapestTo 63 = .ok (.istore 5, 2) := by decide +kernel
theorem dX2_cheapestTo_65 : decode cX2_cheapestTo 65 = .ok (.iinc 7 1, 3) := by decide +kernel
theorem dX2_cheapestTo_68 : decode cX2_cheapestTo 68 = .ok (.goto (-57), 3) := by decide +kernel
theorem dX2_cheapestTo_71 : decode cX2_cheapestTo 71 = .ok (.iload 5, 2) := by decide +kernel
theorem dX2_cheapestTo_73 : decode cX2_cheapestTo 73 = .ok (.ireturn, 1) := by decide +kernel
theorem dX2_isReached_0 : decode cX2_isReached 0 = .ok (.iconst 0, 1) := by decide +kernel
theorem dX2_isReached_1 : decode cX2_isReached 1 = .ok (.istore 4, 2) := by decide +kernel
theorem dX2_isReached_3 : decode cX2_isReached 3 = .ok (.iload 4, 2) := by decide +kernel
theorem dX2_isReached_5 : decode cX2_isReached 5 = .ok (.getstatic 33, 3) := by decide +kernel
theorem dX2_isReached_8 : decode cX2_isReached 8 = .ok (.arraylength, 1) := by decide +kernel
theorem dX2_isReached_9 : decode cX2_isReached 9 = .ok (.if_icmp .ge 26, 3) := by decide +kernel
theorem dX2_isReached_12 : decode cX2_isReached 12 = .ok (.aload_n 2, 1) := by decide +kernel
theorem dX2_isReached_13 : decode cX2_isReached 13 = .ok (.aload_n 1, 1) := by decide +kernel
theorem dX2_isReached_14 : decode cX2_isReached 14 = .ok (.iload_n 3, 1) := by decide +kernel
theorem dX2_isReached_15 : decode cX2_isReached 15 = .ok (.getstatic 33, 3) := by decide +kernel
theorem dX2_isReached_18 : decode cX2_isReached 18 = .ok (.iload 4, 2) := by decide +kernel
theorem dX2_isReached_20 : decode cX2_isReached 20 = .ok (.iaload, 1) := by decide +kernel
theorem dX2_isReached_21 : decode cX2_isReached 21 = .ok (.invokevirtual 41, 3) := by decide +kernel
theorem dX2_isReached_24 : decode cX2_isReached 24 = .ok (.ifCond .eq 5, 3) := by decide +kernel
theorem dX2_isReached_27 : decode cX2_isReached 27 = .ok (.iconst 1, 1) := by decide +kernel
theorem dX2_isReached_28 : decode cX2_isReached 28 = .ok (.ireturn, 1) := by decide +kernel
theorem dX2_isReached_29 : decode cX2_isReached 29 = .ok (.iinc 4 1, 3) := by decide +kernel
theorem dX2_isReached_32 : decode cX2_isReached 32 = .ok (.goto (-29), 3) := by decide +kernel
theorem dX2_isReached_35 : decode cX2_isReached 35 = .ok (.iconst 0, 1) := by decide +kernel
theorem dX2_isReached_36 : decode cX2_isReached 36 = .ok (.ireturn, 1) := by decide +kernel
theorem dX2_reached_0 : decode cX2_reached 0 = .ok (.iconst 0, 1) := by decide +kernel
theorem dX2_reached_1 : decode cX2_reached 1 = .ok (.istore_n 3, 1) := by decide +kernel
theorem dX2_reached_2 : decode cX2_reached 2 = .ok (.iconst 0, 1) := by decide +kernel
theorem dX2_reached_3 : decode cX2_reached 3 = .ok (.istore 4, 2) := by decide +kernel
theorem dX2_reached_5 : decode cX2_reached 5 = .ok (.iload 4, 2) := by decide +kernel
theorem dX2_reached_7 : decode cX2_reached 7 = .ok (.aload_n 1, 1) := by decide +kernel
theorem dX2_reached_8 : decode cX2_reached 8 = .ok (.getfield 47, 3) := by decide +kernel
theorem dX2_reached_11 : decode cX2_reached 11 = .ok (.if_icmp .ge 27, 3) := by decide +kernel
theorem dX2_reached_14 : decode cX2_reached 14 = .ok (.aload_n 0, 1) := by decide +kernel
theorem dX2_reached_15 : decode cX2_reached 15 = .ok (.aload_n 1, 1) := by decide +kernel
theorem dX2_reached_16 : decode cX2_reached 16 = .ok (.aload_n 2, 1) := by decide +kernel
theorem dX2_reached_17 : decode cX2_reached 17 = .ok (.iload 4, 2) := by decide +kernel
theorem dX2_reached_19 : decode cX2_reached 19 = .ok (.invokevirtual 51, 3) := by decide +kernel
theorem dX2_reached_22 : decode cX2_reached 22 = .ok (.ifCond .eq 10, 3) := by decide +kernel
theorem dX2_reached_25 : decode cX2_reached 25 = .ok (.iload_n 3, 1) := by decide +kernel
theorem dX2_reached_26 : decode cX2_reached 26 = .ok (.iconst 1, 1) := by decide +kernel
theorem dX2_reached_27 : decode cX2_reached 27 = .ok (.iload 4, 2) := by decide +kernel
theorem dX2_reached_29 : decode cX2_reached 29 = .ok (.ishl, 1) := by decide +kernel
theorem dX2_reached_30 : decode cX2_reached 30 = .ok (.ior, 1) := by decide +kernel
theorem dX2_reached_31 : decode cX2_reached 31 = .ok (.istore_n 3, 1) := by decide +kernel
theorem dX2_reached_32 : decode cX2_reached 32 = .ok (.iinc 4 1, 3) := by decide +kernel
theorem dX2_reached_35 : decode cX2_reached 35 = .ok (.goto (-30), 3) := by decide +kernel
theorem dX2_reached_38 : decode cX2_reached 38 = .ok (.iload_n 3, 1) := by decide +kernel
theorem dX2_reached_39 : decode cX2_reached 39 = .ok (.ireturn, 1) := by decide +kernel
theorem dX2_costOfOneBefore_0 : decode cX2_costOfOneBefore 0 = .ok (.aload_n 0, 1) := by decide +kernel
theorem dX2_costOfOneBefore_1 : decode cX2_costOfOneBefore 1 = .ok (.getfield 12, 3) := by decide +kernel
theorem dX2_costOfOneBefore_4 : decode cX2_costOfOneBefore 4 = .ok (.aload_n 1, 1) := by decide +kernel
theorem dX2_costOfOneBefore_5 : decode cX2_costOfOneBefore 5 = .ok (.invokevirtual 55, 3) := by decide +kernel
theorem dX2_costOfOneBefore_8 : decode cX2_costOfOneBefore 8 = .ok (.aload_n 0, 1) := by decide +kernel
theorem dX2_costOfOneBefore_9 : decode cX2_costOfOneBefore 9 = .ok (.aload_n 2, 1) := by decide +kernel
theorem dX2_costOfOneBefore_10 : decode cX2_costOfOneBefore 10 = .ok (.iload_n 3, 1) := by decide +kernel
theorem dX2_costOfOneBefore_11 : decode cX2_costOfOneBefore 11 = .ok (.bipush 100, 2) := by decide +kernel
theorem dX2_costOfOneBefore_13 : decode cX2_costOfOneBefore 13 = .ok (.invokevirtual 59, 3) := by decide +kernel
theorem dX2_costOfOneBefore_16 : decode cX2_costOfOneBefore 16 = .ok (.ireturn, 1) := by decide +kernel
theorem dX2_costOfTwoBefore_0 : decode cX2_costOfTwoBefore 0 = .ok (.bipush 100, 2) := by decide +kernel
theorem dX2_costOfTwoBefore_2 : decode cX2_costOfTwoBefore 2 = .ok (.istore 4, 2) := by decide +kernel
theorem dX2_costOfTwoBefore_4 : decode cX2_costOfTwoBefore 4 = .ok (.iconst 0, 1) := by decide +kernel
theorem dX2_costOfTwoBefore_5 : decode cX2_costOfTwoBefore 5 = .ok (.istore 5, 2) := by decide +kernel
theorem dX2_costOfTwoBefore_7 : decode cX2_costOfTwoBefore 7 = .ok (.iload 5, 2) := by decide +kernel
theorem dX2_costOfTwoBefore_9 : decode cX2_costOfTwoBefore 9 = .ok (.getstatic 33, 3) := by decide +kernel
theorem dX2_costOfTwoBefore_12 : decode cX2_costOfTwoBefore 12 = .ok (.arraylength, 1) := by decide +kernel
theorem dX2_costOfTwoBefore_13 : decode cX2_costOfTwoBefore 13 = .ok (.if_icmp .ge 75, 3) := by decide +kernel
theorem dX2_costOfTwoBefore_16 : decode cX2_costOfTwoBefore 16 = .ok (.getstatic 33, 3) := by decide +kernel
theorem dX2_costOfTwoBefore_19 : decode cX2_costOfTwoBefore 19 = .ok (.iload 5, 2) := by decide +kernel
theorem dX2_costOfTwoBefore_21 : decode cX2_costOfTwoBefore 21 = .ok (.iaload, 1) := by decide +kernel
theorem dX2_costOfTwoBefore_22 : decode cX2_costOfTwoBefore 22 = .ok (.invokestatic 37, 3) := by decide +kernel
theorem dX2_costOfTwoBefore_25 : decode cX2_costOfTwoBefore 25 = .ok (.istore 6, 2) := by decide +kernel
theorem dX2_costOfTwoBefore_27 : decode cX2_costOfTwoBefore 27 = .ok (.aload_n 0, 1) := by decide +kernel
theorem dX2_costOfTwoBefore_28 : decode cX2_costOfTwoBefore 28 = .ok (.getfield 12, 3) := by decide +kernel
theorem dX2_costOfTwoBefore_31 : decode cX2_costOfTwoBefore 31 = .ok (.aload_n 1, 1) := by decide +kernel
theorem dX2_costOfTwoBefore_32 : decode cX2_costOfTwoBefore 32 = .ok (.invokevirtual 55, 3) := by decide +kernel
theorem dX2_costOfTwoBefore_35 : decode cX2_costOfTwoBefore 35 = .ok (.iload 6, 2) := by decide +kernel
theorem dX2_costOfTwoBefore_37 : decode cX2_costOfTwoBefore 37 = .ok (.iload 4, 2) := by decide +kernel
theorem dX2_costOfTwoBefore_39 : decode cX2_costOfTwoBefore 39 = .ok (.if_icmp .ge 43, 3) := by decide +kernel
theorem dX2_costOfTwoBefore_42 : decode cX2_costOfTwoBefore 42 = .ok (.aload_n 2, 1) := by decide +kernel
theorem dX2_costOfTwoBefore_43 : decode cX2_costOfTwoBefore 43 = .ok (.aload_n 0, 1) := by decide +kernel
theorem dX2_costOfTwoBefore_44 : decode cX2_costOfTwoBefore 44 = .ok (.getfield 12, 3) := by decide +kernel
theorem dX2_costOfTwoBefore_47 : decode cX2_costOfTwoBefore 47 = .ok (.getstatic 33, 3) := by decide +kernel
theorem dX2_costOfTwoBefore_50 : decode cX2_costOfTwoBefore 50 = .ok (.iload 5, 2) := by decide +kernel
theorem dX2_costOfTwoBefore_52 : decode cX2_costOfTwoBefore 52 = .ok (.iaload, 1) := by decide +kernel
theorem dX2_costOfTwoBefore_53 : decode cX2_costOfTwoBefore 53 = .ok (.invokevirtual 63, 3) := by decide +kernel
theorem dX2_costOfTwoBefore_56 : decode cX2_costOfTwoBefore 56 = .ok (.bipush (-9), 2) := by decide +kernel
theorem dX2_costOfTwoBefore_58 : decode cX2_costOfTwoBefore 58 = .ok (.if_icmp .eq 24, 3) := by decide +kernel
theorem dX2_costOfTwoBefore_61 : decode cX2_costOfTwoBefore 61 = .ok (.iload 4, 2) := by decide +kernel
theorem dX2_costOfTwoBefore_63 : decode cX2_costOfTwoBefore 63 = .ok (.iload 6, 2) := by decide +kernel
theorem dX2_costOfTwoBefore_65 : decode cX2_costOfTwoBefore 65 = .ok (.aload_n 0, 1) := by decide +kernel
theorem dX2_costOfTwoBefore_66 : decode cX2_costOfTwoBefore 66 = .ok (.aload_n 2, 1) := by decide +kernel
theorem dX2_costOfTwoBefore_67 : decode cX2_costOfTwoBefore 67 = .ok (.iload_n 3, 1) := by decide +kernel
theorem dX2_costOfTwoBefore_68 : decode cX2_costOfTwoBefore 68 = .ok (.iload 4, 2) := by decide +kernel
theorem dX2_costOfTwoBefore_70 : decode cX2_costOfTwoBefore 70 = .ok (.iload 6, 2) := by decide +kernel
theorem dX2_costOfTwoBefore_72 : decode cX2_costOfTwoBefore 72 = .ok (.isub, 1) := by decide +kernel
theorem dX2_costOfTwoBefore_73 : decode cX2_costOfTwoBefore 73 = .ok (.invokevirtual 59, 3) := by decide +kernel
theorem dX2_costOfTwoBefore_76 : decode cX2_costOfTwoBefore 76 = .ok (.iadd, 1) := by decide +kernel
theorem dX2_costOfTwoBefore_77 : decode cX2_costOfTwoBefore 77 = .ok (.invokestatic 67, 3) := by decide +kernel
theorem dX2_costOfTwoBefore_80 : decode cX2_costOfTwoBefore 80 = .ok (.istore 4, 2) := by decide +kernel
theorem dX2_costOfTwoBefore_82 : decode cX2_costOfTwoBefore 82 = .ok (.iinc 5 1, 3) := by decide +kernel
theorem dX2_costOfTwoBefore_85 : decode cX2_costOfTwoBefore 85 = .ok (.goto (-78), 3) := by decide +kernel
theorem dX2_costOfTwoBefore_88 : decode cX2_costOfTwoBefore 88 = .ok (.iload 4, 2) := by decide +kernel
theorem dX2_costOfTwoBefore_90 : decode cX2_costOfTwoBefore 90 = .ok (.ireturn, 1) := by decide +kernel
theorem dX2_costOfNext_0 : decode cX2_costOfNext 0 = .ok (.iload_n 3, 1) := by decide +kernel
theorem dX2_costOfNext_1 : decode cX2_costOfNext 1 = .ok (.istore 4, 2) := by decide +kernel
theorem dX2_costOfNext_3 : decode cX2_costOfNext 3 = .ok (.iconst 0, 1) := by decide +kernel
theorem dX2_costOfNext_4 : decode cX2_costOfNext 4 = .ok (.istore 5, 2) := by decide +kernel
theorem dX2_costOfNext_6 : decode cX2_costOfNext 6 = .ok (.iload 5, 2) := by decide +kernel
theorem dX2_costOfNext_8 : decode cX2_costOfNext 8 = .ok (.getstatic 33, 3) := by decide +kernel
theorem dX2_costOfNext_11 : decode cX2_costOfNext 11 = .ok (.arraylength, 1) := by decide +kernel
theorem dX2_costOfNext_12 : decode cX2_costOfNext 12 = .ok (.if_icmp .ge 78, 3) := by decide +kernel
theorem dX2_costOfNext_15 : decode cX2_costOfNext 15 = .ok (.getstatic 33, 3) := by decide +kernel
theorem dX2_costOfNext_18 : decode cX2_costOfNext 18 = .ok (.iload 5, 2) := by decide +kernel
theorem dX2_costOfNext_20 : decode cX2_costOfNext 20 = .ok (.iaload, 1) := by decide +kernel
theorem dX2_costOfNext_21 : decode cX2_costOfNext 21 = .ok (.invokestatic 37, 3) := by decide +kernel
theorem dX2_costOfNext_24 : decode cX2_costOfNext 24 = .ok (.istore 6, 2) := by decide +kernel
theorem dX2_costOfNext_26 : decode cX2_costOfNext 26 = .ok (.iload 6, 2) := by decide +kernel
theorem dX2_costOfNext_28 : decode cX2_costOfNext 28 = .ok (.iload 4, 2) := by decide +kernel
theorem dX2_costOfNext_30 : decode cX2_costOfNext 30 = .ok (.if_icmp .ge 54, 3) := by decide +kernel
theorem dX2_costOfNext_33 : decode cX2_costOfNext 33 = .ok (.aload_n 0, 1) := by decide +kernel
theorem dX2_costOfNext_34 : decode cX2_costOfNext 34 = .ok (.getfield 18, 3) := by decide +kernel
theorem dX2_costOfNext_37 : decode cX2_costOfNext 37 = .ok (.aload_n 0, 1) := by decide +kernel
theorem dX2_costOfNext_38 : decode cX2_costOfNext 38 = .ok (.getfield 12, 3) := by decide +kernel
theorem dX2_costOfNext_41 : decode cX2_costOfNext 41 = .ok (.invokevirtual 55, 3) := by decide +kernel
theorem dX2_costOfNext_44 : decode cX2_costOfNext 44 = .ok (.aload_n 1, 1) := by decide +kernel
theorem dX2_costOfNext_45 : decode cX2_costOfNext 45 = .ok (.aload_n 0, 1) := by decide +kernel
theorem dX2_costOfNext_46 : decode cX2_costOfNext 46 = .ok (.getfield 18, 3) := by decide +kernel
theorem dX2_costOfNext_49 : decode cX2_costOfNext 49 = .ok (.getstatic 33, 3) := by decide +kernel
theorem dX2_costOfNext_52 : decode cX2_costOfNext 52 = .ok (.iload 5, 2) := by decide +kernel
theorem dX2_costOfNext_54 : decode cX2_costOfNext 54 = .ok (.iaload, 1) := by decide +kernel
theorem dX2_costOfNext_55 : decode cX2_costOfNext 55 = .ok (.invokevirtual 63, 3) := by decide +kernel
theorem dX2_costOfNext_58 : decode cX2_costOfNext 58 = .ok (.istore 7, 2) := by decide +kernel
theorem dX2_costOfNext_60 : decode cX2_costOfNext 60 = .ok (.iload 7, 2) := by decide +kernel
theorem dX2_costOfNext_62 : decode cX2_costOfNext 62 = .ok (.bipush (-9), 2) := by decide +kernel
theorem dX2_costOfNext_64 : decode cX2_costOfNext 64 = .ok (.if_icmp .eq 20, 3) := by decide +kernel
theorem dX2_costOfNext_67 : decode cX2_costOfNext 67 = .ok (.aload_n 0, 1) := by decide +kernel
theorem dX2_costOfNext_68 : decode cX2_costOfNext 68 = .ok (.aload_n 0, 1) := by decide +kernel
theorem dX2_costOfNext_69 : decode cX2_costOfNext 69 = .ok (.getfield 18, 3) := by decide +kernel
theorem dX2_costOfNext_72 : decode cX2_costOfNext 72 = .ok (.aload_n 1, 1) := by decide +kernel
theorem dX2_costOfNext_73 : decode cX2_costOfNext 73 = .ok (.iload_n 2, 1) := by decide +kernel
theorem dX2_costOfNext_74 : decode cX2_costOfNext 74 = .ok (.invokevirtual 51, 3) := by decide +kernel
theorem dX2_costOfNext_77 : decode cX2_costOfNext 77 = .ok (.ifCond .eq 7, 3) := by decide +kernel
theorem dX2_costOfNext_80 : decode cX2_costOfNext 80 = .ok (.iload 6, 2) := by decide +kernel
theorem dX2_costOfNext_82 : decode cX2_costOfNext 82 = .ok (.istore 4, 2) := by decide +kernel
theorem dX2_costOfNext_84 : decode cX2_costOfNext 84 = .ok (.iinc 5 1, 3) := by decide +kernel
theorem dX2_costOfNext_87 : decode cX2_costOfNext 87 = .ok (.goto (-81), 3) := by decide +kernel
theorem dX2_costOfNext_90 : decode cX2_costOfNext 90 = .ok (.iload 4, 2) := by decide +kernel
theorem dX2_costOfNext_92 : decode cX2_costOfNext 92 = .ok (.ireturn, 1) := by decide +kernel
theorem dX2_takeLine_0 : decode cX2_takeLine 0 = .ok (.aload_n 0, 1) := by decide +kernel
theorem dX2_takeLine_1 : decode cX2_takeLine 1 = .ok (.getfield 26, 3) := by decide +kernel
theorem dX2_takeLine_4 : decode cX2_takeLine 4 = .ok (.invokevirtual 73, 3) := by decide +kernel
theorem dX2_takeLine_7 : decode cX2_takeLine 7 = .ok (.iload_n 2, 1) := by decide +kernel
theorem dX2_takeLine_8 : decode cX2_takeLine 8 = .ok (.istore 4, 2) := by decide +kernel
theorem dX2_takeLine_10 : decode cX2_takeLine 10 = .ok (.iconst 0, 1) := by decide +kernel
theorem dX2_takeLine_11 : decode cX2_takeLine 11 = .ok (.istore 5, 2) := by decide +kernel
theorem dX2_takeLine_13 : decode cX2_takeLine 13 = .ok (.iconst 0, 1) := by decide +kernel
theorem dX2_takeLine_14 : decode cX2_takeLine 14 = .ok (.istore 6, 2) := by decide +kernel
theorem dX2_takeLine_16 : decode cX2_takeLine 16 = .ok (.iload 6, 2) := by decide +kernel
theorem dX2_takeLine_18 : decode cX2_takeLine 18 = .ok (.iload_n 1, 1) := by decide +kernel
theorem dX2_takeLine_19 : decode cX2_takeLine 19 = .ok (.if_icmp .ge 65, 3) := by decide +kernel
theorem dX2_takeLine_22 : decode cX2_takeLine 22 = .ok (.iload 4, 2) := by decide +kernel
theorem dX2_takeLine_24 : decode cX2_takeLine 24 = .ok (.bipush 10, 2) := by decide +kernel
theorem dX2_takeLine_26 : decode cX2_takeLine 26 = .ok (.irem, 1) := by decide +kernel
theorem dX2_takeLine_27 : decode cX2_takeLine 27 = .ok (.istore 7, 2) := by decide +kernel
theorem dX2_takeLine_29 : decode cX2_takeLine 29 = .ok (.iload 7, 2) := by decide +kernel
theorem dX2_takeLine_31 : decode cX2_takeLine 31 = .ok (.ifCond .lt 20, 3) := by decide +kernel
theorem dX2_takeLine_34 : decode cX2_takeLine 34 = .ok (.iload 7, 2) := by decide +kernel
theorem dX2_takeLine_36 : decode cX2_takeLine 36 = .ok (.iload_n 3, 1) := by decide +kernel
theorem dX2_takeLine_37 : decode cX2_takeLine 37 = .ok (.if_icmp .ge 14, 3) := by decide +kernel
theorem dX2_takeLine_40 : decode cX2_takeLine 40 = .ok (.iload 5, 2) := by decide +kernel
theorem dX2_takeLine_42 : decode cX2_takeLine 42 = .ok (.iload 7, 2) := by decide +kernel
theorem dX2_takeLine_44 : decode cX2_takeLine 44 = .ok (.ishr, 1) := by decide +kernel
theorem dX2_takeLine_45 : decode cX2_takeLine 45 = .ok (.iconst 1, 1) := by decide +kernel
theorem dX2_takeLine_46 : decode cX2_takeLine 46 = .ok (.iand, 1) := by decide +kernel
theorem dX2_takeLine_47 : decode cX2_takeLine 47 = .ok (.iconst 1, 1) := by decide +kernel
theorem dX2_takeLine_48 : decode cX2_takeLine 48 = .ok (.if_icmp .ne 5, 3) := by decide +kernel
theorem dX2_takeLine_51 : decode cX2_takeLine 51 = .ok (.iconst 0, 1) := by decide +kernel
theorem dX2_takeLine_52 : decode cX2_takeLine 52 = .ok (.ireturn, 1) := by decide +kernel
theorem dX2_takeLine_53 : decode cX2_takeLine 53 = .ok (.iload 5, 2) := by decide +kernel
theorem dX2_takeLine_55 : decode cX2_takeLine 55 = .ok (.iconst 1, 1) := by decide +kernel
theorem dX2_takeLine_56 : decode cX2_takeLine 56 = .ok (.iload 7, 2) := by decide +kernel
theorem dX2_takeLine_58 : decode cX2_takeLine 58 = .ok (.ishl, 1) := by decide +kernel
theorem dX2_takeLine_59 : decode cX2_takeLine 59 = .ok (.ior, 1) := by decide +kernel
theorem dX2_takeLine_60 : decode cX2_takeLine 60 = .ok (.istore 5, 2) := by decide +kernel
theorem dX2_takeLine_62 : decode cX2_takeLine 62 = .ok (.aload_n 0, 1) := by decide +kernel
theorem dX2_takeLine_63 : decode cX2_takeLine 63 = .ok (.getfield 26, 3) := by decide +kernel
theorem dX2_takeLine_66 : decode cX2_takeLine 66 = .ok (.iload 7, 2) := by decide +kernel
theorem dX2_takeLine_68 : decode cX2_takeLine 68 = .ok (.invokevirtual 76, 3) := by decide +kernel
theorem dX2_takeLine_71 : decode cX2_takeLine 71 = .ok (.iload 4, 2) := by decide +kernel
theorem dX2_takeLine_73 : decode cX2_takeLine 73 = .ok (.bipush 10, 2) := by decide +kernel
theorem dX2_takeLine_75 : decode cX2_takeLine 75 = .ok (.idiv, 1) := by decide +kernel
theorem dX2_takeLine_76 : decode cX2_takeLine 76 = .ok (.istore 4, 2) := by decide +kernel
theorem dX2_takeLine_78 : decode cX2_takeLine 78 = .ok (.iinc 6 1, 3) := by decide +kernel
theorem dX2_takeLine_81 : decode cX2_takeLine 81 = .ok (.goto (-65), 3) := by decide +kernel
theorem dX2_takeLine_84 : decode cX2_takeLine 84 = .ok (.iconst 1, 1) := by decide +kernel
theorem dX2_takeLine_85 : decode cX2_takeLine 85 = .ok (.ireturn, 1) := by decide +kernel
theorem dX2_lessByLine_0 : decode cX2_lessByLine 0 = .ok (.aload_n 0, 1) := by decide +kernel
theorem dX2_lessByLine_1 : decode cX2_lessByLine 1 = .ok (.getfield 12, 3) := by decide +kernel
theorem dX2_lessByLine_4 : decode cX2_lessByLine 4 = .ok (.aload_n 1, 1) := by decide +kernel
theorem dX2_lessByLine_5 : decode cX2_lessByLine 5 = .ok (.invokevirtual 55, 3) := by decide +kernel
theorem dX2_lessByLine_8 : decode cX2_lessByLine 8 = .ok (.iconst 0, 1) := by decide +kernel
theorem dX2_lessByLine_9 : decode cX2_lessByLine 9 = .ok (.istore 4, 2) := by decide +kernel
theorem dX2_lessByLine_11 : decode cX2_lessByLine 11 = .ok (.iload 4, 2) := by decide +kernel
theorem dX2_lessByLine_13 : decode cX2_lessByLine 13 = .ok (.aload_n 0, 1) := by decide +kernel
theorem dX2_lessByLine_14 : decode cX2_lessByLine 14 = .ok (.getfield 26, 3) := by decide +kernel
theorem dX2_lessByLine_17 : decode cX2_lessByLine 17 = .ok (.getfield 79, 3) := by decide +kernel
theorem dX2_lessByLine_20 : decode cX2_lessByLine 20 = .ok (.if_icmp .ge 31, 3) := by decide +kernel
theorem dX2_lessByLine_23 : decode cX2_lessByLine 23 = .ok (.aload_n 2, 1) := by decide +kernel
theorem dX2_lessByLine_24 : decode cX2_lessByLine 24 = .ok (.aload_n 0, 1) := by decide +kernel
theorem dX2_lessByLine_25 : decode cX2_lessByLine 25 = .ok (.getfield 12, 3) := by decide +kernel
theorem dX2_lessByLine_28 : decode cX2_lessByLine 28 = .ok (.aload_n 3, 1) := by decide +kernel
theorem dX2_lessByLine_29 : decode cX2_lessByLine 29 = .ok (.aload_n 0, 1) := by decide +kernel
theorem dX2_lessByLine_30 : decode cX2_lessByLine 30 = .ok (.getfield 26, 3) := by decide +kernel
theorem dX2_lessByLine_33 : decode cX2_lessByLine 33 = .ok (.iload 4, 2) := by decide +kernel
theorem dX2_lessByLine_35 : decode cX2_lessByLine 35 = .ok (.invokevirtual 80, 3) := by decide +kernel
theorem dX2_lessByLine_38 : decode cX2_lessByLine 38 = .ok (.invokevirtual 80, 3) := by decide +kernel
theorem dX2_lessByLine_41 : decode cX2_lessByLine 41 = .ok (.invokevirtual 63, 3) := by decide +kernel
theorem dX2_lessByLine_44 : decode cX2_lessByLine 44 = .ok (.pop, 1) := by decide +kernel
theorem dX2_lessByLine_45 : decode cX2_lessByLine 45 = .ok (.iinc 4 1, 3) := by decide +kernel
theorem dX2_lessByLine_48 : decode cX2_lessByLine 48 = .ok (.goto (-37), 3) := by decide +kernel
theorem dX2_lessByLine_51 : decode cX2_lessByLine 51 = .ok (.aload_n 1, 1) := by decide +kernel
theorem dX2_lessByLine_52 : decode cX2_lessByLine 52 = .ok (.invokevirtual 83, 3) := by decide +kernel
theorem dX2_lessByLine_55 : decode cX2_lessByLine 55 = .ok (.aload_n 0, 1) := by decide +kernel
theorem dX2_lessByLine_56 : decode cX2_lessByLine 56 = .ok (.getfield 12, 3) := by decide +kernel
theorem dX2_lessByLine_59 : decode cX2_lessByLine 59 = .ok (.invokevirtual 83, 3) := by decide +kernel
theorem dX2_lessByLine_62 : decode cX2_lessByLine 62 = .ok (.isub, 1) := by decide +kernel
theorem dX2_lessByLine_63 : decode cX2_lessByLine 63 = .ok (.ireturn, 1) := by decide +kernel
theorem dX2_findBestLine_0 : decode cX2_findBestLine 0 = .ok (.aload_n 0, 1) := by decide +kernel
theorem dX2_findBestLine_1 : decode cX2_findBestLine 1 = .ok (.getfield 26, 3) := by decide +kernel
theorem dX2_findBestLine_4 : decode cX2_findBestLine 4 = .ok (.invokevirtual 73, 3) := by decide +kernel
theorem dX2_findBestLine_7 : decode cX2_findBestLine 7 = .ok (.iconst 0, 1) := by decide +kernel
theorem dX2_findBestLine_8 : decode cX2_findBestLine 8 = .ok (.istore 4, 2) := by decide +kernel
theorem dX2_findBestLine_10 : decode cX2_findBestLine 10 = .ok (.iload 4, 2) := by decide +kernel
theorem dX2_findBestLine_12 : decode cX2_findBestLine 12 = .ok (.aload_n 3, 1) := by decide +kernel
theorem dX2_findBestLine_13 : decode cX2_findBestLine 13 = .ok (.getfield 79, 3) := by decide +kernel
theorem dX2_findBestLine_16 : decode cX2_findBestLine 16 = .ok (.if_icmp .ge 18, 3) := by decide +kernel
theorem dX2_findBestLine_19 : decode cX2_findBestLine 19 = .ok (.aload_n 0, 1) := by decide +kernel
theorem dX2_findBestLine_20 : decode cX2_findBestLine 20 = .ok (.getfield 26, 3) := by decide +kernel
theorem dX2_findBestLine_23 : decode cX2_findBestLine 23 = .ok (.iload 4, 2) := by decide +kernel
theorem dX2_findBestLine_25 : decode cX2_findBestLine 25 = .ok (.invokevirtual 76, 3) := by decide +kernel
theorem dX2_findBestLine_28 : decode cX2_findBestLine 28 = .ok (.iinc 4 1, 3) := by decide +kernel
theorem dX2_findBestLine_31 : decode cX2_findBestLine 31 = .ok (.goto (-21), 3) := by decide +kernel
theorem dX2_findBestLine_34 : decode cX2_findBestLine 34 = .ok (.iconst (-1), 1) := by decide +kernel
theorem dX2_findBestLine_35 : decode cX2_findBestLine 35 = .ok (.istore 4, 2) := by decide +kernel
theorem dX2_findBestLine_37 : decode cX2_findBestLine 37 = .ok (.iconst 0, 1) := by decide +kernel
theorem dX2_findBestLine_38 : decode cX2_findBestLine 38 = .ok (.istore 5, 2) := by decide +kernel
theorem dX2_findBestLine_40 : decode cX2_findBestLine 40 = .ok (.iload 5, 2) := by decide +kernel
theorem dX2_findBestLine_42 : decode cX2_findBestLine 42 = .ok (.bipush 120, 2) := by decide +kernel
theorem dX2_findBestLine_44 : decode cX2_findBestLine 44 = .ok (.if_icmp .ge 52, 3) := by decide +kernel
theorem dX2_findBestLine_47 : decode cX2_findBestLine 47 = .ok (.iload 5, 2) := by decide +kernel
theorem dX2_findBestLine_49 : decode cX2_findBestLine 49 = .ok (.ifCond .eq 10, 3) := by decide +kernel
theorem dX2_findBestLine_52 : decode cX2_findBestLine 52 = .ok (.aload_n 0, 1) := by decide +kernel
theorem dX2_findBestLine_53 : decode cX2_findBestLine 53 = .ok (.invokevirtual 87, 3) := by decide +kernel
theorem dX2_findBestLine_56 : decode cX2_findBestLine 56 = .ok (.ifCond .eq 40, 3) := by decide +kernel
theorem dX2_findBestLine_59 : decode cX2_findBestLine 59 = .ok (.aload_n 0, 1) := by decide +kernel
theorem dX2_findBestLine_60 : decode cX2_findBestLine 60 = .ok (.aload_n 1, 1) := by decide +kernel
theorem dX2_findBestLine_61 : decode cX2_findBestLine 61 = .ok (.aload_n 2, 1) := by decide +kernel
theorem dX2_findBestLine_62 : decode cX2_findBestLine 62 = .ok (.aload_n 3, 1) := by decide +kernel
theorem dX2_findBestLine_63 : decode cX2_findBestLine 63 = .ok (.invokevirtual 91, 3) := by decide +kernel
theorem dX2_findBestLine_66 : decode cX2_findBestLine 66 = .ok (.istore 6, 2) := by decide +kernel
theorem dX2_findBestLine_68 : decode cX2_findBestLine 68 = .ok (.iload 6, 2) := by decide +kernel
theorem dX2_findBestLine_70 : decode cX2_findBestLine 70 = .ok (.iload 4, 2) := by decide +kernel
theorem dX2_findBestLine_72 : decode cX2_findBestLine 72 = .ok (.if_icmp .le 18, 3) := by decide +kernel
theorem dX2_findBestLine_75 : decode cX2_findBestLine 75 = .ok (.iload 6, 2) := by decide +kernel
theorem dX2_findBestLine_77 : decode cX2_findBestLine 77 = .ok (.istore 4, 2) := by decide +kernel
theorem dX2_findBestLine_79 : decode cX2_findBestLine 79 = .ok (.aload_n 0, 1) := by decide +kernel
theorem dX2_findBestLine_80 : decode cX2_findBestLine 80 = .ok (.getfield 30, 3) := by decide +kernel
theorem dX2_findBestLine_83 : decode cX2_findBestLine 83 = .ok (.aload_n 0, 1) := by decide +kernel
theorem dX2_findBestLine_84 : decode cX2_findBestLine 84 = .ok (.getfield 26, 3) := by decide +kernel
theorem dX2_findBestLine_87 : decode cX2_findBestLine 87 = .ok (.invokevirtual 95, 3) := by decide +kernel
theorem dX2_findBestLine_90 : decode cX2_findBestLine 90 = .ok (.iinc 5 1, 3) := by decide +kernel
theorem dX2_findBestLine_93 : decode cX2_findBestLine 93 = .ok (.goto (-53), 3) := by decide +kernel
theorem dX2_findBestLine_96 : decode cX2_findBestLine 96 = .ok (.iload 4, 2) := by decide +kernel
theorem dX2_findBestLine_98 : decode cX2_findBestLine 98 = .ok (.ireturn, 1) := by decide +kernel
theorem dX2_stepLine_0 : decode cX2_stepLine 0 = .ok (.aload_n 0, 1) := by decide +kernel
theorem dX2_stepLine_1 : decode cX2_stepLine 1 = .ok (.getfield 26, 3) := by decide +kernel
theorem dX2_stepLine_4 : decode cX2_stepLine 4 = .ok (.getfield 79, 3) := by decide +kernel
theorem dX2_stepLine_7 : decode cX2_stepLine 7 = .ok (.iconst 2, 1) := by decide +kernel
theorem dX2_stepLine_8 : decode cX2_stepLine 8 = .ok (.isub, 1) := by decide +kernel
theorem dX2_stepLine_9 : decode cX2_stepLine 9 = .ok (.istore_n 1, 1) := by decide +kernel
theorem dX2_stepLine_10 : decode cX2_stepLine 10 = .ok (.iload_n 1, 1) := by decide +kernel
theorem dX2_stepLine_11 : decode cX2_stepLine 11 = .ok (.ifCond .lt 30, 3) := by decide +kernel
theorem dX2_stepLine_14 : decode cX2_stepLine 14 = .ok (.aload_n 0, 1) := by decide +kernel
theorem dX2_stepLine_15 : decode cX2_stepLine 15 = .ok (.getfield 26, 3) := by decide +kernel
theorem dX2_stepLine_18 : decode cX2_stepLine 18 = .ok (.iload_n 1, 1) := by decide +kernel
theorem dX2_stepLine_19 : decode cX2_stepLine 19 = .ok (.invokevirtual 80, 3) := by decide +kernel
theorem dX2_stepLine_22 : decode cX2_stepLine 22 = .ok (.aload_n 0, 1) := by decide +kernel
theorem dX2_stepLine_23 : decode cX2_stepLine 23 = .ok (.getfield 26, 3) := by decide +kernel
theorem dX2_stepLine_26 : decode cX2_stepLine 26 = .ok (.iload_n 1, 1) := by decide +kernel
theorem dX2_stepLine_27 : decode cX2_stepLine 27 = .ok (.iconst 1, 1) := by decide +kernel
theorem dX2_stepLine_28 : decode cX2_stepLine 28 = .ok (.iadd, 1) := by decide +kernel
theorem dX2_stepLine_29 : decode cX2_stepLine 29 = .ok (.invokevirtual 80, 3) := by decide +kernel
theorem dX2_stepLine_32 : decode cX2_stepLine 32 = .ok (.if_icmp .le 9, 3) := by decide +kernel
theorem dX2_stepLine_35 : decode cX2_stepLine 35 = .ok (.iinc 1 (-1), 3) := by decide +kernel
theorem dX2_stepLine_38 : decode cX2_stepLine 38 = .ok (.goto (-28), 3) := by decide +kernel
theorem dX2_stepLine_41 : decode cX2_stepLine 41 = .ok (.iload_n 1, 1) := by decide +kernel
theorem dX2_stepLine_42 : decode cX2_stepLine 42 = .ok (.ifCond .ge 5, 3) := by decide +kernel
theorem dX2_stepLine_45 : decode cX2_stepLine 45 = .ok (.iconst 0, 1) := by decide +kernel
theorem dX2_stepLine_46 : decode cX2_stepLine 46 = .ok (.ireturn, 1) := by decide +kernel
theorem dX2_stepLine_47 : decode cX2_stepLine 47 = .ok (.aload_n 0, 1) := by decide +kernel
theorem dX2_stepLine_48 : decode cX2_stepLine 48 = .ok (.getfield 26, 3) := by decide +kernel
theorem dX2_stepLine_51 : decode cX2_stepLine 51 = .ok (.getfield 79, 3) := by decide +kernel
theorem dX2_stepLine_54 : decode cX2_stepLine 54 = .ok (.iconst 1, 1) := by decide +kernel
theorem dX2_stepLine_55 : decode cX2_stepLine 55 = .ok (.isub, 1) := by decide +kernel
theorem dX2_stepLine_56 : decode cX2_stepLine 56 = .ok (.istore_n 2, 1) := by decide +kernel
theorem dX2_stepLine_57 : decode cX2_stepLine 57 = .ok (.iload_n 2, 1) := by decide +kernel
theorem dX2_stepLine_58 : decode cX2_stepLine 58 = .ok (.iload_n 1, 1) := by decide +kernel
theorem dX2_stepLine_59 : decode cX2_stepLine 59 = .ok (.if_icmp .le 28, 3) := by decide +kernel
theorem dX2_stepLine_62 : decode cX2_stepLine 62 = .ok (.aload_n 0, 1) := by decide +kernel
theorem dX2_stepLine_63 : decode cX2_stepLine 63 = .ok (.getfield 26, 3) := by decide +kernel
theorem dX2_stepLine_66 : decode cX2_stepLine 66 = .ok (.iload_n 2, 1) := by decide +kernel
theorem dX2_stepLine_67 : decode cX2_stepLine 67 = .ok (.invokevirtual 80, 3) := by decide +kernel
theorem dX2_stepLine_70 : decode cX2_stepLine 70 = .ok (.aload_n 0, 1) := by decide +kernel
theorem dX2_stepLine_71 : decode cX2_stepLine 71 = .ok (.getfield 26, 3) := by decide +kernel
theorem dX2_stepLine_74 : decode cX2_stepLine 74 = .ok (.iload_n 1, 1) := by decide +kernel
theorem dX2_stepLine_75 : decode cX2_stepLine 75 = .ok (.invokevirtual 80, 3) := by decide +kernel
theorem dX2_stepLine_78 : decode cX2_stepLine 78 = .ok (.if_icmp .ge 9, 3) := by decide +kernel
theorem dX2_stepLine_81 : decode cX2_stepLine 81 = .ok (.iinc 2 (-1), 3) := by decide +kernel
theorem dX2_stepLine_84 : decode cX2_stepLine 84 = .ok (.goto (-27), 3) := by decide +kernel
theorem dX2_stepLine_87 : decode cX2_stepLine 87 = .ok (.aload_n 0, 1) := by decide +kernel
theorem dX2_stepLine_88 : decode cX2_stepLine 88 = .ok (.iload_n 1, 1) := by decide +kernel
theorem dX2_stepLine_89 : decode cX2_stepLine 89 = .ok (.iload_n 2, 1) := by decide +kernel
theorem dX2_stepLine_90 : decode cX2_stepLine 90 = .ok (.invokevirtual 98, 3) := by decide +kernel
theorem dX2_stepLine_93 : decode cX2_stepLine 93 = .ok (.aload_n 0, 1) := by decide +kernel
theorem dX2_stepLine_94 : decode cX2_stepLine 94 = .ok (.getfield 26, 3) := by decide +kernel
theorem dX2_stepLine_97 : decode cX2_stepLine 97 = .ok (.getfield 79, 3) := by decide +kernel
theorem dX2_stepLine_100 : decode cX2_stepLine 100 = .ok (.iconst 1, 1) := by decide +kernel
theorem dX2_stepLine_101 : decode cX2_stepLine 101 = .ok (.isub, 1) := by decide +kernel
theorem dX2_stepLine_102 : decode cX2_stepLine 102 = .ok (.istore_n 3, 1) := by decide +kernel
theorem dX2_stepLine_103 : decode cX2_stepLine 103 = .ok (.iload_n 1, 1) := by decide +kernel
theorem dX2_stepLine_104 : decode cX2_stepLine 104 = .ok (.iconst 1, 1) := by decide +kernel
theorem dX2_stepLine_105 : decode cX2_stepLine 105 = .ok (.iadd, 1) := by decide +kernel
theorem dX2_stepLine_106 : decode cX2_stepLine 106 = .ok (.istore 4, 2) := by decide +kernel
theorem dX2_stepLine_108 : decode cX2_stepLine 108 = .ok (.iload 4, 2) := by decide +kernel
theorem dX2_stepLine_110 : decode cX2_stepLine 110 = .ok (.iload_n 3, 1) := by decide +kernel
theorem dX2_stepLine_111 : decode cX2_stepLine 111 = .ok (.if_icmp .ge 19, 3) := by decide +kernel
theorem dX2_stepLine_114 : decode cX2_stepLine 114 = .ok (.aload_n 0, 1) := by decide +kernel
theorem dX2_stepLine_115 : decode cX2_stepLine 115 = .ok (.iload 4, 2) := by decide +kernel
theorem dX2_stepLine_117 : decode cX2_stepLine 117 = .ok (.iload_n 3, 1) := by decide +kernel
theorem dX2_stepLine_118 : decode cX2_stepLine 118 = .ok (.invokevirtual 98, 3) := by decide +kernel
theorem dX2_stepLine_121 : decode cX2_stepLine 121 = .ok (.iinc 3 (-1), 3) := by decide +kernel
theorem dX2_stepLine_124 : decode cX2_stepLine 124 = .ok (.iinc 4 1, 3) := by decide +kernel
theorem dX2_stepLine_127 : decode cX2_stepLine 127 = .ok (.goto (-19), 3) := by decide +kernel
theorem dX2_stepLine_130 : decode cX2_stepLine 130 = .ok (.iconst 1, 1) := by decide +kernel
theorem dX2_stepLine_131 : decode cX2_stepLine 131 = .ok (.ireturn, 1) := by decide +kernel
theorem dX2_swapInLine_0 : decode cX2_swapInLine 0 = .ok (.aload_n 0, 1) := by decide +kernel
theorem dX2_swapInLine_1 : decode cX2_swapInLine 1 = .ok (.getfield 26, 3) := by decide +kernel
theorem dX2_swapInLine_4 : decode cX2_swapInLine 4 = .ok (.iload_n 1, 1) := by decide +kernel
theorem dX2_swapInLine_5 : decode cX2_swapInLine 5 = .ok (.invokevirtual 80, 3) := by decide +kernel
theorem dX2_swapInLine_8 : decode cX2_swapInLine 8 = .ok (.istore_n 3, 1) := by decide +kernel
theorem dX2_swapInLine_9 : decode cX2_swapInLine 9 = .ok (.aload_n 0, 1) := by decide +kernel
theorem dX2_swapInLine_10 : decode cX2_swapInLine 10 = .ok (.getfield 26, 3) := by decide +kernel
theorem dX2_swapInLine_13 : decode cX2_swapInLine 13 = .ok (.iload_n 1, 1) := by decide +kernel
theorem dX2_swapInLine_14 : decode cX2_swapInLine 14 = .ok (.aload_n 0, 1) := by decide +kernel
theorem dX2_swapInLine_15 : decode cX2_swapInLine 15 = .ok (.getfield 26, 3) := by decide +kernel
theorem dX2_swapInLine_18 : decode cX2_swapInLine 18 = .ok (.iload_n 2, 1) := by decide +kernel
theorem dX2_swapInLine_19 : decode cX2_swapInLine 19 = .ok (.invokevirtual 80, 3) := by decide +kernel
theorem dX2_swapInLine_22 : decode cX2_swapInLine 22 = .ok (.invokevirtual 102, 3) := by decide +kernel
theorem dX2_swapInLine_25 : decode cX2_swapInLine 25 = .ok (.aload_n 0, 1) := by decide +kernel
theorem dX2_swapInLine_26 : decode cX2_swapInLine 26 = .ok (.getfield 26, 3) := by decide +kernel
theorem dX2_swapInLine_29 : decode cX2_swapInLine 29 = .ok (.iload_n 2, 1) := by decide +kernel
theorem dX2_swapInLine_30 : decode cX2_swapInLine 30 = .ok (.iload_n 3, 1) := by decide +kernel
theorem dX2_swapInLine_31 : decode cX2_swapInLine 31 = .ok (.invokevirtual 102, 3) := by decide +kernel
theorem dX2_swapInLine_34 : decode cX2_swapInLine 34 = .ok (.return_, 1) := by decide +kernel
theorem dX2_lessByGreed_0 : decode cX2_lessByGreed 0 = .ok (.aload_n 0, 1) := by decide +kernel
theorem dX2_lessByGreed_1 : decode cX2_lessByGreed 1 = .ok (.getfield 12, 3) := by decide +kernel
theorem dX2_lessByGreed_4 : decode cX2_lessByGreed 4 = .ok (.aload_n 1, 1) := by decide +kernel
theorem dX2_lessByGreed_5 : decode cX2_lessByGreed 5 = .ok (.invokevirtual 55, 3) := by decide +kernel
theorem dX2_lessByGreed_8 : decode cX2_lessByGreed 8 = .ok (.iconst 0, 1) := by decide +kernel
theorem dX2_lessByGreed_9 : decode cX2_lessByGreed 9 = .ok (.istore 4, 2) := by decide +kernel
theorem dX2_lessByGreed_11 : decode cX2_lessByGreed 11 = .ok (.iconst 0, 1) := by decide +kernel
theorem dX2_lessByGreed_12 : decode cX2_lessByGreed 12 = .ok (.istore 5, 2) := by decide +kernel
theorem dX2_lessByGreed_14 : decode cX2_lessByGreed 14 = .ok (.iload 5, 2) := by decide +kernel
theorem dX2_lessByGreed_16 : decode cX2_lessByGreed 16 = .ok (.aload_n 3, 1) := by decide +kernel
theorem dX2_lessByGreed_17 : decode cX2_lessByGreed 17 = .ok (.getfield 79, 3) := by decide +kernel
theorem dX2_lessByGreed_20 : decode cX2_lessByGreed 20 = .ok (.if_icmp .ge 43, 3) := by decide +kernel
theorem dX2_lessByGreed_23 : decode cX2_lessByGreed 23 = .ok (.aload_n 0, 1) := by decide +kernel
theorem dX2_lessByGreed_24 : decode cX2_lessByGreed 24 = .ok (.aload_n 2, 1) := by decide +kernel
theorem dX2_lessByGreed_25 : decode cX2_lessByGreed 25 = .ok (.aload_n 3, 1) := by decide +kernel
theorem dX2_lessByGreed_26 : decode cX2_lessByGreed 26 = .ok (.iload 4, 2) := by decide +kernel
theorem dX2_lessByGreed_28 : decode cX2_lessByGreed 28 = .ok (.invokevirtual 105, 3) := by decide +kernel
theorem dX2_lessByGreed_31 : decode cX2_lessByGreed 31 = .ok (.istore 6, 2) := by decide +kernel
theorem dX2_lessByGreed_33 : decode cX2_lessByGreed 33 = .ok (.iload 4, 2) := by decide +kernel
theorem dX2_lessByGreed_35 : decode cX2_lessByGreed 35 = .ok (.iconst 1, 1) := by decide +kernel
theorem dX2_lessByGreed_36 : decode cX2_lessByGreed 36 = .ok (.iload 6, 2) := by decide +kernel
theorem dX2_lessByGreed_38 : decode cX2_lessByGreed 38 = .ok (.ishl, 1) := by decide +kernel
theorem dX2_lessByGreed_39 : decode cX2_lessByGreed 39 = .ok (.ior, 1) := by decide +kernel
theorem dX2_lessByGreed_40 : decode cX2_lessByGreed 40 = .ok (.istore 4, 2) := by decide +kernel
theorem dX2_lessByGreed_42 : decode cX2_lessByGreed 42 = .ok (.aload_n 2, 1) := by decide +kernel
theorem dX2_lessByGreed_43 : decode cX2_lessByGreed 43 = .ok (.aload_n 0, 1) := by decide +kernel
theorem dX2_lessByGreed_44 : decode cX2_lessByGreed 44 = .ok (.getfield 12, 3) := by decide +kernel
theorem dX2_lessByGreed_47 : decode cX2_lessByGreed 47 = .ok (.aload_n 3, 1) := by decide +kernel
theorem dX2_lessByGreed_48 : decode cX2_lessByGreed 48 = .ok (.iload 6, 2) := by decide +kernel
theorem dX2_lessByGreed_50 : decode cX2_lessByGreed 50 = .ok (.invokevirtual 80, 3) := by decide +kernel
theorem dX2_lessByGreed_53 : decode cX2_lessByGreed 53 = .ok (.invokevirtual 63, 3) := by decide +kernel
theorem dX2_lessByGreed_56 : decode cX2_lessByGreed 56 = .ok (.pop, 1) := by decide +kernel
theorem dX2_lessByGreed_57 : decode cX2_lessByGreed 57 = .ok (.iinc 5 1, 3) := by decide +kernel
theorem dX2_lessByGreed_60 : decode cX2_lessByGreed 60 = .ok (.goto (-46), 3) := by decide +kernel
theorem dX2_lessByGreed_63 : decode cX2_lessByGreed 63 = .ok (.aload_n 1, 1) := by decide +kernel
theorem dX2_lessByGreed_64 : decode cX2_lessByGreed 64 = .ok (.invokevirtual 83, 3) := by decide +kernel
theorem dX2_lessByGreed_67 : decode cX2_lessByGreed 67 = .ok (.aload_n 0, 1) := by decide +kernel
theorem dX2_lessByGreed_68 : decode cX2_lessByGreed 68 = .ok (.getfield 12, 3) := by decide +kernel
theorem dX2_lessByGreed_71 : decode cX2_lessByGreed 71 = .ok (.invokevirtual 83, 3) := by decide +kernel
theorem dX2_lessByGreed_74 : decode cX2_lessByGreed 74 = .ok (.isub, 1) := by decide +kernel
theorem dX2_lessByGreed_75 : decode cX2_lessByGreed 75 = .ok (.ireturn, 1) := by decide +kernel
theorem dX2_greediest_0 : decode cX2_greediest 0 = .ok (.iconst 0, 1) := by decide +kernel
theorem dX2_greediest_1 : decode cX2_greediest 1 = .ok (.istore 4, 2) := by decide +kernel
theorem dX2_greediest_3 : decode cX2_greediest 3 = .ok (.iconst (-1), 1) := by decide +kernel
theorem dX2_greediest_4 : decode cX2_greediest 4 = .ok (.istore 5, 2) := by decide +kernel
theorem dX2_greediest_6 : decode cX2_greediest 6 = .ok (.iconst 0, 1) := by decide +kernel
theorem dX2_greediest_7 : decode cX2_greediest 7 = .ok (.istore 6, 2) := by decide +kernel
theorem dX2_greediest_9 : decode cX2_greediest 9 = .ok (.iload 6, 2) := by decide +kernel
theorem dX2_greediest_11 : decode cX2_greediest 11 = .ok (.aload_n 2, 1) := by decide +kernel
theorem dX2_greediest_12 : decode cX2_greediest 12 = .ok (.getfield 79, 3) := by decide +kernel
theorem dX2_greediest_15 : decode cX2_greediest 15 = .ok (.if_icmp .ge 76, 3) := by decide +kernel
theorem dX2_greediest_18 : decode cX2_greediest 18 = .ok (.iload_n 3, 1) := by decide +kernel
theorem dX2_greediest_19 : decode cX2_greediest 19 = .ok (.iload 6, 2) := by decide +kernel
theorem dX2_greediest_21 : decode cX2_greediest 21 = .ok (.ishr, 1) := by decide +kernel
theorem dX2_greediest_22 : decode cX2_greediest 22 = .ok (.iconst 1, 1) := by decide +kernel
theorem dX2_greediest_23 : decode cX2_greediest 23 = .ok (.iand, 1) := by decide +kernel
theorem dX2_greediest_24 : decode cX2_greediest 24 = .ok (.ifCond .ne 61, 3) := by decide +kernel
theorem dX2_greediest_27 : decode cX2_greediest 27 = .ok (.aload_n 0, 1) := by decide +kernel
theorem dX2_greediest_28 : decode cX2_greediest 28 = .ok (.getfield 18, 3) := by decide +kernel
theorem dX2_greediest_31 : decode cX2_greediest 31 = .ok (.aload_n 0, 1) := by decide +kernel
theorem dX2_greediest_32 : decode cX2_greediest 32 = .ok (.getfield 12, 3) := by decide +kernel
theorem dX2_greediest_35 : decode cX2_greediest 35 = .ok (.invokevirtual 55, 3) := by decide +kernel
theorem dX2_greediest_38 : decode cX2_greediest 38 = .ok (.aload_n 1, 1) := by decide +kernel
theorem dX2_greediest_39 : decode cX2_greediest 39 = .ok (.aload_n 0, 1) := by decide +kernel
theorem dX2_greediest_40 : decode cX2_greediest 40 = .ok (.getfield 18, 3) := by decide +kernel
theorem dX2_greediest_43 : decode cX2_greediest 43 = .ok (.aload_n 2, 1) := by decide +kernel
theorem dX2_greediest_44 : decode cX2_greediest 44 = .ok (.iload 6, 2) := by decide +kernel
theorem dX2_greediest_46 : decode cX2_greediest 46 = .ok (.invokevirtual 80, 3) := by decide +kernel
theorem dX2_greediest_49 : decode cX2_greediest 49 = .ok (.invokevirtual 63, 3) := by decide +kernel
theorem dX2_greediest_52 : decode cX2_greediest 52 = .ok (.pop, 1) := by decide +kernel
theorem dX2_greediest_53 : decode cX2_greediest 53 = .ok (.aload_n 0, 1) := by decide +kernel
theorem dX2_greediest_54 : decode cX2_greediest 54 = .ok (.getfield 12, 3) := by decide +kernel
theorem dX2_greediest_57 : decode cX2_greediest 57 = .ok (.invokevirtual 83, 3) := by decide +kernel
theorem dX2_greediest_60 : decode cX2_greediest 60 = .ok (.aload_n 0, 1) := by decide +kernel
theorem dX2_greediest_61 : decode cX2_greediest 61 = .ok (.getfield 18, 3) := by decide +kernel
theorem dX2_greediest_64 : decode cX2_greediest 64 = .ok (.invokevirtual 83, 3) := by decide +kernel
theorem dX2_greediest_67 : decode cX2_greediest 67 = .ok (.isub, 1) := by decide +kernel
theorem dX2_greediest_68 : decode cX2_greediest 68 = .ok (.istore 7, 2) := by decide +kernel
theorem dX2_greediest_70 : decode cX2_greediest 70 = .ok (.iload 7, 2) := by decide +kernel
theorem dX2_greediest_72 : decode cX2_greediest 72 = .ok (.iload 5, 2) := by decide +kernel
theorem dX2_greediest_74 : decode cX2_greediest 74 = .ok (.if_icmp .le 11, 3) := by decide +kernel
theorem dX2_greediest_77 : decode cX2_greediest 77 = .ok (.iload 7, 2) := by decide +kernel
theorem dX2_greediest_79 : decode cX2_greediest 79 = .ok (.istore 5, 2) := by decide +kernel
theorem dX2_greediest_81 : decode cX2_greediest 81 = .ok (.iload 6, 2) := by decide +kernel
theorem dX2_greediest_83 : decode cX2_greediest 83 = .ok (.istore 4, 2) := by decide +kernel
theorem dX2_greediest_85 : decode cX2_greediest 85 = .ok (.iinc 6 1, 3) := by decide +kernel
theorem dX2_greediest_88 : decode cX2_greediest 88 = .ok (.goto (-79), 3) := by decide +kernel
theorem dX2_greediest_91 : decode cX2_greediest 91 = .ok (.iload 4, 2) := by decide +kernel
theorem dX2_greediest_93 : decode cX2_greediest 93 = .ok (.ireturn, 1) := by decide +kernel
theorem dX2_timesTillHad_0 : decode cX2_timesTillHad 0 = .ok (.aload_n 0, 1) := by decide +kernel
theorem dX2_timesTillHad_1 : decode cX2_timesTillHad 1 = .ok (.getfield 12, 3) := by decide +kernel
theorem dX2_timesTillHad_4 : decode cX2_timesTillHad 4 = .ok (.aload_n 1, 1) := by decide +kernel
theorem dX2_timesTillHad_5 : decode cX2_timesTillHad 5 = .ok (.invokevirtual 55, 3) := by decide +kernel
theorem dX2_timesTillHad_8 : decode cX2_timesTillHad 8 = .ok (.iconst 0, 1) := by decide +kernel
theorem dX2_timesTillHad_9 : decode cX2_timesTillHad 9 = .ok (.istore 5, 2) := by decide +kernel
theorem dX2_timesTillHad_11 : decode cX2_timesTillHad 11 = .ok (.iconst 0, 1) := by decide +kernel
theorem dX2_timesTillHad_12 : decode cX2_timesTillHad 12 = .ok (.istore 6, 2) := by decide +kernel
theorem dX2_timesTillHad_14 : decode cX2_timesTillHad 14 = .ok (.iload 6, 2) := by decide +kernel
theorem dX2_timesTillHad_16 : decode cX2_timesTillHad 16 = .ok (.bipush 40, 2) := by decide +kernel
theorem dX2_timesTillHad_18 : decode cX2_timesTillHad 18 = .ok (.if_icmp .gt 59, 3) := by decide +kernel
theorem dX2_timesTillHad_21 : decode cX2_timesTillHad 21 = .ok (.iload 5, 2) := by decide +kernel
theorem dX2_timesTillHad_23 : decode cX2_timesTillHad 23 = .ok (.invokestatic 109, 3) := by decide +kernel
theorem dX2_timesTillHad_26 : decode cX2_timesTillHad 26 = .ok (.iload 4, 2) := by decide +kernel
theorem dX2_timesTillHad_28 : decode cX2_timesTillHad 28 = .ok (.if_icmp .lt 6, 3) := by decide +kernel
theorem dX2_timesTillHad_31 : decode cX2_timesTillHad 31 = .ok (.iload 6, 2) := by decide +kernel
theorem dX2_timesTillHad_33 : decode cX2_timesTillHad 33 = .ok (.ireturn, 1) := by decide +kernel
theorem dX2_timesTillHad_34 : decode cX2_timesTillHad 34 = .ok (.aload_n 2, 1) := by decide +kernel
theorem dX2_timesTillHad_35 : decode cX2_timesTillHad 35 = .ok (.aload_n 0, 1) := by decide +kernel
theorem dX2_timesTillHad_36 : decode cX2_timesTillHad 36 = .ok (.getfield 12, 3) := by decide +kernel
theorem dX2_timesTillHad_39 : decode cX2_timesTillHad 39 = .ok (.iload_n 3, 1) := by decide +kernel
theorem dX2_timesTillHad_40 : decode cX2_timesTillHad 40 = .ok (.invokevirtual 114, 3) := by decide +kernel
theorem dX2_timesTillHad_43 : decode cX2_timesTillHad 43 = .ok (.istore 7, 2) := by decide +kernel
theorem dX2_timesTillHad_45 : decode cX2_timesTillHad 45 = .ok (.iload 5, 2) := by decide +kernel
theorem dX2_timesTillHad_47 : decode cX2_timesTillHad 47 = .ok (.aload_n 2, 1) := by decide +kernel
theorem dX2_timesTillHad_48 : decode cX2_timesTillHad 48 = .ok (.aload_n 0, 1) := by decide +kernel
theorem dX2_timesTillHad_49 : decode cX2_timesTillHad 49 = .ok (.getfield 12, 3) := by decide +kernel
theorem dX2_timesTillHad_52 : decode cX2_timesTillHad 52 = .ok (.iload_n 3, 1) := by decide +kernel
theorem dX2_timesTillHad_53 : decode cX2_timesTillHad 53 = .ok (.iload 7, 2) := by decide +kernel
theorem dX2_timesTillHad_55 : decode cX2_timesTillHad 55 = .ok (.invokevirtual 117, 3) := by decide +kernel
theorem dX2_timesTillHad_58 : decode cX2_timesTillHad 58 = .ok (.ior, 1) := by decide +kernel
theorem dX2_timesTillHad_59 : decode cX2_timesTillHad 59 = .ok (.istore 5, 2) := by decide +kernel
theorem dX2_timesTillHad_61 : decode cX2_timesTillHad 61 = .ok (.aload_n 2, 1) := by decide +kernel
theorem dX2_timesTillHad_62 : decode cX2_timesTillHad 62 = .ok (.aload_n 0, 1) := by decide +kernel
theorem dX2_timesTillHad_63 : decode cX2_timesTillHad 63 = .ok (.getfield 12, 3) := by decide +kernel
theorem dX2_timesTillHad_66 : decode cX2_timesTillHad 66 = .ok (.iload_n 3, 1) := by decide +kernel
theorem dX2_timesTillHad_67 : decode cX2_timesTillHad 67 = .ok (.invokevirtual 63, 3) := by decide +kernel
theorem dX2_timesTillHad_70 : decode cX2_timesTillHad 70 = .ok (.pop, 1) := by decide +kernel
theorem dX2_timesTillHad_71 : decode cX2_timesTillHad 71 = .ok (.iinc 6 1, 3) := by decide +kernel
theorem dX2_timesTillHad_74 : decode cX2_timesTillHad 74 = .ok (.goto (-60), 3) := by decide +kernel
theorem dX2_timesTillHad_77 : decode cX2_timesTillHad 77 = .ok (.bipush (-9), 2) := by decide +kernel
theorem dX2_timesTillHad_79 : decode cX2_timesTillHad 79 = .ok (.ireturn, 1) := by decide +kernel
theorem dX2_fittingValues_0 : decode cX2_fittingValues 0 = .ok (.aload_n 0, 1) := by decide +kernel
theorem dX2_fittingValues_1 : decode cX2_fittingValues 1 = .ok (.getfield 12, 3) := by decide +kernel
theorem dX2_fittingValues_4 : decode cX2_fittingValues 4 = .ok (.aload_n 1, 1) := by decide +kernel
theorem dX2_fittingValues_5 : decode cX2_fittingValues 5 = .ok (.getfield 121, 3) := by decide +kernel
theorem dX2_fittingValues_8 : decode cX2_fittingValues 8 = .ok (.invokevirtual 55, 3) := by decide +kernel
theorem dX2_fittingValues_11 : decode cX2_fittingValues 11 = .ok (.iconst 0, 1) := by decide +kernel
theorem dX2_fittingValues_12 : decode cX2_fittingValues 12 = .ok (.istore 5, 2) := by decide +kernel
theorem dX2_fittingValues_14 : decode cX2_fittingValues 14 = .ok (.iconst 0, 1) := by decide +kernel
theorem dX2_fittingValues_15 : decode cX2_fittingValues 15 = .ok (.istore 6, 2) := by decide +kernel
theorem dX2_fittingValues_17 : decode cX2_fittingValues 17 = .ok (.iload 6, 2) := by decide +kernel
theorem dX2_fittingValues_19 : decode cX2_fittingValues 19 = .ok (.bipush 30, 2) := by decide +kernel
theorem dX2_fittingValues_21 : decode cX2_fittingValues 21 = .ok (.if_icmp .gt 39, 3) := by decide +kernel
theorem dX2_fittingValues_24 : decode cX2_fittingValues 24 = .ok (.aload_n 0, 1) := by decide +kernel
theorem dX2_fittingValues_25 : decode cX2_fittingValues 25 = .ok (.getfield 12, 3) := by decide +kernel
theorem dX2_fittingValues_28 : decode cX2_fittingValues 28 = .ok (.iload_n 3, 1) := by decide +kernel
theorem dX2_fittingValues_29 : decode cX2_fittingValues 29 = .ok (.iload 4, 2) := by decide +kernel
theorem dX2_fittingValues_31 : decode cX2_fittingValues 31 = .ok (.iload 6, 2) := by decide +kernel
theorem dX2_fittingValues_33 : decode cX2_fittingValues 33 = .ok (.invokevirtual 126, 3) := by decide +kernel
theorem dX2_fittingValues_36 : decode cX2_fittingValues 36 = .ok (.aload_n 0, 1) := by decide +kernel
theorem dX2_fittingValues_37 : decode cX2_fittingValues 37 = .ok (.aload_n 1, 1) := by decide +kernel
theorem dX2_fittingValues_38 : decode cX2_fittingValues 38 = .ok (.aload_n 2, 1) := by decide +kernel
theorem dX2_fittingValues_39 : decode cX2_fittingValues 39 = .ok (.invokevirtual 130, 3) := by decide +kernel
theorem dX2_fittingValues_42 : decode cX2_fittingValues 42 = .ok (.ifCond .eq 12, 3) := by decide +kernel
theorem dX2_fittingValues_45 : decode cX2_fittingValues 45 = .ok (.iload 5, 2) := by decide +kernel
theorem dX2_fittingValues_47 : decode cX2_fittingValues 47 = .ok (.iconst 1, 1) := by decide +kernel
theorem dX2_fittingValues_48 : decode cX2_fittingValues 48 = .ok (.iload 6, 2) := by decide +kernel
theorem dX2_fittingValues_50 : decode cX2_fittingValues 50 = .ok (.ishl, 1) := by decide +kernel
theorem dX2_fittingValues_51 : decode cX2_fittingValues 51 = .ok (.ior, 1) := by decide +kernel
theorem dX2_fittingValues_52 : decode cX2_fittingValues 52 = .ok (.istore 5, 2) := by decide +kernel
theorem dX2_fittingValues_54 : decode cX2_fittingValues 54 = .ok (.iinc 6 1, 3) := by decide +kernel
theorem dX2_fittingValues_57 : decode cX2_fittingValues 57 = .ok (.goto (-40), 3) := by decide +kernel
theorem dX2_fittingValues_60 : decode cX2_fittingValues 60 = .ok (.iload 5, 2) := by decide +kernel
theorem dX2_fittingValues_62 : decode cX2_fittingValues 62 = .ok (.ireturn, 1) := by decide +kernel
theorem dX2_allWentSo_0 : decode cX2_allWentSo 0 = .ok (.iconst 0, 1) := by decide +kernel
theorem dX2_allWentSo_1 : decode cX2_allWentSo 1 = .ok (.istore_n 3, 1) := by decide +kernel
theorem dX2_allWentSo_2 : decode cX2_allWentSo 2 = .ok (.iload_n 3, 1) := by decide +kernel
theorem dX2_allWentSo_3 : decode cX2_allWentSo 3 = .ok (.aload_n 1, 1) := by decide +kernel
theorem dX2_allWentSo_4 : decode cX2_allWentSo 4 = .ok (.getfield 134, 3) := by decide +kernel
theorem dX2_allWentSo_7 : decode cX2_allWentSo 7 = .ok (.getfield 79, 3) := by decide +kernel
theorem dX2_allWentSo_10 : decode cX2_allWentSo 10 = .ok (.if_icmp .ge 42, 3) := by decide +kernel
theorem dX2_allWentSo_13 : decode cX2_allWentSo 13 = .ok (.aload_n 2, 1) := by decide +kernel
theorem dX2_allWentSo_14 : decode cX2_allWentSo 14 = .ok (.aload_n 0, 1) := by decide +kernel
theorem dX2_allWentSo_15 : decode cX2_allWentSo 15 = .ok (.getfield 12, 3) := by decide +kernel
theorem dX2_allWentSo_18 : decode cX2_allWentSo 18 = .ok (.aload_n 1, 1) := by decide +kernel
theorem dX2_allWentSo_19 : decode cX2_allWentSo 19 = .ok (.getfield 134, 3) := by decide +kernel
theorem dX2_allWentSo_22 : decode cX2_allWentSo 22 = .ok (.iload_n 3, 1) := by decide +kernel
theorem dX2_allWentSo_23 : decode cX2_allWentSo 23 = .ok (.invokevirtual 80, 3) := by decide +kernel
theorem dX2_allWentSo_26 : decode cX2_allWentSo 26 = .ok (.invokevirtual 114, 3) := by decide +kernel
theorem dX2_allWentSo_29 : decode cX2_allWentSo 29 = .ok (.istore 4, 2) := by decide +kernel
theorem dX2_allWentSo_31 : decode cX2_allWentSo 31 = .ok (.iload 4, 2) := by decide +kernel
theorem dX2_allWentSo_33 : decode cX2_allWentSo 33 = .ok (.aload_n 1, 1) := by decide +kernel
theorem dX2_allWentSo_34 : decode cX2_allWentSo 34 = .ok (.getfield 137, 3) := by decide +kernel
theorem dX2_allWentSo_37 : decode cX2_allWentSo 37 = .ok (.iload_n 3, 1) := by decide +kernel
theorem dX2_allWentSo_38 : decode cX2_allWentSo 38 = .ok (.invokevirtual 80, 3) := by decide +kernel
theorem dX2_allWentSo_41 : decode cX2_allWentSo 41 = .ok (.if_icmp .eq 5, 3) := by decide +kernel
theorem dX2_allWentSo_44 : decode cX2_allWentSo 44 = .ok (.iconst 0, 1) := by decide +kernel
theorem dX2_allWentSo_45 : decode cX2_allWentSo 45 = .ok (.ireturn, 1) := by decide +kernel
theorem dX2_allWentSo_46 : decode cX2_allWentSo 46 = .ok (.iinc 3 1, 3) := by decide +kernel
theorem dX2_allWentSo_49 : decode cX2_allWentSo 49 = .ok (.goto (-47), 3) := by decide +kernel
theorem dX2_allWentSo_52 : decode cX2_allWentSo 52 = .ok (.iconst 1, 1) := by decide +kernel
theorem dX2_allWentSo_53 : decode cX2_allWentSo 53 = .ok (.ireturn, 1) := by decide +kernel
theorem dX2_mostTelling_0 : decode cX2_mostTelling 0 = .ok (.aload_n 0, 1) := by decide +kernel
theorem dX2_mostTelling_1 : decode cX2_mostTelling 1 = .ok (.getfield 12, 3) := by decide +kernel
theorem dX2_mostTelling_4 : decode cX2_mostTelling 4 = .ok (.aload_n 1, 1) := by decide +kernel
theorem dX2_mostTelling_5 : decode cX2_mostTelling 5 = .ok (.invokevirtual 55, 3) := by decide +kernel
theorem dX2_mostTelling_8 : decode cX2_mostTelling 8 = .ok (.iconst 0, 1) := by decide +kernel
theorem dX2_mostTelling_9 : decode cX2_mostTelling 9 = .ok (.istore 6, 2) := by decide +kernel
theorem dX2_mostTelling_11 : decode cX2_mostTelling 11 = .ok (.iconst 0, 1) := by decide +kernel
theorem dX2_mostTelling_12 : decode cX2_mostTelling 12 = .ok (.istore 7, 2) := by decide +kernel
theorem dX2_mostTelling_14 : decode cX2_mostTelling 14 = .ok (.iconst 0, 1) := by decide +kernel
theorem dX2_mostTelling_15 : decode cX2_mostTelling 15 = .ok (.istore 8, 2) := by decide +kernel
theorem dX2_mostTelling_17 : decode cX2_mostTelling 17 = .ok (.iload 8, 2) := by decide +kernel
theorem dX2_mostTelling_19 : decode cX2_mostTelling 19 = .ok (.getstatic 33, 3) := by decide +kernel
theorem dX2_mostTelling_22 : decode cX2_mostTelling 22 = .ok (.arraylength, 1) := by decide +kernel
theorem dX2_mostTelling_23 : decode cX2_mostTelling 23 = .ok (.if_icmp .ge 46, 3) := by decide +kernel
theorem dX2_mostTelling_26 : decode cX2_mostTelling 26 = .ok (.aload_n 0, 1) := by decide +kernel
theorem dX2_mostTelling_27 : decode cX2_mostTelling 27 = .ok (.aload_n 2, 1) := by decide +kernel
theorem dX2_mostTelling_28 : decode cX2_mostTelling 28 = .ok (.iload_n 3, 1) := by decide +kernel
theorem dX2_mostTelling_29 : decode cX2_mostTelling 29 = .ok (.iload 4, 2) := by decide +kernel
theorem dX2_mostTelling_31 : decode cX2_mostTelling 31 = .ok (.iload 5, 2) := by decide +kernel
theorem dX2_mostTelling_33 : decode cX2_mostTelling 33 = .ok (.getstatic 33, 3) := by decide +kernel
theorem dX2_mostTelling_36 : decode cX2_mostTelling 36 = .ok (.iload 8, 2) := by decide +kernel
theorem dX2_mostTelling_38 : decode cX2_mostTelling 38 = .ok (.iaload, 1) := by decide +kernel
theorem dX2_mostTelling_39 : decode cX2_mostTelling 39 = .ok (.invokevirtual 140, 3) := by decide +kernel
theorem dX2_mostTelling_42 : decode cX2_mostTelling 42 = .ok (.istore 9, 2) := by decide +kernel
theorem dX2_mostTelling_44 : decode cX2_mostTelling 44 = .ok (.iload 9, 2) := by decide +kernel
theorem dX2_mostTelling_46 : decode cX2_mostTelling 46 = .ok (.iload 7, 2) := by decide +kernel
theorem dX2_mostTelling_48 : decode cX2_mostTelling 48 = .ok (.if_icmp .le 15, 3) := by decide +kernel
theorem dX2_mostTelling_51 : decode cX2_mostTelling 51 = .ok (.iload 9, 2) := by decide +kernel
theorem dX2_mostTelling_53 : decode cX2_mostTelling 53 = .ok (.istore 7, 2) := by decide +kernel
theorem dX2_mostTelling_55 : decode cX2_mostTelling 55 = .ok (.getstatic 33, 3) := by decide +kernel
theorem dX2_mostTelling_58 : decode cX2_mostTelling 58 = .ok (.iload 8, 2) := by decide +kernel
theorem dX2_mostTelling_60 : decode cX2_mostTelling 60 = .ok (.iaload, 1) := by decide +kernel
theorem dX2_mostTelling_61 : decode cX2_mostTelling 61 = .ok (.istore 6, 2) := by decide +kernel
theorem dX2_mostTelling_63 : decode cX2_mostTelling 63 = .ok (.iinc 8 1, 3) := by decide +kernel
theorem dX2_mostTelling_66 : decode cX2_mostTelling 66 = .ok (.goto (-49), 3) := by decide +kernel
theorem dX2_mostTelling_69 : decode cX2_mostTelling 69 = .ok (.iload 6, 2) := by decide +kernel
theorem dX2_mostTelling_71 : decode cX2_mostTelling 71 = .ok (.ireturn, 1) := by decide +kernel
theorem dX2_receiversOver_0 : decode cX2_receiversOver 0 = .ok (.iconst 0, 1) := by decide +kernel
theorem dX2_receiversOver_1 : decode cX2_receiversOver 1 = .ok (.istore 6, 2) := by decide +kernel
theorem dX2_receiversOver_3 : decode cX2_receiversOver 3 = .ok (.iconst 0, 1) := by decide +kernel
theorem dX2_receiversOver_4 : decode cX2_receiversOver 4 = .ok (.istore 7, 2) := by decide +kernel
theorem dX2_receiversOver_6 : decode cX2_receiversOver 6 = .ok (.iload 7, 2) := by decide +kernel
theorem dX2_receiversOver_8 : decode cX2_receiversOver 8 = .ok (.bipush 30, 2) := by decide +kernel
theorem dX2_receiversOver_10 : decode cX2_receiversOver 10 = .ok (.if_icmp .gt 64, 3) := by decide +kernel
theorem dX2_receiversOver_13 : decode cX2_receiversOver 13 = .ok (.iload 4, 2) := by decide +kernel
theorem dX2_receiversOver_15 : decode cX2_receiversOver 15 = .ok (.iload 7, 2) := by decide +kernel
theorem dX2_receiversOver_17 : decode cX2_receiversOver 17 = .ok (.ishr, 1) := by decide +kernel
theorem dX2_receiversOver_18 : decode cX2_receiversOver 18 = .ok (.iconst 1, 1) := by decide +kernel
theorem dX2_receiversOver_19 : decode cX2_receiversOver 19 = .ok (.iand, 1) := by decide +kernel
theorem dX2_receiversOver_20 : decode cX2_receiversOver 20 = .ok (.iconst 1, 1) := by decide +kernel
theorem dX2_receiversOver_21 : decode cX2_receiversOver 21 = .ok (.if_icmp .ne 47, 3) := by decide +kernel
theorem dX2_receiversOver_24 : decode cX2_receiversOver 24 = .ok (.aload_n 0, 1) := by decide +kernel
theorem dX2_receiversOver_25 : decode cX2_receiversOver 25 = .ok (.getfield 12, 3) := by decide +kernel
theorem dX2_receiversOver_28 : decode cX2_receiversOver 28 = .ok (.iload_n 2, 1) := by decide +kernel
theorem dX2_receiversOver_29 : decode cX2_receiversOver 29 = .ok (.iload_n 3, 1) := by decide +kernel
theorem dX2_receiversOver_30 : decode cX2_receiversOver 30 = .ok (.iload 7, 2) := by decide +kernel
theorem dX2_receiversOver_32 : decode cX2_receiversOver 32 = .ok (.invokevirtual 126, 3) := by decide +kernel
theorem dX2_receiversOver_35 : decode cX2_receiversOver 35 = .ok (.aload_n 1, 1) := by decide +kernel
theorem dX2_receiversOver_36 : decode cX2_receiversOver 36 = .ok (.aload_n 0, 1) := by decide +kernel
theorem dX2_receiversOver_37 : decode cX2_receiversOver 37 = .ok (.getfield 12, 3) := by decide +kernel
theorem dX2_receiversOver_40 : decode cX2_receiversOver 40 = .ok (.iload 5, 2) := by decide +kernel
theorem dX2_receiversOver_42 : decode cX2_receiversOver 42 = .ok (.invokevirtual 114, 3) := by decide +kernel
theorem dX2_receiversOver_45 : decode cX2_receiversOver 45 = .ok (.istore 8, 2) := by decide +kernel
theorem dX2_receiversOver_47 : decode cX2_receiversOver 47 = .ok (.iload 6, 2) := by decide +kernel
theorem dX2_receiversOver_49 : decode cX2_receiversOver 49 = .ok (.iconst 1, 1) := by decide +kernel
theorem dX2_receiversOver_50 : decode cX2_receiversOver 50 = .ok (.iload 8, 2) := by decide +kernel
theorem dX2_receiversOver_52 : decode cX2_receiversOver 52 = .ok (.bipush (-9), 2) := by decide +kernel
theorem dX2_receiversOver_54 : decode cX2_receiversOver 54 = .ok (.if_icmp .ne 8, 3) := by decide +kernel
theorem dX2_receiversOver_57 : decode cX2_receiversOver 57 = .ok (.bipush 6, 2) := by decide +kernel
theorem dX2_receiversOver_59 : decode cX2_receiversOver 59 = .ok (.goto 5, 3) := by decide +kernel
theorem dX2_receiversOver_62 : decode cX2_receiversOver 62 = .ok (.iload 8, 2) := by decide +kernel
theorem dX2_receiversOver_64 : decode cX2_receiversOver 64 = .ok (.ishl, 1) := by decide +kernel
theorem dX2_receiversOver_65 : decode cX2_receiversOver 65 = .ok (.ior, 1) := by decide +kernel
theorem dX2_receiversOver_66 : decode cX2_receiversOver 66 = .ok (.istore 6, 2) := by decide +kernel
theorem dX2_receiversOver_68 : decode cX2_receiversOver 68 = .ok (.iinc 7 1, 3) := by decide +kernel
theorem dX2_receiversOver_71 : decode cX2_receiversOver 71 = .ok (.goto (-65), 3) := by decide +kernel
theorem dX2_receiversOver_74 : decode cX2_receiversOver 74 = .ok (.iload 6, 2) := by decide +kernel
theorem dX2_receiversOver_76 : decode cX2_receiversOver 76 = .ok (.invokestatic 109, 3) := by decide +kernel
theorem dX2_receiversOver_79 : decode cX2_receiversOver 79 = .ok (.ireturn, 1) := by decide +kernel
theorem dX2_surestTo_0 : decode cX2_surestTo 0 = .ok (.bipush (-9), 2) := by decide +kernel
theorem dX2_surestTo_2 : decode cX2_surestTo 2 = .ok (.istore 5, 2) := by decide +kernel
theorem dX2_surestTo_4 : decode cX2_surestTo 4 = .ok (.iconst 0, 1) := by decide +kernel
theorem dX2_surestTo_5 : decode cX2_surestTo 5 = .ok (.istore 6, 2) := by decide +kernel
theorem dX2_surestTo_7 : decode cX2_surestTo 7 = .ok (.bipush 100, 2) := by decide +kernel
theorem dX2_surestTo_9 : decode cX2_surestTo 9 = .ok (.istore 7, 2) := by decide +kernel
theorem dX2_surestTo_11 : decode cX2_surestTo 11 = .ok (.iconst 0, 1) := by decide +kernel
theorem dX2_surestTo_12 : decode cX2_surestTo 12 = .ok (.istore 8, 2) := by decide +kernel
theorem dX2_surestTo_14 : decode cX2_surestTo 14 = .ok (.iload 8, 2) := by decide +kernel
theorem dX2_surestTo_16 : decode cX2_surestTo 16 = .ok (.getstatic 33, 3) := by decide +kernel
theorem dX2_surestTo_19 : decode cX2_surestTo 19 = .ok (.arraylength, 1) := by decide +kernel
theorem dX2_surestTo_20 : decode cX2_surestTo 20 = .ok (.if_icmp .ge 78, 3) := by decide +kernel
theorem dX2_surestTo_23 : decode cX2_surestTo 23 = .ok (.aload_n 2, 1) := by decide +kernel
theorem dX2_surestTo_24 : decode cX2_surestTo 24 = .ok (.aload_n 1, 1) := by decide +kernel
theorem dX2_surestTo_25 : decode cX2_surestTo 25 = .ok (.iload_n 3, 1) := by decide +kernel
theorem dX2_surestTo_26 : decode cX2_surestTo 26 = .ok (.getstatic 33, 3) := by decide +kernel
theorem dX2_surestTo_29 : decode cX2_surestTo 29 = .ok (.iload 8, 2) := by decide +kernel
theorem dX2_surestTo_31 : decode cX2_surestTo 31 = .ok (.iaload, 1) := by decide +kernel
theorem dX2_surestTo_32 : decode cX2_surestTo 32 = .ok (.iload 4, 2) := by decide +kernel
theorem dX2_surestTo_34 : decode cX2_surestTo 34 = .ok (.invokevirtual 144, 3) := by decide +kernel
theorem dX2_surestTo_37 : decode cX2_surestTo 37 = .ok (.istore 9, 2) := by decide +kernel
theorem dX2_surestTo_39 : decode cX2_surestTo 39 = .ok (.getstatic 33, 3) := by decide +kernel
theorem dX2_surestTo_42 : decode cX2_surestTo 42 = .ok (.iload 8, 2) := by decide +kernel
theorem dX2_surestTo_44 : decode cX2_surestTo 44 = .ok (.iaload, 1) := by decide +kernel
theorem dX2_surestTo_45 : decode cX2_surestTo 45 = .ok (.invokestatic 37, 3) := by decide +kernel
theorem dX2_surestTo_48 : decode cX2_surestTo 48 = .ok (.istore 10, 2) := by decide +kernel
theorem dX2_surestTo_50 : decode cX2_surestTo 50 = .ok (.iload 9, 2) := by decide +kernel
theorem dX2_surestTo_52 : decode cX2_surestTo 52 = .ok (.iload 6, 2) := by decide +kernel
theorem dX2_surestTo_54 : decode cX2_surestTo 54 = .ok (.if_icmp .gt 22, 3) := by decide +kernel
theorem dX2_surestTo_57 : decode cX2_surestTo 57 = .ok (.iload 9, 2) := by decide +kernel
theorem dX2_surestTo_59 : decode cX2_surestTo 59 = .ok (.iload 6, 2) := by decide +kernel
theorem dX2_surestTo_61 : decode cX2_surestTo 61 = .ok (.if_icmp .ne 31, 3) := by decide +kernel
theorem dX2_surestTo_64 : decode cX2_surestTo 64 = .ok (.iload 9, 2) := by decide +kernel
theorem dX2_surestTo_66 : decode cX2_surestTo 66 = .ok (.ifCond .le 26, 3) := by decide +kernel
theorem dX2_surestTo_69 : decode cX2_surestTo 69 = .ok (.iload 10, 2) := by decide +kernel
theorem dX2_surestTo_71 : decode cX2_surestTo 71 = .ok (.iload 7, 2) := by decide +kernel
theorem dX2_surestTo_73 : decode cX2_surestTo 73 = .ok (.if_icmp .ge 19, 3) := by decide +kernel
theorem dX2_surestTo_76 : decode cX2_surestTo 76 = .ok (.iload 9, 2) := by decide +kernel
theorem dX2_surestTo_78 : decode cX2_surestTo 78 = .ok (.istore 6, 2) := by decide +kernel
theorem dX2_surestTo_80 : decode cX2_surestTo 80 = .ok (.iload 10, 2) := by decide +kernel
theorem dX2_surestTo_82 : decode cX2_surestTo 82 = .ok (.istore 7, 2) := by decide +kernel
theorem dX2_surestTo_84 : decode cX2_surestTo 84 = .ok (.getstatic 33, 3) := by decide +kernel
theorem dX2_surestTo_87 : decode cX2_surestTo 87 = .ok (.iload 8, 2) := by decide +kernel
theorem dX2_surestTo_89 : decode cX2_surestTo 89 = .ok (.iaload, 1) := by decide +kernel
theorem dX2_surestTo_90 : decode cX2_surestTo 90 = .ok (.istore 5, 2) := by decide +kernel
theorem dX2_surestTo_92 : decode cX2_surestTo 92 = .ok (.iinc 8 1, 3) := by decide +kernel
theorem dX2_surestTo_95 : decode cX2_surestTo 95 = .ok (.goto (-81), 3) := by decide +kernel
theorem dX2_surestTo_98 : decode cX2_surestTo 98 = .ok (.iload 5, 2) := by decide +kernel
theorem dX2_surestTo_100 : decode cX2_surestTo 100 = .ok (.ireturn, 1) := by decide +kernel
theorem dX2_written_0 : decode cX2_written 0 = .ok (.aload_n 1, 1) := by decide +kernel
theorem dX2_written_1 : decode cX2_written 1 = .ok (.getfield 148, 3) := by decide +kernel
theorem dX2_written_4 : decode cX2_written 4 = .ok (.iload_n 3, 1) := by decide +kernel
theorem dX2_written_5 : decode cX2_written 5 = .ok (.invokevirtual 80, 3) := by decide +kernel
theorem dX2_written_8 : decode cX2_written 8 = .ok (.istore 4, 2) := by decide +kernel
theorem dX2_written_10 : decode cX2_written 10 = .ok (.aload_n 1, 1) := by decide +kernel
theorem dX2_written_11 : decode cX2_written 11 = .ok (.getfield 151, 3) := by decide +kernel
theorem dX2_written_14 : decode cX2_written 14 = .ok (.iload_n 3, 1) := by decide +kernel
theorem dX2_written_15 : decode cX2_written 15 = .ok (.invokevirtual 80, 3) := by decide +kernel
theorem dX2_written_18 : decode cX2_written 18 = .ok (.istore 5, 2) := by decide +kernel
theorem dX2_written_20 : decode cX2_written 20 = .ok (.aload_n 1, 1) := by decide +kernel
theorem dX2_written_21 : decode cX2_written 21 = .ok (.getfield 154, 3) := by decide +kernel
theorem dX2_written_24 : decode cX2_written 24 = .ok (.iload_n 3, 1) := by decide +kernel
theorem dX2_written_25 : decode cX2_written 25 = .ok (.invokevirtual 80, 3) := by decide +kernel
theorem dX2_written_28 : decode cX2_written 28 = .ok (.tableswitch 99 1 4 #[32, 46, 56, 85], 32) := by decide +kernel
theorem dX2_written_60 : decode cX2_written 60 = .ok (.aload_n 0, 1) := by decide +kernel
theorem dX2_written_61 : decode cX2_written 61 = .ok (.aload_n 1, 1) := by decide +kernel
theorem dX2_written_62 : decode cX2_written 62 = .ok (.getfield 121, 3) := by decide +kernel
theorem dX2_written_65 : decode cX2_written 65 = .ok (.aload_n 2, 1) := by decide +kernel
theorem dX2_written_66 : decode cX2_written 66 = .ok (.iload 5, 2) := by decide +kernel
theorem dX2_written_68 : decode cX2_written 68 = .ok (.iload 4, 2) := by decide +kernel
theorem dX2_written_70 : decode cX2_written 70 = .ok (.invokevirtual 157, 3) := by decide +kernel
theorem dX2_written_73 : decode cX2_written 73 = .ok (.ireturn, 1) := by decide +kernel
theorem dX2_written_74 : decode cX2_written 74 = .ok (.aload_n 0, 1) := by decide +kernel
theorem dX2_written_75 : decode cX2_written 75 = .ok (.aload_n 1, 1) := by decide +kernel
theorem dX2_written_76 : decode cX2_written 76 = .ok (.getfield 121, 3) := by decide +kernel
theorem dX2_written_79 : decode cX2_written 79 = .ok (.aload_n 2, 1) := by decide +kernel
theorem dX2_written_80 : decode cX2_written 80 = .ok (.invokevirtual 161, 3) := by decide +kernel
theorem dX2_written_83 : decode cX2_written 83 = .ok (.ireturn, 1) := by decide +kernel
theorem dX2_written_84 : decode cX2_written 84 = .ok (.aload_n 1, 1) := by decide +kernel
theorem dX2_written_85 : decode cX2_written 85 = .ok (.getfield 165, 3) := by decide +kernel
theorem dX2_written_88 : decode cX2_written 88 = .ok (.iconst 2, 1) := by decide +kernel
theorem dX2_written_89 : decode cX2_written 89 = .ok (.irem, 1) := by decide +kernel
theorem dX2_written_90 : decode cX2_written 90 = .ok (.iconst 1, 1) := by decide +kernel
theorem dX2_written_91 : decode cX2_written 91 = .ok (.if_icmp .ne 19, 3) := by decide +kernel
theorem dX2_written_94 : decode cX2_written 94 = .ok (.aload_n 0, 1) := by decide +kernel
theorem dX2_written_95 : decode cX2_written 95 = .ok (.aload_n 1, 1) := by decide +kernel
theorem dX2_written_96 : decode cX2_written 96 = .ok (.getfield 121, 3) := by decide +kernel
theorem dX2_written_99 : decode cX2_written 99 = .ok (.aload_n 2, 1) := by decide +kernel
theorem dX2_written_100 : decode cX2_written 100 = .ok (.iload 5, 2) := by decide +kernel
theorem dX2_written_102 : decode cX2_written 102 = .ok (.iload 4, 2) := by decide +kernel
theorem dX2_written_104 : decode cX2_written 104 = .ok (.invokevirtual 157, 3) := by decide +kernel
theorem dX2_written_107 : decode cX2_written 107 = .ok (.goto 5, 3) := by decide +kernel
theorem dX2_written_110 : decode cX2_written 110 = .ok (.iload 4, 2) := by decide +kernel
theorem dX2_written_112 : decode cX2_written 112 = .ok (.ireturn, 1) := by decide +kernel
theorem dX2_written_113 : decode cX2_written 113 = .ok (.aload_n 0, 1) := by decide +kernel
theorem dX2_written_114 : decode cX2_written 114 = .ok (.aload_n 1, 1) := by decide +kernel
theorem dX2_written_115 : decode cX2_written 115 = .ok (.getfield 121, 3) := by decide +kernel
theorem dX2_written_118 : decode cX2_written 118 = .ok (.aload_n 2, 1) := by decide +kernel
theorem dX2_written_119 : decode cX2_written 119 = .ok (.iload 5, 2) := by decide +kernel
theorem dX2_written_121 : decode cX2_written 121 = .ok (.iload 4, 2) := by decide +kernel
theorem dX2_written_123 : decode cX2_written 123 = .ok (.invokevirtual 168, 3) := by decide +kernel
theorem dX2_written_126 : decode cX2_written 126 = .ok (.ireturn, 1) := by decide +kernel
theorem dX2_written_127 : decode cX2_written 127 = .ok (.iload 4, 2) := by decide +kernel
theorem dX2_written_129 : decode cX2_written 129 = .ok (.ireturn, 1) := by decide +kernel
theorem dX2_meetingMost_0 : decode cX2_meetingMost 0 = .ok (.iconst 0, 1) := by decide +kernel
theorem dX2_meetingMost_1 : decode cX2_meetingMost 1 = .ok (.istore_n 3, 1) := by decide +kernel
theorem dX2_meetingMost_2 : decode cX2_meetingMost 2 = .ok (.iconst (-1), 1) := by decide +kernel
theorem dX2_meetingMost_3 : decode cX2_meetingMost 3 = .ok (.istore 4, 2) := by decide +kernel
theorem dX2_meetingMost_5 : decode cX2_meetingMost 5 = .ok (.bipush 100, 2) := by decide +kernel
theorem dX2_meetingMost_7 : decode cX2_meetingMost 7 = .ok (.istore 5, 2) := by decide +kernel
theorem dX2_meetingMost_9 : decode cX2_meetingMost 9 = .ok (.iconst 0, 1) := by decide +kernel
theorem dX2_meetingMost_10 : decode cX2_meetingMost 10 = .ok (.istore 6, 2) := by decide +kernel
theorem dX2_meetingMost_12 : decode cX2_meetingMost 12 = .ok (.iload 6, 2) := by decide +kernel
theorem dX2_meetingMost_14 : decode cX2_meetingMost 14 = .ok (.getstatic 33, 3) := by decide +kernel
theorem dX2_meetingMost_17 : decode cX2_meetingMost 17 = .ok (.arraylength, 1) := by decide +kernel
theorem dX2_meetingMost_18 : decode cX2_meetingMost 18 = .ok (.if_icmp .ge 93, 3) := by decide +kernel
theorem dX2_meetingMost_21 : decode cX2_meetingMost 21 = .ok (.aload_n 0, 1) := by decide +kernel
theorem dX2_meetingMost_22 : decode cX2_meetingMost 22 = .ok (.getfield 12, 3) := by decide +kernel
theorem dX2_meetingMost_25 : decode cX2_meetingMost 25 = .ok (.aload_n 1, 1) := by decide +kernel
theorem dX2_meetingMost_26 : decode cX2_meetingMost 26 = .ok (.invokevirtual 55, 3) := by decide +kernel
theorem dX2_meetingMost_29 : decode cX2_meetingMost 29 = .ok (.aload_n 2, 1) := by decide +kernel
theorem dX2_meetingMost_30 : decode cX2_meetingMost 30 = .ok (.aload_n 0, 1) := by decide +kernel
theorem dX2_meetingMost_31 : decode cX2_meetingMost 31 = .ok (.getfield 12, 3) := by decide +kernel
theorem dX2_meetingMost_34 : decode cX2_meetingMost 34 = .ok (.getstatic 33, 3) := by decide +kernel
theorem dX2_meetingMost_37 : decode cX2_meetingMost 37 = .ok (.iload 6, 2) := by decide +kernel
theorem dX2_meetingMost_39 : decode cX2_meetingMost 39 = .ok (.iaload, 1) := by decide +kernel
theorem dX2_meetingMost_40 : decode cX2_meetingMost 40 = .ok (.invokevirtual 63, 3) := by decide +kernel
theorem dX2_meetingMost_43 : decode cX2_meetingMost 43 = .ok (.pop, 1) := by decide +kernel
theorem dX2_meetingMost_44 : decode cX2_meetingMost 44 = .ok (.aload_n 1, 1) := by decide +kernel
theorem dX2_meetingMost_45 : decode cX2_meetingMost 45 = .ok (.invokevirtual 83, 3) := by decide +kernel
theorem dX2_meetingMost_48 : decode cX2_meetingMost 48 = .ok (.aload_n 0, 1) := by decide +kernel
theorem dX2_meetingMost_49 : decode cX2_meetingMost 49 = .ok (.getfield 12, 3) := by decide +kernel
theorem dX2_meetingMost_52 : decode cX2_meetingMost 52 = .ok (.invokevirtual 83, 3) := by decide +kernel
theorem dX2_meetingMost_55 : decode cX2_meetingMost 55 = .ok (.isub, 1) := by decide +kernel
theorem dX2_meetingMost_56 : decode cX2_meetingMost 56 = .ok (.istore 7, 2) := by decide +kernel
theorem dX2_meetingMost_58 : decode cX2_meetingMost 58 = .ok (.getstatic 33, 3) := by decide +kernel
theorem dX2_meetingMost_61 : decode cX2_meetingMost 61 = .ok (.iload 6, 2) := by decide +kernel
theorem dX2_meetingMost_63 : decode cX2_meetingMost 63 = .ok (.iaload, 1) := by decide +kernel
theorem dX2_meetingMost_64 : decode cX2_meetingMost 64 = .ok (.invokestatic 37, 3) := by decide +kernel
theorem dX2_meetingMost_67 : decode cX2_meetingMost 67 = .ok (.istore 8, 2) := by decide +kernel
theorem dX2_meetingMost_69 : decode cX2_meetingMost 69 = .ok (.iload 7, 2) := by decide +kernel
theorem dX2_meetingMost_71 : decode cX2_meetingMost 71 = .ok (.iload 4, 2) := by decide +kernel
theorem dX2_meetingMost_73 : decode cX2_meetingMost 73 = .ok (.if_icmp .gt 17, 3) := by decide +kernel
theorem dX2_meetingMost_76 : decode cX2_meetingMost 76 = .ok (.iload 7, 2) := by decide +kernel
theorem dX2_meetingMost_78 : decode cX2_meetingMost 78 = .ok (.iload 4, 2) := by decide +kernel
theorem dX2_meetingMost_80 : decode cX2_meetingMost 80 = .ok (.if_icmp .ne 25, 3) := by decide +kernel
theorem dX2_meetingMost_83 : decode cX2_meetingMost 83 = .ok (.iload 8, 2) := by decide +kernel
theorem dX2_meetingMost_85 : decode cX2_meetingMost 85 = .ok (.iload 5, 2) := by decide +kernel
theorem dX2_meetingMost_87 : decode cX2_meetingMost 87 = .ok (.if_icmp .ge 18, 3) := by decide +kernel
theorem dX2_meetingMost_90 : decode cX2_meetingMost 90 = .ok (.iload 7, 2) := by decide +kernel
theorem dX2_meetingMost_92 : decode cX2_meetingMost 92 = .ok (.istore 4, 2) := by decide +kernel
theorem dX2_meetingMost_94 : decode cX2_meetingMost 94 = .ok (.iload 8, 2) := by decide +kernel
theorem dX2_meetingMost_96 : decode cX2_meetingMost 96 = .ok (.istore 5, 2) := by decide +kernel
theorem dX2_meetingMost_98 : decode cX2_meetingMost 98 = .ok (.getstatic 33, 3) := by decide +kernel
theorem dX2_meetingMost_101 : decode cX2_meetingMost 101 = .ok (.iload 6, 2) := by decide +kernel
theorem dX2_meetingMost_103 : decode cX2_meetingMost 103 = .ok (.iaload, 1) := by decide +kernel
theorem dX2_meetingMost_104 : decode cX2_meetingMost 104 = .ok (.istore_n 3, 1) := by decide +kernel
theorem dX2_meetingMost_105 : decode cX2_meetingMost 105 = .ok (.iinc 6 1, 3) := by decide +kernel
theorem dX2_meetingMost_108 : decode cX2_meetingMost 108 = .ok (.goto (-96), 3) := by decide +kernel
theorem dX2_meetingMost_111 : decode cX2_meetingMost 111 = .ok (.iload_n 3, 1) := by decide +kernel
theorem dX2_meetingMost_112 : decode cX2_meetingMost 112 = .ok (.ireturn, 1) := by decide +kernel
theorem dX2_easing_0 : decode cX2_easing 0 = .ok (.aload_n 0, 1) := by decide +kernel
theorem dX2_easing_1 : decode cX2_easing 1 = .ok (.aload_n 1, 1) := by decide +kernel
theorem dX2_easing_2 : decode cX2_easing 2 = .ok (.aload_n 2, 1) := by decide +kernel
theorem dX2_easing_3 : decode cX2_easing 3 = .ok (.iload_n 3, 1) := by decide +kernel
theorem dX2_easing_4 : decode cX2_easing 4 = .ok (.bipush (-9), 2) := by decide +kernel
theorem dX2_easing_6 : decode cX2_easing 6 = .ok (.invokevirtual 157, 3) := by decide +kernel
theorem dX2_easing_9 : decode cX2_easing 9 = .ok (.istore 5, 2) := by decide +kernel
theorem dX2_easing_11 : decode cX2_easing 11 = .ok (.iload 5, 2) := by decide +kernel
theorem dX2_easing_13 : decode cX2_easing 13 = .ok (.bipush (-9), 2) := by decide +kernel
theorem dX2_easing_15 : decode cX2_easing 15 = .ok (.if_icmp .ne 8, 3) := by decide +kernel
theorem dX2_easing_18 : decode cX2_easing 18 = .ok (.bipush 100, 2) := by decide +kernel
theorem dX2_easing_20 : decode cX2_easing 20 = .ok (.goto 8, 3) := by decide +kernel
theorem dX2_easing_23 : decode cX2_easing 23 = .ok (.iload 5, 2) := by decide +kernel
theorem dX2_easing_25 : decode cX2_easing 25 = .ok (.invokestatic 37, 3) := by decide +kernel
theorem dX2_easing_28 : decode cX2_easing 28 = .ok (.istore 6, 2) := by decide +kernel
theorem dX2_easing_30 : decode cX2_easing 30 = .ok (.iload 5, 2) := by decide +kernel
theorem dX2_easing_32 : decode cX2_easing 32 = .ok (.bipush (-9), 2) := by decide +kernel
theorem dX2_easing_34 : decode cX2_easing 34 = .ok (.if_icmp .ne 8, 3) := by decide +kernel
theorem dX2_easing_37 : decode cX2_easing 37 = .ok (.iload 4, 2) := by decide +kernel
theorem dX2_easing_39 : decode cX2_easing 39 = .ok (.goto 5, 3) := by decide +kernel
theorem dX2_easing_42 : decode cX2_easing 42 = .ok (.iload 5, 2) := by decide +kernel
theorem dX2_easing_44 : decode cX2_easing 44 = .ok (.istore 7, 2) := by decide +kernel
theorem dX2_easing_46 : decode cX2_easing 46 = .ok (.bipush 100, 2) := by decide +kernel
theorem dX2_easing_48 : decode cX2_easing 48 = .ok (.istore 8, 2) := by decide +kernel
theorem dX2_easing_50 : decode cX2_easing 50 = .ok (.iconst 0, 1) := by decide +kernel
theorem dX2_easing_51 : decode cX2_easing 51 = .ok (.istore 9, 2) := by decide +kernel
theorem dX2_easing_53 : decode cX2_easing 53 = .ok (.iload 9, 2) := by decide +kernel
theorem dX2_easing_55 : decode cX2_easing 55 = .ok (.getstatic 33, 3) := by decide +kernel
theorem dX2_easing_58 : decode cX2_easing 58 = .ok (.arraylength, 1) := by decide +kernel
theorem dX2_easing_59 : decode cX2_easing 59 = .ok (.if_icmp .ge 93, 3) := by decide +kernel
theorem dX2_easing_62 : decode cX2_easing 62 = .ok (.getstatic 33, 3) := by decide +kernel
theorem dX2_easing_65 : decode cX2_easing 65 = .ok (.iload 9, 2) := by decide +kernel
theorem dX2_easing_67 : decode cX2_easing 67 = .ok (.iaload, 1) := by decide +kernel
theorem dX2_easing_68 : decode cX2_easing 68 = .ok (.invokestatic 37, 3) := by decide +kernel
theorem dX2_easing_71 : decode cX2_easing 71 = .ok (.istore 10, 2) := by decide +kernel
theorem dX2_easing_73 : decode cX2_easing 73 = .ok (.iload 10, 2) := by decide +kernel
theorem dX2_easing_75 : decode cX2_easing 75 = .ok (.iload 8, 2) := by decide +kernel
theorem dX2_easing_77 : decode cX2_easing 77 = .ok (.if_icmp .ge 69, 3) := by decide +kernel
theorem dX2_easing_80 : decode cX2_easing 80 = .ok (.aload_n 0, 1) := by decide +kernel
theorem dX2_easing_81 : decode cX2_easing 81 = .ok (.getfield 12, 3) := by decide +kernel
theorem dX2_easing_84 : decode cX2_easing 84 = .ok (.aload_n 1, 1) := by decide +kernel
theorem dX2_easing_85 : decode cX2_easing 85 = .ok (.invokevirtual 55, 3) := by decide +kernel
theorem dX2_easing_88 : decode cX2_easing 88 = .ok (.aload_n 2, 1) := by decide +kernel
theorem dX2_easing_89 : decode cX2_easing 89 = .ok (.aload_n 0, 1) := by decide +kernel
theorem dX2_easing_90 : decode cX2_easing 90 = .ok (.getfield 12, 3) := by decide +kernel
theorem dX2_easing_93 : decode cX2_easing 93 = .ok (.getstatic 33, 3) := by decide +kernel
theorem dX2_easing_96 : decode cX2_easing 96 = .ok (.iload 9, 2) := by decide +kernel
theorem dX2_easing_98 : decode cX2_easing 98 = .ok (.iaload, 1) := by decide +kernel
theorem dX2_easing_99 : decode cX2_easing 99 = .ok (.invokevirtual 63, 3) := by decide +kernel
theorem dX2_easing_102 : decode cX2_easing 102 = .ok (.pop, 1) := by decide +kernel
theorem dX2_easing_103 : decode cX2_easing 103 = .ok (.aload_n 0, 1) := by decide +kernel
theorem dX2_easing_104 : decode cX2_easing 104 = .ok (.aload_n 0, 1) := by decide +kernel
theorem dX2_easing_105 : decode cX2_easing 105 = .ok (.getfield 12, 3) := by decide +kernel
theorem dX2_easing_108 : decode cX2_easing 108 = .ok (.aload_n 2, 1) := by decide +kernel
theorem dX2_easing_109 : decode cX2_easing 109 = .ok (.iload_n 3, 1) := by decide +kernel
theorem dX2_easing_110 : decode cX2_easing 110 = .ok (.bipush (-9), 2) := by decide +kernel
theorem dX2_easing_112 : decode cX2_easing 112 = .ok (.invokevirtual 157, 3) := by decide +kernel
theorem dX2_easing_115 : decode cX2_easing 115 = .ok (.istore 11, 2) := by decide +kernel
theorem dX2_easing_117 : decode cX2_easing 117 = .ok (.iload 11, 2) := by decide +kernel
theorem dX2_easing_119 : decode cX2_easing 119 = .ok (.bipush (-9), 2) := by decide +kernel
theorem dX2_easing_121 : decode cX2_easing 121 = .ok (.if_icmp .eq 25, 3) := by decide +kernel
theorem dX2_easing_124 : decode cX2_easing 124 = .ok (.iload 11, 2) := by decide +kernel
theorem dX2_easing_126 : decode cX2_easing 126 = .ok (.invokestatic 37, 3) := by decide +kernel
theorem dX2_easing_129 : decode cX2_easing 129 = .ok (.iload 6, 2) := by decide +kernel
theorem dX2_easing_131 : decode cX2_easing 131 = .ok (.if_icmp .ge 15, 3) := by decide +kernel
theorem dX2_easing_134 : decode cX2_easing 134 = .ok (.iload 10, 2) := by decide +kernel
theorem dX2_easing_136 : decode cX2_easing 136 = .ok (.istore 8, 2) := by decide +kernel
theorem dX2_easing_138 : decode cX2_easing 138 = .ok (.getstatic 33, 3) := by decide +kernel
theorem dX2_easing_141 : decode cX2_easing 141 = .ok (.iload 9, 2) := by decide +kernel
theorem dX2_easing_143 : decode cX2_easing 143 = .ok (.iaload, 1) := by decide +kernel
theorem dX2_easing_144 : decode cX2_easing 144 = .ok (.istore 7, 2) := by decide +kernel
theorem dX2_easing_146 : decode cX2_easing 146 = .ok (.iinc 9 1, 3) := by decide +kernel
theorem dX2_easing_149 : decode cX2_easing 149 = .ok (.goto (-96), 3) := by decide +kernel
theorem dX2_easing_152 : decode cX2_easing 152 = .ok (.iload 7, 2) := by decide +kernel
theorem dX2_easing_154 : decode cX2_easing 154 = .ok (.ireturn, 1) := by decide +kernel
theorem dX2_roundsOfTwo_0 : decode cX2_roundsOfTwo 0 = .ok (.aload_n 1, 1) := by decide +kernel
theorem dX2_roundsOfTwo_1 : decode cX2_roundsOfTwo 1 = .ok (.getfield 148, 3) := by decide +kernel
theorem dX2_roundsOfTwo_4 : decode cX2_roundsOfTwo 4 = .ok (.iload_n 3, 1) := by decide +kernel
theorem dX2_roundsOfTwo_5 : decode cX2_roundsOfTwo 5 = .ok (.invokevirtual 80, 3) := by decide +kernel
theorem dX2_roundsOfTwo_8 : decode cX2_roundsOfTwo 8 = .ok (.istore 5, 2) := by decide +kernel
theorem dX2_roundsOfTwo_10 : decode cX2_roundsOfTwo 10 = .ok (.aload_n 1, 1) := by decide +kernel
theorem dX2_roundsOfTwo_11 : decode cX2_roundsOfTwo 11 = .ok (.getfield 148, 3) := by decide +kernel
theorem dX2_roundsOfTwo_14 : decode cX2_roundsOfTwo 14 = .ok (.iload 4, 2) := by decide +kernel
theorem dX2_roundsOfTwo_16 : decode cX2_roundsOfTwo 16 = .ok (.invokevirtual 80, 3) := by decide +kernel
theorem dX2_roundsOfTwo_19 : decode cX2_roundsOfTwo 19 = .ok (.istore 6, 2) := by decide +kernel
theorem dX2_roundsOfTwo_21 : decode cX2_roundsOfTwo 21 = .ok (.iconst 1, 1) := by decide +kernel
theorem dX2_roundsOfTwo_22 : decode cX2_roundsOfTwo 22 = .ok (.istore 7, 2) := by decide +kernel
theorem dX2_roundsOfTwo_24 : decode cX2_roundsOfTwo 24 = .ok (.iload 7, 2) := by decide +kernel
theorem dX2_roundsOfTwo_26 : decode cX2_roundsOfTwo 26 = .ok (.bipush 10, 2) := by decide +kernel
theorem dX2_roundsOfTwo_28 : decode cX2_roundsOfTwo 28 = .ok (.if_icmp .gt 57, 3) := by decide +kernel
theorem dX2_roundsOfTwo_31 : decode cX2_roundsOfTwo 31 = .ok (.aload_n 0, 1) := by decide +kernel
theorem dX2_roundsOfTwo_32 : decode cX2_roundsOfTwo 32 = .ok (.aload_n 1, 1) := by decide +kernel
theorem dX2_roundsOfTwo_33 : decode cX2_roundsOfTwo 33 = .ok (.aload_n 2, 1) := by decide +kernel
theorem dX2_roundsOfTwo_34 : decode cX2_roundsOfTwo 34 = .ok (.iload_n 3, 1) := by decide +kernel
theorem dX2_roundsOfTwo_35 : decode cX2_roundsOfTwo 35 = .ok (.iload 6, 2) := by decide +kernel
theorem dX2_roundsOfTwo_37 : decode cX2_roundsOfTwo 37 = .ok (.invokevirtual 171, 3) := by decide +kernel
theorem dX2_roundsOfTwo_40 : decode cX2_roundsOfTwo 40 = .ok (.istore 8, 2) := by decide +kernel
theorem dX2_roundsOfTwo_42 : decode cX2_roundsOfTwo 42 = .ok (.aload_n 0, 1) := by decide +kernel
theorem dX2_roundsOfTwo_43 : decode cX2_roundsOfTwo 43 = .ok (.aload_n 1, 1) := by decide +kernel
theorem dX2_roundsOfTwo_44 : decode cX2_roundsOfTwo 44 = .ok (.aload_n 2, 1) := by decide +kernel
theorem dX2_roundsOfTwo_45 : decode cX2_roundsOfTwo 45 = .ok (.iload 4, 2) := by decide +kernel
theorem dX2_roundsOfTwo_47 : decode cX2_roundsOfTwo 47 = .ok (.iload 8, 2) := by decide +kernel
theorem dX2_roundsOfTwo_49 : decode cX2_roundsOfTwo 49 = .ok (.invokevirtual 171, 3) := by decide +kernel
theorem dX2_roundsOfTwo_52 : decode cX2_roundsOfTwo 52 = .ok (.istore 9, 2) := by decide +kernel
theorem dX2_roundsOfTwo_54 : decode cX2_roundsOfTwo 54 = .ok (.iload 8, 2) := by decide +kernel
theorem dX2_roundsOfTwo_56 : decode cX2_roundsOfTwo 56 = .ok (.iload 5, 2) := by decide +kernel
theorem dX2_roundsOfTwo_58 : decode cX2_roundsOfTwo 58 = .ok (.if_icmp .ne 13, 3) := by decide +kernel
theorem dX2_roundsOfTwo_61 : decode cX2_roundsOfTwo 61 = .ok (.iload 9, 2) := by decide +kernel
theorem dX2_roundsOfTwo_63 : decode cX2_roundsOfTwo 63 = .ok (.iload 6, 2) := by decide +kernel
theorem dX2_roundsOfTwo_65 : decode cX2_roundsOfTwo 65 = .ok (.if_icmp .ne 6, 3) := by decide +kernel
theorem dX2_roundsOfTwo_68 : decode cX2_roundsOfTwo 68 = .ok (.iload 7, 2) := by decide +kernel
theorem dX2_roundsOfTwo_70 : decode cX2_roundsOfTwo 70 = .ok (.ireturn, 1) := by decide +kernel
theorem dX2_roundsOfTwo_71 : decode cX2_roundsOfTwo 71 = .ok (.iload 8, 2) := by decide +kernel
theorem dX2_roundsOfTwo_73 : decode cX2_roundsOfTwo 73 = .ok (.istore 5, 2) := by decide +kernel
theorem dX2_roundsOfTwo_75 : decode cX2_roundsOfTwo 75 = .ok (.iload 9, 2) := by decide +kernel
theorem dX2_roundsOfTwo_77 : decode cX2_roundsOfTwo 77 = .ok (.istore 6, 2) := by decide +kernel
theorem dX2_roundsOfTwo_79 : decode cX2_roundsOfTwo 79 = .ok (.iinc 7 1, 3) := by decide +kernel
theorem dX2_roundsOfTwo_82 : decode cX2_roundsOfTwo 82 = .ok (.goto (-58), 3) := by decide +kernel
theorem dX2_roundsOfTwo_85 : decode cX2_roundsOfTwo 85 = .ok (.bipush (-9), 2) := by decide +kernel
theorem dX2_roundsOfTwo_87 : decode cX2_roundsOfTwo 87 = .ok (.ireturn, 1) := by decide +kernel
theorem dX2_aimedBehind_0 : decode cX2_aimedBehind 0 = .ok (.aload_n 0, 1) := by decide +kernel
theorem dX2_aimedBehind_1 : decode cX2_aimedBehind 1 = .ok (.getfield 12, 3) := by decide +kernel
theorem dX2_aimedBehind_4 : decode cX2_aimedBehind 4 = .ok (.aload_n 1, 1) := by decide +kernel
theorem dX2_aimedBehind_5 : decode cX2_aimedBehind 5 = .ok (.getfield 121, 3) := by decide +kernel
theorem dX2_aimedBehind_8 : decode cX2_aimedBehind 8 = .ok (.invokevirtual 55, 3) := by decide +kernel
theorem dX2_aimedBehind_11 : decode cX2_aimedBehind 11 = .ok (.aload_n 2, 1) := by decide +kernel
theorem dX2_aimedBehind_12 : decode cX2_aimedBehind 12 = .ok (.aload_n 0, 1) := by decide +kernel
theorem dX2_aimedBehind_13 : decode cX2_aimedBehind 13 = .ok (.getfield 12, 3) := by decide +kernel
theorem dX2_aimedBehind_16 : decode cX2_aimedBehind 16 = .ok (.iload 4, 2) := by decide +kernel
theorem dX2_aimedBehind_18 : decode cX2_aimedBehind 18 = .ok (.invokevirtual 63, 3) := by decide +kernel
theorem dX2_aimedBehind_21 : decode cX2_aimedBehind 21 = .ok (.pop, 1) := by decide +kernel
theorem dX2_aimedBehind_22 : decode cX2_aimedBehind 22 = .ok (.aload_n 0, 1) := by decide +kernel
theorem dX2_aimedBehind_23 : decode cX2_aimedBehind 23 = .ok (.aload_n 0, 1) := by decide +kernel
theorem dX2_aimedBehind_24 : decode cX2_aimedBehind 24 = .ok (.getfield 12, 3) := by decide +kernel
theorem dX2_aimedBehind_27 : decode cX2_aimedBehind 27 = .ok (.aload_n 2, 1) := by decide +kernel
theorem dX2_aimedBehind_28 : decode cX2_aimedBehind 28 = .ok (.aload_n 1, 1) := by decide +kernel
theorem dX2_aimedBehind_29 : decode cX2_aimedBehind 29 = .ok (.getfield 151, 3) := by decide +kernel
theorem dX2_aimedBehind_32 : decode cX2_aimedBehind 32 = .ok (.iload_n 3, 1) := by decide +kernel
theorem dX2_aimedBehind_33 : decode cX2_aimedBehind 33 = .ok (.invokevirtual 80, 3) := by decide +kernel
theorem dX2_aimedBehind_36 : decode cX2_aimedBehind 36 = .ok (.aload_n 1, 1) := by decide +kernel
theorem dX2_aimedBehind_37 : decode cX2_aimedBehind 37 = .ok (.getfield 148, 3) := by decide +kernel
theorem dX2_aimedBehind_40 : decode cX2_aimedBehind 40 = .ok (.iload_n 3, 1) := by decide +kernel
theorem dX2_aimedBehind_41 : decode cX2_aimedBehind 41 = .ok (.invokevirtual 80, 3) := by decide +kernel
theorem dX2_aimedBehind_44 : decode cX2_aimedBehind 44 = .ok (.invokevirtual 157, 3) := by decide +kernel
theorem dX2_aimedBehind_47 : decode cX2_aimedBehind 47 = .ok (.ireturn, 1) := by decide +kernel
theorem dX2_needBehindDays_0 : decode cX2_needBehindDays 0 = .ok (.aload_n 0, 1) := by decide +kernel
theorem dX2_needBehindDays_1 : decode cX2_needBehindDays 1 = .ok (.getfield 12, 3) := by decide +kernel
theorem dX2_needBehindDays_4 : decode cX2_needBehindDays 4 = .ok (.aload_n 1, 1) := by decide +kernel
theorem dX2_needBehindDays_5 : decode cX2_needBehindDays 5 = .ok (.invokevirtual 55, 3) := by decide +kernel
theorem dX2_needBehindDays_8 : decode cX2_needBehindDays 8 = .ok (.aload_n 0, 1) := by decide +kernel
theorem dX2_needBehindDays_9 : decode cX2_needBehindDays 9 = .ok (.iload 4, 2) := by decide +kernel
theorem dX2_needBehindDays_11 : decode cX2_needBehindDays 11 = .ok (.putfield 175, 3) := by decide +kernel
theorem dX2_needBehindDays_14 : decode cX2_needBehindDays 14 = .ok (.iconst 0, 1) := by decide +kernel
theorem dX2_needBehindDays_15 : decode cX2_needBehindDays 15 = .ok (.istore 5, 2) := by decide +kernel
theorem dX2_needBehindDays_17 : decode cX2_needBehindDays 17 = .ok (.iload 5, 2) := by decide +kernel
theorem dX2_needBehindDays_19 : decode cX2_needBehindDays 19 = .ok (.iload_n 3, 1) := by decide +kernel
theorem dX2_needBehindDays_20 : decode cX2_needBehindDays 20 = .ok (.if_icmp .ge 62, 3) := by decide +kernel
theorem dX2_needBehindDays_23 : decode cX2_needBehindDays 23 = .ok (.iconst 0, 1) := by decide +kernel
theorem dX2_needBehindDays_24 : decode cX2_needBehindDays 24 = .ok (.istore 6, 2) := by decide +kernel
theorem dX2_needBehindDays_26 : decode cX2_needBehindDays 26 = .ok (.iconst 0, 1) := by decide +kernel
theorem dX2_needBehindDays_27 : decode cX2_needBehindDays 27 = .ok (.istore 7, 2) := by decide +kernel
theorem dX2_needBehindDays_29 : decode cX2_needBehindDays 29 = .ok (.iload 7, 2) := by decide +kernel
theorem dX2_needBehindDays_31 : decode cX2_needBehindDays 31 = .ok (.iconst 4, 1) := by decide +kernel
theorem dX2_needBehindDays_32 : decode cX2_needBehindDays 32 = .ok (.if_icmp .ge 26, 3) := by decide +kernel
theorem dX2_needBehindDays_35 : decode cX2_needBehindDays 35 = .ok (.iload 6, 2) := by decide +kernel
theorem dX2_needBehindDays_37 : decode cX2_needBehindDays 37 = .ok (.aload_n 0, 1) := by decide +kernel
theorem dX2_needBehindDays_38 : decode cX2_needBehindDays 38 = .ok (.iconst 3, 1) := by decide +kernel
theorem dX2_needBehindDays_39 : decode cX2_needBehindDays 39 = .ok (.invokevirtual 178, 3) := by decide +kernel
theorem dX2_needBehindDays_42 : decode cX2_needBehindDays 42 = .ok (.getstatic 181, 3) := by decide +kernel
theorem dX2_needBehindDays_45 : decode cX2_needBehindDays 45 = .ok (.iload 7, 2) := by decide +kernel
theorem dX2_needBehindDays_47 : decode cX2_needBehindDays 47 = .ok (.iaload, 1) := by decide +kernel
theorem dX2_needBehindDays_48 : decode cX2_needBehindDays 48 = .ok (.imul, 1) := by decide +kernel
theorem dX2_needBehindDays_49 : decode cX2_needBehindDays 49 = .ok (.iadd, 1) := by decide +kernel
theorem dX2_needBehindDays_50 : decode cX2_needBehindDays 50 = .ok (.istore 6, 2) := by decide +kernel
theorem dX2_needBehindDays_52 : decode cX2_needBehindDays 52 = .ok (.iinc 7 1, 3) := by decide +kernel
theorem dX2_needBehindDays_55 : decode cX2_needBehindDays 55 = .ok (.goto (-26), 3) := by decide +kernel
theorem dX2_needBehindDays_58 : decode cX2_needBehindDays 58 = .ok (.aload_n 2, 1) := by decide +kernel
theorem dX2_needBehindDays_59 : decode cX2_needBehindDays 59 = .ok (.aload_n 0, 1) := by decide +kernel
theorem dX2_needBehindDays_60 : decode cX2_needBehindDays 60 = .ok (.getfield 12, 3) := by decide +kernel
theorem dX2_needBehindDays_63 : decode cX2_needBehindDays 63 = .ok (.iload 6, 2) := by decide +kernel
theorem dX2_needBehindDays_65 : decode cX2_needBehindDays 65 = .ok (.invokevirtual 63, 3) := by decide +kernel
theorem dX2_needBehindDays_68 : decode cX2_needBehindDays 68 = .ok (.pop, 1) := by decide +kernel
theorem dX2_needBehindDays_69 : decode cX2_needBehindDays 69 = .ok (.aload_n 0, 1) := by decide +kernel
theorem dX2_needBehindDays_70 : decode cX2_needBehindDays 70 = .ok (.getfield 12, 3) := by decide +kernel
theorem dX2_needBehindDays_73 : decode cX2_needBehindDays 73 = .ok (.invokevirtual 184, 3) := by decide +kernel
theorem dX2_needBehindDays_76 : decode cX2_needBehindDays 76 = .ok (.iinc 5 1, 3) := by decide +kernel
theorem dX2_needBehindDays_79 : decode cX2_needBehindDays 79 = .ok (.goto (-62), 3) := by decide +kernel
theorem dX2_needBehindDays_82 : decode cX2_needBehindDays 82 = .ok (.aload_n 0, 1) := by decide +kernel
theorem dX2_needBehindDays_83 : decode cX2_needBehindDays 83 = .ok (.getfield 12, 3) := by decide +kernel
theorem dX2_needBehindDays_86 : decode cX2_needBehindDays 86 = .ok (.invokevirtual 83, 3) := by decide +kernel
theorem dX2_needBehindDays_89 : decode cX2_needBehindDays 89 = .ok (.ireturn, 1) := by decide +kernel
theorem dX2_drawBelow_0 : decode cX2_drawBelow 0 = .ok (.aload_n 0, 1) := by decide +kernel
theorem dX2_drawBelow_1 : decode cX2_drawBelow 1 = .ok (.aload_n 0, 1) := by decide +kernel
theorem dX2_drawBelow_2 : decode cX2_drawBelow 2 = .ok (.getfield 175, 3) := by decide +kernel
theorem dX2_drawBelow_5 : decode cX2_drawBelow 5 = .ok (.ldc 187, 2) := by decide +kernel
theorem dX2_drawBelow_7 : decode cX2_drawBelow 7 = .ok (.imul, 1) := by decide +kernel
theorem dX2_drawBelow_8 : decode cX2_drawBelow 8 = .ok (.ldc 188, 2) := by decide +kernel
theorem dX2_drawBelow_10 : decode cX2_drawBelow 10 = .ok (.iadd, 1) := by decide +kernel
theorem dX2_drawBelow_11 : decode cX2_drawBelow 11 = .ok (.putfield 175, 3) := by decide +kernel
theorem dX2_drawBelow_14 : decode cX2_drawBelow 14 = .ok (.iload_n 1, 1) := by decide +kernel
theorem dX2_drawBelow_15 : decode cX2_drawBelow 15 = .ok (.ifCond .le 19, 3) := by decide +kernel
theorem dX2_drawBelow_18 : decode cX2_drawBelow 18 = .ok (.aload_n 0, 1) := by decide +kernel
theorem dX2_drawBelow_19 : decode cX2_drawBelow 19 = .ok (.getfield 175, 3) := by decide +kernel
theorem dX2_drawBelow_22 : decode cX2_drawBelow 22 = .ok (.ldc 189, 2) := by decide +kernel
theorem dX2_drawBelow_24 : decode cX2_drawBelow 24 = .ok (.iand, 1) := by decide +kernel
theorem dX2_drawBelow_25 : decode cX2_drawBelow 25 = .ok (.sipush 256, 3) := by decide +kernel
theorem dX2_drawBelow_28 : decode cX2_drawBelow 28 = .ok (.idiv, 1) := by decide +kernel
theorem dX2_drawBelow_29 : decode cX2_drawBelow 29 = .ok (.iload_n 1, 1) := by decide +kernel
theorem dX2_drawBelow_30 : decode cX2_drawBelow 30 = .ok (.irem, 1) := by decide +kernel
theorem dX2_drawBelow_31 : decode cX2_drawBelow 31 = .ok (.goto 4, 3) := by decide +kernel
theorem dX2_drawBelow_34 : decode cX2_drawBelow 34 = .ok (.iconst 0, 1) := by decide +kernel
theorem dX2_drawBelow_35 : decode cX2_drawBelow 35 = .ok (.ireturn, 1) := by decide +kernel
theorem dX2_firstNotSo_0 : decode cX2_firstNotSo 0 = .ok (.aload_n 0, 1) := by decide +kernel
theorem dX2_firstNotSo_1 : decode cX2_firstNotSo 1 = .ok (.getfield 12, 3) := by decide +kernel
theorem dX2_firstNotSo_4 : decode cX2_firstNotSo 4 = .ok (.aload_n 1, 1) := by decide +kernel
theorem dX2_firstNotSo_5 : decode cX2_firstNotSo 5 = .ok (.invokevirtual 55, 3) := by decide +kernel
theorem dX2_firstNotSo_8 : decode cX2_firstNotSo 8 = .ok (.iconst 0, 1) := by decide +kernel
theorem dX2_firstNotSo_9 : decode cX2_firstNotSo 9 = .ok (.istore 5, 2) := by decide +kernel
theorem dX2_firstNotSo_11 : decode cX2_firstNotSo 11 = .ok (.iload 5, 2) := by decide +kernel
theorem dX2_firstNotSo_13 : decode cX2_firstNotSo 13 = .ok (.aload_n 3, 1) := by decide +kernel
theorem dX2_firstNotSo_14 : decode cX2_firstNotSo 14 = .ok (.getfield 79, 3) := by decide +kernel
theorem dX2_firstNotSo_17 : decode cX2_firstNotSo 17 = .ok (.if_icmp .ge 52, 3) := by decide +kernel
theorem dX2_firstNotSo_20 : decode cX2_firstNotSo 20 = .ok (.aload_n 2, 1) := by decide +kernel
theorem dX2_firstNotSo_21 : decode cX2_firstNotSo 21 = .ok (.aload_n 0, 1) := by decide +kernel
theorem dX2_firstNotSo_22 : decode cX2_firstNotSo 22 = .ok (.getfield 12, 3) := by decide +kernel
theorem dX2_firstNotSo_25 : decode cX2_firstNotSo 25 = .ok (.aload_n 3, 1) := by decide +kernel
theorem dX2_firstNotSo_26 : decode cX2_firstNotSo 26 = .ok (.iload 5, 2) := by decide +kernel
theorem dX2_firstNotSo_28 : decode cX2_firstNotSo 28 = .ok (.invokevirtual 80, 3) := by decide +kernel
theorem dX2_firstNotSo_31 : decode cX2_firstNotSo 31 = .ok (.invokevirtual 63, 3) := by decide +kernel
theorem dX2_firstNotSo_34 : decode cX2_firstNotSo 34 = .ok (.istore 6, 2) := by decide +kernel
theorem dX2_firstNotSo_36 : decode cX2_firstNotSo 36 = .ok (.aload 4, 2) := by decide +kernel
theorem dX2_firstNotSo_38 : decode cX2_firstNotSo 38 = .ok (.iload 5, 2) := by decide +kernel
theorem dX2_firstNotSo_40 : decode cX2_firstNotSo 40 = .ok (.invokevirtual 80, 3) := by decide +kernel
theorem dX2_firstNotSo_43 : decode cX2_firstNotSo 43 = .ok (.iload 6, 2) := by decide +kernel
theorem dX2_firstNotSo_45 : decode cX2_firstNotSo 45 = .ok (.bipush (-9), 2) := by decide +kernel
theorem dX2_firstNotSo_47 : decode cX2_firstNotSo 47 = .ok (.if_icmp .ne 8, 3) := by decide +kernel
theorem dX2_firstNotSo_50 : decode cX2_firstNotSo 50 = .ok (.bipush 9, 2) := by decide +kernel
theorem dX2_firstNotSo_52 : decode cX2_firstNotSo 52 = .ok (.goto 5, 3) := by decide +kernel
theorem dX2_firstNotSo_55 : decode cX2_firstNotSo 55 = .ok (.iload 6, 2) := by decide +kernel
theorem dX2_firstNotSo_57 : decode cX2_firstNotSo 57 = .ok (.if_icmp .eq 6, 3) := by decide +kernel
theorem dX2_firstNotSo_60 : decode cX2_firstNotSo 60 = .ok (.iload 5, 2) := by decide +kernel
theorem dX2_firstNotSo_62 : decode cX2_firstNotSo 62 = .ok (.ireturn, 1) := by decide +kernel
theorem dX2_firstNotSo_63 : decode cX2_firstNotSo 63 = .ok (.iinc 5 1, 3) := by decide +kernel
theorem dX2_firstNotSo_66 : decode cX2_firstNotSo 66 = .ok (.goto (-55), 3) := by decide +kernel
theorem dX2_firstNotSo_69 : decode cX2_firstNotSo 69 = .ok (.aload 4, 2) := by decide +kernel
theorem dX2_firstNotSo_71 : decode cX2_firstNotSo 71 = .ok (.getfield 79, 3) := by decide +kernel
theorem dX2_firstNotSo_74 : decode cX2_firstNotSo 74 = .ok (.aload_n 3, 1) := by decide +kernel
theorem dX2_firstNotSo_75 : decode cX2_firstNotSo 75 = .ok (.getfield 79, 3) := by decide +kernel
theorem dX2_firstNotSo_78 : decode cX2_firstNotSo 78 = .ok (.if_icmp .le 10, 3) := by decide +kernel
theorem dX2_firstNotSo_81 : decode cX2_firstNotSo 81 = .ok (.aload_n 3, 1) := by decide +kernel
theorem dX2_firstNotSo_82 : decode cX2_firstNotSo 82 = .ok (.getfield 79, 3) := by decide +kernel
theorem dX2_firstNotSo_85 : decode cX2_firstNotSo 85 = .ok (.goto 5, 3) := by decide +kernel
theorem dX2_firstNotSo_88 : decode cX2_firstNotSo 88 = .ok (.bipush (-9), 2) := by decide +kernel
theorem dX2_firstNotSo_90 : decode cX2_firstNotSo 90 = .ok (.ireturn, 1) := by decide +kernel
theorem dX3_init_0 : decode cX3_init 0 = .ok (.aload_n 0, 1) := by decide +kernel
theorem dX3_init_1 : decode cX3_init 1 = .ok (.iconst 0, 1) := by decide +kernel
theorem dX3_init_2 : decode cX3_init 2 = .ok (.invokespecial 3, 3) := by decide +kernel
theorem dX3_init_5 : decode cX3_init 5 = .ok (.return_, 1) := by decide +kernel
theorem dX3_scoreOf_0 : decode cX3_scoreOf 0 = .ok (.iconst 0, 1) := by decide +kernel
theorem dX3_scoreOf_1 : decode cX3_scoreOf 1 = .ok (.istore 4, 2) := by decide +kernel
theorem dX3_scoreOf_3 : decode cX3_scoreOf 3 = .ok (.iload_n 2, 1) := by decide +kernel
theorem dX3_scoreOf_4 : decode cX3_scoreOf 4 = .ok (.iconst 4, 1) := by decide +kernel
theorem dX3_scoreOf_5 : decode cX3_scoreOf 5 = .ok (.imul, 1) := by decide +kernel
theorem dX3_scoreOf_6 : decode cX3_scoreOf 6 = .ok (.istore 5, 2) := by decide +kernel
theorem dX3_scoreOf_8 : decode cX3_scoreOf 8 = .ok (.iload_n 3, 1) := by decide +kernel
theorem dX3_scoreOf_9 : decode cX3_scoreOf 9 = .ok (.istore 6, 2) := by decide +kernel
theorem dX3_scoreOf_11 : decode cX3_scoreOf 11 = .ok (.iload 6, 2) := by decide +kernel
theorem dX3_scoreOf_13 : decode cX3_scoreOf 13 = .ok (.ifCond .le 60, 3) := by decide +kernel
theorem dX3_scoreOf_16 : decode cX3_scoreOf 16 = .ok (.iload 5, 2) := by decide +kernel
theorem dX3_scoreOf_18 : decode cX3_scoreOf 18 = .ok (.ifCond .lt 55, 3) := by decide +kernel
theorem dX3_scoreOf_21 : decode cX3_scoreOf 21 = .ok (.iload 5, 2) := by decide +kernel
theorem dX3_scoreOf_23 : decode cX3_scoreOf 23 = .ok (.aload_n 1, 1) := by decide +kernel
theorem dX3_scoreOf_24 : decode cX3_scoreOf 24 = .ok (.getfield 9, 3) := by decide +kernel
theorem dX3_scoreOf_27 : decode cX3_scoreOf 27 = .ok (.arraylength, 1) := by decide +kernel
theorem dX3_scoreOf_28 : decode cX3_scoreOf 28 = .ok (.if_icmp .ge 45, 3) := by decide +kernel
theorem dX3_scoreOf_31 : decode cX3_scoreOf 31 = .ok (.iload 6, 2) := by decide +kernel
theorem dX3_scoreOf_33 : decode cX3_scoreOf 33 = .ok (.bipush 10, 2) := by decide +kernel
theorem dX3_scoreOf_35 : decode cX3_scoreOf 35 = .ok (.irem, 1) := by decide +kernel
theorem dX3_scoreOf_36 : decode cX3_scoreOf 36 = .ok (.ifCond .le 24, 3) := by decide +kernel
theorem dX3_scoreOf_39 : decode cX3_scoreOf 39 = .ok (.aload_n 1, 1) := by decide +kernel
theorem dX3_scoreOf_40 : decode cX3_scoreOf 40 = .ok (.getfield 9, 3) := by decide +kernel
theorem dX3_scoreOf_43 : decode cX3_scoreOf 43 = .ok (.iload 5, 2) := by decide +kernel
theorem dX3_scoreOf_45 : decode cX3_scoreOf 45 = .ok (.iaload, 1) := by decide +kernel
theorem dX3_scoreOf_46 : decode cX3_scoreOf 46 = .ok (.iload 4, 2) := by decide +kernel
theorem dX3_scoreOf_48 : decode cX3_scoreOf 48 = .ok (.if_icmp .le 12, 3) := by decide +kernel
theorem dX3_scoreOf_51 : decode cX3_scoreOf 51 = .ok (.aload_n 1, 1) := by decide +kernel
theorem dX3_scoreOf_52 : decode cX3_scoreOf 52 = .ok (.getfield 9, 3) := by decide +kernel
theorem dX3_scoreOf_55 : decode cX3_scoreOf 55 = .ok (.iload 5, 2) := by decide +kernel
theorem dX3_scoreOf_57 : decode cX3_scoreOf 57 = .ok (.iaload, 1) := by decide +kernel
theorem dX3_scoreOf_58 : decode cX3_scoreOf 58 = .ok (.istore 4, 2) := by decide +kernel
theorem dX3_scoreOf_60 : decode cX3_scoreOf 60 = .ok (.iinc 5 1, 3) := by decide +kernel
theorem dX3_scoreOf_63 : decode cX3_scoreOf 63 = .ok (.iload 6, 2) := by decide +kernel
theorem dX3_scoreOf_65 : decode cX3_scoreOf 65 = .ok (.bipush 10, 2) := by decide +kernel
theorem dX3_scoreOf_67 : decode cX3_scoreOf 67 = .ok (.idiv, 1) := by decide +kernel
theorem dX3_scoreOf_68 : decode cX3_scoreOf 68 = .ok (.istore 6, 2) := by decide +kernel
theorem dX3_scoreOf_70 : decode cX3_scoreOf 70 = .ok (.goto (-59), 3) := by decide +kernel
theorem dX3_scoreOf_73 : decode cX3_scoreOf 73 = .ok (.iload 4, 2) := by decide +kernel
theorem dX3_scoreOf_75 : decode cX3_scoreOf 75 = .ok (.ireturn, 1) := by decide +kernel
theorem dX4_init_0 : decode cX4_init 0 = .ok (.aload_n 0, 1) := by decide +kernel
theorem dX4_init_1 : decode cX4_init 1 = .ok (.invokespecial 1, 3) := by decide +kernel
theorem dX4_init_4 : decode cX4_init 4 = .ok (.aload_n 0, 1) := by decide +kernel
theorem dX4_init_5 : decode cX4_init 5 = .ok (.iload_n 1, 1) := by decide +kernel
theorem dX4_init_6 : decode cX4_init 6 = .ok (.ifCond .le 7, 3) := by decide +kernel
theorem dX4_init_9 : decode cX4_init 9 = .ok (.iload_n 1, 1) := by decide +kernel
theorem dX4_init_10 : decode cX4_init 10 = .ok (.goto 4, 3) := by decide +kernel
theorem dX4_init_13 : decode cX4_init 13 = .ok (.iconst 0, 1) := by decide +kernel
theorem dX4_init_14 : decode cX4_init 14 = .ok (.newarray .int, 2) := by decide +kernel
theorem dX4_init_16 : decode cX4_init 16 = .ok (.putfield 7, 3) := by decide +kernel
theorem dX4_init_19 : decode cX4_init 19 = .ok (.return_, 1) := by decide +kernel
theorem dX4_isFull_0 : decode cX4_isFull 0 = .ok (.aload_n 0, 1) := by decide +kernel
theorem dX4_isFull_1 : decode cX4_isFull 1 = .ok (.getfield 13, 3) := by decide +kernel
theorem dX4_isFull_4 : decode cX4_isFull 4 = .ok (.aload_n 0, 1) := by decide +kernel
theorem dX4_isFull_5 : decode cX4_isFull 5 = .ok (.getfield 7, 3) := by decide +kernel
theorem dX4_isFull_8 : decode cX4_isFull 8 = .ok (.arraylength, 1) := by decide +kernel
theorem dX4_isFull_9 : decode cX4_isFull 9 = .ok (.if_icmp .lt 7, 3) := by decide +kernel
theorem dX4_isFull_12 : decode cX4_isFull 12 = .ok (.iconst 1, 1) := by decide +kernel
theorem dX4_isFull_13 : decode cX4_isFull 13 = .ok (.goto 4, 3) := by decide +kernel
theorem dX4_isFull_16 : decode cX4_isFull 16 = .ok (.iconst 0, 1) := by decide +kernel
theorem dX4_isFull_17 : decode cX4_isFull 17 = .ok (.ireturn, 1) := by decide +kernel
theorem dX4_add_0 : decode cX4_add 0 = .ok (.aload_n 0, 1) := by decide +kernel
theorem dX4_add_1 : decode cX4_add 1 = .ok (.getfield 13, 3) := by decide +kernel
theorem dX4_add_4 : decode cX4_add 4 = .ok (.ifCond .lt 35, 3) := by decide +kernel
theorem dX4_add_7 : decode cX4_add 7 = .ok (.aload_n 0, 1) := by decide +kernel
theorem dX4_add_8 : decode cX4_add 8 = .ok (.getfield 13, 3) := by decide +kernel
theorem dX4_add_11 : decode cX4_add 11 = .ok (.aload_n 0, 1) := by decide +kernel
theorem dX4_add_12 : decode cX4_add 12 = .ok (.getfield 7, 3) := by decide +kernel
theorem dX4_add_15 : decode cX4_add 15 = .ok (.arraylength, 1) := by decide +kernel
theorem dX4_add_16 : decode cX4_add 16 = .ok (.if_icmp .ge 23, 3) := by decide +kernel
theorem dX4_add_19 : decode cX4_add 19 = .ok (.aload_n 0, 1) := by decide +kernel
theorem dX4_add_20 : decode cX4_add 20 = .ok (.getfield 7, 3) := by decide +kernel
theorem dX4_add_23 : decode cX4_add 23 = .ok (.aload_n 0, 1) := by decide +kernel
theorem dX4_add_24 : decode cX4_add 24 = .ok (.getfield 13, 3) := by decide +kernel
theorem dX4_add_27 : decode cX4_add 27 = .ok (.iload_n 1, 1) := by decide +kernel
theorem dX4_add_28 : decode cX4_add 28 = .ok (.iastore, 1) := by decide +kernel
theorem dX4_add_29 : decode cX4_add 29 = .ok (.aload_n 0, 1) := by decide +kernel
theorem dX4_add_30 : decode cX4_add 30 = .ok (.dup, 1) := by decide +kernel
theorem dX4_add_31 : decode cX4_add 31 = .ok (.getfield 13, 3) := by decide +kernel
theorem dX4_add_34 : decode cX4_add 34 = .ok (.iconst 1, 1) := by decide +kernel
theorem dX4_add_35 : decode cX4_add 35 = .ok (.iadd, 1) := by decide +kernel
theorem dX4_add_36 : decode cX4_add 36 = .ok (.putfield 13, 3) := by decide +kernel
theorem dX4_add_39 : decode cX4_add 39 = .ok (.return_, 1) := by decide +kernel
theorem dX4_get_0 : decode cX4_get 0 = .ok (.iload_n 1, 1) := by decide +kernel
theorem dX4_get_1 : decode cX4_get 1 = .ok (.ifCond .lt 29, 3) := by decide +kernel
theorem dX4_get_4 : decode cX4_get 4 = .ok (.iload_n 1, 1) := by decide +kernel
theorem dX4_get_5 : decode cX4_get 5 = .ok (.aload_n 0, 1) := by decide +kernel
theorem dX4_get_6 : decode cX4_get 6 = .ok (.getfield 13, 3) := by decide +kernel
theorem dX4_get_9 : decode cX4_get 9 = .ok (.if_icmp .ge 21, 3) := by decide +kernel
theorem dX4_get_12 : decode cX4_get 12 = .ok (.iload_n 1, 1) := by decide +kernel
theorem dX4_get_13 : decode cX4_get 13 = .ok (.aload_n 0, 1) := by decide +kernel
theorem dX4_get_14 : decode cX4_get 14 = .ok (.getfield 7, 3) := by decide +kernel
theorem dX4_get_17 : decode cX4_get 17 = .ok (.arraylength, 1) := by decide +kernel
theorem dX4_get_18 : decode cX4_get 18 = .ok (.if_icmp .ge 12, 3) := by decide +kernel
theorem dX4_get_21 : decode cX4_get 21 = .ok (.aload_n 0, 1) := by decide +kernel
theorem dX4_get_22 : decode cX4_get 22 = .ok (.getfield 7, 3) := by decide +kernel
theorem dX4_get_25 : decode cX4_get 25 = .ok (.iload_n 1, 1) := by decide +kernel
theorem dX4_get_26 : decode cX4_get 26 = .ok (.iaload, 1) := by decide +kernel
theorem dX4_get_27 : decode cX4_get 27 = .ok (.goto 4, 3) := by decide +kernel
theorem dX4_get_30 : decode cX4_get 30 = .ok (.iconst (-1), 1) := by decide +kernel
theorem dX4_get_31 : decode cX4_get 31 = .ok (.ireturn, 1) := by decide +kernel
theorem dX4_set_0 : decode cX4_set 0 = .ok (.iload_n 1, 1) := by decide +kernel
theorem dX4_set_1 : decode cX4_set 1 = .ok (.ifCond .lt 27, 3) := by decide +kernel
theorem dX4_set_4 : decode cX4_set 4 = .ok (.iload_n 1, 1) := by decide +kernel
theorem dX4_set_5 : decode cX4_set 5 = .ok (.aload_n 0, 1) := by decide +kernel
theorem dX4_set_6 : decode cX4_set 6 = .ok (.getfield 13, 3) := by decide +kernel
theorem dX4_set_9 : decode cX4_set 9 = .ok (.if_icmp .ge 19, 3) := by decide +kernel
theorem dX4_set_12 : decode cX4_set 12 = .ok (.iload_n 1, 1) := by decide +kernel
theorem dX4_set_13 : decode cX4_set 13 = .ok (.aload_n 0, 1) := by decide +kernel
theorem dX4_set_14 : decode cX4_set 14 = .ok (.getfield 7, 3) := by decide +kernel
theorem dX4_set_17 : decode cX4_set 17 = .ok (.arraylength, 1) := by decide +kernel
theorem dX4_set_18 : decode cX4_set 18 = .ok (.if_icmp .ge 10, 3) := by decide +kernel
theorem dX4_set_21 : decode cX4_set 21 = .ok (.aload_n 0, 1) := by decide +kernel
theorem dX4_set_22 : decode cX4_set 22 = .ok (.getfield 7, 3) := by decide +kernel
theorem dX4_set_25 : decode cX4_set 25 = .ok (.iload_n 1, 1) := by decide +kernel
theorem dX4_set_26 : decode cX4_set 26 = .ok (.iload_n 2, 1) := by decide +kernel
theorem dX4_set_27 : decode cX4_set 27 = .ok (.iastore, 1) := by decide +kernel
theorem dX4_set_28 : decode cX4_set 28 = .ok (.return_, 1) := by decide +kernel
theorem dX4_clear_0 : decode cX4_clear 0 = .ok (.aload_n 0, 1) := by decide +kernel
theorem dX4_clear_1 : decode cX4_clear 1 = .ok (.iconst 0, 1) := by decide +kernel
theorem dX4_clear_2 : decode cX4_clear 2 = .ok (.putfield 13, 3) := by decide +kernel
theorem dX4_clear_5 : decode cX4_clear 5 = .ok (.return_, 1) := by decide +kernel
theorem dX4_takeFrom_0 : decode cX4_takeFrom 0 = .ok (.aload_n 0, 1) := by decide +kernel
theorem dX4_takeFrom_1 : decode cX4_takeFrom 1 = .ok (.invokevirtual 17, 3) := by decide +kernel
theorem dX4_takeFrom_4 : decode cX4_takeFrom 4 = .ok (.iconst 0, 1) := by decide +kernel
theorem dX4_takeFrom_5 : decode cX4_takeFrom 5 = .ok (.istore_n 2, 1) := by decide +kernel
theorem dX4_takeFrom_6 : decode cX4_takeFrom 6 = .ok (.iload_n 2, 1) := by decide +kernel
theorem dX4_takeFrom_7 : decode cX4_takeFrom 7 = .ok (.aload_n 1, 1) := by decide +kernel
theorem dX4_takeFrom_8 : decode cX4_takeFrom 8 = .ok (.getfield 13, 3) := by decide +kernel
theorem dX4_takeFrom_11 : decode cX4_takeFrom 11 = .ok (.if_icmp .ge 18, 3) := by decide +kernel
theorem dX4_takeFrom_14 : decode cX4_takeFrom 14 = .ok (.aload_n 0, 1) := by decide +kernel
theorem dX4_takeFrom_15 : decode cX4_takeFrom 15 = .ok (.aload_n 1, 1) := by decide +kernel
theorem dX4_takeFrom_16 : decode cX4_takeFrom 16 = .ok (.iload_n 2, 1) := by decide +kernel
theorem dX4_takeFrom_17 : decode cX4_takeFrom 17 = .ok (.invokevirtual 20, 3) := by decide +kernel
theorem dX4_takeFrom_20 : decode cX4_takeFrom 20 = .ok (.invokevirtual 24, 3) := by decide +kernel
theorem dX4_takeFrom_23 : decode cX4_takeFrom 23 = .ok (.iinc 2 1, 3) := by decide +kernel
theorem dX4_takeFrom_26 : decode cX4_takeFrom 26 = .ok (.goto (-20), 3) := by decide +kernel
theorem dX4_takeFrom_29 : decode cX4_takeFrom 29 = .ok (.return_, 1) := by decide +kernel
theorem dX5_init_0 : decode cX5_init 0 = .ok (.aload_n 0, 1) := by decide +kernel
theorem dX5_init_1 : decode cX5_init 1 = .ok (.invokespecial 3, 3) := by decide +kernel
theorem dX5_init_4 : decode cX5_init 4 = .ok (.aload_n 0, 1) := by decide +kernel
theorem dX5_init_5 : decode cX5_init 5 = .ok (.bipush 24, 2) := by decide +kernel
theorem dX5_init_7 : decode cX5_init 7 = .ok (.newarray .int, 2) := by decide +kernel
theorem dX5_init_9 : decode cX5_init 9 = .ok (.putfield 9, 3) := by decide +kernel
theorem dX5_init_12 : decode cX5_init 12 = .ok (.aload_n 0, 1) := by decide +kernel
theorem dX5_init_13 : decode cX5_init 13 = .ok (.bipush 6, 2) := by decide +kernel
theorem dX5_init_15 : decode cX5_init 15 = .ok (.newarray .int, 2) := by decide +kernel
theorem dX5_init_17 : decode cX5_init 17 = .ok (.putfield 15, 3) := by decide +kernel
theorem dX5_init_20 : decode cX5_init 20 = .ok (.return_, 1) := by decide +kernel
theorem dX5_has_0 : decode cX5_has 0 = .ok (.iload_n 1, 1) := by decide +kernel
theorem dX5_has_1 : decode cX5_has 1 = .ok (.ifCond .lt 15, 3) := by decide +kernel
theorem dX5_has_4 : decode cX5_has 4 = .ok (.iload_n 1, 1) := by decide +kernel
theorem dX5_has_5 : decode cX5_has 5 = .ok (.aload_n 0, 1) := by decide +kernel
theorem dX5_has_6 : decode cX5_has 6 = .ok (.getfield 18, 3) := by decide +kernel
theorem dX5_has_9 : decode cX5_has 9 = .ok (.if_icmp .ge 7, 3) := by decide +kernel
theorem dX5_has_12 : decode cX5_has 12 = .ok (.iconst 1, 1) := by decide +kernel
theorem dX5_has_13 : decode cX5_has 13 = .ok (.goto 4, 3) := by decide +kernel
theorem dX5_has_16 : decode cX5_has 16 = .ok (.iconst 0, 1) := by decide +kernel
theorem dX5_has_17 : decode cX5_has 17 = .ok (.ireturn, 1) := by decide +kernel
theorem dX5_lack_0 : decode cX5_lack 0 = .ok (.iload_n 1, 1) := by decide +kernel
theorem dX5_lack_1 : decode cX5_lack 1 = .ok (.iconst 4, 1) := by decide +kernel
theorem dX5_lack_2 : decode cX5_lack 2 = .ok (.imul, 1) := by decide +kernel
theorem dX5_lack_3 : decode cX5_lack 3 = .ok (.iload_n 2, 1) := by decide +kernel
theorem dX5_lack_4 : decode cX5_lack 4 = .ok (.iadd, 1) := by decide +kernel
theorem dX5_lack_5 : decode cX5_lack 5 = .ok (.istore_n 3, 1) := by decide +kernel
theorem dX5_lack_6 : decode cX5_lack 6 = .ok (.iload_n 3, 1) := by decide +kernel
theorem dX5_lack_7 : decode cX5_lack 7 = .ok (.ifCond .lt 21, 3) := by decide +kernel
theorem dX5_lack_10 : decode cX5_lack 10 = .ok (.iload_n 3, 1) := by decide +kernel
theorem dX5_lack_11 : decode cX5_lack 11 = .ok (.aload_n 0, 1) := by decide +kernel
theorem dX5_lack_12 : decode cX5_lack 12 = .ok (.getfield 9, 3) := by decide +kernel
theorem dX5_lack_15 : decode cX5_lack 15 = .ok (.arraylength, 1) := by decide +kernel
theorem dX5_lack_16 : decode cX5_lack 16 = .ok (.if_icmp .ge 12, 3) := by decide +kernel
theorem dX5_lack_19 : decode cX5_lack 19 = .ok (.aload_n 0, 1) := by decide +kernel
theorem dX5_lack_20 : decode cX5_lack 20 = .ok (.getfield 9, 3) := by decide +kernel
theorem dX5_lack_23 : decode cX5_lack 23 = .ok (.iload_n 3, 1) := by decide +kernel
theorem dX5_lack_24 : decode cX5_lack 24 = .ok (.iaload, 1) := by decide +kernel
theorem dX5_lack_25 : decode cX5_lack 25 = .ok (.goto 4, 3) := by decide +kernel
theorem dX5_lack_28 : decode cX5_lack 28 = .ok (.iconst 0, 1) := by decide +kernel
theorem dX5_lack_29 : decode cX5_lack 29 = .ok (.ireturn, 1) := by decide +kernel
theorem dX5_setLack_0 : decode cX5_setLack 0 = .ok (.iload_n 1, 1) := by decide +kernel
theorem dX5_setLack_1 : decode cX5_setLack 1 = .ok (.iconst 4, 1) := by decide +kernel
theorem dX5_setLack_2 : decode cX5_setLack 2 = .ok (.imul, 1) := by decide +kernel
theorem dX5_setLack_3 : decode cX5_setLack 3 = .ok (.iload_n 2, 1) := by decide +kernel
theorem dX5_setLack_4 : decode cX5_setLack 4 = .ok (.iadd, 1) := by decide +kernel
theorem dX5_setLack_5 : decode cX5_setLack 5 = .ok (.istore 4, 2) := by decide +kernel
theorem dX5_setLack_7 : decode cX5_setLack 7 = .ok (.iload 4, 2) := by decide +kernel
theorem dX5_setLack_9 : decode cX5_setLack 9 = .ok (.ifCond .lt 30, 3) := by decide +kernel
theorem dX5_setLack_12 : decode cX5_setLack 12 = .ok (.iload 4, 2) := by decide +kernel
theorem dX5_setLack_14 : decode cX5_setLack 14 = .ok (.aload_n 0, 1) := by decide +kernel
theorem dX5_setLack_15 : decode cX5_setLack 15 = .ok (.getfield 9, 3) := by decide +kernel
theorem dX5_setLack_18 : decode cX5_setLack 18 = .ok (.arraylength, 1) := by decide +kernel
theorem dX5_setLack_19 : decode cX5_setLack 19 = .ok (.if_icmp .ge 20, 3) := by decide +kernel
theorem dX5_setLack_22 : decode cX5_setLack 22 = .ok (.aload_n 0, 1) := by decide +kernel
theorem dX5_setLack_23 : decode cX5_setLack 23 = .ok (.getfield 9, 3) := by decide +kernel
theorem dX5_setLack_26 : decode cX5_setLack 26 = .ok (.iload 4, 2) := by decide +kernel
theorem dX5_setLack_28 : decode cX5_setLack 28 = .ok (.iconst 0, 1) := by decide +kernel
theorem dX5_setLack_29 : decode cX5_setLack 29 = .ok (.iload_n 3, 1) := by decide +kernel
theorem dX5_setLack_30 : decode cX5_setLack 30 = .ok (.bipush 30, 2) := by decide +kernel
theorem dX5_setLack_32 : decode cX5_setLack 32 = .ok (.invokestatic 22, 3) := by decide +kernel
theorem dX5_setLack_35 : decode cX5_setLack 35 = .ok (.invokestatic 28, 3) := by decide +kernel
theorem dX5_setLack_38 : decode cX5_setLack 38 = .ok (.iastore, 1) := by decide +kernel
theorem dX5_setLack_39 : decode cX5_setLack 39 = .ok (.return_, 1) := by decide +kernel
theorem dX5_enter_0 : decode cX5_enter 0 = .ok (.aload_n 0, 1) := by decide +kernel
theorem dX5_enter_1 : decode cX5_enter 1 = .ok (.getfield 18, 3) := by decide +kernel
theorem dX5_enter_4 : decode cX5_enter 4 = .ok (.ifCond .lt 15, 3) := by decide +kernel
theorem dX5_enter_7 : decode cX5_enter 7 = .ok (.aload_n 0, 1) := by decide +kernel
theorem dX5_enter_8 : decode cX5_enter 8 = .ok (.getfield 18, 3) := by decide +kernel
theorem dX5_enter_11 : decode cX5_enter 11 = .ok (.aload_n 0, 1) := by decide +kernel
theorem dX5_enter_12 : decode cX5_enter 12 = .ok (.getfield 15, 3) := by decide +kernel
theorem dX5_enter_15 : decode cX5_enter 15 = .ok (.arraylength, 1) := by decide +kernel
theorem dX5_enter_16 : decode cX5_enter 16 = .ok (.if_icmp .lt 5, 3) := by decide +kernel
theorem dX5_enter_19 : decode cX5_enter 19 = .ok (.iconst 0, 1) := by decide +kernel
theorem dX5_enter_20 : decode cX5_enter 20 = .ok (.ireturn, 1) := by decide +kernel
theorem dX5_enter_21 : decode cX5_enter 21 = .ok (.aload_n 0, 1) := by decide +kernel
theorem dX5_enter_22 : decode cX5_enter 22 = .ok (.getfield 15, 3) := by decide +kernel
theorem dX5_enter_25 : decode cX5_enter 25 = .ok (.aload_n 0, 1) := by decide +kernel
theorem dX5_enter_26 : decode cX5_enter 26 = .ok (.getfield 18, 3) := by decide +kernel
theorem dX5_enter_29 : decode cX5_enter 29 = .ok (.iload_n 1, 1) := by decide +kernel
theorem dX5_enter_30 : decode cX5_enter 30 = .ok (.iastore, 1) := by decide +kernel
theorem dX5_enter_31 : decode cX5_enter 31 = .ok (.aload_n 0, 1) := by decide +kernel
theorem dX5_enter_32 : decode cX5_enter 32 = .ok (.dup, 1) := by decide +kernel
theorem dX5_enter_33 : decode cX5_enter 33 = .ok (.getfield 18, 3) := by decide +kernel
theorem dX5_enter_36 : decode cX5_enter 36 = .ok (.iconst 1, 1) := by decide +kernel
theorem dX5_enter_37 : decode cX5_enter 37 = .ok (.iadd, 1) := by decide +kernel
theorem dX5_enter_38 : decode cX5_enter 38 = .ok (.putfield 18, 3) := by decide +kernel
theorem dX5_enter_41 : decode cX5_enter 41 = .ok (.iconst 1, 1) := by decide +kernel
theorem dX5_enter_42 : decode cX5_enter 42 = .ok (.ireturn, 1) := by decide +kernel
theorem dX5_takeFrom_0 : decode cX5_takeFrom 0 = .ok (.aload_n 0, 1) := by decide +kernel
theorem dX5_takeFrom_1 : decode cX5_takeFrom 1 = .ok (.aload_n 1, 1) := by decide +kernel
theorem dX5_takeFrom_2 : decode cX5_takeFrom 2 = .ok (.getfield 18, 3) := by decide +kernel
theorem dX5_takeFrom_5 : decode cX5_takeFrom 5 = .ok (.putfield 18, 3) := by decide +kernel
theorem dX5_takeFrom_8 : decode cX5_takeFrom 8 = .ok (.aload_n 1, 1) := by decide +kernel
theorem dX5_takeFrom_9 : decode cX5_takeFrom 9 = .ok (.getfield 9, 3) := by decide +kernel
theorem dX5_takeFrom_12 : decode cX5_takeFrom 12 = .ok (.iconst 0, 1) := by decide +kernel
theorem dX5_takeFrom_13 : decode cX5_takeFrom 13 = .ok (.aload_n 0, 1) := by decide +kernel
theorem dX5_takeFrom_14 : decode cX5_takeFrom 14 = .ok (.getfield 9, 3) := by decide +kernel
theorem dX5_takeFrom_17 : decode cX5_takeFrom 17 = .ok (.iconst 0, 1) := by decide +kernel
theorem dX5_takeFrom_18 : decode cX5_takeFrom 18 = .ok (.aload_n 0, 1) := by decide +kernel
theorem dX5_takeFrom_19 : decode cX5_takeFrom 19 = .ok (.getfield 9, 3) := by decide +kernel
theorem dX5_takeFrom_22 : decode cX5_takeFrom 22 = .ok (.arraylength, 1) := by decide +kernel
theorem dX5_takeFrom_23 : decode cX5_takeFrom 23 = .ok (.invokestatic 31, 3) := by decide +kernel
theorem dX5_takeFrom_26 : decode cX5_takeFrom 26 = .ok (.aload_n 1, 1) := by decide +kernel
theorem dX5_takeFrom_27 : decode cX5_takeFrom 27 = .ok (.getfield 15, 3) := by decide +kernel
theorem dX5_takeFrom_30 : decode cX5_takeFrom 30 = .ok (.iconst 0, 1) := by decide +kernel
theorem dX5_takeFrom_31 : decode cX5_takeFrom 31 = .ok (.aload_n 0, 1) := by decide +kernel
theorem dX5_takeFrom_32 : decode cX5_takeFrom 32 = .ok (.getfield 15, 3) := by decide +kernel
theorem dX5_takeFrom_35 : decode cX5_takeFrom 35 = .ok (.iconst 0, 1) := by decide +kernel
theorem dX5_takeFrom_36 : decode cX5_takeFrom 36 = .ok (.aload_n 0, 1) := by decide +kernel
theorem dX5_takeFrom_37 : decode cX5_takeFrom 37 = .ok (.getfield 15, 3) := by decide +kernel
theorem dX5_takeFrom_40 : decode cX5_takeFrom 40 = .ok (.arraylength, 1) := by decide +kernel
theorem dX5_takeFrom_41 : decode cX5_takeFrom 41 = .ok (.invokestatic 31, 3) := by decide +kernel
theorem dX5_takeFrom_44 : decode cX5_takeFrom 44 = .ok (.return_, 1) := by decide +kernel
theorem dX5_total_0 : decode cX5_total 0 = .ok (.iconst 0, 1) := by decide +kernel
theorem dX5_total_1 : decode cX5_total 1 = .ok (.istore_n 1, 1) := by decide +kernel
theorem dX5_total_2 : decode cX5_total 2 = .ok (.iconst 0, 1) := by decide +kernel
theorem dX5_total_3 : decode cX5_total 3 = .ok (.istore_n 2, 1) := by decide +kernel
theorem dX5_total_4 : decode cX5_total 4 = .ok (.iload_n 2, 1) := by decide +kernel
theorem dX5_total_5 : decode cX5_total 5 = .ok (.aload_n 0, 1) := by decide +kernel
theorem dX5_total_6 : decode cX5_total 6 = .ok (.getfield 9, 3) := by decide +kernel
theorem dX5_total_9 : decode cX5_total 9 = .ok (.arraylength, 1) := by decide +kernel
theorem dX5_total_10 : decode cX5_total 10 = .ok (.if_icmp .ge 18, 3) := by decide +kernel
theorem dX5_total_13 : decode cX5_total 13 = .ok (.iload_n 1, 1) := by decide +kernel
theorem dX5_total_14 : decode cX5_total 14 = .ok (.aload_n 0, 1) := by decide +kernel
theorem dX5_total_15 : decode cX5_total 15 = .ok (.getfield 9, 3) := by decide +kernel
theorem dX5_total_18 : decode cX5_total 18 = .ok (.iload_n 2, 1) := by decide +kernel
theorem dX5_total_19 : decode cX5_total 19 = .ok (.iaload, 1) := by decide +kernel
theorem dX5_total_20 : decode cX5_total 20 = .ok (.iadd, 1) := by decide +kernel
theorem dX5_total_21 : decode cX5_total 21 = .ok (.istore_n 1, 1) := by decide +kernel
theorem dX5_total_22 : decode cX5_total 22 = .ok (.iinc 2 1, 3) := by decide +kernel
theorem dX5_total_25 : decode cX5_total 25 = .ok (.goto (-21), 3) := by decide +kernel
theorem dX5_total_28 : decode cX5_total 28 = .ok (.iload_n 1, 1) := by decide +kernel
theorem dX5_total_29 : decode cX5_total 29 = .ok (.ireturn, 1) := by decide +kernel
theorem dX5_grow_0 : decode cX5_grow 0 = .ok (.iconst 0, 1) := by decide +kernel
theorem dX5_grow_1 : decode cX5_grow 1 = .ok (.istore_n 1, 1) := by decide +kernel
theorem dX5_grow_2 : decode cX5_grow 2 = .ok (.iload_n 1, 1) := by decide +kernel
theorem dX5_grow_3 : decode cX5_grow 3 = .ok (.aload_n 0, 1) := by decide +kernel
theorem dX5_grow_4 : decode cX5_grow 4 = .ok (.getfield 18, 3) := by decide +kernel
theorem dX5_grow_7 : decode cX5_grow 7 = .ok (.if_icmp .ge 50, 3) := by decide +kernel
theorem dX5_grow_10 : decode cX5_grow 10 = .ok (.iload_n 1, 1) := by decide +kernel
theorem dX5_grow_11 : decode cX5_grow 11 = .ok (.aload_n 0, 1) := by decide +kernel
theorem dX5_grow_12 : decode cX5_grow 12 = .ok (.getfield 15, 3) := by decide +kernel
theorem dX5_grow_15 : decode cX5_grow 15 = .ok (.arraylength, 1) := by decide +kernel
theorem dX5_grow_16 : decode cX5_grow 16 = .ok (.if_icmp .ge 41, 3) := by decide +kernel
theorem dX5_grow_19 : decode cX5_grow 19 = .ok (.iconst 0, 1) := by decide +kernel
theorem dX5_grow_20 : decode cX5_grow 20 = .ok (.istore_n 2, 1) := by decide +kernel
theorem dX5_grow_21 : decode cX5_grow 21 = .ok (.iload_n 2, 1) := by decide +kernel
theorem dX5_grow_22 : decode cX5_grow 22 = .ok (.iconst 4, 1) := by decide +kernel
theorem dX5_grow_23 : decode cX5_grow 23 = .ok (.if_icmp .ge 28, 3) := by decide +kernel
theorem dX5_grow_26 : decode cX5_grow 26 = .ok (.aload_n 0, 1) := by decide +kernel
theorem dX5_grow_27 : decode cX5_grow 27 = .ok (.iload_n 1, 1) := by decide +kernel
theorem dX5_grow_28 : decode cX5_grow 28 = .ok (.iload_n 2, 1) := by decide +kernel
theorem dX5_grow_29 : decode cX5_grow 29 = .ok (.aload_n 0, 1) := by decide +kernel
theorem dX5_grow_30 : decode cX5_grow 30 = .ok (.iload_n 1, 1) := by decide +kernel
theorem dX5_grow_31 : decode cX5_grow 31 = .ok (.iload_n 2, 1) := by decide +kernel
theorem dX5_grow_32 : decode cX5_grow 32 = .ok (.invokevirtual 37, 3) := by decide +kernel
theorem dX5_grow_35 : decode cX5_grow 35 = .ok (.aload_n 0, 1) := by decide +kernel
theorem dX5_grow_36 : decode cX5_grow 36 = .ok (.getfield 15, 3) := by decide +kernel
theorem dX5_grow_39 : decode cX5_grow 39 = .ok (.iload_n 1, 1) := by decide +kernel
theorem dX5_grow_40 : decode cX5_grow 40 = .ok (.iaload, 1) := by decide +kernel
theorem dX5_grow_41 : decode cX5_grow 41 = .ok (.iadd, 1) := by decide +kernel
theorem dX5_grow_42 : decode cX5_grow 42 = .ok (.invokevirtual 40, 3) := by decide +kernel
theorem dX5_grow_45 : decode cX5_grow 45 = .ok (.iinc 2 1, 3) := by decide +kernel
theorem dX5_grow_48 : decode cX5_grow 48 = .ok (.goto (-27), 3) := by decide +kernel
theorem dX5_grow_51 : decode cX5_grow 51 = .ok (.iinc 1 1, 3) := by decide +kernel
theorem dX5_grow_54 : decode cX5_grow 54 = .ok (.goto (-52), 3) := by decide +kernel
theorem dX5_grow_57 : decode cX5_grow 57 = .ok (.return_, 1) := by decide +kernel
theorem dX5_handTo_0 : decode cX5_handTo 0 = .ok (.iconst 0, 1) := by decide +kernel
theorem dX5_handTo_1 : decode cX5_handTo 1 = .ok (.istore_n 3, 1) := by decide +kernel
theorem dX5_handTo_2 : decode cX5_handTo 2 = .ok (.iload_n 3, 1) := by decide +kernel
theorem dX5_handTo_3 : decode cX5_handTo 3 = .ok (.aload_n 0, 1) := by decide +kernel
theorem dX5_handTo_4 : decode cX5_handTo 4 = .ok (.getfield 18, 3) := by decide +kernel
theorem dX5_handTo_7 : decode cX5_handTo 7 = .ok (.if_icmp .ge 63, 3) := by decide +kernel
theorem dX5_handTo_10 : decode cX5_handTo 10 = .ok (.iload_n 2, 1) := by decide +kernel
theorem dX5_handTo_11 : decode cX5_handTo 11 = .ok (.istore 4, 2) := by decide +kernel
theorem dX5_handTo_13 : decode cX5_handTo 13 = .ok (.iconst 0, 1) := by decide +kernel
theorem dX5_handTo_14 : decode cX5_handTo 14 = .ok (.istore 5, 2) := by decide +kernel
theorem dX5_handTo_16 : decode cX5_handTo 16 = .ok (.iload 5, 2) := by decide +kernel
theorem dX5_handTo_18 : decode cX5_handTo 18 = .ok (.iconst 4, 1) := by decide +kernel
theorem dX5_handTo_19 : decode cX5_handTo 19 = .ok (.if_icmp .ge 45, 3) := by decide +kernel
theorem dX5_handTo_22 : decode cX5_handTo 22 = .ok (.iload_n 1, 1) := by decide +kernel
theorem dX5_handTo_23 : decode cX5_handTo 23 = .ok (.iload_n 3, 1) := by decide +kernel
theorem dX5_handTo_24 : decode cX5_handTo 24 = .ok (.ishr, 1) := by decide +kernel
theorem dX5_handTo_25 : decode cX5_handTo 25 = .ok (.iconst 1, 1) := by decide +kernel
theorem dX5_handTo_26 : decode cX5_handTo 26 = .ok (.iand, 1) := by decide +kernel
theorem dX5_handTo_27 : decode cX5_handTo 27 = .ok (.iconst 1, 1) := by decide +kernel
theorem dX5_handTo_28 : decode cX5_handTo 28 = .ok (.if_icmp .ne 36, 3) := by decide +kernel
theorem dX5_handTo_31 : decode cX5_handTo 31 = .ok (.aload_n 0, 1) := by decide +kernel
theorem dX5_handTo_32 : decode cX5_handTo 32 = .ok (.iload_n 3, 1) := by decide +kernel
theorem dX5_handTo_33 : decode cX5_handTo 33 = .ok (.iload 5, 2) := by decide +kernel
theorem dX5_handTo_35 : decode cX5_handTo 35 = .ok (.aload_n 0, 1) := by decide +kernel
theorem dX5_handTo_36 : decode cX5_handTo 36 = .ok (.iload_n 3, 1) := by decide +kernel
theorem dX5_handTo_37 : decode cX5_handTo 37 = .ok (.iload 5, 2) := by decide +kernel
theorem dX5_handTo_39 : decode cX5_handTo 39 = .ok (.invokevirtual 37, 3) := by decide +kernel
theorem dX5_handTo_42 : decode cX5_handTo 42 = .ok (.iload 4, 2) := by decide +kernel
theorem dX5_handTo_44 : decode cX5_handTo 44 = .ok (.bipush 10, 2) := by decide +kernel
theorem dX5_handTo_46 : decode cX5_handTo 46 = .ok (.irem, 1) := by decide +kernel
theorem dX5_handTo_47 : decode cX5_handTo 47 = .ok (.isub, 1) := by decide +kernel
theorem dX5_handTo_48 : decode cX5_handTo 48 = .ok (.invokevirtual 40, 3) := by decide +kernel
theorem dX5_handTo_51 : decode cX5_handTo 51 = .ok (.iload 4, 2) := by decide +kernel
theorem dX5_handTo_53 : decode cX5_handTo 53 = .ok (.bipush 10, 2) := by decide +kernel
theorem dX5_handTo_55 : decode cX5_handTo 55 = .ok (.idiv, 1) := by decide +kernel
theorem dX5_handTo_56 : decode cX5_handTo 56 = .ok (.istore 4, 2) := by decide +kernel
theorem dX5_handTo_58 : decode cX5_handTo 58 = .ok (.iinc 5 1, 3) := by decide +kernel
theorem dX5_handTo_61 : decode cX5_handTo 61 = .ok (.goto (-45), 3) := by decide +kernel
theorem dX5_handTo_64 : decode cX5_handTo 64 = .ok (.iinc 3 1, 3) := by decide +kernel
theorem dX5_handTo_67 : decode cX5_handTo 67 = .ok (.goto (-65), 3) := by decide +kernel
theorem dX5_handTo_70 : decode cX5_handTo 70 = .ok (.return_, 1) := by decide +kernel
theorem dX6_init_0 : decode cX6_init 0 = .ok (.aload_n 0, 1) := by decide +kernel
theorem dX6_init_1 : decode cX6_init 1 = .ok (.invokespecial 1, 3) := by decide +kernel
theorem dX6_init_4 : decode cX6_init 4 = .ok (.return_, 1) := by decide +kernel
theorem dX6_havers_0 : decode cX6_havers 0 = .ok (.iconst 0, 1) := by decide +kernel
theorem dX6_havers_1 : decode cX6_havers 1 = .ok (.istore 4, 2) := by decide +kernel
theorem dX6_havers_3 : decode cX6_havers 3 = .ok (.iconst 0, 1) := by decide +kernel
theorem dX6_havers_4 : decode cX6_havers 4 = .ok (.istore 5, 2) := by decide +kernel
theorem dX6_havers_6 : decode cX6_havers 6 = .ok (.iload 5, 2) := by decide +kernel
theorem dX6_havers_8 : decode cX6_havers 8 = .ok (.aload_n 1, 1) := by decide +kernel
theorem dX6_havers_9 : decode cX6_havers 9 = .ok (.getfield 7, 3) := by decide +kernel
theorem dX6_havers_12 : decode cX6_havers 12 = .ok (.if_icmp .ge 29, 3) := by decide +kernel
theorem dX6_havers_15 : decode cX6_havers 15 = .ok (.aload_n 0, 1) := by decide +kernel
theorem dX6_havers_16 : decode cX6_havers 16 = .ok (.aload_n 1, 1) := by decide +kernel
theorem dX6_havers_17 : decode cX6_havers 17 = .ok (.iload 5, 2) := by decide +kernel
theorem dX6_havers_19 : decode cX6_havers 19 = .ok (.iload_n 2, 1) := by decide +kernel
theorem dX6_havers_20 : decode cX6_havers 20 = .ok (.invokevirtual 13, 3) := by decide +kernel
theorem dX6_havers_23 : decode cX6_havers 23 = .ok (.ifCond .le 12, 3) := by decide +kernel
theorem dX6_havers_26 : decode cX6_havers 26 = .ok (.iload 4, 2) := by decide +kernel
theorem dX6_havers_28 : decode cX6_havers 28 = .ok (.iconst 1, 1) := by decide +kernel
theorem dX6_havers_29 : decode cX6_havers 29 = .ok (.iload 5, 2) := by decide +kernel
theorem dX6_havers_31 : decode cX6_havers 31 = .ok (.ishl, 1) := by decide +kernel
theorem dX6_havers_32 : decode cX6_havers 32 = .ok (.ior, 1) := by decide +kernel
theorem dX6_havers_33 : decode cX6_havers 33 = .ok (.istore 4, 2) := by decide +kernel
theorem dX6_havers_35 : decode cX6_havers 35 = .ok (.iinc 5 1, 3) := by decide +kernel
theorem dX6_havers_38 : decode cX6_havers 38 = .ok (.goto (-32), 3) := by decide +kernel
theorem dX6_havers_41 : decode cX6_havers 41 = .ok (.iload 4, 2) := by decide +kernel
theorem dX6_havers_43 : decode cX6_havers 43 = .ok (.ireturn, 1) := by decide +kernel
theorem dX7_init_0 : decode cX7_init 0 = .ok (.aload_n 0, 1) := by decide +kernel
theorem dX7_init_1 : decode cX7_init 1 = .ok (.invokespecial 3, 3) := by decide +kernel
theorem dX7_init_4 : decode cX7_init 4 = .ok (.aload_n 0, 1) := by decide +kernel
theorem dX7_init_5 : decode cX7_init 5 = .ok (.new 9, 3) := by decide +kernel
theorem dX7_init_8 : decode cX7_init 8 = .ok (.dup, 1) := by decide +kernel
theorem dX7_init_9 : decode cX7_init 9 = .ok (.bipush 64, 2) := by decide +kernel
theorem dX7_init_11 : decode cX7_init 11 = .ok (.invokespecial 11, 3) := by decide +kernel
theorem dX7_init_14 : decode cX7_init 14 = .ok (.putfield 14, 3) := by decide +kernel
theorem dX7_init_17 : decode cX7_init 17 = .ok (.aload_n 0, 1) := by decide +kernel
theorem dX7_init_18 : decode cX7_init 18 = .ok (.new 20, 3) := by decide +kernel
theorem dX7_init_21 : decode cX7_init 21 = .ok (.dup, 1) := by decide +kernel
theorem dX7_init_22 : decode cX7_init 22 = .ok (.invokespecial 22, 3) := by decide +kernel
theorem dX7_init_25 : decode cX7_init 25 = .ok (.putfield 23, 3) := by decide +kernel
theorem dX7_init_28 : decode cX7_init 28 = .ok (.aload_n 0, 1) := by decide +kernel
theorem dX7_init_29 : decode cX7_init 29 = .ok (.iconst 5, 1) := by decide +kernel
theorem dX7_init_30 : decode cX7_init 30 = .ok (.newarray .int, 2) := by decide +kernel
theorem dX7_init_32 : decode cX7_init 32 = .ok (.putfield 27, 3) := by decide +kernel
theorem dX7_init_35 : decode cX7_init 35 = .ok (.return_, 1) := by decide +kernel
theorem dX7_read_0 : decode cX7_read 0 = .ok (.aload_n 0, 1) := by decide +kernel
theorem dX7_read_1 : decode cX7_read 1 = .ok (.getfield 23, 3) := by decide +kernel
theorem dX7_read_4 : decode cX7_read 4 = .ok (.aload_n 1, 1) := by decide +kernel
theorem dX7_read_5 : decode cX7_read 5 = .ok (.invokevirtual 31, 3) := by decide +kernel
theorem dX7_read_8 : decode cX7_read 8 = .ok (.aload_n 0, 1) := by decide +kernel
theorem dX7_read_9 : decode cX7_read 9 = .ok (.invokevirtual 35, 3) := by decide +kernel
theorem dX7_read_12 : decode cX7_read 12 = .ok (.ifCond .ne 12, 3) := by decide +kernel
theorem dX7_read_15 : decode cX7_read 15 = .ok (.sipush (-1000), 3) := by decide +kernel
theorem dX7_read_18 : decode cX7_read 18 = .ok (.aload_n 0, 1) := by decide +kernel
theorem dX7_read_19 : decode cX7_read 19 = .ok (.getfield 39, 3) := by decide +kernel
theorem dX7_read_22 : decode cX7_read 22 = .ok (.isub, 1) := by decide +kernel
theorem dX7_read_23 : decode cX7_read 23 = .ok (.ireturn, 1) := by decide +kernel
theorem dX7_read_24 : decode cX7_read 24 = .ok (.aload_n 0, 1) := by decide +kernel
theorem dX7_read_25 : decode cX7_read 25 = .ok (.invokevirtual 43, 3) := by decide +kernel
theorem dX7_read_28 : decode cX7_read 28 = .ok (.istore_n 2, 1) := by decide +kernel
theorem dX7_read_29 : decode cX7_read 29 = .ok (.iload_n 2, 1) := by decide +kernel
theorem dX7_read_30 : decode cX7_read 30 = .ok (.ifCond .lt 11, 3) := by decide +kernel
theorem dX7_read_33 : decode cX7_read 33 = .ok (.aload_n 1, 1) := by decide +kernel
theorem dX7_read_34 : decode cX7_read 34 = .ok (.aload_n 0, 1) := by decide +kernel
theorem dX7_read_35 : decode cX7_read 35 = .ok (.getfield 23, 3) := by decide +kernel
theorem dX7_read_38 : decode cX7_read 38 = .ok (.invokevirtual 31, 3) := by decide +kernel
theorem dX7_read_41 : decode cX7_read 41 = .ok (.iload_n 2, 1) := by decide +kernel
theorem dX7_read_42 : decode cX7_read 42 = .ok (.ireturn, 1) := by decide +kernel
theorem dX7_isShaped_0 : decode cX7_isShaped 0 = .ok (.aload_n 0, 1) := by decide +kernel
theorem dX7_isShaped_1 : decode cX7_isShaped 1 = .ok (.iconst 0, 1) := by decide +kernel
theorem dX7_isShaped_2 : decode cX7_isShaped 2 = .ok (.putfield 39, 3) := by decide +kernel
theorem dX7_isShaped_5 : decode cX7_isShaped 5 = .ok (.aload_n 0, 1) := by decide +kernel
theorem dX7_isShaped_6 : decode cX7_isShaped 6 = .ok (.invokevirtual 47, 3) := by decide +kernel
theorem dX7_isShaped_9 : decode cX7_isShaped 9 = .ok (.istore_n 1, 1) := by decide +kernel
theorem dX7_isShaped_10 : decode cX7_isShaped 10 = .ok (.iconst 0, 1) := by decide +kernel
theorem dX7_isShaped_11 : decode cX7_isShaped 11 = .ok (.istore_n 2, 1) := by decide +kernel
theorem dX7_isShaped_12 : decode cX7_isShaped 12 = .ok (.iload_n 2, 1) := by decide +kernel
theorem dX7_isShaped_13 : decode cX7_isShaped 13 = .ok (.bipush 64, 2) := by decide +kernel
theorem dX7_isShaped_15 : decode cX7_isShaped 15 = .ok (.if_icmp .ge 32, 3) := by decide +kernel
theorem dX7_isShaped_18 : decode cX7_isShaped 18 = .ok (.iload_n 1, 1) := by decide +kernel
theorem dX7_isShaped_19 : decode cX7_isShaped 19 = .ok (.ifCond .eq 28, 3) := by decide +kernel
theorem dX7_isShaped_22 : decode cX7_isShaped 22 = .ok (.aload_n 0, 1) := by decide +kernel
theorem dX7_isShaped_23 : decode cX7_isShaped 23 = .ok (.getfield 39, 3) := by decide +kernel
theorem dX7_isShaped_26 : decode cX7_isShaped 26 = .ok (.aload_n 0, 1) := by decide +kernel
theorem dX7_isShaped_27 : decode cX7_isShaped 27 = .ok (.getfield 14, 3) := by decide +kernel
theorem dX7_isShaped_30 : decode cX7_isShaped 30 = .ok (.getfield 50, 3) := by decide +kernel
theorem dX7_isShaped_33 : decode cX7_isShaped 33 = .ok (.if_icmp .ge 14, 3) := by decide +kernel
theorem dX7_isShaped_36 : decode cX7_isShaped 36 = .ok (.aload_n 0, 1) := by decide +kernel
theorem dX7_isShaped_37 : decode cX7_isShaped 37 = .ok (.invokevirtual 47, 3) := by decide +kernel
theorem dX7_isShaped_40 : decode cX7_isShaped 40 = .ok (.istore_n 1, 1) := by decide +kernel
theorem dX7_isShaped_41 : decode cX7_isShaped 41 = .ok (.iinc 2 1, 3) := by decide +kernel
theorem dX7_isShaped_44 : decode cX7_isShaped 44 = .ok (.goto (-32), 3) := by decide +kernel
theorem dX7_isShaped_47 : decode cX7_isShaped 47 = .ok (.iload_n 1, 1) := by decide +kernel
theorem dX7_isShaped_48 : decode cX7_isShaped 48 = .ok (.ireturn, 1) := by decide +kernel
theorem dX7_enterAll_0 : decode cX7_enterAll 0 = .ok (.aload_n 0, 1) := by decide +kernel
theorem dX7_enterAll_1 : decode cX7_enterAll 1 = .ok (.iconst 0, 1) := by decide +kernel
theorem dX7_enterAll_2 : decode cX7_enterAll 2 = .ok (.putfield 39, 3) := by decide +kernel
theorem dX7_enterAll_5 : decode cX7_enterAll 5 = .ok (.iconst 0, 1) := by decide +kernel
theorem dX7_enterAll_6 : decode cX7_enterAll 6 = .ok (.istore_n 1, 1) := by decide +kernel
theorem dX7_enterAll_7 : decode cX7_enterAll 7 = .ok (.iload_n 1, 1) := by decide +kernel
theorem dX7_enterAll_8 : decode cX7_enterAll 8 = .ok (.bipush 64, 2) := by decide +kernel
theorem dX7_enterAll_10 : decode cX7_enterAll 10 = .ok (.if_icmp .ge 61, 3) := by decide +kernel
theorem dX7_enterAll_13 : decode cX7_enterAll 13 = .ok (.aload_n 0, 1) := by decide +kernel
theorem dX7_enterAll_14 : decode cX7_enterAll 14 = .ok (.getfield 39, 3) := by decide +kernel
theorem dX7_enterAll_17 : decode cX7_enterAll 17 = .ok (.aload_n 0, 1) := by decide +kernel
theorem dX7_enterAll_18 : decode cX7_enterAll 18 = .ok (.getfield 14, 3) := by decide +kernel
theorem dX7_enterAll_21 : decode cX7_enterAll 21 = .ok (.getfield 50, 3) := by decide +kernel
theorem dX7_enterAll_24 : decode cX7_enterAll 24 = .ok (.if_icmp .ge 47, 3) := by decide +kernel
theorem dX7_enterAll_27 : decode cX7_enterAll 27 = .ok (.aload_n 0, 1) := by decide +kernel
theorem dX7_enterAll_28 : decode cX7_enterAll 28 = .ok (.getfield 39, 3) := by decide +kernel
theorem dX7_enterAll_31 : decode cX7_enterAll 31 = .ok (.istore_n 2, 1) := by decide +kernel
theorem dX7_enterAll_32 : decode cX7_enterAll 32 = .ok (.aload_n 0, 1) := by decide +kernel
theorem dX7_enterAll_33 : decode cX7_enterAll 33 = .ok (.getfield 14, 3) := by decide +kernel
theorem dX7_enterAll_36 : decode cX7_enterAll 36 = .ok (.aload_n 0, 1) := by decide +kernel
theorem dX7_enterAll_37 : decode cX7_enterAll 37 = .ok (.getfield 39, 3) := by decide +kernel
theorem dX7_enterAll_40 : decode cX7_enterAll 40 = .ok (.invokevirtual 53, 3) := by decide +kernel
theorem dX7_enterAll_43 : decode cX7_enterAll 43 = .ok (.istore_n 3, 1) := by decide +kernel
theorem dX7_enterAll_44 : decode cX7_enterAll 44 = .ok (.aload_n 0, 1) := by decide +kernel
theorem dX7_enterAll_45 : decode cX7_enterAll 45 = .ok (.invokevirtual 47, 3) := by decide +kernel
theorem dX7_enterAll_48 : decode cX7_enterAll 48 = .ok (.ifCond .eq 11, 3) := by decide +kernel
theorem dX7_enterAll_51 : decode cX7_enterAll 51 = .ok (.aload_n 0, 1) := by decide +kernel
theorem dX7_enterAll_52 : decode cX7_enterAll 52 = .ok (.iload_n 3, 1) := by decide +kernel
theorem dX7_enterAll_53 : decode cX7_enterAll 53 = .ok (.invokevirtual 57, 3) := by decide +kernel
theorem dX7_enterAll_56 : decode cX7_enterAll 56 = .ok (.ifCond .ne 9, 3) := by decide +kernel
theorem dX7_enterAll_59 : decode cX7_enterAll 59 = .ok (.sipush (-2000), 3) := by decide +kernel
theorem dX7_enterAll_62 : decode cX7_enterAll 62 = .ok (.iload_n 2, 1) := by decide +kernel
theorem dX7_enterAll_63 : decode cX7_enterAll 63 = .ok (.isub, 1) := by decide +kernel
theorem dX7_enterAll_64 : decode cX7_enterAll 64 = .ok (.ireturn, 1) := by decide +kernel
theorem dX7_enterAll_65 : decode cX7_enterAll 65 = .ok (.iinc 1 1, 3) := by decide +kernel
theorem dX7_enterAll_68 : decode cX7_enterAll 68 = .ok (.goto (-61), 3) := by decide +kernel
theorem dX7_enterAll_71 : decode cX7_enterAll 71 = .ok (.iload_n 1, 1) := by decide +kernel
theorem dX7_enterAll_72 : decode cX7_enterAll 72 = .ok (.ireturn, 1) := by decide +kernel
theorem dX7_scanStatement_0 : decode cX7_scanStatement 0 = .ok (.aload_n 0, 1) := by decide +kernel
theorem dX7_scanStatement_1 : decode cX7_scanStatement 1 = .ok (.bipush 112, 2) := by decide +kernel
theorem dX7_scanStatement_3 : decode cX7_scanStatement 3 = .ok (.invokevirtual 61, 3) := by decide +kernel
theorem dX7_scanStatement_6 : decode cX7_scanStatement 6 = .ok (.ifCond .eq 8, 3) := by decide +kernel
theorem dX7_scanStatement_9 : decode cX7_scanStatement 9 = .ok (.aload_n 0, 1) := by decide +kernel
theorem dX7_scanStatement_10 : decode cX7_scanStatement 10 = .ok (.invokevirtual 65, 3) := by decide +kernel
theorem dX7_scanStatement_13 : decode cX7_scanStatement 13 = .ok (.ireturn, 1) := by decide +kernel
theorem dX7_scanStatement_14 : decode cX7_scanStatement 14 = .ok (.aload_n 0, 1) := by decide +kernel
theorem dX7_scanStatement_15 : decode cX7_scanStatement 15 = .ok (.bipush 119, 2) := by decide +kernel
theorem dX7_scanStatement_17 : decode cX7_scanStatement 17 = .ok (.invokevirtual 61, 3) := by decide +kernel
theorem dX7_scanStatement_20 : decode cX7_scanStatement 20 = .ok (.ifCond .eq 33, 3) := by decide +kernel
theorem dX7_scanStatement_23 : decode cX7_scanStatement 23 = .ok (.aload_n 0, 1) := by decide +kernel
theorem dX7_scanStatement_24 : decode cX7_scanStatement 24 = .ok (.invokevirtual 68, 3) := by decide +kernel
theorem dX7_scanStatement_27 : decode cX7_scanStatement 27 = .ok (.ifCond .eq 24, 3) := by decide +kernel
theorem dX7_scanStatement_30 : decode cX7_scanStatement 30 = .ok (.aload_n 0, 1) := by decide +kernel
theorem dX7_scanStatement_31 : decode cX7_scanStatement 31 = .ok (.iconst 1, 1) := by decide +kernel
theorem dX7_scanStatement_32 : decode cX7_scanStatement 32 = .ok (.invokevirtual 71, 3) := by decide +kernel
theorem dX7_scanStatement_35 : decode cX7_scanStatement 35 = .ok (.ifCond .eq 16, 3) := by decide +kernel
theorem dX7_scanStatement_38 : decode cX7_scanStatement 38 = .ok (.aload_n 0, 1) := by decide +kernel
theorem dX7_scanStatement_39 : decode cX7_scanStatement 39 = .ok (.bipush 59, 2) := by decide +kernel
theorem dX7_scanStatement_41 : decode cX7_scanStatement 41 = .ok (.invokevirtual 61, 3) := by decide +kernel
theorem dX7_scanStatement_44 : decode cX7_scanStatement 44 = .ok (.ifCond .eq 7, 3) := by decide +kernel
theorem dX7_scanStatement_47 : decode cX7_scanStatement 47 = .ok (.iconst 1, 1) := by decide +kernel
theorem dX7_scanStatement_48 : decode cX7_scanStatement 48 = .ok (.goto 4, 3) := by decide +kernel
theorem dX7_scanStatement_51 : decode cX7_scanStatement 51 = .ok (.iconst 0, 1) := by decide +kernel
theorem dX7_scanStatement_52 : decode cX7_scanStatement 52 = .ok (.ireturn, 1) := by decide +kernel
theorem dX7_scanStatement_53 : decode cX7_scanStatement 53 = .ok (.aload_n 0, 1) := by decide +kernel
theorem dX7_scanStatement_54 : decode cX7_scanStatement 54 = .ok (.bipush 108, 2) := by decide +kernel
theorem dX7_scanStatement_56 : decode cX7_scanStatement 56 = .ok (.invokevirtual 61, 3) := by decide +kernel
theorem dX7_scanStatement_59 : decode cX7_scanStatement 59 = .ok (.ifCond .eq 14, 3) := by decide +kernel
theorem dX7_scanStatement_62 : decode cX7_scanStatement 62 = .ok (.aload_n 0, 1) := by decide +kernel
theorem dX7_scanStatement_63 : decode cX7_scanStatement 63 = .ok (.invokevirtual 74, 3) := by decide +kernel
theorem dX7_scanStatement_66 : decode cX7_scanStatement 66 = .ok (.ifCond .eq 7, 3) := by decide +kernel
theorem dX7_scanStatement_69 : decode cX7_scanStatement 69 = .ok (.iconst 1, 1) := by decide +kernel
theorem dX7_scanStatement_70 : decode cX7_scanStatement 70 = .ok (.goto 4, 3) := by decide +kernel
theorem dX7_scanStatement_73 : decode cX7_scanStatement 73 = .ok (.iconst 0, 1) := by decide +kernel
theorem dX7_scanStatement_74 : decode cX7_scanStatement 74 = .ok (.ireturn, 1) := by decide +kernel
theorem dX7_scanPerson_0 : decode cX7_scanPerson 0 = .ok (.iconst 1, 1) := by decide +kernel
theorem dX7_scanPerson_1 : decode cX7_scanPerson 1 = .ok (.istore_n 1, 1) := by decide +kernel
theorem dX7_scanPerson_2 : decode cX7_scanPerson 2 = .ok (.iconst 0, 1) := by decide +kernel
theorem dX7_scanPerson_3 : decode cX7_scanPerson 3 = .ok (.istore_n 2, 1) := by decide +kernel
theorem dX7_scanPerson_4 : decode cX7_scanPerson 4 = .ok (.iload_n 2, 1) := by decide +kernel
theorem dX7_scanPerson_5 : decode cX7_scanPerson 5 = .ok (.iconst 4, 1) := by decide +kernel
theorem dX7_scanPerson_6 : decode cX7_scanPerson 6 = .ok (.if_icmp .ge 46, 3) := by decide +kernel
theorem dX7_scanPerson_9 : decode cX7_scanPerson 9 = .ok (.iload_n 1, 1) := by decide +kernel
theorem dX7_scanPerson_10 : decode cX7_scanPerson 10 = .ok (.ifCond .eq 42, 3) := by decide +kernel
theorem dX7_scanPerson_13 : decode cX7_scanPerson 13 = .ok (.aload_n 0, 1) := by decide +kernel
theorem dX7_scanPerson_14 : decode cX7_scanPerson 14 = .ok (.iload_n 2, 1) := by decide +kernel
theorem dX7_scanPerson_15 : decode cX7_scanPerson 15 = .ok (.invokevirtual 77, 3) := by decide +kernel
theorem dX7_scanPerson_18 : decode cX7_scanPerson 18 = .ok (.ifCond .eq 26, 3) := by decide +kernel
theorem dX7_scanPerson_21 : decode cX7_scanPerson 21 = .ok (.aload_n 0, 1) := by decide +kernel
theorem dX7_scanPerson_22 : decode cX7_scanPerson 22 = .ok (.iload_n 2, 1) := by decide +kernel
theorem dX7_scanPerson_23 : decode cX7_scanPerson 23 = .ok (.iconst 3, 1) := by decide +kernel
theorem dX7_scanPerson_24 : decode cX7_scanPerson 24 = .ok (.if_icmp .ge 8, 3) := by decide +kernel
theorem dX7_scanPerson_27 : decode cX7_scanPerson 27 = .ok (.bipush 44, 2) := by decide +kernel
theorem dX7_scanPerson_29 : decode cX7_scanPerson 29 = .ok (.goto 5, 3) := by decide +kernel
theorem dX7_scanPerson_32 : decode cX7_scanPerson 32 = .ok (.bipush 43, 2) := by decide +kernel
theorem dX7_scanPerson_34 : decode cX7_scanPerson 34 = .ok (.invokevirtual 61, 3) := by decide +kernel
theorem dX7_scanPerson_37 : decode cX7_scanPerson 37 = .ok (.ifCond .eq 7, 3) := by decide +kernel
theorem dX7_scanPerson_40 : decode cX7_scanPerson 40 = .ok (.iconst 1, 1) := by decide +kernel
theorem dX7_scanPerson_41 : decode cX7_scanPerson 41 = .ok (.goto 4, 3) := by decide +kernel
theorem dX7_scanPerson_44 : decode cX7_scanPerson 44 = .ok (.iconst 0, 1) := by decide +kernel
theorem dX7_scanPerson_45 : decode cX7_scanPerson 45 = .ok (.istore_n 1, 1) := by decide +kernel
theorem dX7_scanPerson_46 : decode cX7_scanPerson 46 = .ok (.iinc 2 1, 3) := by decide +kernel
theorem dX7_scanPerson_49 : decode cX7_scanPerson 49 = .ok (.goto (-45), 3) := by decide +kernel
theorem dX7_scanPerson_52 : decode cX7_scanPerson 52 = .ok (.iload_n 1, 1) := by decide +kernel
theorem dX7_scanPerson_53 : decode cX7_scanPerson 53 = .ok (.ifCond .eq 24, 3) := by decide +kernel
theorem dX7_scanPerson_56 : decode cX7_scanPerson 56 = .ok (.aload_n 0, 1) := by decide +kernel
theorem dX7_scanPerson_57 : decode cX7_scanPerson 57 = .ok (.iconst 4, 1) := by decide +kernel
theorem dX7_scanPerson_58 : decode cX7_scanPerson 58 = .ok (.invokevirtual 71, 3) := by decide +kernel
theorem dX7_scanPerson_61 : decode cX7_scanPerson 61 = .ok (.ifCond .eq 16, 3) := by decide +kernel
theorem dX7_scanPerson_64 : decode cX7_scanPerson 64 = .ok (.aload_n 0, 1) := by decide +kernel
theorem dX7_scanPerson_65 : decode cX7_scanPerson 65 = .ok (.bipush 59, 2) := by decide +kernel
theorem dX7_scanPerson_67 : decode cX7_scanPerson 67 = .ok (.invokevirtual 61, 3) := by decide +kernel
theorem dX7_scanPerson_70 : decode cX7_scanPerson 70 = .ok (.ifCond .eq 7, 3) := by decide +kernel
theorem dX7_scanPerson_73 : decode cX7_scanPerson 73 = .ok (.iconst 1, 1) := by decide +kernel
theorem dX7_scanPerson_74 : decode cX7_scanPerson 74 = .ok (.goto 4, 3) := by decide +kernel
theorem dX7_scanPerson_77 : decode cX7_scanPerson 77 = .ok (.iconst 0, 1) := by decide +kernel
theorem dX7_scanPerson_78 : decode cX7_scanPerson 78 = .ok (.ireturn, 1) := by decide +kernel
theorem dX7_scanAmounts_0 : decode cX7_scanAmounts 0 = .ok (.iconst 1, 1) := by decide +kernel
theorem dX7_scanAmounts_1 : decode cX7_scanAmounts 1 = .ok (.istore_n 1, 1) := by decide +kernel
theorem dX7_scanAmounts_2 : decode cX7_scanAmounts 2 = .ok (.iconst 0, 1) := by decide +kernel
theorem dX7_scanAmounts_3 : decode cX7_scanAmounts 3 = .ok (.istore_n 2, 1) := by decide +kernel
theorem dX7_scanAmounts_4 : decode cX7_scanAmounts 4 = .ok (.iload_n 2, 1) := by decide +kernel
theorem dX7_scanAmounts_5 : decode cX7_scanAmounts 5 = .ok (.iconst 4, 1) := by decide +kernel
theorem dX7_scanAmounts_6 : decode cX7_scanAmounts 6 = .ok (.if_icmp .ge 19, 3) := by decide +kernel
theorem dX7_scanAmounts_9 : decode cX7_scanAmounts 9 = .ok (.iload_n 1, 1) := by decide +kernel
theorem dX7_scanAmounts_10 : decode cX7_scanAmounts 10 = .ok (.ifCond .eq 15, 3) := by decide +kernel
theorem dX7_scanAmounts_13 : decode cX7_scanAmounts 13 = .ok (.aload_n 0, 1) := by decide +kernel
theorem dX7_scanAmounts_14 : decode cX7_scanAmounts 14 = .ok (.iload_n 2, 1) := by decide +kernel
theorem dX7_scanAmounts_15 : decode cX7_scanAmounts 15 = .ok (.invokevirtual 71, 3) := by decide +kernel
theorem dX7_scanAmounts_18 : decode cX7_scanAmounts 18 = .ok (.istore_n 1, 1) := by decide +kernel
theorem dX7_scanAmounts_19 : decode cX7_scanAmounts 19 = .ok (.iinc 2 1, 3) := by decide +kernel
theorem dX7_scanAmounts_22 : decode cX7_scanAmounts 22 = .ok (.goto (-18), 3) := by decide +kernel
theorem dX7_scanAmounts_25 : decode cX7_scanAmounts 25 = .ok (.iload_n 1, 1) := by decide +kernel
theorem dX7_scanAmounts_26 : decode cX7_scanAmounts 26 = .ok (.ifCond .eq 16, 3) := by decide +kernel
theorem dX7_scanAmounts_29 : decode cX7_scanAmounts 29 = .ok (.aload_n 0, 1) := by decide +kernel
theorem dX7_scanAmounts_30 : decode cX7_scanAmounts 30 = .ok (.bipush 59, 2) := by decide +kernel
theorem dX7_scanAmounts_32 : decode cX7_scanAmounts 32 = .ok (.invokevirtual 61, 3) := by decide +kernel
theorem dX7_scanAmounts_35 : decode cX7_scanAmounts 35 = .ok (.ifCond .eq 7, 3) := by decide +kernel
theorem dX7_scanAmounts_38 : decode cX7_scanAmounts 38 = .ok (.iconst 1, 1) := by decide +kernel
theorem dX7_scanAmounts_39 : decode cX7_scanAmounts 39 = .ok (.goto 4, 3) := by decide +kernel
theorem dX7_scanAmounts_42 : decode cX7_scanAmounts 42 = .ok (.iconst 0, 1) := by decide +kernel
theorem dX7_scanAmounts_43 : decode cX7_scanAmounts 43 = .ok (.ireturn, 1) := by decide +kernel
theorem dX7_scanNeed_0 : decode cX7_scanNeed 0 = .ok (.aload_n 0, 1) := by decide +kernel
theorem dX7_scanNeed_1 : decode cX7_scanNeed 1 = .ok (.iload_n 1, 1) := by decide +kernel
theorem dX7_scanNeed_2 : decode cX7_scanNeed 2 = .ok (.invokevirtual 71, 3) := by decide +kernel
theorem dX7_scanNeed_5 : decode cX7_scanNeed 5 = .ok (.ifCond .ne 5, 3) := by decide +kernel
theorem dX7_scanNeed_8 : decode cX7_scanNeed 8 = .ok (.iconst 0, 1) := by decide +kernel
theorem dX7_scanNeed_9 : decode cX7_scanNeed 9 = .ok (.ireturn, 1) := by decide +kernel
theorem dX7_scanNeed_10 : decode cX7_scanNeed 10 = .ok (.aload_n 0, 1) := by decide +kernel
theorem dX7_scanNeed_11 : decode cX7_scanNeed 11 = .ok (.getfield 27, 3) := by decide +kernel
theorem dX7_scanNeed_14 : decode cX7_scanNeed 14 = .ok (.iload_n 1, 1) := by decide +kernel
theorem dX7_scanNeed_15 : decode cX7_scanNeed 15 = .ok (.iaload, 1) := by decide +kernel
theorem dX7_scanNeed_16 : decode cX7_scanNeed 16 = .ok (.istore_n 2, 1) := by decide +kernel
theorem dX7_scanNeed_17 : decode cX7_scanNeed 17 = .ok (.aload_n 0, 1) := by decide +kernel
theorem dX7_scanNeed_18 : decode cX7_scanNeed 18 = .ok (.iload_n 1, 1) := by decide +kernel
theorem dX7_scanNeed_19 : decode cX7_scanNeed 19 = .ok (.invokevirtual 71, 3) := by decide +kernel
theorem dX7_scanNeed_22 : decode cX7_scanNeed 22 = .ok (.ifCond .eq 16, 3) := by decide +kernel
theorem dX7_scanNeed_25 : decode cX7_scanNeed 25 = .ok (.aload_n 0, 1) := by decide +kernel
theorem dX7_scanNeed_26 : decode cX7_scanNeed 26 = .ok (.getfield 27, 3) := by decide +kernel
theorem dX7_scanNeed_29 : decode cX7_scanNeed 29 = .ok (.iload_n 1, 1) := by decide +kernel
theorem dX7_scanNeed_30 : decode cX7_scanNeed 30 = .ok (.dup2, 1) := by decide +kernel
theorem dX7_scanNeed_31 : decode cX7_scanNeed 31 = .ok (.iaload, 1) := by decide +kernel
theorem dX7_scanNeed_32 : decode cX7_scanNeed 32 = .ok (.iload_n 2, 1) := by decide +kernel
theorem dX7_scanNeed_33 : decode cX7_scanNeed 33 = .ok (.bipush 10, 2) := by decide +kernel
theorem dX7_scanNeed_35 : decode cX7_scanNeed 35 = .ok (.imul, 1) := by decide +kernel
theorem dX7_scanNeed_36 : decode cX7_scanNeed 36 = .ok (.iadd, 1) := by decide +kernel
theorem dX7_scanNeed_37 : decode cX7_scanNeed 37 = .ok (.iastore, 1) := by decide +kernel
theorem dX7_scanNeed_38 : decode cX7_scanNeed 38 = .ok (.iconst 1, 1) := by decide +kernel
theorem dX7_scanNeed_39 : decode cX7_scanNeed 39 = .ok (.ireturn, 1) := by decide +kernel
theorem dX7_scanKind_0 : decode cX7_scanKind 0 = .ok (.iconst 0, 1) := by decide +kernel
theorem dX7_scanKind_1 : decode cX7_scanKind 1 = .ok (.istore_n 1, 1) := by decide +kernel
theorem dX7_scanKind_2 : decode cX7_scanKind 2 = .ok (.iload_n 1, 1) := by decide +kernel
theorem dX7_scanKind_3 : decode cX7_scanKind 3 = .ok (.ldc 80, 2) := by decide +kernel
theorem dX7_scanKind_5 : decode cX7_scanKind 5 = .ok (.invokevirtual 82, 3) := by decide +kernel
theorem dX7_scanKind_8 : decode cX7_scanKind 8 = .ok (.if_icmp .ge 31, 3) := by decide +kernel
theorem dX7_scanKind_11 : decode cX7_scanKind 11 = .ok (.aload_n 0, 1) := by decide +kernel
theorem dX7_scanKind_12 : decode cX7_scanKind 12 = .ok (.ldc 80, 2) := by decide +kernel
theorem dX7_scanKind_14 : decode cX7_scanKind 14 = .ok (.iload_n 1, 1) := by decide +kernel
theorem dX7_scanKind_15 : decode cX7_scanKind 15 = .ok (.invokevirtual 87, 3) := by decide +kernel
theorem dX7_scanKind_18 : decode cX7_scanKind 18 = .ok (.invokevirtual 61, 3) := by decide +kernel
theorem dX7_scanKind_21 : decode cX7_scanKind 21 = .ok (.ifCond .eq 12, 3) := by decide +kernel
theorem dX7_scanKind_24 : decode cX7_scanKind 24 = .ok (.aload_n 0, 1) := by decide +kernel
theorem dX7_scanKind_25 : decode cX7_scanKind 25 = .ok (.getfield 27, 3) := by decide +kernel
theorem dX7_scanKind_28 : decode cX7_scanKind 28 = .ok (.iconst 0, 1) := by decide +kernel
theorem dX7_scanKind_29 : decode cX7_scanKind 29 = .ok (.iload_n 1, 1) := by decide +kernel
theorem dX7_scanKind_30 : decode cX7_scanKind 30 = .ok (.iastore, 1) := by decide +kernel
theorem dX7_scanKind_31 : decode cX7_scanKind 31 = .ok (.iconst 1, 1) := by decide +kernel
theorem dX7_scanKind_32 : decode cX7_scanKind 32 = .ok (.ireturn, 1) := by decide +kernel
theorem dX7_scanKind_33 : decode cX7_scanKind 33 = .ok (.iinc 1 1, 3) := by decide +kernel
theorem dX7_scanKind_36 : decode cX7_scanKind 36 = .ok (.goto (-34), 3) := by decide +kernel
theorem dX7_scanKind_39 : decode cX7_scanKind 39 = .ok (.iconst 0, 1) := by decide +kernel
theorem dX7_scanKind_40 : decode cX7_scanKind 40 = .ok (.ireturn, 1) := by decide +kernel
theorem dX7_scanDigit_0 : decode cX7_scanDigit 0 = .ok (.aload_n 0, 1) := by decide +kernel
theorem dX7_scanDigit_1 : decode cX7_scanDigit 1 = .ok (.getfield 14, 3) := by decide +kernel
theorem dX7_scanDigit_4 : decode cX7_scanDigit 4 = .ok (.aload_n 0, 1) := by decide +kernel
theorem dX7_scanDigit_5 : decode cX7_scanDigit 5 = .ok (.getfield 39, 3) := by decide +kernel
theorem dX7_scanDigit_8 : decode cX7_scanDigit 8 = .ok (.invokevirtual 53, 3) := by decide +kernel
theorem dX7_scanDigit_11 : decode cX7_scanDigit 11 = .ok (.istore_n 2, 1) := by decide +kernel
theorem dX7_scanDigit_12 : decode cX7_scanDigit 12 = .ok (.iload_n 2, 1) := by decide +kernel
theorem dX7_scanDigit_13 : decode cX7_scanDigit 13 = .ok (.bipush 48, 2) := by decide +kernel
theorem dX7_scanDigit_15 : decode cX7_scanDigit 15 = .ok (.if_icmp .lt 22, 3) := by decide +kernel
theorem dX7_scanDigit_18 : decode cX7_scanDigit 18 = .ok (.iload_n 2, 1) := by decide +kernel
theorem dX7_scanDigit_19 : decode cX7_scanDigit 19 = .ok (.bipush 57, 2) := by decide +kernel
theorem dX7_scanDigit_21 : decode cX7_scanDigit 21 = .ok (.if_icmp .gt 16, 3) := by decide +kernel
theorem dX7_scanDigit_24 : decode cX7_scanDigit 24 = .ok (.iload_n 1, 1) := by decide +kernel
theorem dX7_scanDigit_25 : decode cX7_scanDigit 25 = .ok (.ifCond .lt 12, 3) := by decide +kernel
theorem dX7_scanDigit_28 : decode cX7_scanDigit 28 = .ok (.iload_n 1, 1) := by decide +kernel
theorem dX7_scanDigit_29 : decode cX7_scanDigit 29 = .ok (.aload_n 0, 1) := by decide +kernel
theorem dX7_scanDigit_30 : decode cX7_scanDigit 30 = .ok (.getfield 27, 3) := by decide +kernel
theorem dX7_scanDigit_33 : decode cX7_scanDigit 33 = .ok (.arraylength, 1) := by decide +kernel
theorem dX7_scanDigit_34 : decode cX7_scanDigit 34 = .ok (.if_icmp .lt 5, 3) := by decide +kernel
theorem dX7_scanDigit_37 : decode cX7_scanDigit 37 = .ok (.iconst 0, 1) := by decide +kernel
theorem dX7_scanDigit_38 : decode cX7_scanDigit 38 = .ok (.ireturn, 1) := by decide +kernel
theorem dX7_scanDigit_39 : decode cX7_scanDigit 39 = .ok (.aload_n 0, 1) := by decide +kernel
theorem dX7_scanDigit_40 : decode cX7_scanDigit 40 = .ok (.getfield 27, 3) := by decide +kernel
theorem dX7_scanDigit_43 : decode cX7_scanDigit 43 = .ok (.iload_n 1, 1) := by decide +kernel
theorem dX7_scanDigit_44 : decode cX7_scanDigit 44 = .ok (.iload_n 2, 1) := by decide +kernel
theorem dX7_scanDigit_45 : decode cX7_scanDigit 45 = .ok (.bipush 48, 2) := by decide +kernel
theorem dX7_scanDigit_47 : decode cX7_scanDigit 47 = .ok (.isub, 1) := by decide +kernel
theorem dX7_scanDigit_48 : decode cX7_scanDigit 48 = .ok (.iastore, 1) := by decide +kernel
theorem dX7_scanDigit_49 : decode cX7_scanDigit 49 = .ok (.aload_n 0, 1) := by decide +kernel
theorem dX7_scanDigit_50 : decode cX7_scanDigit 50 = .ok (.dup, 1) := by decide +kernel
theorem dX7_scanDigit_51 : decode cX7_scanDigit 51 = .ok (.getfield 39, 3) := by decide +kernel
theorem dX7_scanDigit_54 : decode cX7_scanDigit 54 = .ok (.iconst 1, 1) := by decide +kernel
theorem dX7_scanDigit_55 : decode cX7_scanDigit 55 = .ok (.iadd, 1) := by decide +kernel
theorem dX7_scanDigit_56 : decode cX7_scanDigit 56 = .ok (.putfield 39, 3) := by decide +kernel
theorem dX7_scanDigit_59 : decode cX7_scanDigit 59 = .ok (.iconst 1, 1) := by decide +kernel
theorem dX7_scanDigit_60 : decode cX7_scanDigit 60 = .ok (.ireturn, 1) := by decide +kernel
theorem dX7_pass_0 : decode cX7_pass 0 = .ok (.aload_n 0, 1) := by decide +kernel
theorem dX7_pass_1 : decode cX7_pass 1 = .ok (.getfield 14, 3) := by decide +kernel
theorem dX7_pass_4 : decode cX7_pass 4 = .ok (.aload_n 0, 1) := by decide +kernel
theorem dX7_pass_5 : decode cX7_pass 5 = .ok (.getfield 39, 3) := by decide +kernel
theorem dX7_pass_8 : decode cX7_pass 8 = .ok (.invokevirtual 53, 3) := by decide +kernel
theorem dX7_pass_11 : decode cX7_pass 11 = .ok (.iload_n 1, 1) := by decide +kernel
theorem dX7_pass_12 : decode cX7_pass 12 = .ok (.if_icmp .eq 5, 3) := by decide +kernel
theorem dX7_pass_15 : decode cX7_pass 15 = .ok (.iconst 0, 1) := by decide +kernel
theorem dX7_pass_16 : decode cX7_pass 16 = .ok (.ireturn, 1) := by decide +kernel
theorem dX7_pass_17 : decode cX7_pass 17 = .ok (.aload_n 0, 1) := by decide +kernel
theorem dX7_pass_18 : decode cX7_pass 18 = .ok (.dup, 1) := by decide +kernel
theorem dX7_pass_19 : decode cX7_pass 19 = .ok (.getfield 39, 3) := by decide +kernel
theorem dX7_pass_22 : decode cX7_pass 22 = .ok (.iconst 1, 1) := by decide +kernel
theorem dX7_pass_23 : decode cX7_pass 23 = .ok (.iadd, 1) := by decide +kernel
theorem dX7_pass_24 : decode cX7_pass 24 = .ok (.putfield 39, 3) := by decide +kernel
theorem dX7_pass_27 : decode cX7_pass 27 = .ok (.iconst 1, 1) := by decide +kernel
theorem dX7_pass_28 : decode cX7_pass 28 = .ok (.ireturn, 1) := by decide +kernel
theorem dX7_enter_0 : decode cX7_enter 0 = .ok (.iload_n 1, 1) := by decide +kernel
theorem dX7_enter_1 : decode cX7_enter 1 = .ok (.bipush 112, 2) := by decide +kernel
theorem dX7_enter_3 : decode cX7_enter 3 = .ok (.if_icmp .ne 8, 3) := by decide +kernel
theorem dX7_enter_6 : decode cX7_enter 6 = .ok (.aload_n 0, 1) := by decide +kernel
theorem dX7_enter_7 : decode cX7_enter 7 = .ok (.invokevirtual 91, 3) := by decide +kernel
theorem dX7_enter_10 : decode cX7_enter 10 = .ok (.ireturn, 1) := by decide +kernel
theorem dX7_enter_11 : decode cX7_enter 11 = .ok (.iload_n 1, 1) := by decide +kernel
theorem dX7_enter_12 : decode cX7_enter 12 = .ok (.bipush 119, 2) := by decide +kernel
theorem dX7_enter_14 : decode cX7_enter 14 = .ok (.if_icmp .ne 10, 3) := by decide +kernel
theorem dX7_enter_17 : decode cX7_enter 17 = .ok (.aload_n 0, 1) := by decide +kernel
theorem dX7_enter_18 : decode cX7_enter 18 = .ok (.invokevirtual 94, 3) := by decide +kernel
theorem dX7_enter_21 : decode cX7_enter 21 = .ok (.goto 7, 3) := by decide +kernel
theorem dX7_enter_24 : decode cX7_enter 24 = .ok (.aload_n 0, 1) := by decide +kernel
theorem dX7_enter_25 : decode cX7_enter 25 = .ok (.invokevirtual 97, 3) := by decide +kernel
theorem dX7_enter_28 : decode cX7_enter 28 = .ok (.ireturn, 1) := by decide +kernel
theorem dX7_enterPerson_0 : decode cX7_enterPerson 0 = .ok (.aload_n 0, 1) := by decide +kernel
theorem dX7_enterPerson_1 : decode cX7_enterPerson 1 = .ok (.getfield 23, 3) := by decide +kernel
theorem dX7_enterPerson_4 : decode cX7_enterPerson 4 = .ok (.getfield 100, 3) := by decide +kernel
theorem dX7_enterPerson_7 : decode cX7_enterPerson 7 = .ok (.getfield 104, 3) := by decide +kernel
theorem dX7_enterPerson_10 : decode cX7_enterPerson 10 = .ok (.istore_n 1, 1) := by decide +kernel
theorem dX7_enterPerson_11 : decode cX7_enterPerson 11 = .ok (.aload_n 0, 1) := by decide +kernel
theorem dX7_enterPerson_12 : decode cX7_enterPerson 12 = .ok (.bipush 30, 2) := by decide +kernel
theorem dX7_enterPerson_14 : decode cX7_enterPerson 14 = .ok (.invokevirtual 107, 3) := by decide +kernel
theorem dX7_enterPerson_17 : decode cX7_enterPerson 17 = .ok (.ifCond .eq 22, 3) := by decide +kernel
theorem dX7_enterPerson_20 : decode cX7_enterPerson 20 = .ok (.aload_n 0, 1) := by decide +kernel
theorem dX7_enterPerson_21 : decode cX7_enterPerson 21 = .ok (.getfield 23, 3) := by decide +kernel
theorem dX7_enterPerson_24 : decode cX7_enterPerson 24 = .ok (.getfield 100, 3) := by decide +kernel
theorem dX7_enterPerson_27 : decode cX7_enterPerson 27 = .ok (.aload_n 0, 1) := by decide +kernel
theorem dX7_enterPerson_28 : decode cX7_enterPerson 28 = .ok (.getfield 27, 3) := by decide +kernel
theorem dX7_enterPerson_31 : decode cX7_enterPerson 31 = .ok (.iconst 4, 1) := by decide +kernel
theorem dX7_enterPerson_32 : decode cX7_enterPerson 32 = .ok (.iaload, 1) := by decide +kernel
theorem dX7_enterPerson_33 : decode cX7_enterPerson 33 = .ok (.invokevirtual 110, 3) := by decide +kernel
theorem dX7_enterPerson_36 : decode cX7_enterPerson 36 = .ok (.ifCond .ne 5, 3) := by decide +kernel
theorem dX7_enterPerson_39 : decode cX7_enterPerson 39 = .ok (.iconst 0, 1) := by decide +kernel
theorem dX7_enterPerson_40 : decode cX7_enterPerson 40 = .ok (.ireturn, 1) := by decide +kernel
theorem dX7_enterPerson_41 : decode cX7_enterPerson 41 = .ok (.iconst 0, 1) := by decide +kernel
theorem dX7_enterPerson_42 : decode cX7_enterPerson 42 = .ok (.istore_n 2, 1) := by decide +kernel
theorem dX7_enterPerson_43 : decode cX7_enterPerson 43 = .ok (.iload_n 2, 1) := by decide +kernel
theorem dX7_enterPerson_44 : decode cX7_enterPerson 44 = .ok (.iconst 4, 1) := by decide +kernel
theorem dX7_enterPerson_45 : decode cX7_enterPerson 45 = .ok (.if_icmp .ge 27, 3) := by decide +kernel
theorem dX7_enterPerson_48 : decode cX7_enterPerson 48 = .ok (.aload_n 0, 1) := by decide +kernel
theorem dX7_enterPerson_49 : decode cX7_enterPerson 49 = .ok (.getfield 23, 3) := by decide +kernel
theorem dX7_enterPerson_52 : decode cX7_enterPerson 52 = .ok (.getfield 100, 3) := by decide +kernel
theorem dX7_enterPerson_55 : decode cX7_enterPerson 55 = .ok (.iload_n 1, 1) := by decide +kernel
theorem dX7_enterPerson_56 : decode cX7_enterPerson 56 = .ok (.iload_n 2, 1) := by decide +kernel
theorem dX7_enterPerson_57 : decode cX7_enterPerson 57 = .ok (.aload_n 0, 1) := by decide +kernel
theorem dX7_enterPerson_58 : decode cX7_enterPerson 58 = .ok (.getfield 27, 3) := by decide +kernel
theorem dX7_enterPerson_61 : decode cX7_enterPerson 61 = .ok (.iload_n 2, 1) := by decide +kernel
theorem dX7_enterPerson_62 : decode cX7_enterPerson 62 = .ok (.iaload, 1) := by decide +kernel
theorem dX7_enterPerson_63 : decode cX7_enterPerson 63 = .ok (.invokevirtual 111, 3) := by decide +kernel
theorem dX7_enterPerson_66 : decode cX7_enterPerson 66 = .ok (.iinc 2 1, 3) := by decide +kernel
theorem dX7_enterPerson_69 : decode cX7_enterPerson 69 = .ok (.goto (-26), 3) := by decide +kernel
theorem dX7_enterPerson_72 : decode cX7_enterPerson 72 = .ok (.iconst 1, 1) := by decide +kernel
theorem dX7_enterPerson_73 : decode cX7_enterPerson 73 = .ok (.ireturn, 1) := by decide +kernel
theorem dX7_enterWriter_0 : decode cX7_enterWriter 0 = .ok (.aload_n 0, 1) := by decide +kernel
theorem dX7_enterWriter_1 : decode cX7_enterWriter 1 = .ok (.getfield 23, 3) := by decide +kernel
theorem dX7_enterWriter_4 : decode cX7_enterWriter 4 = .ok (.getfield 115, 3) := by decide +kernel
theorem dX7_enterWriter_7 : decode cX7_enterWriter 7 = .ok (.invokevirtual 118, 3) := by decide +kernel
theorem dX7_enterWriter_10 : decode cX7_enterWriter 10 = .ok (.ifCond .ne 22, 3) := by decide +kernel
theorem dX7_enterWriter_13 : decode cX7_enterWriter 13 = .ok (.aload_n 0, 1) := by decide +kernel
theorem dX7_enterWriter_14 : decode cX7_enterWriter 14 = .ok (.getfield 23, 3) := by decide +kernel
theorem dX7_enterWriter_17 : decode cX7_enterWriter 17 = .ok (.getfield 100, 3) := by decide +kernel
theorem dX7_enterWriter_20 : decode cX7_enterWriter 20 = .ok (.aload_n 0, 1) := by decide +kernel
theorem dX7_enterWriter_21 : decode cX7_enterWriter 21 = .ok (.getfield 27, 3) := by decide +kernel
theorem dX7_enterWriter_24 : decode cX7_enterWriter 24 = .ok (.iconst 1, 1) := by decide +kernel
theorem dX7_enterWriter_25 : decode cX7_enterWriter 25 = .ok (.iaload, 1) := by decide +kernel
theorem dX7_enterWriter_26 : decode cX7_enterWriter 26 = .ok (.invokevirtual 121, 3) := by decide +kernel
theorem dX7_enterWriter_29 : decode cX7_enterWriter 29 = .ok (.ifCond .ne 5, 3) := by decide +kernel
theorem dX7_enterWriter_32 : decode cX7_enterWriter 32 = .ok (.iconst 0, 1) := by decide +kernel
theorem dX7_enterWriter_33 : decode cX7_enterWriter 33 = .ok (.ireturn, 1) := by decide +kernel
theorem dX7_enterWriter_34 : decode cX7_enterWriter 34 = .ok (.aload_n 0, 1) := by decide +kernel
theorem dX7_enterWriter_35 : decode cX7_enterWriter 35 = .ok (.getfield 23, 3) := by decide +kernel
theorem dX7_enterWriter_38 : decode cX7_enterWriter 38 = .ok (.getfield 115, 3) := by decide +kernel
theorem dX7_enterWriter_41 : decode cX7_enterWriter 41 = .ok (.aload_n 0, 1) := by decide +kernel
theorem dX7_enterWriter_42 : decode cX7_enterWriter 42 = .ok (.getfield 27, 3) := by decide +kernel
theorem dX7_enterWriter_45 : decode cX7_enterWriter 45 = .ok (.iconst 0, 1) := by decide +kernel
theorem dX7_enterWriter_46 : decode cX7_enterWriter 46 = .ok (.iaload, 1) := by decide +kernel
theorem dX7_enterWriter_47 : decode cX7_enterWriter 47 = .ok (.invokevirtual 124, 3) := by decide +kernel
theorem dX7_enterWriter_50 : decode cX7_enterWriter 50 = .ok (.aload_n 0, 1) := by decide +kernel
theorem dX7_enterWriter_51 : decode cX7_enterWriter 51 = .ok (.getfield 23, 3) := by decide +kernel
theorem dX7_enterWriter_54 : decode cX7_enterWriter 54 = .ok (.getfield 127, 3) := by decide +kernel
theorem dX7_enterWriter_57 : decode cX7_enterWriter 57 = .ok (.aload_n 0, 1) := by decide +kernel
theorem dX7_enterWriter_58 : decode cX7_enterWriter 58 = .ok (.getfield 27, 3) := by decide +kernel
theorem dX7_enterWriter_61 : decode cX7_enterWriter 61 = .ok (.iconst 1, 1) := by decide +kernel
theorem dX7_enterWriter_62 : decode cX7_enterWriter 62 = .ok (.iaload, 1) := by decide +kernel
theorem dX7_enterWriter_63 : decode cX7_enterWriter 63 = .ok (.invokevirtual 124, 3) := by decide +kernel
theorem dX7_enterWriter_66 : decode cX7_enterWriter 66 = .ok (.aload_n 0, 1) := by decide +kernel
theorem dX7_enterWriter_67 : decode cX7_enterWriter 67 = .ok (.getfield 23, 3) := by decide +kernel
theorem dX7_enterWriter_70 : decode cX7_enterWriter 70 = .ok (.getfield 130, 3) := by decide +kernel
theorem dX7_enterWriter_73 : decode cX7_enterWriter 73 = .ok (.iconst 0, 1) := by decide +kernel
theorem dX7_enterWriter_74 : decode cX7_enterWriter 74 = .ok (.invokevirtual 124, 3) := by decide +kernel
theorem dX7_enterWriter_77 : decode cX7_enterWriter 77 = .ok (.iconst 1, 1) := by decide +kernel
theorem dX7_enterWriter_78 : decode cX7_enterWriter 78 = .ok (.ireturn, 1) := by decide +kernel
theorem dX7_enterAmounts_0 : decode cX7_enterAmounts 0 = .ok (.aload_n 0, 1) := by decide +kernel
theorem dX7_enterAmounts_1 : decode cX7_enterAmounts 1 = .ok (.getfield 23, 3) := by decide +kernel
theorem dX7_enterAmounts_4 : decode cX7_enterAmounts 4 = .ok (.getfield 130, 3) := by decide +kernel
theorem dX7_enterAmounts_7 : decode cX7_enterAmounts 7 = .ok (.getfield 50, 3) := by decide +kernel
theorem dX7_enterAmounts_10 : decode cX7_enterAmounts 10 = .ok (.ifCond .eq 11, 3) := by decide +kernel
theorem dX7_enterAmounts_13 : decode cX7_enterAmounts 13 = .ok (.aload_n 0, 1) := by decide +kernel
theorem dX7_enterAmounts_14 : decode cX7_enterAmounts 14 = .ok (.iconst 5, 1) := by decide +kernel
theorem dX7_enterAmounts_15 : decode cX7_enterAmounts 15 = .ok (.invokevirtual 107, 3) := by decide +kernel
theorem dX7_enterAmounts_18 : decode cX7_enterAmounts 18 = .ok (.ifCond .ne 5, 3) := by decide +kernel
theorem dX7_enterAmounts_21 : decode cX7_enterAmounts 21 = .ok (.iconst 0, 1) := by decide +kernel
theorem dX7_enterAmounts_22 : decode cX7_enterAmounts 22 = .ok (.ireturn, 1) := by decide +kernel
theorem dX7_enterAmounts_23 : decode cX7_enterAmounts 23 = .ok (.iconst 0, 1) := by decide +kernel
theorem dX7_enterAmounts_24 : decode cX7_enterAmounts 24 = .ok (.istore_n 1, 1) := by decide +kernel
theorem dX7_enterAmounts_25 : decode cX7_enterAmounts 25 = .ok (.iconst 0, 1) := by decide +kernel
theorem dX7_enterAmounts_26 : decode cX7_enterAmounts 26 = .ok (.istore_n 2, 1) := by decide +kernel
theorem dX7_enterAmounts_27 : decode cX7_enterAmounts 27 = .ok (.iload_n 2, 1) := by decide +kernel
theorem dX7_enterAmounts_28 : decode cX7_enterAmounts 28 = .ok (.iconst 4, 1) := by decide +kernel
theorem dX7_enterAmounts_29 : decode cX7_enterAmounts 29 = .ok (.if_icmp .ge 24, 3) := by decide +kernel
theorem dX7_enterAmounts_32 : decode cX7_enterAmounts 32 = .ok (.iload_n 1, 1) := by decide +kernel
theorem dX7_enterAmounts_33 : decode cX7_enterAmounts 33 = .ok (.aload_n 0, 1) := by decide +kernel
theorem dX7_enterAmounts_34 : decode cX7_enterAmounts 34 = .ok (.getfield 27, 3) := by decide +kernel
theorem dX7_enterAmounts_37 : decode cX7_enterAmounts 37 = .ok (.iload_n 2, 1) := by decide +kernel
theorem dX7_enterAmounts_38 : decode cX7_enterAmounts 38 = .ok (.iaload, 1) := by decide +kernel
theorem dX7_enterAmounts_39 : decode cX7_enterAmounts 39 = .ok (.getstatic 133, 3) := by decide +kernel
theorem dX7_enterAmounts_42 : decode cX7_enterAmounts 42 = .ok (.iload_n 2, 1) := by decide +kernel
theorem dX7_enterAmounts_43 : decode cX7_enterAmounts 43 = .ok (.iaload, 1) := by decide +kernel
theorem dX7_enterAmounts_44 : decode cX7_enterAmounts 44 = .ok (.imul, 1) := by decide +kernel
theorem dX7_enterAmounts_45 : decode cX7_enterAmounts 45 = .ok (.iadd, 1) := by decide +kernel
theorem dX7_enterAmounts_46 : decode cX7_enterAmounts 46 = .ok (.istore_n 1, 1) := by decide +kernel
theorem dX7_enterAmounts_47 : decode cX7_enterAmounts 47 = .ok (.iinc 2 1, 3) := by decide +kernel
theorem dX7_enterAmounts_50 : decode cX7_enterAmounts 50 = .ok (.goto (-23), 3) := by decide +kernel
theorem dX7_enterAmounts_53 : decode cX7_enterAmounts 53 = .ok (.aload_n 0, 1) := by decide +kernel
theorem dX7_enterAmounts_54 : decode cX7_enterAmounts 54 = .ok (.getfield 23, 3) := by decide +kernel
theorem dX7_enterAmounts_57 : decode cX7_enterAmounts 57 = .ok (.getfield 130, 3) := by decide +kernel
theorem dX7_enterAmounts_60 : decode cX7_enterAmounts 60 = .ok (.aload_n 0, 1) := by decide +kernel
theorem dX7_enterAmounts_61 : decode cX7_enterAmounts 61 = .ok (.getfield 23, 3) := by decide +kernel
theorem dX7_enterAmounts_64 : decode cX7_enterAmounts 64 = .ok (.getfield 130, 3) := by decide +kernel
theorem dX7_enterAmounts_67 : decode cX7_enterAmounts 67 = .ok (.getfield 50, 3) := by decide +kernel
theorem dX7_enterAmounts_70 : decode cX7_enterAmounts 70 = .ok (.iconst 1, 1) := by decide +kernel
theorem dX7_enterAmounts_71 : decode cX7_enterAmounts 71 = .ok (.isub, 1) := by decide +kernel
theorem dX7_enterAmounts_72 : decode cX7_enterAmounts 72 = .ok (.iload_n 1, 1) := by decide +kernel
theorem dX7_enterAmounts_73 : decode cX7_enterAmounts 73 = .ok (.invokevirtual 136, 3) := by decide +kernel
theorem dX7_enterAmounts_76 : decode cX7_enterAmounts 76 = .ok (.iconst 1, 1) := by decide +kernel
theorem dX7_enterAmounts_77 : decode cX7_enterAmounts 77 = .ok (.ireturn, 1) := by decide +kernel
theorem dX7_areAtMost_0 : decode cX7_areAtMost 0 = .ok (.iconst 0, 1) := by decide +kernel
theorem dX7_areAtMost_1 : decode cX7_areAtMost 1 = .ok (.istore_n 2, 1) := by decide +kernel
theorem dX7_areAtMost_2 : decode cX7_areAtMost 2 = .ok (.iload_n 2, 1) := by decide +kernel
theorem dX7_areAtMost_3 : decode cX7_areAtMost 3 = .ok (.iconst 4, 1) := by decide +kernel
theorem dX7_areAtMost_4 : decode cX7_areAtMost 4 = .ok (.if_icmp .ge 21, 3) := by decide +kernel
theorem dX7_areAtMost_7 : decode cX7_areAtMost 7 = .ok (.aload_n 0, 1) := by decide +kernel
theorem dX7_areAtMost_8 : decode cX7_areAtMost 8 = .ok (.getfield 27, 3) := by decide +kernel
theorem dX7_areAtMost_11 : decode cX7_areAtMost 11 = .ok (.iload_n 2, 1) := by decide +kernel
theorem dX7_areAtMost_12 : decode cX7_areAtMost 12 = .ok (.iaload, 1) := by decide +kernel
theorem dX7_areAtMost_13 : decode cX7_areAtMost 13 = .ok (.iload_n 1, 1) := by decide +kernel
theorem dX7_areAtMost_14 : decode cX7_areAtMost 14 = .ok (.if_icmp .le 5, 3) := by decide +kernel
theorem dX7_areAtMost_17 : decode cX7_areAtMost 17 = .ok (.iconst 0, 1) := by decide +kernel
theorem dX7_areAtMost_18 : decode cX7_areAtMost 18 = .ok (.ireturn, 1) := by decide +kernel
theorem dX7_areAtMost_19 : decode cX7_areAtMost 19 = .ok (.iinc 2 1, 3) := by decide +kernel
theorem dX7_areAtMost_22 : decode cX7_areAtMost 22 = .ok (.goto (-20), 3) := by decide +kernel
theorem dX7_areAtMost_25 : decode cX7_areAtMost 25 = .ok (.iconst 1, 1) := by decide +kernel
theorem dX7_areAtMost_26 : decode cX7_areAtMost 26 = .ok (.ireturn, 1) := by decide +kernel
theorem dX8_init_0 : decode cX8_init 0 = .ok (.aload_n 0, 1) := by decide +kernel
theorem dX8_init_1 : decode cX8_init 1 = .ok (.iconst 1, 1) := by decide +kernel
theorem dX8_init_2 : decode cX8_init 2 = .ok (.invokespecial 1, 3) := by decide +kernel
theorem dX8_init_5 : decode cX8_init 5 = .ok (.return_, 1) := by decide +kernel
theorem dX9_init_0 : decode cX9_init 0 = .ok (.aload_n 0, 1) := by decide +kernel
theorem dX9_init_1 : decode cX9_init 1 = .ok (.invokespecial 3, 3) := by decide +kernel
theorem dX9_init_4 : decode cX9_init 4 = .ok (.aload_n 0, 1) := by decide +kernel
theorem dX9_init_5 : decode cX9_init 5 = .ok (.new 9, 3) := by decide +kernel
theorem dX9_init_8 : decode cX9_init 8 = .ok (.dup, 1) := by decide +kernel
theorem dX9_init_9 : decode cX9_init 9 = .ok (.invokespecial 11, 3) := by decide +kernel
theorem dX9_init_12 : decode cX9_init 12 = .ok (.putfield 12, 3) := by decide +kernel
theorem dX9_init_15 : decode cX9_init 15 = .ok (.aload_n 0, 1) := by decide +kernel
theorem dX9_init_16 : decode cX9_init 16 = .ok (.new 18, 3) := by decide +kernel
theorem dX9_init_19 : decode cX9_init 19 = .ok (.dup, 1) := by decide +kernel
theorem dX9_init_20 : decode cX9_init 20 = .ok (.iconst 4, 1) := by decide +kernel
theorem dX9_init_21 : decode cX9_init 21 = .ok (.invokespecial 20, 3) := by decide +kernel
theorem dX9_init_24 : decode cX9_init 24 = .ok (.putfield 23, 3) := by decide +kernel
theorem dX9_init_27 : decode cX9_init 27 = .ok (.aload_n 0, 1) := by decide +kernel
theorem dX9_init_28 : decode cX9_init 28 = .ok (.new 18, 3) := by decide +kernel
theorem dX9_init_31 : decode cX9_init 31 = .ok (.dup, 1) := by decide +kernel
theorem dX9_init_32 : decode cX9_init 32 = .ok (.iconst 4, 1) := by decide +kernel
theorem dX9_init_33 : decode cX9_init 33 = .ok (.invokespecial 20, 3) := by decide +kernel
theorem dX9_init_36 : decode cX9_init 36 = .ok (.putfield 27, 3) := by decide +kernel
theorem dX9_init_39 : decode cX9_init 39 = .ok (.aload_n 0, 1) := by decide +kernel
theorem dX9_init_40 : decode cX9_init 40 = .ok (.new 18, 3) := by decide +kernel
theorem dX9_init_43 : decode cX9_init 43 = .ok (.dup, 1) := by decide +kernel
theorem dX9_init_44 : decode cX9_init 44 = .ok (.iconst 4, 1) := by decide +kernel
theorem dX9_init_45 : decode cX9_init 45 = .ok (.invokespecial 20, 3) := by decide +kernel
theorem dX9_init_48 : decode cX9_init 48 = .ok (.putfield 30, 3) := by decide +kernel
theorem dX9_init_51 : decode cX9_init 51 = .ok (.aload_n 0, 1) := by decide +kernel
theorem dX9_init_52 : decode cX9_init 52 = .ok (.new 18, 3) := by decide +kernel
theorem dX9_init_55 : decode cX9_init 55 = .ok (.dup, 1) := by decide +kernel
theorem dX9_init_56 : decode cX9_init 56 = .ok (.iconst 5, 1) := by decide +kernel
theorem dX9_init_57 : decode cX9_init 57 = .ok (.invokespecial 20, 3) := by decide +kernel
theorem dX9_init_60 : decode cX9_init 60 = .ok (.putfield 33, 3) := by decide +kernel
theorem dX9_init_63 : decode cX9_init 63 = .ok (.aload_n 0, 1) := by decide +kernel
theorem dX9_init_64 : decode cX9_init 64 = .ok (.new 18, 3) := by decide +kernel
theorem dX9_init_67 : decode cX9_init 67 = .ok (.dup, 1) := by decide +kernel
theorem dX9_init_68 : decode cX9_init 68 = .ok (.bipush 6, 2) := by decide +kernel
theorem dX9_init_70 : decode cX9_init 70 = .ok (.invokespecial 20, 3) := by decide +kernel
theorem dX9_init_73 : decode cX9_init 73 = .ok (.putfield 36, 3) := by decide +kernel
theorem dX9_init_76 : decode cX9_init 76 = .ok (.aload_n 0, 1) := by decide +kernel
theorem dX9_init_77 : decode cX9_init 77 = .ok (.new 18, 3) := by decide +kernel
theorem dX9_init_80 : decode cX9_init 80 = .ok (.dup, 1) := by decide +kernel
theorem dX9_init_81 : decode cX9_init 81 = .ok (.bipush 6, 2) := by decide +kernel
theorem dX9_init_83 : decode cX9_init 83 = .ok (.invokespecial 20, 3) := by decide +kernel
theorem dX9_init_86 : decode cX9_init 86 = .ok (.putfield 39, 3) := by decide +kernel
theorem dX9_init_89 : decode cX9_init 89 = .ok (.return_, 1) := by decide +kernel
theorem dX9_isWriter_0 : decode cX9_isWriter 0 = .ok (.iload_n 1, 1) := by decide +kernel
theorem dX9_isWriter_1 : decode cX9_isWriter 1 = .ok (.ifCond .lt 18, 3) := by decide +kernel
theorem dX9_isWriter_4 : decode cX9_isWriter 4 = .ok (.iload_n 1, 1) := by decide +kernel
theorem dX9_isWriter_5 : decode cX9_isWriter 5 = .ok (.aload_n 0, 1) := by decide +kernel
theorem dX9_isWriter_6 : decode cX9_isWriter 6 = .ok (.getfield 23, 3) := by decide +kernel
theorem dX9_isWriter_9 : decode cX9_isWriter 9 = .ok (.getfield 42, 3) := by decide +kernel
theorem dX9_isWriter_12 : decode cX9_isWriter 12 = .ok (.if_icmp .ge 7, 3) := by decide +kernel
theorem dX9_isWriter_15 : decode cX9_isWriter 15 = .ok (.iconst 1, 1) := by decide +kernel
theorem dX9_isWriter_16 : decode cX9_isWriter 16 = .ok (.goto 4, 3) := by decide +kernel
theorem dX9_isWriter_19 : decode cX9_isWriter 19 = .ok (.iconst 0, 1) := by decide +kernel
theorem dX9_isWriter_20 : decode cX9_isWriter 20 = .ok (.ireturn, 1) := by decide +kernel
theorem dX9_takeFrom_0 : decode cX9_takeFrom 0 = .ok (.aload_n 0, 1) := by decide +kernel
theorem dX9_takeFrom_1 : decode cX9_takeFrom 1 = .ok (.getfield 12, 3) := by decide +kernel
theorem dX9_takeFrom_4 : decode cX9_takeFrom 4 = .ok (.aload_n 1, 1) := by decide +kernel
theorem dX9_takeFrom_5 : decode cX9_takeFrom 5 = .ok (.getfield 12, 3) := by decide +kernel
theorem dX9_takeFrom_8 : decode cX9_takeFrom 8 = .ok (.invokevirtual 46, 3) := by decide +kernel
theorem dX9_takeFrom_11 : decode cX9_takeFrom 11 = .ok (.aload_n 0, 1) := by decide +kernel
theorem dX9_takeFrom_12 : decode cX9_takeFrom 12 = .ok (.getfield 23, 3) := by decide +kernel
theorem dX9_takeFrom_15 : decode cX9_takeFrom 15 = .ok (.aload_n 1, 1) := by decide +kernel
theorem dX9_takeFrom_16 : decode cX9_takeFrom 16 = .ok (.getfield 23, 3) := by decide +kernel
theorem dX9_takeFrom_19 : decode cX9_takeFrom 19 = .ok (.invokevirtual 50, 3) := by decide +kernel
theorem dX9_takeFrom_22 : decode cX9_takeFrom 22 = .ok (.aload_n 0, 1) := by decide +kernel
theorem dX9_takeFrom_23 : decode cX9_takeFrom 23 = .ok (.getfield 27, 3) := by decide +kernel
theorem dX9_takeFrom_26 : decode cX9_takeFrom 26 = .ok (.aload_n 1, 1) := by decide +kernel
theorem dX9_takeFrom_27 : decode cX9_takeFrom 27 = .ok (.getfield 27, 3) := by decide +kernel
theorem dX9_takeFrom_30 : decode cX9_takeFrom 30 = .ok (.invokevirtual 50, 3) := by decide +kernel
theorem dX9_takeFrom_33 : decode cX9_takeFrom 33 = .ok (.aload_n 0, 1) := by decide +kernel
theorem dX9_takeFrom_34 : decode cX9_takeFrom 34 = .ok (.getfield 30, 3) := by decide +kernel
theorem dX9_takeFrom_37 : decode cX9_takeFrom 37 = .ok (.aload_n 1, 1) := by decide +kernel
theorem dX9_takeFrom_38 : decode cX9_takeFrom 38 = .ok (.getfield 30, 3) := by decide +kernel
theorem dX9_takeFrom_41 : decode cX9_takeFrom 41 = .ok (.invokevirtual 50, 3) := by decide +kernel
theorem dX9_takeFrom_44 : decode cX9_takeFrom 44 = .ok (.aload_n 0, 1) := by decide +kernel
theorem dX9_takeFrom_45 : decode cX9_takeFrom 45 = .ok (.getfield 33, 3) := by decide +kernel
theorem dX9_takeFrom_48 : decode cX9_takeFrom 48 = .ok (.aload_n 1, 1) := by decide +kernel
theorem dX9_takeFrom_49 : decode cX9_takeFrom 49 = .ok (.getfield 33, 3) := by decide +kernel
theorem dX9_takeFrom_52 : decode cX9_takeFrom 52 = .ok (.invokevirtual 50, 3) := by decide +kernel
theorem dX9_takeFrom_55 : decode cX9_takeFrom 55 = .ok (.aload_n 0, 1) := by decide +kernel
theorem dX9_takeFrom_56 : decode cX9_takeFrom 56 = .ok (.getfield 36, 3) := by decide +kernel
theorem dX9_takeFrom_59 : decode cX9_takeFrom 59 = .ok (.aload_n 1, 1) := by decide +kernel
theorem dX9_takeFrom_60 : decode cX9_takeFrom 60 = .ok (.getfield 36, 3) := by decide +kernel
theorem dX9_takeFrom_63 : decode cX9_takeFrom 63 = .ok (.invokevirtual 50, 3) := by decide +kernel
theorem dX9_takeFrom_66 : decode cX9_takeFrom 66 = .ok (.aload_n 0, 1) := by decide +kernel
theorem dX9_takeFrom_67 : decode cX9_takeFrom 67 = .ok (.getfield 39, 3) := by decide +kernel
theorem dX9_takeFrom_70 : decode cX9_takeFrom 70 = .ok (.aload_n 1, 1) := by decide +kernel
theorem dX9_takeFrom_71 : decode cX9_takeFrom 71 = .ok (.getfield 39, 3) := by decide +kernel
theorem dX9_takeFrom_74 : decode cX9_takeFrom 74 = .ok (.invokevirtual 50, 3) := by decide +kernel
theorem dX9_takeFrom_77 : decode cX9_takeFrom 77 = .ok (.aload_n 0, 1) := by decide +kernel
theorem dX9_takeFrom_78 : decode cX9_takeFrom 78 = .ok (.aload_n 1, 1) := by decide +kernel
theorem dX9_takeFrom_79 : decode cX9_takeFrom 79 = .ok (.getfield 53, 3) := by decide +kernel
theorem dX9_takeFrom_82 : decode cX9_takeFrom 82 = .ok (.putfield 53, 3) := by decide +kernel
theorem dX9_takeFrom_85 : decode cX9_takeFrom 85 = .ok (.aload_n 0, 1) := by decide +kernel
theorem dX9_takeFrom_86 : decode cX9_takeFrom 86 = .ok (.aload_n 1, 1) := by decide +kernel
theorem dX9_takeFrom_87 : decode cX9_takeFrom 87 = .ok (.getfield 56, 3) := by decide +kernel
theorem dX9_takeFrom_90 : decode cX9_takeFrom 90 = .ok (.putfield 56, 3) := by decide +kernel
theorem dX9_takeFrom_93 : decode cX9_takeFrom 93 = .ok (.aload_n 0, 1) := by decide +kernel
theorem dX9_takeFrom_94 : decode cX9_takeFrom 94 = .ok (.aload_n 1, 1) := by decide +kernel
theorem dX9_takeFrom_95 : decode cX9_takeFrom 95 = .ok (.getfield 59, 3) := by decide +kernel
theorem dX9_takeFrom_98 : decode cX9_takeFrom 98 = .ok (.putfield 59, 3) := by decide +kernel
theorem dX9_takeFrom_101 : decode cX9_takeFrom 101 = .ok (.aload_n 0, 1) := by decide +kernel
theorem dX9_takeFrom_102 : decode cX9_takeFrom 102 = .ok (.aload_n 1, 1) := by decide +kernel
theorem dX9_takeFrom_103 : decode cX9_takeFrom 103 = .ok (.getfield 62, 3) := by decide +kernel
theorem dX9_takeFrom_106 : decode cX9_takeFrom 106 = .ok (.putfield 62, 3) := by decide +kernel
theorem dX9_takeFrom_109 : decode cX9_takeFrom 109 = .ok (.return_, 1) := by decide +kernel
theorem dX10_init_0 : decode cX10_init 0 = .ok (.aload_n 0, 1) := by decide +kernel
theorem dX10_init_1 : decode cX10_init 1 = .ok (.iload_n 1, 1) := by decide +kernel
theorem dX10_init_2 : decode cX10_init 2 = .ok (.invokespecial 3, 3) := by decide +kernel
theorem dX10_init_5 : decode cX10_init 5 = .ok (.return_, 1) := by decide +kernel
theorem dX10_scoreOf_0 : decode cX10_scoreOf 0 = .ok (.iconst 0, 1) := by decide +kernel
theorem dX10_scoreOf_1 : decode cX10_scoreOf 1 = .ok (.istore 4, 2) := by decide +kernel
theorem dX10_scoreOf_3 : decode cX10_scoreOf 3 = .ok (.iload_n 2, 1) := by decide +kernel
theorem dX10_scoreOf_4 : decode cX10_scoreOf 4 = .ok (.iconst 4, 1) := by decide +kernel
theorem dX10_scoreOf_5 : decode cX10_scoreOf 5 = .ok (.imul, 1) := by decide +kernel
theorem dX10_scoreOf_6 : decode cX10_scoreOf 6 = .ok (.istore 5, 2) := by decide +kernel
theorem dX10_scoreOf_8 : decode cX10_scoreOf 8 = .ok (.iload_n 3, 1) := by decide +kernel
theorem dX10_scoreOf_9 : decode cX10_scoreOf 9 = .ok (.istore 6, 2) := by decide +kernel
theorem dX10_scoreOf_11 : decode cX10_scoreOf 11 = .ok (.iload 6, 2) := by decide +kernel
theorem dX10_scoreOf_13 : decode cX10_scoreOf 13 = .ok (.ifCond .le 49, 3) := by decide +kernel
theorem dX10_scoreOf_16 : decode cX10_scoreOf 16 = .ok (.iload 5, 2) := by decide +kernel
theorem dX10_scoreOf_18 : decode cX10_scoreOf 18 = .ok (.ifCond .lt 44, 3) := by decide +kernel
theorem dX10_scoreOf_21 : decode cX10_scoreOf 21 = .ok (.iload 5, 2) := by decide +kernel
theorem dX10_scoreOf_23 : decode cX10_scoreOf 23 = .ok (.aload_n 1, 1) := by decide +kernel
theorem dX10_scoreOf_24 : decode cX10_scoreOf 24 = .ok (.getfield 9, 3) := by decide +kernel
theorem dX10_scoreOf_27 : decode cX10_scoreOf 27 = .ok (.arraylength, 1) := by decide +kernel
theorem dX10_scoreOf_28 : decode cX10_scoreOf 28 = .ok (.if_icmp .ge 34, 3) := by decide +kernel
theorem dX10_scoreOf_31 : decode cX10_scoreOf 31 = .ok (.iload 4, 2) := by decide +kernel
theorem dX10_scoreOf_33 : decode cX10_scoreOf 33 = .ok (.iload 6, 2) := by decide +kernel
theorem dX10_scoreOf_35 : decode cX10_scoreOf 35 = .ok (.bipush 10, 2) := by decide +kernel
theorem dX10_scoreOf_37 : decode cX10_scoreOf 37 = .ok (.irem, 1) := by decide +kernel
theorem dX10_scoreOf_38 : decode cX10_scoreOf 38 = .ok (.aload_n 1, 1) := by decide +kernel
theorem dX10_scoreOf_39 : decode cX10_scoreOf 39 = .ok (.getfield 9, 3) := by decide +kernel
theorem dX10_scoreOf_42 : decode cX10_scoreOf 42 = .ok (.iload 5, 2) := by decide +kernel
theorem dX10_scoreOf_44 : decode cX10_scoreOf 44 = .ok (.iaload, 1) := by decide +kernel
theorem dX10_scoreOf_45 : decode cX10_scoreOf 45 = .ok (.imul, 1) := by decide +kernel
theorem dX10_scoreOf_46 : decode cX10_scoreOf 46 = .ok (.iadd, 1) := by decide +kernel
theorem dX10_scoreOf_47 : decode cX10_scoreOf 47 = .ok (.istore 4, 2) := by decide +kernel
theorem dX10_scoreOf_49 : decode cX10_scoreOf 49 = .ok (.iinc 5 1, 3) := by decide +kernel
theorem dX10_scoreOf_52 : decode cX10_scoreOf 52 = .ok (.iload 6, 2) := by decide +kernel
theorem dX10_scoreOf_54 : decode cX10_scoreOf 54 = .ok (.bipush 10, 2) := by decide +kernel
theorem dX10_scoreOf_56 : decode cX10_scoreOf 56 = .ok (.idiv, 1) := by decide +kernel
theorem dX10_scoreOf_57 : decode cX10_scoreOf 57 = .ok (.istore 6, 2) := by decide +kernel
theorem dX10_scoreOf_59 : decode cX10_scoreOf 59 = .ok (.goto (-48), 3) := by decide +kernel
theorem dX10_scoreOf_62 : decode cX10_scoreOf 62 = .ok (.iload 4, 2) := by decide +kernel
theorem dX10_scoreOf_64 : decode cX10_scoreOf 64 = .ok (.ireturn, 1) := by decide +kernel
theorem dX11_init_0 : decode cX11_init 0 = .ok (.aload_n 0, 1) := by decide +kernel
theorem dX11_init_1 : decode cX11_init 1 = .ok (.invokespecial 1, 3) := by decide +kernel
theorem dX11_init_4 : decode cX11_init 4 = .ok (.aload_n 0, 1) := by decide +kernel
theorem dX11_init_5 : decode cX11_init 5 = .ok (.new 7, 3) := by decide +kernel
theorem dX11_init_8 : decode cX11_init 8 = .ok (.dup, 1) := by decide +kernel
theorem dX11_init_9 : decode cX11_init 9 = .ok (.invokespecial 9, 3) := by decide +kernel
theorem dX11_init_12 : decode cX11_init 12 = .ok (.putfield 10, 3) := by decide +kernel
theorem dX11_init_15 : decode cX11_init 15 = .ok (.aload_n 0, 1) := by decide +kernel
theorem dX11_init_16 : decode cX11_init 16 = .ok (.new 7, 3) := by decide +kernel
theorem dX11_init_19 : decode cX11_init 19 = .ok (.dup, 1) := by decide +kernel
theorem dX11_init_20 : decode cX11_init 20 = .ok (.invokespecial 9, 3) := by decide +kernel
theorem dX11_init_23 : decode cX11_init 23 = .ok (.putfield 16, 3) := by decide +kernel
theorem dX11_init_26 : decode cX11_init 26 = .ok (.aload_n 0, 1) := by decide +kernel
theorem dX11_init_27 : decode cX11_init 27 = .ok (.new 19, 3) := by decide +kernel
theorem dX11_init_30 : decode cX11_init 30 = .ok (.dup, 1) := by decide +kernel
theorem dX11_init_31 : decode cX11_init 31 = .ok (.invokespecial 21, 3) := by decide +kernel
theorem dX11_init_34 : decode cX11_init 34 = .ok (.putfield 22, 3) := by decide +kernel
theorem dX11_init_37 : decode cX11_init 37 = .ok (.aload_n 0, 1) := by decide +kernel
theorem dX11_init_38 : decode cX11_init 38 = .ok (.new 26, 3) := by decide +kernel
theorem dX11_init_41 : decode cX11_init 41 = .ok (.dup, 1) := by decide +kernel
theorem dX11_init_42 : decode cX11_init 42 = .ok (.invokespecial 28, 3) := by decide +kernel
theorem dX11_init_45 : decode cX11_init 45 = .ok (.putfield 29, 3) := by decide +kernel
theorem dX11_init_48 : decode cX11_init 48 = .ok (.aload_n 0, 1) := by decide +kernel
theorem dX11_init_49 : decode cX11_init 49 = .ok (.iconst 5, 1) := by decide +kernel
theorem dX11_init_50 : decode cX11_init 50 = .ok (.anewarray 33, 3) := by decide +kernel
theorem dX11_init_53 : decode cX11_init 53 = .ok (.dup, 1) := by decide +kernel
theorem dX11_init_54 : decode cX11_init 54 = .ok (.iconst 0, 1) := by decide +kernel
theorem dX11_init_55 : decode cX11_init 55 = .ok (.new 35, 3) := by decide +kernel
theorem dX11_init_58 : decode cX11_init 58 = .ok (.dup, 1) := by decide +kernel
theorem dX11_init_59 : decode cX11_init 59 = .ok (.iconst 0, 1) := by decide +kernel
theorem dX11_init_60 : decode cX11_init 60 = .ok (.invokespecial 37, 3) := by decide +kernel
theorem dX11_init_63 : decode cX11_init 63 = .ok (.aastore, 1) := by decide +kernel
theorem dX11_init_64 : decode cX11_init 64 = .ok (.dup, 1) := by decide +kernel
theorem dX11_init_65 : decode cX11_init 65 = .ok (.iconst 1, 1) := by decide +kernel
theorem dX11_init_66 : decode cX11_init 66 = .ok (.new 40, 3) := by decide +kernel
theorem dX11_init_69 : decode cX11_init 69 = .ok (.dup, 1) := by decide +kernel
theorem dX11_init_70 : decode cX11_init 70 = .ok (.invokespecial 42, 3) := by decide +kernel
theorem dX11_init_73 : decode cX11_init 73 = .ok (.aastore, 1) := by decide +kernel
theorem dX11_init_74 : decode cX11_init 74 = .ok (.dup, 1) := by decide +kernel
theorem dX11_init_75 : decode cX11_init 75 = .ok (.iconst 2, 1) := by decide +kernel
theorem dX11_init_76 : decode cX11_init 76 = .ok (.new 43, 3) := by decide +kernel
theorem dX11_init_79 : decode cX11_init 79 = .ok (.dup, 1) := by decide +kernel
theorem dX11_init_80 : decode cX11_init 80 = .ok (.invokespecial 45, 3) := by decide +kernel
theorem dX11_init_83 : decode cX11_init 83 = .ok (.aastore, 1) := by decide +kernel
theorem dX11_init_84 : decode cX11_init 84 = .ok (.dup, 1) := by decide +kernel
theorem dX11_init_85 : decode cX11_init 85 = .ok (.iconst 3, 1) := by decide +kernel
theorem dX11_init_86 : decode cX11_init 86 = .ok (.new 46, 3) := by decide +kernel
theorem dX11_init_89 : decode cX11_init 89 = .ok (.dup, 1) := by decide +kernel
theorem dX11_init_90 : decode cX11_init 90 = .ok (.invokespecial 48, 3) := by decide +kernel
theorem dX11_init_93 : decode cX11_init 93 = .ok (.aastore, 1) := by decide +kernel
theorem dX11_init_94 : decode cX11_init 94 = .ok (.dup, 1) := by decide +kernel
theorem dX11_init_95 : decode cX11_init 95 = .ok (.iconst 4, 1) := by decide +kernel
theorem dX11_init_96 : decode cX11_init 96 = .ok (.new 49, 3) := by decide +kernel
theorem dX11_init_99 : decode cX11_init 99 = .ok (.dup, 1) := by decide +kernel
theorem dX11_init_100 : decode cX11_init 100 = .ok (.invokespecial 51, 3) := by decide +kernel
theorem dX11_init_103 : decode cX11_init 103 = .ok (.aastore, 1) := by decide +kernel
theorem dX11_init_104 : decode cX11_init 104 = .ok (.putfield 52, 3) := by decide +kernel
theorem dX11_init_107 : decode cX11_init 107 = .ok (.aload_n 0, 1) := by decide +kernel
theorem dX11_init_108 : decode cX11_init 108 = .ok (.new 56, 3) := by decide +kernel
theorem dX11_init_111 : decode cX11_init 111 = .ok (.dup, 1) := by decide +kernel
theorem dX11_init_112 : decode cX11_init 112 = .ok (.bipush 8, 2) := by decide +kernel
theorem dX11_init_114 : decode cX11_init 114 = .ok (.invokespecial 58, 3) := by decide +kernel
theorem dX11_init_117 : decode cX11_init 117 = .ok (.putfield 59, 3) := by decide +kernel
theorem dX11_init_120 : decode cX11_init 120 = .ok (.aload_n 0, 1) := by decide +kernel
theorem dX11_init_121 : decode cX11_init 121 = .ok (.bipush 7, 2) := by decide +kernel
theorem dX11_init_123 : decode cX11_init 123 = .ok (.newarray .int, 2) := by decide +kernel
theorem dX11_init_125 : decode cX11_init 125 = .ok (.putfield 63, 3) := by decide +kernel
theorem dX11_init_128 : decode cX11_init 128 = .ok (.return_, 1) := by decide +kernel
theorem dX11_letter_0 : decode cX11_letter 0 = .ok (.iload_n 1, 1) := by decide +kernel
theorem dX11_letter_1 : decode cX11_letter 1 = .ok (.ifCond .ge 10, 3) := by decide +kernel
theorem dX11_letter_4 : decode cX11_letter 4 = .ok (.aload_n 0, 1) := by decide +kernel
theorem dX11_letter_5 : decode cX11_letter 5 = .ok (.bipush (-4), 2) := by decide +kernel
theorem dX11_letter_7 : decode cX11_letter 7 = .ok (.invokevirtual 67, 3) := by decide +kernel
theorem dX11_letter_10 : decode cX11_letter 10 = .ok (.ireturn, 1) := by decide +kernel
theorem dX11_letter_11 : decode cX11_letter 11 = .ok (.iload_n 1, 1) := by decide +kernel
theorem dX11_letter_12 : decode cX11_letter 12 = .ok (.sipush 255, 3) := by decide +kernel
theorem dX11_letter_15 : decode cX11_letter 15 = .ok (.if_icmp .gt 16, 3) := by decide +kernel
theorem dX11_letter_18 : decode cX11_letter 18 = .ok (.aload_n 0, 1) := by decide +kernel
theorem dX11_letter_19 : decode cX11_letter 19 = .ok (.getfield 22, 3) := by decide +kernel
theorem dX11_letter_22 : decode cX11_letter 22 = .ok (.getfield 71, 3) := by decide +kernel
theorem dX11_letter_25 : decode cX11_letter 25 = .ok (.invokevirtual 74, 3) := by decide +kernel
theorem dX11_letter_28 : decode cX11_letter 28 = .ok (.ifCond .eq 10, 3) := by decide +kernel
theorem dX11_letter_31 : decode cX11_letter 31 = .ok (.aload_n 0, 1) := by decide +kernel
theorem dX11_letter_32 : decode cX11_letter 32 = .ok (.bipush (-6), 2) := by decide +kernel
theorem dX11_letter_34 : decode cX11_letter 34 = .ok (.invokevirtual 67, 3) := by decide +kernel
theorem dX11_letter_37 : decode cX11_letter 37 = .ok (.ireturn, 1) := by decide +kernel
theorem dX11_letter_38 : decode cX11_letter 38 = .ok (.aload_n 0, 1) := by decide +kernel
theorem dX11_letter_39 : decode cX11_letter 39 = .ok (.getfield 22, 3) := by decide +kernel
theorem dX11_letter_42 : decode cX11_letter 42 = .ok (.getfield 71, 3) := by decide +kernel
theorem dX11_letter_45 : decode cX11_letter 45 = .ok (.iload_n 1, 1) := by decide +kernel
theorem dX11_letter_46 : decode cX11_letter 46 = .ok (.invokevirtual 78, 3) := by decide +kernel
theorem dX11_letter_49 : decode cX11_letter 49 = .ok (.aload_n 0, 1) := by decide +kernel
theorem dX11_letter_50 : decode cX11_letter 50 = .ok (.getfield 22, 3) := by decide +kernel
theorem dX11_letter_53 : decode cX11_letter 53 = .ok (.getfield 71, 3) := by decide +kernel
theorem dX11_letter_56 : decode cX11_letter 56 = .ok (.getfield 81, 3) := by decide +kernel
theorem dX11_letter_59 : decode cX11_letter 59 = .ok (.ireturn, 1) := by decide +kernel
theorem dX11_parish_0 : decode cX11_parish 0 = .ok (.aload_n 0, 1) := by decide +kernel
theorem dX11_parish_1 : decode cX11_parish 1 = .ok (.getfield 22, 3) := by decide +kernel
theorem dX11_parish_4 : decode cX11_parish 4 = .ok (.aload_n 0, 1) := by decide +kernel
theorem dX11_parish_5 : decode cX11_parish 5 = .ok (.getfield 10, 3) := by decide +kernel
theorem dX11_parish_8 : decode cX11_parish 8 = .ok (.invokevirtual 85, 3) := by decide +kernel
theorem dX11_parish_11 : decode cX11_parish 11 = .ok (.istore_n 1, 1) := by decide +kernel
theorem dX11_parish_12 : decode cX11_parish 12 = .ok (.aload_n 0, 1) := by decide +kernel
theorem dX11_parish_13 : decode cX11_parish 13 = .ok (.getfield 22, 3) := by decide +kernel
theorem dX11_parish_16 : decode cX11_parish 16 = .ok (.getfield 71, 3) := by decide +kernel
theorem dX11_parish_19 : decode cX11_parish 19 = .ok (.invokevirtual 89, 3) := by decide +kernel
theorem dX11_parish_22 : decode cX11_parish 22 = .ok (.iload_n 1, 1) := by decide +kernel
theorem dX11_parish_23 : decode cX11_parish 23 = .ok (.ireturn, 1) := by decide +kernel
theorem dX11_need_0 : decode cX11_need 0 = .ok (.aload_n 0, 1) := by decide +kernel
theorem dX11_need_1 : decode cX11_need 1 = .ok (.iload_n 1, 1) := by decide +kernel
theorem dX11_need_2 : decode cX11_need 2 = .ok (.iload_n 2, 1) := by decide +kernel
theorem dX11_need_3 : decode cX11_need 3 = .ok (.invokevirtual 92, 3) := by decide +kernel
theorem dX11_need_6 : decode cX11_need 6 = .ok (.ifCond .ne 9, 3) := by decide +kernel
theorem dX11_need_9 : decode cX11_need 9 = .ok (.aload_n 0, 1) := by decide +kernel
theorem dX11_need_10 : decode cX11_need 10 = .ok (.iconst (-1), 1) := by decide +kernel
theorem dX11_need_11 : decode cX11_need 11 = .ok (.invokevirtual 67, 3) := by decide +kernel
theorem dX11_need_14 : decode cX11_need 14 = .ok (.ireturn, 1) := by decide +kernel
theorem dX11_need_15 : decode cX11_need 15 = .ok (.aload_n 0, 1) := by decide +kernel
theorem dX11_need_16 : decode cX11_need 16 = .ok (.getfield 10, 3) := by decide +kernel
theorem dX11_need_19 : decode cX11_need 19 = .ok (.getfield 96, 3) := by decide +kernel
theorem dX11_need_22 : decode cX11_need 22 = .ok (.iload_n 1, 1) := by decide +kernel
theorem dX11_need_23 : decode cX11_need 23 = .ok (.iload_n 2, 1) := by decide +kernel
theorem dX11_need_24 : decode cX11_need 24 = .ok (.invokevirtual 100, 3) := by decide +kernel
theorem dX11_need_27 : decode cX11_need 27 = .ok (.ireturn, 1) := by decide +kernel
theorem dX11_writer_0 : decode cX11_writer 0 = .ok (.aload_n 0, 1) := by decide +kernel
theorem dX11_writer_1 : decode cX11_writer 1 = .ok (.getfield 10, 3) := by decide +kernel
theorem dX11_writer_4 : decode cX11_writer 4 = .ok (.iload_n 1, 1) := by decide +kernel
theorem dX11_writer_5 : decode cX11_writer 5 = .ok (.invokevirtual 106, 3) := by decide +kernel
theorem dX11_writer_8 : decode cX11_writer 8 = .ok (.ifCond .ne 9, 3) := by decide +kernel
theorem dX11_writer_11 : decode cX11_writer 11 = .ok (.aload_n 0, 1) := by decide +kernel
theorem dX11_writer_12 : decode cX11_writer 12 = .ok (.iconst (-1), 1) := by decide +kernel
theorem dX11_writer_13 : decode cX11_writer 13 = .ok (.invokevirtual 67, 3) := by decide +kernel
theorem dX11_writer_16 : decode cX11_writer 16 = .ok (.ireturn, 1) := by decide +kernel
theorem dX11_writer_17 : decode cX11_writer 17 = .ok (.iload_n 2, 1) := by decide +kernel
theorem dX11_writer_18 : decode cX11_writer 18 = .ok (.tableswitch 62 0 2 #[26, 38, 50], 26) := by decide +kernel
theorem dX11_writer_44 : decode cX11_writer 44 = .ok (.aload_n 0, 1) := by decide +kernel
theorem dX11_writer_45 : decode cX11_writer 45 = .ok (.getfield 10, 3) := by decide +kernel
theorem dX11_writer_48 : decode cX11_writer 48 = .ok (.getfield 110, 3) := by decide +kernel
theorem dX11_writer_51 : decode cX11_writer 51 = .ok (.iload_n 1, 1) := by decide +kernel
theorem dX11_writer_52 : decode cX11_writer 52 = .ok (.invokevirtual 113, 3) := by decide +kernel
theorem dX11_writer_55 : decode cX11_writer 55 = .ok (.ireturn, 1) := by decide +kernel
theorem dX11_writer_56 : decode cX11_writer 56 = .ok (.aload_n 0, 1) := by decide +kernel
theorem dX11_writer_57 : decode cX11_writer 57 = .ok (.getfield 10, 3) := by decide +kernel
theorem dX11_writer_60 : decode cX11_writer 60 = .ok (.getfield 116, 3) := by decide +kernel
theorem dX11_writer_63 : decode cX11_writer 63 = .ok (.iload_n 1, 1) := by decide +kernel
theorem dX11_writer_64 : decode cX11_writer 64 = .ok (.invokevirtual 113, 3) := by decide +kernel
theorem dX11_writer_67 : decode cX11_writer 67 = .ok (.ireturn, 1) := by decide +kernel
theorem dX11_writer_68 : decode cX11_writer 68 = .ok (.aload_n 0, 1) := by decide +kernel
theorem dX11_writer_69 : decode cX11_writer 69 = .ok (.getfield 10, 3) := by decide +kernel
theorem dX11_writer_72 : decode cX11_writer 72 = .ok (.getfield 119, 3) := by decide +kernel
theorem dX11_writer_75 : decode cX11_writer 75 = .ok (.iload_n 1, 1) := by decide +kernel
theorem dX11_writer_76 : decode cX11_writer 76 = .ok (.invokevirtual 113, 3) := by decide +kernel
theorem dX11_writer_79 : decode cX11_writer 79 = .ok (.ireturn, 1) := by decide +kernel
theorem dX11_writer_80 : decode cX11_writer 80 = .ok (.aload_n 0, 1) := by decide +kernel
theorem dX11_writer_81 : decode cX11_writer 81 = .ok (.bipush (-2), 2) := by decide +kernel
theorem dX11_writer_83 : decode cX11_writer 83 = .ok (.invokevirtual 67, 3) := by decide +kernel
theorem dX11_writer_86 : decode cX11_writer 86 = .ok (.ireturn, 1) := by decide +kernel
theorem dX11_law_0 : decode cX11_law 0 = .ok (.iload_n 1, 1) := by decide +kernel
theorem dX11_law_1 : decode cX11_law 1 = .ok (.ifCond .lt 12, 3) := by decide +kernel
theorem dX11_law_4 : decode cX11_law 4 = .ok (.iload_n 1, 1) := by decide +kernel
theorem dX11_law_5 : decode cX11_law 5 = .ok (.aload_n 0, 1) := by decide +kernel
theorem dX11_law_6 : decode cX11_law 6 = .ok (.getfield 52, 3) := by decide +kernel
theorem dX11_law_9 : decode cX11_law 9 = .ok (.arraylength, 1) := by decide +kernel
theorem dX11_law_10 : decode cX11_law 10 = .ok (.if_icmp .lt 10, 3) := by decide +kernel
theorem dX11_law_13 : decode cX11_law 13 = .ok (.aload_n 0, 1) := by decide +kernel
theorem dX11_law_14 : decode cX11_law 14 = .ok (.bipush (-2), 2) := by decide +kernel
theorem dX11_law_16 : decode cX11_law 16 = .ok (.invokevirtual 67, 3) := by decide +kernel
theorem dX11_law_19 : decode cX11_law 19 = .ok (.ireturn, 1) := by decide +kernel
theorem dX11_law_20 : decode cX11_law 20 = .ok (.aload_n 0, 1) := by decide +kernel
theorem dX11_law_21 : decode cX11_law 21 = .ok (.getfield 10, 3) := by decide +kernel
theorem dX11_law_24 : decode cX11_law 24 = .ok (.getfield 122, 3) := by decide +kernel
theorem dX11_law_27 : decode cX11_law 27 = .ok (.istore_n 2, 1) := by decide +kernel
theorem dX11_law_28 : decode cX11_law 28 = .ok (.aload_n 0, 1) := by decide +kernel
theorem dX11_law_29 : decode cX11_law 29 = .ok (.getfield 10, 3) := by decide +kernel
theorem dX11_law_32 : decode cX11_law 32 = .ok (.iload_n 1, 1) := by decide +kernel
theorem dX11_law_33 : decode cX11_law 33 = .ok (.putfield 122, 3) := by decide +kernel
theorem dX11_law_36 : decode cX11_law 36 = .ok (.iload_n 2, 1) := by decide +kernel
theorem dX11_law_37 : decode cX11_law 37 = .ok (.ireturn, 1) := by decide +kernel
theorem dX11_err_0 : decode cX11_err 0 = .ok (.iload_n 1, 1) := by decide +kernel
theorem dX11_err_1 : decode cX11_err 1 = .ok (.ifCond .ge 10, 3) := by decide +kernel
theorem dX11_err_4 : decode cX11_err 4 = .ok (.aload_n 0, 1) := by decide +kernel
theorem dX11_err_5 : decode cX11_err 5 = .ok (.bipush (-4), 2) := by decide +kernel
theorem dX11_err_7 : decode cX11_err 7 = .ok (.invokevirtual 67, 3) := by decide +kernel
theorem dX11_err_10 : decode cX11_err 10 = .ok (.ireturn, 1) := by decide +kernel
theorem dX11_err_11 : decode cX11_err 11 = .ok (.iload_n 1, 1) := by decide +kernel
theorem dX11_err_12 : decode cX11_err 12 = .ok (.bipush 50, 2) := by decide +kernel
theorem dX11_err_14 : decode cX11_err 14 = .ok (.if_icmp .le 10, 3) := by decide +kernel
theorem dX11_err_17 : decode cX11_err 17 = .ok (.aload_n 0, 1) := by decide +kernel
theorem dX11_err_18 : decode cX11_err 18 = .ok (.bipush (-6), 2) := by decide +kernel
theorem dX11_err_20 : decode cX11_err 20 = .ok (.invokevirtual 67, 3) := by decide +kernel
theorem dX11_err_23 : decode cX11_err 23 = .ok (.ireturn, 1) := by decide +kernel
theorem dX11_err_24 : decode cX11_err 24 = .ok (.aload_n 0, 1) := by decide +kernel
theorem dX11_err_25 : decode cX11_err 25 = .ok (.getfield 10, 3) := by decide +kernel
theorem dX11_err_28 : decode cX11_err 28 = .ok (.getfield 125, 3) := by decide +kernel
theorem dX11_err_31 : decode cX11_err 31 = .ok (.istore_n 2, 1) := by decide +kernel
theorem dX11_err_32 : decode cX11_err 32 = .ok (.aload_n 0, 1) := by decide +kernel
theorem dX11_err_33 : decode cX11_err 33 = .ok (.getfield 10, 3) := by decide +kernel
theorem dX11_err_36 : decode cX11_err 36 = .ok (.iload_n 1, 1) := by decide +kernel
theorem dX11_err_37 : decode cX11_err 37 = .ok (.putfield 125, 3) := by decide +kernel
theorem dX11_err_40 : decode cX11_err 40 = .ok (.iload_n 2, 1) := by decide +kernel
theorem dX11_err_41 : decode cX11_err 41 = .ok (.ireturn, 1) := by decide +kernel
theorem dX11_score_0 : decode cX11_score 0 = .ok (.aload_n 0, 1) := by decide +kernel
theorem dX11_score_1 : decode cX11_score 1 = .ok (.getfield 10, 3) := by decide +kernel
theorem dX11_score_4 : decode cX11_score 4 = .ok (.getfield 96, 3) := by decide +kernel
theorem dX11_score_7 : decode cX11_score 7 = .ok (.iload_n 1, 1) := by decide +kernel
theorem dX11_score_8 : decode cX11_score 8 = .ok (.invokevirtual 128, 3) := by decide +kernel
theorem dX11_score_11 : decode cX11_score 11 = .ok (.ifCond .eq 10, 3) := by decide +kernel
theorem dX11_score_14 : decode cX11_score 14 = .ok (.iload_n 2, 1) := by decide +kernel
theorem dX11_score_15 : decode cX11_score 15 = .ok (.invokestatic 131, 3) := by decide +kernel
theorem dX11_score_18 : decode cX11_score 18 = .ok (.ifCond .ne 9, 3) := by decide +kernel
theorem dX11_score_21 : decode cX11_score 21 = .ok (.aload_n 0, 1) := by decide +kernel
theorem dX11_score_22 : decode cX11_score 22 = .ok (.iconst (-1), 1) := by decide +kernel
theorem dX11_score_23 : decode cX11_score 23 = .ok (.invokevirtual 67, 3) := by decide +kernel
theorem dX11_score_26 : decode cX11_score 26 = .ok (.ireturn, 1) := by decide +kernel
theorem dX11_score_27 : decode cX11_score 27 = .ok (.aload_n 0, 1) := by decide +kernel
theorem dX11_score_28 : decode cX11_score 28 = .ok (.invokevirtual 134, 3) := by decide +kernel
theorem dX11_score_31 : decode cX11_score 31 = .ok (.aload_n 0, 1) := by decide +kernel
theorem dX11_score_32 : decode cX11_score 32 = .ok (.getfield 10, 3) := by decide +kernel
theorem dX11_score_35 : decode cX11_score 35 = .ok (.getfield 96, 3) := by decide +kernel
theorem dX11_score_38 : decode cX11_score 38 = .ok (.iload_n 1, 1) := by decide +kernel
theorem dX11_score_39 : decode cX11_score 39 = .ok (.iload_n 2, 1) := by decide +kernel
theorem dX11_score_40 : decode cX11_score 40 = .ok (.invokevirtual 138, 3) := by decide +kernel
theorem dX11_score_43 : decode cX11_score 43 = .ok (.ireturn, 1) := by decide +kernel
theorem dX11_goes_0 : decode cX11_goes 0 = .ok (.iload_n 1, 1) := by decide +kernel
theorem dX11_goes_1 : decode cX11_goes 1 = .ok (.invokestatic 131, 3) := by decide +kernel
theorem dX11_goes_4 : decode cX11_goes 4 = .ok (.ifCond .ne 9, 3) := by decide +kernel
theorem dX11_goes_7 : decode cX11_goes 7 = .ok (.aload_n 0, 1) := by decide +kernel
theorem dX11_goes_8 : decode cX11_goes 8 = .ok (.iconst (-1), 1) := by decide +kernel
theorem dX11_goes_9 : decode cX11_goes 9 = .ok (.invokevirtual 67, 3) := by decide +kernel
theorem dX11_goes_12 : decode cX11_goes 12 = .ok (.ireturn, 1) := by decide +kernel
theorem dX11_goes_13 : decode cX11_goes 13 = .ok (.aload_n 0, 1) := by decide +kernel
theorem dX11_goes_14 : decode cX11_goes 14 = .ok (.invokevirtual 134, 3) := by decide +kernel
theorem dX11_goes_17 : decode cX11_goes 17 = .ok (.aload_n 0, 1) := by decide +kernel
theorem dX11_goes_18 : decode cX11_goes 18 = .ok (.getfield 10, 3) := by decide +kernel
theorem dX11_goes_21 : decode cX11_goes 21 = .ok (.getfield 96, 3) := by decide +kernel
theorem dX11_goes_24 : decode cX11_goes 24 = .ok (.iload_n 1, 1) := by decide +kernel
theorem dX11_goes_25 : decode cX11_goes 25 = .ok (.invokevirtual 142, 3) := by decide +kernel
theorem dX11_goes_28 : decode cX11_goes 28 = .ok (.ireturn, 1) := by decide +kernel
theorem dX11_post_0 : decode cX11_post 0 = .ok (.iload_n 1, 1) := by decide +kernel
theorem dX11_post_1 : decode cX11_post 1 = .ok (.invokestatic 131, 3) := by decide +kernel
theorem dX11_post_4 : decode cX11_post 4 = .ok (.ifCond .ne 9, 3) := by decide +kernel
theorem dX11_post_7 : decode cX11_post 7 = .ok (.aload_n 0, 1) := by decide +kernel
theorem dX11_post_8 : decode cX11_post 8 = .ok (.iconst (-1), 1) := by decide +kernel
theorem dX11_post_9 : decode cX11_post 9 = .ok (.invokevirtual 67, 3) := by decide +kernel
theorem dX11_post_12 : decode cX11_post 12 = .ok (.ireturn, 1) := by decide +kernel
theorem dX11_post_13 : decode cX11_post 13 = .ok (.aload_n 0, 1) := by decide +kernel
theorem dX11_post_14 : decode cX11_post 14 = .ok (.getfield 10, 3) := by decide +kernel
theorem dX11_post_17 : decode cX11_post 17 = .ok (.dup, 1) := by decide +kernel
theorem dX11_post_18 : decode cX11_post 18 = .ok (.getfield 146, 3) := by decide +kernel
theorem dX11_post_21 : decode cX11_post 21 = .ok (.iconst 1, 1) := by decide +kernel
theorem dX11_post_22 : decode cX11_post 22 = .ok (.iadd, 1) := by decide +kernel
theorem dX11_post_23 : decode cX11_post 23 = .ok (.putfield 146, 3) := by decide +kernel
theorem dX11_post_26 : decode cX11_post 26 = .ok (.aload_n 0, 1) := by decide +kernel
theorem dX11_post_27 : decode cX11_post 27 = .ok (.invokevirtual 134, 3) := by decide +kernel
theorem dX11_post_30 : decode cX11_post 30 = .ok (.aload_n 0, 1) := by decide +kernel
theorem dX11_post_31 : decode cX11_post 31 = .ok (.getfield 10, 3) := by decide +kernel
theorem dX11_post_34 : decode cX11_post 34 = .ok (.getfield 96, 3) := by decide +kernel
theorem dX11_post_37 : decode cX11_post 37 = .ok (.iload_n 1, 1) := by decide +kernel
theorem dX11_post_38 : decode cX11_post 38 = .ok (.invokevirtual 149, 3) := by decide +kernel
theorem dX11_post_41 : decode cX11_post 41 = .ok (.ireturn, 1) := by decide +kernel
theorem dX11_day_0 : decode cX11_day 0 = .ok (.aload_n 0, 1) := by decide +kernel
theorem dX11_day_1 : decode cX11_day 1 = .ok (.getfield 10, 3) := by decide +kernel
theorem dX11_day_4 : decode cX11_day 4 = .ok (.getfield 96, 3) := by decide +kernel
theorem dX11_day_7 : decode cX11_day 7 = .ok (.invokevirtual 152, 3) := by decide +kernel
theorem dX11_day_10 : decode cX11_day 10 = .ok (.aload_n 0, 1) := by decide +kernel
theorem dX11_day_11 : decode cX11_day 11 = .ok (.getfield 10, 3) := by decide +kernel
theorem dX11_day_14 : decode cX11_day 14 = .ok (.dup, 1) := by decide +kernel
theorem dX11_day_15 : decode cX11_day 15 = .ok (.getfield 155, 3) := by decide +kernel
theorem dX11_day_18 : decode cX11_day 18 = .ok (.iconst 1, 1) := by decide +kernel
theorem dX11_day_19 : decode cX11_day 19 = .ok (.iadd, 1) := by decide +kernel
theorem dX11_day_20 : decode cX11_day 20 = .ok (.putfield 155, 3) := by decide +kernel
theorem dX11_day_23 : decode cX11_day 23 = .ok (.aload_n 0, 1) := by decide +kernel
theorem dX11_day_24 : decode cX11_day 24 = .ok (.getfield 10, 3) := by decide +kernel
theorem dX11_day_27 : decode cX11_day 27 = .ok (.getfield 96, 3) := by decide +kernel
theorem dX11_day_30 : decode cX11_day 30 = .ok (.invokevirtual 158, 3) := by decide +kernel
theorem dX11_day_33 : decode cX11_day 33 = .ok (.ireturn, 1) := by decide +kernel
theorem dX11_allNeed_0 : decode cX11_allNeed 0 = .ok (.aload_n 0, 1) := by decide +kernel
theorem dX11_allNeed_1 : decode cX11_allNeed 1 = .ok (.getfield 10, 3) := by decide +kernel
theorem dX11_allNeed_4 : decode cX11_allNeed 4 = .ok (.getfield 96, 3) := by decide +kernel
theorem dX11_allNeed_7 : decode cX11_allNeed 7 = .ok (.invokevirtual 158, 3) := by decide +kernel
theorem dX11_allNeed_10 : decode cX11_allNeed 10 = .ok (.ireturn, 1) := by decide +kernel
theorem dX11_can_0 : decode cX11_can 0 = .ok (.aload_n 0, 1) := by decide +kernel
theorem dX11_can_1 : decode cX11_can 1 = .ok (.getfield 10, 3) := by decide +kernel
theorem dX11_can_4 : decode cX11_can 4 = .ok (.getfield 96, 3) := by decide +kernel
theorem dX11_can_7 : decode cX11_can 7 = .ok (.iload_n 1, 1) := by decide +kernel
theorem dX11_can_8 : decode cX11_can 8 = .ok (.invokevirtual 128, 3) := by decide +kernel
theorem dX11_can_11 : decode cX11_can 11 = .ok (.ifCond .ne 9, 3) := by decide +kernel
theorem dX11_can_14 : decode cX11_can 14 = .ok (.aload_n 0, 1) := by decide +kernel
theorem dX11_can_15 : decode cX11_can 15 = .ok (.iconst (-1), 1) := by decide +kernel
theorem dX11_can_16 : decode cX11_can 16 = .ok (.invokevirtual 67, 3) := by decide +kernel
theorem dX11_can_19 : decode cX11_can 19 = .ok (.ireturn, 1) := by decide +kernel
theorem dX11_can_20 : decode cX11_can 20 = .ok (.aload_n 0, 1) := by decide +kernel
theorem dX11_can_21 : decode cX11_can 21 = .ok (.getfield 29, 3) := by decide +kernel
theorem dX11_can_24 : decode cX11_can 24 = .ok (.aload_n 0, 1) := by decide +kernel
theorem dX11_can_25 : decode cX11_can 25 = .ok (.getfield 10, 3) := by decide +kernel
theorem dX11_can_28 : decode cX11_can 28 = .ok (.getfield 96, 3) := by decide +kernel
theorem dX11_can_31 : decode cX11_can 31 = .ok (.aload_n 0, 1) := by decide +kernel
theorem dX11_can_32 : decode cX11_can 32 = .ok (.invokevirtual 134, 3) := by decide +kernel
theorem dX11_can_35 : decode cX11_can 35 = .ok (.iload_n 1, 1) := by decide +kernel
theorem dX11_can_36 : decode cX11_can 36 = .ok (.bipush (-9), 2) := by decide +kernel
theorem dX11_can_38 : decode cX11_can 38 = .ok (.invokevirtual 162, 3) := by decide +kernel
theorem dX11_can_41 : decode cX11_can 41 = .ok (.ireturn, 1) := by decide +kernel
theorem dX11_who_0 : decode cX11_who 0 = .ok (.aload_n 0, 1) := by decide +kernel
theorem dX11_who_1 : decode cX11_who 1 = .ok (.getfield 29, 3) := by decide +kernel
theorem dX11_who_4 : decode cX11_who 4 = .ok (.aload_n 0, 1) := by decide +kernel
theorem dX11_who_5 : decode cX11_who 5 = .ok (.getfield 10, 3) := by decide +kernel
theorem dX11_who_8 : decode cX11_who 8 = .ok (.getfield 96, 3) := by decide +kernel
theorem dX11_who_11 : decode cX11_who 11 = .ok (.aload_n 0, 1) := by decide +kernel
theorem dX11_who_12 : decode cX11_who 12 = .ok (.invokevirtual 134, 3) := by decide +kernel
theorem dX11_who_15 : decode cX11_who 15 = .ok (.invokevirtual 166, 3) := by decide +kernel
theorem dX11_who_18 : decode cX11_who 18 = .ok (.ireturn, 1) := by decide +kernel
theorem dX11_never_0 : decode cX11_never 0 = .ok (.aload_n 0, 1) := by decide +kernel
theorem dX11_never_1 : decode cX11_never 1 = .ok (.getfield 10, 3) := by decide +kernel
theorem dX11_never_4 : decode cX11_never 4 = .ok (.getfield 96, 3) := by decide +kernel
theorem dX11_never_7 : decode cX11_never 7 = .ok (.iload_n 1, 1) := by decide +kernel
theorem dX11_never_8 : decode cX11_never 8 = .ok (.invokevirtual 128, 3) := by decide +kernel
theorem dX11_never_11 : decode cX11_never 11 = .ok (.ifCond .ne 9, 3) := by decide +kernel
theorem dX11_never_14 : decode cX11_never 14 = .ok (.aload_n 0, 1) := by decide +kernel
theorem dX11_never_15 : decode cX11_never 15 = .ok (.iconst (-1), 1) := by decide +kernel
theorem dX11_never_16 : decode cX11_never 16 = .ok (.invokevirtual 67, 3) := by decide +kernel
theorem dX11_never_19 : decode cX11_never 19 = .ok (.ireturn, 1) := by decide +kernel
theorem dX11_never_20 : decode cX11_never 20 = .ok (.aload_n 0, 1) := by decide +kernel
theorem dX11_never_21 : decode cX11_never 21 = .ok (.getfield 29, 3) := by decide +kernel
theorem dX11_never_24 : decode cX11_never 24 = .ok (.aload_n 0, 1) := by decide +kernel
theorem dX11_never_25 : decode cX11_never 25 = .ok (.getfield 10, 3) := by decide +kernel
theorem dX11_never_28 : decode cX11_never 28 = .ok (.getfield 96, 3) := by decide +kernel
theorem dX11_never_31 : decode cX11_never 31 = .ok (.aload_n 0, 1) := by decide +kernel
theorem dX11_never_32 : decode cX11_never 32 = .ok (.invokevirtual 134, 3) := by decide +kernel
theorem dX11_never_35 : decode cX11_never 35 = .ok (.iload_n 1, 1) := by decide +kernel
theorem dX11_never_36 : decode cX11_never 36 = .ok (.invokevirtual 170, 3) := by decide +kernel
theorem dX11_never_39 : decode cX11_never 39 = .ok (.istore_n 2, 1) := by decide +kernel
theorem dX11_never_40 : decode cX11_never 40 = .ok (.iload_n 2, 1) := by decide +kernel
theorem dX11_never_41 : decode cX11_never 41 = .ok (.ifCond .eq 7, 3) := by decide +kernel
theorem dX11_never_44 : decode cX11_never 44 = .ok (.iconst 0, 1) := by decide +kernel
theorem dX11_never_45 : decode cX11_never 45 = .ok (.goto 21, 3) := by decide +kernel
theorem dX11_never_48 : decode cX11_never 48 = .ok (.aload_n 0, 1) := by decide +kernel
theorem dX11_never_49 : decode cX11_never 49 = .ok (.getfield 29, 3) := by decide +kernel
theorem dX11_never_52 : decode cX11_never 52 = .ok (.aload_n 0, 1) := by decide +kernel
theorem dX11_never_53 : decode cX11_never 53 = .ok (.getfield 10, 3) := by decide +kernel
theorem dX11_never_56 : decode cX11_never 56 = .ok (.getfield 96, 3) := by decide +kernel
theorem dX11_never_59 : decode cX11_never 59 = .ok (.aload_n 0, 1) := by decide +kernel
theorem dX11_never_60 : decode cX11_never 60 = .ok (.invokevirtual 134, 3) := by decide +kernel
theorem dX11_never_63 : decode cX11_never 63 = .ok (.invokevirtual 166, 3) := by decide +kernel
theorem dX11_never_66 : decode cX11_never 66 = .ok (.ireturn, 1) := by decide +kernel
theorem dX11_before_0 : decode cX11_before 0 = .ok (.aload_n 0, 1) := by decide +kernel
theorem dX11_before_1 : decode cX11_before 1 = .ok (.getfield 10, 3) := by decide +kernel
theorem dX11_before_4 : decode cX11_before 4 = .ok (.getfield 96, 3) := by decide +kernel
theorem dX11_before_7 : decode cX11_before 7 = .ok (.iload_n 1, 1) := by decide +kernel
theorem dX11_before_8 : decode cX11_before 8 = .ok (.invokevirtual 128, 3) := by decide +kernel
theorem dX11_before_11 : decode cX11_before 11 = .ok (.ifCond .ne 9, 3) := by decide +kernel
theorem dX11_before_14 : decode cX11_before 14 = .ok (.aload_n 0, 1) := by decide +kernel
theorem dX11_before_15 : decode cX11_before 15 = .ok (.iconst (-1), 1) := by decide +kernel
theorem dX11_before_16 : decode cX11_before 16 = .ok (.invokevirtual 67, 3) := by decide +kernel
theorem dX11_before_19 : decode cX11_before 19 = .ok (.ireturn, 1) := by decide +kernel
theorem dX11_before_20 : decode cX11_before 20 = .ok (.iload_n 2, 1) := by decide +kernel
theorem dX11_before_21 : decode cX11_before 21 = .ok (.ifCond .eq 15, 3) := by decide +kernel
theorem dX11_before_24 : decode cX11_before 24 = .ok (.iload_n 2, 1) := by decide +kernel
theorem dX11_before_25 : decode cX11_before 25 = .ok (.iconst 1, 1) := by decide +kernel
theorem dX11_before_26 : decode cX11_before 26 = .ok (.if_icmp .eq 10, 3) := by decide +kernel
theorem dX11_before_29 : decode cX11_before 29 = .ok (.aload_n 0, 1) := by decide +kernel
theorem dX11_before_30 : decode cX11_before 30 = .ok (.bipush (-2), 2) := by decide +kernel
theorem dX11_before_32 : decode cX11_before 32 = .ok (.invokevirtual 67, 3) := by decide +kernel
theorem dX11_before_35 : decode cX11_before 35 = .ok (.ireturn, 1) := by decide +kernel
theorem dX11_before_36 : decode cX11_before 36 = .ok (.aload_n 0, 1) := by decide +kernel
theorem dX11_before_37 : decode cX11_before 37 = .ok (.getfield 29, 3) := by decide +kernel
theorem dX11_before_40 : decode cX11_before 40 = .ok (.aload_n 0, 1) := by decide +kernel
theorem dX11_before_41 : decode cX11_before 41 = .ok (.getfield 10, 3) := by decide +kernel
theorem dX11_before_44 : decode cX11_before 44 = .ok (.getfield 96, 3) := by decide +kernel
theorem dX11_before_47 : decode cX11_before 47 = .ok (.aload_n 0, 1) := by decide +kernel
theorem dX11_before_48 : decode cX11_before 48 = .ok (.invokevirtual 134, 3) := by decide +kernel
theorem dX11_before_51 : decode cX11_before 51 = .ok (.iload_n 1, 1) := by decide +kernel
theorem dX11_before_52 : decode cX11_before 52 = .ok (.invokevirtual 170, 3) := by decide +kernel
theorem dX11_before_55 : decode cX11_before 55 = .ok (.ifCond .eq 5, 3) := by decide +kernel
theorem dX11_before_58 : decode cX11_before 58 = .ok (.iconst 0, 1) := by decide +kernel
theorem dX11_before_59 : decode cX11_before 59 = .ok (.ireturn, 1) := by decide +kernel
theorem dX11_before_60 : decode cX11_before 60 = .ok (.aload_n 0, 1) := by decide +kernel
theorem dX11_before_61 : decode cX11_before 61 = .ok (.getfield 29, 3) := by decide +kernel
theorem dX11_before_64 : decode cX11_before 64 = .ok (.aload_n 0, 1) := by decide +kernel
theorem dX11_before_65 : decode cX11_before 65 = .ok (.getfield 10, 3) := by decide +kernel
theorem dX11_before_68 : decode cX11_before 68 = .ok (.getfield 96, 3) := by decide +kernel
theorem dX11_before_71 : decode cX11_before 71 = .ok (.aload_n 0, 1) := by decide +kernel
theorem dX11_before_72 : decode cX11_before 72 = .ok (.invokevirtual 134, 3) := by decide +kernel
theorem dX11_before_75 : decode cX11_before 75 = .ok (.iload_n 1, 1) := by decide +kernel
theorem dX11_before_76 : decode cX11_before 76 = .ok (.invokevirtual 174, 3) := by decide +kernel
theorem dX11_before_79 : decode cX11_before 79 = .ok (.istore_n 3, 1) := by decide +kernel
theorem dX11_before_80 : decode cX11_before 80 = .ok (.iload_n 3, 1) := by decide +kernel
theorem dX11_before_81 : decode cX11_before 81 = .ok (.bipush 100, 2) := by decide +kernel
theorem dX11_before_83 : decode cX11_before 83 = .ok (.if_icmp .ge 13, 3) := by decide +kernel
theorem dX11_before_86 : decode cX11_before 86 = .ok (.iload_n 2, 1) := by decide +kernel
theorem dX11_before_87 : decode cX11_before 87 = .ok (.ifCond .ne 7, 3) := by decide +kernel
theorem dX11_before_90 : decode cX11_before 90 = .ok (.iconst 1, 1) := by decide +kernel
theorem dX11_before_91 : decode cX11_before 91 = .ok (.goto 4, 3) := by decide +kernel
theorem dX11_before_94 : decode cX11_before 94 = .ok (.iload_n 3, 1) := by decide +kernel
theorem dX11_before_95 : decode cX11_before 95 = .ok (.ireturn, 1) := by decide +kernel
theorem dX11_before_96 : decode cX11_before 96 = .ok (.aload_n 0, 1) := by decide +kernel
theorem dX11_before_97 : decode cX11_before 97 = .ok (.getfield 29, 3) := by decide +kernel
theorem dX11_before_100 : decode cX11_before 100 = .ok (.aload_n 0, 1) := by decide +kernel
theorem dX11_before_101 : decode cX11_before 101 = .ok (.getfield 10, 3) := by decide +kernel
theorem dX11_before_104 : decode cX11_before 104 = .ok (.getfield 96, 3) := by decide +kernel
theorem dX11_before_107 : decode cX11_before 107 = .ok (.aload_n 0, 1) := by decide +kernel
theorem dX11_before_108 : decode cX11_before 108 = .ok (.invokevirtual 134, 3) := by decide +kernel
theorem dX11_before_111 : decode cX11_before 111 = .ok (.iload_n 1, 1) := by decide +kernel
theorem dX11_before_112 : decode cX11_before 112 = .ok (.invokevirtual 178, 3) := by decide +kernel
theorem dX11_before_115 : decode cX11_before 115 = .ok (.istore_n 3, 1) := by decide +kernel
theorem dX11_before_116 : decode cX11_before 116 = .ok (.iload_n 3, 1) := by decide +kernel
theorem dX11_before_117 : decode cX11_before 117 = .ok (.bipush 100, 2) := by decide +kernel
theorem dX11_before_119 : decode cX11_before 119 = .ok (.if_icmp .ge 13, 3) := by decide +kernel
theorem dX11_before_122 : decode cX11_before 122 = .ok (.iload_n 2, 1) := by decide +kernel
theorem dX11_before_123 : decode cX11_before 123 = .ok (.ifCond .ne 7, 3) := by decide +kernel
theorem dX11_before_126 : decode cX11_before 126 = .ok (.iconst 2, 1) := by decide +kernel
theorem dX11_before_127 : decode cX11_before 127 = .ok (.goto 4, 3) := by decide +kernel
theorem dX11_before_130 : decode cX11_before 130 = .ok (.iload_n 3, 1) := by decide +kernel
theorem dX11_before_131 : decode cX11_before 131 = .ok (.ireturn, 1) := by decide +kernel
theorem dX11_before_132 : decode cX11_before 132 = .ok (.bipush (-9), 2) := by decide +kernel
theorem dX11_before_134 : decode cX11_before 134 = .ok (.ireturn, 1) := by decide +kernel
theorem dX11_order_0 : decode cX11_order 0 = .ok (.iload_n 1, 1) := by decide +kernel
theorem dX11_order_1 : decode cX11_order 1 = .ok (.invokestatic 131, 3) := by decide +kernel
theorem dX11_order_4 : decode cX11_order 4 = .ok (.ifCond .ne 9, 3) := by decide +kernel
theorem dX11_order_7 : decode cX11_order 7 = .ok (.aload_n 0, 1) := by decide +kernel
theorem dX11_order_8 : decode cX11_order 8 = .ok (.iconst (-1), 1) := by decide +kernel
theorem dX11_order_9 : decode cX11_order 9 = .ok (.invokevirtual 67, 3) := by decide +kernel
theorem dX11_order_12 : decode cX11_order 12 = .ok (.ireturn, 1) := by decide +kernel
theorem dX11_order_13 : decode cX11_order 13 = .ok (.aload_n 0, 1) := by decide +kernel
theorem dX11_order_14 : decode cX11_order 14 = .ok (.getfield 10, 3) := by decide +kernel
theorem dX11_order_17 : decode cX11_order 17 = .ok (.getfield 181, 3) := by decide +kernel
theorem dX11_order_20 : decode cX11_order 20 = .ok (.invokevirtual 74, 3) := by decide +kernel
theorem dX11_order_23 : decode cX11_order 23 = .ok (.ifCond .eq 10, 3) := by decide +kernel
theorem dX11_order_26 : decode cX11_order 26 = .ok (.aload_n 0, 1) := by decide +kernel
theorem dX11_order_27 : decode cX11_order 27 = .ok (.bipush (-6), 2) := by decide +kernel
theorem dX11_order_29 : decode cX11_order 29 = .ok (.invokevirtual 67, 3) := by decide +kernel
theorem dX11_order_32 : decode cX11_order 32 = .ok (.ireturn, 1) := by decide +kernel
theorem dX11_order_33 : decode cX11_order 33 = .ok (.aload_n 0, 1) := by decide +kernel
theorem dX11_order_34 : decode cX11_order 34 = .ok (.getfield 10, 3) := by decide +kernel
theorem dX11_order_37 : decode cX11_order 37 = .ok (.getfield 181, 3) := by decide +kernel
theorem dX11_order_40 : decode cX11_order 40 = .ok (.iload_n 1, 1) := by decide +kernel
theorem dX11_order_41 : decode cX11_order 41 = .ok (.invokevirtual 78, 3) := by decide +kernel
theorem dX11_order_44 : decode cX11_order 44 = .ok (.aload_n 0, 1) := by decide +kernel
theorem dX11_order_45 : decode cX11_order 45 = .ok (.getfield 10, 3) := by decide +kernel
theorem dX11_order_48 : decode cX11_order 48 = .ok (.getfield 181, 3) := by decide +kernel
theorem dX11_order_51 : decode cX11_order 51 = .ok (.getfield 81, 3) := by decide +kernel
theorem dX11_order_54 : decode cX11_order 54 = .ok (.ireturn, 1) := by decide +kernel
theorem dX11_forget_0 : decode cX11_forget 0 = .ok (.aload_n 0, 1) := by decide +kernel
theorem dX11_forget_1 : decode cX11_forget 1 = .ok (.getfield 10, 3) := by decide +kernel
theorem dX11_forget_4 : decode cX11_forget 4 = .ok (.getfield 181, 3) := by decide +kernel
theorem dX11_forget_7 : decode cX11_forget 7 = .ok (.getfield 81, 3) := by decide +kernel
theorem dX11_forget_10 : decode cX11_forget 10 = .ok (.istore_n 1, 1) := by decide +kernel
theorem dX11_forget_11 : decode cX11_forget 11 = .ok (.aload_n 0, 1) := by decide +kernel
theorem dX11_forget_12 : decode cX11_forget 12 = .ok (.getfield 10, 3) := by decide +kernel
theorem dX11_forget_15 : decode cX11_forget 15 = .ok (.getfield 181, 3) := by decide +kernel
theorem dX11_forget_18 : decode cX11_forget 18 = .ok (.invokevirtual 89, 3) := by decide +kernel
theorem dX11_forget_21 : decode cX11_forget 21 = .ok (.iload_n 1, 1) := by decide +kernel
theorem dX11_forget_22 : decode cX11_forget 22 = .ok (.ireturn, 1) := by decide +kernel
theorem dX11_met_0 : decode cX11_met 0 = .ok (.iload_n 1, 1) := by decide +kernel
theorem dX11_met_1 : decode cX11_met 1 = .ok (.ifCond .ge 10, 3) := by decide +kernel
theorem dX11_met_4 : decode cX11_met 4 = .ok (.aload_n 0, 1) := by decide +kernel
theorem dX11_met_5 : decode cX11_met 5 = .ok (.bipush (-4), 2) := by decide +kernel
theorem dX11_met_7 : decode cX11_met 7 = .ok (.invokevirtual 67, 3) := by decide +kernel
theorem dX11_met_10 : decode cX11_met 10 = .ok (.ireturn, 1) := by decide +kernel
theorem dX11_met_11 : decode cX11_met 11 = .ok (.iload_n 1, 1) := by decide +kernel
theorem dX11_met_12 : decode cX11_met 12 = .ok (.iconst 5, 1) := by decide +kernel
theorem dX11_met_13 : decode cX11_met 13 = .ok (.if_icmp .le 10, 3) := by decide +kernel
theorem dX11_met_16 : decode cX11_met 16 = .ok (.aload_n 0, 1) := by decide +kernel
theorem dX11_met_17 : decode cX11_met 17 = .ok (.bipush (-6), 2) := by decide +kernel
theorem dX11_met_19 : decode cX11_met 19 = .ok (.invokevirtual 67, 3) := by decide +kernel
theorem dX11_met_22 : decode cX11_met 22 = .ok (.ireturn, 1) := by decide +kernel
theorem dX11_met_23 : decode cX11_met 23 = .ok (.aload_n 0, 1) := by decide +kernel
theorem dX11_met_24 : decode cX11_met 24 = .ok (.getfield 29, 3) := by decide +kernel
theorem dX11_met_27 : decode cX11_met 27 = .ok (.iload_n 1, 1) := by decide +kernel
theorem dX11_met_28 : decode cX11_met 28 = .ok (.iload_n 2, 1) := by decide +kernel
theorem dX11_met_29 : decode cX11_met 29 = .ok (.aload_n 0, 1) := by decide +kernel
theorem dX11_met_30 : decode cX11_met 30 = .ok (.getfield 10, 3) := by decide +kernel
theorem dX11_met_33 : decode cX11_met 33 = .ok (.getfield 181, 3) := by decide +kernel
theorem dX11_met_36 : decode cX11_met 36 = .ok (.getfield 81, 3) := by decide +kernel
theorem dX11_met_39 : decode cX11_met 39 = .ok (.invokevirtual 184, 3) := by decide +kernel
theorem dX11_met_42 : decode cX11_met 42 = .ok (.ifCond .ne 9, 3) := by decide +kernel
theorem dX11_met_45 : decode cX11_met 45 = .ok (.aload_n 0, 1) := by decide +kernel
theorem dX11_met_46 : decode cX11_met 46 = .ok (.iconst (-1), 1) := by decide +kernel
theorem dX11_met_47 : decode cX11_met 47 = .ok (.invokevirtual 67, 3) := by decide +kernel
theorem dX11_met_50 : decode cX11_met 50 = .ok (.ireturn, 1) := by decide +kernel
theorem dX11_met_51 : decode cX11_met 51 = .ok (.aload_n 0, 1) := by decide +kernel
theorem dX11_met_52 : decode cX11_met 52 = .ok (.getfield 29, 3) := by decide +kernel
theorem dX11_met_55 : decode cX11_met 55 = .ok (.aload_n 0, 1) := by decide +kernel
theorem dX11_met_56 : decode cX11_met 56 = .ok (.getfield 10, 3) := by decide +kernel
theorem dX11_met_59 : decode cX11_met 59 = .ok (.getfield 96, 3) := by decide +kernel
theorem dX11_met_62 : decode cX11_met 62 = .ok (.aload_n 0, 1) := by decide +kernel
theorem dX11_met_63 : decode cX11_met 63 = .ok (.invokevirtual 134, 3) := by decide +kernel
theorem dX11_met_66 : decode cX11_met 66 = .ok (.aload_n 0, 1) := by decide +kernel
theorem dX11_met_67 : decode cX11_met 67 = .ok (.getfield 10, 3) := by decide +kernel
theorem dX11_met_70 : decode cX11_met 70 = .ok (.getfield 181, 3) := by decide +kernel
theorem dX11_met_73 : decode cX11_met 73 = .ok (.invokevirtual 188, 3) := by decide +kernel
theorem dX11_met_76 : decode cX11_met 76 = .ok (.ireturn, 1) := by decide +kernel
theorem dX11_best_0 : decode cX11_best 0 = .ok (.iload_n 1, 1) := by decide +kernel
theorem dX11_best_1 : decode cX11_best 1 = .ok (.iconst (-1), 1) := by decide +kernel
theorem dX11_best_2 : decode cX11_best 2 = .ok (.if_icmp .ge 10, 3) := by decide +kernel
theorem dX11_best_5 : decode cX11_best 5 = .ok (.aload_n 0, 1) := by decide +kernel
theorem dX11_best_6 : decode cX11_best 6 = .ok (.bipush (-4), 2) := by decide +kernel
theorem dX11_best_8 : decode cX11_best 8 = .ok (.invokevirtual 67, 3) := by decide +kernel
theorem dX11_best_11 : decode cX11_best 11 = .ok (.ireturn, 1) := by decide +kernel
theorem dX11_best_12 : decode cX11_best 12 = .ok (.aload_n 0, 1) := by decide +kernel
theorem dX11_best_13 : decode cX11_best 13 = .ok (.getfield 29, 3) := by decide +kernel
theorem dX11_best_16 : decode cX11_best 16 = .ok (.aload_n 0, 1) := by decide +kernel
theorem dX11_best_17 : decode cX11_best 17 = .ok (.getfield 10, 3) := by decide +kernel
theorem dX11_best_20 : decode cX11_best 20 = .ok (.getfield 96, 3) := by decide +kernel
theorem dX11_best_23 : decode cX11_best 23 = .ok (.aload_n 0, 1) := by decide +kernel
theorem dX11_best_24 : decode cX11_best 24 = .ok (.invokevirtual 134, 3) := by decide +kernel
theorem dX11_best_27 : decode cX11_best 27 = .ok (.aload_n 0, 1) := by decide +kernel
theorem dX11_best_28 : decode cX11_best 28 = .ok (.getfield 10, 3) := by decide +kernel
theorem dX11_best_31 : decode cX11_best 31 = .ok (.getfield 181, 3) := by decide +kernel
theorem dX11_best_34 : decode cX11_best 34 = .ok (.invokevirtual 192, 3) := by decide +kernel
theorem dX11_best_37 : decode cX11_best 37 = .ok (.istore_n 2, 1) := by decide +kernel
theorem dX11_best_38 : decode cX11_best 38 = .ok (.iload_n 1, 1) := by decide +kernel
theorem dX11_best_39 : decode cX11_best 39 = .ok (.iconst (-1), 1) := by decide +kernel
theorem dX11_best_40 : decode cX11_best 40 = .ok (.if_icmp .ne 5, 3) := by decide +kernel
theorem dX11_best_43 : decode cX11_best 43 = .ok (.iload_n 2, 1) := by decide +kernel
theorem dX11_best_44 : decode cX11_best 44 = .ok (.ireturn, 1) := by decide +kernel
theorem dX11_best_45 : decode cX11_best 45 = .ok (.iload_n 1, 1) := by decide +kernel
theorem dX11_best_46 : decode cX11_best 46 = .ok (.aload_n 0, 1) := by decide +kernel
theorem dX11_best_47 : decode cX11_best 47 = .ok (.getfield 10, 3) := by decide +kernel
theorem dX11_best_50 : decode cX11_best 50 = .ok (.getfield 181, 3) := by decide +kernel
theorem dX11_best_53 : decode cX11_best 53 = .ok (.getfield 81, 3) := by decide +kernel
theorem dX11_best_56 : decode cX11_best 56 = .ok (.if_icmp .ge 17, 3) := by decide +kernel
theorem dX11_best_59 : decode cX11_best 59 = .ok (.aload_n 0, 1) := by decide +kernel
theorem dX11_best_60 : decode cX11_best 60 = .ok (.getfield 29, 3) := by decide +kernel
theorem dX11_best_63 : decode cX11_best 63 = .ok (.getfield 195, 3) := by decide +kernel
theorem dX11_best_66 : decode cX11_best 66 = .ok (.iload_n 1, 1) := by decide +kernel
theorem dX11_best_67 : decode cX11_best 67 = .ok (.invokevirtual 113, 3) := by decide +kernel
theorem dX11_best_70 : decode cX11_best 70 = .ok (.goto 5, 3) := by decide +kernel
theorem dX11_best_73 : decode cX11_best 73 = .ok (.bipush (-9), 2) := by decide +kernel
theorem dX11_best_75 : decode cX11_best 75 = .ok (.ireturn, 1) := by decide +kernel
theorem dX11_greedy_0 : decode cX11_greedy 0 = .ok (.aload_n 0, 1) := by decide +kernel
theorem dX11_greedy_1 : decode cX11_greedy 1 = .ok (.getfield 29, 3) := by decide +kernel
theorem dX11_greedy_4 : decode cX11_greedy 4 = .ok (.aload_n 0, 1) := by decide +kernel
theorem dX11_greedy_5 : decode cX11_greedy 5 = .ok (.getfield 10, 3) := by decide +kernel
theorem dX11_greedy_8 : decode cX11_greedy 8 = .ok (.getfield 96, 3) := by decide +kernel
theorem dX11_greedy_11 : decode cX11_greedy 11 = .ok (.aload_n 0, 1) := by decide +kernel
theorem dX11_greedy_12 : decode cX11_greedy 12 = .ok (.invokevirtual 134, 3) := by decide +kernel
theorem dX11_greedy_15 : decode cX11_greedy 15 = .ok (.aload_n 0, 1) := by decide +kernel
theorem dX11_greedy_16 : decode cX11_greedy 16 = .ok (.getfield 10, 3) := by decide +kernel
theorem dX11_greedy_19 : decode cX11_greedy 19 = .ok (.getfield 181, 3) := by decide +kernel
theorem dX11_greedy_22 : decode cX11_greedy 22 = .ok (.invokevirtual 198, 3) := by decide +kernel
theorem dX11_greedy_25 : decode cX11_greedy 25 = .ok (.ireturn, 1) := by decide +kernel
theorem dX11_forty_0 : decode cX11_forty 0 = .ok (.iload_n 1, 1) := by decide +kernel
theorem dX11_forty_1 : decode cX11_forty 1 = .ok (.invokestatic 131, 3) := by decide +kernel
theorem dX11_forty_4 : decode cX11_forty 4 = .ok (.ifCond .ne 9, 3) := by decide +kernel
theorem dX11_forty_7 : decode cX11_forty 7 = .ok (.aload_n 0, 1) := by decide +kernel
theorem dX11_forty_8 : decode cX11_forty 8 = .ok (.iconst (-1), 1) := by decide +kernel
theorem dX11_forty_9 : decode cX11_forty 9 = .ok (.invokevirtual 67, 3) := by decide +kernel
theorem dX11_forty_12 : decode cX11_forty 12 = .ok (.ireturn, 1) := by decide +kernel
theorem dX11_forty_13 : decode cX11_forty 13 = .ok (.iload_n 2, 1) := by decide +kernel
theorem dX11_forty_14 : decode cX11_forty 14 = .ok (.ifCond .ge 10, 3) := by decide +kernel
theorem dX11_forty_17 : decode cX11_forty 17 = .ok (.aload_n 0, 1) := by decide +kernel
theorem dX11_forty_18 : decode cX11_forty 18 = .ok (.bipush (-4), 2) := by decide +kernel
theorem dX11_forty_20 : decode cX11_forty 20 = .ok (.invokevirtual 67, 3) := by decide +kernel
theorem dX11_forty_23 : decode cX11_forty 23 = .ok (.ireturn, 1) := by decide +kernel
theorem dX11_forty_24 : decode cX11_forty 24 = .ok (.iload_n 2, 1) := by decide +kernel
theorem dX11_forty_25 : decode cX11_forty 25 = .ok (.aload_n 0, 1) := by decide +kernel
theorem dX11_forty_26 : decode cX11_forty 26 = .ok (.getfield 10, 3) := by decide +kernel
theorem dX11_forty_29 : decode cX11_forty 29 = .ok (.getfield 96, 3) := by decide +kernel
theorem dX11_forty_32 : decode cX11_forty 32 = .ok (.getfield 201, 3) := by decide +kernel
theorem dX11_forty_35 : decode cX11_forty 35 = .ok (.if_icmp .le 10, 3) := by decide +kernel
theorem dX11_forty_38 : decode cX11_forty 38 = .ok (.aload_n 0, 1) := by decide +kernel
theorem dX11_forty_39 : decode cX11_forty 39 = .ok (.bipush (-6), 2) := by decide +kernel
theorem dX11_forty_41 : decode cX11_forty 41 = .ok (.invokevirtual 67, 3) := by decide +kernel
theorem dX11_forty_44 : decode cX11_forty 44 = .ok (.ireturn, 1) := by decide +kernel
theorem dX11_forty_45 : decode cX11_forty 45 = .ok (.aload_n 0, 1) := by decide +kernel
theorem dX11_forty_46 : decode cX11_forty 46 = .ok (.getfield 29, 3) := by decide +kernel
theorem dX11_forty_49 : decode cX11_forty 49 = .ok (.aload_n 0, 1) := by decide +kernel
theorem dX11_forty_50 : decode cX11_forty 50 = .ok (.getfield 10, 3) := by decide +kernel
theorem dX11_forty_53 : decode cX11_forty 53 = .ok (.getfield 96, 3) := by decide +kernel
theorem dX11_forty_56 : decode cX11_forty 56 = .ok (.aload_n 0, 1) := by decide +kernel
theorem dX11_forty_57 : decode cX11_forty 57 = .ok (.invokevirtual 134, 3) := by decide +kernel
theorem dX11_forty_60 : decode cX11_forty 60 = .ok (.iload_n 1, 1) := by decide +kernel
theorem dX11_forty_61 : decode cX11_forty 61 = .ok (.iload_n 2, 1) := by decide +kernel
theorem dX11_forty_62 : decode cX11_forty 62 = .ok (.invokevirtual 202, 3) := by decide +kernel
theorem dX11_forty_65 : decode cX11_forty 65 = .ok (.ireturn, 1) := by decide +kernel
theorem dX11_going_0 : decode cX11_going 0 = .ok (.iload_n 2, 1) := by decide +kernel
theorem dX11_going_1 : decode cX11_going 1 = .ok (.iconst (-1), 1) := by decide +kernel
theorem dX11_going_2 : decode cX11_going 2 = .ok (.if_icmp .ne 7, 3) := by decide +kernel
theorem dX11_going_5 : decode cX11_going 5 = .ok (.iconst 1, 1) := by decide +kernel
theorem dX11_going_6 : decode cX11_going 6 = .ok (.goto 4, 3) := by decide +kernel
theorem dX11_going_9 : decode cX11_going 9 = .ok (.iconst 0, 1) := by decide +kernel
theorem dX11_going_10 : decode cX11_going 10 = .ok (.istore_n 3, 1) := by decide +kernel
theorem dX11_going_11 : decode cX11_going 11 = .ok (.iload_n 1, 1) := by decide +kernel
theorem dX11_going_12 : decode cX11_going 12 = .ok (.invokestatic 131, 3) := by decide +kernel
theorem dX11_going_15 : decode cX11_going 15 = .ok (.ifCond .eq 21, 3) := by decide +kernel
theorem dX11_going_18 : decode cX11_going 18 = .ok (.iload_n 3, 1) := by decide +kernel
theorem dX11_going_19 : decode cX11_going 19 = .ok (.ifCond .ne 23, 3) := by decide +kernel
theorem dX11_going_22 : decode cX11_going 22 = .ok (.aload_n 0, 1) := by decide +kernel
theorem dX11_going_23 : decode cX11_going 23 = .ok (.getfield 10, 3) := by decide +kernel
theorem dX11_going_26 : decode cX11_going 26 = .ok (.getfield 96, 3) := by decide +kernel
theorem dX11_going_29 : decode cX11_going 29 = .ok (.iload_n 2, 1) := by decide +kernel
theorem dX11_going_30 : decode cX11_going 30 = .ok (.invokevirtual 128, 3) := by decide +kernel
theorem dX11_going_33 : decode cX11_going 33 = .ok (.ifCond .ne 9, 3) := by decide +kernel
theorem dX11_going_36 : decode cX11_going 36 = .ok (.aload_n 0, 1) := by decide +kernel
theorem dX11_going_37 : decode cX11_going 37 = .ok (.iconst (-1), 1) := by decide +kernel
theorem dX11_going_38 : decode cX11_going 38 = .ok (.invokevirtual 67, 3) := by decide +kernel
theorem dX11_going_41 : decode cX11_going 41 = .ok (.ireturn, 1) := by decide +kernel
theorem dX11_going_42 : decode cX11_going 42 = .ok (.aload_n 0, 1) := by decide +kernel
theorem dX11_going_43 : decode cX11_going 43 = .ok (.getfield 10, 3) := by decide +kernel
theorem dX11_going_46 : decode cX11_going 46 = .ok (.getfield 205, 3) := by decide +kernel
theorem dX11_going_49 : decode cX11_going 49 = .ok (.invokevirtual 74, 3) := by decide +kernel
theorem dX11_going_52 : decode cX11_going 52 = .ok (.ifCond .eq 10, 3) := by decide +kernel
theorem dX11_going_55 : decode cX11_going 55 = .ok (.aload_n 0, 1) := by decide +kernel
theorem dX11_going_56 : decode cX11_going 56 = .ok (.bipush (-6), 2) := by decide +kernel
theorem dX11_going_58 : decode cX11_going 58 = .ok (.invokevirtual 67, 3) := by decide +kernel
theorem dX11_going_61 : decode cX11_going 61 = .ok (.ireturn, 1) := by decide +kernel
theorem dX11_going_62 : decode cX11_going 62 = .ok (.aload_n 0, 1) := by decide +kernel
theorem dX11_going_63 : decode cX11_going 63 = .ok (.getfield 10, 3) := by decide +kernel
theorem dX11_going_66 : decode cX11_going 66 = .ok (.getfield 205, 3) := by decide +kernel
theorem dX11_going_69 : decode cX11_going 69 = .ok (.iload_n 1, 1) := by decide +kernel
theorem dX11_going_70 : decode cX11_going 70 = .ok (.invokevirtual 78, 3) := by decide +kernel
theorem dX11_going_73 : decode cX11_going 73 = .ok (.aload_n 0, 1) := by decide +kernel
theorem dX11_going_74 : decode cX11_going 74 = .ok (.getfield 10, 3) := by decide +kernel
theorem dX11_going_77 : decode cX11_going 77 = .ok (.getfield 208, 3) := by decide +kernel
theorem dX11_going_80 : decode cX11_going 80 = .ok (.iload_n 3, 1) := by decide +kernel
theorem dX11_going_81 : decode cX11_going 81 = .ok (.ifCond .eq 8, 3) := by decide +kernel
theorem dX11_going_84 : decode cX11_going 84 = .ok (.bipush (-9), 2) := by decide +kernel
theorem dX11_going_86 : decode cX11_going 86 = .ok (.goto 4, 3) := by decide +kernel
theorem dX11_going_89 : decode cX11_going 89 = .ok (.iload_n 2, 1) := by decide +kernel
theorem dX11_going_90 : decode cX11_going 90 = .ok (.invokevirtual 78, 3) := by decide +kernel
theorem dX11_going_93 : decode cX11_going 93 = .ok (.aload_n 0, 1) := by decide +kernel
theorem dX11_going_94 : decode cX11_going 94 = .ok (.getfield 10, 3) := by decide +kernel
theorem dX11_going_97 : decode cX11_going 97 = .ok (.getfield 205, 3) := by decide +kernel
theorem dX11_going_100 : decode cX11_going 100 = .ok (.getfield 81, 3) := by decide +kernel
theorem dX11_going_103 : decode cX11_going 103 = .ok (.ireturn, 1) := by decide +kernel
theorem dX11_think_0 : decode cX11_think 0 = .ok (.aload_n 0, 1) := by decide +kernel
theorem dX11_think_1 : decode cX11_think 1 = .ok (.iload_n 1, 1) := by decide +kernel
theorem dX11_think_2 : decode cX11_think 2 = .ok (.iload_n 2, 1) := by decide +kernel
theorem dX11_think_3 : decode cX11_think 3 = .ok (.invokevirtual 92, 3) := by decide +kernel
theorem dX11_think_6 : decode cX11_think 6 = .ok (.ifCond .ne 9, 3) := by decide +kernel
theorem dX11_think_9 : decode cX11_think 9 = .ok (.aload_n 0, 1) := by decide +kernel
theorem dX11_think_10 : decode cX11_think 10 = .ok (.iconst (-1), 1) := by decide +kernel
theorem dX11_think_11 : decode cX11_think 11 = .ok (.invokevirtual 67, 3) := by decide +kernel
theorem dX11_think_14 : decode cX11_think 14 = .ok (.ireturn, 1) := by decide +kernel
theorem dX11_think_15 : decode cX11_think 15 = .ok (.iload_n 3, 1) := by decide +kernel
theorem dX11_think_16 : decode cX11_think 16 = .ok (.ifCond .lt 8, 3) := by decide +kernel
theorem dX11_think_19 : decode cX11_think 19 = .ok (.iload_n 3, 1) := by decide +kernel
theorem dX11_think_20 : decode cX11_think 20 = .ok (.iconst 2, 1) := by decide +kernel
theorem dX11_think_21 : decode cX11_think 21 = .ok (.if_icmp .le 10, 3) := by decide +kernel
theorem dX11_think_24 : decode cX11_think 24 = .ok (.aload_n 0, 1) := by decide +kernel
theorem dX11_think_25 : decode cX11_think 25 = .ok (.bipush (-2), 2) := by decide +kernel
theorem dX11_think_27 : decode cX11_think 27 = .ok (.invokevirtual 67, 3) := by decide +kernel
theorem dX11_think_30 : decode cX11_think 30 = .ok (.ireturn, 1) := by decide +kernel
theorem dX11_think_31 : decode cX11_think 31 = .ok (.aload_n 0, 1) := by decide +kernel
theorem dX11_think_32 : decode cX11_think 32 = .ok (.getfield 29, 3) := by decide +kernel
theorem dX11_think_35 : decode cX11_think 35 = .ok (.aload_n 0, 1) := by decide +kernel
theorem dX11_think_36 : decode cX11_think 36 = .ok (.getfield 10, 3) := by decide +kernel
theorem dX11_think_39 : decode cX11_think 39 = .ok (.aload_n 0, 1) := by decide +kernel
theorem dX11_think_40 : decode cX11_think 40 = .ok (.invokevirtual 134, 3) := by decide +kernel
theorem dX11_think_43 : decode cX11_think 43 = .ok (.iload_n 1, 1) := by decide +kernel
theorem dX11_think_44 : decode cX11_think 44 = .ok (.iload_n 2, 1) := by decide +kernel
theorem dX11_think_45 : decode cX11_think 45 = .ok (.invokevirtual 211, 3) := by decide +kernel
theorem dX11_think_48 : decode cX11_think 48 = .ok (.istore 4, 2) := by decide +kernel
theorem dX11_think_50 : decode cX11_think 50 = .ok (.iload_n 3, 1) := by decide +kernel
theorem dX11_think_51 : decode cX11_think 51 = .ok (.iconst 2, 1) := by decide +kernel
theorem dX11_think_52 : decode cX11_think 52 = .ok (.if_icmp .ne 9, 3) := by decide +kernel
theorem dX11_think_55 : decode cX11_think 55 = .ok (.iload 4, 2) := by decide +kernel
theorem dX11_think_57 : decode cX11_think 57 = .ok (.invokestatic 215, 3) := by decide +kernel
theorem dX11_think_60 : decode cX11_think 60 = .ok (.ireturn, 1) := by decide +kernel
theorem dX11_think_61 : decode cX11_think 61 = .ok (.iload_n 3, 1) := by decide +kernel
theorem dX11_think_62 : decode cX11_think 62 = .ok (.ifCond .ne 11, 3) := by decide +kernel
theorem dX11_think_65 : decode cX11_think 65 = .ok (.iload 4, 2) := by decide +kernel
theorem dX11_think_67 : decode cX11_think 67 = .ok (.invokestatic 220, 3) := by decide +kernel
theorem dX11_think_70 : decode cX11_think 70 = .ok (.goto 8, 3) := by decide +kernel
theorem dX11_think_73 : decode cX11_think 73 = .ok (.iload 4, 2) := by decide +kernel
theorem dX11_think_75 : decode cX11_think 75 = .ok (.invokestatic 223, 3) := by decide +kernel
theorem dX11_think_78 : decode cX11_think 78 = .ok (.ireturn, 1) := by decide +kernel
theorem dX11_tell_0 : decode cX11_tell 0 = .ok (.aload_n 0, 1) := by decide +kernel
theorem dX11_tell_1 : decode cX11_tell 1 = .ok (.iload_n 1, 1) := by decide +kernel
theorem dX11_tell_2 : decode cX11_tell 2 = .ok (.iload_n 2, 1) := by decide +kernel
theorem dX11_tell_3 : decode cX11_tell 3 = .ok (.invokevirtual 92, 3) := by decide +kernel
theorem dX11_tell_6 : decode cX11_tell 6 = .ok (.ifCond .ne 9, 3) := by decide +kernel
theorem dX11_tell_9 : decode cX11_tell 9 = .ok (.aload_n 0, 1) := by decide +kernel
theorem dX11_tell_10 : decode cX11_tell 10 = .ok (.iconst (-1), 1) := by decide +kernel
theorem dX11_tell_11 : decode cX11_tell 11 = .ok (.invokevirtual 67, 3) := by decide +kernel
theorem dX11_tell_14 : decode cX11_tell 14 = .ok (.ireturn, 1) := by decide +kernel
theorem dX11_tell_15 : decode cX11_tell 15 = .ok (.aload_n 0, 1) := by decide +kernel
theorem dX11_tell_16 : decode cX11_tell 16 = .ok (.getfield 29, 3) := by decide +kernel
theorem dX11_tell_19 : decode cX11_tell 19 = .ok (.aload_n 0, 1) := by decide +kernel
theorem dX11_tell_20 : decode cX11_tell 20 = .ok (.getfield 10, 3) := by decide +kernel
theorem dX11_tell_23 : decode cX11_tell 23 = .ok (.aload_n 0, 1) := by decide +kernel
theorem dX11_tell_24 : decode cX11_tell 24 = .ok (.invokevirtual 134, 3) := by decide +kernel
theorem dX11_tell_27 : decode cX11_tell 27 = .ok (.iload_n 1, 1) := by decide +kernel
theorem dX11_tell_28 : decode cX11_tell 28 = .ok (.iload_n 2, 1) := by decide +kernel
theorem dX11_tell_29 : decode cX11_tell 29 = .ok (.invokevirtual 211, 3) := by decide +kernel
theorem dX11_tell_32 : decode cX11_tell 32 = .ok (.istore_n 3, 1) := by decide +kernel
theorem dX11_tell_33 : decode cX11_tell 33 = .ok (.iload_n 3, 1) := by decide +kernel
theorem dX11_tell_34 : decode cX11_tell 34 = .ok (.ifCond .ne 10, 3) := by decide +kernel
theorem dX11_tell_37 : decode cX11_tell 37 = .ok (.aload_n 0, 1) := by decide +kernel
theorem dX11_tell_38 : decode cX11_tell 38 = .ok (.bipush (-3), 2) := by decide +kernel
theorem dX11_tell_40 : decode cX11_tell 40 = .ok (.invokevirtual 67, 3) := by decide +kernel
theorem dX11_tell_43 : decode cX11_tell 43 = .ok (.ireturn, 1) := by decide +kernel
theorem dX11_tell_44 : decode cX11_tell 44 = .ok (.aload_n 0, 1) := by decide +kernel
theorem dX11_tell_45 : decode cX11_tell 45 = .ok (.getfield 29, 3) := by decide +kernel
theorem dX11_tell_48 : decode cX11_tell 48 = .ok (.aload_n 0, 1) := by decide +kernel
theorem dX11_tell_49 : decode cX11_tell 49 = .ok (.getfield 10, 3) := by decide +kernel
theorem dX11_tell_52 : decode cX11_tell 52 = .ok (.getfield 96, 3) := by decide +kernel
theorem dX11_tell_55 : decode cX11_tell 55 = .ok (.aload_n 0, 1) := by decide +kernel
theorem dX11_tell_56 : decode cX11_tell 56 = .ok (.invokevirtual 134, 3) := by decide +kernel
theorem dX11_tell_59 : decode cX11_tell 59 = .ok (.iload_n 1, 1) := by decide +kernel
theorem dX11_tell_60 : decode cX11_tell 60 = .ok (.iload_n 2, 1) := by decide +kernel
theorem dX11_tell_61 : decode cX11_tell 61 = .ok (.iload_n 3, 1) := by decide +kernel
theorem dX11_tell_62 : decode cX11_tell 62 = .ok (.invokevirtual 226, 3) := by decide +kernel
theorem dX11_tell_65 : decode cX11_tell 65 = .ok (.ireturn, 1) := by decide +kernel
theorem dX11_laws_0 : decode cX11_laws 0 = .ok (.aload_n 0, 1) := by decide +kernel
theorem dX11_laws_1 : decode cX11_laws 1 = .ok (.getfield 10, 3) := by decide +kernel
theorem dX11_laws_4 : decode cX11_laws 4 = .ok (.getfield 96, 3) := by decide +kernel
theorem dX11_laws_7 : decode cX11_laws 7 = .ok (.iload_n 1, 1) := by decide +kernel
theorem dX11_laws_8 : decode cX11_laws 8 = .ok (.invokevirtual 128, 3) := by decide +kernel
theorem dX11_laws_11 : decode cX11_laws 11 = .ok (.ifCond .ne 9, 3) := by decide +kernel
theorem dX11_laws_14 : decode cX11_laws 14 = .ok (.aload_n 0, 1) := by decide +kernel
theorem dX11_laws_15 : decode cX11_laws 15 = .ok (.iconst (-1), 1) := by decide +kernel
theorem dX11_laws_16 : decode cX11_laws 16 = .ok (.invokevirtual 67, 3) := by decide +kernel
theorem dX11_laws_19 : decode cX11_laws 19 = .ok (.ireturn, 1) := by decide +kernel
theorem dX11_laws_20 : decode cX11_laws 20 = .ok (.iconst 0, 1) := by decide +kernel
theorem dX11_laws_21 : decode cX11_laws 21 = .ok (.istore_n 2, 1) := by decide +kernel
theorem dX11_laws_22 : decode cX11_laws 22 = .ok (.iconst 0, 1) := by decide +kernel
theorem dX11_laws_23 : decode cX11_laws 23 = .ok (.istore_n 3, 1) := by decide +kernel
theorem dX11_laws_24 : decode cX11_laws 24 = .ok (.iload_n 3, 1) := by decide +kernel
theorem dX11_laws_25 : decode cX11_laws 25 = .ok (.aload_n 0, 1) := by decide +kernel
theorem dX11_laws_26 : decode cX11_laws 26 = .ok (.getfield 52, 3) := by decide +kernel
theorem dX11_laws_29 : decode cX11_laws 29 = .ok (.arraylength, 1) := by decide +kernel
theorem dX11_laws_30 : decode cX11_laws 30 = .ok (.if_icmp .ge 39, 3) := by decide +kernel
theorem dX11_laws_33 : decode cX11_laws 33 = .ok (.aload_n 0, 1) := by decide +kernel
theorem dX11_laws_34 : decode cX11_laws 34 = .ok (.getfield 29, 3) := by decide +kernel
theorem dX11_laws_37 : decode cX11_laws 37 = .ok (.aload_n 0, 1) := by decide +kernel
theorem dX11_laws_38 : decode cX11_laws 38 = .ok (.getfield 10, 3) := by decide +kernel
theorem dX11_laws_41 : decode cX11_laws 41 = .ok (.getfield 96, 3) := by decide +kernel
theorem dX11_laws_44 : decode cX11_laws 44 = .ok (.aload_n 0, 1) := by decide +kernel
theorem dX11_laws_45 : decode cX11_laws 45 = .ok (.getfield 52, 3) := by decide +kernel
theorem dX11_laws_48 : decode cX11_laws 48 = .ok (.iload_n 3, 1) := by decide +kernel
theorem dX11_laws_49 : decode cX11_laws 49 = .ok (.aaload, 1) := by decide +kernel
theorem dX11_laws_50 : decode cX11_laws 50 = .ok (.iload_n 1, 1) := by decide +kernel
theorem dX11_laws_51 : decode cX11_laws 51 = .ok (.invokevirtual 170, 3) := by decide +kernel
theorem dX11_laws_54 : decode cX11_laws 54 = .ok (.ifCond .eq 9, 3) := by decide +kernel
theorem dX11_laws_57 : decode cX11_laws 57 = .ok (.iload_n 2, 1) := by decide +kernel
theorem dX11_laws_58 : decode cX11_laws 58 = .ok (.iconst 1, 1) := by decide +kernel
theorem dX11_laws_59 : decode cX11_laws 59 = .ok (.iload_n 3, 1) := by decide +kernel
theorem dX11_laws_60 : decode cX11_laws 60 = .ok (.ishl, 1) := by decide +kernel
theorem dX11_laws_61 : decode cX11_laws 61 = .ok (.ior, 1) := by decide +kernel
theorem dX11_laws_62 : decode cX11_laws 62 = .ok (.istore_n 2, 1) := by decide +kernel
theorem dX11_laws_63 : decode cX11_laws 63 = .ok (.iinc 3 1, 3) := by decide +kernel
theorem dX11_laws_66 : decode cX11_laws 66 = .ok (.goto (-42), 3) := by decide +kernel
theorem dX11_laws_69 : decode cX11_laws 69 = .ok (.iload_n 2, 1) := by decide +kernel
theorem dX11_laws_70 : decode cX11_laws 70 = .ok (.ireturn, 1) := by decide +kernel
theorem dX11_eye_0 : decode cX11_eye 0 = .ok (.aload_n 0, 1) := by decide +kernel
theorem dX11_eye_1 : decode cX11_eye 1 = .ok (.getfield 10, 3) := by decide +kernel
theorem dX11_eye_4 : decode cX11_eye 4 = .ok (.getfield 96, 3) := by decide +kernel
theorem dX11_eye_7 : decode cX11_eye 7 = .ok (.iload_n 1, 1) := by decide +kernel
theorem dX11_eye_8 : decode cX11_eye 8 = .ok (.invokevirtual 128, 3) := by decide +kernel
theorem dX11_eye_11 : decode cX11_eye 11 = .ok (.ifCond .eq 10, 3) := by decide +kernel
theorem dX11_eye_14 : decode cX11_eye 14 = .ok (.iload_n 2, 1) := by decide +kernel
theorem dX11_eye_15 : decode cX11_eye 15 = .ok (.invokestatic 131, 3) := by decide +kernel
theorem dX11_eye_18 : decode cX11_eye 18 = .ok (.ifCond .ne 9, 3) := by decide +kernel
theorem dX11_eye_21 : decode cX11_eye 21 = .ok (.aload_n 0, 1) := by decide +kernel
theorem dX11_eye_22 : decode cX11_eye 22 = .ok (.iconst (-1), 1) := by decide +kernel
theorem dX11_eye_23 : decode cX11_eye 23 = .ok (.invokevirtual 67, 3) := by decide +kernel
theorem dX11_eye_26 : decode cX11_eye 26 = .ok (.ireturn, 1) := by decide +kernel
theorem dX11_eye_27 : decode cX11_eye 27 = .ok (.iload_n 3, 1) := by decide +kernel
theorem dX11_eye_28 : decode cX11_eye 28 = .ok (.ifCond .eq 15, 3) := by decide +kernel
theorem dX11_eye_31 : decode cX11_eye 31 = .ok (.iload_n 3, 1) := by decide +kernel
theorem dX11_eye_32 : decode cX11_eye 32 = .ok (.iconst 1, 1) := by decide +kernel
theorem dX11_eye_33 : decode cX11_eye 33 = .ok (.if_icmp .eq 10, 3) := by decide +kernel
theorem dX11_eye_36 : decode cX11_eye 36 = .ok (.aload_n 0, 1) := by decide +kernel
theorem dX11_eye_37 : decode cX11_eye 37 = .ok (.bipush (-2), 2) := by decide +kernel
theorem dX11_eye_39 : decode cX11_eye 39 = .ok (.invokevirtual 67, 3) := by decide +kernel
theorem dX11_eye_42 : decode cX11_eye 42 = .ok (.ireturn, 1) := by decide +kernel
theorem dX11_eye_43 : decode cX11_eye 43 = .ok (.aload_n 0, 1) := by decide +kernel
theorem dX11_eye_44 : decode cX11_eye 44 = .ok (.invokevirtual 134, 3) := by decide +kernel
theorem dX11_eye_47 : decode cX11_eye 47 = .ok (.aload_n 0, 1) := by decide +kernel
theorem dX11_eye_48 : decode cX11_eye 48 = .ok (.getfield 10, 3) := by decide +kernel
theorem dX11_eye_51 : decode cX11_eye 51 = .ok (.getfield 96, 3) := by decide +kernel
theorem dX11_eye_54 : decode cX11_eye 54 = .ok (.iload_n 1, 1) := by decide +kernel
theorem dX11_eye_55 : decode cX11_eye 55 = .ok (.iload_n 2, 1) := by decide +kernel
theorem dX11_eye_56 : decode cX11_eye 56 = .ok (.aload_n 0, 1) := by decide +kernel
theorem dX11_eye_57 : decode cX11_eye 57 = .ok (.getfield 10, 3) := by decide +kernel
theorem dX11_eye_60 : decode cX11_eye 60 = .ok (.getfield 125, 3) := by decide +kernel
theorem dX11_eye_63 : decode cX11_eye 63 = .ok (.invokevirtual 230, 3) := by decide +kernel
theorem dX11_eye_66 : decode cX11_eye 66 = .ok (.istore 4, 2) := by decide +kernel
theorem dX11_eye_68 : decode cX11_eye 68 = .ok (.iload_n 3, 1) := by decide +kernel
theorem dX11_eye_69 : decode cX11_eye 69 = .ok (.ifCond .ne 8, 3) := by decide +kernel
theorem dX11_eye_72 : decode cX11_eye 72 = .ok (.iload 4, 2) := by decide +kernel
theorem dX11_eye_74 : decode cX11_eye 74 = .ok (.goto 5, 3) := by decide +kernel
theorem dX11_eye_77 : decode cX11_eye 77 = .ok (.bipush 100, 2) := by decide +kernel
theorem dX11_eye_79 : decode cX11_eye 79 = .ok (.iload 4, 2) := by decide +kernel
theorem dX11_eye_81 : decode cX11_eye 81 = .ok (.invokestatic 234, 3) := by decide +kernel
theorem dX11_eye_84 : decode cX11_eye 84 = .ok (.ireturn, 1) := by decide +kernel
theorem dX11_surest_0 : decode cX11_surest 0 = .ok (.aload_n 0, 1) := by decide +kernel
theorem dX11_surest_1 : decode cX11_surest 1 = .ok (.getfield 10, 3) := by decide +kernel
theorem dX11_surest_4 : decode cX11_surest 4 = .ok (.getfield 96, 3) := by decide +kernel
theorem dX11_surest_7 : decode cX11_surest 7 = .ok (.iload_n 1, 1) := by decide +kernel
theorem dX11_surest_8 : decode cX11_surest 8 = .ok (.invokevirtual 128, 3) := by decide +kernel
theorem dX11_surest_11 : decode cX11_surest 11 = .ok (.ifCond .ne 9, 3) := by decide +kernel
theorem dX11_surest_14 : decode cX11_surest 14 = .ok (.aload_n 0, 1) := by decide +kernel
theorem dX11_surest_15 : decode cX11_surest 15 = .ok (.iconst (-1), 1) := by decide +kernel
theorem dX11_surest_16 : decode cX11_surest 16 = .ok (.invokevirtual 67, 3) := by decide +kernel
theorem dX11_surest_19 : decode cX11_surest 19 = .ok (.ireturn, 1) := by decide +kernel
theorem dX11_surest_20 : decode cX11_surest 20 = .ok (.aload_n 0, 1) := by decide +kernel
theorem dX11_surest_21 : decode cX11_surest 21 = .ok (.getfield 29, 3) := by decide +kernel
theorem dX11_surest_24 : decode cX11_surest 24 = .ok (.aload_n 0, 1) := by decide +kernel
theorem dX11_surest_25 : decode cX11_surest 25 = .ok (.getfield 10, 3) := by decide +kernel
theorem dX11_surest_28 : decode cX11_surest 28 = .ok (.getfield 96, 3) := by decide +kernel
theorem dX11_surest_31 : decode cX11_surest 31 = .ok (.aload_n 0, 1) := by decide +kernel
theorem dX11_surest_32 : decode cX11_surest 32 = .ok (.invokevirtual 134, 3) := by decide +kernel
theorem dX11_surest_35 : decode cX11_surest 35 = .ok (.iload_n 1, 1) := by decide +kernel
theorem dX11_surest_36 : decode cX11_surest 36 = .ok (.aload_n 0, 1) := by decide +kernel
theorem dX11_surest_37 : decode cX11_surest 37 = .ok (.getfield 10, 3) := by decide +kernel
theorem dX11_surest_40 : decode cX11_surest 40 = .ok (.getfield 125, 3) := by decide +kernel
theorem dX11_surest_43 : decode cX11_surest 43 = .ok (.invokevirtual 237, 3) := by decide +kernel
theorem dX11_surest_46 : decode cX11_surest 46 = .ok (.ireturn, 1) := by decide +kernel
theorem dX11_morning_0 : decode cX11_morning 0 = .ok (.iconst 0, 1) := by decide +kernel
theorem dX11_morning_1 : decode cX11_morning 1 = .ok (.istore_n 1, 1) := by decide +kernel
theorem dX11_morning_2 : decode cX11_morning 2 = .ok (.iconst 0, 1) := by decide +kernel
theorem dX11_morning_3 : decode cX11_morning 3 = .ok (.istore_n 2, 1) := by decide +kernel
theorem dX11_morning_4 : decode cX11_morning 4 = .ok (.iload_n 2, 1) := by decide +kernel
theorem dX11_morning_5 : decode cX11_morning 5 = .ok (.aload_n 0, 1) := by decide +kernel
theorem dX11_morning_6 : decode cX11_morning 6 = .ok (.getfield 10, 3) := by decide +kernel
theorem dX11_morning_9 : decode cX11_morning 9 = .ok (.getfield 110, 3) := by decide +kernel
theorem dX11_morning_12 : decode cX11_morning 12 = .ok (.getfield 81, 3) := by decide +kernel
theorem dX11_morning_15 : decode cX11_morning 15 = .ok (.if_icmp .ge 75, 3) := by decide +kernel
theorem dX11_morning_18 : decode cX11_morning 18 = .ok (.aload_n 0, 1) := by decide +kernel
theorem dX11_morning_19 : decode cX11_morning 19 = .ok (.getfield 29, 3) := by decide +kernel
theorem dX11_morning_22 : decode cX11_morning 22 = .ok (.aload_n 0, 1) := by decide +kernel
theorem dX11_morning_23 : decode cX11_morning 23 = .ok (.getfield 10, 3) := by decide +kernel
theorem dX11_morning_26 : decode cX11_morning 26 = .ok (.aload_n 0, 1) := by decide +kernel
theorem dX11_morning_27 : decode cX11_morning 27 = .ok (.invokevirtual 134, 3) := by decide +kernel
theorem dX11_morning_30 : decode cX11_morning 30 = .ok (.iload_n 2, 1) := by decide +kernel
theorem dX11_morning_31 : decode cX11_morning 31 = .ok (.invokevirtual 240, 3) := by decide +kernel
theorem dX11_morning_34 : decode cX11_morning 34 = .ok (.istore_n 3, 1) := by decide +kernel
theorem dX11_morning_35 : decode cX11_morning 35 = .ok (.aload_n 0, 1) := by decide +kernel
theorem dX11_morning_36 : decode cX11_morning 36 = .ok (.invokevirtual 134, 3) := by decide +kernel
theorem dX11_morning_39 : decode cX11_morning 39 = .ok (.aload_n 0, 1) := by decide +kernel
theorem dX11_morning_40 : decode cX11_morning 40 = .ok (.getfield 10, 3) := by decide +kernel
theorem dX11_morning_43 : decode cX11_morning 43 = .ok (.getfield 96, 3) := by decide +kernel
theorem dX11_morning_46 : decode cX11_morning 46 = .ok (.iload_n 3, 1) := by decide +kernel
theorem dX11_morning_47 : decode cX11_morning 47 = .ok (.invokevirtual 149, 3) := by decide +kernel
theorem dX11_morning_50 : decode cX11_morning 50 = .ok (.istore 4, 2) := by decide +kernel
theorem dX11_morning_52 : decode cX11_morning 52 = .ok (.aload_n 0, 1) := by decide +kernel
theorem dX11_morning_53 : decode cX11_morning 53 = .ok (.getfield 10, 3) := by decide +kernel
theorem dX11_morning_56 : decode cX11_morning 56 = .ok (.dup, 1) := by decide +kernel
theorem dX11_morning_57 : decode cX11_morning 57 = .ok (.getfield 146, 3) := by decide +kernel
theorem dX11_morning_60 : decode cX11_morning 60 = .ok (.iconst 1, 1) := by decide +kernel
theorem dX11_morning_61 : decode cX11_morning 61 = .ok (.iadd, 1) := by decide +kernel
theorem dX11_morning_62 : decode cX11_morning 62 = .ok (.putfield 146, 3) := by decide +kernel
theorem dX11_morning_65 : decode cX11_morning 65 = .ok (.iload 4, 2) := by decide +kernel
theorem dX11_morning_67 : decode cX11_morning 67 = .ok (.aload_n 0, 1) := by decide +kernel
theorem dX11_morning_68 : decode cX11_morning 68 = .ok (.getfield 10, 3) := by decide +kernel
theorem dX11_morning_71 : decode cX11_morning 71 = .ok (.getfield 116, 3) := by decide +kernel
theorem dX11_morning_74 : decode cX11_morning 74 = .ok (.iload_n 2, 1) := by decide +kernel
theorem dX11_morning_75 : decode cX11_morning 75 = .ok (.invokevirtual 113, 3) := by decide +kernel
theorem dX11_morning_78 : decode cX11_morning 78 = .ok (.if_icmp .ne 6, 3) := by decide +kernel
theorem dX11_morning_81 : decode cX11_morning 81 = .ok (.iinc 1 1, 3) := by decide +kernel
theorem dX11_morning_84 : decode cX11_morning 84 = .ok (.iinc 2 1, 3) := by decide +kernel
theorem dX11_morning_87 : decode cX11_morning 87 = .ok (.goto (-83), 3) := by decide +kernel
theorem dX11_morning_90 : decode cX11_morning 90 = .ok (.iload_n 1, 1) := by decide +kernel
theorem dX11_morning_91 : decode cX11_morning 91 = .ok (.ireturn, 1) := by decide +kernel
theorem dX11_writes_0 : decode cX11_writes 0 = .ok (.aload_n 0, 1) := by decide +kernel
theorem dX11_writes_1 : decode cX11_writes 1 = .ok (.getfield 10, 3) := by decide +kernel
theorem dX11_writes_4 : decode cX11_writes 4 = .ok (.iload_n 1, 1) := by decide +kernel
theorem dX11_writes_5 : decode cX11_writes 5 = .ok (.invokevirtual 106, 3) := by decide +kernel
theorem dX11_writes_8 : decode cX11_writes 8 = .ok (.ifCond .ne 9, 3) := by decide +kernel
theorem dX11_writes_11 : decode cX11_writes 11 = .ok (.aload_n 0, 1) := by decide +kernel
theorem dX11_writes_12 : decode cX11_writes 12 = .ok (.iconst (-1), 1) := by decide +kernel
theorem dX11_writes_13 : decode cX11_writes 13 = .ok (.invokevirtual 67, 3) := by decide +kernel
theorem dX11_writes_16 : decode cX11_writes 16 = .ok (.ireturn, 1) := by decide +kernel
theorem dX11_writes_17 : decode cX11_writes 17 = .ok (.aload_n 0, 1) := by decide +kernel
theorem dX11_writes_18 : decode cX11_writes 18 = .ok (.getfield 29, 3) := by decide +kernel
theorem dX11_writes_21 : decode cX11_writes 21 = .ok (.aload_n 0, 1) := by decide +kernel
theorem dX11_writes_22 : decode cX11_writes 22 = .ok (.getfield 10, 3) := by decide +kernel
theorem dX11_writes_25 : decode cX11_writes 25 = .ok (.aload_n 0, 1) := by decide +kernel
theorem dX11_writes_26 : decode cX11_writes 26 = .ok (.invokevirtual 134, 3) := by decide +kernel
theorem dX11_writes_29 : decode cX11_writes 29 = .ok (.iload_n 1, 1) := by decide +kernel
theorem dX11_writes_30 : decode cX11_writes 30 = .ok (.invokevirtual 240, 3) := by decide +kernel
theorem dX11_writes_33 : decode cX11_writes 33 = .ok (.ireturn, 1) := by decide +kernel
theorem dX11_both_0 : decode cX11_both 0 = .ok (.aload_n 0, 1) := by decide +kernel
theorem dX11_both_1 : decode cX11_both 1 = .ok (.getfield 10, 3) := by decide +kernel
theorem dX11_both_4 : decode cX11_both 4 = .ok (.iload_n 1, 1) := by decide +kernel
theorem dX11_both_5 : decode cX11_both 5 = .ok (.invokevirtual 106, 3) := by decide +kernel
theorem dX11_both_8 : decode cX11_both 8 = .ok (.ifCond .eq 19, 3) := by decide +kernel
theorem dX11_both_11 : decode cX11_both 11 = .ok (.aload_n 0, 1) := by decide +kernel
theorem dX11_both_12 : decode cX11_both 12 = .ok (.getfield 10, 3) := by decide +kernel
theorem dX11_both_15 : decode cX11_both 15 = .ok (.iload_n 2, 1) := by decide +kernel
theorem dX11_both_16 : decode cX11_both 16 = .ok (.invokevirtual 106, 3) := by decide +kernel
theorem dX11_both_19 : decode cX11_both 19 = .ok (.ifCond .eq 8, 3) := by decide +kernel
theorem dX11_both_22 : decode cX11_both 22 = .ok (.iload_n 1, 1) := by decide +kernel
theorem dX11_both_23 : decode cX11_both 23 = .ok (.iload_n 2, 1) := by decide +kernel
theorem dX11_both_24 : decode cX11_both 24 = .ok (.if_icmp .ne 9, 3) := by decide +kernel
theorem dX11_both_27 : decode cX11_both 27 = .ok (.aload_n 0, 1) := by decide +kernel
theorem dX11_both_28 : decode cX11_both 28 = .ok (.iconst (-1), 1) := by decide +kernel
theorem dX11_both_29 : decode cX11_both 29 = .ok (.invokevirtual 67, 3) := by decide +kernel
theorem dX11_both_32 : decode cX11_both 32 = .ok (.ireturn, 1) := by decide +kernel
theorem dX11_both_33 : decode cX11_both 33 = .ok (.aload_n 0, 1) := by decide +kernel
theorem dX11_both_34 : decode cX11_both 34 = .ok (.getfield 29, 3) := by decide +kernel
theorem dX11_both_37 : decode cX11_both 37 = .ok (.aload_n 0, 1) := by decide +kernel
theorem dX11_both_38 : decode cX11_both 38 = .ok (.getfield 10, 3) := by decide +kernel
theorem dX11_both_41 : decode cX11_both 41 = .ok (.aload_n 0, 1) := by decide +kernel
theorem dX11_both_42 : decode cX11_both 42 = .ok (.invokevirtual 134, 3) := by decide +kernel
theorem dX11_both_45 : decode cX11_both 45 = .ok (.iload_n 1, 1) := by decide +kernel
theorem dX11_both_46 : decode cX11_both 46 = .ok (.iload_n 2, 1) := by decide +kernel
theorem dX11_both_47 : decode cX11_both 47 = .ok (.invokevirtual 244, 3) := by decide +kernel
theorem dX11_both_50 : decode cX11_both 50 = .ok (.ireturn, 1) := by decide +kernel
theorem dX11_year_0 : decode cX11_year 0 = .ok (.iload_n 1, 1) := by decide +kernel
theorem dX11_year_1 : decode cX11_year 1 = .ok (.iconst 1, 1) := by decide +kernel
theorem dX11_year_2 : decode cX11_year 2 = .ok (.if_icmp .ge 10, 3) := by decide +kernel
theorem dX11_year_5 : decode cX11_year 5 = .ok (.aload_n 0, 1) := by decide +kernel
theorem dX11_year_6 : decode cX11_year 6 = .ok (.bipush (-4), 2) := by decide +kernel
theorem dX11_year_8 : decode cX11_year 8 = .ok (.invokevirtual 67, 3) := by decide +kernel
theorem dX11_year_11 : decode cX11_year 11 = .ok (.ireturn, 1) := by decide +kernel
theorem dX11_year_12 : decode cX11_year 12 = .ok (.iload_n 1, 1) := by decide +kernel
theorem dX11_year_13 : decode cX11_year 13 = .ok (.bipush 30, 2) := by decide +kernel
theorem dX11_year_15 : decode cX11_year 15 = .ok (.if_icmp .le 10, 3) := by decide +kernel
theorem dX11_year_18 : decode cX11_year 18 = .ok (.aload_n 0, 1) := by decide +kernel
theorem dX11_year_19 : decode cX11_year 19 = .ok (.bipush (-6), 2) := by decide +kernel
theorem dX11_year_21 : decode cX11_year 21 = .ok (.invokevirtual 67, 3) := by decide +kernel
theorem dX11_year_24 : decode cX11_year 24 = .ok (.ireturn, 1) := by decide +kernel
theorem dX11_year_25 : decode cX11_year 25 = .ok (.aload_n 0, 1) := by decide +kernel
theorem dX11_year_26 : decode cX11_year 26 = .ok (.getfield 29, 3) := by decide +kernel
theorem dX11_year_29 : decode cX11_year 29 = .ok (.aload_n 0, 1) := by decide +kernel
theorem dX11_year_30 : decode cX11_year 30 = .ok (.getfield 10, 3) := by decide +kernel
theorem dX11_year_33 : decode cX11_year 33 = .ok (.getfield 96, 3) := by decide +kernel
theorem dX11_year_36 : decode cX11_year 36 = .ok (.aload_n 0, 1) := by decide +kernel
theorem dX11_year_37 : decode cX11_year 37 = .ok (.invokevirtual 134, 3) := by decide +kernel
theorem dX11_year_40 : decode cX11_year 40 = .ok (.iload_n 1, 1) := by decide +kernel
theorem dX11_year_41 : decode cX11_year 41 = .ok (.iload_n 2, 1) := by decide +kernel
theorem dX11_year_42 : decode cX11_year 42 = .ok (.invokevirtual 247, 3) := by decide +kernel
theorem dX11_year_45 : decode cX11_year 45 = .ok (.ireturn, 1) := by decide +kernel
theorem dX11_row_0 : decode cX11_row 0 = .ok (.iload_n 1, 1) := by decide +kernel
theorem dX11_row_1 : decode cX11_row 1 = .ok (.ifCond .ge 10, 3) := by decide +kernel
theorem dX11_row_4 : decode cX11_row 4 = .ok (.aload_n 0, 1) := by decide +kernel
theorem dX11_row_5 : decode cX11_row 5 = .ok (.bipush (-4), 2) := by decide +kernel
theorem dX11_row_7 : decode cX11_row 7 = .ok (.invokevirtual 67, 3) := by decide +kernel
theorem dX11_row_10 : decode cX11_row 10 = .ok (.ireturn, 1) := by decide +kernel
theorem dX11_row_11 : decode cX11_row 11 = .ok (.iload_n 1, 1) := by decide +kernel
theorem dX11_row_12 : decode cX11_row 12 = .ok (.bipush 9, 2) := by decide +kernel
theorem dX11_row_14 : decode cX11_row 14 = .ok (.if_icmp .gt 13, 3) := by decide +kernel
theorem dX11_row_17 : decode cX11_row 17 = .ok (.aload_n 0, 1) := by decide +kernel
theorem dX11_row_18 : decode cX11_row 18 = .ok (.getfield 59, 3) := by decide +kernel
theorem dX11_row_21 : decode cX11_row 21 = .ok (.invokevirtual 74, 3) := by decide +kernel
theorem dX11_row_24 : decode cX11_row 24 = .ok (.ifCond .eq 10, 3) := by decide +kernel
theorem dX11_row_27 : decode cX11_row 27 = .ok (.aload_n 0, 1) := by decide +kernel
theorem dX11_row_28 : decode cX11_row 28 = .ok (.bipush (-6), 2) := by decide +kernel
theorem dX11_row_30 : decode cX11_row 30 = .ok (.invokevirtual 67, 3) := by decide +kernel
theorem dX11_row_33 : decode cX11_row 33 = .ok (.ireturn, 1) := by decide +kernel
theorem dX11_row_34 : decode cX11_row 34 = .ok (.aload_n 0, 1) := by decide +kernel
theorem dX11_row_35 : decode cX11_row 35 = .ok (.getfield 59, 3) := by decide +kernel
theorem dX11_row_38 : decode cX11_row 38 = .ok (.iload_n 1, 1) := by decide +kernel
theorem dX11_row_39 : decode cX11_row 39 = .ok (.invokevirtual 78, 3) := by decide +kernel
theorem dX11_row_42 : decode cX11_row 42 = .ok (.aload_n 0, 1) := by decide +kernel
theorem dX11_row_43 : decode cX11_row 43 = .ok (.getfield 59, 3) := by decide +kernel
theorem dX11_row_46 : decode cX11_row 46 = .ok (.getfield 81, 3) := by decide +kernel
theorem dX11_row_49 : decode cX11_row 49 = .ok (.ireturn, 1) := by decide +kernel
theorem dX11_judge_0 : decode cX11_judge 0 = .ok (.aload_n 0, 1) := by decide +kernel
theorem dX11_judge_1 : decode cX11_judge 1 = .ok (.getfield 29, 3) := by decide +kernel
theorem dX11_judge_4 : decode cX11_judge 4 = .ok (.aload_n 0, 1) := by decide +kernel
theorem dX11_judge_5 : decode cX11_judge 5 = .ok (.getfield 10, 3) := by decide +kernel
theorem dX11_judge_8 : decode cX11_judge 8 = .ok (.getfield 96, 3) := by decide +kernel
theorem dX11_judge_11 : decode cX11_judge 11 = .ok (.aload_n 0, 1) := by decide +kernel
theorem dX11_judge_12 : decode cX11_judge 12 = .ok (.invokevirtual 134, 3) := by decide +kernel
theorem dX11_judge_15 : decode cX11_judge 15 = .ok (.aload_n 0, 1) := by decide +kernel
theorem dX11_judge_16 : decode cX11_judge 16 = .ok (.getfield 10, 3) := by decide +kernel
theorem dX11_judge_19 : decode cX11_judge 19 = .ok (.getfield 181, 3) := by decide +kernel
theorem dX11_judge_22 : decode cX11_judge 22 = .ok (.aload_n 0, 1) := by decide +kernel
theorem dX11_judge_23 : decode cX11_judge 23 = .ok (.getfield 59, 3) := by decide +kernel
theorem dX11_judge_26 : decode cX11_judge 26 = .ok (.invokevirtual 250, 3) := by decide +kernel
theorem dX11_judge_29 : decode cX11_judge 29 = .ok (.istore_n 1, 1) := by decide +kernel
theorem dX11_judge_30 : decode cX11_judge 30 = .ok (.aload_n 0, 1) := by decide +kernel
theorem dX11_judge_31 : decode cX11_judge 31 = .ok (.getfield 59, 3) := by decide +kernel
theorem dX11_judge_34 : decode cX11_judge 34 = .ok (.invokevirtual 89, 3) := by decide +kernel
theorem dX11_judge_37 : decode cX11_judge 37 = .ok (.iload_n 1, 1) := by decide +kernel
theorem dX11_judge_38 : decode cX11_judge 38 = .ok (.ireturn, 1) := by decide +kernel
theorem dX11_image_0 : decode cX11_image 0 = .ok (.aload_n 0, 1) := by decide +kernel
theorem dX11_image_1 : decode cX11_image 1 = .ok (.getfield 16, 3) := by decide +kernel
theorem dX11_image_4 : decode cX11_image 4 = .ok (.aload_n 0, 1) := by decide +kernel
theorem dX11_image_5 : decode cX11_image 5 = .ok (.getfield 10, 3) := by decide +kernel
theorem dX11_image_8 : decode cX11_image 8 = .ok (.invokevirtual 254, 3) := by decide +kernel
theorem dX11_image_11 : decode cX11_image 11 = .ok (.aload_n 0, 1) := by decide +kernel
theorem dX11_image_12 : decode cX11_image 12 = .ok (.iconst 1, 1) := by decide +kernel
theorem dX11_image_13 : decode cX11_image 13 = .ok (.putfield 258, 3) := by decide +kernel
theorem dX11_image_16 : decode cX11_image 16 = .ok (.aload_n 0, 1) := by decide +kernel
theorem dX11_image_17 : decode cX11_image 17 = .ok (.getfield 10, 3) := by decide +kernel
theorem dX11_image_20 : decode cX11_image 20 = .ok (.getfield 155, 3) := by decide +kernel
theorem dX11_image_23 : decode cX11_image 23 = .ok (.ireturn, 1) := by decide +kernel
theorem dX11_on_0 : decode cX11_on 0 = .ok (.aload_n 0, 1) := by decide +kernel
theorem dX11_on_1 : decode cX11_on 1 = .ok (.getfield 258, 3) := by decide +kernel
theorem dX11_on_4 : decode cX11_on 4 = .ok (.ifCond .ne 10, 3) := by decide +kernel
theorem dX11_on_7 : decode cX11_on 7 = .ok (.aload_n 0, 1) := by decide +kernel
theorem dX11_on_8 : decode cX11_on 8 = .ok (.bipush (-3), 2) := by decide +kernel
theorem dX11_on_10 : decode cX11_on 10 = .ok (.invokevirtual 67, 3) := by decide +kernel
theorem dX11_on_13 : decode cX11_on 13 = .ok (.ireturn, 1) := by decide +kernel
theorem dX11_on_14 : decode cX11_on 14 = .ok (.aload_n 0, 1) := by decide +kernel
theorem dX11_on_15 : decode cX11_on 15 = .ok (.getfield 10, 3) := by decide +kernel
theorem dX11_on_18 : decode cX11_on 18 = .ok (.aload_n 0, 1) := by decide +kernel
theorem dX11_on_19 : decode cX11_on 19 = .ok (.getfield 16, 3) := by decide +kernel
theorem dX11_on_22 : decode cX11_on 22 = .ok (.invokevirtual 254, 3) := by decide +kernel
theorem dX11_on_25 : decode cX11_on 25 = .ok (.aload_n 0, 1) := by decide +kernel
theorem dX11_on_26 : decode cX11_on 26 = .ok (.getfield 10, 3) := by decide +kernel
theorem dX11_on_29 : decode cX11_on 29 = .ok (.getfield 155, 3) := by decide +kernel
theorem dX11_on_32 : decode cX11_on 32 = .ok (.ireturn, 1) := by decide +kernel
theorem dX11_count_0 : decode cX11_count 0 = .ok (.iload_n 1, 1) := by decide +kernel
theorem dX11_count_1 : decode cX11_count 1 = .ok (.tableswitch 126 0 7 #[47, 58, 69, 80, 91, 99, 107, 118], 47) := by decide +kernel
theorem dX11_count_48 : decode cX11_count 48 = .ok (.aload_n 0, 1) := by decide +kernel
theorem dX11_count_49 : decode cX11_count 49 = .ok (.getfield 10, 3) := by decide +kernel
theorem dX11_count_52 : decode cX11_count 52 = .ok (.getfield 96, 3) := by decide +kernel
theorem dX11_count_55 : decode cX11_count 55 = .ok (.getfield 201, 3) := by decide +kernel
theorem dX11_count_58 : decode cX11_count 58 = .ok (.ireturn, 1) := by decide +kernel
theorem dX11_count_59 : decode cX11_count 59 = .ok (.aload_n 0, 1) := by decide +kernel
theorem dX11_count_60 : decode cX11_count 60 = .ok (.getfield 10, 3) := by decide +kernel
theorem dX11_count_63 : decode cX11_count 63 = .ok (.getfield 110, 3) := by decide +kernel
theorem dX11_count_66 : decode cX11_count 66 = .ok (.getfield 81, 3) := by decide +kernel
theorem dX11_count_69 : decode cX11_count 69 = .ok (.ireturn, 1) := by decide +kernel
theorem dX11_count_70 : decode cX11_count 70 = .ok (.aload_n 0, 1) := by decide +kernel
theorem dX11_count_71 : decode cX11_count 71 = .ok (.getfield 10, 3) := by decide +kernel
theorem dX11_count_74 : decode cX11_count 74 = .ok (.getfield 181, 3) := by decide +kernel
theorem dX11_count_77 : decode cX11_count 77 = .ok (.getfield 81, 3) := by decide +kernel
theorem dX11_count_80 : decode cX11_count 80 = .ok (.ireturn, 1) := by decide +kernel
theorem dX11_count_81 : decode cX11_count 81 = .ok (.aload_n 0, 1) := by decide +kernel
theorem dX11_count_82 : decode cX11_count 82 = .ok (.getfield 10, 3) := by decide +kernel
theorem dX11_count_85 : decode cX11_count 85 = .ok (.getfield 205, 3) := by decide +kernel
theorem dX11_count_88 : decode cX11_count 88 = .ok (.getfield 81, 3) := by decide +kernel
theorem dX11_count_91 : decode cX11_count 91 = .ok (.ireturn, 1) := by decide +kernel
theorem dX11_count_92 : decode cX11_count 92 = .ok (.aload_n 0, 1) := by decide +kernel
theorem dX11_count_93 : decode cX11_count 93 = .ok (.getfield 10, 3) := by decide +kernel
theorem dX11_count_96 : decode cX11_count 96 = .ok (.getfield 155, 3) := by decide +kernel
theorem dX11_count_99 : decode cX11_count 99 = .ok (.ireturn, 1) := by decide +kernel
theorem dX11_count_100 : decode cX11_count 100 = .ok (.aload_n 0, 1) := by decide +kernel
theorem dX11_count_101 : decode cX11_count 101 = .ok (.getfield 59, 3) := by decide +kernel
theorem dX11_count_104 : decode cX11_count 104 = .ok (.getfield 81, 3) := by decide +kernel
theorem dX11_count_107 : decode cX11_count 107 = .ok (.ireturn, 1) := by decide +kernel
theorem dX11_count_108 : decode cX11_count 108 = .ok (.aload_n 0, 1) := by decide +kernel
theorem dX11_count_109 : decode cX11_count 109 = .ok (.getfield 22, 3) := by decide +kernel
theorem dX11_count_112 : decode cX11_count 112 = .ok (.getfield 71, 3) := by decide +kernel
theorem dX11_count_115 : decode cX11_count 115 = .ok (.getfield 81, 3) := by decide +kernel
theorem dX11_count_118 : decode cX11_count 118 = .ok (.ireturn, 1) := by decide +kernel
theorem dX11_count_119 : decode cX11_count 119 = .ok (.aload_n 0, 1) := by decide +kernel
theorem dX11_count_120 : decode cX11_count 120 = .ok (.getfield 10, 3) := by decide +kernel
theorem dX11_count_123 : decode cX11_count 123 = .ok (.getfield 146, 3) := by decide +kernel
theorem dX11_count_126 : decode cX11_count 126 = .ok (.ireturn, 1) := by decide +kernel
theorem dX11_count_127 : decode cX11_count 127 = .ok (.iload_n 1, 1) := by decide +kernel
theorem dX11_count_128 : decode cX11_count 128 = .ok (.bipush 10, 2) := by decide +kernel
theorem dX11_count_130 : decode cX11_count 130 = .ok (.if_icmp .le 27, 3) := by decide +kernel
theorem dX11_count_133 : decode cX11_count 133 = .ok (.iload_n 1, 1) := by decide +kernel
theorem dX11_count_134 : decode cX11_count 134 = .ok (.bipush 10, 2) := by decide +kernel
theorem dX11_count_136 : decode cX11_count 136 = .ok (.isub, 1) := by decide +kernel
theorem dX11_count_137 : decode cX11_count 137 = .ok (.aload_n 0, 1) := by decide +kernel
theorem dX11_count_138 : decode cX11_count 138 = .ok (.getfield 63, 3) := by decide +kernel
theorem dX11_count_141 : decode cX11_count 141 = .ok (.arraylength, 1) := by decide +kernel
theorem dX11_count_142 : decode cX11_count 142 = .ok (.if_icmp .ge 15, 3) := by decide +kernel
theorem dX11_count_145 : decode cX11_count 145 = .ok (.aload_n 0, 1) := by decide +kernel
theorem dX11_count_146 : decode cX11_count 146 = .ok (.getfield 63, 3) := by decide +kernel
theorem dX11_count_149 : decode cX11_count 149 = .ok (.iload_n 1, 1) := by decide +kernel
theorem dX11_count_150 : decode cX11_count 150 = .ok (.bipush 10, 2) := by decide +kernel
theorem dX11_count_152 : decode cX11_count 152 = .ok (.isub, 1) := by decide +kernel
theorem dX11_count_153 : decode cX11_count 153 = .ok (.iaload, 1) := by decide +kernel
theorem dX11_count_154 : decode cX11_count 154 = .ok (.goto 5, 3) := by decide +kernel
theorem dX11_count_157 : decode cX11_count 157 = .ok (.bipush (-9), 2) := by decide +kernel
theorem dX11_count_159 : decode cX11_count 159 = .ok (.ireturn, 1) := by decide +kernel
theorem dX11_refuse_0 : decode cX11_refuse 0 = .ok (.iload_n 1, 1) := by decide +kernel
theorem dX11_refuse_1 : decode cX11_refuse 1 = .ok (.ifCond .ge 20, 3) := by decide +kernel
theorem dX11_refuse_4 : decode cX11_refuse 4 = .ok (.iload_n 1, 1) := by decide +kernel
theorem dX11_refuse_5 : decode cX11_refuse 5 = .ok (.bipush (-6), 2) := by decide +kernel
theorem dX11_refuse_7 : decode cX11_refuse 7 = .ok (.if_icmp .lt 14, 3) := by decide +kernel
theorem dX11_refuse_10 : decode cX11_refuse 10 = .ok (.aload_n 0, 1) := by decide +kernel
theorem dX11_refuse_11 : decode cX11_refuse 11 = .ok (.getfield 63, 3) := by decide +kernel
theorem dX11_refuse_14 : decode cX11_refuse 14 = .ok (.iload_n 1, 1) := by decide +kernel
theorem dX11_refuse_15 : decode cX11_refuse 15 = .ok (.ineg, 1) := by decide +kernel
theorem dX11_refuse_16 : decode cX11_refuse 16 = .ok (.dup2, 1) := by decide +kernel
theorem dX11_refuse_17 : decode cX11_refuse 17 = .ok (.iaload, 1) := by decide +kernel
theorem dX11_refuse_18 : decode cX11_refuse 18 = .ok (.iconst 1, 1) := by decide +kernel
theorem dX11_refuse_19 : decode cX11_refuse 19 = .ok (.iadd, 1) := by decide +kernel
theorem dX11_refuse_20 : decode cX11_refuse 20 = .ok (.iastore, 1) := by decide +kernel
theorem dX11_refuse_21 : decode cX11_refuse 21 = .ok (.iload_n 1, 1) := by decide +kernel
theorem dX11_refuse_22 : decode cX11_refuse 22 = .ok (.ireturn, 1) := by decide +kernel
theorem dX11_lawNow_0 : decode cX11_lawNow 0 = .ok (.aload_n 0, 1) := by decide +kernel
theorem dX11_lawNow_1 : decode cX11_lawNow 1 = .ok (.getfield 52, 3) := by decide +kernel
theorem dX11_lawNow_4 : decode cX11_lawNow 4 = .ok (.aload_n 0, 1) := by decide +kernel
theorem dX11_lawNow_5 : decode cX11_lawNow 5 = .ok (.getfield 10, 3) := by decide +kernel
theorem dX11_lawNow_8 : decode cX11_lawNow 8 = .ok (.getfield 122, 3) := by decide +kernel
theorem dX11_lawNow_11 : decode cX11_lawNow 11 = .ok (.ifCond .lt 28, 3) := by decide +kernel
theorem dX11_lawNow_14 : decode cX11_lawNow 14 = .ok (.aload_n 0, 1) := by decide +kernel
theorem dX11_lawNow_15 : decode cX11_lawNow 15 = .ok (.getfield 10, 3) := by decide +kernel
theorem dX11_lawNow_18 : decode cX11_lawNow 18 = .ok (.getfield 122, 3) := by decide +kernel
theorem dX11_lawNow_21 : decode cX11_lawNow 21 = .ok (.aload_n 0, 1) := by decide +kernel
theorem dX11_lawNow_22 : decode cX11_lawNow 22 = .ok (.getfield 52, 3) := by decide +kernel
theorem dX11_lawNow_25 : decode cX11_lawNow 25 = .ok (.arraylength, 1) := by decide +kernel
theorem dX11_lawNow_26 : decode cX11_lawNow 26 = .ok (.if_icmp .ge 13, 3) := by decide +kernel
theorem dX11_lawNow_29 : decode cX11_lawNow 29 = .ok (.aload_n 0, 1) := by decide +kernel
theorem dX11_lawNow_30 : decode cX11_lawNow 30 = .ok (.getfield 10, 3) := by decide +kernel
theorem dX11_lawNow_33 : decode cX11_lawNow 33 = .ok (.getfield 122, 3) := by decide +kernel
theorem dX11_lawNow_36 : decode cX11_lawNow 36 = .ok (.goto 4, 3) := by decide +kernel
theorem dX11_lawNow_39 : decode cX11_lawNow 39 = .ok (.iconst 0, 1) := by decide +kernel
theorem dX11_lawNow_40 : decode cX11_lawNow 40 = .ok (.aaload, 1) := by decide +kernel
theorem dX11_lawNow_41 : decode cX11_lawNow 41 = .ok (.areturn, 1) := by decide +kernel
theorem dX11_isPlace_0 : decode cX11_isPlace 0 = .ok (.aload_n 0, 1) := by decide +kernel
theorem dX11_isPlace_1 : decode cX11_isPlace 1 = .ok (.getfield 10, 3) := by decide +kernel
theorem dX11_isPlace_4 : decode cX11_isPlace 4 = .ok (.getfield 96, 3) := by decide +kernel
theorem dX11_isPlace_7 : decode cX11_isPlace 7 = .ok (.iload_n 1, 1) := by decide +kernel
theorem dX11_isPlace_8 : decode cX11_isPlace 8 = .ok (.invokevirtual 128, 3) := by decide +kernel
theorem dX11_isPlace_11 : decode cX11_isPlace 11 = .ok (.ifCond .eq 16, 3) := by decide +kernel
theorem dX11_isPlace_14 : decode cX11_isPlace 14 = .ok (.iload_n 2, 1) := by decide +kernel
theorem dX11_isPlace_15 : decode cX11_isPlace 15 = .ok (.ifCond .lt 12, 3) := by decide +kernel
theorem dX11_isPlace_18 : decode cX11_isPlace 18 = .ok (.iload_n 2, 1) := by decide +kernel
theorem dX11_isPlace_19 : decode cX11_isPlace 19 = .ok (.iconst 4, 1) := by decide +kernel
theorem dX11_isPlace_20 : decode cX11_isPlace 20 = .ok (.if_icmp .ge 7, 3) := by decide +kernel
theorem dX11_isPlace_23 : decode cX11_isPlace 23 = .ok (.iconst 1, 1) := by decide +kernel
theorem dX11_isPlace_24 : decode cX11_isPlace 24 = .ok (.goto 4, 3) := by decide +kernel
theorem dX11_isPlace_27 : decode cX11_isPlace 27 = .ok (.iconst 0, 1) := by decide +kernel
theorem dX11_isPlace_28 : decode cX11_isPlace 28 = .ok (.ireturn, 1) := by decide +kernel
theorem dX11_isLetter_0 : decode cX11_isLetter 0 = .ok (.iload_n 0, 1) := by decide +kernel
theorem dX11_isLetter_1 : decode cX11_isLetter 1 = .ok (.istore_n 1, 1) := by decide +kernel
theorem dX11_isLetter_2 : decode cX11_isLetter 2 = .ok (.iconst 0, 1) := by decide +kernel
theorem dX11_isLetter_3 : decode cX11_isLetter 3 = .ok (.istore_n 2, 1) := by decide +kernel
theorem dX11_isLetter_4 : decode cX11_isLetter 4 = .ok (.iload_n 2, 1) := by decide +kernel
theorem dX11_isLetter_5 : decode cX11_isLetter 5 = .ok (.iconst 4, 1) := by decide +kernel
theorem dX11_isLetter_6 : decode cX11_isLetter 6 = .ok (.if_icmp .ge 28, 3) := by decide +kernel
theorem dX11_isLetter_9 : decode cX11_isLetter 9 = .ok (.iload_n 1, 1) := by decide +kernel
theorem dX11_isLetter_10 : decode cX11_isLetter 10 = .ok (.ifCond .lt 11, 3) := by decide +kernel
theorem dX11_isLetter_13 : decode cX11_isLetter 13 = .ok (.iload_n 1, 1) := by decide +kernel
theorem dX11_isLetter_14 : decode cX11_isLetter 14 = .ok (.bipush 10, 2) := by decide +kernel
theorem dX11_isLetter_16 : decode cX11_isLetter 16 = .ok (.irem, 1) := by decide +kernel
theorem dX11_isLetter_17 : decode cX11_isLetter 17 = .ok (.iconst 5, 1) := by decide +kernel
theorem dX11_isLetter_18 : decode cX11_isLetter 18 = .ok (.if_icmp .le 5, 3) := by decide +kernel
theorem dX11_isLetter_21 : decode cX11_isLetter 21 = .ok (.iconst 0, 1) := by decide +kernel
theorem dX11_isLetter_22 : decode cX11_isLetter 22 = .ok (.ireturn, 1) := by decide +kernel
theorem dX11_isLetter_23 : decode cX11_isLetter 23 = .ok (.iload_n 1, 1) := by decide +kernel
theorem dX11_isLetter_24 : decode cX11_isLetter 24 = .ok (.bipush 10, 2) := by decide +kernel
theorem dX11_isLetter_26 : decode cX11_isLetter 26 = .ok (.idiv, 1) := by decide +kernel
theorem dX11_isLetter_27 : decode cX11_isLetter 27 = .ok (.istore_n 1, 1) := by decide +kernel
theorem dX11_isLetter_28 : decode cX11_isLetter 28 = .ok (.iinc 2 1, 3) := by decide +kernel
theorem dX11_isLetter_31 : decode cX11_isLetter 31 = .ok (.goto (-27), 3) := by decide +kernel
theorem dX11_isLetter_34 : decode cX11_isLetter 34 = .ok (.iload_n 1, 1) := by decide +kernel
theorem dX11_isLetter_35 : decode cX11_isLetter 35 = .ok (.ifCond .ne 7, 3) := by decide +kernel
theorem dX11_isLetter_38 : decode cX11_isLetter 38 = .ok (.iconst 1, 1) := by decide +kernel
theorem dX11_isLetter_39 : decode cX11_isLetter 39 = .ok (.goto 4, 3) := by decide +kernel
theorem dX11_isLetter_42 : decode cX11_isLetter 42 = .ok (.iconst 0, 1) := by decide +kernel
theorem dX11_isLetter_43 : decode cX11_isLetter 43 = .ok (.ireturn, 1) := by decide +kernel
theorem dX11_costOf_0 : decode cX11_costOf 0 = .ok (.iconst 0, 1) := by decide +kernel
theorem dX11_costOf_1 : decode cX11_costOf 1 = .ok (.istore_n 1, 1) := by decide +kernel
theorem dX11_costOf_2 : decode cX11_costOf 2 = .ok (.iload_n 0, 1) := by decide +kernel
theorem dX11_costOf_3 : decode cX11_costOf 3 = .ok (.istore_n 2, 1) := by decide +kernel
theorem dX11_costOf_4 : decode cX11_costOf 4 = .ok (.iconst 0, 1) := by decide +kernel
theorem dX11_costOf_5 : decode cX11_costOf 5 = .ok (.istore_n 3, 1) := by decide +kernel
theorem dX11_costOf_6 : decode cX11_costOf 6 = .ok (.iload_n 3, 1) := by decide +kernel
theorem dX11_costOf_7 : decode cX11_costOf 7 = .ok (.iconst 4, 1) := by decide +kernel
theorem dX11_costOf_8 : decode cX11_costOf 8 = .ok (.if_icmp .ge 21, 3) := by decide +kernel
theorem dX11_costOf_11 : decode cX11_costOf 11 = .ok (.iload_n 1, 1) := by decide +kernel
theorem dX11_costOf_12 : decode cX11_costOf 12 = .ok (.iload_n 2, 1) := by decide +kernel
theorem dX11_costOf_13 : decode cX11_costOf 13 = .ok (.bipush 10, 2) := by decide +kernel
theorem dX11_costOf_15 : decode cX11_costOf 15 = .ok (.irem, 1) := by decide +kernel
theorem dX11_costOf_16 : decode cX11_costOf 16 = .ok (.iadd, 1) := by decide +kernel
theorem dX11_costOf_17 : decode cX11_costOf 17 = .ok (.istore_n 1, 1) := by decide +kernel
theorem dX11_costOf_18 : decode cX11_costOf 18 = .ok (.iload_n 2, 1) := by decide +kernel
theorem dX11_costOf_19 : decode cX11_costOf 19 = .ok (.bipush 10, 2) := by decide +kernel
theorem dX11_costOf_21 : decode cX11_costOf 21 = .ok (.idiv, 1) := by decide +kernel
theorem dX11_costOf_22 : decode cX11_costOf 22 = .ok (.istore_n 2, 1) := by decide +kernel
theorem dX11_costOf_23 : decode cX11_costOf 23 = .ok (.iinc 3 1, 3) := by decide +kernel
theorem dX11_costOf_26 : decode cX11_costOf 26 = .ok (.goto (-20), 3) := by decide +kernel
theorem dX11_costOf_29 : decode cX11_costOf 29 = .ok (.iload_n 1, 1) := by decide +kernel
theorem dX11_costOf_30 : decode cX11_costOf 30 = .ok (.ireturn, 1) := by decide +kernel
theorem dX11_leastOf_0 : decode cX11_leastOf 0 = .ok (.iconst 0, 1) := by decide +kernel
theorem dX11_leastOf_1 : decode cX11_leastOf 1 = .ok (.istore_n 1, 1) := by decide +kernel
theorem dX11_leastOf_2 : decode cX11_leastOf 2 = .ok (.iload_n 1, 1) := by decide +kernel
theorem dX11_leastOf_3 : decode cX11_leastOf 3 = .ok (.bipush 30, 2) := by decide +kernel
theorem dX11_leastOf_5 : decode cX11_leastOf 5 = .ok (.if_icmp .gt 20, 3) := by decide +kernel
theorem dX11_leastOf_8 : decode cX11_leastOf 8 = .ok (.iload_n 0, 1) := by decide +kernel
theorem dX11_leastOf_9 : decode cX11_leastOf 9 = .ok (.iload_n 1, 1) := by decide +kernel
theorem dX11_leastOf_10 : decode cX11_leastOf 10 = .ok (.ishr, 1) := by decide +kernel
theorem dX11_leastOf_11 : decode cX11_leastOf 11 = .ok (.iconst 1, 1) := by decide +kernel
theorem dX11_leastOf_12 : decode cX11_leastOf 12 = .ok (.iand, 1) := by decide +kernel
theorem dX11_leastOf_13 : decode cX11_leastOf 13 = .ok (.iconst 1, 1) := by decide +kernel
theorem dX11_leastOf_14 : decode cX11_leastOf 14 = .ok (.if_icmp .ne 5, 3) := by decide +kernel
theorem dX11_leastOf_17 : decode cX11_leastOf 17 = .ok (.iload_n 1, 1) := by decide +kernel
theorem dX11_leastOf_18 : decode cX11_leastOf 18 = .ok (.ireturn, 1) := by decide +kernel
theorem dX11_leastOf_19 : decode cX11_leastOf 19 = .ok (.iinc 1 1, 3) := by decide +kernel
theorem dX11_leastOf_22 : decode cX11_leastOf 22 = .ok (.goto (-20), 3) := by decide +kernel
theorem dX11_leastOf_25 : decode cX11_leastOf 25 = .ok (.bipush (-9), 2) := by decide +kernel
theorem dX11_leastOf_27 : decode cX11_leastOf 27 = .ok (.ireturn, 1) := by decide +kernel
theorem dX11_greatestOf_0 : decode cX11_greatestOf 0 = .ok (.bipush 30, 2) := by decide +kernel
theorem dX11_greatestOf_2 : decode cX11_greatestOf 2 = .ok (.istore_n 1, 1) := by decide +kernel
theorem dX11_greatestOf_3 : decode cX11_greatestOf 3 = .ok (.iload_n 1, 1) := by decide +kernel
theorem dX11_greatestOf_4 : decode cX11_greatestOf 4 = .ok (.ifCond .lt 20, 3) := by decide +kernel
theorem dX11_greatestOf_7 : decode cX11_greatestOf 7 = .ok (.iload_n 0, 1) := by decide +kernel
theorem dX11_greatestOf_8 : decode cX11_greatestOf 8 = .ok (.iload_n 1, 1) := by decide +kernel
theorem dX11_greatestOf_9 : decode cX11_greatestOf 9 = .ok (.ishr, 1) := by decide +kernel
theorem dX11_greatestOf_10 : decode cX11_greatestOf 10 = .ok (.iconst 1, 1) := by decide +kernel
theorem dX11_greatestOf_11 : decode cX11_greatestOf 11 = .ok (.iand, 1) := by decide +kernel
theorem dX11_greatestOf_12 : decode cX11_greatestOf 12 = .ok (.iconst 1, 1) := by decide +kernel
theorem dX11_greatestOf_13 : decode cX11_greatestOf 13 = .ok (.if_icmp .ne 5, 3) := by decide +kernel
theorem dX11_greatestOf_16 : decode cX11_greatestOf 16 = .ok (.iload_n 1, 1) := by decide +kernel
theorem dX11_greatestOf_17 : decode cX11_greatestOf 17 = .ok (.ireturn, 1) := by decide +kernel
theorem dX11_greatestOf_18 : decode cX11_greatestOf 18 = .ok (.iinc 1 (-1), 3) := by decide +kernel
theorem dX11_greatestOf_21 : decode cX11_greatestOf 21 = .ok (.goto (-18), 3) := by decide +kernel
theorem dX11_greatestOf_24 : decode cX11_greatestOf 24 = .ok (.bipush (-9), 2) := by decide +kernel
theorem dX11_greatestOf_26 : decode cX11_greatestOf 26 = .ok (.ireturn, 1) := by decide +kernel
theorem dX11_inLeastTerms_0 : decode cX11_inLeastTerms 0 = .ok (.bipush 100, 2) := by decide +kernel
theorem dX11_inLeastTerms_2 : decode cX11_inLeastTerms 2 = .ok (.istore_n 2, 1) := by decide +kernel
theorem dX11_inLeastTerms_3 : decode cX11_inLeastTerms 3 = .ok (.iload_n 2, 1) := by decide +kernel
theorem dX11_inLeastTerms_4 : decode cX11_inLeastTerms 4 = .ok (.iconst 1, 1) := by decide +kernel
theorem dX11_inLeastTerms_5 : decode cX11_inLeastTerms 5 = .ok (.if_icmp .le 26, 3) := by decide +kernel
theorem dX11_inLeastTerms_8 : decode cX11_inLeastTerms 8 = .ok (.iload_n 1, 1) := by decide +kernel
theorem dX11_inLeastTerms_9 : decode cX11_inLeastTerms 9 = .ok (.iload_n 2, 1) := by decide +kernel
theorem dX11_inLeastTerms_10 : decode cX11_inLeastTerms 10 = .ok (.irem, 1) := by decide +kernel
theorem dX11_inLeastTerms_11 : decode cX11_inLeastTerms 11 = .ok (.ifCond .ne 14, 3) := by decide +kernel
theorem dX11_inLeastTerms_14 : decode cX11_inLeastTerms 14 = .ok (.bipush 100, 2) := by decide +kernel
theorem dX11_inLeastTerms_16 : decode cX11_inLeastTerms 16 = .ok (.iload_n 2, 1) := by decide +kernel
theorem dX11_inLeastTerms_17 : decode cX11_inLeastTerms 17 = .ok (.irem, 1) := by decide +kernel
theorem dX11_inLeastTerms_18 : decode cX11_inLeastTerms 18 = .ok (.ifCond .ne 7, 3) := by decide +kernel
theorem dX11_inLeastTerms_21 : decode cX11_inLeastTerms 21 = .ok (.iload_n 0, 1) := by decide +kernel
theorem dX11_inLeastTerms_22 : decode cX11_inLeastTerms 22 = .ok (.iload_n 2, 1) := by decide +kernel
theorem dX11_inLeastTerms_23 : decode cX11_inLeastTerms 23 = .ok (.idiv, 1) := by decide +kernel
theorem dX11_inLeastTerms_24 : decode cX11_inLeastTerms 24 = .ok (.ireturn, 1) := by decide +kernel
theorem dX11_inLeastTerms_25 : decode cX11_inLeastTerms 25 = .ok (.iinc 2 (-1), 3) := by decide +kernel
theorem dX11_inLeastTerms_28 : decode cX11_inLeastTerms 28 = .ok (.goto (-25), 3) := by decide +kernel
theorem dX11_inLeastTerms_31 : decode cX11_inLeastTerms 31 = .ok (.iload_n 0, 1) := by decide +kernel
theorem dX11_inLeastTerms_32 : decode cX11_inLeastTerms 32 = .ok (.ireturn, 1) := by decide +kernel
theorem dJ6_bitCount_0f7a4_0 : decode cJ6_bitCount_0f7a4 0 = .ok (.iload_n 0, 1) := by decide +kernel
theorem dJ6_bitCount_0f7a4_1 : decode cJ6_bitCount_0f7a4 1 = .ok (.iload_n 0, 1) := by decide +kernel
theorem dJ6_bitCount_0f7a4_2 : decode cJ6_bitCount_0f7a4 2 = .ok (.iconst 1, 1) := by decide +kernel
theorem dJ6_bitCount_0f7a4_3 : decode cJ6_bitCount_0f7a4 3 = .ok (.iushr, 1) := by decide +kernel
theorem dJ6_bitCount_0f7a4_4 : decode cJ6_bitCount_0f7a4 4 = .ok (.ldc_w 265, 3) := by decide +kernel
theorem dJ6_bitCount_0f7a4_7 : decode cJ6_bitCount_0f7a4 7 = .ok (.iand, 1) := by decide +kernel
theorem dJ6_bitCount_0f7a4_8 : decode cJ6_bitCount_0f7a4 8 = .ok (.isub, 1) := by decide +kernel
theorem dJ6_bitCount_0f7a4_9 : decode cJ6_bitCount_0f7a4 9 = .ok (.istore_n 0, 1) := by decide +kernel
theorem dJ6_bitCount_0f7a4_10 : decode cJ6_bitCount_0f7a4 10 = .ok (.iload_n 0, 1) := by decide +kernel
theorem dJ6_bitCount_0f7a4_11 : decode cJ6_bitCount_0f7a4 11 = .ok (.ldc_w 266, 3) := by decide +kernel
theorem dJ6_bitCount_0f7a4_14 : decode cJ6_bitCount_0f7a4 14 = .ok (.iand, 1) := by decide +kernel
theorem dJ6_bitCount_0f7a4_15 : decode cJ6_bitCount_0f7a4 15 = .ok (.iload_n 0, 1) := by decide +kernel
theorem dJ6_bitCount_0f7a4_16 : decode cJ6_bitCount_0f7a4 16 = .ok (.iconst 2, 1) := by decide +kernel
theorem dJ6_bitCount_0f7a4_17 : decode cJ6_bitCount_0f7a4 17 = .ok (.iushr, 1) := by decide +kernel
theorem dJ6_bitCount_0f7a4_18 : decode cJ6_bitCount_0f7a4 18 = .ok (.ldc_w 266, 3) := by decide +kernel
theorem dJ6_bitCount_0f7a4_21 : decode cJ6_bitCount_0f7a4 21 = .ok (.iand, 1) := by decide +kernel
theorem dJ6_bitCount_0f7a4_22 : decode cJ6_bitCount_0f7a4 22 = .ok (.iadd, 1) := by decide +kernel
theorem dJ6_bitCount_0f7a4_23 : decode cJ6_bitCount_0f7a4 23 = .ok (.istore_n 0, 1) := by decide +kernel
theorem dJ6_bitCount_0f7a4_24 : decode cJ6_bitCount_0f7a4 24 = .ok (.iload_n 0, 1) := by decide +kernel
theorem dJ6_bitCount_0f7a4_25 : decode cJ6_bitCount_0f7a4 25 = .ok (.iload_n 0, 1) := by decide +kernel
theorem dJ6_bitCount_0f7a4_26 : decode cJ6_bitCount_0f7a4 26 = .ok (.iconst 4, 1) := by decide +kernel
theorem dJ6_bitCount_0f7a4_27 : decode cJ6_bitCount_0f7a4 27 = .ok (.iushr, 1) := by decide +kernel
theorem dJ6_bitCount_0f7a4_28 : decode cJ6_bitCount_0f7a4 28 = .ok (.iadd, 1) := by decide +kernel
theorem dJ6_bitCount_0f7a4_29 : decode cJ6_bitCount_0f7a4 29 = .ok (.ldc_w 267, 3) := by decide +kernel
theorem dJ6_bitCount_0f7a4_32 : decode cJ6_bitCount_0f7a4 32 = .ok (.iand, 1) := by decide +kernel
theorem dJ6_bitCount_0f7a4_33 : decode cJ6_bitCount_0f7a4 33 = .ok (.istore_n 0, 1) := by decide +kernel
theorem dJ6_bitCount_0f7a4_34 : decode cJ6_bitCount_0f7a4 34 = .ok (.iload_n 0, 1) := by decide +kernel
theorem dJ6_bitCount_0f7a4_35 : decode cJ6_bitCount_0f7a4 35 = .ok (.iload_n 0, 1) := by decide +kernel
theorem dJ6_bitCount_0f7a4_36 : decode cJ6_bitCount_0f7a4 36 = .ok (.bipush 8, 2) := by decide +kernel
theorem dJ6_bitCount_0f7a4_38 : decode cJ6_bitCount_0f7a4 38 = .ok (.iushr, 1) := by decide +kernel
theorem dJ6_bitCount_0f7a4_39 : decode cJ6_bitCount_0f7a4 39 = .ok (.iadd, 1) := by decide +kernel
theorem dJ6_bitCount_0f7a4_40 : decode cJ6_bitCount_0f7a4 40 = .ok (.istore_n 0, 1) := by decide +kernel
theorem dJ6_bitCount_0f7a4_41 : decode cJ6_bitCount_0f7a4 41 = .ok (.iload_n 0, 1) := by decide +kernel
theorem dJ6_bitCount_0f7a4_42 : decode cJ6_bitCount_0f7a4 42 = .ok (.iload_n 0, 1) := by decide +kernel
theorem dJ6_bitCount_0f7a4_43 : decode cJ6_bitCount_0f7a4 43 = .ok (.bipush 16, 2) := by decide +kernel
theorem dJ6_bitCount_0f7a4_45 : decode cJ6_bitCount_0f7a4 45 = .ok (.iushr, 1) := by decide +kernel
theorem dJ6_bitCount_0f7a4_46 : decode cJ6_bitCount_0f7a4 46 = .ok (.iadd, 1) := by decide +kernel
theorem dJ6_bitCount_0f7a4_47 : decode cJ6_bitCount_0f7a4 47 = .ok (.istore_n 0, 1) := by decide +kernel
theorem dJ6_bitCount_0f7a4_48 : decode cJ6_bitCount_0f7a4 48 = .ok (.iload_n 0, 1) := by decide +kernel
theorem dJ6_bitCount_0f7a4_49 : decode cJ6_bitCount_0f7a4 49 = .ok (.bipush 63, 2) := by decide +kernel
theorem dJ6_bitCount_0f7a4_51 : decode cJ6_bitCount_0f7a4 51 = .ok (.iand, 1) := by decide +kernel
theorem dJ6_bitCount_0f7a4_52 : decode cJ6_bitCount_0f7a4 52 = .ok (.ireturn, 1) := by decide +kernel
theorem dJ9_max_7cf53_0 : decode cJ9_max_7cf53 0 = .ok (.iload_n 0, 1) := by decide +kernel
theorem dJ9_max_7cf53_1 : decode cJ9_max_7cf53 1 = .ok (.iload_n 1, 1) := by decide +kernel
theorem dJ9_max_7cf53_2 : decode cJ9_max_7cf53 2 = .ok (.if_icmp .lt 7, 3) := by decide +kernel
theorem dJ9_max_7cf53_5 : decode cJ9_max_7cf53 5 = .ok (.iload_n 0, 1) := by decide +kernel
theorem dJ9_max_7cf53_6 : decode cJ9_max_7cf53 6 = .ok (.goto 4, 3) := by decide +kernel
theorem dJ9_max_7cf53_9 : decode cJ9_max_7cf53 9 = .ok (.iload_n 1, 1) := by decide +kernel
theorem dJ9_max_7cf53_10 : decode cJ9_max_7cf53 10 = .ok (.ireturn, 1) := by decide +kernel
theorem dJ9_min_7cf53_0 : decode cJ9_min_7cf53 0 = .ok (.iload_n 0, 1) := by decide +kernel
theorem dJ9_min_7cf53_1 : decode cJ9_min_7cf53 1 = .ok (.iload_n 1, 1) := by decide +kernel
theorem dJ9_min_7cf53_2 : decode cJ9_min_7cf53 2 = .ok (.if_icmp .gt 7, 3) := by decide +kernel
theorem dJ9_min_7cf53_5 : decode cJ9_min_7cf53 5 = .ok (.iload_n 0, 1) := by decide +kernel
theorem dJ9_min_7cf53_6 : decode cJ9_min_7cf53 6 = .ok (.goto 4, 3) := by decide +kernel
theorem dJ9_min_7cf53_9 : decode cJ9_min_7cf53 9 = .ok (.iload_n 1, 1) := by decide +kernel
theorem dJ9_min_7cf53_10 : decode cJ9_min_7cf53 10 = .ok (.ireturn, 1) := by decide +kernel
theorem dJ0_length_8abf5_0 : decode cJ0_length_8abf5 0 = .ok (.aload_n 0, 1) := by decide +kernel
theorem dJ0_length_8abf5_1 : decode cJ0_length_8abf5 1 = .ok (.getfield 9, 3) := by decide +kernel
theorem dJ0_length_8abf5_4 : decode cJ0_length_8abf5 4 = .ok (.arraylength, 1) := by decide +kernel
theorem dJ0_length_8abf5_5 : decode cJ0_length_8abf5 5 = .ok (.aload_n 0, 1) := by decide +kernel
theorem dJ0_length_8abf5_6 : decode cJ0_length_8abf5 6 = .ok (.invokevirtual 335, 3) := by decide +kernel
theorem dJ0_length_8abf5_9 : decode cJ0_length_8abf5 9 = .ok (.ishr, 1) := by decide +kernel
theorem dJ0_length_8abf5_10 : decode cJ0_length_8abf5 10 = .ok (.ireturn, 1) := by decide +kernel
theorem dJ0_charAt_5068e_0 : decode cJ0_charAt_5068e 0 = .ok (.aload_n 0, 1) := by decide +kernel
theorem dJ0_charAt_5068e_1 : decode cJ0_charAt_5068e 1 = .ok (.invokevirtual 492, 3) := by decide +kernel
theorem dJ0_charAt_5068e_4 : decode cJ0_charAt_5068e 4 = .ok (.ifCond .eq 12, 3) := by decide +kernel
theorem dJ0_charAt_5068e_7 : decode cJ0_charAt_5068e 7 = .ok (.aload_n 0, 1) := by decide +kernel
theorem dJ0_charAt_5068e_8 : decode cJ0_charAt_5068e 8 = .ok (.getfield 9, 3) := by decide +kernel
theorem dJ0_charAt_5068e_11 : decode cJ0_charAt_5068e 11 = .ok (.iload_n 1, 1) := by decide +kernel
theorem dJ0_charAt_5068e_12 : decode cJ0_charAt_5068e 12 = .ok (.invokestatic 495, 3) := by decide +kernel
theorem dJ0_charAt_5068e_15 : decode cJ0_charAt_5068e 15 = .ok (.ireturn, 1) := by decide +kernel
theorem dJ0_charAt_5068e_16 : decode cJ0_charAt_5068e 16 = .ok (.aload_n 0, 1) := by decide +kernel
theorem dJ0_charAt_5068e_17 : decode cJ0_charAt_5068e 17 = .ok (.getfield 9, 3) := by decide +kernel
theorem dJ0_charAt_5068e_20 : decode cJ0_charAt_5068e 20 = .ok (.iload_n 1, 1) := by decide +kernel
theorem dJ0_charAt_5068e_21 : decode cJ0_charAt_5068e 21 = .ok (.invokestatic 498, 3) := by decide +kernel
theorem dJ0_charAt_5068e_24 : decode cJ0_charAt_5068e 24 = .ok (.ireturn, 1) := by decide +kernel
theorem dJ0_coder_7d493_0 : decode cJ0_coder_7d493 0 = .ok (.getstatic 38, 3) := by decide +kernel
theorem dJ0_coder_7d493_3 : decode cJ0_coder_7d493 3 = .ok (.ifCond .eq 10, 3) := by decide +kernel
theorem dJ0_coder_7d493_6 : decode cJ0_coder_7d493 6 = .ok (.aload_n 0, 1) := by decide +kernel
theorem dJ0_coder_7d493_7 : decode cJ0_coder_7d493 7 = .ok (.getfield 15, 3) := by decide +kernel
theorem dJ0_coder_7d493_10 : decode cJ0_coder_7d493 10 = .ok (.goto 4, 3) := by decide +kernel
theorem dJ0_coder_7d493_13 : decode cJ0_coder_7d493 13 = .ok (.iconst 1, 1) := by decide +kernel
theorem dJ0_coder_7d493_14 : decode cJ0_coder_7d493 14 = .ok (.ireturn, 1) := by decide +kernel
theorem dJ0_isLatin1_aae02_0 : decode cJ0_isLatin1_aae02 0 = .ok (.getstatic 38, 3) := by decide +kernel
theorem dJ0_isLatin1_aae02_3 : decode cJ0_isLatin1_aae02 3 = .ok (.ifCond .eq 14, 3) := by decide +kernel
theorem dJ0_isLatin1_aae02_6 : decode cJ0_isLatin1_aae02 6 = .ok (.aload_n 0, 1) := by decide +kernel
theorem dJ0_isLatin1_aae02_7 : decode cJ0_isLatin1_aae02 7 = .ok (.getfield 15, 3) := by decide +kernel
theorem dJ0_isLatin1_aae02_10 : decode cJ0_isLatin1_aae02 10 = .ok (.ifCond .ne 7, 3) := by decide +kernel
theorem dJ0_isLatin1_aae02_13 : decode cJ0_isLatin1_aae02 13 = .ok (.iconst 1, 1) := by decide +kernel
theorem dJ0_isLatin1_aae02_14 : decode cJ0_isLatin1_aae02 14 = .ok (.goto 4, 3) := by decide +kernel
theorem dJ0_isLatin1_aae02_17 : decode cJ0_isLatin1_aae02 17 = .ok (.iconst 0, 1) := by decide +kernel
theorem dJ0_isLatin1_aae02_18 : decode cJ0_isLatin1_aae02 18 = .ok (.ireturn, 1) := by decide +kernel
theorem dJ0_checkIndex_df160_0 : decode cJ0_checkIndex_df160 0 = .ok (.iload_n 0, 1) := by decide +kernel
theorem dJ0_checkIndex_df160_1 : decode cJ0_checkIndex_df160 1 = .ok (.iload_n 1, 1) := by decide +kernel
theorem dJ0_checkIndex_df160_2 : decode cJ0_checkIndex_df160 2 = .ok (.getstatic 1053, 3) := by decide +kernel
theorem dJ0_checkIndex_df160_5 : decode cJ0_checkIndex_df160 5 = .ok (.invokestatic 1059, 3) := by decide +kernel
theorem dJ0_checkIndex_df160_8 : decode cJ0_checkIndex_df160 8 = .ok (.pop, 1) := by decide +kernel
theorem dJ0_checkIndex_df160_9 : decode cJ0_checkIndex_df160 9 = .ok (.return_, 1) := by decide +kernel
theorem dJ1_charAt_3b067_0 : decode cJ1_charAt_3b067 0 = .ok (.iload_n 1, 1) := by decide +kernel
theorem dJ1_charAt_3b067_1 : decode cJ1_charAt_3b067 1 = .ok (.aload_n 0, 1) := by decide +kernel
theorem dJ1_charAt_3b067_2 : decode cJ1_charAt_3b067 2 = .ok (.arraylength, 1) := by decide +kernel
theorem dJ1_charAt_3b067_3 : decode cJ1_charAt_3b067 3 = .ok (.invokestatic 9, 3) := by decide +kernel
theorem dJ1_charAt_3b067_6 : decode cJ1_charAt_3b067 6 = .ok (.aload_n 0, 1) := by decide +kernel
theorem dJ1_charAt_3b067_7 : decode cJ1_charAt_3b067 7 = .ok (.iload_n 1, 1) := by decide +kernel
theorem dJ1_charAt_3b067_8 : decode cJ1_charAt_3b067 8 = .ok (.baload, 1) := by decide +kernel
theorem dJ1_charAt_3b067_9 : decode cJ1_charAt_3b067 9 = .ok (.sipush 255, 3) := by decide +kernel
theorem dJ1_charAt_3b067_12 : decode cJ1_charAt_3b067 12 = .ok (.iand, 1) := by decide +kernel
theorem dJ1_charAt_3b067_13 : decode cJ1_charAt_3b067 13 = .ok (.i2c, 1) := by decide +kernel
theorem dJ1_charAt_3b067_14 : decode cJ1_charAt_3b067 14 = .ok (.ireturn, 1) := by decide +kernel
theorem dJ2_getChar_3b067_0 : decode cJ2_getChar_3b067 0 = .ok (.getstatic 44, 3) := by decide +kernel
theorem dJ2_getChar_3b067_3 : decode cJ2_getChar_3b067 3 = .ok (.ifCond .ne 25, 3) := by decide +kernel
theorem dJ2_getChar_3b067_6 : decode cJ2_getChar_3b067 6 = .ok (.iload_n 1, 1) := by decide +kernel
theorem dJ2_getChar_3b067_7 : decode cJ2_getChar_3b067 7 = .ok (.ifCond .lt 11, 3) := by decide +kernel
theorem dJ2_getChar_3b067_10 : decode cJ2_getChar_3b067 10 = .ok (.iload_n 1, 1) := by decide +kernel
theorem dJ2_getChar_3b067_11 : decode cJ2_getChar_3b067 11 = .ok (.aload_n 0, 1) := by decide +kernel
theorem dJ2_getChar_3b067_12 : decode cJ2_getChar_3b067 12 = .ok (.invokestatic 48, 3) := by decide +kernel
theorem dJ2_getChar_3b067_15 : decode cJ2_getChar_3b067 15 = .ok (.if_icmp .lt 13, 3) := by decide +kernel
theorem dJ2_getChar_3b067_18 : decode cJ2_getChar_3b067 18 = .ok (.new 52, 3) := by decide +kernel
theorem dJ2_getChar_3b067_21 : decode cJ2_getChar_3b067 21 = .ok (.dup, 1) := by decide +kernel
theorem dJ2_getChar_3b067_22 : decode cJ2_getChar_3b067 22 = .ok (.ldc 54, 2) := by decide +kernel
theorem dJ2_getChar_3b067_24 : decode cJ2_getChar_3b067 24 = .ok (.invokespecial 56, 3) := by decide +kernel
theorem dJ2_getChar_3b067_27 : decode cJ2_getChar_3b067 27 = .ok (.athrow, 1) := by decide +kernel
theorem dJ2_getChar_3b067_28 : decode cJ2_getChar_3b067 28 = .ok (.iload_n 1, 1) := by decide +kernel
theorem dJ2_getChar_3b067_29 : decode cJ2_getChar_3b067 29 = .ok (.iconst 1, 1) := by decide +kernel
theorem dJ2_getChar_3b067_30 : decode cJ2_getChar_3b067 30 = .ok (.ishl, 1) := by decide +kernel
theorem dJ2_getChar_3b067_31 : decode cJ2_getChar_3b067 31 = .ok (.istore_n 1, 1) := by decide +kernel
theorem dJ2_getChar_3b067_32 : decode cJ2_getChar_3b067 32 = .ok (.aload_n 0, 1) := by decide +kernel
theorem dJ2_getChar_3b067_33 : decode cJ2_getChar_3b067 33 = .ok (.iload_n 1, 1) := by decide +kernel
theorem dJ2_getChar_3b067_34 : decode cJ2_getChar_3b067 34 = .ok (.iinc 1 1, 3) := by decide +kernel
theorem dJ2_getChar_3b067_37 : decode cJ2_getChar_3b067 37 = .ok (.baload, 1) := by decide +kernel
theorem dJ2_getChar_3b067_38 : decode cJ2_getChar_3b067 38 = .ok (.sipush 255, 3) := by decide +kernel
theorem dJ2_getChar_3b067_41 : decode cJ2_getChar_3b067 41 = .ok (.iand, 1) := by decide +kernel
theorem dJ2_getChar_3b067_42 : decode cJ2_getChar_3b067 42 = .ok (.getstatic 59, 3) := by decide +kernel
theorem dJ2_getChar_3b067_45 : decode cJ2_getChar_3b067 45 = .ok (.ishl, 1) := by decide +kernel
theorem dJ2_getChar_3b067_46 : decode cJ2_getChar_3b067 46 = .ok (.aload_n 0, 1) := by decide +kernel
theorem dJ2_getChar_3b067_47 : decode cJ2_getChar_3b067 47 = .ok (.iload_n 1, 1) := by decide +kernel
theorem dJ2_getChar_3b067_48 : decode cJ2_getChar_3b067 48 = .ok (.baload, 1) := by decide +kernel
theorem dJ2_getChar_3b067_49 : decode cJ2_getChar_3b067 49 = .ok (.sipush 255, 3) := by decide +kernel
theorem dJ2_getChar_3b067_52 : decode cJ2_getChar_3b067 52 = .ok (.iand, 1) := by decide +kernel
theorem dJ2_getChar_3b067_53 : decode cJ2_getChar_3b067 53 = .ok (.getstatic 63, 3) := by decide +kernel
theorem dJ2_getChar_3b067_56 : decode cJ2_getChar_3b067 56 = .ok (.ishl, 1) := by decide +kernel
theorem dJ2_getChar_3b067_57 : decode cJ2_getChar_3b067 57 = .ok (.ior, 1) := by decide +kernel
theorem dJ2_getChar_3b067_58 : decode cJ2_getChar_3b067 58 = .ok (.i2c, 1) := by decide +kernel
theorem dJ2_getChar_3b067_59 : decode cJ2_getChar_3b067 59 = .ok (.ireturn, 1) := by decide +kernel
theorem dJ2_length_9d52b_0 : decode cJ2_length_9d52b 0 = .ok (.aload_n 0, 1) := by decide +kernel
theorem dJ2_length_9d52b_1 : decode cJ2_length_9d52b 1 = .ok (.arraylength, 1) := by decide +kernel
theorem dJ2_length_9d52b_2 : decode cJ2_length_9d52b 2 = .ok (.iconst 1, 1) := by decide +kernel
theorem dJ2_length_9d52b_3 : decode cJ2_length_9d52b 3 = .ok (.ishr, 1) := by decide +kernel
theorem dJ2_length_9d52b_4 : decode cJ2_length_9d52b 4 = .ok (.ireturn, 1) := by decide +kernel
theorem dJ2_charAt_3b067_0 : decode cJ2_charAt_3b067 0 = .ok (.iload_n 1, 1) := by decide +kernel
theorem dJ2_charAt_3b067_1 : decode cJ2_charAt_3b067 1 = .ok (.aload_n 0, 1) := by decide +kernel
theorem dJ2_charAt_3b067_2 : decode cJ2_charAt_3b067 2 = .ok (.invokestatic 67, 3) := by decide +kernel
theorem dJ2_charAt_3b067_5 : decode cJ2_charAt_3b067 5 = .ok (.aload_n 0, 1) := by decide +kernel
theorem dJ2_charAt_3b067_6 : decode cJ2_charAt_3b067 6 = .ok (.iload_n 1, 1) := by decide +kernel
theorem dJ2_charAt_3b067_7 : decode cJ2_charAt_3b067 7 = .ok (.invokestatic 71, 3) := by decide +kernel
theorem dJ2_charAt_3b067_10 : decode cJ2_charAt_3b067 10 = .ok (.ireturn, 1) := by decide +kernel
theorem dJ2_checkIndex_2214a_0 : decode cJ2_checkIndex_2214a 0 = .ok (.iload_n 0, 1) := by decide +kernel
theorem dJ2_checkIndex_2214a_1 : decode cJ2_checkIndex_2214a 1 = .ok (.aload_n 1, 1) := by decide +kernel
theorem dJ2_checkIndex_2214a_2 : decode cJ2_checkIndex_2214a 2 = .ok (.invokestatic 48, 3) := by decide +kernel
theorem dJ2_checkIndex_2214a_5 : decode cJ2_checkIndex_2214a 5 = .ok (.invokestatic 414, 3) := by decide +kernel
theorem dJ2_checkIndex_2214a_8 : decode cJ2_checkIndex_2214a 8 = .ok (.return_, 1) := by decide +kernel
theorem dJ3_checkIndex_8e157_0 : decode cJ3_checkIndex_8e157 0 = .ok (.iload_n 0, 1) := by decide +kernel
theorem dJ3_checkIndex_8e157_1 : decode cJ3_checkIndex_8e157 1 = .ok (.ifCond .lt 8, 3) := by decide +kernel
theorem dJ3_checkIndex_8e157_4 : decode cJ3_checkIndex_8e157 4 = .ok (.iload_n 0, 1) := by decide +kernel
theorem dJ3_checkIndex_8e157_5 : decode cJ3_checkIndex_8e157 5 = .ok (.iload_n 1, 1) := by decide +kernel
theorem dJ3_checkIndex_8e157_6 : decode cJ3_checkIndex_8e157 6 = .ok (.if_icmp .lt 10, 3) := by decide +kernel
theorem dJ3_checkIndex_8e157_9 : decode cJ3_checkIndex_8e157 9 = .ok (.aload_n 2, 1) := by decide +kernel
theorem dJ3_checkIndex_8e157_10 : decode cJ3_checkIndex_8e157 10 = .ok (.iload_n 0, 1) := by decide +kernel
theorem dJ3_checkIndex_8e157_11 : decode cJ3_checkIndex_8e157 11 = .ok (.iload_n 1, 1) := by decide +kernel
theorem dJ3_checkIndex_8e157_12 : decode cJ3_checkIndex_8e157 12 = .ok (.invokestatic 95, 3) := by decide +kernel
theorem dJ3_checkIndex_8e157_15 : decode cJ3_checkIndex_8e157 15 = .ok (.athrow, 1) := by decide +kernel
theorem dJ3_checkIndex_8e157_16 : decode cJ3_checkIndex_8e157 16 = .ok (.iload_n 0, 1) := by decide +kernel
theorem dJ3_checkIndex_8e157_17 : decode cJ3_checkIndex_8e157 17 = .ok (.ireturn, 1) := by decide +kernel
end
section
theorem dX12_init_0 : decode cX12_init 0 = .ok (.aload_n 0, 1) := by decide +kernel
theorem dX12_init_1 : decode cX12_init 1 = .ok (.invokespecial 1, 3) := by decide +kernel
theorem dX12_init_4 : decode cX12_init 4 = .ok (.aload_n 0, 1) := by decide +kernel
theorem dX12_init_5 : decode cX12_init 5 = .ok (.bipush 7, 2) := by decide +kernel
theorem dX12_init_7 : decode cX12_init 7 = .ok (.newarray .int, 2) := by decide +kernel
theorem dX12_init_9 : decode cX12_init 9 = .ok (.putfield 7, 3) := by decide +kernel
theorem dX12_init_12 : decode cX12_init 12 = .ok (.aload_n 0, 1) := by decide +kernel
theorem dX12_init_13 : decode cX12_init 13 = .ok (.bipush 24, 2) := by decide +kernel
theorem dX12_init_15 : decode cX12_init 15 = .ok (.newarray .int, 2) := by decide +kernel
theorem dX12_init_17 : decode cX12_init 17 = .ok (.putfield 13, 3) := by decide +kernel
theorem dX12_init_20 : decode cX12_init 20 = .ok (.aload_n 0, 1) := by decide +kernel
theorem dX12_init_21 : decode cX12_init 21 = .ok (.bipush 6, 2) := by decide +kernel
theorem dX12_init_23 : decode cX12_init 23 = .ok (.newarray .int, 2) := by decide +kernel
theorem dX12_init_25 : decode cX12_init 25 = .ok (.putfield 16, 3) := by decide +kernel
theorem dX12_init_28 : decode cX12_init 28 = .ok (.aload_n 0, 1) := by decide +kernel
theorem dX12_init_29 : decode cX12_init 29 = .ok (.iconst 4, 1) := by decide +kernel
theorem dX12_init_30 : decode cX12_init 30 = .ok (.newarray .int, 2) := by decide +kernel
theorem dX12_init_32 : decode cX12_init 32 = .ok (.putfield 19, 3) := by decide +kernel
theorem dX12_init_35 : decode cX12_init 35 = .ok (.aload_n 0, 1) := by decide +kernel
theorem dX12_init_36 : decode cX12_init 36 = .ok (.iconst 4, 1) := by decide +kernel
theorem dX12_init_37 : decode cX12_init 37 = .ok (.newarray .int, 2) := by decide +kernel
theorem dX12_init_39 : decode cX12_init 39 = .ok (.putfield 22, 3) := by decide +kernel
theorem dX12_init_42 : decode cX12_init 42 = .ok (.aload_n 0, 1) := by decide +kernel
theorem dX12_init_43 : decode cX12_init 43 = .ok (.iconst 4, 1) := by decide +kernel
theorem dX12_init_44 : decode cX12_init 44 = .ok (.newarray .int, 2) := by decide +kernel
theorem dX12_init_46 : decode cX12_init 46 = .ok (.putfield 25, 3) := by decide +kernel
theorem dX12_init_49 : decode cX12_init 49 = .ok (.aload_n 0, 1) := by decide +kernel
theorem dX12_init_50 : decode cX12_init 50 = .ok (.iconst 5, 1) := by decide +kernel
theorem dX12_init_51 : decode cX12_init 51 = .ok (.newarray .int, 2) := by decide +kernel
theorem dX12_init_53 : decode cX12_init 53 = .ok (.putfield 28, 3) := by decide +kernel
theorem dX12_init_56 : decode cX12_init 56 = .ok (.aload_n 0, 1) := by decide +kernel
theorem dX12_init_57 : decode cX12_init 57 = .ok (.bipush 6, 2) := by decide +kernel
theorem dX12_init_59 : decode cX12_init 59 = .ok (.newarray .int, 2) := by decide +kernel
theorem dX12_init_61 : decode cX12_init 61 = .ok (.putfield 31, 3) := by decide +kernel
theorem dX12_init_64 : decode cX12_init 64 = .ok (.aload_n 0, 1) := by decide +kernel
theorem dX12_init_65 : decode cX12_init 65 = .ok (.bipush 6, 2) := by decide +kernel
theorem dX12_init_67 : decode cX12_init 67 = .ok (.newarray .int, 2) := by decide +kernel
theorem dX12_init_69 : decode cX12_init 69 = .ok (.putfield 34, 3) := by decide +kernel
theorem dX12_init_72 : decode cX12_init 72 = .ok (.aload_n 0, 1) := by decide +kernel
theorem dX12_init_73 : decode cX12_init 73 = .ok (.bipush 64, 2) := by decide +kernel
theorem dX12_init_75 : decode cX12_init 75 = .ok (.newarray .int, 2) := by decide +kernel
theorem dX12_init_77 : decode cX12_init 77 = .ok (.putfield 37, 3) := by decide +kernel
theorem dX12_init_80 : decode cX12_init 80 = .ok (.aload_n 0, 1) := by decide +kernel
theorem dX12_init_81 : decode cX12_init 81 = .ok (.bipush 32, 2) := by decide +kernel
theorem dX12_init_83 : decode cX12_init 83 = .ok (.newarray .int, 2) := by decide +kernel
theorem dX12_init_85 : decode cX12_init 85 = .ok (.putfield 40, 3) := by decide +kernel
theorem dX12_init_88 : decode cX12_init 88 = .ok (.aload_n 0, 1) := by decide +kernel
theorem dX12_init_89 : decode cX12_init 89 = .ok (.bipush 32, 2) := by decide +kernel
theorem dX12_init_91 : decode cX12_init 91 = .ok (.newarray .int, 2) := by decide +kernel
theorem dX12_init_93 : decode cX12_init 93 = .ok (.putfield 43, 3) := by decide +kernel
theorem dX12_init_96 : decode cX12_init 96 = .ok (.aload_n 0, 1) := by decide +kernel
theorem dX12_init_97 : decode cX12_init 97 = .ok (.bipush 32, 2) := by decide +kernel
theorem dX12_init_99 : decode cX12_init 99 = .ok (.newarray .int, 2) := by decide +kernel
theorem dX12_init_101 : decode cX12_init 101 = .ok (.putfield 46, 3) := by decide +kernel
theorem dX12_init_104 : decode cX12_init 104 = .ok (.aload_n 0, 1) := by decide +kernel
theorem dX12_init_105 : decode cX12_init 105 = .ok (.bipush 32, 2) := by decide +kernel
theorem dX12_init_107 : decode cX12_init 107 = .ok (.newarray .int, 2) := by decide +kernel
theorem dX12_init_109 : decode cX12_init 109 = .ok (.putfield 49, 3) := by decide +kernel
theorem dX12_init_112 : decode cX12_init 112 = .ok (.aload_n 0, 1) := by decide +kernel
theorem dX12_init_113 : decode cX12_init 113 = .ok (.bipush 32, 2) := by decide +kernel
theorem dX12_init_115 : decode cX12_init 115 = .ok (.newarray .int, 2) := by decide +kernel
theorem dX12_init_117 : decode cX12_init 117 = .ok (.putfield 52, 3) := by decide +kernel
theorem dX12_init_120 : decode cX12_init 120 = .ok (.aload_n 0, 1) := by decide +kernel
theorem dX12_init_121 : decode cX12_init 121 = .ok (.bipush 32, 2) := by decide +kernel
theorem dX12_init_123 : decode cX12_init 123 = .ok (.newarray .int, 2) := by decide +kernel
theorem dX12_init_125 : decode cX12_init 125 = .ok (.putfield 55, 3) := by decide +kernel
theorem dX12_init_128 : decode cX12_init 128 = .ok (.aload_n 0, 1) := by decide +kernel
theorem dX12_init_129 : decode cX12_init 129 = .ok (.bipush 32, 2) := by decide +kernel
theorem dX12_init_131 : decode cX12_init 131 = .ok (.newarray .int, 2) := by decide +kernel
theorem dX12_init_133 : decode cX12_init 133 = .ok (.putfield 58, 3) := by decide +kernel
theorem dX12_init_136 : decode cX12_init 136 = .ok (.aload_n 0, 1) := by decide +kernel
theorem dX12_init_137 : decode cX12_init 137 = .ok (.sipush 300, 3) := by decide +kernel
theorem dX12_init_140 : decode cX12_init 140 = .ok (.newarray .int, 2) := by decide +kernel
theorem dX12_init_142 : decode cX12_init 142 = .ok (.putfield 61, 3) := by decide +kernel
theorem dX12_init_145 : decode cX12_init 145 = .ok (.aload_n 0, 1) := by decide +kernel
theorem dX12_init_146 : decode cX12_init 146 = .ok (.bipush 120, 2) := by decide +kernel
theorem dX12_init_148 : decode cX12_init 148 = .ok (.newarray .int, 2) := by decide +kernel
theorem dX12_init_150 : decode cX12_init 150 = .ok (.putfield 64, 3) := by decide +kernel
theorem dX12_init_153 : decode cX12_init 153 = .ok (.aload_n 0, 1) := by decide +kernel
theorem dX12_init_154 : decode cX12_init 154 = .ok (.iconst 5, 1) := by decide +kernel
theorem dX12_init_155 : decode cX12_init 155 = .ok (.newarray .int, 2) := by decide +kernel
theorem dX12_init_157 : decode cX12_init 157 = .ok (.putfield 67, 3) := by decide +kernel
theorem dX12_init_160 : decode cX12_init 160 = .ok (.aload_n 0, 1) := by decide +kernel
theorem dX12_init_161 : decode cX12_init 161 = .ok (.iconst 5, 1) := by decide +kernel
theorem dX12_init_162 : decode cX12_init 162 = .ok (.newarray .int, 2) := by decide +kernel
theorem dX12_init_164 : decode cX12_init 164 = .ok (.putfield 70, 3) := by decide +kernel
theorem dX12_init_167 : decode cX12_init 167 = .ok (.aload_n 0, 1) := by decide +kernel
theorem dX12_init_168 : decode cX12_init 168 = .ok (.bipush 8, 2) := by decide +kernel
theorem dX12_init_170 : decode cX12_init 170 = .ok (.newarray .int, 2) := by decide +kernel
theorem dX12_init_172 : decode cX12_init 172 = .ok (.putfield 73, 3) := by decide +kernel
theorem dX12_init_175 : decode cX12_init 175 = .ok (.return_, 1) := by decide +kernel
theorem dX12_no_0 : decode cX12_no 0 = .ok (.aload_n 0, 1) := by decide +kernel
theorem dX12_no_1 : decode cX12_no 1 = .ok (.getfield 7, 3) := by decide +kernel
theorem dX12_no_4 : decode cX12_no 4 = .ok (.iload_n 1, 1) := by decide +kernel
theorem dX12_no_5 : decode cX12_no 5 = .ok (.ineg, 1) := by decide +kernel
theorem dX12_no_6 : decode cX12_no 6 = .ok (.dup2, 1) := by decide +kernel
theorem dX12_no_7 : decode cX12_no 7 = .ok (.iaload, 1) := by decide +kernel
theorem dX12_no_8 : decode cX12_no 8 = .ok (.iconst 1, 1) := by decide +kernel
theorem dX12_no_9 : decode cX12_no 9 = .ok (.iadd, 1) := by decide +kernel
theorem dX12_no_10 : decode cX12_no 10 = .ok (.iastore, 1) := by decide +kernel
theorem dX12_no_11 : decode cX12_no 11 = .ok (.iload_n 1, 1) := by decide +kernel
theorem dX12_no_12 : decode cX12_no 12 = .ok (.ireturn, 1) := by decide +kernel
theorem dX12_isIn_0 : decode cX12_isIn 0 = .ok (.iload_n 0, 1) := by decide +kernel
theorem dX12_isIn_1 : decode cX12_isIn 1 = .ok (.iload_n 1, 1) := by decide +kernel
theorem dX12_isIn_2 : decode cX12_isIn 2 = .ok (.if_icmp .lt 12, 3) := by decide +kernel
theorem dX12_isIn_5 : decode cX12_isIn 5 = .ok (.iload_n 0, 1) := by decide +kernel
theorem dX12_isIn_6 : decode cX12_isIn 6 = .ok (.iload_n 2, 1) := by decide +kernel
theorem dX12_isIn_7 : decode cX12_isIn 7 = .ok (.if_icmp .gt 7, 3) := by decide +kernel
theorem dX12_isIn_10 : decode cX12_isIn 10 = .ok (.iconst 1, 1) := by decide +kernel
theorem dX12_isIn_11 : decode cX12_isIn 11 = .ok (.goto 4, 3) := by decide +kernel
theorem dX12_isIn_14 : decode cX12_isIn 14 = .ok (.iconst 0, 1) := by decide +kernel
theorem dX12_isIn_15 : decode cX12_isIn 15 = .ok (.ireturn, 1) := by decide +kernel
theorem dX12_bound_0 : decode cX12_bound 0 = .ok (.iload_n 0, 1) := by decide +kernel
theorem dX12_bound_1 : decode cX12_bound 1 = .ok (.iload_n 1, 1) := by decide +kernel
theorem dX12_bound_2 : decode cX12_bound 2 = .ok (.if_icmp .ge 8, 3) := by decide +kernel
theorem dX12_bound_5 : decode cX12_bound 5 = .ok (.bipush (-4), 2) := by decide +kernel
theorem dX12_bound_7 : decode cX12_bound 7 = .ok (.goto 14, 3) := by decide +kernel
theorem dX12_bound_10 : decode cX12_bound 10 = .ok (.iload_n 0, 1) := by decide +kernel
theorem dX12_bound_11 : decode cX12_bound 11 = .ok (.iload_n 2, 1) := by decide +kernel
theorem dX12_bound_12 : decode cX12_bound 12 = .ok (.if_icmp .le 8, 3) := by decide +kernel
theorem dX12_bound_15 : decode cX12_bound 15 = .ok (.bipush (-6), 2) := by decide +kernel
theorem dX12_bound_17 : decode cX12_bound 17 = .ok (.goto 4, 3) := by decide +kernel
theorem dX12_bound_20 : decode cX12_bound 20 = .ok (.iconst 0, 1) := by decide +kernel
theorem dX12_bound_21 : decode cX12_bound 21 = .ok (.ireturn, 1) := by decide +kernel
theorem dX12_isPerson_0 : decode cX12_isPerson 0 = .ok (.iload_n 1, 1) := by decide +kernel
theorem dX12_isPerson_1 : decode cX12_isPerson 1 = .ok (.ifCond .lt 15, 3) := by decide +kernel
theorem dX12_isPerson_4 : decode cX12_isPerson 4 = .ok (.iload_n 1, 1) := by decide +kernel
theorem dX12_isPerson_5 : decode cX12_isPerson 5 = .ok (.aload_n 0, 1) := by decide +kernel
theorem dX12_isPerson_6 : decode cX12_isPerson 6 = .ok (.getfield 76, 3) := by decide +kernel
theorem dX12_isPerson_9 : decode cX12_isPerson 9 = .ok (.if_icmp .ge 7, 3) := by decide +kernel
theorem dX12_isPerson_12 : decode cX12_isPerson 12 = .ok (.iconst 1, 1) := by decide +kernel
theorem dX12_isPerson_13 : decode cX12_isPerson 13 = .ok (.goto 4, 3) := by decide +kernel
theorem dX12_isPerson_16 : decode cX12_isPerson 16 = .ok (.iconst 0, 1) := by decide +kernel
theorem dX12_isPerson_17 : decode cX12_isPerson 17 = .ok (.ireturn, 1) := by decide +kernel
theorem dX12_isWriter_0 : decode cX12_isWriter 0 = .ok (.iload_n 1, 1) := by decide +kernel
theorem dX12_isWriter_1 : decode cX12_isWriter 1 = .ok (.ifCond .lt 15, 3) := by decide +kernel
theorem dX12_isWriter_4 : decode cX12_isWriter 4 = .ok (.iload_n 1, 1) := by decide +kernel
theorem dX12_isWriter_5 : decode cX12_isWriter 5 = .ok (.aload_n 0, 1) := by decide +kernel
theorem dX12_isWriter_6 : decode cX12_isWriter 6 = .ok (.getfield 80, 3) := by decide +kernel
theorem dX12_isWriter_9 : decode cX12_isWriter 9 = .ok (.if_icmp .ge 7, 3) := by decide +kernel
theorem dX12_isWriter_12 : decode cX12_isWriter 12 = .ok (.iconst 1, 1) := by decide +kernel
theorem dX12_isWriter_13 : decode cX12_isWriter 13 = .ok (.goto 4, 3) := by decide +kernel
theorem dX12_isWriter_16 : decode cX12_isWriter 16 = .ok (.iconst 0, 1) := by decide +kernel
theorem dX12_isWriter_17 : decode cX12_isWriter 17 = .ok (.ireturn, 1) := by decide +kernel
theorem dX12_amount_0 : decode cX12_amount 0 = .ok (.iload_n 0, 1) := by decide +kernel
theorem dX12_amount_1 : decode cX12_amount 1 = .ok (.istore_n 2, 1) := by decide +kernel
theorem dX12_amount_2 : decode cX12_amount 2 = .ok (.iconst 0, 1) := by decide +kernel
theorem dX12_amount_3 : decode cX12_amount 3 = .ok (.istore_n 3, 1) := by decide +kernel
theorem dX12_amount_4 : decode cX12_amount 4 = .ok (.iload_n 3, 1) := by decide +kernel
theorem dX12_amount_5 : decode cX12_amount 5 = .ok (.iload_n 1, 1) := by decide +kernel
theorem dX12_amount_6 : decode cX12_amount 6 = .ok (.if_icmp .ge 14, 3) := by decide +kernel
theorem dX12_amount_9 : decode cX12_amount 9 = .ok (.iload_n 2, 1) := by decide +kernel
theorem dX12_amount_10 : decode cX12_amount 10 = .ok (.bipush 10, 2) := by decide +kernel
theorem dX12_amount_12 : decode cX12_amount 12 = .ok (.idiv, 1) := by decide +kernel
theorem dX12_amount_13 : decode cX12_amount 13 = .ok (.istore_n 2, 1) := by decide +kernel
theorem dX12_amount_14 : decode cX12_amount 14 = .ok (.iinc 3 1, 3) := by decide +kernel
theorem dX12_amount_17 : decode cX12_amount 17 = .ok (.goto (-13), 3) := by decide +kernel
theorem dX12_amount_20 : decode cX12_amount 20 = .ok (.iload_n 2, 1) := by decide +kernel
theorem dX12_amount_21 : decode cX12_amount 21 = .ok (.bipush 10, 2) := by decide +kernel
theorem dX12_amount_23 : decode cX12_amount 23 = .ok (.irem, 1) := by decide +kernel
theorem dX12_amount_24 : decode cX12_amount 24 = .ok (.ireturn, 1) := by decide +kernel
theorem dX12_isLetter_0 : decode cX12_isLetter 0 = .ok (.iload_n 0, 1) := by decide +kernel
theorem dX12_isLetter_1 : decode cX12_isLetter 1 = .ok (.iconst 0, 1) := by decide +kernel
theorem dX12_isLetter_2 : decode cX12_isLetter 2 = .ok (.sipush 5555, 3) := by decide +kernel
theorem dX12_isLetter_5 : decode cX12_isLetter 5 = .ok (.invokestatic 83, 3) := by decide +kernel
theorem dX12_isLetter_8 : decode cX12_isLetter 8 = .ok (.ifCond .ne 5, 3) := by decide +kernel
theorem dX12_isLetter_11 : decode cX12_isLetter 11 = .ok (.iconst 0, 1) := by decide +kernel
theorem dX12_isLetter_12 : decode cX12_isLetter 12 = .ok (.ireturn, 1) := by decide +kernel
theorem dX12_isLetter_13 : decode cX12_isLetter 13 = .ok (.iconst 0, 1) := by decide +kernel
theorem dX12_isLetter_14 : decode cX12_isLetter 14 = .ok (.istore_n 1, 1) := by decide +kernel
theorem dX12_isLetter_15 : decode cX12_isLetter 15 = .ok (.iload_n 1, 1) := by decide +kernel
theorem dX12_isLetter_16 : decode cX12_isLetter 16 = .ok (.iconst 4, 1) := by decide +kernel
theorem dX12_isLetter_17 : decode cX12_isLetter 17 = .ok (.if_icmp .ge 20, 3) := by decide +kernel
theorem dX12_isLetter_20 : decode cX12_isLetter 20 = .ok (.iload_n 0, 1) := by decide +kernel
theorem dX12_isLetter_21 : decode cX12_isLetter 21 = .ok (.iload_n 1, 1) := by decide +kernel
theorem dX12_isLetter_22 : decode cX12_isLetter 22 = .ok (.invokestatic 87, 3) := by decide +kernel
theorem dX12_isLetter_25 : decode cX12_isLetter 25 = .ok (.iconst 5, 1) := by decide +kernel
theorem dX12_isLetter_26 : decode cX12_isLetter 26 = .ok (.if_icmp .le 5, 3) := by decide +kernel
theorem dX12_isLetter_29 : decode cX12_isLetter 29 = .ok (.iconst 0, 1) := by decide +kernel
theorem dX12_isLetter_30 : decode cX12_isLetter 30 = .ok (.ireturn, 1) := by decide +kernel
theorem dX12_isLetter_31 : decode cX12_isLetter 31 = .ok (.iinc 1 1, 3) := by decide +kernel
theorem dX12_isLetter_34 : decode cX12_isLetter 34 = .ok (.goto (-19), 3) := by decide +kernel
theorem dX12_isLetter_37 : decode cX12_isLetter 37 = .ok (.iconst 1, 1) := by decide +kernel
theorem dX12_isLetter_38 : decode cX12_isLetter 38 = .ok (.ireturn, 1) := by decide +kernel
theorem dX12_cost_0 : decode cX12_cost 0 = .ok (.iload_n 0, 1) := by decide +kernel
theorem dX12_cost_1 : decode cX12_cost 1 = .ok (.iconst 0, 1) := by decide +kernel
theorem dX12_cost_2 : decode cX12_cost 2 = .ok (.invokestatic 87, 3) := by decide +kernel
theorem dX12_cost_5 : decode cX12_cost 5 = .ok (.iload_n 0, 1) := by decide +kernel
theorem dX12_cost_6 : decode cX12_cost 6 = .ok (.iconst 1, 1) := by decide +kernel
theorem dX12_cost_7 : decode cX12_cost 7 = .ok (.invokestatic 87, 3) := by decide +kernel
theorem dX12_cost_10 : decode cX12_cost 10 = .ok (.iadd, 1) := by decide +kernel
theorem dX12_cost_11 : decode cX12_cost 11 = .ok (.iload_n 0, 1) := by decide +kernel
theorem dX12_cost_12 : decode cX12_cost 12 = .ok (.iconst 2, 1) := by decide +kernel
theorem dX12_cost_13 : decode cX12_cost 13 = .ok (.invokestatic 87, 3) := by decide +kernel
theorem dX12_cost_16 : decode cX12_cost 16 = .ok (.iadd, 1) := by decide +kernel
theorem dX12_cost_17 : decode cX12_cost 17 = .ok (.iload_n 0, 1) := by decide +kernel
theorem dX12_cost_18 : decode cX12_cost 18 = .ok (.iconst 3, 1) := by decide +kernel
theorem dX12_cost_19 : decode cX12_cost 19 = .ok (.invokestatic 87, 3) := by decide +kernel
theorem dX12_cost_22 : decode cX12_cost 22 = .ok (.iadd, 1) := by decide +kernel
theorem dX12_cost_23 : decode cX12_cost 23 = .ok (.ireturn, 1) := by decide +kernel
theorem dX12_two_0 : decode cX12_two 0 = .ok (.iload_n 0, 1) := by decide +kernel
theorem dX12_two_1 : decode cX12_two 1 = .ok (.iconst 3, 1) := by decide +kernel
theorem dX12_two_2 : decode cX12_two 2 = .ok (.irem, 1) := by decide +kernel
theorem dX12_two_3 : decode cX12_two 3 = .ok (.bipush 10, 2) := by decide +kernel
theorem dX12_two_5 : decode cX12_two 5 = .ok (.iload_n 0, 1) := by decide +kernel
theorem dX12_two_6 : decode cX12_two 6 = .ok (.iconst 3, 1) := by decide +kernel
theorem dX12_two_7 : decode cX12_two 7 = .ok (.idiv, 1) := by decide +kernel
theorem dX12_two_8 : decode cX12_two 8 = .ok (.iconst 3, 1) := by decide +kernel
theorem dX12_two_9 : decode cX12_two 9 = .ok (.irem, 1) := by decide +kernel
theorem dX12_two_10 : decode cX12_two 10 = .ok (.imul, 1) := by decide +kernel
theorem dX12_two_11 : decode cX12_two 11 = .ok (.iadd, 1) := by decide +kernel
theorem dX12_two_12 : decode cX12_two 12 = .ok (.bipush 100, 2) := by decide +kernel
theorem dX12_two_14 : decode cX12_two 14 = .ok (.iload_n 0, 1) := by decide +kernel
theorem dX12_two_15 : decode cX12_two 15 = .ok (.bipush 9, 2) := by decide +kernel
theorem dX12_two_17 : decode cX12_two 17 = .ok (.idiv, 1) := by decide +kernel
theorem dX12_two_18 : decode cX12_two 18 = .ok (.iconst 3, 1) := by decide +kernel
theorem dX12_two_19 : decode cX12_two 19 = .ok (.irem, 1) := by decide +kernel
theorem dX12_two_20 : decode cX12_two 20 = .ok (.imul, 1) := by decide +kernel
theorem dX12_two_21 : decode cX12_two 21 = .ok (.iadd, 1) := by decide +kernel
theorem dX12_two_22 : decode cX12_two 22 = .ok (.sipush 1000, 3) := by decide +kernel
theorem dX12_two_25 : decode cX12_two 25 = .ok (.iload_n 0, 1) := by decide +kernel
theorem dX12_two_26 : decode cX12_two 26 = .ok (.bipush 27, 2) := by decide +kernel
theorem dX12_two_28 : decode cX12_two 28 = .ok (.idiv, 1) := by decide +kernel
theorem dX12_two_29 : decode cX12_two 29 = .ok (.imul, 1) := by decide +kernel
theorem dX12_two_30 : decode cX12_two 30 = .ok (.iadd, 1) := by decide +kernel
theorem dX12_two_31 : decode cX12_two 31 = .ok (.ireturn, 1) := by decide +kernel
theorem dX12_letter_0 : decode cX12_letter 0 = .ok (.iload_n 1, 1) := by decide +kernel
theorem dX12_letter_1 : decode cX12_letter 1 = .ok (.iconst 0, 1) := by decide +kernel
theorem dX12_letter_2 : decode cX12_letter 2 = .ok (.sipush 255, 3) := by decide +kernel
theorem dX12_letter_5 : decode cX12_letter 5 = .ok (.invokestatic 91, 3) := by decide +kernel
theorem dX12_letter_8 : decode cX12_letter 8 = .ok (.istore_n 2, 1) := by decide +kernel
theorem dX12_letter_9 : decode cX12_letter 9 = .ok (.iload_n 2, 1) := by decide +kernel
theorem dX12_letter_10 : decode cX12_letter 10 = .ok (.ifCond .ne 15, 3) := by decide +kernel
theorem dX12_letter_13 : decode cX12_letter 13 = .ok (.aload_n 0, 1) := by decide +kernel
theorem dX12_letter_14 : decode cX12_letter 14 = .ok (.getfield 95, 3) := by decide +kernel
theorem dX12_letter_17 : decode cX12_letter 17 = .ok (.bipush 64, 2) := by decide +kernel
theorem dX12_letter_19 : decode cX12_letter 19 = .ok (.if_icmp .ne 6, 3) := by decide +kernel
theorem dX12_letter_22 : decode cX12_letter 22 = .ok (.bipush (-6), 2) := by decide +kernel
theorem dX12_letter_24 : decode cX12_letter 24 = .ok (.istore_n 2, 1) := by decide +kernel
theorem dX12_letter_25 : decode cX12_letter 25 = .ok (.iload_n 2, 1) := by decide +kernel
theorem dX12_letter_26 : decode cX12_letter 26 = .ok (.ifCond .eq 9, 3) := by decide +kernel
theorem dX12_letter_29 : decode cX12_letter 29 = .ok (.aload_n 0, 1) := by decide +kernel
theorem dX12_letter_30 : decode cX12_letter 30 = .ok (.iload_n 2, 1) := by decide +kernel
theorem dX12_letter_31 : decode cX12_letter 31 = .ok (.invokevirtual 98, 3) := by decide +kernel
theorem dX12_letter_34 : decode cX12_letter 34 = .ok (.ireturn, 1) := by decide +kernel
theorem dX12_letter_35 : decode cX12_letter 35 = .ok (.aload_n 0, 1) := by decide +kernel
theorem dX12_letter_36 : decode cX12_letter 36 = .ok (.getfield 37, 3) := by decide +kernel
theorem dX12_letter_39 : decode cX12_letter 39 = .ok (.aload_n 0, 1) := by decide +kernel
theorem dX12_letter_40 : decode cX12_letter 40 = .ok (.getfield 95, 3) := by decide +kernel
theorem dX12_letter_43 : decode cX12_letter 43 = .ok (.iload_n 1, 1) := by decide +kernel
theorem dX12_letter_44 : decode cX12_letter 44 = .ok (.iastore, 1) := by decide +kernel
theorem dX12_letter_45 : decode cX12_letter 45 = .ok (.aload_n 0, 1) := by decide +kernel
theorem dX12_letter_46 : decode cX12_letter 46 = .ok (.dup, 1) := by decide +kernel
theorem dX12_letter_47 : decode cX12_letter 47 = .ok (.getfield 95, 3) := by decide +kernel
theorem dX12_letter_50 : decode cX12_letter 50 = .ok (.iconst 1, 1) := by decide +kernel
theorem dX12_letter_51 : decode cX12_letter 51 = .ok (.iadd, 1) := by decide +kernel
theorem dX12_letter_52 : decode cX12_letter 52 = .ok (.putfield 95, 3) := by decide +kernel
theorem dX12_letter_55 : decode cX12_letter 55 = .ok (.aload_n 0, 1) := by decide +kernel
theorem dX12_letter_56 : decode cX12_letter 56 = .ok (.getfield 95, 3) := by decide +kernel
theorem dX12_letter_59 : decode cX12_letter 59 = .ok (.ireturn, 1) := by decide +kernel
theorem dX12_next_0 : decode cX12_next 0 = .ok (.aload_n 0, 1) := by decide +kernel
theorem dX12_next_1 : decode cX12_next 1 = .ok (.getfield 102, 3) := by decide +kernel
theorem dX12_next_4 : decode cX12_next 4 = .ok (.aload_n 0, 1) := by decide +kernel
theorem dX12_next_5 : decode cX12_next 5 = .ok (.getfield 95, 3) := by decide +kernel
theorem dX12_next_8 : decode cX12_next 8 = .ok (.if_icmp .ge 15, 3) := by decide +kernel
theorem dX12_next_11 : decode cX12_next 11 = .ok (.aload_n 0, 1) := by decide +kernel
theorem dX12_next_12 : decode cX12_next 12 = .ok (.getfield 37, 3) := by decide +kernel
theorem dX12_next_15 : decode cX12_next 15 = .ok (.aload_n 0, 1) := by decide +kernel
theorem dX12_next_16 : decode cX12_next 16 = .ok (.getfield 102, 3) := by decide +kernel
theorem dX12_next_19 : decode cX12_next 19 = .ok (.iaload, 1) := by decide +kernel
theorem dX12_next_20 : decode cX12_next 20 = .ok (.goto 4, 3) := by decide +kernel
theorem dX12_next_23 : decode cX12_next 23 = .ok (.iconst (-1), 1) := by decide +kernel
theorem dX12_next_24 : decode cX12_next 24 = .ok (.ireturn, 1) := by decide +kernel
theorem dX12_isNext_0 : decode cX12_isNext 0 = .ok (.aload_n 0, 1) := by decide +kernel
theorem dX12_isNext_1 : decode cX12_isNext 1 = .ok (.invokevirtual 105, 3) := by decide +kernel
theorem dX12_isNext_4 : decode cX12_isNext 4 = .ok (.iload_n 1, 1) := by decide +kernel
theorem dX12_isNext_5 : decode cX12_isNext 5 = .ok (.if_icmp .eq 5, 3) := by decide +kernel
theorem dX12_isNext_8 : decode cX12_isNext 8 = .ok (.iconst 0, 1) := by decide +kernel
theorem dX12_isNext_9 : decode cX12_isNext 9 = .ok (.ireturn, 1) := by decide +kernel
theorem dX12_isNext_10 : decode cX12_isNext 10 = .ok (.aload_n 0, 1) := by decide +kernel
theorem dX12_isNext_11 : decode cX12_isNext 11 = .ok (.dup, 1) := by decide +kernel
theorem dX12_isNext_12 : decode cX12_isNext 12 = .ok (.getfield 102, 3) := by decide +kernel
theorem dX12_isNext_15 : decode cX12_isNext 15 = .ok (.iconst 1, 1) := by decide +kernel
theorem dX12_isNext_16 : decode cX12_isNext 16 = .ok (.iadd, 1) := by decide +kernel
theorem dX12_isNext_17 : decode cX12_isNext 17 = .ok (.putfield 102, 3) := by decide +kernel
theorem dX12_isNext_20 : decode cX12_isNext 20 = .ok (.iconst 1, 1) := by decide +kernel
theorem dX12_isNext_21 : decode cX12_isNext 21 = .ok (.ireturn, 1) := by decide +kernel
theorem dX12_number_0 : decode cX12_number 0 = .ok (.aload_n 0, 1) := by decide +kernel
theorem dX12_number_1 : decode cX12_number 1 = .ok (.invokevirtual 105, 3) := by decide +kernel
theorem dX12_number_4 : decode cX12_number 4 = .ok (.bipush 48, 2) := by decide +kernel
theorem dX12_number_6 : decode cX12_number 6 = .ok (.bipush 57, 2) := by decide +kernel
theorem dX12_number_8 : decode cX12_number 8 = .ok (.invokestatic 83, 3) := by decide +kernel
theorem dX12_number_11 : decode cX12_number 11 = .ok (.ifCond .ne 5, 3) := by decide +kernel
theorem dX12_number_14 : decode cX12_number 14 = .ok (.iconst (-1), 1) := by decide +kernel
theorem dX12_number_15 : decode cX12_number 15 = .ok (.ireturn, 1) := by decide +kernel
theorem dX12_number_16 : decode cX12_number 16 = .ok (.iconst 0, 1) := by decide +kernel
theorem dX12_number_17 : decode cX12_number 17 = .ok (.istore_n 2, 1) := by decide +kernel
theorem dX12_number_18 : decode cX12_number 18 = .ok (.iconst 0, 1) := by decide +kernel
theorem dX12_number_19 : decode cX12_number 19 = .ok (.istore_n 3, 1) := by decide +kernel
theorem dX12_number_20 : decode cX12_number 20 = .ok (.iload_n 3, 1) := by decide +kernel
theorem dX12_number_21 : decode cX12_number 21 = .ok (.iload_n 1, 1) := by decide +kernel
theorem dX12_number_22 : decode cX12_number 22 = .ok (.if_icmp .ge 46, 3) := by decide +kernel
theorem dX12_number_25 : decode cX12_number 25 = .ok (.aload_n 0, 1) := by decide +kernel
theorem dX12_number_26 : decode cX12_number 26 = .ok (.invokevirtual 105, 3) := by decide +kernel
theorem dX12_number_29 : decode cX12_number 29 = .ok (.bipush 48, 2) := by decide +kernel
theorem dX12_number_31 : decode cX12_number 31 = .ok (.bipush 57, 2) := by decide +kernel
theorem dX12_number_33 : decode cX12_number 33 = .ok (.invokestatic 83, 3) := by decide +kernel
theorem dX12_number_36 : decode cX12_number 36 = .ok (.ifCond .eq 32, 3) := by decide +kernel
theorem dX12_number_39 : decode cX12_number 39 = .ok (.bipush 10, 2) := by decide +kernel
theorem dX12_number_41 : decode cX12_number 41 = .ok (.iload_n 2, 1) := by decide +kernel
theorem dX12_number_42 : decode cX12_number 42 = .ok (.imul, 1) := by decide +kernel
theorem dX12_number_43 : decode cX12_number 43 = .ok (.aload_n 0, 1) := by decide +kernel
theorem dX12_number_44 : decode cX12_number 44 = .ok (.invokevirtual 105, 3) := by decide +kernel
theorem dX12_number_47 : decode cX12_number 47 = .ok (.iadd, 1) := by decide +kernel
theorem dX12_number_48 : decode cX12_number 48 = .ok (.bipush 48, 2) := by decide +kernel
theorem dX12_number_50 : decode cX12_number 50 = .ok (.isub, 1) := by decide +kernel
theorem dX12_number_51 : decode cX12_number 51 = .ok (.istore_n 2, 1) := by decide +kernel
theorem dX12_number_52 : decode cX12_number 52 = .ok (.aload_n 0, 1) := by decide +kernel
theorem dX12_number_53 : decode cX12_number 53 = .ok (.dup, 1) := by decide +kernel
theorem dX12_number_54 : decode cX12_number 54 = .ok (.getfield 102, 3) := by decide +kernel
theorem dX12_number_57 : decode cX12_number 57 = .ok (.iconst 1, 1) := by decide +kernel
theorem dX12_number_58 : decode cX12_number 58 = .ok (.iadd, 1) := by decide +kernel
theorem dX12_number_59 : decode cX12_number 59 = .ok (.putfield 102, 3) := by decide +kernel
theorem dX12_number_62 : decode cX12_number 62 = .ok (.iinc 3 1, 3) := by decide +kernel
theorem dX12_number_65 : decode cX12_number 65 = .ok (.goto (-45), 3) := by decide +kernel
theorem dX12_number_68 : decode cX12_number 68 = .ok (.iload_n 2, 1) := by decide +kernel
theorem dX12_number_69 : decode cX12_number 69 = .ok (.ireturn, 1) := by decide +kernel
theorem dX12_kindOf_0 : decode cX12_kindOf 0 = .ok (.iload_n 0, 1) := by decide +kernel
theorem dX12_kindOf_1 : decode cX12_kindOf 1 = .ok (.lookupswitch 61 #[(97, 53), (104, 59), (109, 55), (112, 51), (116, 57)], 51) := by decide +kernel
theorem dX12_kindOf_52 : decode cX12_kindOf 52 = .ok (.iconst 0, 1) := by decide +kernel
theorem dX12_kindOf_53 : decode cX12_kindOf 53 = .ok (.ireturn, 1) := by decide +kernel
theorem dX12_kindOf_54 : decode cX12_kindOf 54 = .ok (.iconst 1, 1) := by decide +kernel
theorem dX12_kindOf_55 : decode cX12_kindOf 55 = .ok (.ireturn, 1) := by decide +kernel
theorem dX12_kindOf_56 : decode cX12_kindOf 56 = .ok (.iconst 2, 1) := by decide +kernel
theorem dX12_kindOf_57 : decode cX12_kindOf 57 = .ok (.ireturn, 1) := by decide +kernel
theorem dX12_kindOf_58 : decode cX12_kindOf 58 = .ok (.iconst 3, 1) := by decide +kernel
theorem dX12_kindOf_59 : decode cX12_kindOf 59 = .ok (.ireturn, 1) := by decide +kernel
theorem dX12_kindOf_60 : decode cX12_kindOf 60 = .ok (.iconst 4, 1) := by decide +kernel
theorem dX12_kindOf_61 : decode cX12_kindOf 61 = .ok (.ireturn, 1) := by decide +kernel
theorem dX12_kindOf_62 : decode cX12_kindOf 62 = .ok (.iconst (-1), 1) := by decide +kernel
theorem dX12_kindOf_63 : decode cX12_kindOf 63 = .ok (.ireturn, 1) := by decide +kernel
theorem dX12_readsPerson_0 : decode cX12_readsPerson 0 = .ok (.aload_n 0, 1) := by decide +kernel
theorem dX12_readsPerson_1 : decode cX12_readsPerson 1 = .ok (.getfield 46, 3) := by decide +kernel
theorem dX12_readsPerson_4 : decode cX12_readsPerson 4 = .ok (.iload_n 1, 1) := by decide +kernel
theorem dX12_readsPerson_5 : decode cX12_readsPerson 5 = .ok (.aload_n 0, 1) := by decide +kernel
theorem dX12_readsPerson_6 : decode cX12_readsPerson 6 = .ok (.iconst 2, 1) := by decide +kernel
theorem dX12_readsPerson_7 : decode cX12_readsPerson 7 = .ok (.invokevirtual 109, 3) := by decide +kernel
theorem dX12_readsPerson_10 : decode cX12_readsPerson 10 = .ok (.iastore, 1) := by decide +kernel
theorem dX12_readsPerson_11 : decode cX12_readsPerson 11 = .ok (.aload_n 0, 1) := by decide +kernel
theorem dX12_readsPerson_12 : decode cX12_readsPerson 12 = .ok (.getfield 46, 3) := by decide +kernel
theorem dX12_readsPerson_15 : decode cX12_readsPerson 15 = .ok (.iload_n 1, 1) := by decide +kernel
theorem dX12_readsPerson_16 : decode cX12_readsPerson 16 = .ok (.iaload, 1) := by decide +kernel
theorem dX12_readsPerson_17 : decode cX12_readsPerson 17 = .ok (.ifCond .lt 12, 3) := by decide +kernel
theorem dX12_readsPerson_20 : decode cX12_readsPerson 20 = .ok (.aload_n 0, 1) := by decide +kernel
theorem dX12_readsPerson_21 : decode cX12_readsPerson 21 = .ok (.bipush 44, 2) := by decide +kernel
theorem dX12_readsPerson_23 : decode cX12_readsPerson 23 = .ok (.invokevirtual 112, 3) := by decide +kernel
theorem dX12_readsPerson_26 : decode cX12_readsPerson 26 = .ok (.ifCond .ne 5, 3) := by decide +kernel
theorem dX12_readsPerson_29 : decode cX12_readsPerson 29 = .ok (.iconst 0, 1) := by decide +kernel
theorem dX12_readsPerson_30 : decode cX12_readsPerson 30 = .ok (.ireturn, 1) := by decide +kernel
theorem dX12_readsPerson_31 : decode cX12_readsPerson 31 = .ok (.aload_n 0, 1) := by decide +kernel
theorem dX12_readsPerson_32 : decode cX12_readsPerson 32 = .ok (.getfield 49, 3) := by decide +kernel
theorem dX12_readsPerson_35 : decode cX12_readsPerson 35 = .ok (.iload_n 1, 1) := by decide +kernel
theorem dX12_readsPerson_36 : decode cX12_readsPerson 36 = .ok (.aload_n 0, 1) := by decide +kernel
theorem dX12_readsPerson_37 : decode cX12_readsPerson 37 = .ok (.iconst 2, 1) := by decide +kernel
theorem dX12_readsPerson_38 : decode cX12_readsPerson 38 = .ok (.invokevirtual 109, 3) := by decide +kernel
theorem dX12_readsPerson_41 : decode cX12_readsPerson 41 = .ok (.iastore, 1) := by decide +kernel
theorem dX12_readsPerson_42 : decode cX12_readsPerson 42 = .ok (.aload_n 0, 1) := by decide +kernel
theorem dX12_readsPerson_43 : decode cX12_readsPerson 43 = .ok (.getfield 49, 3) := by decide +kernel
theorem dX12_readsPerson_46 : decode cX12_readsPerson 46 = .ok (.iload_n 1, 1) := by decide +kernel
theorem dX12_readsPerson_47 : decode cX12_readsPerson 47 = .ok (.iaload, 1) := by decide +kernel
theorem dX12_readsPerson_48 : decode cX12_readsPerson 48 = .ok (.ifCond .lt 12, 3) := by decide +kernel
theorem dX12_readsPerson_51 : decode cX12_readsPerson 51 = .ok (.aload_n 0, 1) := by decide +kernel
theorem dX12_readsPerson_52 : decode cX12_readsPerson 52 = .ok (.bipush 44, 2) := by decide +kernel
theorem dX12_readsPerson_54 : decode cX12_readsPerson 54 = .ok (.invokevirtual 112, 3) := by decide +kernel
theorem dX12_readsPerson_57 : decode cX12_readsPerson 57 = .ok (.ifCond .ne 5, 3) := by decide +kernel
theorem dX12_readsPerson_60 : decode cX12_readsPerson 60 = .ok (.iconst 0, 1) := by decide +kernel
theorem dX12_readsPerson_61 : decode cX12_readsPerson 61 = .ok (.ireturn, 1) := by decide +kernel
theorem dX12_readsPerson_62 : decode cX12_readsPerson 62 = .ok (.aload_n 0, 1) := by decide +kernel
theorem dX12_readsPerson_63 : decode cX12_readsPerson 63 = .ok (.getfield 52, 3) := by decide +kernel
theorem dX12_readsPerson_66 : decode cX12_readsPerson 66 = .ok (.iload_n 1, 1) := by decide +kernel
theorem dX12_readsPerson_67 : decode cX12_readsPerson 67 = .ok (.aload_n 0, 1) := by decide +kernel
theorem dX12_readsPerson_68 : decode cX12_readsPerson 68 = .ok (.iconst 2, 1) := by decide +kernel
theorem dX12_readsPerson_69 : decode cX12_readsPerson 69 = .ok (.invokevirtual 109, 3) := by decide +kernel
theorem dX12_readsPerson_72 : decode cX12_readsPerson 72 = .ok (.iastore, 1) := by decide +kernel
theorem dX12_readsPerson_73 : decode cX12_readsPerson 73 = .ok (.aload_n 0, 1) := by decide +kernel
theorem dX12_readsPerson_74 : decode cX12_readsPerson 74 = .ok (.getfield 52, 3) := by decide +kernel
theorem dX12_readsPerson_77 : decode cX12_readsPerson 77 = .ok (.iload_n 1, 1) := by decide +kernel
theorem dX12_readsPerson_78 : decode cX12_readsPerson 78 = .ok (.iaload, 1) := by decide +kernel
theorem dX12_readsPerson_79 : decode cX12_readsPerson 79 = .ok (.ifCond .lt 12, 3) := by decide +kernel
theorem dX12_readsPerson_82 : decode cX12_readsPerson 82 = .ok (.aload_n 0, 1) := by decide +kernel
theorem dX12_readsPerson_83 : decode cX12_readsPerson 83 = .ok (.bipush 44, 2) := by decide +kernel
theorem dX12_readsPerson_85 : decode cX12_readsPerson 85 = .ok (.invokevirtual 112, 3) := by decide +kernel
theorem dX12_readsPerson_88 : decode cX12_readsPerson 88 = .ok (.ifCond .ne 5, 3) := by decide +kernel
theorem dX12_readsPerson_91 : decode cX12_readsPerson 91 = .ok (.iconst 0, 1) := by decide +kernel
theorem dX12_readsPerson_92 : decode cX12_readsPerson 92 = .ok (.ireturn, 1) := by decide +kernel
theorem dX12_readsPerson_93 : decode cX12_readsPerson 93 = .ok (.aload_n 0, 1) := by decide +kernel
theorem dX12_readsPerson_94 : decode cX12_readsPerson 94 = .ok (.getfield 55, 3) := by decide +kernel
theorem dX12_readsPerson_97 : decode cX12_readsPerson 97 = .ok (.iload_n 1, 1) := by decide +kernel
theorem dX12_readsPerson_98 : decode cX12_readsPerson 98 = .ok (.aload_n 0, 1) := by decide +kernel
theorem dX12_readsPerson_99 : decode cX12_readsPerson 99 = .ok (.iconst 2, 1) := by decide +kernel
theorem dX12_readsPerson_100 : decode cX12_readsPerson 100 = .ok (.invokevirtual 109, 3) := by decide +kernel
theorem dX12_readsPerson_103 : decode cX12_readsPerson 103 = .ok (.iastore, 1) := by decide +kernel
theorem dX12_readsPerson_104 : decode cX12_readsPerson 104 = .ok (.aload_n 0, 1) := by decide +kernel
theorem dX12_readsPerson_105 : decode cX12_readsPerson 105 = .ok (.getfield 55, 3) := by decide +kernel
theorem dX12_readsPerson_108 : decode cX12_readsPerson 108 = .ok (.iload_n 1, 1) := by decide +kernel
theorem dX12_readsPerson_109 : decode cX12_readsPerson 109 = .ok (.iaload, 1) := by decide +kernel
theorem dX12_readsPerson_110 : decode cX12_readsPerson 110 = .ok (.ifCond .lt 12, 3) := by decide +kernel
theorem dX12_readsPerson_113 : decode cX12_readsPerson 113 = .ok (.aload_n 0, 1) := by decide +kernel
theorem dX12_readsPerson_114 : decode cX12_readsPerson 114 = .ok (.bipush 43, 2) := by decide +kernel
theorem dX12_readsPerson_116 : decode cX12_readsPerson 116 = .ok (.invokevirtual 112, 3) := by decide +kernel
theorem dX12_readsPerson_119 : decode cX12_readsPerson 119 = .ok (.ifCond .ne 5, 3) := by decide +kernel
theorem dX12_readsPerson_122 : decode cX12_readsPerson 122 = .ok (.iconst 0, 1) := by decide +kernel
theorem dX12_readsPerson_123 : decode cX12_readsPerson 123 = .ok (.ireturn, 1) := by decide +kernel
theorem dX12_readsPerson_124 : decode cX12_readsPerson 124 = .ok (.aload_n 0, 1) := by decide +kernel
theorem dX12_readsPerson_125 : decode cX12_readsPerson 125 = .ok (.getfield 58, 3) := by decide +kernel
theorem dX12_readsPerson_128 : decode cX12_readsPerson 128 = .ok (.iload_n 1, 1) := by decide +kernel
theorem dX12_readsPerson_129 : decode cX12_readsPerson 129 = .ok (.aload_n 0, 1) := by decide +kernel
theorem dX12_readsPerson_130 : decode cX12_readsPerson 130 = .ok (.iconst 1, 1) := by decide +kernel
theorem dX12_readsPerson_131 : decode cX12_readsPerson 131 = .ok (.invokevirtual 109, 3) := by decide +kernel
theorem dX12_readsPerson_134 : decode cX12_readsPerson 134 = .ok (.iastore, 1) := by decide +kernel
theorem dX12_readsPerson_135 : decode cX12_readsPerson 135 = .ok (.aload_n 0, 1) := by decide +kernel
theorem dX12_readsPerson_136 : decode cX12_readsPerson 136 = .ok (.getfield 58, 3) := by decide +kernel
theorem dX12_readsPerson_139 : decode cX12_readsPerson 139 = .ok (.iload_n 1, 1) := by decide +kernel
theorem dX12_readsPerson_140 : decode cX12_readsPerson 140 = .ok (.iaload, 1) := by decide +kernel
theorem dX12_readsPerson_141 : decode cX12_readsPerson 141 = .ok (.ifCond .lt 16, 3) := by decide +kernel
theorem dX12_readsPerson_144 : decode cX12_readsPerson 144 = .ok (.aload_n 0, 1) := by decide +kernel
theorem dX12_readsPerson_145 : decode cX12_readsPerson 145 = .ok (.bipush 59, 2) := by decide +kernel
theorem dX12_readsPerson_147 : decode cX12_readsPerson 147 = .ok (.invokevirtual 112, 3) := by decide +kernel
theorem dX12_readsPerson_150 : decode cX12_readsPerson 150 = .ok (.ifCond .eq 7, 3) := by decide +kernel
theorem dX12_readsPerson_153 : decode cX12_readsPerson 153 = .ok (.iconst 1, 1) := by decide +kernel
theorem dX12_readsPerson_154 : decode cX12_readsPerson 154 = .ok (.goto 4, 3) := by decide +kernel
theorem dX12_readsPerson_157 : decode cX12_readsPerson 157 = .ok (.iconst 0, 1) := by decide +kernel
theorem dX12_readsPerson_158 : decode cX12_readsPerson 158 = .ok (.ireturn, 1) := by decide +kernel
theorem dX12_readsLetter_0 : decode cX12_readsLetter 0 = .ok (.aload_n 0, 1) := by decide +kernel
theorem dX12_readsLetter_1 : decode cX12_readsLetter 1 = .ok (.getfield 46, 3) := by decide +kernel
theorem dX12_readsLetter_4 : decode cX12_readsLetter 4 = .ok (.iload_n 1, 1) := by decide +kernel
theorem dX12_readsLetter_5 : decode cX12_readsLetter 5 = .ok (.aload_n 0, 1) := by decide +kernel
theorem dX12_readsLetter_6 : decode cX12_readsLetter 6 = .ok (.iconst 1, 1) := by decide +kernel
theorem dX12_readsLetter_7 : decode cX12_readsLetter 7 = .ok (.invokevirtual 109, 3) := by decide +kernel
theorem dX12_readsLetter_10 : decode cX12_readsLetter 10 = .ok (.iastore, 1) := by decide +kernel
theorem dX12_readsLetter_11 : decode cX12_readsLetter 11 = .ok (.aload_n 0, 1) := by decide +kernel
theorem dX12_readsLetter_12 : decode cX12_readsLetter 12 = .ok (.getfield 46, 3) := by decide +kernel
theorem dX12_readsLetter_15 : decode cX12_readsLetter 15 = .ok (.iload_n 1, 1) := by decide +kernel
theorem dX12_readsLetter_16 : decode cX12_readsLetter 16 = .ok (.iaload, 1) := by decide +kernel
theorem dX12_readsLetter_17 : decode cX12_readsLetter 17 = .ok (.ifCond .ge 5, 3) := by decide +kernel
theorem dX12_readsLetter_20 : decode cX12_readsLetter 20 = .ok (.iconst 0, 1) := by decide +kernel
theorem dX12_readsLetter_21 : decode cX12_readsLetter 21 = .ok (.ireturn, 1) := by decide +kernel
theorem dX12_readsLetter_22 : decode cX12_readsLetter 22 = .ok (.aload_n 0, 1) := by decide +kernel
theorem dX12_readsLetter_23 : decode cX12_readsLetter 23 = .ok (.getfield 49, 3) := by decide +kernel
theorem dX12_readsLetter_26 : decode cX12_readsLetter 26 = .ok (.iload_n 1, 1) := by decide +kernel
theorem dX12_readsLetter_27 : decode cX12_readsLetter 27 = .ok (.aload_n 0, 1) := by decide +kernel
theorem dX12_readsLetter_28 : decode cX12_readsLetter 28 = .ok (.iconst 1, 1) := by decide +kernel
theorem dX12_readsLetter_29 : decode cX12_readsLetter 29 = .ok (.invokevirtual 109, 3) := by decide +kernel
theorem dX12_readsLetter_32 : decode cX12_readsLetter 32 = .ok (.iastore, 1) := by decide +kernel
theorem dX12_readsLetter_33 : decode cX12_readsLetter 33 = .ok (.aload_n 0, 1) := by decide +kernel
theorem dX12_readsLetter_34 : decode cX12_readsLetter 34 = .ok (.getfield 49, 3) := by decide +kernel
theorem dX12_readsLetter_37 : decode cX12_readsLetter 37 = .ok (.iload_n 1, 1) := by decide +kernel
theorem dX12_readsLetter_38 : decode cX12_readsLetter 38 = .ok (.iaload, 1) := by decide +kernel
theorem dX12_readsLetter_39 : decode cX12_readsLetter 39 = .ok (.ifCond .ge 5, 3) := by decide +kernel
theorem dX12_readsLetter_42 : decode cX12_readsLetter 42 = .ok (.iconst 0, 1) := by decide +kernel
theorem dX12_readsLetter_43 : decode cX12_readsLetter 43 = .ok (.ireturn, 1) := by decide +kernel
theorem dX12_readsLetter_44 : decode cX12_readsLetter 44 = .ok (.aload_n 0, 1) := by decide +kernel
theorem dX12_readsLetter_45 : decode cX12_readsLetter 45 = .ok (.getfield 52, 3) := by decide +kernel
theorem dX12_readsLetter_48 : decode cX12_readsLetter 48 = .ok (.iload_n 1, 1) := by decide +kernel
theorem dX12_readsLetter_49 : decode cX12_readsLetter 49 = .ok (.aload_n 0, 1) := by decide +kernel
theorem dX12_readsLetter_50 : decode cX12_readsLetter 50 = .ok (.iconst 1, 1) := by decide +kernel
theorem dX12_readsLetter_51 : decode cX12_readsLetter 51 = .ok (.invokevirtual 109, 3) := by decide +kernel
theorem dX12_readsLetter_54 : decode cX12_readsLetter 54 = .ok (.iastore, 1) := by decide +kernel
theorem dX12_readsLetter_55 : decode cX12_readsLetter 55 = .ok (.aload_n 0, 1) := by decide +kernel
theorem dX12_readsLetter_56 : decode cX12_readsLetter 56 = .ok (.getfield 52, 3) := by decide +kernel
theorem dX12_readsLetter_59 : decode cX12_readsLetter 59 = .ok (.iload_n 1, 1) := by decide +kernel
theorem dX12_readsLetter_60 : decode cX12_readsLetter 60 = .ok (.iaload, 1) := by decide +kernel
theorem dX12_readsLetter_61 : decode cX12_readsLetter 61 = .ok (.ifCond .ge 5, 3) := by decide +kernel
theorem dX12_readsLetter_64 : decode cX12_readsLetter 64 = .ok (.iconst 0, 1) := by decide +kernel
theorem dX12_readsLetter_65 : decode cX12_readsLetter 65 = .ok (.ireturn, 1) := by decide +kernel
theorem dX12_readsLetter_66 : decode cX12_readsLetter 66 = .ok (.aload_n 0, 1) := by decide +kernel
theorem dX12_readsLetter_67 : decode cX12_readsLetter 67 = .ok (.getfield 55, 3) := by decide +kernel
theorem dX12_readsLetter_70 : decode cX12_readsLetter 70 = .ok (.iload_n 1, 1) := by decide +kernel
theorem dX12_readsLetter_71 : decode cX12_readsLetter 71 = .ok (.aload_n 0, 1) := by decide +kernel
theorem dX12_readsLetter_72 : decode cX12_readsLetter 72 = .ok (.iconst 1, 1) := by decide +kernel
theorem dX12_readsLetter_73 : decode cX12_readsLetter 73 = .ok (.invokevirtual 109, 3) := by decide +kernel
theorem dX12_readsLetter_76 : decode cX12_readsLetter 76 = .ok (.iastore, 1) := by decide +kernel
theorem dX12_readsLetter_77 : decode cX12_readsLetter 77 = .ok (.aload_n 0, 1) := by decide +kernel
theorem dX12_readsLetter_78 : decode cX12_readsLetter 78 = .ok (.getfield 55, 3) := by decide +kernel
theorem dX12_readsLetter_81 : decode cX12_readsLetter 81 = .ok (.iload_n 1, 1) := by decide +kernel
theorem dX12_readsLetter_82 : decode cX12_readsLetter 82 = .ok (.iaload, 1) := by decide +kernel
theorem dX12_readsLetter_83 : decode cX12_readsLetter 83 = .ok (.ifCond .lt 16, 3) := by decide +kernel
theorem dX12_readsLetter_86 : decode cX12_readsLetter 86 = .ok (.aload_n 0, 1) := by decide +kernel
theorem dX12_readsLetter_87 : decode cX12_readsLetter 87 = .ok (.bipush 59, 2) := by decide +kernel
theorem dX12_readsLetter_89 : decode cX12_readsLetter 89 = .ok (.invokevirtual 112, 3) := by decide +kernel
theorem dX12_readsLetter_92 : decode cX12_readsLetter 92 = .ok (.ifCond .eq 7, 3) := by decide +kernel
theorem dX12_readsLetter_95 : decode cX12_readsLetter 95 = .ok (.iconst 1, 1) := by decide +kernel
theorem dX12_readsLetter_96 : decode cX12_readsLetter 96 = .ok (.goto 4, 3) := by decide +kernel
theorem dX12_readsLetter_99 : decode cX12_readsLetter 99 = .ok (.iconst 0, 1) := by decide +kernel
theorem dX12_readsLetter_100 : decode cX12_readsLetter 100 = .ok (.ireturn, 1) := by decide +kernel
theorem dX12_statement_0 : decode cX12_statement 0 = .ok (.aload_n 0, 1) := by decide +kernel
theorem dX12_statement_1 : decode cX12_statement 1 = .ok (.getfield 116, 3) := by decide +kernel
theorem dX12_statement_4 : decode cX12_statement 4 = .ok (.istore_n 1, 1) := by decide +kernel
theorem dX12_statement_5 : decode cX12_statement 5 = .ok (.aload_n 0, 1) := by decide +kernel
theorem dX12_statement_6 : decode cX12_statement 6 = .ok (.invokevirtual 105, 3) := by decide +kernel
theorem dX12_statement_9 : decode cX12_statement 9 = .ok (.istore_n 2, 1) := by decide +kernel
theorem dX12_statement_10 : decode cX12_statement 10 = .ok (.iload_n 2, 1) := by decide +kernel
theorem dX12_statement_11 : decode cX12_statement 11 = .ok (.bipush 112, 2) := by decide +kernel
theorem dX12_statement_13 : decode cX12_statement 13 = .ok (.if_icmp .eq 17, 3) := by decide +kernel
theorem dX12_statement_16 : decode cX12_statement 16 = .ok (.iload_n 2, 1) := by decide +kernel
theorem dX12_statement_17 : decode cX12_statement 17 = .ok (.bipush 119, 2) := by decide +kernel
theorem dX12_statement_19 : decode cX12_statement 19 = .ok (.if_icmp .eq 11, 3) := by decide +kernel
theorem dX12_statement_22 : decode cX12_statement 22 = .ok (.iload_n 2, 1) := by decide +kernel
theorem dX12_statement_23 : decode cX12_statement 23 = .ok (.bipush 108, 2) := by decide +kernel
theorem dX12_statement_25 : decode cX12_statement 25 = .ok (.if_icmp .eq 5, 3) := by decide +kernel
theorem dX12_statement_28 : decode cX12_statement 28 = .ok (.iconst 0, 1) := by decide +kernel
theorem dX12_statement_29 : decode cX12_statement 29 = .ok (.ireturn, 1) := by decide +kernel
theorem dX12_statement_30 : decode cX12_statement 30 = .ok (.aload_n 0, 1) := by decide +kernel
theorem dX12_statement_31 : decode cX12_statement 31 = .ok (.getfield 40, 3) := by decide +kernel
theorem dX12_statement_34 : decode cX12_statement 34 = .ok (.iload_n 1, 1) := by decide +kernel
theorem dX12_statement_35 : decode cX12_statement 35 = .ok (.iload_n 2, 1) := by decide +kernel
theorem dX12_statement_36 : decode cX12_statement 36 = .ok (.iastore, 1) := by decide +kernel
theorem dX12_statement_37 : decode cX12_statement 37 = .ok (.aload_n 0, 1) := by decide +kernel
theorem dX12_statement_38 : decode cX12_statement 38 = .ok (.getfield 43, 3) := by decide +kernel
theorem dX12_statement_41 : decode cX12_statement 41 = .ok (.iload_n 1, 1) := by decide +kernel
theorem dX12_statement_42 : decode cX12_statement 42 = .ok (.aload_n 0, 1) := by decide +kernel
theorem dX12_statement_43 : decode cX12_statement 43 = .ok (.getfield 102, 3) := by decide +kernel
theorem dX12_statement_46 : decode cX12_statement 46 = .ok (.iastore, 1) := by decide +kernel
theorem dX12_statement_47 : decode cX12_statement 47 = .ok (.aload_n 0, 1) := by decide +kernel
theorem dX12_statement_48 : decode cX12_statement 48 = .ok (.dup, 1) := by decide +kernel
theorem dX12_statement_49 : decode cX12_statement 49 = .ok (.getfield 102, 3) := by decide +kernel
theorem dX12_statement_52 : decode cX12_statement 52 = .ok (.iconst 1, 1) := by decide +kernel
theorem dX12_statement_53 : decode cX12_statement 53 = .ok (.iadd, 1) := by decide +kernel
theorem dX12_statement_54 : decode cX12_statement 54 = .ok (.putfield 102, 3) := by decide +kernel
theorem dX12_statement_57 : decode cX12_statement 57 = .ok (.iload_n 2, 1) := by decide +kernel
theorem dX12_statement_58 : decode cX12_statement 58 = .ok (.bipush 112, 2) := by decide +kernel
theorem dX12_statement_60 : decode cX12_statement 60 = .ok (.if_icmp .ne 9, 3) := by decide +kernel
theorem dX12_statement_63 : decode cX12_statement 63 = .ok (.aload_n 0, 1) := by decide +kernel
theorem dX12_statement_64 : decode cX12_statement 64 = .ok (.iload_n 1, 1) := by decide +kernel
theorem dX12_statement_65 : decode cX12_statement 65 = .ok (.invokevirtual 119, 3) := by decide +kernel
theorem dX12_statement_68 : decode cX12_statement 68 = .ok (.ireturn, 1) := by decide +kernel
theorem dX12_statement_69 : decode cX12_statement 69 = .ok (.iload_n 2, 1) := by decide +kernel
theorem dX12_statement_70 : decode cX12_statement 70 = .ok (.bipush 108, 2) := by decide +kernel
theorem dX12_statement_72 : decode cX12_statement 72 = .ok (.if_icmp .ne 9, 3) := by decide +kernel
theorem dX12_statement_75 : decode cX12_statement 75 = .ok (.aload_n 0, 1) := by decide +kernel
theorem dX12_statement_76 : decode cX12_statement 76 = .ok (.iload_n 1, 1) := by decide +kernel
theorem dX12_statement_77 : decode cX12_statement 77 = .ok (.invokevirtual 122, 3) := by decide +kernel
theorem dX12_statement_80 : decode cX12_statement 80 = .ok (.ireturn, 1) := by decide +kernel
theorem dX12_statement_81 : decode cX12_statement 81 = .ok (.aload_n 0, 1) := by decide +kernel
theorem dX12_statement_82 : decode cX12_statement 82 = .ok (.getfield 46, 3) := by decide +kernel
theorem dX12_statement_85 : decode cX12_statement 85 = .ok (.iload_n 1, 1) := by decide +kernel
theorem dX12_statement_86 : decode cX12_statement 86 = .ok (.aload_n 0, 1) := by decide +kernel
theorem dX12_statement_87 : decode cX12_statement 87 = .ok (.invokevirtual 105, 3) := by decide +kernel
theorem dX12_statement_90 : decode cX12_statement 90 = .ok (.invokestatic 125, 3) := by decide +kernel
theorem dX12_statement_93 : decode cX12_statement 93 = .ok (.iastore, 1) := by decide +kernel
theorem dX12_statement_94 : decode cX12_statement 94 = .ok (.aload_n 0, 1) := by decide +kernel
theorem dX12_statement_95 : decode cX12_statement 95 = .ok (.getfield 46, 3) := by decide +kernel
theorem dX12_statement_98 : decode cX12_statement 98 = .ok (.iload_n 1, 1) := by decide +kernel
theorem dX12_statement_99 : decode cX12_statement 99 = .ok (.iaload, 1) := by decide +kernel
theorem dX12_statement_100 : decode cX12_statement 100 = .ok (.ifCond .ge 5, 3) := by decide +kernel
theorem dX12_statement_103 : decode cX12_statement 103 = .ok (.iconst 0, 1) := by decide +kernel
theorem dX12_statement_104 : decode cX12_statement 104 = .ok (.ireturn, 1) := by decide +kernel
theorem dX12_statement_105 : decode cX12_statement 105 = .ok (.aload_n 0, 1) := by decide +kernel
theorem dX12_statement_106 : decode cX12_statement 106 = .ok (.dup, 1) := by decide +kernel
theorem dX12_statement_107 : decode cX12_statement 107 = .ok (.getfield 102, 3) := by decide +kernel
theorem dX12_statement_110 : decode cX12_statement 110 = .ok (.iconst 1, 1) := by decide +kernel
theorem dX12_statement_111 : decode cX12_statement 111 = .ok (.iadd, 1) := by decide +kernel
theorem dX12_statement_112 : decode cX12_statement 112 = .ok (.putfield 102, 3) := by decide +kernel
theorem dX12_statement_115 : decode cX12_statement 115 = .ok (.aload_n 0, 1) := by decide +kernel
theorem dX12_statement_116 : decode cX12_statement 116 = .ok (.getfield 49, 3) := by decide +kernel
theorem dX12_statement_119 : decode cX12_statement 119 = .ok (.iload_n 1, 1) := by decide +kernel
theorem dX12_statement_120 : decode cX12_statement 120 = .ok (.aload_n 0, 1) := by decide +kernel
theorem dX12_statement_121 : decode cX12_statement 121 = .ok (.iconst 1, 1) := by decide +kernel
theorem dX12_statement_122 : decode cX12_statement 122 = .ok (.invokevirtual 109, 3) := by decide +kernel
theorem dX12_statement_125 : decode cX12_statement 125 = .ok (.iastore, 1) := by decide +kernel
theorem dX12_statement_126 : decode cX12_statement 126 = .ok (.aload_n 0, 1) := by decide +kernel
theorem dX12_statement_127 : decode cX12_statement 127 = .ok (.getfield 49, 3) := by decide +kernel
theorem dX12_statement_130 : decode cX12_statement 130 = .ok (.iload_n 1, 1) := by decide +kernel
theorem dX12_statement_131 : decode cX12_statement 131 = .ok (.iaload, 1) := by decide +kernel
theorem dX12_statement_132 : decode cX12_statement 132 = .ok (.ifCond .lt 16, 3) := by decide +kernel
theorem dX12_statement_135 : decode cX12_statement 135 = .ok (.aload_n 0, 1) := by decide +kernel
theorem dX12_statement_136 : decode cX12_statement 136 = .ok (.bipush 59, 2) := by decide +kernel
theorem dX12_statement_138 : decode cX12_statement 138 = .ok (.invokevirtual 112, 3) := by decide +kernel
theorem dX12_statement_141 : decode cX12_statement 141 = .ok (.ifCond .eq 7, 3) := by decide +kernel
theorem dX12_statement_144 : decode cX12_statement 144 = .ok (.iconst 1, 1) := by decide +kernel
theorem dX12_statement_145 : decode cX12_statement 145 = .ok (.goto 4, 3) := by decide +kernel
theorem dX12_statement_148 : decode cX12_statement 148 = .ok (.iconst 0, 1) := by decide +kernel
theorem dX12_statement_149 : decode cX12_statement 149 = .ok (.ireturn, 1) := by decide +kernel
theorem dX12_comes_0 : decode cX12_comes 0 = .ok (.aload_n 0, 1) := by decide +kernel
theorem dX12_comes_1 : decode cX12_comes 1 = .ok (.getfield 40, 3) := by decide +kernel
theorem dX12_comes_4 : decode cX12_comes 4 = .ok (.iload_n 1, 1) := by decide +kernel
theorem dX12_comes_5 : decode cX12_comes 5 = .ok (.iaload, 1) := by decide +kernel
theorem dX12_comes_6 : decode cX12_comes 6 = .ok (.lookupswitch 257 #[(112, 26), (119, 182)], 26) := by decide +kernel
theorem dX12_comes_32 : decode cX12_comes 32 = .ok (.aload_n 0, 1) := by decide +kernel
theorem dX12_comes_33 : decode cX12_comes 33 = .ok (.getfield 46, 3) := by decide +kernel
theorem dX12_comes_36 : decode cX12_comes 36 = .ok (.iload_n 1, 1) := by decide +kernel
theorem dX12_comes_37 : decode cX12_comes 37 = .ok (.iaload, 1) := by decide +kernel
theorem dX12_comes_38 : decode cX12_comes 38 = .ok (.bipush 30, 2) := by decide +kernel
theorem dX12_comes_40 : decode cX12_comes 40 = .ok (.if_icmp .gt 45, 3) := by decide +kernel
theorem dX12_comes_43 : decode cX12_comes 43 = .ok (.aload_n 0, 1) := by decide +kernel
theorem dX12_comes_44 : decode cX12_comes 44 = .ok (.getfield 49, 3) := by decide +kernel
theorem dX12_comes_47 : decode cX12_comes 47 = .ok (.iload_n 1, 1) := by decide +kernel
theorem dX12_comes_48 : decode cX12_comes 48 = .ok (.iaload, 1) := by decide +kernel
theorem dX12_comes_49 : decode cX12_comes 49 = .ok (.bipush 30, 2) := by decide +kernel
theorem dX12_comes_51 : decode cX12_comes 51 = .ok (.if_icmp .gt 34, 3) := by decide +kernel
theorem dX12_comes_54 : decode cX12_comes 54 = .ok (.aload_n 0, 1) := by decide +kernel
theorem dX12_comes_55 : decode cX12_comes 55 = .ok (.getfield 52, 3) := by decide +kernel
theorem dX12_comes_58 : decode cX12_comes 58 = .ok (.iload_n 1, 1) := by decide +kernel
theorem dX12_comes_59 : decode cX12_comes 59 = .ok (.iaload, 1) := by decide +kernel
theorem dX12_comes_60 : decode cX12_comes 60 = .ok (.bipush 30, 2) := by decide +kernel
theorem dX12_comes_62 : decode cX12_comes 62 = .ok (.if_icmp .gt 23, 3) := by decide +kernel
theorem dX12_comes_65 : decode cX12_comes 65 = .ok (.aload_n 0, 1) := by decide +kernel
theorem dX12_comes_66 : decode cX12_comes 66 = .ok (.getfield 55, 3) := by decide +kernel
theorem dX12_comes_69 : decode cX12_comes 69 = .ok (.iload_n 1, 1) := by decide +kernel
theorem dX12_comes_70 : decode cX12_comes 70 = .ok (.iaload, 1) := by decide +kernel
theorem dX12_comes_71 : decode cX12_comes 71 = .ok (.bipush 30, 2) := by decide +kernel
theorem dX12_comes_73 : decode cX12_comes 73 = .ok (.if_icmp .gt 12, 3) := by decide +kernel
theorem dX12_comes_76 : decode cX12_comes 76 = .ok (.aload_n 0, 1) := by decide +kernel
theorem dX12_comes_77 : decode cX12_comes 77 = .ok (.getfield 76, 3) := by decide +kernel
theorem dX12_comes_80 : decode cX12_comes 80 = .ok (.bipush 6, 2) := by decide +kernel
theorem dX12_comes_82 : decode cX12_comes 82 = .ok (.if_icmp .ne 5, 3) := by decide +kernel
theorem dX12_comes_85 : decode cX12_comes 85 = .ok (.iconst 0, 1) := by decide +kernel
theorem dX12_comes_86 : decode cX12_comes 86 = .ok (.ireturn, 1) := by decide +kernel
theorem dX12_comes_87 : decode cX12_comes 87 = .ok (.aload_n 0, 1) := by decide +kernel
theorem dX12_comes_88 : decode cX12_comes 88 = .ok (.getfield 13, 3) := by decide +kernel
theorem dX12_comes_91 : decode cX12_comes 91 = .ok (.iconst 4, 1) := by decide +kernel
theorem dX12_comes_92 : decode cX12_comes 92 = .ok (.aload_n 0, 1) := by decide +kernel
theorem dX12_comes_93 : decode cX12_comes 93 = .ok (.getfield 76, 3) := by decide +kernel
theorem dX12_comes_96 : decode cX12_comes 96 = .ok (.imul, 1) := by decide +kernel
theorem dX12_comes_97 : decode cX12_comes 97 = .ok (.aload_n 0, 1) := by decide +kernel
theorem dX12_comes_98 : decode cX12_comes 98 = .ok (.getfield 46, 3) := by decide +kernel
theorem dX12_comes_101 : decode cX12_comes 101 = .ok (.iload_n 1, 1) := by decide +kernel
theorem dX12_comes_102 : decode cX12_comes 102 = .ok (.iaload, 1) := by decide +kernel
theorem dX12_comes_103 : decode cX12_comes 103 = .ok (.iastore, 1) := by decide +kernel
theorem dX12_comes_104 : decode cX12_comes 104 = .ok (.aload_n 0, 1) := by decide +kernel
theorem dX12_comes_105 : decode cX12_comes 105 = .ok (.getfield 13, 3) := by decide +kernel
theorem dX12_comes_108 : decode cX12_comes 108 = .ok (.iconst 4, 1) := by decide +kernel
theorem dX12_comes_109 : decode cX12_comes 109 = .ok (.aload_n 0, 1) := by decide +kernel
theorem dX12_comes_110 : decode cX12_comes 110 = .ok (.getfield 76, 3) := by decide +kernel
theorem dX12_comes_113 : decode cX12_comes 113 = .ok (.imul, 1) := by decide +kernel
theorem dX12_comes_114 : decode cX12_comes 114 = .ok (.iconst 1, 1) := by decide +kernel
theorem dX12_comes_115 : decode cX12_comes 115 = .ok (.iadd, 1) := by decide +kernel
theorem dX12_comes_116 : decode cX12_comes 116 = .ok (.aload_n 0, 1) := by decide +kernel
theorem dX12_comes_117 : decode cX12_comes 117 = .ok (.getfield 49, 3) := by decide +kernel
theorem dX12_comes_120 : decode cX12_comes 120 = .ok (.iload_n 1, 1) := by decide +kernel
theorem dX12_comes_121 : decode cX12_comes 121 = .ok (.iaload, 1) := by decide +kernel
theorem dX12_comes_122 : decode cX12_comes 122 = .ok (.iastore, 1) := by decide +kernel
theorem dX12_comes_123 : decode cX12_comes 123 = .ok (.aload_n 0, 1) := by decide +kernel
theorem dX12_comes_124 : decode cX12_comes 124 = .ok (.getfield 13, 3) := by decide +kernel
theorem dX12_comes_127 : decode cX12_comes 127 = .ok (.iconst 4, 1) := by decide +kernel
theorem dX12_comes_128 : decode cX12_comes 128 = .ok (.aload_n 0, 1) := by decide +kernel
theorem dX12_comes_129 : decode cX12_comes 129 = .ok (.getfield 76, 3) := by decide +kernel
theorem dX12_comes_132 : decode cX12_comes 132 = .ok (.imul, 1) := by decide +kernel
theorem dX12_comes_133 : decode cX12_comes 133 = .ok (.iconst 2, 1) := by decide +kernel
theorem dX12_comes_134 : decode cX12_comes 134 = .ok (.iadd, 1) := by decide +kernel
theorem dX12_comes_135 : decode cX12_comes 135 = .ok (.aload_n 0, 1) := by decide +kernel
theorem dX12_comes_136 : decode cX12_comes 136 = .ok (.getfield 52, 3) := by decide +kernel
theorem dX12_comes_139 : decode cX12_comes 139 = .ok (.iload_n 1, 1) := by decide +kernel
theorem dX12_comes_140 : decode cX12_comes 140 = .ok (.iaload, 1) := by decide +kernel
theorem dX12_comes_141 : decode cX12_comes 141 = .ok (.iastore, 1) := by decide +kernel
theorem dX12_comes_142 : decode cX12_comes 142 = .ok (.aload_n 0, 1) := by decide +kernel
theorem dX12_comes_143 : decode cX12_comes 143 = .ok (.getfield 13, 3) := by decide +kernel
theorem dX12_comes_146 : decode cX12_comes 146 = .ok (.iconst 4, 1) := by decide +kernel
theorem dX12_comes_147 : decode cX12_comes 147 = .ok (.aload_n 0, 1) := by decide +kernel
theorem dX12_comes_148 : decode cX12_comes 148 = .ok (.getfield 76, 3) := by decide +kernel
theorem dX12_comes_151 : decode cX12_comes 151 = .ok (.imul, 1) := by decide +kernel
theorem dX12_comes_152 : decode cX12_comes 152 = .ok (.iconst 3, 1) := by decide +kernel
theorem dX12_comes_153 : decode cX12_comes 153 = .ok (.iadd, 1) := by decide +kernel
theorem dX12_comes_154 : decode cX12_comes 154 = .ok (.aload_n 0, 1) := by decide +kernel
theorem dX12_comes_155 : decode cX12_comes 155 = .ok (.getfield 55, 3) := by decide +kernel
theorem dX12_comes_158 : decode cX12_comes 158 = .ok (.iload_n 1, 1) := by decide +kernel
theorem dX12_comes_159 : decode cX12_comes 159 = .ok (.iaload, 1) := by decide +kernel
theorem dX12_comes_160 : decode cX12_comes 160 = .ok (.iastore, 1) := by decide +kernel
theorem dX12_comes_161 : decode cX12_comes 161 = .ok (.aload_n 0, 1) := by decide +kernel
theorem dX12_comes_162 : decode cX12_comes 162 = .ok (.getfield 16, 3) := by decide +kernel
theorem dX12_comes_165 : decode cX12_comes 165 = .ok (.aload_n 0, 1) := by decide +kernel
theorem dX12_comes_166 : decode cX12_comes 166 = .ok (.getfield 76, 3) := by decide +kernel
theorem dX12_comes_169 : decode cX12_comes 169 = .ok (.aload_n 0, 1) := by decide +kernel
theorem dX12_comes_170 : decode cX12_comes 170 = .ok (.getfield 58, 3) := by decide +kernel
theorem dX12_comes_173 : decode cX12_comes 173 = .ok (.iload_n 1, 1) := by decide +kernel
theorem dX12_comes_174 : decode cX12_comes 174 = .ok (.iaload, 1) := by decide +kernel
theorem dX12_comes_175 : decode cX12_comes 175 = .ok (.iastore, 1) := by decide +kernel
theorem dX12_comes_176 : decode cX12_comes 176 = .ok (.aload_n 0, 1) := by decide +kernel
theorem dX12_comes_177 : decode cX12_comes 177 = .ok (.dup, 1) := by decide +kernel
theorem dX12_comes_178 : decode cX12_comes 178 = .ok (.getfield 76, 3) := by decide +kernel
theorem dX12_comes_181 : decode cX12_comes 181 = .ok (.iconst 1, 1) := by decide +kernel
theorem dX12_comes_182 : decode cX12_comes 182 = .ok (.iadd, 1) := by decide +kernel
theorem dX12_comes_183 : decode cX12_comes 183 = .ok (.putfield 76, 3) := by decide +kernel
theorem dX12_comes_186 : decode cX12_comes 186 = .ok (.iconst 1, 1) := by decide +kernel
theorem dX12_comes_187 : decode cX12_comes 187 = .ok (.ireturn, 1) := by decide +kernel
theorem dX12_comes_188 : decode cX12_comes 188 = .ok (.aload_n 0, 1) := by decide +kernel
theorem dX12_comes_189 : decode cX12_comes 189 = .ok (.aload_n 0, 1) := by decide +kernel
theorem dX12_comes_190 : decode cX12_comes 190 = .ok (.getfield 49, 3) := by decide +kernel
theorem dX12_comes_193 : decode cX12_comes 193 = .ok (.iload_n 1, 1) := by decide +kernel
theorem dX12_comes_194 : decode cX12_comes 194 = .ok (.iaload, 1) := by decide +kernel
theorem dX12_comes_195 : decode cX12_comes 195 = .ok (.invokevirtual 128, 3) := by decide +kernel
theorem dX12_comes_198 : decode cX12_comes 198 = .ok (.ifCond .eq 11, 3) := by decide +kernel
theorem dX12_comes_201 : decode cX12_comes 201 = .ok (.aload_n 0, 1) := by decide +kernel
theorem dX12_comes_202 : decode cX12_comes 202 = .ok (.getfield 80, 3) := by decide +kernel
theorem dX12_comes_205 : decode cX12_comes 205 = .ok (.iconst 4, 1) := by decide +kernel
theorem dX12_comes_206 : decode cX12_comes 206 = .ok (.if_icmp .ne 5, 3) := by decide +kernel
theorem dX12_comes_209 : decode cX12_comes 209 = .ok (.iconst 0, 1) := by decide +kernel
theorem dX12_comes_210 : decode cX12_comes 210 = .ok (.ireturn, 1) := by decide +kernel
theorem dX12_comes_211 : decode cX12_comes 211 = .ok (.aload_n 0, 1) := by decide +kernel
theorem dX12_comes_212 : decode cX12_comes 212 = .ok (.getfield 19, 3) := by decide +kernel
theorem dX12_comes_215 : decode cX12_comes 215 = .ok (.aload_n 0, 1) := by decide +kernel
theorem dX12_comes_216 : decode cX12_comes 216 = .ok (.getfield 80, 3) := by decide +kernel
theorem dX12_comes_219 : decode cX12_comes 219 = .ok (.aload_n 0, 1) := by decide +kernel
theorem dX12_comes_220 : decode cX12_comes 220 = .ok (.getfield 46, 3) := by decide +kernel
theorem dX12_comes_223 : decode cX12_comes 223 = .ok (.iload_n 1, 1) := by decide +kernel
theorem dX12_comes_224 : decode cX12_comes 224 = .ok (.iaload, 1) := by decide +kernel
theorem dX12_comes_225 : decode cX12_comes 225 = .ok (.iastore, 1) := by decide +kernel
theorem dX12_comes_226 : decode cX12_comes 226 = .ok (.aload_n 0, 1) := by decide +kernel
theorem dX12_comes_227 : decode cX12_comes 227 = .ok (.getfield 22, 3) := by decide +kernel
theorem dX12_comes_230 : decode cX12_comes 230 = .ok (.aload_n 0, 1) := by decide +kernel
theorem dX12_comes_231 : decode cX12_comes 231 = .ok (.getfield 80, 3) := by decide +kernel
theorem dX12_comes_234 : decode cX12_comes 234 = .ok (.aload_n 0, 1) := by decide +kernel
theorem dX12_comes_235 : decode cX12_comes 235 = .ok (.getfield 49, 3) := by decide +kernel
theorem dX12_comes_238 : decode cX12_comes 238 = .ok (.iload_n 1, 1) := by decide +kernel
theorem dX12_comes_239 : decode cX12_comes 239 = .ok (.iaload, 1) := by decide +kernel
theorem dX12_comes_240 : decode cX12_comes 240 = .ok (.iastore, 1) := by decide +kernel
theorem dX12_comes_241 : decode cX12_comes 241 = .ok (.aload_n 0, 1) := by decide +kernel
theorem dX12_comes_242 : decode cX12_comes 242 = .ok (.getfield 25, 3) := by decide +kernel
theorem dX12_comes_245 : decode cX12_comes 245 = .ok (.aload_n 0, 1) := by decide +kernel
theorem dX12_comes_246 : decode cX12_comes 246 = .ok (.getfield 80, 3) := by decide +kernel
theorem dX12_comes_249 : decode cX12_comes 249 = .ok (.iconst 0, 1) := by decide +kernel
theorem dX12_comes_250 : decode cX12_comes 250 = .ok (.iastore, 1) := by decide +kernel
theorem dX12_comes_251 : decode cX12_comes 251 = .ok (.aload_n 0, 1) := by decide +kernel
theorem dX12_comes_252 : decode cX12_comes 252 = .ok (.dup, 1) := by decide +kernel
theorem dX12_comes_253 : decode cX12_comes 253 = .ok (.getfield 80, 3) := by decide +kernel
theorem dX12_comes_256 : decode cX12_comes 256 = .ok (.iconst 1, 1) := by decide +kernel
theorem dX12_comes_257 : decode cX12_comes 257 = .ok (.iadd, 1) := by decide +kernel
theorem dX12_comes_258 : decode cX12_comes 258 = .ok (.putfield 80, 3) := by decide +kernel
theorem dX12_comes_261 : decode cX12_comes 261 = .ok (.iconst 1, 1) := by decide +kernel
theorem dX12_comes_262 : decode cX12_comes 262 = .ok (.ireturn, 1) := by decide +kernel
theorem dX12_comes_263 : decode cX12_comes 263 = .ok (.aload_n 0, 1) := by decide +kernel
theorem dX12_comes_264 : decode cX12_comes 264 = .ok (.getfield 80, 3) := by decide +kernel
theorem dX12_comes_267 : decode cX12_comes 267 = .ok (.ifCond .eq 43, 3) := by decide +kernel
theorem dX12_comes_270 : decode cX12_comes 270 = .ok (.aload_n 0, 1) := by decide +kernel
theorem dX12_comes_271 : decode cX12_comes 271 = .ok (.getfield 46, 3) := by decide +kernel
theorem dX12_comes_274 : decode cX12_comes 274 = .ok (.iload_n 1, 1) := by decide +kernel
theorem dX12_comes_275 : decode cX12_comes 275 = .ok (.iaload, 1) := by decide +kernel
theorem dX12_comes_276 : decode cX12_comes 276 = .ok (.iconst 5, 1) := by decide +kernel
theorem dX12_comes_277 : decode cX12_comes 277 = .ok (.if_icmp .gt 33, 3) := by decide +kernel
theorem dX12_comes_280 : decode cX12_comes 280 = .ok (.aload_n 0, 1) := by decide +kernel
theorem dX12_comes_281 : decode cX12_comes 281 = .ok (.getfield 49, 3) := by decide +kernel
theorem dX12_comes_284 : decode cX12_comes 284 = .ok (.iload_n 1, 1) := by decide +kernel
theorem dX12_comes_285 : decode cX12_comes 285 = .ok (.iaload, 1) := by decide +kernel
theorem dX12_comes_286 : decode cX12_comes 286 = .ok (.iconst 5, 1) := by decide +kernel
theorem dX12_comes_287 : decode cX12_comes 287 = .ok (.if_icmp .gt 23, 3) := by decide +kernel
theorem dX12_comes_290 : decode cX12_comes 290 = .ok (.aload_n 0, 1) := by decide +kernel
theorem dX12_comes_291 : decode cX12_comes 291 = .ok (.getfield 52, 3) := by decide +kernel
theorem dX12_comes_294 : decode cX12_comes 294 = .ok (.iload_n 1, 1) := by decide +kernel
theorem dX12_comes_295 : decode cX12_comes 295 = .ok (.iaload, 1) := by decide +kernel
theorem dX12_comes_296 : decode cX12_comes 296 = .ok (.iconst 5, 1) := by decide +kernel
theorem dX12_comes_297 : decode cX12_comes 297 = .ok (.if_icmp .gt 13, 3) := by decide +kernel
theorem dX12_comes_300 : decode cX12_comes 300 = .ok (.aload_n 0, 1) := by decide +kernel
theorem dX12_comes_301 : decode cX12_comes 301 = .ok (.getfield 55, 3) := by decide +kernel
theorem dX12_comes_304 : decode cX12_comes 304 = .ok (.iload_n 1, 1) := by decide +kernel
theorem dX12_comes_305 : decode cX12_comes 305 = .ok (.iaload, 1) := by decide +kernel
theorem dX12_comes_306 : decode cX12_comes 306 = .ok (.iconst 5, 1) := by decide +kernel
theorem dX12_comes_307 : decode cX12_comes 307 = .ok (.if_icmp .le 5, 3) := by decide +kernel
theorem dX12_comes_310 : decode cX12_comes 310 = .ok (.iconst 0, 1) := by decide +kernel
theorem dX12_comes_311 : decode cX12_comes 311 = .ok (.ireturn, 1) := by decide +kernel
theorem dX12_comes_312 : decode cX12_comes 312 = .ok (.aload_n 0, 1) := by decide +kernel
theorem dX12_comes_313 : decode cX12_comes 313 = .ok (.getfield 25, 3) := by decide +kernel
theorem dX12_comes_316 : decode cX12_comes 316 = .ok (.aload_n 0, 1) := by decide +kernel
theorem dX12_comes_317 : decode cX12_comes 317 = .ok (.getfield 80, 3) := by decide +kernel
theorem dX12_comes_320 : decode cX12_comes 320 = .ok (.iconst 1, 1) := by decide +kernel
theorem dX12_comes_321 : decode cX12_comes 321 = .ok (.isub, 1) := by decide +kernel
theorem dX12_comes_322 : decode cX12_comes 322 = .ok (.aload_n 0, 1) := by decide +kernel
theorem dX12_comes_323 : decode cX12_comes 323 = .ok (.getfield 46, 3) := by decide +kernel
theorem dX12_comes_326 : decode cX12_comes 326 = .ok (.iload_n 1, 1) := by decide +kernel
theorem dX12_comes_327 : decode cX12_comes 327 = .ok (.iaload, 1) := by decide +kernel
theorem dX12_comes_328 : decode cX12_comes 328 = .ok (.bipush 10, 2) := by decide +kernel
theorem dX12_comes_330 : decode cX12_comes 330 = .ok (.aload_n 0, 1) := by decide +kernel
theorem dX12_comes_331 : decode cX12_comes 331 = .ok (.getfield 49, 3) := by decide +kernel
theorem dX12_comes_334 : decode cX12_comes 334 = .ok (.iload_n 1, 1) := by decide +kernel
theorem dX12_comes_335 : decode cX12_comes 335 = .ok (.iaload, 1) := by decide +kernel
theorem dX12_comes_336 : decode cX12_comes 336 = .ok (.imul, 1) := by decide +kernel
theorem dX12_comes_337 : decode cX12_comes 337 = .ok (.iadd, 1) := by decide +kernel
theorem dX12_comes_338 : decode cX12_comes 338 = .ok (.bipush 100, 2) := by decide +kernel
theorem dX12_comes_340 : decode cX12_comes 340 = .ok (.aload_n 0, 1) := by decide +kernel
theorem dX12_comes_341 : decode cX12_comes 341 = .ok (.getfield 52, 3) := by decide +kernel
theorem dX12_comes_344 : decode cX12_comes 344 = .ok (.iload_n 1, 1) := by decide +kernel
theorem dX12_comes_345 : decode cX12_comes 345 = .ok (.iaload, 1) := by decide +kernel
theorem dX12_comes_346 : decode cX12_comes 346 = .ok (.imul, 1) := by decide +kernel
theorem dX12_comes_347 : decode cX12_comes 347 = .ok (.iadd, 1) := by decide +kernel
theorem dX12_comes_348 : decode cX12_comes 348 = .ok (.sipush 1000, 3) := by decide +kernel
theorem dX12_comes_351 : decode cX12_comes 351 = .ok (.aload_n 0, 1) := by decide +kernel
theorem dX12_comes_352 : decode cX12_comes 352 = .ok (.getfield 55, 3) := by decide +kernel
theorem dX12_comes_355 : decode cX12_comes 355 = .ok (.iload_n 1, 1) := by decide +kernel
theorem dX12_comes_356 : decode cX12_comes 356 = .ok (.iaload, 1) := by decide +kernel
theorem dX12_comes_357 : decode cX12_comes 357 = .ok (.imul, 1) := by decide +kernel
theorem dX12_comes_358 : decode cX12_comes 358 = .ok (.iadd, 1) := by decide +kernel
theorem dX12_comes_359 : decode cX12_comes 359 = .ok (.iastore, 1) := by decide +kernel
theorem dX12_comes_360 : decode cX12_comes 360 = .ok (.iconst 1, 1) := by decide +kernel
theorem dX12_comes_361 : decode cX12_comes 361 = .ok (.ireturn, 1) := by decide +kernel
theorem dX12_parish_0 : decode cX12_parish 0 = .ok (.aload_n 0, 1) := by decide +kernel
theorem dX12_parish_1 : decode cX12_parish 1 = .ok (.iconst 0, 1) := by decide +kernel
theorem dX12_parish_2 : decode cX12_parish 2 = .ok (.putfield 102, 3) := by decide +kernel
theorem dX12_parish_5 : decode cX12_parish 5 = .ok (.aload_n 0, 1) := by decide +kernel
theorem dX12_parish_6 : decode cX12_parish 6 = .ok (.iconst 0, 1) := by decide +kernel
theorem dX12_parish_7 : decode cX12_parish 7 = .ok (.putfield 116, 3) := by decide +kernel
theorem dX12_parish_10 : decode cX12_parish 10 = .ok (.iconst 1, 1) := by decide +kernel
theorem dX12_parish_11 : decode cX12_parish 11 = .ok (.istore_n 1, 1) := by decide +kernel
theorem dX12_parish_12 : decode cX12_parish 12 = .ok (.iload_n 1, 1) := by decide +kernel
theorem dX12_parish_13 : decode cX12_parish 13 = .ok (.ifCond .eq 47, 3) := by decide +kernel
theorem dX12_parish_16 : decode cX12_parish 16 = .ok (.aload_n 0, 1) := by decide +kernel
theorem dX12_parish_17 : decode cX12_parish 17 = .ok (.getfield 102, 3) := by decide +kernel
theorem dX12_parish_20 : decode cX12_parish 20 = .ok (.aload_n 0, 1) := by decide +kernel
theorem dX12_parish_21 : decode cX12_parish 21 = .ok (.getfield 95, 3) := by decide +kernel
theorem dX12_parish_24 : decode cX12_parish 24 = .ok (.if_icmp .lt 10, 3) := by decide +kernel
theorem dX12_parish_27 : decode cX12_parish 27 = .ok (.aload_n 0, 1) := by decide +kernel
theorem dX12_parish_28 : decode cX12_parish 28 = .ok (.getfield 116, 3) := by decide +kernel
theorem dX12_parish_31 : decode cX12_parish 31 = .ok (.ifCond .ne 29, 3) := by decide +kernel
theorem dX12_parish_34 : decode cX12_parish 34 = .ok (.aload_n 0, 1) := by decide +kernel
theorem dX12_parish_35 : decode cX12_parish 35 = .ok (.invokevirtual 131, 3) := by decide +kernel
theorem dX12_parish_38 : decode cX12_parish 38 = .ok (.istore_n 1, 1) := by decide +kernel
theorem dX12_parish_39 : decode cX12_parish 39 = .ok (.aload_n 0, 1) := by decide +kernel
theorem dX12_parish_40 : decode cX12_parish 40 = .ok (.dup, 1) := by decide +kernel
theorem dX12_parish_41 : decode cX12_parish 41 = .ok (.getfield 116, 3) := by decide +kernel
theorem dX12_parish_44 : decode cX12_parish 44 = .ok (.iload_n 1, 1) := by decide +kernel
theorem dX12_parish_45 : decode cX12_parish 45 = .ok (.ifCond .eq 7, 3) := by decide +kernel
theorem dX12_parish_48 : decode cX12_parish 48 = .ok (.iconst 1, 1) := by decide +kernel
theorem dX12_parish_49 : decode cX12_parish 49 = .ok (.goto 4, 3) := by decide +kernel
theorem dX12_parish_52 : decode cX12_parish 52 = .ok (.iconst 0, 1) := by decide +kernel
theorem dX12_parish_53 : decode cX12_parish 53 = .ok (.iadd, 1) := by decide +kernel
theorem dX12_parish_54 : decode cX12_parish 54 = .ok (.putfield 116, 3) := by decide +kernel
theorem dX12_parish_57 : decode cX12_parish 57 = .ok (.goto (-45), 3) := by decide +kernel
theorem dX12_parish_60 : decode cX12_parish 60 = .ok (.aload_n 0, 1) := by decide +kernel
theorem dX12_parish_61 : decode cX12_parish 61 = .ok (.iconst 0, 1) := by decide +kernel
theorem dX12_parish_62 : decode cX12_parish 62 = .ok (.putfield 95, 3) := by decide +kernel
theorem dX12_parish_65 : decode cX12_parish 65 = .ok (.iload_n 1, 1) := by decide +kernel
theorem dX12_parish_66 : decode cX12_parish 66 = .ok (.ifCond .ne 12, 3) := by decide +kernel
theorem dX12_parish_69 : decode cX12_parish 69 = .ok (.sipush (-1000), 3) := by decide +kernel
theorem dX12_parish_72 : decode cX12_parish 72 = .ok (.aload_n 0, 1) := by decide +kernel
theorem dX12_parish_73 : decode cX12_parish 73 = .ok (.getfield 102, 3) := by decide +kernel
theorem dX12_parish_76 : decode cX12_parish 76 = .ok (.isub, 1) := by decide +kernel
theorem dX12_parish_77 : decode cX12_parish 77 = .ok (.ireturn, 1) := by decide +kernel
theorem dX12_parish_78 : decode cX12_parish 78 = .ok (.aload_n 0, 1) := by decide +kernel
theorem dX12_parish_79 : decode cX12_parish 79 = .ok (.iconst 1, 1) := by decide +kernel
theorem dX12_parish_80 : decode cX12_parish 80 = .ok (.iconst 1, 1) := by decide +kernel
theorem dX12_parish_81 : decode cX12_parish 81 = .ok (.invokevirtual 135, 3) := by decide +kernel
theorem dX12_parish_84 : decode cX12_parish 84 = .ok (.iconst 0, 1) := by decide +kernel
theorem dX12_parish_85 : decode cX12_parish 85 = .ok (.istore_n 2, 1) := by decide +kernel
theorem dX12_parish_86 : decode cX12_parish 86 = .ok (.iload_n 2, 1) := by decide +kernel
theorem dX12_parish_87 : decode cX12_parish 87 = .ok (.aload_n 0, 1) := by decide +kernel
theorem dX12_parish_88 : decode cX12_parish 88 = .ok (.getfield 116, 3) := by decide +kernel
theorem dX12_parish_91 : decode cX12_parish 91 = .ok (.if_icmp .ge 37, 3) := by decide +kernel
theorem dX12_parish_94 : decode cX12_parish 94 = .ok (.aload_n 0, 1) := by decide +kernel
theorem dX12_parish_95 : decode cX12_parish 95 = .ok (.iload_n 2, 1) := by decide +kernel
theorem dX12_parish_96 : decode cX12_parish 96 = .ok (.invokevirtual 139, 3) := by decide +kernel
theorem dX12_parish_99 : decode cX12_parish 99 = .ok (.ifCond .eq 6, 3) := by decide +kernel
theorem dX12_parish_102 : decode cX12_parish 102 = .ok (.goto 20, 3) := by decide +kernel
theorem dX12_parish_105 : decode cX12_parish 105 = .ok (.aload_n 0, 1) := by decide +kernel
theorem dX12_parish_106 : decode cX12_parish 106 = .ok (.iconst 1, 1) := by decide +kernel
theorem dX12_parish_107 : decode cX12_parish 107 = .ok (.iconst 0, 1) := by decide +kernel
theorem dX12_parish_108 : decode cX12_parish 108 = .ok (.invokevirtual 135, 3) := by decide +kernel
theorem dX12_parish_111 : decode cX12_parish 111 = .ok (.sipush (-2000), 3) := by decide +kernel
theorem dX12_parish_114 : decode cX12_parish 114 = .ok (.aload_n 0, 1) := by decide +kernel
theorem dX12_parish_115 : decode cX12_parish 115 = .ok (.getfield 43, 3) := by decide +kernel
theorem dX12_parish_118 : decode cX12_parish 118 = .ok (.iload_n 2, 1) := by decide +kernel
theorem dX12_parish_119 : decode cX12_parish 119 = .ok (.iaload, 1) := by decide +kernel
theorem dX12_parish_120 : decode cX12_parish 120 = .ok (.isub, 1) := by decide +kernel
theorem dX12_parish_121 : decode cX12_parish 121 = .ok (.ireturn, 1) := by decide +kernel
theorem dX12_parish_122 : decode cX12_parish 122 = .ok (.iinc 2 1, 3) := by decide +kernel
theorem dX12_parish_125 : decode cX12_parish 125 = .ok (.goto (-39), 3) := by decide +kernel
theorem dX12_parish_128 : decode cX12_parish 128 = .ok (.aload_n 0, 1) := by decide +kernel
theorem dX12_parish_129 : decode cX12_parish 129 = .ok (.getfield 116, 3) := by decide +kernel
theorem dX12_parish_132 : decode cX12_parish 132 = .ok (.ireturn, 1) := by decide +kernel
theorem dX12_passes_0 : decode cX12_passes 0 = .ok (.iconst 0, 1) := by decide +kernel
theorem dX12_passes_1 : decode cX12_passes 1 = .ok (.istore_n 2, 1) := by decide +kernel
theorem dX12_passes_2 : decode cX12_passes 2 = .ok (.iload_n 2, 1) := by decide +kernel
theorem dX12_passes_3 : decode cX12_passes 3 = .ok (.aload_n 1, 1) := by decide +kernel
theorem dX12_passes_4 : decode cX12_passes 4 = .ok (.arraylength, 1) := by decide +kernel
theorem dX12_passes_5 : decode cX12_passes 5 = .ok (.if_icmp .ge 53, 3) := by decide +kernel
theorem dX12_passes_8 : decode cX12_passes 8 = .ok (.aload_n 0, 1) := by decide +kernel
theorem dX12_passes_9 : decode cX12_passes 9 = .ok (.getfield 142, 3) := by decide +kernel
theorem dX12_passes_12 : decode cX12_passes 12 = .ok (.ifCond .eq 18, 3) := by decide +kernel
theorem dX12_passes_15 : decode cX12_passes 15 = .ok (.aload_n 0, 1) := by decide +kernel
theorem dX12_passes_16 : decode cX12_passes 16 = .ok (.getfield 61, 3) := by decide +kernel
theorem dX12_passes_19 : decode cX12_passes 19 = .ok (.aload_n 0, 1) := by decide +kernel
theorem dX12_passes_20 : decode cX12_passes 20 = .ok (.getfield 146, 3) := by decide +kernel
theorem dX12_passes_23 : decode cX12_passes 23 = .ok (.aload_n 1, 1) := by decide +kernel
theorem dX12_passes_24 : decode cX12_passes 24 = .ok (.iload_n 2, 1) := by decide +kernel
theorem dX12_passes_25 : decode cX12_passes 25 = .ok (.iaload, 1) := by decide +kernel
theorem dX12_passes_26 : decode cX12_passes 26 = .ok (.iastore, 1) := by decide +kernel
theorem dX12_passes_27 : decode cX12_passes 27 = .ok (.goto 15, 3) := by decide +kernel
theorem dX12_passes_30 : decode cX12_passes 30 = .ok (.aload_n 1, 1) := by decide +kernel
theorem dX12_passes_31 : decode cX12_passes 31 = .ok (.iload_n 2, 1) := by decide +kernel
theorem dX12_passes_32 : decode cX12_passes 32 = .ok (.aload_n 0, 1) := by decide +kernel
theorem dX12_passes_33 : decode cX12_passes 33 = .ok (.getfield 61, 3) := by decide +kernel
theorem dX12_passes_36 : decode cX12_passes 36 = .ok (.aload_n 0, 1) := by decide +kernel
theorem dX12_passes_37 : decode cX12_passes 37 = .ok (.getfield 146, 3) := by decide +kernel
theorem dX12_passes_40 : decode cX12_passes 40 = .ok (.iaload, 1) := by decide +kernel
theorem dX12_passes_41 : decode cX12_passes 41 = .ok (.iastore, 1) := by decide +kernel
theorem dX12_passes_42 : decode cX12_passes 42 = .ok (.aload_n 0, 1) := by decide +kernel
theorem dX12_passes_43 : decode cX12_passes 43 = .ok (.dup, 1) := by decide +kernel
theorem dX12_passes_44 : decode cX12_passes 44 = .ok (.getfield 146, 3) := by decide +kernel
theorem dX12_passes_47 : decode cX12_passes 47 = .ok (.iconst 1, 1) := by decide +kernel
theorem dX12_passes_48 : decode cX12_passes 48 = .ok (.iadd, 1) := by decide +kernel
theorem dX12_passes_49 : decode cX12_passes 49 = .ok (.putfield 146, 3) := by decide +kernel
theorem dX12_passes_52 : decode cX12_passes 52 = .ok (.iinc 2 1, 3) := by decide +kernel
theorem dX12_passes_55 : decode cX12_passes 55 = .ok (.goto (-53), 3) := by decide +kernel
theorem dX12_passes_58 : decode cX12_passes 58 = .ok (.return_, 1) := by decide +kernel
theorem dX12_passOne_0 : decode cX12_passOne 0 = .ok (.aload_n 0, 1) := by decide +kernel
theorem dX12_passOne_1 : decode cX12_passOne 1 = .ok (.getfield 142, 3) := by decide +kernel
theorem dX12_passOne_4 : decode cX12_passOne 4 = .ok (.ifCond .eq 7, 3) := by decide +kernel
theorem dX12_passOne_7 : decode cX12_passOne 7 = .ok (.iload_n 1, 1) := by decide +kernel
theorem dX12_passOne_8 : decode cX12_passOne 8 = .ok (.goto 12, 3) := by decide +kernel
theorem dX12_passOne_11 : decode cX12_passOne 11 = .ok (.aload_n 0, 1) := by decide +kernel
theorem dX12_passOne_12 : decode cX12_passOne 12 = .ok (.getfield 61, 3) := by decide +kernel
theorem dX12_passOne_15 : decode cX12_passOne 15 = .ok (.aload_n 0, 1) := by decide +kernel
theorem dX12_passOne_16 : decode cX12_passOne 16 = .ok (.getfield 146, 3) := by decide +kernel
theorem dX12_passOne_19 : decode cX12_passOne 19 = .ok (.iaload, 1) := by decide +kernel
theorem dX12_passOne_20 : decode cX12_passOne 20 = .ok (.istore_n 2, 1) := by decide +kernel
theorem dX12_passOne_21 : decode cX12_passOne 21 = .ok (.aload_n 0, 1) := by decide +kernel
theorem dX12_passOne_22 : decode cX12_passOne 22 = .ok (.getfield 142, 3) := by decide +kernel
theorem dX12_passOne_25 : decode cX12_passOne 25 = .ok (.ifCond .eq 13, 3) := by decide +kernel
theorem dX12_passOne_28 : decode cX12_passOne 28 = .ok (.aload_n 0, 1) := by decide +kernel
theorem dX12_passOne_29 : decode cX12_passOne 29 = .ok (.getfield 61, 3) := by decide +kernel
theorem dX12_passOne_32 : decode cX12_passOne 32 = .ok (.aload_n 0, 1) := by decide +kernel
theorem dX12_passOne_33 : decode cX12_passOne 33 = .ok (.getfield 146, 3) := by decide +kernel
theorem dX12_passOne_36 : decode cX12_passOne 36 = .ok (.iload_n 1, 1) := by decide +kernel
theorem dX12_passOne_37 : decode cX12_passOne 37 = .ok (.iastore, 1) := by decide +kernel
theorem dX12_passOne_38 : decode cX12_passOne 38 = .ok (.aload_n 0, 1) := by decide +kernel
theorem dX12_passOne_39 : decode cX12_passOne 39 = .ok (.dup, 1) := by decide +kernel
theorem dX12_passOne_40 : decode cX12_passOne 40 = .ok (.getfield 146, 3) := by decide +kernel
theorem dX12_passOne_43 : decode cX12_passOne 43 = .ok (.iconst 1, 1) := by decide +kernel
theorem dX12_passOne_44 : decode cX12_passOne 44 = .ok (.iadd, 1) := by decide +kernel
theorem dX12_passOne_45 : decode cX12_passOne 45 = .ok (.putfield 146, 3) := by decide +kernel
theorem dX12_passOne_48 : decode cX12_passOne 48 = .ok (.iload_n 2, 1) := by decide +kernel
theorem dX12_passOne_49 : decode cX12_passOne 49 = .ok (.ireturn, 1) := by decide +kernel
theorem dX12_passesAll_0 : decode cX12_passesAll 0 = .ok (.aload_n 0, 1) := by decide +kernel
theorem dX12_passesAll_1 : decode cX12_passesAll 1 = .ok (.sipush 150, 3) := by decide +kernel
theorem dX12_passesAll_4 : decode cX12_passesAll 4 = .ok (.iload_n 1, 1) := by decide +kernel
theorem dX12_passesAll_5 : decode cX12_passesAll 5 = .ok (.imul, 1) := by decide +kernel
theorem dX12_passesAll_6 : decode cX12_passesAll 6 = .ok (.putfield 146, 3) := by decide +kernel
theorem dX12_passesAll_9 : decode cX12_passesAll 9 = .ok (.aload_n 0, 1) := by decide +kernel
theorem dX12_passesAll_10 : decode cX12_passesAll 10 = .ok (.iload_n 2, 1) := by decide +kernel
theorem dX12_passesAll_11 : decode cX12_passesAll 11 = .ok (.putfield 142, 3) := by decide +kernel
theorem dX12_passesAll_14 : decode cX12_passesAll 14 = .ok (.aload_n 0, 1) := by decide +kernel
theorem dX12_passesAll_15 : decode cX12_passesAll 15 = .ok (.aload_n 0, 1) := by decide +kernel
theorem dX12_passesAll_16 : decode cX12_passesAll 16 = .ok (.getfield 13, 3) := by decide +kernel
theorem dX12_passesAll_19 : decode cX12_passesAll 19 = .ok (.invokevirtual 149, 3) := by decide +kernel
theorem dX12_passesAll_22 : decode cX12_passesAll 22 = .ok (.aload_n 0, 1) := by decide +kernel
theorem dX12_passesAll_23 : decode cX12_passesAll 23 = .ok (.aload_n 0, 1) := by decide +kernel
theorem dX12_passesAll_24 : decode cX12_passesAll 24 = .ok (.getfield 16, 3) := by decide +kernel
theorem dX12_passesAll_27 : decode cX12_passesAll 27 = .ok (.invokevirtual 149, 3) := by decide +kernel
theorem dX12_passesAll_30 : decode cX12_passesAll 30 = .ok (.aload_n 0, 1) := by decide +kernel
theorem dX12_passesAll_31 : decode cX12_passesAll 31 = .ok (.aload_n 0, 1) := by decide +kernel
theorem dX12_passesAll_32 : decode cX12_passesAll 32 = .ok (.getfield 19, 3) := by decide +kernel
theorem dX12_passesAll_35 : decode cX12_passesAll 35 = .ok (.invokevirtual 149, 3) := by decide +kernel
theorem dX12_passesAll_38 : decode cX12_passesAll 38 = .ok (.aload_n 0, 1) := by decide +kernel
theorem dX12_passesAll_39 : decode cX12_passesAll 39 = .ok (.aload_n 0, 1) := by decide +kernel
theorem dX12_passesAll_40 : decode cX12_passesAll 40 = .ok (.getfield 22, 3) := by decide +kernel
theorem dX12_passesAll_43 : decode cX12_passesAll 43 = .ok (.invokevirtual 149, 3) := by decide +kernel
theorem dX12_passesAll_46 : decode cX12_passesAll 46 = .ok (.aload_n 0, 1) := by decide +kernel
theorem dX12_passesAll_47 : decode cX12_passesAll 47 = .ok (.aload_n 0, 1) := by decide +kernel
theorem dX12_passesAll_48 : decode cX12_passesAll 48 = .ok (.getfield 25, 3) := by decide +kernel
theorem dX12_passesAll_51 : decode cX12_passesAll 51 = .ok (.invokevirtual 149, 3) := by decide +kernel
theorem dX12_passesAll_54 : decode cX12_passesAll 54 = .ok (.aload_n 0, 1) := by decide +kernel
theorem dX12_passesAll_55 : decode cX12_passesAll 55 = .ok (.aload_n 0, 1) := by decide +kernel
theorem dX12_passesAll_56 : decode cX12_passesAll 56 = .ok (.getfield 28, 3) := by decide +kernel
theorem dX12_passesAll_59 : decode cX12_passesAll 59 = .ok (.invokevirtual 149, 3) := by decide +kernel
theorem dX12_passesAll_62 : decode cX12_passesAll 62 = .ok (.aload_n 0, 1) := by decide +kernel
theorem dX12_passesAll_63 : decode cX12_passesAll 63 = .ok (.aload_n 0, 1) := by decide +kernel
theorem dX12_passesAll_64 : decode cX12_passesAll 64 = .ok (.getfield 31, 3) := by decide +kernel
theorem dX12_passesAll_67 : decode cX12_passesAll 67 = .ok (.invokevirtual 149, 3) := by decide +kernel
theorem dX12_passesAll_70 : decode cX12_passesAll 70 = .ok (.aload_n 0, 1) := by decide +kernel
theorem dX12_passesAll_71 : decode cX12_passesAll 71 = .ok (.aload_n 0, 1) := by decide +kernel
theorem dX12_passesAll_72 : decode cX12_passesAll 72 = .ok (.getfield 34, 3) := by decide +kernel
theorem dX12_passesAll_75 : decode cX12_passesAll 75 = .ok (.invokevirtual 149, 3) := by decide +kernel
theorem dX12_passesAll_78 : decode cX12_passesAll 78 = .ok (.aload_n 0, 1) := by decide +kernel
theorem dX12_passesAll_79 : decode cX12_passesAll 79 = .ok (.aload_n 0, 1) := by decide +kernel
theorem dX12_passesAll_80 : decode cX12_passesAll 80 = .ok (.aload_n 0, 1) := by decide +kernel
theorem dX12_passesAll_81 : decode cX12_passesAll 81 = .ok (.getfield 76, 3) := by decide +kernel
theorem dX12_passesAll_84 : decode cX12_passesAll 84 = .ok (.invokevirtual 153, 3) := by decide +kernel
theorem dX12_passesAll_87 : decode cX12_passesAll 87 = .ok (.putfield 76, 3) := by decide +kernel
theorem dX12_passesAll_90 : decode cX12_passesAll 90 = .ok (.aload_n 0, 1) := by decide +kernel
theorem dX12_passesAll_91 : decode cX12_passesAll 91 = .ok (.aload_n 0, 1) := by decide +kernel
theorem dX12_passesAll_92 : decode cX12_passesAll 92 = .ok (.aload_n 0, 1) := by decide +kernel
theorem dX12_passesAll_93 : decode cX12_passesAll 93 = .ok (.getfield 80, 3) := by decide +kernel
theorem dX12_passesAll_96 : decode cX12_passesAll 96 = .ok (.invokevirtual 153, 3) := by decide +kernel
theorem dX12_passesAll_99 : decode cX12_passesAll 99 = .ok (.putfield 80, 3) := by decide +kernel
theorem dX12_passesAll_102 : decode cX12_passesAll 102 = .ok (.aload_n 0, 1) := by decide +kernel
theorem dX12_passesAll_103 : decode cX12_passesAll 103 = .ok (.aload_n 0, 1) := by decide +kernel
theorem dX12_passesAll_104 : decode cX12_passesAll 104 = .ok (.aload_n 0, 1) := by decide +kernel
theorem dX12_passesAll_105 : decode cX12_passesAll 105 = .ok (.getfield 156, 3) := by decide +kernel
theorem dX12_passesAll_108 : decode cX12_passesAll 108 = .ok (.invokevirtual 153, 3) := by decide +kernel
theorem dX12_passesAll_111 : decode cX12_passesAll 111 = .ok (.putfield 156, 3) := by decide +kernel
theorem dX12_passesAll_114 : decode cX12_passesAll 114 = .ok (.aload_n 0, 1) := by decide +kernel
theorem dX12_passesAll_115 : decode cX12_passesAll 115 = .ok (.aload_n 0, 1) := by decide +kernel
theorem dX12_passesAll_116 : decode cX12_passesAll 116 = .ok (.aload_n 0, 1) := by decide +kernel
theorem dX12_passesAll_117 : decode cX12_passesAll 117 = .ok (.getfield 159, 3) := by decide +kernel
theorem dX12_passesAll_120 : decode cX12_passesAll 120 = .ok (.invokevirtual 153, 3) := by decide +kernel
theorem dX12_passesAll_123 : decode cX12_passesAll 123 = .ok (.putfield 159, 3) := by decide +kernel
theorem dX12_passesAll_126 : decode cX12_passesAll 126 = .ok (.aload_n 0, 1) := by decide +kernel
theorem dX12_passesAll_127 : decode cX12_passesAll 127 = .ok (.aload_n 0, 1) := by decide +kernel
theorem dX12_passesAll_128 : decode cX12_passesAll 128 = .ok (.aload_n 0, 1) := by decide +kernel
theorem dX12_passesAll_129 : decode cX12_passesAll 129 = .ok (.getfield 162, 3) := by decide +kernel
theorem dX12_passesAll_132 : decode cX12_passesAll 132 = .ok (.invokevirtual 153, 3) := by decide +kernel
theorem dX12_passesAll_135 : decode cX12_passesAll 135 = .ok (.putfield 162, 3) := by decide +kernel
theorem dX12_passesAll_138 : decode cX12_passesAll 138 = .ok (.aload_n 0, 1) := by decide +kernel
theorem dX12_passesAll_139 : decode cX12_passesAll 139 = .ok (.aload_n 0, 1) := by decide +kernel
theorem dX12_passesAll_140 : decode cX12_passesAll 140 = .ok (.aload_n 0, 1) := by decide +kernel
theorem dX12_passesAll_141 : decode cX12_passesAll 141 = .ok (.getfield 165, 3) := by decide +kernel
theorem dX12_passesAll_144 : decode cX12_passesAll 144 = .ok (.invokevirtual 153, 3) := by decide +kernel
theorem dX12_passesAll_147 : decode cX12_passesAll 147 = .ok (.putfield 165, 3) := by decide +kernel
theorem dX12_passesAll_150 : decode cX12_passesAll 150 = .ok (.aload_n 0, 1) := by decide +kernel
theorem dX12_passesAll_151 : decode cX12_passesAll 151 = .ok (.aload_n 0, 1) := by decide +kernel
theorem dX12_passesAll_152 : decode cX12_passesAll 152 = .ok (.aload_n 0, 1) := by decide +kernel
theorem dX12_passesAll_153 : decode cX12_passesAll 153 = .ok (.getfield 168, 3) := by decide +kernel
theorem dX12_passesAll_156 : decode cX12_passesAll 156 = .ok (.invokevirtual 153, 3) := by decide +kernel
theorem dX12_passesAll_159 : decode cX12_passesAll 159 = .ok (.putfield 168, 3) := by decide +kernel
theorem dX12_passesAll_162 : decode cX12_passesAll 162 = .ok (.aload_n 0, 1) := by decide +kernel
theorem dX12_passesAll_163 : decode cX12_passesAll 163 = .ok (.aload_n 0, 1) := by decide +kernel
theorem dX12_passesAll_164 : decode cX12_passesAll 164 = .ok (.aload_n 0, 1) := by decide +kernel
theorem dX12_passesAll_165 : decode cX12_passesAll 165 = .ok (.getfield 171, 3) := by decide +kernel
theorem dX12_passesAll_168 : decode cX12_passesAll 168 = .ok (.invokevirtual 153, 3) := by decide +kernel
theorem dX12_passesAll_171 : decode cX12_passesAll 171 = .ok (.putfield 171, 3) := by decide +kernel
theorem dX12_passesAll_174 : decode cX12_passesAll 174 = .ok (.return_, 1) := by decide +kernel
theorem dX12_keeps_0 : decode cX12_keeps 0 = .ok (.iconst 0, 1) := by decide +kernel
theorem dX12_keeps_1 : decode cX12_keeps 1 = .ok (.istore_n 2, 1) := by decide +kernel
theorem dX12_keeps_2 : decode cX12_keeps 2 = .ok (.iload_n 2, 1) := by decide +kernel
theorem dX12_keeps_3 : decode cX12_keeps 3 = .ok (.bipush 24, 2) := by decide +kernel
theorem dX12_keeps_5 : decode cX12_keeps 5 = .ok (.if_icmp .ge 26, 3) := by decide +kernel
theorem dX12_keeps_8 : decode cX12_keeps 8 = .ok (.aload_n 0, 1) := by decide +kernel
theorem dX12_keeps_9 : decode cX12_keeps 9 = .ok (.getfield 64, 3) := by decide +kernel
theorem dX12_keeps_12 : decode cX12_keeps 12 = .ok (.bipush 24, 2) := by decide +kernel
theorem dX12_keeps_14 : decode cX12_keeps 14 = .ok (.iload_n 1, 1) := by decide +kernel
theorem dX12_keeps_15 : decode cX12_keeps 15 = .ok (.imul, 1) := by decide +kernel
theorem dX12_keeps_16 : decode cX12_keeps 16 = .ok (.iload_n 2, 1) := by decide +kernel
theorem dX12_keeps_17 : decode cX12_keeps 17 = .ok (.iadd, 1) := by decide +kernel
theorem dX12_keeps_18 : decode cX12_keeps 18 = .ok (.aload_n 0, 1) := by decide +kernel
theorem dX12_keeps_19 : decode cX12_keeps 19 = .ok (.getfield 13, 3) := by decide +kernel
theorem dX12_keeps_22 : decode cX12_keeps 22 = .ok (.iload_n 2, 1) := by decide +kernel
theorem dX12_keeps_23 : decode cX12_keeps 23 = .ok (.iaload, 1) := by decide +kernel
theorem dX12_keeps_24 : decode cX12_keeps 24 = .ok (.iastore, 1) := by decide +kernel
theorem dX12_keeps_25 : decode cX12_keeps 25 = .ok (.iinc 2 1, 3) := by decide +kernel
theorem dX12_keeps_28 : decode cX12_keeps 28 = .ok (.goto (-26), 3) := by decide +kernel
theorem dX12_keeps_31 : decode cX12_keeps 31 = .ok (.return_, 1) := by decide +kernel
theorem dX12_putsBack_0 : decode cX12_putsBack 0 = .ok (.iconst 0, 1) := by decide +kernel
theorem dX12_putsBack_1 : decode cX12_putsBack 1 = .ok (.istore_n 2, 1) := by decide +kernel
theorem dX12_putsBack_2 : decode cX12_putsBack 2 = .ok (.iload_n 2, 1) := by decide +kernel
theorem dX12_putsBack_3 : decode cX12_putsBack 3 = .ok (.bipush 24, 2) := by decide +kernel
theorem dX12_putsBack_5 : decode cX12_putsBack 5 = .ok (.if_icmp .ge 26, 3) := by decide +kernel
theorem dX12_putsBack_8 : decode cX12_putsBack 8 = .ok (.aload_n 0, 1) := by decide +kernel
theorem dX12_putsBack_9 : decode cX12_putsBack 9 = .ok (.getfield 13, 3) := by decide +kernel
theorem dX12_putsBack_12 : decode cX12_putsBack 12 = .ok (.iload_n 2, 1) := by decide +kernel
theorem dX12_putsBack_13 : decode cX12_putsBack 13 = .ok (.aload_n 0, 1) := by decide +kernel
theorem dX12_putsBack_14 : decode cX12_putsBack 14 = .ok (.getfield 64, 3) := by decide +kernel
theorem dX12_putsBack_17 : decode cX12_putsBack 17 = .ok (.bipush 24, 2) := by decide +kernel
theorem dX12_putsBack_19 : decode cX12_putsBack 19 = .ok (.iload_n 1, 1) := by decide +kernel
theorem dX12_putsBack_20 : decode cX12_putsBack 20 = .ok (.imul, 1) := by decide +kernel
theorem dX12_putsBack_21 : decode cX12_putsBack 21 = .ok (.iload_n 2, 1) := by decide +kernel
theorem dX12_putsBack_22 : decode cX12_putsBack 22 = .ok (.iadd, 1) := by decide +kernel
theorem dX12_putsBack_23 : decode cX12_putsBack 23 = .ok (.iaload, 1) := by decide +kernel
theorem dX12_putsBack_24 : decode cX12_putsBack 24 = .ok (.iastore, 1) := by decide +kernel
theorem dX12_putsBack_25 : decode cX12_putsBack 25 = .ok (.iinc 2 1, 3) := by decide +kernel
theorem dX12_putsBack_28 : decode cX12_putsBack 28 = .ok (.goto (-26), 3) := by decide +kernel
theorem dX12_putsBack_31 : decode cX12_putsBack 31 = .ok (.return_, 1) := by decide +kernel
theorem dX12_scoreOf_0 : decode cX12_scoreOf 0 = .ok (.iconst 0, 1) := by decide +kernel
theorem dX12_scoreOf_1 : decode cX12_scoreOf 1 = .ok (.istore_n 3, 1) := by decide +kernel
theorem dX12_scoreOf_2 : decode cX12_scoreOf 2 = .ok (.iconst 0, 1) := by decide +kernel
theorem dX12_scoreOf_3 : decode cX12_scoreOf 3 = .ok (.istore 4, 2) := by decide +kernel
theorem dX12_scoreOf_5 : decode cX12_scoreOf 5 = .ok (.iload 4, 2) := by decide +kernel
theorem dX12_scoreOf_7 : decode cX12_scoreOf 7 = .ok (.iconst 4, 1) := by decide +kernel
theorem dX12_scoreOf_8 : decode cX12_scoreOf 8 = .ok (.if_icmp .ge 102, 3) := by decide +kernel
theorem dX12_scoreOf_11 : decode cX12_scoreOf 11 = .ok (.iload_n 2, 1) := by decide +kernel
theorem dX12_scoreOf_12 : decode cX12_scoreOf 12 = .ok (.iload 4, 2) := by decide +kernel
theorem dX12_scoreOf_14 : decode cX12_scoreOf 14 = .ok (.invokestatic 87, 3) := by decide +kernel
theorem dX12_scoreOf_17 : decode cX12_scoreOf 17 = .ok (.istore 5, 2) := by decide +kernel
theorem dX12_scoreOf_19 : decode cX12_scoreOf 19 = .ok (.aload_n 0, 1) := by decide +kernel
theorem dX12_scoreOf_20 : decode cX12_scoreOf 20 = .ok (.getfield 13, 3) := by decide +kernel
theorem dX12_scoreOf_23 : decode cX12_scoreOf 23 = .ok (.iconst 4, 1) := by decide +kernel
theorem dX12_scoreOf_24 : decode cX12_scoreOf 24 = .ok (.iload_n 1, 1) := by decide +kernel
theorem dX12_scoreOf_25 : decode cX12_scoreOf 25 = .ok (.imul, 1) := by decide +kernel
theorem dX12_scoreOf_26 : decode cX12_scoreOf 26 = .ok (.iload 4, 2) := by decide +kernel
theorem dX12_scoreOf_28 : decode cX12_scoreOf 28 = .ok (.iadd, 1) := by decide +kernel
theorem dX12_scoreOf_29 : decode cX12_scoreOf 29 = .ok (.iaload, 1) := by decide +kernel
theorem dX12_scoreOf_30 : decode cX12_scoreOf 30 = .ok (.istore 6, 2) := by decide +kernel
theorem dX12_scoreOf_32 : decode cX12_scoreOf 32 = .ok (.aload_n 0, 1) := by decide +kernel
theorem dX12_scoreOf_33 : decode cX12_scoreOf 33 = .ok (.getfield 156, 3) := by decide +kernel
theorem dX12_scoreOf_36 : decode cX12_scoreOf 36 = .ok (.ifCond .eq 11, 3) := by decide +kernel
theorem dX12_scoreOf_39 : decode cX12_scoreOf 39 = .ok (.aload_n 0, 1) := by decide +kernel
theorem dX12_scoreOf_40 : decode cX12_scoreOf 40 = .ok (.getfield 156, 3) := by decide +kernel
theorem dX12_scoreOf_43 : decode cX12_scoreOf 43 = .ok (.iconst 3, 1) := by decide +kernel
theorem dX12_scoreOf_44 : decode cX12_scoreOf 44 = .ok (.if_icmp .ne 14, 3) := by decide +kernel
theorem dX12_scoreOf_47 : decode cX12_scoreOf 47 = .ok (.iload_n 3, 1) := by decide +kernel
theorem dX12_scoreOf_48 : decode cX12_scoreOf 48 = .ok (.iload 5, 2) := by decide +kernel
theorem dX12_scoreOf_50 : decode cX12_scoreOf 50 = .ok (.iload 6, 2) := by decide +kernel
theorem dX12_scoreOf_52 : decode cX12_scoreOf 52 = .ok (.imul, 1) := by decide +kernel
theorem dX12_scoreOf_53 : decode cX12_scoreOf 53 = .ok (.iadd, 1) := by decide +kernel
theorem dX12_scoreOf_54 : decode cX12_scoreOf 54 = .ok (.istore_n 3, 1) := by decide +kernel
theorem dX12_scoreOf_55 : decode cX12_scoreOf 55 = .ok (.goto 49, 3) := by decide +kernel
theorem dX12_scoreOf_58 : decode cX12_scoreOf 58 = .ok (.aload_n 0, 1) := by decide +kernel
theorem dX12_scoreOf_59 : decode cX12_scoreOf 59 = .ok (.getfield 156, 3) := by decide +kernel
theorem dX12_scoreOf_62 : decode cX12_scoreOf 62 = .ok (.iconst 2, 1) := by decide +kernel
theorem dX12_scoreOf_63 : decode cX12_scoreOf 63 = .ok (.if_icmp .eq 23, 3) := by decide +kernel
theorem dX12_scoreOf_66 : decode cX12_scoreOf 66 = .ok (.iload_n 3, 1) := by decide +kernel
theorem dX12_scoreOf_67 : decode cX12_scoreOf 67 = .ok (.iload 5, 2) := by decide +kernel
theorem dX12_scoreOf_69 : decode cX12_scoreOf 69 = .ok (.iload 6, 2) := by decide +kernel
theorem dX12_scoreOf_71 : decode cX12_scoreOf 71 = .ok (.if_icmp .ge 8, 3) := by decide +kernel
theorem dX12_scoreOf_74 : decode cX12_scoreOf 74 = .ok (.iload 5, 2) := by decide +kernel
theorem dX12_scoreOf_76 : decode cX12_scoreOf 76 = .ok (.goto 5, 3) := by decide +kernel
theorem dX12_scoreOf_79 : decode cX12_scoreOf 79 = .ok (.iload 6, 2) := by decide +kernel
theorem dX12_scoreOf_81 : decode cX12_scoreOf 81 = .ok (.iadd, 1) := by decide +kernel
theorem dX12_scoreOf_82 : decode cX12_scoreOf 82 = .ok (.istore_n 3, 1) := by decide +kernel
theorem dX12_scoreOf_83 : decode cX12_scoreOf 83 = .ok (.goto 21, 3) := by decide +kernel
theorem dX12_scoreOf_86 : decode cX12_scoreOf 86 = .ok (.iload 5, 2) := by decide +kernel
theorem dX12_scoreOf_88 : decode cX12_scoreOf 88 = .ok (.ifCond .le 14, 3) := by decide +kernel
theorem dX12_scoreOf_91 : decode cX12_scoreOf 91 = .ok (.iload 6, 2) := by decide +kernel
theorem dX12_scoreOf_93 : decode cX12_scoreOf 93 = .ok (.iload_n 3, 1) := by decide +kernel
theorem dX12_scoreOf_94 : decode cX12_scoreOf 94 = .ok (.if_icmp .le 8, 3) := by decide +kernel
theorem dX12_scoreOf_97 : decode cX12_scoreOf 97 = .ok (.iload 6, 2) := by decide +kernel
theorem dX12_scoreOf_99 : decode cX12_scoreOf 99 = .ok (.goto 4, 3) := by decide +kernel
theorem dX12_scoreOf_102 : decode cX12_scoreOf 102 = .ok (.iload_n 3, 1) := by decide +kernel
theorem dX12_scoreOf_103 : decode cX12_scoreOf 103 = .ok (.istore_n 3, 1) := by decide +kernel
theorem dX12_scoreOf_104 : decode cX12_scoreOf 104 = .ok (.iinc 4 1, 3) := by decide +kernel
theorem dX12_scoreOf_107 : decode cX12_scoreOf 107 = .ok (.goto (-102), 3) := by decide +kernel
theorem dX12_scoreOf_110 : decode cX12_scoreOf 110 = .ok (.iload_n 3, 1) := by decide +kernel
theorem dX12_scoreOf_111 : decode cX12_scoreOf 111 = .ok (.ireturn, 1) := by decide +kernel
theorem dX12_firstBut_0 : decode cX12_firstBut 0 = .ok (.bipush (-9), 2) := by decide +kernel
theorem dX12_firstBut_2 : decode cX12_firstBut 2 = .ok (.istore_n 3, 1) := by decide +kernel
theorem dX12_firstBut_3 : decode cX12_firstBut 3 = .ok (.iconst 0, 1) := by decide +kernel
theorem dX12_firstBut_4 : decode cX12_firstBut 4 = .ok (.istore 4, 2) := by decide +kernel
theorem dX12_firstBut_6 : decode cX12_firstBut 6 = .ok (.iconst 0, 1) := by decide +kernel
theorem dX12_firstBut_7 : decode cX12_firstBut 7 = .ok (.istore 5, 2) := by decide +kernel
theorem dX12_firstBut_9 : decode cX12_firstBut 9 = .ok (.iload 5, 2) := by decide +kernel
theorem dX12_firstBut_11 : decode cX12_firstBut 11 = .ok (.aload_n 0, 1) := by decide +kernel
theorem dX12_firstBut_12 : decode cX12_firstBut 12 = .ok (.getfield 76, 3) := by decide +kernel
theorem dX12_firstBut_15 : decode cX12_firstBut 15 = .ok (.if_icmp .ge 57, 3) := by decide +kernel
theorem dX12_firstBut_18 : decode cX12_firstBut 18 = .ok (.iload 5, 2) := by decide +kernel
theorem dX12_firstBut_20 : decode cX12_firstBut 20 = .ok (.iload_n 2, 1) := by decide +kernel
theorem dX12_firstBut_21 : decode cX12_firstBut 21 = .ok (.if_icmp .eq 45, 3) := by decide +kernel
theorem dX12_firstBut_24 : decode cX12_firstBut 24 = .ok (.aload_n 0, 1) := by decide +kernel
theorem dX12_firstBut_25 : decode cX12_firstBut 25 = .ok (.getfield 174, 3) := by decide +kernel
theorem dX12_firstBut_28 : decode cX12_firstBut 28 = .ok (.iload 5, 2) := by decide +kernel
theorem dX12_firstBut_30 : decode cX12_firstBut 30 = .ok (.ishr, 1) := by decide +kernel
theorem dX12_firstBut_31 : decode cX12_firstBut 31 = .ok (.iconst 1, 1) := by decide +kernel
theorem dX12_firstBut_32 : decode cX12_firstBut 32 = .ok (.iand, 1) := by decide +kernel
theorem dX12_firstBut_33 : decode cX12_firstBut 33 = .ok (.iconst 1, 1) := by decide +kernel
theorem dX12_firstBut_34 : decode cX12_firstBut 34 = .ok (.if_icmp .ne 6, 3) := by decide +kernel
theorem dX12_firstBut_37 : decode cX12_firstBut 37 = .ok (.goto 29, 3) := by decide +kernel
theorem dX12_firstBut_40 : decode cX12_firstBut 40 = .ok (.aload_n 0, 1) := by decide +kernel
theorem dX12_firstBut_41 : decode cX12_firstBut 41 = .ok (.iload 5, 2) := by decide +kernel
theorem dX12_firstBut_43 : decode cX12_firstBut 43 = .ok (.iload_n 1, 1) := by decide +kernel
theorem dX12_firstBut_44 : decode cX12_firstBut 44 = .ok (.invokevirtual 177, 3) := by decide +kernel
theorem dX12_firstBut_47 : decode cX12_firstBut 47 = .ok (.istore 6, 2) := by decide +kernel
theorem dX12_firstBut_49 : decode cX12_firstBut 49 = .ok (.iload 6, 2) := by decide +kernel
theorem dX12_firstBut_51 : decode cX12_firstBut 51 = .ok (.iload 4, 2) := by decide +kernel
theorem dX12_firstBut_53 : decode cX12_firstBut 53 = .ok (.if_icmp .gt 6, 3) := by decide +kernel
theorem dX12_firstBut_56 : decode cX12_firstBut 56 = .ok (.goto 10, 3) := by decide +kernel
theorem dX12_firstBut_59 : decode cX12_firstBut 59 = .ok (.iload 5, 2) := by decide +kernel
theorem dX12_firstBut_61 : decode cX12_firstBut 61 = .ok (.istore_n 3, 1) := by decide +kernel
theorem dX12_firstBut_62 : decode cX12_firstBut 62 = .ok (.iload 6, 2) := by decide +kernel
theorem dX12_firstBut_64 : decode cX12_firstBut 64 = .ok (.istore 4, 2) := by decide +kernel
theorem dX12_firstBut_66 : decode cX12_firstBut 66 = .ok (.iinc 5 1, 3) := by decide +kernel
theorem dX12_firstBut_69 : decode cX12_firstBut 69 = .ok (.goto (-60), 3) := by decide +kernel
theorem dX12_firstBut_72 : decode cX12_firstBut 72 = .ok (.iload_n 3, 1) := by decide +kernel
theorem dX12_firstBut_73 : decode cX12_firstBut 73 = .ok (.ireturn, 1) := by decide +kernel
theorem dX12_goesTo_0 : decode cX12_goesTo 0 = .ok (.aload_n 0, 1) := by decide +kernel
theorem dX12_goesTo_1 : decode cX12_goesTo 1 = .ok (.iconst 0, 1) := by decide +kernel
theorem dX12_goesTo_2 : decode cX12_goesTo 2 = .ok (.putfield 174, 3) := by decide +kernel
theorem dX12_goesTo_5 : decode cX12_goesTo 5 = .ok (.aload_n 0, 1) := by decide +kernel
theorem dX12_goesTo_6 : decode cX12_goesTo 6 = .ok (.iload_n 1, 1) := by decide +kernel
theorem dX12_goesTo_7 : decode cX12_goesTo 7 = .ok (.iconst (-1), 1) := by decide +kernel
theorem dX12_goesTo_8 : decode cX12_goesTo 8 = .ok (.invokevirtual 180, 3) := by decide +kernel
theorem dX12_goesTo_11 : decode cX12_goesTo 11 = .ok (.istore_n 2, 1) := by decide +kernel
theorem dX12_goesTo_12 : decode cX12_goesTo 12 = .ok (.aload_n 0, 1) := by decide +kernel
theorem dX12_goesTo_13 : decode cX12_goesTo 13 = .ok (.getfield 156, 3) := by decide +kernel
theorem dX12_goesTo_16 : decode cX12_goesTo 16 = .ok (.iconst 3, 1) := by decide +kernel
theorem dX12_goesTo_17 : decode cX12_goesTo 17 = .ok (.if_icmp .ne 7, 3) := by decide +kernel
theorem dX12_goesTo_20 : decode cX12_goesTo 20 = .ok (.iload_n 2, 1) := by decide +kernel
theorem dX12_goesTo_21 : decode cX12_goesTo 21 = .ok (.ifCond .ge 5, 3) := by decide +kernel
theorem dX12_goesTo_24 : decode cX12_goesTo 24 = .ok (.iload_n 2, 1) := by decide +kernel
theorem dX12_goesTo_25 : decode cX12_goesTo 25 = .ok (.ireturn, 1) := by decide +kernel
theorem dX12_goesTo_26 : decode cX12_goesTo 26 = .ok (.aload_n 0, 1) := by decide +kernel
theorem dX12_goesTo_27 : decode cX12_goesTo 27 = .ok (.iload_n 1, 1) := by decide +kernel
theorem dX12_goesTo_28 : decode cX12_goesTo 28 = .ok (.iload_n 2, 1) := by decide +kernel
theorem dX12_goesTo_29 : decode cX12_goesTo 29 = .ok (.invokevirtual 180, 3) := by decide +kernel
theorem dX12_goesTo_32 : decode cX12_goesTo 32 = .ok (.istore_n 3, 1) := by decide +kernel
theorem dX12_goesTo_33 : decode cX12_goesTo 33 = .ok (.iload_n 3, 1) := by decide +kernel
theorem dX12_goesTo_34 : decode cX12_goesTo 34 = .ok (.ifCond .ge 7, 3) := by decide +kernel
theorem dX12_goesTo_37 : decode cX12_goesTo 37 = .ok (.iload_n 2, 1) := by decide +kernel
theorem dX12_goesTo_38 : decode cX12_goesTo 38 = .ok (.goto 4, 3) := by decide +kernel
theorem dX12_goesTo_41 : decode cX12_goesTo 41 = .ok (.iload_n 3, 1) := by decide +kernel
theorem dX12_goesTo_42 : decode cX12_goesTo 42 = .ok (.ireturn, 1) := by decide +kernel
theorem dX12_has_0 : decode cX12_has 0 = .ok (.iconst 0, 1) := by decide +kernel
theorem dX12_has_1 : decode cX12_has 1 = .ok (.istore_n 3, 1) := by decide +kernel
theorem dX12_has_2 : decode cX12_has 2 = .ok (.iload_n 3, 1) := by decide +kernel
theorem dX12_has_3 : decode cX12_has 3 = .ok (.iconst 4, 1) := by decide +kernel
theorem dX12_has_4 : decode cX12_has 4 = .ok (.if_icmp .ge 48, 3) := by decide +kernel
theorem dX12_has_7 : decode cX12_has 7 = .ok (.aload_n 0, 1) := by decide +kernel
theorem dX12_has_8 : decode cX12_has 8 = .ok (.getfield 13, 3) := by decide +kernel
theorem dX12_has_11 : decode cX12_has 11 = .ok (.iconst 4, 1) := by decide +kernel
theorem dX12_has_12 : decode cX12_has 12 = .ok (.iload_n 1, 1) := by decide +kernel
theorem dX12_has_13 : decode cX12_has 13 = .ok (.imul, 1) := by decide +kernel
theorem dX12_has_14 : decode cX12_has 14 = .ok (.iload_n 3, 1) := by decide +kernel
theorem dX12_has_15 : decode cX12_has 15 = .ok (.iadd, 1) := by decide +kernel
theorem dX12_has_16 : decode cX12_has 16 = .ok (.iaload, 1) := by decide +kernel
theorem dX12_has_17 : decode cX12_has 17 = .ok (.iload_n 2, 1) := by decide +kernel
theorem dX12_has_18 : decode cX12_has 18 = .ok (.iload_n 3, 1) := by decide +kernel
theorem dX12_has_19 : decode cX12_has 19 = .ok (.invokestatic 87, 3) := by decide +kernel
theorem dX12_has_22 : decode cX12_has 22 = .ok (.isub, 1) := by decide +kernel
theorem dX12_has_23 : decode cX12_has 23 = .ok (.istore 4, 2) := by decide +kernel
theorem dX12_has_25 : decode cX12_has 25 = .ok (.aload_n 0, 1) := by decide +kernel
theorem dX12_has_26 : decode cX12_has 26 = .ok (.getfield 13, 3) := by decide +kernel
theorem dX12_has_29 : decode cX12_has 29 = .ok (.iconst 4, 1) := by decide +kernel
theorem dX12_has_30 : decode cX12_has 30 = .ok (.iload_n 1, 1) := by decide +kernel
theorem dX12_has_31 : decode cX12_has 31 = .ok (.imul, 1) := by decide +kernel
theorem dX12_has_32 : decode cX12_has 32 = .ok (.iload_n 3, 1) := by decide +kernel
theorem dX12_has_33 : decode cX12_has 33 = .ok (.iadd, 1) := by decide +kernel
theorem dX12_has_34 : decode cX12_has 34 = .ok (.iload 4, 2) := by decide +kernel
theorem dX12_has_36 : decode cX12_has 36 = .ok (.ifCond .ge 7, 3) := by decide +kernel
theorem dX12_has_39 : decode cX12_has 39 = .ok (.iconst 0, 1) := by decide +kernel
theorem dX12_has_40 : decode cX12_has 40 = .ok (.goto 5, 3) := by decide +kernel
theorem dX12_has_43 : decode cX12_has 43 = .ok (.iload 4, 2) := by decide +kernel
theorem dX12_has_45 : decode cX12_has 45 = .ok (.iastore, 1) := by decide +kernel
theorem dX12_has_46 : decode cX12_has 46 = .ok (.iinc 3 1, 3) := by decide +kernel
theorem dX12_has_49 : decode cX12_has 49 = .ok (.goto (-47), 3) := by decide +kernel
theorem dX12_has_52 : decode cX12_has 52 = .ok (.aload_n 0, 1) := by decide +kernel
theorem dX12_has_53 : decode cX12_has 53 = .ok (.dup, 1) := by decide +kernel
theorem dX12_has_54 : decode cX12_has 54 = .ok (.getfield 174, 3) := by decide +kernel
theorem dX12_has_57 : decode cX12_has 57 = .ok (.iconst 1, 1) := by decide +kernel
theorem dX12_has_58 : decode cX12_has 58 = .ok (.iload_n 1, 1) := by decide +kernel
theorem dX12_has_59 : decode cX12_has 59 = .ok (.ishl, 1) := by decide +kernel
theorem dX12_has_60 : decode cX12_has 60 = .ok (.ior, 1) := by decide +kernel
theorem dX12_has_61 : decode cX12_has 61 = .ok (.putfield 174, 3) := by decide +kernel
theorem dX12_has_64 : decode cX12_has 64 = .ok (.return_, 1) := by decide +kernel
theorem dX12_posts_0 : decode cX12_posts 0 = .ok (.aload_n 0, 1) := by decide +kernel
theorem dX12_posts_1 : decode cX12_posts 1 = .ok (.iload_n 1, 1) := by decide +kernel
theorem dX12_posts_2 : decode cX12_posts 2 = .ok (.invokevirtual 183, 3) := by decide +kernel
theorem dX12_posts_5 : decode cX12_posts 5 = .ok (.istore_n 2, 1) := by decide +kernel
theorem dX12_posts_6 : decode cX12_posts 6 = .ok (.iload_n 2, 1) := by decide +kernel
theorem dX12_posts_7 : decode cX12_posts 7 = .ok (.ifCond .ge 6, 3) := by decide +kernel
theorem dX12_posts_10 : decode cX12_posts 10 = .ok (.bipush (-9), 2) := by decide +kernel
theorem dX12_posts_12 : decode cX12_posts 12 = .ok (.ireturn, 1) := by decide +kernel
theorem dX12_posts_13 : decode cX12_posts 13 = .ok (.aload_n 0, 1) := by decide +kernel
theorem dX12_posts_14 : decode cX12_posts 14 = .ok (.iload_n 2, 1) := by decide +kernel
theorem dX12_posts_15 : decode cX12_posts 15 = .ok (.iload_n 1, 1) := by decide +kernel
theorem dX12_posts_16 : decode cX12_posts 16 = .ok (.invokevirtual 186, 3) := by decide +kernel
theorem dX12_posts_19 : decode cX12_posts 19 = .ok (.aload_n 0, 1) := by decide +kernel
theorem dX12_posts_20 : decode cX12_posts 20 = .ok (.getfield 156, 3) := by decide +kernel
theorem dX12_posts_23 : decode cX12_posts 23 = .ok (.iconst 4, 1) := by decide +kernel
theorem dX12_posts_24 : decode cX12_posts 24 = .ok (.if_icmp .ne 12, 3) := by decide +kernel
theorem dX12_posts_27 : decode cX12_posts 27 = .ok (.aload_n 0, 1) := by decide +kernel
theorem dX12_posts_28 : decode cX12_posts 28 = .ok (.iload_n 1, 1) := by decide +kernel
theorem dX12_posts_29 : decode cX12_posts 29 = .ok (.iconst (-1), 1) := by decide +kernel
theorem dX12_posts_30 : decode cX12_posts 30 = .ok (.invokevirtual 180, 3) := by decide +kernel
theorem dX12_posts_33 : decode cX12_posts 33 = .ok (.goto 5, 3) := by decide +kernel
theorem dX12_posts_36 : decode cX12_posts 36 = .ok (.bipush (-9), 2) := by decide +kernel
theorem dX12_posts_38 : decode cX12_posts 38 = .ok (.istore_n 3, 1) := by decide +kernel
theorem dX12_posts_39 : decode cX12_posts 39 = .ok (.iload_n 3, 1) := by decide +kernel
theorem dX12_posts_40 : decode cX12_posts 40 = .ok (.ifCond .lt 19, 3) := by decide +kernel
theorem dX12_posts_43 : decode cX12_posts 43 = .ok (.aload_n 0, 1) := by decide +kernel
theorem dX12_posts_44 : decode cX12_posts 44 = .ok (.iload_n 3, 1) := by decide +kernel
theorem dX12_posts_45 : decode cX12_posts 45 = .ok (.iload_n 1, 1) := by decide +kernel
theorem dX12_posts_46 : decode cX12_posts 46 = .ok (.invokevirtual 186, 3) := by decide +kernel
theorem dX12_posts_49 : decode cX12_posts 49 = .ok (.aload_n 0, 1) := by decide +kernel
theorem dX12_posts_50 : decode cX12_posts 50 = .ok (.iload_n 1, 1) := by decide +kernel
theorem dX12_posts_51 : decode cX12_posts 51 = .ok (.iconst (-1), 1) := by decide +kernel
theorem dX12_posts_52 : decode cX12_posts 52 = .ok (.invokevirtual 180, 3) := by decide +kernel
theorem dX12_posts_55 : decode cX12_posts 55 = .ok (.istore_n 3, 1) := by decide +kernel
theorem dX12_posts_56 : decode cX12_posts 56 = .ok (.goto (-17), 3) := by decide +kernel
theorem dX12_posts_59 : decode cX12_posts 59 = .ok (.iload_n 2, 1) := by decide +kernel
theorem dX12_posts_60 : decode cX12_posts 60 = .ok (.ireturn, 1) := by decide +kernel
theorem dX12_sumOf_0 : decode cX12_sumOf 0 = .ok (.iconst 0, 1) := by decide +kernel
theorem dX12_sumOf_1 : decode cX12_sumOf 1 = .ok (.istore_n 1, 1) := by decide +kernel
theorem dX12_sumOf_2 : decode cX12_sumOf 2 = .ok (.iconst 0, 1) := by decide +kernel
theorem dX12_sumOf_3 : decode cX12_sumOf 3 = .ok (.istore_n 2, 1) := by decide +kernel
theorem dX12_sumOf_4 : decode cX12_sumOf 4 = .ok (.iload_n 2, 1) := by decide +kernel
theorem dX12_sumOf_5 : decode cX12_sumOf 5 = .ok (.iconst 4, 1) := by decide +kernel
theorem dX12_sumOf_6 : decode cX12_sumOf 6 = .ok (.aload_n 0, 1) := by decide +kernel
theorem dX12_sumOf_7 : decode cX12_sumOf 7 = .ok (.getfield 76, 3) := by decide +kernel
theorem dX12_sumOf_10 : decode cX12_sumOf 10 = .ok (.imul, 1) := by decide +kernel
theorem dX12_sumOf_11 : decode cX12_sumOf 11 = .ok (.if_icmp .ge 18, 3) := by decide +kernel
theorem dX12_sumOf_14 : decode cX12_sumOf 14 = .ok (.iload_n 1, 1) := by decide +kernel
theorem dX12_sumOf_15 : decode cX12_sumOf 15 = .ok (.aload_n 0, 1) := by decide +kernel
theorem dX12_sumOf_16 : decode cX12_sumOf 16 = .ok (.getfield 13, 3) := by decide +kernel
theorem dX12_sumOf_19 : decode cX12_sumOf 19 = .ok (.iload_n 2, 1) := by decide +kernel
theorem dX12_sumOf_20 : decode cX12_sumOf 20 = .ok (.iaload, 1) := by decide +kernel
theorem dX12_sumOf_21 : decode cX12_sumOf 21 = .ok (.iadd, 1) := by decide +kernel
theorem dX12_sumOf_22 : decode cX12_sumOf 22 = .ok (.istore_n 1, 1) := by decide +kernel
theorem dX12_sumOf_23 : decode cX12_sumOf 23 = .ok (.iinc 2 1, 3) := by decide +kernel
theorem dX12_sumOf_26 : decode cX12_sumOf 26 = .ok (.goto (-22), 3) := by decide +kernel
theorem dX12_sumOf_29 : decode cX12_sumOf 29 = .ok (.iload_n 1, 1) := by decide +kernel
theorem dX12_sumOf_30 : decode cX12_sumOf 30 = .ok (.ireturn, 1) := by decide +kernel
theorem dX12_grows_0 : decode cX12_grows 0 = .ok (.iconst 0, 1) := by decide +kernel
theorem dX12_grows_1 : decode cX12_grows 1 = .ok (.istore_n 1, 1) := by decide +kernel
theorem dX12_grows_2 : decode cX12_grows 2 = .ok (.iload_n 1, 1) := by decide +kernel
theorem dX12_grows_3 : decode cX12_grows 3 = .ok (.iconst 4, 1) := by decide +kernel
theorem dX12_grows_4 : decode cX12_grows 4 = .ok (.aload_n 0, 1) := by decide +kernel
theorem dX12_grows_5 : decode cX12_grows 5 = .ok (.getfield 76, 3) := by decide +kernel
theorem dX12_grows_8 : decode cX12_grows 8 = .ok (.imul, 1) := by decide +kernel
theorem dX12_grows_9 : decode cX12_grows 9 = .ok (.if_icmp .ge 43, 3) := by decide +kernel
theorem dX12_grows_12 : decode cX12_grows 12 = .ok (.aload_n 0, 1) := by decide +kernel
theorem dX12_grows_13 : decode cX12_grows 13 = .ok (.getfield 13, 3) := by decide +kernel
theorem dX12_grows_16 : decode cX12_grows 16 = .ok (.iload_n 1, 1) := by decide +kernel
theorem dX12_grows_17 : decode cX12_grows 17 = .ok (.iaload, 1) := by decide +kernel
theorem dX12_grows_18 : decode cX12_grows 18 = .ok (.aload_n 0, 1) := by decide +kernel
theorem dX12_grows_19 : decode cX12_grows 19 = .ok (.getfield 16, 3) := by decide +kernel
theorem dX12_grows_22 : decode cX12_grows 22 = .ok (.iload_n 1, 1) := by decide +kernel
theorem dX12_grows_23 : decode cX12_grows 23 = .ok (.iconst 4, 1) := by decide +kernel
theorem dX12_grows_24 : decode cX12_grows 24 = .ok (.idiv, 1) := by decide +kernel
theorem dX12_grows_25 : decode cX12_grows 25 = .ok (.iaload, 1) := by decide +kernel
theorem dX12_grows_26 : decode cX12_grows 26 = .ok (.iadd, 1) := by decide +kernel
theorem dX12_grows_27 : decode cX12_grows 27 = .ok (.istore_n 2, 1) := by decide +kernel
theorem dX12_grows_28 : decode cX12_grows 28 = .ok (.aload_n 0, 1) := by decide +kernel
theorem dX12_grows_29 : decode cX12_grows 29 = .ok (.getfield 13, 3) := by decide +kernel
theorem dX12_grows_32 : decode cX12_grows 32 = .ok (.iload_n 1, 1) := by decide +kernel
theorem dX12_grows_33 : decode cX12_grows 33 = .ok (.iload_n 2, 1) := by decide +kernel
theorem dX12_grows_34 : decode cX12_grows 34 = .ok (.bipush 30, 2) := by decide +kernel
theorem dX12_grows_36 : decode cX12_grows 36 = .ok (.if_icmp .le 8, 3) := by decide +kernel
theorem dX12_grows_39 : decode cX12_grows 39 = .ok (.bipush 30, 2) := by decide +kernel
theorem dX12_grows_41 : decode cX12_grows 41 = .ok (.goto 4, 3) := by decide +kernel
theorem dX12_grows_44 : decode cX12_grows 44 = .ok (.iload_n 2, 1) := by decide +kernel
theorem dX12_grows_45 : decode cX12_grows 45 = .ok (.iastore, 1) := by decide +kernel
theorem dX12_grows_46 : decode cX12_grows 46 = .ok (.iinc 1 1, 3) := by decide +kernel
theorem dX12_grows_49 : decode cX12_grows 49 = .ok (.goto (-47), 3) := by decide +kernel
theorem dX12_grows_52 : decode cX12_grows 52 = .ok (.return_, 1) := by decide +kernel
theorem dX12_need_0 : decode cX12_need 0 = .ok (.aload_n 0, 1) := by decide +kernel
theorem dX12_need_1 : decode cX12_need 1 = .ok (.iload_n 1, 1) := by decide +kernel
theorem dX12_need_2 : decode cX12_need 2 = .ok (.invokevirtual 128, 3) := by decide +kernel
theorem dX12_need_5 : decode cX12_need 5 = .ok (.ifCond .eq 25, 3) := by decide +kernel
theorem dX12_need_8 : decode cX12_need 8 = .ok (.iload_n 2, 1) := by decide +kernel
theorem dX12_need_9 : decode cX12_need 9 = .ok (.iconst 0, 1) := by decide +kernel
theorem dX12_need_10 : decode cX12_need 10 = .ok (.iconst 3, 1) := by decide +kernel
theorem dX12_need_11 : decode cX12_need 11 = .ok (.invokestatic 83, 3) := by decide +kernel
theorem dX12_need_14 : decode cX12_need 14 = .ok (.ifCond .eq 16, 3) := by decide +kernel
theorem dX12_need_17 : decode cX12_need 17 = .ok (.aload_n 0, 1) := by decide +kernel
theorem dX12_need_18 : decode cX12_need 18 = .ok (.getfield 13, 3) := by decide +kernel
theorem dX12_need_21 : decode cX12_need 21 = .ok (.iconst 4, 1) := by decide +kernel
theorem dX12_need_22 : decode cX12_need 22 = .ok (.iload_n 1, 1) := by decide +kernel
theorem dX12_need_23 : decode cX12_need 23 = .ok (.imul, 1) := by decide +kernel
theorem dX12_need_24 : decode cX12_need 24 = .ok (.iload_n 2, 1) := by decide +kernel
theorem dX12_need_25 : decode cX12_need 25 = .ok (.iadd, 1) := by decide +kernel
theorem dX12_need_26 : decode cX12_need 26 = .ok (.iaload, 1) := by decide +kernel
theorem dX12_need_27 : decode cX12_need 27 = .ok (.goto 8, 3) := by decide +kernel
theorem dX12_need_30 : decode cX12_need 30 = .ok (.aload_n 0, 1) := by decide +kernel
theorem dX12_need_31 : decode cX12_need 31 = .ok (.iconst (-1), 1) := by decide +kernel
theorem dX12_need_32 : decode cX12_need 32 = .ok (.invokevirtual 98, 3) := by decide +kernel
theorem dX12_need_35 : decode cX12_need 35 = .ok (.ireturn, 1) := by decide +kernel
theorem dX12_writer_0 : decode cX12_writer 0 = .ok (.aload_n 0, 1) := by decide +kernel
theorem dX12_writer_1 : decode cX12_writer 1 = .ok (.iload_n 1, 1) := by decide +kernel
theorem dX12_writer_2 : decode cX12_writer 2 = .ok (.invokevirtual 190, 3) := by decide +kernel
theorem dX12_writer_5 : decode cX12_writer 5 = .ok (.ifCond .ne 9, 3) := by decide +kernel
theorem dX12_writer_8 : decode cX12_writer 8 = .ok (.aload_n 0, 1) := by decide +kernel
theorem dX12_writer_9 : decode cX12_writer 9 = .ok (.iconst (-1), 1) := by decide +kernel
theorem dX12_writer_10 : decode cX12_writer 10 = .ok (.invokevirtual 98, 3) := by decide +kernel
theorem dX12_writer_13 : decode cX12_writer 13 = .ok (.ireturn, 1) := by decide +kernel
theorem dX12_writer_14 : decode cX12_writer 14 = .ok (.iload_n 2, 1) := by decide +kernel
theorem dX12_writer_15 : decode cX12_writer 15 = .ok (.iconst 0, 1) := by decide +kernel
theorem dX12_writer_16 : decode cX12_writer 16 = .ok (.iconst 2, 1) := by decide +kernel
theorem dX12_writer_17 : decode cX12_writer 17 = .ok (.invokestatic 83, 3) := by decide +kernel
theorem dX12_writer_20 : decode cX12_writer 20 = .ok (.ifCond .ne 10, 3) := by decide +kernel
theorem dX12_writer_23 : decode cX12_writer 23 = .ok (.aload_n 0, 1) := by decide +kernel
theorem dX12_writer_24 : decode cX12_writer 24 = .ok (.bipush (-2), 2) := by decide +kernel
theorem dX12_writer_26 : decode cX12_writer 26 = .ok (.invokevirtual 98, 3) := by decide +kernel
theorem dX12_writer_29 : decode cX12_writer 29 = .ok (.ireturn, 1) := by decide +kernel
theorem dX12_writer_30 : decode cX12_writer 30 = .ok (.iload_n 2, 1) := by decide +kernel
theorem dX12_writer_31 : decode cX12_writer 31 = .ok (.ifCond .ne 12, 3) := by decide +kernel
theorem dX12_writer_34 : decode cX12_writer 34 = .ok (.aload_n 0, 1) := by decide +kernel
theorem dX12_writer_35 : decode cX12_writer 35 = .ok (.getfield 19, 3) := by decide +kernel
theorem dX12_writer_38 : decode cX12_writer 38 = .ok (.iload_n 1, 1) := by decide +kernel
theorem dX12_writer_39 : decode cX12_writer 39 = .ok (.iaload, 1) := by decide +kernel
theorem dX12_writer_40 : decode cX12_writer 40 = .ok (.goto 23, 3) := by decide +kernel
theorem dX12_writer_43 : decode cX12_writer 43 = .ok (.iload_n 2, 1) := by decide +kernel
theorem dX12_writer_44 : decode cX12_writer 44 = .ok (.iconst 1, 1) := by decide +kernel
theorem dX12_writer_45 : decode cX12_writer 45 = .ok (.if_icmp .ne 12, 3) := by decide +kernel
theorem dX12_writer_48 : decode cX12_writer 48 = .ok (.aload_n 0, 1) := by decide +kernel
theorem dX12_writer_49 : decode cX12_writer 49 = .ok (.getfield 22, 3) := by decide +kernel
theorem dX12_writer_52 : decode cX12_writer 52 = .ok (.iload_n 1, 1) := by decide +kernel
theorem dX12_writer_53 : decode cX12_writer 53 = .ok (.iaload, 1) := by decide +kernel
theorem dX12_writer_54 : decode cX12_writer 54 = .ok (.goto 9, 3) := by decide +kernel
theorem dX12_writer_57 : decode cX12_writer 57 = .ok (.aload_n 0, 1) := by decide +kernel
theorem dX12_writer_58 : decode cX12_writer 58 = .ok (.getfield 25, 3) := by decide +kernel
theorem dX12_writer_61 : decode cX12_writer 61 = .ok (.iload_n 1, 1) := by decide +kernel
theorem dX12_writer_62 : decode cX12_writer 62 = .ok (.iaload, 1) := by decide +kernel
theorem dX12_writer_63 : decode cX12_writer 63 = .ok (.ireturn, 1) := by decide +kernel
theorem dX12_law_0 : decode cX12_law 0 = .ok (.iload_n 1, 1) := by decide +kernel
theorem dX12_law_1 : decode cX12_law 1 = .ok (.iconst 0, 1) := by decide +kernel
theorem dX12_law_2 : decode cX12_law 2 = .ok (.iconst 4, 1) := by decide +kernel
theorem dX12_law_3 : decode cX12_law 3 = .ok (.invokestatic 83, 3) := by decide +kernel
theorem dX12_law_6 : decode cX12_law 6 = .ok (.ifCond .ne 10, 3) := by decide +kernel
theorem dX12_law_9 : decode cX12_law 9 = .ok (.aload_n 0, 1) := by decide +kernel
theorem dX12_law_10 : decode cX12_law 10 = .ok (.bipush (-2), 2) := by decide +kernel
theorem dX12_law_12 : decode cX12_law 12 = .ok (.invokevirtual 98, 3) := by decide +kernel
theorem dX12_law_15 : decode cX12_law 15 = .ok (.ireturn, 1) := by decide +kernel
theorem dX12_law_16 : decode cX12_law 16 = .ok (.aload_n 0, 1) := by decide +kernel
theorem dX12_law_17 : decode cX12_law 17 = .ok (.getfield 156, 3) := by decide +kernel
theorem dX12_law_20 : decode cX12_law 20 = .ok (.istore_n 2, 1) := by decide +kernel
theorem dX12_law_21 : decode cX12_law 21 = .ok (.aload_n 0, 1) := by decide +kernel
theorem dX12_law_22 : decode cX12_law 22 = .ok (.iload_n 1, 1) := by decide +kernel
theorem dX12_law_23 : decode cX12_law 23 = .ok (.putfield 156, 3) := by decide +kernel
theorem dX12_law_26 : decode cX12_law 26 = .ok (.iload_n 2, 1) := by decide +kernel
theorem dX12_law_27 : decode cX12_law 27 = .ok (.ireturn, 1) := by decide +kernel
theorem dX12_err_0 : decode cX12_err 0 = .ok (.iload_n 1, 1) := by decide +kernel
theorem dX12_err_1 : decode cX12_err 1 = .ok (.iconst 0, 1) := by decide +kernel
theorem dX12_err_2 : decode cX12_err 2 = .ok (.bipush 50, 2) := by decide +kernel
theorem dX12_err_4 : decode cX12_err 4 = .ok (.invokestatic 91, 3) := by decide +kernel
theorem dX12_err_7 : decode cX12_err 7 = .ok (.istore_n 2, 1) := by decide +kernel
theorem dX12_err_8 : decode cX12_err 8 = .ok (.iload_n 2, 1) := by decide +kernel
theorem dX12_err_9 : decode cX12_err 9 = .ok (.ifCond .eq 9, 3) := by decide +kernel
theorem dX12_err_12 : decode cX12_err 12 = .ok (.aload_n 0, 1) := by decide +kernel
theorem dX12_err_13 : decode cX12_err 13 = .ok (.iload_n 2, 1) := by decide +kernel
theorem dX12_err_14 : decode cX12_err 14 = .ok (.invokevirtual 98, 3) := by decide +kernel
theorem dX12_err_17 : decode cX12_err 17 = .ok (.ireturn, 1) := by decide +kernel
theorem dX12_err_18 : decode cX12_err 18 = .ok (.aload_n 0, 1) := by decide +kernel
theorem dX12_err_19 : decode cX12_err 19 = .ok (.getfield 159, 3) := by decide +kernel
theorem dX12_err_22 : decode cX12_err 22 = .ok (.istore_n 3, 1) := by decide +kernel
theorem dX12_err_23 : decode cX12_err 23 = .ok (.aload_n 0, 1) := by decide +kernel
theorem dX12_err_24 : decode cX12_err 24 = .ok (.iload_n 1, 1) := by decide +kernel
theorem dX12_err_25 : decode cX12_err 25 = .ok (.putfield 159, 3) := by decide +kernel
theorem dX12_err_28 : decode cX12_err 28 = .ok (.iload_n 3, 1) := by decide +kernel
theorem dX12_err_29 : decode cX12_err 29 = .ok (.ireturn, 1) := by decide +kernel
theorem dX12_score_0 : decode cX12_score 0 = .ok (.aload_n 0, 1) := by decide +kernel
theorem dX12_score_1 : decode cX12_score 1 = .ok (.iload_n 1, 1) := by decide +kernel
theorem dX12_score_2 : decode cX12_score 2 = .ok (.invokevirtual 128, 3) := by decide +kernel
theorem dX12_score_5 : decode cX12_score 5 = .ok (.ifCond .eq 19, 3) := by decide +kernel
theorem dX12_score_8 : decode cX12_score 8 = .ok (.iload_n 2, 1) := by decide +kernel
theorem dX12_score_9 : decode cX12_score 9 = .ok (.invokestatic 193, 3) := by decide +kernel
theorem dX12_score_12 : decode cX12_score 12 = .ok (.ifCond .eq 12, 3) := by decide +kernel
theorem dX12_score_15 : decode cX12_score 15 = .ok (.aload_n 0, 1) := by decide +kernel
theorem dX12_score_16 : decode cX12_score 16 = .ok (.iload_n 1, 1) := by decide +kernel
theorem dX12_score_17 : decode cX12_score 17 = .ok (.iload_n 2, 1) := by decide +kernel
theorem dX12_score_18 : decode cX12_score 18 = .ok (.invokevirtual 177, 3) := by decide +kernel
theorem dX12_score_21 : decode cX12_score 21 = .ok (.goto 8, 3) := by decide +kernel
theorem dX12_score_24 : decode cX12_score 24 = .ok (.aload_n 0, 1) := by decide +kernel
theorem dX12_score_25 : decode cX12_score 25 = .ok (.iconst (-1), 1) := by decide +kernel
theorem dX12_score_26 : decode cX12_score 26 = .ok (.invokevirtual 98, 3) := by decide +kernel
theorem dX12_score_29 : decode cX12_score 29 = .ok (.ireturn, 1) := by decide +kernel
theorem dX12_goes_0 : decode cX12_goes 0 = .ok (.iload_n 1, 1) := by decide +kernel
theorem dX12_goes_1 : decode cX12_goes 1 = .ok (.invokestatic 193, 3) := by decide +kernel
theorem dX12_goes_4 : decode cX12_goes 4 = .ok (.ifCond .eq 11, 3) := by decide +kernel
theorem dX12_goes_7 : decode cX12_goes 7 = .ok (.aload_n 0, 1) := by decide +kernel
theorem dX12_goes_8 : decode cX12_goes 8 = .ok (.iload_n 1, 1) := by decide +kernel
theorem dX12_goes_9 : decode cX12_goes 9 = .ok (.invokevirtual 183, 3) := by decide +kernel
theorem dX12_goes_12 : decode cX12_goes 12 = .ok (.goto 8, 3) := by decide +kernel
theorem dX12_goes_15 : decode cX12_goes 15 = .ok (.aload_n 0, 1) := by decide +kernel
theorem dX12_goes_16 : decode cX12_goes 16 = .ok (.iconst (-1), 1) := by decide +kernel
theorem dX12_goes_17 : decode cX12_goes 17 = .ok (.invokevirtual 98, 3) := by decide +kernel
theorem dX12_goes_20 : decode cX12_goes 20 = .ok (.ireturn, 1) := by decide +kernel
theorem dX12_post_0 : decode cX12_post 0 = .ok (.iload_n 1, 1) := by decide +kernel
theorem dX12_post_1 : decode cX12_post 1 = .ok (.invokestatic 193, 3) := by decide +kernel
theorem dX12_post_4 : decode cX12_post 4 = .ok (.ifCond .ne 9, 3) := by decide +kernel
theorem dX12_post_7 : decode cX12_post 7 = .ok (.aload_n 0, 1) := by decide +kernel
theorem dX12_post_8 : decode cX12_post 8 = .ok (.iconst (-1), 1) := by decide +kernel
theorem dX12_post_9 : decode cX12_post 9 = .ok (.invokevirtual 98, 3) := by decide +kernel
theorem dX12_post_12 : decode cX12_post 12 = .ok (.ireturn, 1) := by decide +kernel
theorem dX12_post_13 : decode cX12_post 13 = .ok (.aload_n 0, 1) := by decide +kernel
theorem dX12_post_14 : decode cX12_post 14 = .ok (.dup, 1) := by decide +kernel
theorem dX12_post_15 : decode cX12_post 15 = .ok (.getfield 171, 3) := by decide +kernel
theorem dX12_post_18 : decode cX12_post 18 = .ok (.iconst 1, 1) := by decide +kernel
theorem dX12_post_19 : decode cX12_post 19 = .ok (.iadd, 1) := by decide +kernel
theorem dX12_post_20 : decode cX12_post 20 = .ok (.putfield 171, 3) := by decide +kernel
theorem dX12_post_23 : decode cX12_post 23 = .ok (.aload_n 0, 1) := by decide +kernel
theorem dX12_post_24 : decode cX12_post 24 = .ok (.iload_n 1, 1) := by decide +kernel
theorem dX12_post_25 : decode cX12_post 25 = .ok (.invokevirtual 196, 3) := by decide +kernel
theorem dX12_post_28 : decode cX12_post 28 = .ok (.ireturn, 1) := by decide +kernel
theorem dX12_day_0 : decode cX12_day 0 = .ok (.aload_n 0, 1) := by decide +kernel
theorem dX12_day_1 : decode cX12_day 1 = .ok (.invokevirtual 199, 3) := by decide +kernel
theorem dX12_day_4 : decode cX12_day 4 = .ok (.aload_n 0, 1) := by decide +kernel
theorem dX12_day_5 : decode cX12_day 5 = .ok (.dup, 1) := by decide +kernel
theorem dX12_day_6 : decode cX12_day 6 = .ok (.getfield 168, 3) := by decide +kernel
theorem dX12_day_9 : decode cX12_day 9 = .ok (.iconst 1, 1) := by decide +kernel
theorem dX12_day_10 : decode cX12_day 10 = .ok (.iadd, 1) := by decide +kernel
theorem dX12_day_11 : decode cX12_day 11 = .ok (.putfield 168, 3) := by decide +kernel
theorem dX12_day_14 : decode cX12_day 14 = .ok (.aload_n 0, 1) := by decide +kernel
theorem dX12_day_15 : decode cX12_day 15 = .ok (.invokevirtual 202, 3) := by decide +kernel
theorem dX12_day_18 : decode cX12_day 18 = .ok (.ireturn, 1) := by decide +kernel
theorem dX12_allNeed_0 : decode cX12_allNeed 0 = .ok (.aload_n 0, 1) := by decide +kernel
theorem dX12_allNeed_1 : decode cX12_allNeed 1 = .ok (.invokevirtual 202, 3) := by decide +kernel
theorem dX12_allNeed_4 : decode cX12_allNeed 4 = .ok (.ireturn, 1) := by decide +kernel
theorem dX12_canOf_0 : decode cX12_canOf 0 = .ok (.bipush (-9), 2) := by decide +kernel
theorem dX12_canOf_2 : decode cX12_canOf 2 = .ok (.istore_n 2, 1) := by decide +kernel
theorem dX12_canOf_3 : decode cX12_canOf 3 = .ok (.iconst 0, 1) := by decide +kernel
theorem dX12_canOf_4 : decode cX12_canOf 4 = .ok (.istore_n 3, 1) := by decide +kernel
theorem dX12_canOf_5 : decode cX12_canOf 5 = .ok (.iload_n 3, 1) := by decide +kernel
theorem dX12_canOf_6 : decode cX12_canOf 6 = .ok (.bipush 81, 2) := by decide +kernel
theorem dX12_canOf_8 : decode cX12_canOf 8 = .ok (.if_icmp .ge 44, 3) := by decide +kernel
theorem dX12_canOf_11 : decode cX12_canOf 11 = .ok (.aload_n 0, 1) := by decide +kernel
theorem dX12_canOf_12 : decode cX12_canOf 12 = .ok (.iload_n 3, 1) := by decide +kernel
theorem dX12_canOf_13 : decode cX12_canOf 13 = .ok (.invokestatic 205, 3) := by decide +kernel
theorem dX12_canOf_16 : decode cX12_canOf 16 = .ok (.invokevirtual 183, 3) := by decide +kernel
theorem dX12_canOf_19 : decode cX12_canOf 19 = .ok (.iload_n 1, 1) := by decide +kernel
theorem dX12_canOf_20 : decode cX12_canOf 20 = .ok (.if_icmp .ne 26, 3) := by decide +kernel
theorem dX12_canOf_23 : decode cX12_canOf 23 = .ok (.iload_n 2, 1) := by decide +kernel
theorem dX12_canOf_24 : decode cX12_canOf 24 = .ok (.ifCond .lt 17, 3) := by decide +kernel
theorem dX12_canOf_27 : decode cX12_canOf 27 = .ok (.iload_n 3, 1) := by decide +kernel
theorem dX12_canOf_28 : decode cX12_canOf 28 = .ok (.invokestatic 205, 3) := by decide +kernel
theorem dX12_canOf_31 : decode cX12_canOf 31 = .ok (.invokestatic 208, 3) := by decide +kernel
theorem dX12_canOf_34 : decode cX12_canOf 34 = .ok (.iload_n 2, 1) := by decide +kernel
theorem dX12_canOf_35 : decode cX12_canOf 35 = .ok (.invokestatic 208, 3) := by decide +kernel
theorem dX12_canOf_38 : decode cX12_canOf 38 = .ok (.if_icmp .ge 8, 3) := by decide +kernel
theorem dX12_canOf_41 : decode cX12_canOf 41 = .ok (.iload_n 3, 1) := by decide +kernel
theorem dX12_canOf_42 : decode cX12_canOf 42 = .ok (.invokestatic 205, 3) := by decide +kernel
theorem dX12_canOf_45 : decode cX12_canOf 45 = .ok (.istore_n 2, 1) := by decide +kernel
theorem dX12_canOf_46 : decode cX12_canOf 46 = .ok (.iinc 3 1, 3) := by decide +kernel
theorem dX12_canOf_49 : decode cX12_canOf 49 = .ok (.goto (-44), 3) := by decide +kernel
theorem dX12_canOf_52 : decode cX12_canOf 52 = .ok (.iload_n 2, 1) := by decide +kernel
theorem dX12_canOf_53 : decode cX12_canOf 53 = .ok (.ireturn, 1) := by decide +kernel
theorem dX12_can_0 : decode cX12_can 0 = .ok (.aload_n 0, 1) := by decide +kernel
theorem dX12_can_1 : decode cX12_can 1 = .ok (.iload_n 1, 1) := by decide +kernel
theorem dX12_can_2 : decode cX12_can 2 = .ok (.invokevirtual 128, 3) := by decide +kernel
theorem dX12_can_5 : decode cX12_can 5 = .ok (.ifCond .eq 11, 3) := by decide +kernel
theorem dX12_can_8 : decode cX12_can 8 = .ok (.aload_n 0, 1) := by decide +kernel
theorem dX12_can_9 : decode cX12_can 9 = .ok (.iload_n 1, 1) := by decide +kernel
theorem dX12_can_10 : decode cX12_can 10 = .ok (.invokevirtual 211, 3) := by decide +kernel
theorem dX12_can_13 : decode cX12_can 13 = .ok (.goto 8, 3) := by decide +kernel
theorem dX12_can_16 : decode cX12_can 16 = .ok (.aload_n 0, 1) := by decide +kernel
theorem dX12_can_17 : decode cX12_can 17 = .ok (.iconst (-1), 1) := by decide +kernel
theorem dX12_can_18 : decode cX12_can 18 = .ok (.invokevirtual 98, 3) := by decide +kernel
theorem dX12_can_21 : decode cX12_can 21 = .ok (.ireturn, 1) := by decide +kernel
theorem dX12_whoGets_0 : decode cX12_whoGets 0 = .ok (.iconst 0, 1) := by decide +kernel
theorem dX12_whoGets_1 : decode cX12_whoGets 1 = .ok (.istore_n 1, 1) := by decide +kernel
theorem dX12_whoGets_2 : decode cX12_whoGets 2 = .ok (.iconst 0, 1) := by decide +kernel
theorem dX12_whoGets_3 : decode cX12_whoGets 3 = .ok (.istore_n 2, 1) := by decide +kernel
theorem dX12_whoGets_4 : decode cX12_whoGets 4 = .ok (.iload_n 2, 1) := by decide +kernel
theorem dX12_whoGets_5 : decode cX12_whoGets 5 = .ok (.bipush 81, 2) := by decide +kernel
theorem dX12_whoGets_7 : decode cX12_whoGets 7 = .ok (.if_icmp .ge 32, 3) := by decide +kernel
theorem dX12_whoGets_10 : decode cX12_whoGets 10 = .ok (.aload_n 0, 1) := by decide +kernel
theorem dX12_whoGets_11 : decode cX12_whoGets 11 = .ok (.iload_n 2, 1) := by decide +kernel
theorem dX12_whoGets_12 : decode cX12_whoGets 12 = .ok (.invokestatic 205, 3) := by decide +kernel
theorem dX12_whoGets_15 : decode cX12_whoGets 15 = .ok (.invokevirtual 183, 3) := by decide +kernel
theorem dX12_whoGets_18 : decode cX12_whoGets 18 = .ok (.istore_n 3, 1) := by decide +kernel
theorem dX12_whoGets_19 : decode cX12_whoGets 19 = .ok (.iload_n 1, 1) := by decide +kernel
theorem dX12_whoGets_20 : decode cX12_whoGets 20 = .ok (.iload_n 3, 1) := by decide +kernel
theorem dX12_whoGets_21 : decode cX12_whoGets 21 = .ok (.ifCond .ge 7, 3) := by decide +kernel
theorem dX12_whoGets_24 : decode cX12_whoGets 24 = .ok (.iconst 0, 1) := by decide +kernel
theorem dX12_whoGets_25 : decode cX12_whoGets 25 = .ok (.goto 6, 3) := by decide +kernel
theorem dX12_whoGets_28 : decode cX12_whoGets 28 = .ok (.iconst 1, 1) := by decide +kernel
theorem dX12_whoGets_29 : decode cX12_whoGets 29 = .ok (.iload_n 3, 1) := by decide +kernel
theorem dX12_whoGets_30 : decode cX12_whoGets 30 = .ok (.ishl, 1) := by decide +kernel
theorem dX12_whoGets_31 : decode cX12_whoGets 31 = .ok (.ior, 1) := by decide +kernel
theorem dX12_whoGets_32 : decode cX12_whoGets 32 = .ok (.istore_n 1, 1) := by decide +kernel
theorem dX12_whoGets_33 : decode cX12_whoGets 33 = .ok (.iinc 2 1, 3) := by decide +kernel
theorem dX12_whoGets_36 : decode cX12_whoGets 36 = .ok (.goto (-32), 3) := by decide +kernel
theorem dX12_whoGets_39 : decode cX12_whoGets 39 = .ok (.iload_n 1, 1) := by decide +kernel
theorem dX12_whoGets_40 : decode cX12_whoGets 40 = .ok (.ireturn, 1) := by decide +kernel
theorem dX12_who_0 : decode cX12_who 0 = .ok (.aload_n 0, 1) := by decide +kernel
theorem dX12_who_1 : decode cX12_who 1 = .ok (.invokevirtual 214, 3) := by decide +kernel
theorem dX12_who_4 : decode cX12_who 4 = .ok (.ireturn, 1) := by decide +kernel
theorem dX12_never_0 : decode cX12_never 0 = .ok (.aload_n 0, 1) := by decide +kernel
theorem dX12_never_1 : decode cX12_never 1 = .ok (.iload_n 1, 1) := by decide +kernel
theorem dX12_never_2 : decode cX12_never 2 = .ok (.invokevirtual 128, 3) := by decide +kernel
theorem dX12_never_5 : decode cX12_never 5 = .ok (.ifCond .ne 9, 3) := by decide +kernel
theorem dX12_never_8 : decode cX12_never 8 = .ok (.aload_n 0, 1) := by decide +kernel
theorem dX12_never_9 : decode cX12_never 9 = .ok (.iconst (-1), 1) := by decide +kernel
theorem dX12_never_10 : decode cX12_never 10 = .ok (.invokevirtual 98, 3) := by decide +kernel
theorem dX12_never_13 : decode cX12_never 13 = .ok (.ireturn, 1) := by decide +kernel
theorem dX12_never_14 : decode cX12_never 14 = .ok (.aload_n 0, 1) := by decide +kernel
theorem dX12_never_15 : decode cX12_never 15 = .ok (.invokevirtual 214, 3) := by decide +kernel
theorem dX12_never_18 : decode cX12_never 18 = .ok (.istore_n 2, 1) := by decide +kernel
theorem dX12_never_19 : decode cX12_never 19 = .ok (.iload_n 2, 1) := by decide +kernel
theorem dX12_never_20 : decode cX12_never 20 = .ok (.iload_n 1, 1) := by decide +kernel
theorem dX12_never_21 : decode cX12_never 21 = .ok (.ishr, 1) := by decide +kernel
theorem dX12_never_22 : decode cX12_never 22 = .ok (.iconst 1, 1) := by decide +kernel
theorem dX12_never_23 : decode cX12_never 23 = .ok (.iand, 1) := by decide +kernel
theorem dX12_never_24 : decode cX12_never 24 = .ok (.iconst 1, 1) := by decide +kernel
theorem dX12_never_25 : decode cX12_never 25 = .ok (.if_icmp .ne 7, 3) := by decide +kernel
theorem dX12_never_28 : decode cX12_never 28 = .ok (.iconst 0, 1) := by decide +kernel
theorem dX12_never_29 : decode cX12_never 29 = .ok (.goto 4, 3) := by decide +kernel
theorem dX12_never_32 : decode cX12_never 32 = .ok (.iload_n 2, 1) := by decide +kernel
theorem dX12_never_33 : decode cX12_never 33 = .ok (.ireturn, 1) := by decide +kernel
theorem dX12_isReached_0 : decode cX12_isReached 0 = .ok (.aload_n 0, 1) := by decide +kernel
theorem dX12_isReached_1 : decode cX12_isReached 1 = .ok (.invokevirtual 214, 3) := by decide +kernel
theorem dX12_isReached_4 : decode cX12_isReached 4 = .ok (.iload_n 1, 1) := by decide +kernel
theorem dX12_isReached_5 : decode cX12_isReached 5 = .ok (.ishr, 1) := by decide +kernel
theorem dX12_isReached_6 : decode cX12_isReached 6 = .ok (.iconst 1, 1) := by decide +kernel
theorem dX12_isReached_7 : decode cX12_isReached 7 = .ok (.iand, 1) := by decide +kernel
theorem dX12_isReached_8 : decode cX12_isReached 8 = .ok (.iconst 1, 1) := by decide +kernel
theorem dX12_isReached_9 : decode cX12_isReached 9 = .ok (.if_icmp .ne 7, 3) := by decide +kernel
theorem dX12_isReached_12 : decode cX12_isReached 12 = .ok (.iconst 1, 1) := by decide +kernel
theorem dX12_isReached_13 : decode cX12_isReached 13 = .ok (.goto 4, 3) := by decide +kernel
theorem dX12_isReached_16 : decode cX12_isReached 16 = .ok (.iconst 0, 1) := by decide +kernel
theorem dX12_isReached_17 : decode cX12_isReached 17 = .ok (.ireturn, 1) := by decide +kernel
theorem dX12_costAhead_0 : decode cX12_costAhead 0 = .ok (.iload_n 2, 1) := by decide +kernel
theorem dX12_costAhead_1 : decode cX12_costAhead 1 = .ok (.ifCond .ne 18, 3) := by decide +kernel
theorem dX12_costAhead_4 : decode cX12_costAhead 4 = .ok (.aload_n 0, 1) := by decide +kernel
theorem dX12_costAhead_5 : decode cX12_costAhead 5 = .ok (.iload_n 1, 1) := by decide +kernel
theorem dX12_costAhead_6 : decode cX12_costAhead 6 = .ok (.invokevirtual 217, 3) := by decide +kernel
theorem dX12_costAhead_9 : decode cX12_costAhead 9 = .ok (.ifCond .eq 7, 3) := by decide +kernel
theorem dX12_costAhead_12 : decode cX12_costAhead 12 = .ok (.iconst 0, 1) := by decide +kernel
theorem dX12_costAhead_13 : decode cX12_costAhead 13 = .ok (.goto 5, 3) := by decide +kernel
theorem dX12_costAhead_16 : decode cX12_costAhead 16 = .ok (.bipush (-9), 2) := by decide +kernel
theorem dX12_costAhead_18 : decode cX12_costAhead 18 = .ok (.ireturn, 1) := by decide +kernel
theorem dX12_costAhead_19 : decode cX12_costAhead 19 = .ok (.bipush (-9), 2) := by decide +kernel
theorem dX12_costAhead_21 : decode cX12_costAhead 21 = .ok (.istore_n 3, 1) := by decide +kernel
theorem dX12_costAhead_22 : decode cX12_costAhead 22 = .ok (.iconst 0, 1) := by decide +kernel
theorem dX12_costAhead_23 : decode cX12_costAhead 23 = .ok (.istore 4, 2) := by decide +kernel
theorem dX12_costAhead_25 : decode cX12_costAhead 25 = .ok (.iload 4, 2) := by decide +kernel
theorem dX12_costAhead_27 : decode cX12_costAhead 27 = .ok (.bipush 81, 2) := by decide +kernel
theorem dX12_costAhead_29 : decode cX12_costAhead 29 = .ok (.if_icmp .ge 113, 3) := by decide +kernel
theorem dX12_costAhead_32 : decode cX12_costAhead 32 = .ok (.iload_n 3, 1) := by decide +kernel
theorem dX12_costAhead_33 : decode cX12_costAhead 33 = .ok (.ifCond .lt 18, 3) := by decide +kernel
theorem dX12_costAhead_36 : decode cX12_costAhead 36 = .ok (.iload 4, 2) := by decide +kernel
theorem dX12_costAhead_38 : decode cX12_costAhead 38 = .ok (.invokestatic 205, 3) := by decide +kernel
theorem dX12_costAhead_41 : decode cX12_costAhead 41 = .ok (.invokestatic 208, 3) := by decide +kernel
theorem dX12_costAhead_44 : decode cX12_costAhead 44 = .ok (.iload_n 3, 1) := by decide +kernel
theorem dX12_costAhead_45 : decode cX12_costAhead 45 = .ok (.if_icmp .lt 6, 3) := by decide +kernel
theorem dX12_costAhead_48 : decode cX12_costAhead 48 = .ok (.goto 88, 3) := by decide +kernel
theorem dX12_costAhead_51 : decode cX12_costAhead 51 = .ok (.aload_n 0, 1) := by decide +kernel
theorem dX12_costAhead_52 : decode cX12_costAhead 52 = .ok (.iload_n 2, 1) := by decide +kernel
theorem dX12_costAhead_53 : decode cX12_costAhead 53 = .ok (.invokevirtual 220, 3) := by decide +kernel
theorem dX12_costAhead_56 : decode cX12_costAhead 56 = .ok (.aload_n 0, 1) := by decide +kernel
theorem dX12_costAhead_57 : decode cX12_costAhead 57 = .ok (.iload 4, 2) := by decide +kernel
theorem dX12_costAhead_59 : decode cX12_costAhead 59 = .ok (.invokestatic 205, 3) := by decide +kernel
theorem dX12_costAhead_62 : decode cX12_costAhead 62 = .ok (.invokevirtual 196, 3) := by decide +kernel
theorem dX12_costAhead_65 : decode cX12_costAhead 65 = .ok (.pop, 1) := by decide +kernel
theorem dX12_costAhead_66 : decode cX12_costAhead 66 = .ok (.aload_n 0, 1) := by decide +kernel
theorem dX12_costAhead_67 : decode cX12_costAhead 67 = .ok (.iload_n 1, 1) := by decide +kernel
theorem dX12_costAhead_68 : decode cX12_costAhead 68 = .ok (.iload_n 2, 1) := by decide +kernel
theorem dX12_costAhead_69 : decode cX12_costAhead 69 = .ok (.iconst 1, 1) := by decide +kernel
theorem dX12_costAhead_70 : decode cX12_costAhead 70 = .ok (.isub, 1) := by decide +kernel
theorem dX12_costAhead_71 : decode cX12_costAhead 71 = .ok (.iload_n 3, 1) := by decide +kernel
theorem dX12_costAhead_72 : decode cX12_costAhead 72 = .ok (.ifCond .ge 8, 3) := by decide +kernel
theorem dX12_costAhead_75 : decode cX12_costAhead 75 = .ok (.bipush (-9), 2) := by decide +kernel
theorem dX12_costAhead_77 : decode cX12_costAhead 77 = .ok (.goto 13, 3) := by decide +kernel
theorem dX12_costAhead_80 : decode cX12_costAhead 80 = .ok (.iload_n 3, 1) := by decide +kernel
theorem dX12_costAhead_81 : decode cX12_costAhead 81 = .ok (.iload 4, 2) := by decide +kernel
theorem dX12_costAhead_83 : decode cX12_costAhead 83 = .ok (.invokestatic 205, 3) := by decide +kernel
theorem dX12_costAhead_86 : decode cX12_costAhead 86 = .ok (.invokestatic 208, 3) := by decide +kernel
theorem dX12_costAhead_89 : decode cX12_costAhead 89 = .ok (.isub, 1) := by decide +kernel
theorem dX12_costAhead_90 : decode cX12_costAhead 90 = .ok (.invokevirtual 224, 3) := by decide +kernel
theorem dX12_costAhead_93 : decode cX12_costAhead 93 = .ok (.istore 5, 2) := by decide +kernel
theorem dX12_costAhead_95 : decode cX12_costAhead 95 = .ok (.aload_n 0, 1) := by decide +kernel
theorem dX12_costAhead_96 : decode cX12_costAhead 96 = .ok (.iload_n 2, 1) := by decide +kernel
theorem dX12_costAhead_97 : decode cX12_costAhead 97 = .ok (.invokevirtual 227, 3) := by decide +kernel
theorem dX12_costAhead_100 : decode cX12_costAhead 100 = .ok (.iload 5, 2) := by decide +kernel
theorem dX12_costAhead_102 : decode cX12_costAhead 102 = .ok (.ifCond .lt 34, 3) := by decide +kernel
theorem dX12_costAhead_105 : decode cX12_costAhead 105 = .ok (.iload_n 3, 1) := by decide +kernel
theorem dX12_costAhead_106 : decode cX12_costAhead 106 = .ok (.ifCond .lt 18, 3) := by decide +kernel
theorem dX12_costAhead_109 : decode cX12_costAhead 109 = .ok (.iload 5, 2) := by decide +kernel
theorem dX12_costAhead_111 : decode cX12_costAhead 111 = .ok (.iload 4, 2) := by decide +kernel
theorem dX12_costAhead_113 : decode cX12_costAhead 113 = .ok (.invokestatic 205, 3) := by decide +kernel
theorem dX12_costAhead_116 : decode cX12_costAhead 116 = .ok (.invokestatic 208, 3) := by decide +kernel
theorem dX12_costAhead_119 : decode cX12_costAhead 119 = .ok (.iadd, 1) := by decide +kernel
theorem dX12_costAhead_120 : decode cX12_costAhead 120 = .ok (.iload_n 3, 1) := by decide +kernel
theorem dX12_costAhead_121 : decode cX12_costAhead 121 = .ok (.if_icmp .ge 15, 3) := by decide +kernel
theorem dX12_costAhead_124 : decode cX12_costAhead 124 = .ok (.iload 5, 2) := by decide +kernel
theorem dX12_costAhead_126 : decode cX12_costAhead 126 = .ok (.iload 4, 2) := by decide +kernel
theorem dX12_costAhead_128 : decode cX12_costAhead 128 = .ok (.invokestatic 205, 3) := by decide +kernel
theorem dX12_costAhead_131 : decode cX12_costAhead 131 = .ok (.invokestatic 208, 3) := by decide +kernel
theorem dX12_costAhead_134 : decode cX12_costAhead 134 = .ok (.iadd, 1) := by decide +kernel
theorem dX12_costAhead_135 : decode cX12_costAhead 135 = .ok (.istore_n 3, 1) := by decide +kernel
theorem dX12_costAhead_136 : decode cX12_costAhead 136 = .ok (.iinc 4 1, 3) := by decide +kernel
theorem dX12_costAhead_139 : decode cX12_costAhead 139 = .ok (.goto (-114), 3) := by decide +kernel
theorem dX12_costAhead_142 : decode cX12_costAhead 142 = .ok (.iload_n 3, 1) := by decide +kernel
theorem dX12_costAhead_143 : decode cX12_costAhead 143 = .ok (.ireturn, 1) := by decide +kernel
theorem dX12_costAheadOne_0 : decode cX12_costAheadOne 0 = .ok (.iload_n 2, 1) := by decide +kernel
theorem dX12_costAheadOne_1 : decode cX12_costAheadOne 1 = .ok (.ifCond .ne 18, 3) := by decide +kernel
theorem dX12_costAheadOne_4 : decode cX12_costAheadOne 4 = .ok (.aload_n 0, 1) := by decide +kernel
theorem dX12_costAheadOne_5 : decode cX12_costAheadOne 5 = .ok (.iload_n 1, 1) := by decide +kernel
theorem dX12_costAheadOne_6 : decode cX12_costAheadOne 6 = .ok (.invokevirtual 217, 3) := by decide +kernel
theorem dX12_costAheadOne_9 : decode cX12_costAheadOne 9 = .ok (.ifCond .eq 7, 3) := by decide +kernel
theorem dX12_costAheadOne_12 : decode cX12_costAheadOne 12 = .ok (.iconst 0, 1) := by decide +kernel
theorem dX12_costAheadOne_13 : decode cX12_costAheadOne 13 = .ok (.goto 5, 3) := by decide +kernel
theorem dX12_costAheadOne_16 : decode cX12_costAheadOne 16 = .ok (.bipush (-9), 2) := by decide +kernel
theorem dX12_costAheadOne_18 : decode cX12_costAheadOne 18 = .ok (.ireturn, 1) := by decide +kernel
theorem dX12_costAheadOne_19 : decode cX12_costAheadOne 19 = .ok (.bipush (-9), 2) := by decide +kernel
theorem dX12_costAheadOne_21 : decode cX12_costAheadOne 21 = .ok (.istore 4, 2) := by decide +kernel
theorem dX12_costAheadOne_23 : decode cX12_costAheadOne 23 = .ok (.iconst 0, 1) := by decide +kernel
theorem dX12_costAheadOne_24 : decode cX12_costAheadOne 24 = .ok (.istore 5, 2) := by decide +kernel
theorem dX12_costAheadOne_26 : decode cX12_costAheadOne 26 = .ok (.iload 5, 2) := by decide +kernel
theorem dX12_costAheadOne_28 : decode cX12_costAheadOne 28 = .ok (.bipush 81, 2) := by decide +kernel
theorem dX12_costAheadOne_30 : decode cX12_costAheadOne 30 = .ok (.if_icmp .ge 76, 3) := by decide +kernel
theorem dX12_costAheadOne_33 : decode cX12_costAheadOne 33 = .ok (.iload 5, 2) := by decide +kernel
theorem dX12_costAheadOne_35 : decode cX12_costAheadOne 35 = .ok (.invokestatic 205, 3) := by decide +kernel
theorem dX12_costAheadOne_38 : decode cX12_costAheadOne 38 = .ok (.invokestatic 208, 3) := by decide +kernel
theorem dX12_costAheadOne_41 : decode cX12_costAheadOne 41 = .ok (.istore 6, 2) := by decide +kernel
theorem dX12_costAheadOne_43 : decode cX12_costAheadOne 43 = .ok (.iload 4, 2) := by decide +kernel
theorem dX12_costAheadOne_45 : decode cX12_costAheadOne 45 = .ok (.ifCond .lt 10, 3) := by decide +kernel
theorem dX12_costAheadOne_48 : decode cX12_costAheadOne 48 = .ok (.iload 6, 2) := by decide +kernel
theorem dX12_costAheadOne_50 : decode cX12_costAheadOne 50 = .ok (.iload 4, 2) := by decide +kernel
theorem dX12_costAheadOne_52 : decode cX12_costAheadOne 52 = .ok (.if_icmp .ge 48, 3) := by decide +kernel
theorem dX12_costAheadOne_55 : decode cX12_costAheadOne 55 = .ok (.iload_n 3, 1) := by decide +kernel
theorem dX12_costAheadOne_56 : decode cX12_costAheadOne 56 = .ok (.ifCond .lt 12, 3) := by decide +kernel
theorem dX12_costAheadOne_59 : decode cX12_costAheadOne 59 = .ok (.iload 6, 2) := by decide +kernel
theorem dX12_costAheadOne_61 : decode cX12_costAheadOne 61 = .ok (.iload_n 3, 1) := by decide +kernel
theorem dX12_costAheadOne_62 : decode cX12_costAheadOne 62 = .ok (.if_icmp .lt 6, 3) := by decide +kernel
theorem dX12_costAheadOne_65 : decode cX12_costAheadOne 65 = .ok (.goto 35, 3) := by decide +kernel
theorem dX12_costAheadOne_68 : decode cX12_costAheadOne 68 = .ok (.aload_n 0, 1) := by decide +kernel
theorem dX12_costAheadOne_69 : decode cX12_costAheadOne 69 = .ok (.iconst 0, 1) := by decide +kernel
theorem dX12_costAheadOne_70 : decode cX12_costAheadOne 70 = .ok (.invokevirtual 220, 3) := by decide +kernel
theorem dX12_costAheadOne_73 : decode cX12_costAheadOne 73 = .ok (.aload_n 0, 1) := by decide +kernel
theorem dX12_costAheadOne_74 : decode cX12_costAheadOne 74 = .ok (.iload 5, 2) := by decide +kernel
theorem dX12_costAheadOne_76 : decode cX12_costAheadOne 76 = .ok (.invokestatic 205, 3) := by decide +kernel
theorem dX12_costAheadOne_79 : decode cX12_costAheadOne 79 = .ok (.invokevirtual 196, 3) := by decide +kernel
theorem dX12_costAheadOne_82 : decode cX12_costAheadOne 82 = .ok (.pop, 1) := by decide +kernel
theorem dX12_costAheadOne_83 : decode cX12_costAheadOne 83 = .ok (.aload_n 0, 1) := by decide +kernel
theorem dX12_costAheadOne_84 : decode cX12_costAheadOne 84 = .ok (.iload_n 1, 1) := by decide +kernel
theorem dX12_costAheadOne_85 : decode cX12_costAheadOne 85 = .ok (.invokevirtual 217, 3) := by decide +kernel
theorem dX12_costAheadOne_88 : decode cX12_costAheadOne 88 = .ok (.ifCond .eq 7, 3) := by decide +kernel
theorem dX12_costAheadOne_91 : decode cX12_costAheadOne 91 = .ok (.iload 6, 2) := by decide +kernel
theorem dX12_costAheadOne_93 : decode cX12_costAheadOne 93 = .ok (.istore 4, 2) := by decide +kernel
theorem dX12_costAheadOne_95 : decode cX12_costAheadOne 95 = .ok (.aload_n 0, 1) := by decide +kernel
theorem dX12_costAheadOne_96 : decode cX12_costAheadOne 96 = .ok (.iconst 0, 1) := by decide +kernel
theorem dX12_costAheadOne_97 : decode cX12_costAheadOne 97 = .ok (.invokevirtual 227, 3) := by decide +kernel
theorem dX12_costAheadOne_100 : decode cX12_costAheadOne 100 = .ok (.iinc 5 1, 3) := by decide +kernel
theorem dX12_costAheadOne_103 : decode cX12_costAheadOne 103 = .ok (.goto (-77), 3) := by decide +kernel
theorem dX12_costAheadOne_106 : decode cX12_costAheadOne 106 = .ok (.iload 4, 2) := by decide +kernel
theorem dX12_costAheadOne_108 : decode cX12_costAheadOne 108 = .ok (.ireturn, 1) := by decide +kernel
theorem dX12_before_0 : decode cX12_before 0 = .ok (.aload_n 0, 1) := by decide +kernel
theorem dX12_before_1 : decode cX12_before 1 = .ok (.iload_n 1, 1) := by decide +kernel
theorem dX12_before_2 : decode cX12_before 2 = .ok (.invokevirtual 128, 3) := by decide +kernel
theorem dX12_before_5 : decode cX12_before 5 = .ok (.ifCond .ne 9, 3) := by decide +kernel
theorem dX12_before_8 : decode cX12_before 8 = .ok (.aload_n 0, 1) := by decide +kernel
theorem dX12_before_9 : decode cX12_before 9 = .ok (.iconst (-1), 1) := by decide +kernel
theorem dX12_before_10 : decode cX12_before 10 = .ok (.invokevirtual 98, 3) := by decide +kernel
theorem dX12_before_13 : decode cX12_before 13 = .ok (.ireturn, 1) := by decide +kernel
theorem dX12_before_14 : decode cX12_before 14 = .ok (.iload_n 2, 1) := by decide +kernel
theorem dX12_before_15 : decode cX12_before 15 = .ok (.iconst 0, 1) := by decide +kernel
theorem dX12_before_16 : decode cX12_before 16 = .ok (.iconst 1, 1) := by decide +kernel
theorem dX12_before_17 : decode cX12_before 17 = .ok (.invokestatic 83, 3) := by decide +kernel
theorem dX12_before_20 : decode cX12_before 20 = .ok (.ifCond .ne 10, 3) := by decide +kernel
theorem dX12_before_23 : decode cX12_before 23 = .ok (.aload_n 0, 1) := by decide +kernel
theorem dX12_before_24 : decode cX12_before 24 = .ok (.bipush (-2), 2) := by decide +kernel
theorem dX12_before_26 : decode cX12_before 26 = .ok (.invokevirtual 98, 3) := by decide +kernel
theorem dX12_before_29 : decode cX12_before 29 = .ok (.ireturn, 1) := by decide +kernel
theorem dX12_before_30 : decode cX12_before 30 = .ok (.iconst 0, 1) := by decide +kernel
theorem dX12_before_31 : decode cX12_before 31 = .ok (.istore_n 3, 1) := by decide +kernel
theorem dX12_before_32 : decode cX12_before 32 = .ok (.iload_n 3, 1) := by decide +kernel
theorem dX12_before_33 : decode cX12_before 33 = .ok (.iconst 3, 1) := by decide +kernel
theorem dX12_before_34 : decode cX12_before 34 = .ok (.if_icmp .ge 33, 3) := by decide +kernel
theorem dX12_before_37 : decode cX12_before 37 = .ok (.aload_n 0, 1) := by decide +kernel
theorem dX12_before_38 : decode cX12_before 38 = .ok (.iload_n 1, 1) := by decide +kernel
theorem dX12_before_39 : decode cX12_before 39 = .ok (.iload_n 3, 1) := by decide +kernel
theorem dX12_before_40 : decode cX12_before 40 = .ok (.invokevirtual 230, 3) := by decide +kernel
theorem dX12_before_43 : decode cX12_before 43 = .ok (.istore 4, 2) := by decide +kernel
theorem dX12_before_45 : decode cX12_before 45 = .ok (.iload 4, 2) := by decide +kernel
theorem dX12_before_47 : decode cX12_before 47 = .ok (.ifCond .lt 14, 3) := by decide +kernel
theorem dX12_before_50 : decode cX12_before 50 = .ok (.iload_n 2, 1) := by decide +kernel
theorem dX12_before_51 : decode cX12_before 51 = .ok (.ifCond .ne 7, 3) := by decide +kernel
theorem dX12_before_54 : decode cX12_before 54 = .ok (.iload_n 3, 1) := by decide +kernel
theorem dX12_before_55 : decode cX12_before 55 = .ok (.goto 5, 3) := by decide +kernel
theorem dX12_before_58 : decode cX12_before 58 = .ok (.iload 4, 2) := by decide +kernel
theorem dX12_before_60 : decode cX12_before 60 = .ok (.ireturn, 1) := by decide +kernel
theorem dX12_before_61 : decode cX12_before 61 = .ok (.iinc 3 1, 3) := by decide +kernel
theorem dX12_before_64 : decode cX12_before 64 = .ok (.goto (-32), 3) := by decide +kernel
theorem dX12_before_67 : decode cX12_before 67 = .ok (.bipush (-9), 2) := by decide +kernel
theorem dX12_before_69 : decode cX12_before 69 = .ok (.ireturn, 1) := by decide +kernel
theorem dX12_order_0 : decode cX12_order 0 = .ok (.iload_n 1, 1) := by decide +kernel
theorem dX12_order_1 : decode cX12_order 1 = .ok (.invokestatic 193, 3) := by decide +kernel
theorem dX12_order_4 : decode cX12_order 4 = .ok (.ifCond .ne 9, 3) := by decide +kernel
theorem dX12_order_7 : decode cX12_order 7 = .ok (.aload_n 0, 1) := by decide +kernel
theorem dX12_order_8 : decode cX12_order 8 = .ok (.iconst (-1), 1) := by decide +kernel
theorem dX12_order_9 : decode cX12_order 9 = .ok (.invokevirtual 98, 3) := by decide +kernel
theorem dX12_order_12 : decode cX12_order 12 = .ok (.ireturn, 1) := by decide +kernel
theorem dX12_order_13 : decode cX12_order 13 = .ok (.aload_n 0, 1) := by decide +kernel
theorem dX12_order_14 : decode cX12_order 14 = .ok (.getfield 162, 3) := by decide +kernel
theorem dX12_order_17 : decode cX12_order 17 = .ok (.iconst 5, 1) := by decide +kernel
theorem dX12_order_18 : decode cX12_order 18 = .ok (.if_icmp .ne 10, 3) := by decide +kernel
theorem dX12_order_21 : decode cX12_order 21 = .ok (.aload_n 0, 1) := by decide +kernel
theorem dX12_order_22 : decode cX12_order 22 = .ok (.bipush (-6), 2) := by decide +kernel
theorem dX12_order_24 : decode cX12_order 24 = .ok (.invokevirtual 98, 3) := by decide +kernel
theorem dX12_order_27 : decode cX12_order 27 = .ok (.ireturn, 1) := by decide +kernel
theorem dX12_order_28 : decode cX12_order 28 = .ok (.aload_n 0, 1) := by decide +kernel
theorem dX12_order_29 : decode cX12_order 29 = .ok (.getfield 28, 3) := by decide +kernel
theorem dX12_order_32 : decode cX12_order 32 = .ok (.aload_n 0, 1) := by decide +kernel
theorem dX12_order_33 : decode cX12_order 33 = .ok (.getfield 162, 3) := by decide +kernel
theorem dX12_order_36 : decode cX12_order 36 = .ok (.iload_n 1, 1) := by decide +kernel
theorem dX12_order_37 : decode cX12_order 37 = .ok (.iastore, 1) := by decide +kernel
theorem dX12_order_38 : decode cX12_order 38 = .ok (.aload_n 0, 1) := by decide +kernel
theorem dX12_order_39 : decode cX12_order 39 = .ok (.dup, 1) := by decide +kernel
theorem dX12_order_40 : decode cX12_order 40 = .ok (.getfield 162, 3) := by decide +kernel
theorem dX12_order_43 : decode cX12_order 43 = .ok (.iconst 1, 1) := by decide +kernel
theorem dX12_order_44 : decode cX12_order 44 = .ok (.iadd, 1) := by decide +kernel
theorem dX12_order_45 : decode cX12_order 45 = .ok (.putfield 162, 3) := by decide +kernel
theorem dX12_order_48 : decode cX12_order 48 = .ok (.aload_n 0, 1) := by decide +kernel
theorem dX12_order_49 : decode cX12_order 49 = .ok (.getfield 162, 3) := by decide +kernel
theorem dX12_order_52 : decode cX12_order 52 = .ok (.ireturn, 1) := by decide +kernel
theorem dX12_forget_0 : decode cX12_forget 0 = .ok (.aload_n 0, 1) := by decide +kernel
theorem dX12_forget_1 : decode cX12_forget 1 = .ok (.getfield 162, 3) := by decide +kernel
theorem dX12_forget_4 : decode cX12_forget 4 = .ok (.istore_n 1, 1) := by decide +kernel
theorem dX12_forget_5 : decode cX12_forget 5 = .ok (.aload_n 0, 1) := by decide +kernel
theorem dX12_forget_6 : decode cX12_forget 6 = .ok (.iconst 0, 1) := by decide +kernel
theorem dX12_forget_7 : decode cX12_forget 7 = .ok (.putfield 162, 3) := by decide +kernel
theorem dX12_forget_10 : decode cX12_forget 10 = .ok (.iload_n 1, 1) := by decide +kernel
theorem dX12_forget_11 : decode cX12_forget 11 = .ok (.ireturn, 1) := by decide +kernel
theorem dX12_metBy_0 : decode cX12_metBy 0 = .ok (.aload_n 0, 1) := by decide +kernel
theorem dX12_metBy_1 : decode cX12_metBy 1 = .ok (.invokevirtual 202, 3) := by decide +kernel
theorem dX12_metBy_4 : decode cX12_metBy 4 = .ok (.istore_n 2, 1) := by decide +kernel
theorem dX12_metBy_5 : decode cX12_metBy 5 = .ok (.aload_n 0, 1) := by decide +kernel
theorem dX12_metBy_6 : decode cX12_metBy 6 = .ok (.iconst 0, 1) := by decide +kernel
theorem dX12_metBy_7 : decode cX12_metBy 7 = .ok (.invokevirtual 220, 3) := by decide +kernel
theorem dX12_metBy_10 : decode cX12_metBy 10 = .ok (.iconst 0, 1) := by decide +kernel
theorem dX12_metBy_11 : decode cX12_metBy 11 = .ok (.istore_n 3, 1) := by decide +kernel
theorem dX12_metBy_12 : decode cX12_metBy 12 = .ok (.iload_n 3, 1) := by decide +kernel
theorem dX12_metBy_13 : decode cX12_metBy 13 = .ok (.iload_n 1, 1) := by decide +kernel
theorem dX12_metBy_14 : decode cX12_metBy 14 = .ok (.if_icmp .ge 25, 3) := by decide +kernel
theorem dX12_metBy_17 : decode cX12_metBy 17 = .ok (.aload_n 0, 1) := by decide +kernel
theorem dX12_metBy_18 : decode cX12_metBy 18 = .ok (.aload_n 0, 1) := by decide +kernel
theorem dX12_metBy_19 : decode cX12_metBy 19 = .ok (.getfield 28, 3) := by decide +kernel
theorem dX12_metBy_22 : decode cX12_metBy 22 = .ok (.aload_n 0, 1) := by decide +kernel
theorem dX12_metBy_23 : decode cX12_metBy 23 = .ok (.getfield 67, 3) := by decide +kernel
theorem dX12_metBy_26 : decode cX12_metBy 26 = .ok (.iload_n 3, 1) := by decide +kernel
theorem dX12_metBy_27 : decode cX12_metBy 27 = .ok (.iaload, 1) := by decide +kernel
theorem dX12_metBy_28 : decode cX12_metBy 28 = .ok (.iaload, 1) := by decide +kernel
theorem dX12_metBy_29 : decode cX12_metBy 29 = .ok (.invokevirtual 196, 3) := by decide +kernel
theorem dX12_metBy_32 : decode cX12_metBy 32 = .ok (.pop, 1) := by decide +kernel
theorem dX12_metBy_33 : decode cX12_metBy 33 = .ok (.iinc 3 1, 3) := by decide +kernel
theorem dX12_metBy_36 : decode cX12_metBy 36 = .ok (.goto (-24), 3) := by decide +kernel
theorem dX12_metBy_39 : decode cX12_metBy 39 = .ok (.aload_n 0, 1) := by decide +kernel
theorem dX12_metBy_40 : decode cX12_metBy 40 = .ok (.invokevirtual 202, 3) := by decide +kernel
theorem dX12_metBy_43 : decode cX12_metBy 43 = .ok (.istore_n 3, 1) := by decide +kernel
theorem dX12_metBy_44 : decode cX12_metBy 44 = .ok (.aload_n 0, 1) := by decide +kernel
theorem dX12_metBy_45 : decode cX12_metBy 45 = .ok (.iconst 0, 1) := by decide +kernel
theorem dX12_metBy_46 : decode cX12_metBy 46 = .ok (.invokevirtual 227, 3) := by decide +kernel
theorem dX12_metBy_49 : decode cX12_metBy 49 = .ok (.iload_n 2, 1) := by decide +kernel
theorem dX12_metBy_50 : decode cX12_metBy 50 = .ok (.iload_n 3, 1) := by decide +kernel
theorem dX12_metBy_51 : decode cX12_metBy 51 = .ok (.isub, 1) := by decide +kernel
theorem dX12_metBy_52 : decode cX12_metBy 52 = .ok (.ireturn, 1) := by decide +kernel
theorem dX12_met_0 : decode cX12_met 0 = .ok (.iload_n 1, 1) := by decide +kernel
theorem dX12_met_1 : decode cX12_met 1 = .ok (.iconst 0, 1) := by decide +kernel
theorem dX12_met_2 : decode cX12_met 2 = .ok (.iconst 5, 1) := by decide +kernel
theorem dX12_met_3 : decode cX12_met 3 = .ok (.invokestatic 91, 3) := by decide +kernel
theorem dX12_met_6 : decode cX12_met 6 = .ok (.istore_n 3, 1) := by decide +kernel
theorem dX12_met_7 : decode cX12_met 7 = .ok (.iload_n 3, 1) := by decide +kernel
theorem dX12_met_8 : decode cX12_met 8 = .ok (.ifCond .eq 9, 3) := by decide +kernel
theorem dX12_met_11 : decode cX12_met 11 = .ok (.aload_n 0, 1) := by decide +kernel
theorem dX12_met_12 : decode cX12_met 12 = .ok (.iload_n 3, 1) := by decide +kernel
theorem dX12_met_13 : decode cX12_met 13 = .ok (.invokevirtual 98, 3) := by decide +kernel
theorem dX12_met_16 : decode cX12_met 16 = .ok (.ireturn, 1) := by decide +kernel
theorem dX12_met_17 : decode cX12_met 17 = .ok (.iload_n 2, 1) := by decide +kernel
theorem dX12_met_18 : decode cX12_met 18 = .ok (.istore 4, 2) := by decide +kernel
theorem dX12_met_20 : decode cX12_met 20 = .ok (.iconst 0, 1) := by decide +kernel
theorem dX12_met_21 : decode cX12_met 21 = .ok (.istore 5, 2) := by decide +kernel
theorem dX12_met_23 : decode cX12_met 23 = .ok (.iconst 0, 1) := by decide +kernel
theorem dX12_met_24 : decode cX12_met 24 = .ok (.istore 6, 2) := by decide +kernel
theorem dX12_met_26 : decode cX12_met 26 = .ok (.iload 6, 2) := by decide +kernel
theorem dX12_met_28 : decode cX12_met 28 = .ok (.iload_n 1, 1) := by decide +kernel
theorem dX12_met_29 : decode cX12_met 29 = .ok (.if_icmp .ge 72, 3) := by decide +kernel
theorem dX12_met_32 : decode cX12_met 32 = .ok (.iload 4, 2) := by decide +kernel
theorem dX12_met_34 : decode cX12_met 34 = .ok (.bipush 10, 2) := by decide +kernel
theorem dX12_met_36 : decode cX12_met 36 = .ok (.irem, 1) := by decide +kernel
theorem dX12_met_37 : decode cX12_met 37 = .ok (.istore 7, 2) := by decide +kernel
theorem dX12_met_39 : decode cX12_met 39 = .ok (.iload 4, 2) := by decide +kernel
theorem dX12_met_41 : decode cX12_met 41 = .ok (.bipush 10, 2) := by decide +kernel
theorem dX12_met_43 : decode cX12_met 43 = .ok (.idiv, 1) := by decide +kernel
theorem dX12_met_44 : decode cX12_met 44 = .ok (.istore 4, 2) := by decide +kernel
theorem dX12_met_46 : decode cX12_met 46 = .ok (.iload 7, 2) := by decide +kernel
theorem dX12_met_48 : decode cX12_met 48 = .ok (.ifCond .lt 23, 3) := by decide +kernel
theorem dX12_met_51 : decode cX12_met 51 = .ok (.iload 7, 2) := by decide +kernel
theorem dX12_met_53 : decode cX12_met 53 = .ok (.aload_n 0, 1) := by decide +kernel
theorem dX12_met_54 : decode cX12_met 54 = .ok (.getfield 162, 3) := by decide +kernel
theorem dX12_met_57 : decode cX12_met 57 = .ok (.if_icmp .ge 14, 3) := by decide +kernel
theorem dX12_met_60 : decode cX12_met 60 = .ok (.iload 5, 2) := by decide +kernel
theorem dX12_met_62 : decode cX12_met 62 = .ok (.iload 7, 2) := by decide +kernel
theorem dX12_met_64 : decode cX12_met 64 = .ok (.ishr, 1) := by decide +kernel
theorem dX12_met_65 : decode cX12_met 65 = .ok (.iconst 1, 1) := by decide +kernel
theorem dX12_met_66 : decode cX12_met 66 = .ok (.iand, 1) := by decide +kernel
theorem dX12_met_67 : decode cX12_met 67 = .ok (.iconst 1, 1) := by decide +kernel
theorem dX12_met_68 : decode cX12_met 68 = .ok (.if_icmp .ne 9, 3) := by decide +kernel
theorem dX12_met_71 : decode cX12_met 71 = .ok (.aload_n 0, 1) := by decide +kernel
theorem dX12_met_72 : decode cX12_met 72 = .ok (.iconst (-1), 1) := by decide +kernel
theorem dX12_met_73 : decode cX12_met 73 = .ok (.invokevirtual 98, 3) := by decide +kernel
theorem dX12_met_76 : decode cX12_met 76 = .ok (.ireturn, 1) := by decide +kernel
theorem dX12_met_77 : decode cX12_met 77 = .ok (.iload 5, 2) := by decide +kernel
theorem dX12_met_79 : decode cX12_met 79 = .ok (.iconst 1, 1) := by decide +kernel
theorem dX12_met_80 : decode cX12_met 80 = .ok (.iload 7, 2) := by decide +kernel
theorem dX12_met_82 : decode cX12_met 82 = .ok (.ishl, 1) := by decide +kernel
theorem dX12_met_83 : decode cX12_met 83 = .ok (.ior, 1) := by decide +kernel
theorem dX12_met_84 : decode cX12_met 84 = .ok (.istore 5, 2) := by decide +kernel
theorem dX12_met_86 : decode cX12_met 86 = .ok (.aload_n 0, 1) := by decide +kernel
theorem dX12_met_87 : decode cX12_met 87 = .ok (.getfield 67, 3) := by decide +kernel
theorem dX12_met_90 : decode cX12_met 90 = .ok (.iload 6, 2) := by decide +kernel
theorem dX12_met_92 : decode cX12_met 92 = .ok (.iload 7, 2) := by decide +kernel
theorem dX12_met_94 : decode cX12_met 94 = .ok (.iastore, 1) := by decide +kernel
theorem dX12_met_95 : decode cX12_met 95 = .ok (.iinc 6 1, 3) := by decide +kernel
theorem dX12_met_98 : decode cX12_met 98 = .ok (.goto (-72), 3) := by decide +kernel
theorem dX12_met_101 : decode cX12_met 101 = .ok (.aload_n 0, 1) := by decide +kernel
theorem dX12_met_102 : decode cX12_met 102 = .ok (.iload_n 1, 1) := by decide +kernel
theorem dX12_met_103 : decode cX12_met 103 = .ok (.invokevirtual 233, 3) := by decide +kernel
theorem dX12_met_106 : decode cX12_met 106 = .ok (.ireturn, 1) := by decide +kernel
theorem dX12_ordersBy_0 : decode cX12_ordersBy 0 = .ok (.iconst 0, 1) := by decide +kernel
theorem dX12_ordersBy_1 : decode cX12_ordersBy 1 = .ok (.istore_n 2, 1) := by decide +kernel
theorem dX12_ordersBy_2 : decode cX12_ordersBy 2 = .ok (.iload_n 1, 1) := by decide +kernel
theorem dX12_ordersBy_3 : decode cX12_ordersBy 3 = .ok (.istore_n 3, 1) := by decide +kernel
theorem dX12_ordersBy_4 : decode cX12_ordersBy 4 = .ok (.iconst 1, 1) := by decide +kernel
theorem dX12_ordersBy_5 : decode cX12_ordersBy 5 = .ok (.istore 4, 2) := by decide +kernel
theorem dX12_ordersBy_7 : decode cX12_ordersBy 7 = .ok (.iconst 2, 1) := by decide +kernel
theorem dX12_ordersBy_8 : decode cX12_ordersBy 8 = .ok (.istore 5, 2) := by decide +kernel
theorem dX12_ordersBy_10 : decode cX12_ordersBy 10 = .ok (.iload 5, 2) := by decide +kernel
theorem dX12_ordersBy_12 : decode cX12_ordersBy 12 = .ok (.aload_n 0, 1) := by decide +kernel
theorem dX12_ordersBy_13 : decode cX12_ordersBy 13 = .ok (.getfield 162, 3) := by decide +kernel
theorem dX12_ordersBy_16 : decode cX12_ordersBy 16 = .ok (.if_icmp .ge 16, 3) := by decide +kernel
theorem dX12_ordersBy_19 : decode cX12_ordersBy 19 = .ok (.iload 4, 2) := by decide +kernel
theorem dX12_ordersBy_21 : decode cX12_ordersBy 21 = .ok (.iload 5, 2) := by decide +kernel
theorem dX12_ordersBy_23 : decode cX12_ordersBy 23 = .ok (.imul, 1) := by decide +kernel
theorem dX12_ordersBy_24 : decode cX12_ordersBy 24 = .ok (.istore 4, 2) := by decide +kernel
theorem dX12_ordersBy_26 : decode cX12_ordersBy 26 = .ok (.iinc 5 1, 3) := by decide +kernel
theorem dX12_ordersBy_29 : decode cX12_ordersBy 29 = .ok (.goto (-19), 3) := by decide +kernel
theorem dX12_ordersBy_32 : decode cX12_ordersBy 32 = .ok (.iconst 0, 1) := by decide +kernel
theorem dX12_ordersBy_33 : decode cX12_ordersBy 33 = .ok (.istore 5, 2) := by decide +kernel
theorem dX12_ordersBy_35 : decode cX12_ordersBy 35 = .ok (.iload 5, 2) := by decide +kernel
theorem dX12_ordersBy_37 : decode cX12_ordersBy 37 = .ok (.aload_n 0, 1) := by decide +kernel
theorem dX12_ordersBy_38 : decode cX12_ordersBy 38 = .ok (.getfield 162, 3) := by decide +kernel
theorem dX12_ordersBy_41 : decode cX12_ordersBy 41 = .ok (.if_icmp .ge 105, 3) := by decide +kernel
theorem dX12_ordersBy_44 : decode cX12_ordersBy 44 = .ok (.iload_n 3, 1) := by decide +kernel
theorem dX12_ordersBy_45 : decode cX12_ordersBy 45 = .ok (.iload 4, 2) := by decide +kernel
theorem dX12_ordersBy_47 : decode cX12_ordersBy 47 = .ok (.idiv, 1) := by decide +kernel
theorem dX12_ordersBy_48 : decode cX12_ordersBy 48 = .ok (.istore 6, 2) := by decide +kernel
theorem dX12_ordersBy_50 : decode cX12_ordersBy 50 = .ok (.iload_n 3, 1) := by decide +kernel
theorem dX12_ordersBy_51 : decode cX12_ordersBy 51 = .ok (.iload 4, 2) := by decide +kernel
theorem dX12_ordersBy_53 : decode cX12_ordersBy 53 = .ok (.irem, 1) := by decide +kernel
theorem dX12_ordersBy_54 : decode cX12_ordersBy 54 = .ok (.istore_n 3, 1) := by decide +kernel
theorem dX12_ordersBy_55 : decode cX12_ordersBy 55 = .ok (.iconst 0, 1) := by decide +kernel
theorem dX12_ordersBy_56 : decode cX12_ordersBy 56 = .ok (.istore 7, 2) := by decide +kernel
theorem dX12_ordersBy_58 : decode cX12_ordersBy 58 = .ok (.iload_n 2, 1) := by decide +kernel
theorem dX12_ordersBy_59 : decode cX12_ordersBy 59 = .ok (.iload 7, 2) := by decide +kernel
theorem dX12_ordersBy_61 : decode cX12_ordersBy 61 = .ok (.ishr, 1) := by decide +kernel
theorem dX12_ordersBy_62 : decode cX12_ordersBy 62 = .ok (.iconst 1, 1) := by decide +kernel
theorem dX12_ordersBy_63 : decode cX12_ordersBy 63 = .ok (.iand, 1) := by decide +kernel
theorem dX12_ordersBy_64 : decode cX12_ordersBy 64 = .ok (.iconst 1, 1) := by decide +kernel
theorem dX12_ordersBy_65 : decode cX12_ordersBy 65 = .ok (.if_icmp .eq 8, 3) := by decide +kernel
theorem dX12_ordersBy_68 : decode cX12_ordersBy 68 = .ok (.iload 6, 2) := by decide +kernel
theorem dX12_ordersBy_70 : decode cX12_ordersBy 70 = .ok (.ifCond .le 28, 3) := by decide +kernel
theorem dX12_ordersBy_73 : decode cX12_ordersBy 73 = .ok (.iload 6, 2) := by decide +kernel
theorem dX12_ordersBy_75 : decode cX12_ordersBy 75 = .ok (.iload_n 2, 1) := by decide +kernel
theorem dX12_ordersBy_76 : decode cX12_ordersBy 76 = .ok (.iload 7, 2) := by decide +kernel
theorem dX12_ordersBy_78 : decode cX12_ordersBy 78 = .ok (.ishr, 1) := by decide +kernel
theorem dX12_ordersBy_79 : decode cX12_ordersBy 79 = .ok (.iconst 1, 1) := by decide +kernel
theorem dX12_ordersBy_80 : decode cX12_ordersBy 80 = .ok (.iand, 1) := by decide +kernel
theorem dX12_ordersBy_81 : decode cX12_ordersBy 81 = .ok (.ifCond .ne 7, 3) := by decide +kernel
theorem dX12_ordersBy_84 : decode cX12_ordersBy 84 = .ok (.iconst 1, 1) := by decide +kernel
theorem dX12_ordersBy_85 : decode cX12_ordersBy 85 = .ok (.goto 4, 3) := by decide +kernel
theorem dX12_ordersBy_88 : decode cX12_ordersBy 88 = .ok (.iconst 0, 1) := by decide +kernel
theorem dX12_ordersBy_89 : decode cX12_ordersBy 89 = .ok (.isub, 1) := by decide +kernel
theorem dX12_ordersBy_90 : decode cX12_ordersBy 90 = .ok (.istore 6, 2) := by decide +kernel
theorem dX12_ordersBy_92 : decode cX12_ordersBy 92 = .ok (.iinc 7 1, 3) := by decide +kernel
theorem dX12_ordersBy_95 : decode cX12_ordersBy 95 = .ok (.goto (-37), 3) := by decide +kernel
theorem dX12_ordersBy_98 : decode cX12_ordersBy 98 = .ok (.aload_n 0, 1) := by decide +kernel
theorem dX12_ordersBy_99 : decode cX12_ordersBy 99 = .ok (.getfield 67, 3) := by decide +kernel
theorem dX12_ordersBy_102 : decode cX12_ordersBy 102 = .ok (.iload 5, 2) := by decide +kernel
theorem dX12_ordersBy_104 : decode cX12_ordersBy 104 = .ok (.iload 7, 2) := by decide +kernel
theorem dX12_ordersBy_106 : decode cX12_ordersBy 106 = .ok (.iastore, 1) := by decide +kernel
theorem dX12_ordersBy_107 : decode cX12_ordersBy 107 = .ok (.iload_n 2, 1) := by decide +kernel
theorem dX12_ordersBy_108 : decode cX12_ordersBy 108 = .ok (.iconst 1, 1) := by decide +kernel
theorem dX12_ordersBy_109 : decode cX12_ordersBy 109 = .ok (.iload 7, 2) := by decide +kernel
theorem dX12_ordersBy_111 : decode cX12_ordersBy 111 = .ok (.ishl, 1) := by decide +kernel
theorem dX12_ordersBy_112 : decode cX12_ordersBy 112 = .ok (.ior, 1) := by decide +kernel
theorem dX12_ordersBy_113 : decode cX12_ordersBy 113 = .ok (.istore_n 2, 1) := by decide +kernel
theorem dX12_ordersBy_114 : decode cX12_ordersBy 114 = .ok (.aload_n 0, 1) := by decide +kernel
theorem dX12_ordersBy_115 : decode cX12_ordersBy 115 = .ok (.getfield 162, 3) := by decide +kernel
theorem dX12_ordersBy_118 : decode cX12_ordersBy 118 = .ok (.iconst 1, 1) := by decide +kernel
theorem dX12_ordersBy_119 : decode cX12_ordersBy 119 = .ok (.isub, 1) := by decide +kernel
theorem dX12_ordersBy_120 : decode cX12_ordersBy 120 = .ok (.iload 5, 2) := by decide +kernel
theorem dX12_ordersBy_122 : decode cX12_ordersBy 122 = .ok (.isub, 1) := by decide +kernel
theorem dX12_ordersBy_123 : decode cX12_ordersBy 123 = .ok (.ifCond .le 17, 3) := by decide +kernel
theorem dX12_ordersBy_126 : decode cX12_ordersBy 126 = .ok (.iload 4, 2) := by decide +kernel
theorem dX12_ordersBy_128 : decode cX12_ordersBy 128 = .ok (.aload_n 0, 1) := by decide +kernel
theorem dX12_ordersBy_129 : decode cX12_ordersBy 129 = .ok (.getfield 162, 3) := by decide +kernel
theorem dX12_ordersBy_132 : decode cX12_ordersBy 132 = .ok (.iconst 1, 1) := by decide +kernel
theorem dX12_ordersBy_133 : decode cX12_ordersBy 133 = .ok (.isub, 1) := by decide +kernel
theorem dX12_ordersBy_134 : decode cX12_ordersBy 134 = .ok (.iload 5, 2) := by decide +kernel
theorem dX12_ordersBy_136 : decode cX12_ordersBy 136 = .ok (.isub, 1) := by decide +kernel
theorem dX12_ordersBy_137 : decode cX12_ordersBy 137 = .ok (.idiv, 1) := by decide +kernel
theorem dX12_ordersBy_138 : decode cX12_ordersBy 138 = .ok (.istore 4, 2) := by decide +kernel
theorem dX12_ordersBy_140 : decode cX12_ordersBy 140 = .ok (.iinc 5 1, 3) := by decide +kernel
theorem dX12_ordersBy_143 : decode cX12_ordersBy 143 = .ok (.goto (-108), 3) := by decide +kernel
theorem dX12_ordersBy_146 : decode cX12_ordersBy 146 = .ok (.return_, 1) := by decide +kernel
theorem dX12_best_0 : decode cX12_best 0 = .ok (.iload_n 1, 1) := by decide +kernel
theorem dX12_best_1 : decode cX12_best 1 = .ok (.iconst (-1), 1) := by decide +kernel
theorem dX12_best_2 : decode cX12_best 2 = .ok (.if_icmp .ge 10, 3) := by decide +kernel
theorem dX12_best_5 : decode cX12_best 5 = .ok (.aload_n 0, 1) := by decide +kernel
theorem dX12_best_6 : decode cX12_best 6 = .ok (.bipush (-4), 2) := by decide +kernel
theorem dX12_best_8 : decode cX12_best 8 = .ok (.invokevirtual 98, 3) := by decide +kernel
theorem dX12_best_11 : decode cX12_best 11 = .ok (.ireturn, 1) := by decide +kernel
theorem dX12_best_12 : decode cX12_best 12 = .ok (.iconst 1, 1) := by decide +kernel
theorem dX12_best_13 : decode cX12_best 13 = .ok (.istore_n 2, 1) := by decide +kernel
theorem dX12_best_14 : decode cX12_best 14 = .ok (.iconst 2, 1) := by decide +kernel
theorem dX12_best_15 : decode cX12_best 15 = .ok (.istore_n 3, 1) := by decide +kernel
theorem dX12_best_16 : decode cX12_best 16 = .ok (.iload_n 3, 1) := by decide +kernel
theorem dX12_best_17 : decode cX12_best 17 = .ok (.aload_n 0, 1) := by decide +kernel
theorem dX12_best_18 : decode cX12_best 18 = .ok (.getfield 162, 3) := by decide +kernel
theorem dX12_best_21 : decode cX12_best 21 = .ok (.if_icmp .gt 13, 3) := by decide +kernel
theorem dX12_best_24 : decode cX12_best 24 = .ok (.iload_n 2, 1) := by decide +kernel
theorem dX12_best_25 : decode cX12_best 25 = .ok (.iload_n 3, 1) := by decide +kernel
theorem dX12_best_26 : decode cX12_best 26 = .ok (.imul, 1) := by decide +kernel
theorem dX12_best_27 : decode cX12_best 27 = .ok (.istore_n 2, 1) := by decide +kernel
theorem dX12_best_28 : decode cX12_best 28 = .ok (.iinc 3 1, 3) := by decide +kernel
theorem dX12_best_31 : decode cX12_best 31 = .ok (.goto (-15), 3) := by decide +kernel
theorem dX12_best_34 : decode cX12_best 34 = .ok (.iconst (-1), 1) := by decide +kernel
theorem dX12_best_35 : decode cX12_best 35 = .ok (.istore_n 3, 1) := by decide +kernel
theorem dX12_best_36 : decode cX12_best 36 = .ok (.iconst 0, 1) := by decide +kernel
theorem dX12_best_37 : decode cX12_best 37 = .ok (.istore 4, 2) := by decide +kernel
theorem dX12_best_39 : decode cX12_best 39 = .ok (.iload 4, 2) := by decide +kernel
theorem dX12_best_41 : decode cX12_best 41 = .ok (.iload_n 2, 1) := by decide +kernel
theorem dX12_best_42 : decode cX12_best 42 = .ok (.if_icmp .ge 69, 3) := by decide +kernel
theorem dX12_best_45 : decode cX12_best 45 = .ok (.aload_n 0, 1) := by decide +kernel
theorem dX12_best_46 : decode cX12_best 46 = .ok (.iload 4, 2) := by decide +kernel
theorem dX12_best_48 : decode cX12_best 48 = .ok (.invokevirtual 236, 3) := by decide +kernel
theorem dX12_best_51 : decode cX12_best 51 = .ok (.aload_n 0, 1) := by decide +kernel
theorem dX12_best_52 : decode cX12_best 52 = .ok (.aload_n 0, 1) := by decide +kernel
theorem dX12_best_53 : decode cX12_best 53 = .ok (.getfield 162, 3) := by decide +kernel
theorem dX12_best_56 : decode cX12_best 56 = .ok (.invokevirtual 233, 3) := by decide +kernel
theorem dX12_best_59 : decode cX12_best 59 = .ok (.istore 5, 2) := by decide +kernel
theorem dX12_best_61 : decode cX12_best 61 = .ok (.iload 5, 2) := by decide +kernel
theorem dX12_best_63 : decode cX12_best 63 = .ok (.iload_n 3, 1) := by decide +kernel
theorem dX12_best_64 : decode cX12_best 64 = .ok (.if_icmp .gt 6, 3) := by decide +kernel
theorem dX12_best_67 : decode cX12_best 67 = .ok (.goto 38, 3) := by decide +kernel
theorem dX12_best_70 : decode cX12_best 70 = .ok (.iload 5, 2) := by decide +kernel
theorem dX12_best_72 : decode cX12_best 72 = .ok (.istore_n 3, 1) := by decide +kernel
theorem dX12_best_73 : decode cX12_best 73 = .ok (.iconst 0, 1) := by decide +kernel
theorem dX12_best_74 : decode cX12_best 74 = .ok (.istore 6, 2) := by decide +kernel
theorem dX12_best_76 : decode cX12_best 76 = .ok (.iload 6, 2) := by decide +kernel
theorem dX12_best_78 : decode cX12_best 78 = .ok (.aload_n 0, 1) := by decide +kernel
theorem dX12_best_79 : decode cX12_best 79 = .ok (.getfield 162, 3) := by decide +kernel
theorem dX12_best_82 : decode cX12_best 82 = .ok (.if_icmp .ge 23, 3) := by decide +kernel
theorem dX12_best_85 : decode cX12_best 85 = .ok (.aload_n 0, 1) := by decide +kernel
theorem dX12_best_86 : decode cX12_best 86 = .ok (.getfield 70, 3) := by decide +kernel
theorem dX12_best_89 : decode cX12_best 89 = .ok (.iload 6, 2) := by decide +kernel
theorem dX12_best_91 : decode cX12_best 91 = .ok (.aload_n 0, 1) := by decide +kernel
theorem dX12_best_92 : decode cX12_best 92 = .ok (.getfield 67, 3) := by decide +kernel
theorem dX12_best_95 : decode cX12_best 95 = .ok (.iload 6, 2) := by decide +kernel
theorem dX12_best_97 : decode cX12_best 97 = .ok (.iaload, 1) := by decide +kernel
theorem dX12_best_98 : decode cX12_best 98 = .ok (.iastore, 1) := by decide +kernel
theorem dX12_best_99 : decode cX12_best 99 = .ok (.iinc 6 1, 3) := by decide +kernel
theorem dX12_best_102 : decode cX12_best 102 = .ok (.goto (-26), 3) := by decide +kernel
theorem dX12_best_105 : decode cX12_best 105 = .ok (.iinc 4 1, 3) := by decide +kernel
theorem dX12_best_108 : decode cX12_best 108 = .ok (.goto (-69), 3) := by decide +kernel
theorem dX12_best_111 : decode cX12_best 111 = .ok (.iload_n 1, 1) := by decide +kernel
theorem dX12_best_112 : decode cX12_best 112 = .ok (.iconst (-1), 1) := by decide +kernel
theorem dX12_best_113 : decode cX12_best 113 = .ok (.if_icmp .ne 7, 3) := by decide +kernel
theorem dX12_best_116 : decode cX12_best 116 = .ok (.iload_n 3, 1) := by decide +kernel
theorem dX12_best_117 : decode cX12_best 117 = .ok (.goto 22, 3) := by decide +kernel
theorem dX12_best_120 : decode cX12_best 120 = .ok (.iload_n 1, 1) := by decide +kernel
theorem dX12_best_121 : decode cX12_best 121 = .ok (.aload_n 0, 1) := by decide +kernel
theorem dX12_best_122 : decode cX12_best 122 = .ok (.getfield 162, 3) := by decide +kernel
theorem dX12_best_125 : decode cX12_best 125 = .ok (.if_icmp .ge 12, 3) := by decide +kernel
theorem dX12_best_128 : decode cX12_best 128 = .ok (.aload_n 0, 1) := by decide +kernel
theorem dX12_best_129 : decode cX12_best 129 = .ok (.getfield 70, 3) := by decide +kernel
theorem dX12_best_132 : decode cX12_best 132 = .ok (.iload_n 1, 1) := by decide +kernel
theorem dX12_best_133 : decode cX12_best 133 = .ok (.iaload, 1) := by decide +kernel
theorem dX12_best_134 : decode cX12_best 134 = .ok (.goto 5, 3) := by decide +kernel
theorem dX12_best_137 : decode cX12_best 137 = .ok (.bipush (-9), 2) := by decide +kernel
theorem dX12_best_139 : decode cX12_best 139 = .ok (.ireturn, 1) := by decide +kernel
theorem dX12_greedy_0 : decode cX12_greedy 0 = .ok (.aload_n 0, 1) := by decide +kernel
theorem dX12_greedy_1 : decode cX12_greedy 1 = .ok (.invokevirtual 202, 3) := by decide +kernel
theorem dX12_greedy_4 : decode cX12_greedy 4 = .ok (.istore_n 1, 1) := by decide +kernel
theorem dX12_greedy_5 : decode cX12_greedy 5 = .ok (.aload_n 0, 1) := by decide +kernel
theorem dX12_greedy_6 : decode cX12_greedy 6 = .ok (.iconst 1, 1) := by decide +kernel
theorem dX12_greedy_7 : decode cX12_greedy 7 = .ok (.invokevirtual 220, 3) := by decide +kernel
theorem dX12_greedy_10 : decode cX12_greedy 10 = .ok (.iconst 0, 1) := by decide +kernel
theorem dX12_greedy_11 : decode cX12_greedy 11 = .ok (.istore_n 2, 1) := by decide +kernel
theorem dX12_greedy_12 : decode cX12_greedy 12 = .ok (.iconst 0, 1) := by decide +kernel
theorem dX12_greedy_13 : decode cX12_greedy 13 = .ok (.istore_n 3, 1) := by decide +kernel
theorem dX12_greedy_14 : decode cX12_greedy 14 = .ok (.iload_n 3, 1) := by decide +kernel
theorem dX12_greedy_15 : decode cX12_greedy 15 = .ok (.aload_n 0, 1) := by decide +kernel
theorem dX12_greedy_16 : decode cX12_greedy 16 = .ok (.getfield 162, 3) := by decide +kernel
theorem dX12_greedy_19 : decode cX12_greedy 19 = .ok (.if_icmp .ge 116, 3) := by decide +kernel
theorem dX12_greedy_22 : decode cX12_greedy 22 = .ok (.iconst (-1), 1) := by decide +kernel
theorem dX12_greedy_23 : decode cX12_greedy 23 = .ok (.istore 4, 2) := by decide +kernel
theorem dX12_greedy_25 : decode cX12_greedy 25 = .ok (.iconst 0, 1) := by decide +kernel
theorem dX12_greedy_26 : decode cX12_greedy 26 = .ok (.istore 5, 2) := by decide +kernel
theorem dX12_greedy_28 : decode cX12_greedy 28 = .ok (.iconst 0, 1) := by decide +kernel
theorem dX12_greedy_29 : decode cX12_greedy 29 = .ok (.istore 6, 2) := by decide +kernel
theorem dX12_greedy_31 : decode cX12_greedy 31 = .ok (.iload 6, 2) := by decide +kernel
theorem dX12_greedy_33 : decode cX12_greedy 33 = .ok (.aload_n 0, 1) := by decide +kernel
theorem dX12_greedy_34 : decode cX12_greedy 34 = .ok (.getfield 162, 3) := by decide +kernel
theorem dX12_greedy_37 : decode cX12_greedy 37 = .ok (.if_icmp .ge 73, 3) := by decide +kernel
theorem dX12_greedy_40 : decode cX12_greedy 40 = .ok (.iload_n 2, 1) := by decide +kernel
theorem dX12_greedy_41 : decode cX12_greedy 41 = .ok (.iload 6, 2) := by decide +kernel
theorem dX12_greedy_43 : decode cX12_greedy 43 = .ok (.ishr, 1) := by decide +kernel
theorem dX12_greedy_44 : decode cX12_greedy 44 = .ok (.iconst 1, 1) := by decide +kernel
theorem dX12_greedy_45 : decode cX12_greedy 45 = .ok (.iand, 1) := by decide +kernel
theorem dX12_greedy_46 : decode cX12_greedy 46 = .ok (.iconst 1, 1) := by decide +kernel
theorem dX12_greedy_47 : decode cX12_greedy 47 = .ok (.if_icmp .ne 6, 3) := by decide +kernel
theorem dX12_greedy_50 : decode cX12_greedy 50 = .ok (.goto 54, 3) := by decide +kernel
theorem dX12_greedy_53 : decode cX12_greedy 53 = .ok (.aload_n 0, 1) := by decide +kernel
theorem dX12_greedy_54 : decode cX12_greedy 54 = .ok (.iconst 0, 1) := by decide +kernel
theorem dX12_greedy_55 : decode cX12_greedy 55 = .ok (.invokevirtual 220, 3) := by decide +kernel
theorem dX12_greedy_58 : decode cX12_greedy 58 = .ok (.aload_n 0, 1) := by decide +kernel
theorem dX12_greedy_59 : decode cX12_greedy 59 = .ok (.aload_n 0, 1) := by decide +kernel
theorem dX12_greedy_60 : decode cX12_greedy 60 = .ok (.getfield 28, 3) := by decide +kernel
theorem dX12_greedy_63 : decode cX12_greedy 63 = .ok (.iload 6, 2) := by decide +kernel
theorem dX12_greedy_65 : decode cX12_greedy 65 = .ok (.iaload, 1) := by decide +kernel
theorem dX12_greedy_66 : decode cX12_greedy 66 = .ok (.invokevirtual 196, 3) := by decide +kernel
theorem dX12_greedy_69 : decode cX12_greedy 69 = .ok (.pop, 1) := by decide +kernel
theorem dX12_greedy_70 : decode cX12_greedy 70 = .ok (.aload_n 0, 1) := by decide +kernel
theorem dX12_greedy_71 : decode cX12_greedy 71 = .ok (.invokevirtual 202, 3) := by decide +kernel
theorem dX12_greedy_74 : decode cX12_greedy 74 = .ok (.istore 7, 2) := by decide +kernel
theorem dX12_greedy_76 : decode cX12_greedy 76 = .ok (.aload_n 0, 1) := by decide +kernel
theorem dX12_greedy_77 : decode cX12_greedy 77 = .ok (.iconst 0, 1) := by decide +kernel
theorem dX12_greedy_78 : decode cX12_greedy 78 = .ok (.invokevirtual 227, 3) := by decide +kernel
theorem dX12_greedy_81 : decode cX12_greedy 81 = .ok (.iload 4, 2) := by decide +kernel
theorem dX12_greedy_83 : decode cX12_greedy 83 = .ok (.ifCond .lt 13, 3) := by decide +kernel
theorem dX12_greedy_86 : decode cX12_greedy 86 = .ok (.iload 7, 2) := by decide +kernel
theorem dX12_greedy_88 : decode cX12_greedy 88 = .ok (.iload 5, 2) := by decide +kernel
theorem dX12_greedy_90 : decode cX12_greedy 90 = .ok (.if_icmp .lt 6, 3) := by decide +kernel
theorem dX12_greedy_93 : decode cX12_greedy 93 = .ok (.goto 11, 3) := by decide +kernel
theorem dX12_greedy_96 : decode cX12_greedy 96 = .ok (.iload 6, 2) := by decide +kernel
theorem dX12_greedy_98 : decode cX12_greedy 98 = .ok (.istore 4, 2) := by decide +kernel
theorem dX12_greedy_100 : decode cX12_greedy 100 = .ok (.iload 7, 2) := by decide +kernel
theorem dX12_greedy_102 : decode cX12_greedy 102 = .ok (.istore 5, 2) := by decide +kernel
theorem dX12_greedy_104 : decode cX12_greedy 104 = .ok (.iinc 6 1, 3) := by decide +kernel
theorem dX12_greedy_107 : decode cX12_greedy 107 = .ok (.goto (-76), 3) := by decide +kernel
theorem dX12_greedy_110 : decode cX12_greedy 110 = .ok (.aload_n 0, 1) := by decide +kernel
theorem dX12_greedy_111 : decode cX12_greedy 111 = .ok (.aload_n 0, 1) := by decide +kernel
theorem dX12_greedy_112 : decode cX12_greedy 112 = .ok (.getfield 28, 3) := by decide +kernel
theorem dX12_greedy_115 : decode cX12_greedy 115 = .ok (.iload 4, 2) := by decide +kernel
theorem dX12_greedy_117 : decode cX12_greedy 117 = .ok (.iaload, 1) := by decide +kernel
theorem dX12_greedy_118 : decode cX12_greedy 118 = .ok (.invokevirtual 196, 3) := by decide +kernel
theorem dX12_greedy_121 : decode cX12_greedy 121 = .ok (.pop, 1) := by decide +kernel
theorem dX12_greedy_122 : decode cX12_greedy 122 = .ok (.iload_n 2, 1) := by decide +kernel
theorem dX12_greedy_123 : decode cX12_greedy 123 = .ok (.iconst 1, 1) := by decide +kernel
theorem dX12_greedy_124 : decode cX12_greedy 124 = .ok (.iload 4, 2) := by decide +kernel
theorem dX12_greedy_126 : decode cX12_greedy 126 = .ok (.ishl, 1) := by decide +kernel
theorem dX12_greedy_127 : decode cX12_greedy 127 = .ok (.ior, 1) := by decide +kernel
theorem dX12_greedy_128 : decode cX12_greedy 128 = .ok (.istore_n 2, 1) := by decide +kernel
theorem dX12_greedy_129 : decode cX12_greedy 129 = .ok (.iinc 3 1, 3) := by decide +kernel
theorem dX12_greedy_132 : decode cX12_greedy 132 = .ok (.goto (-118), 3) := by decide +kernel
theorem dX12_greedy_135 : decode cX12_greedy 135 = .ok (.aload_n 0, 1) := by decide +kernel
theorem dX12_greedy_136 : decode cX12_greedy 136 = .ok (.invokevirtual 202, 3) := by decide +kernel
theorem dX12_greedy_139 : decode cX12_greedy 139 = .ok (.istore_n 3, 1) := by decide +kernel
theorem dX12_greedy_140 : decode cX12_greedy 140 = .ok (.aload_n 0, 1) := by decide +kernel
theorem dX12_greedy_141 : decode cX12_greedy 141 = .ok (.iconst 1, 1) := by decide +kernel
theorem dX12_greedy_142 : decode cX12_greedy 142 = .ok (.invokevirtual 227, 3) := by decide +kernel
theorem dX12_greedy_145 : decode cX12_greedy 145 = .ok (.iload_n 1, 1) := by decide +kernel
theorem dX12_greedy_146 : decode cX12_greedy 146 = .ok (.iload_n 3, 1) := by decide +kernel
theorem dX12_greedy_147 : decode cX12_greedy 147 = .ok (.isub, 1) := by decide +kernel
theorem dX12_greedy_148 : decode cX12_greedy 148 = .ok (.ireturn, 1) := by decide +kernel
theorem dX12_bits_0 : decode cX12_bits 0 = .ok (.iconst 0, 1) := by decide +kernel
theorem dX12_bits_1 : decode cX12_bits 1 = .ok (.istore_n 1, 1) := by decide +kernel
theorem dX12_bits_2 : decode cX12_bits 2 = .ok (.iconst 0, 1) := by decide +kernel
theorem dX12_bits_3 : decode cX12_bits 3 = .ok (.istore_n 2, 1) := by decide +kernel
theorem dX12_bits_4 : decode cX12_bits 4 = .ok (.iload_n 2, 1) := by decide +kernel
theorem dX12_bits_5 : decode cX12_bits 5 = .ok (.bipush 31, 2) := by decide +kernel
theorem dX12_bits_7 : decode cX12_bits 7 = .ok (.if_icmp .ge 17, 3) := by decide +kernel
theorem dX12_bits_10 : decode cX12_bits 10 = .ok (.iload_n 1, 1) := by decide +kernel
theorem dX12_bits_11 : decode cX12_bits 11 = .ok (.iload_n 0, 1) := by decide +kernel
theorem dX12_bits_12 : decode cX12_bits 12 = .ok (.iload_n 2, 1) := by decide +kernel
theorem dX12_bits_13 : decode cX12_bits 13 = .ok (.ishr, 1) := by decide +kernel
theorem dX12_bits_14 : decode cX12_bits 14 = .ok (.iconst 1, 1) := by decide +kernel
theorem dX12_bits_15 : decode cX12_bits 15 = .ok (.iand, 1) := by decide +kernel
theorem dX12_bits_16 : decode cX12_bits 16 = .ok (.iadd, 1) := by decide +kernel
theorem dX12_bits_17 : decode cX12_bits 17 = .ok (.istore_n 1, 1) := by decide +kernel
theorem dX12_bits_18 : decode cX12_bits 18 = .ok (.iinc 2 1, 3) := by decide +kernel
theorem dX12_bits_21 : decode cX12_bits 21 = .ok (.goto (-17), 3) := by decide +kernel
theorem dX12_bits_24 : decode cX12_bits 24 = .ok (.iload_n 1, 1) := by decide +kernel
theorem dX12_bits_25 : decode cX12_bits 25 = .ok (.ireturn, 1) := by decide +kernel
theorem dX12_forty_0 : decode cX12_forty 0 = .ok (.iload_n 1, 1) := by decide +kernel
theorem dX12_forty_1 : decode cX12_forty 1 = .ok (.invokestatic 193, 3) := by decide +kernel
theorem dX12_forty_4 : decode cX12_forty 4 = .ok (.ifCond .ne 9, 3) := by decide +kernel
theorem dX12_forty_7 : decode cX12_forty 7 = .ok (.aload_n 0, 1) := by decide +kernel
theorem dX12_forty_8 : decode cX12_forty 8 = .ok (.iconst (-1), 1) := by decide +kernel
theorem dX12_forty_9 : decode cX12_forty 9 = .ok (.invokevirtual 98, 3) := by decide +kernel
theorem dX12_forty_12 : decode cX12_forty 12 = .ok (.ireturn, 1) := by decide +kernel
theorem dX12_forty_13 : decode cX12_forty 13 = .ok (.iload_n 2, 1) := by decide +kernel
theorem dX12_forty_14 : decode cX12_forty 14 = .ok (.iconst 0, 1) := by decide +kernel
theorem dX12_forty_15 : decode cX12_forty 15 = .ok (.aload_n 0, 1) := by decide +kernel
theorem dX12_forty_16 : decode cX12_forty 16 = .ok (.getfield 76, 3) := by decide +kernel
theorem dX12_forty_19 : decode cX12_forty 19 = .ok (.invokestatic 91, 3) := by decide +kernel
theorem dX12_forty_22 : decode cX12_forty 22 = .ok (.istore_n 3, 1) := by decide +kernel
theorem dX12_forty_23 : decode cX12_forty 23 = .ok (.iload_n 3, 1) := by decide +kernel
theorem dX12_forty_24 : decode cX12_forty 24 = .ok (.ifCond .eq 9, 3) := by decide +kernel
theorem dX12_forty_27 : decode cX12_forty 27 = .ok (.aload_n 0, 1) := by decide +kernel
theorem dX12_forty_28 : decode cX12_forty 28 = .ok (.iload_n 3, 1) := by decide +kernel
theorem dX12_forty_29 : decode cX12_forty 29 = .ok (.invokevirtual 98, 3) := by decide +kernel
theorem dX12_forty_32 : decode cX12_forty 32 = .ok (.ireturn, 1) := by decide +kernel
theorem dX12_forty_33 : decode cX12_forty 33 = .ok (.aload_n 0, 1) := by decide +kernel
theorem dX12_forty_34 : decode cX12_forty 34 = .ok (.iconst 0, 1) := by decide +kernel
theorem dX12_forty_35 : decode cX12_forty 35 = .ok (.invokevirtual 220, 3) := by decide +kernel
theorem dX12_forty_38 : decode cX12_forty 38 = .ok (.iconst 0, 1) := by decide +kernel
theorem dX12_forty_39 : decode cX12_forty 39 = .ok (.istore 4, 2) := by decide +kernel
theorem dX12_forty_41 : decode cX12_forty 41 = .ok (.iload_n 2, 1) := by decide +kernel
theorem dX12_forty_42 : decode cX12_forty 42 = .ok (.ifCond .ne 7, 3) := by decide +kernel
theorem dX12_forty_45 : decode cX12_forty 45 = .ok (.iconst 0, 1) := by decide +kernel
theorem dX12_forty_46 : decode cX12_forty 46 = .ok (.goto 5, 3) := by decide +kernel
theorem dX12_forty_49 : decode cX12_forty 49 = .ok (.bipush (-9), 2) := by decide +kernel
theorem dX12_forty_51 : decode cX12_forty 51 = .ok (.istore 5, 2) := by decide +kernel
theorem dX12_forty_53 : decode cX12_forty 53 = .ok (.iconst 1, 1) := by decide +kernel
theorem dX12_forty_54 : decode cX12_forty 54 = .ok (.istore 6, 2) := by decide +kernel
theorem dX12_forty_56 : decode cX12_forty 56 = .ok (.iload 6, 2) := by decide +kernel
theorem dX12_forty_58 : decode cX12_forty 58 = .ok (.bipush 40, 2) := by decide +kernel
theorem dX12_forty_60 : decode cX12_forty 60 = .ok (.if_icmp .gt 42, 3) := by decide +kernel
theorem dX12_forty_63 : decode cX12_forty 63 = .ok (.iload 5, 2) := by decide +kernel
theorem dX12_forty_65 : decode cX12_forty 65 = .ok (.ifCond .ge 37, 3) := by decide +kernel
theorem dX12_forty_68 : decode cX12_forty 68 = .ok (.aload_n 0, 1) := by decide +kernel
theorem dX12_forty_69 : decode cX12_forty 69 = .ok (.iload_n 1, 1) := by decide +kernel
theorem dX12_forty_70 : decode cX12_forty 70 = .ok (.invokevirtual 196, 3) := by decide +kernel
theorem dX12_forty_73 : decode cX12_forty 73 = .ok (.pop, 1) := by decide +kernel
theorem dX12_forty_74 : decode cX12_forty 74 = .ok (.iload 4, 2) := by decide +kernel
theorem dX12_forty_76 : decode cX12_forty 76 = .ok (.aload_n 0, 1) := by decide +kernel
theorem dX12_forty_77 : decode cX12_forty 77 = .ok (.getfield 174, 3) := by decide +kernel
theorem dX12_forty_80 : decode cX12_forty 80 = .ok (.ior, 1) := by decide +kernel
theorem dX12_forty_81 : decode cX12_forty 81 = .ok (.istore 4, 2) := by decide +kernel
theorem dX12_forty_83 : decode cX12_forty 83 = .ok (.iload 4, 2) := by decide +kernel
theorem dX12_forty_85 : decode cX12_forty 85 = .ok (.invokestatic 239, 3) := by decide +kernel
theorem dX12_forty_88 : decode cX12_forty 88 = .ok (.iload_n 2, 1) := by decide +kernel
theorem dX12_forty_89 : decode cX12_forty 89 = .ok (.if_icmp .lt 7, 3) := by decide +kernel
theorem dX12_forty_92 : decode cX12_forty 92 = .ok (.iload 6, 2) := by decide +kernel
theorem dX12_forty_94 : decode cX12_forty 94 = .ok (.istore 5, 2) := by decide +kernel
theorem dX12_forty_96 : decode cX12_forty 96 = .ok (.iinc 6 1, 3) := by decide +kernel
theorem dX12_forty_99 : decode cX12_forty 99 = .ok (.goto (-43), 3) := by decide +kernel
theorem dX12_forty_102 : decode cX12_forty 102 = .ok (.aload_n 0, 1) := by decide +kernel
theorem dX12_forty_103 : decode cX12_forty 103 = .ok (.iconst 0, 1) := by decide +kernel
theorem dX12_forty_104 : decode cX12_forty 104 = .ok (.invokevirtual 227, 3) := by decide +kernel
theorem dX12_forty_107 : decode cX12_forty 107 = .ok (.iload 5, 2) := by decide +kernel
theorem dX12_forty_109 : decode cX12_forty 109 = .ok (.ireturn, 1) := by decide +kernel
theorem dX12_going_0 : decode cX12_going 0 = .ok (.iload_n 1, 1) := by decide +kernel
theorem dX12_going_1 : decode cX12_going 1 = .ok (.invokestatic 193, 3) := by decide +kernel
theorem dX12_going_4 : decode cX12_going 4 = .ok (.ifCond .eq 16, 3) := by decide +kernel
theorem dX12_going_7 : decode cX12_going 7 = .ok (.iload_n 2, 1) := by decide +kernel
theorem dX12_going_8 : decode cX12_going 8 = .ok (.iconst (-1), 1) := by decide +kernel
theorem dX12_going_9 : decode cX12_going 9 = .ok (.if_icmp .eq 17, 3) := by decide +kernel
theorem dX12_going_12 : decode cX12_going 12 = .ok (.aload_n 0, 1) := by decide +kernel
theorem dX12_going_13 : decode cX12_going 13 = .ok (.iload_n 2, 1) := by decide +kernel
theorem dX12_going_14 : decode cX12_going 14 = .ok (.invokevirtual 128, 3) := by decide +kernel
theorem dX12_going_17 : decode cX12_going 17 = .ok (.ifCond .ne 9, 3) := by decide +kernel
theorem dX12_going_20 : decode cX12_going 20 = .ok (.aload_n 0, 1) := by decide +kernel
theorem dX12_going_21 : decode cX12_going 21 = .ok (.iconst (-1), 1) := by decide +kernel
theorem dX12_going_22 : decode cX12_going 22 = .ok (.invokevirtual 98, 3) := by decide +kernel
theorem dX12_going_25 : decode cX12_going 25 = .ok (.ireturn, 1) := by decide +kernel
theorem dX12_going_26 : decode cX12_going 26 = .ok (.aload_n 0, 1) := by decide +kernel
theorem dX12_going_27 : decode cX12_going 27 = .ok (.getfield 165, 3) := by decide +kernel
theorem dX12_going_30 : decode cX12_going 30 = .ok (.bipush 6, 2) := by decide +kernel
theorem dX12_going_32 : decode cX12_going 32 = .ok (.if_icmp .ne 10, 3) := by decide +kernel
theorem dX12_going_35 : decode cX12_going 35 = .ok (.aload_n 0, 1) := by decide +kernel
theorem dX12_going_36 : decode cX12_going 36 = .ok (.bipush (-6), 2) := by decide +kernel
theorem dX12_going_38 : decode cX12_going 38 = .ok (.invokevirtual 98, 3) := by decide +kernel
theorem dX12_going_41 : decode cX12_going 41 = .ok (.ireturn, 1) := by decide +kernel
theorem dX12_going_42 : decode cX12_going 42 = .ok (.aload_n 0, 1) := by decide +kernel
theorem dX12_going_43 : decode cX12_going 43 = .ok (.getfield 31, 3) := by decide +kernel
theorem dX12_going_46 : decode cX12_going 46 = .ok (.aload_n 0, 1) := by decide +kernel
theorem dX12_going_47 : decode cX12_going 47 = .ok (.getfield 165, 3) := by decide +kernel
theorem dX12_going_50 : decode cX12_going 50 = .ok (.iload_n 1, 1) := by decide +kernel
theorem dX12_going_51 : decode cX12_going 51 = .ok (.iastore, 1) := by decide +kernel
theorem dX12_going_52 : decode cX12_going 52 = .ok (.aload_n 0, 1) := by decide +kernel
theorem dX12_going_53 : decode cX12_going 53 = .ok (.getfield 34, 3) := by decide +kernel
theorem dX12_going_56 : decode cX12_going 56 = .ok (.aload_n 0, 1) := by decide +kernel
theorem dX12_going_57 : decode cX12_going 57 = .ok (.getfield 165, 3) := by decide +kernel
theorem dX12_going_60 : decode cX12_going 60 = .ok (.iload_n 2, 1) := by decide +kernel
theorem dX12_going_61 : decode cX12_going 61 = .ok (.iconst (-1), 1) := by decide +kernel
theorem dX12_going_62 : decode cX12_going 62 = .ok (.if_icmp .ne 8, 3) := by decide +kernel
theorem dX12_going_65 : decode cX12_going 65 = .ok (.bipush (-9), 2) := by decide +kernel
theorem dX12_going_67 : decode cX12_going 67 = .ok (.goto 4, 3) := by decide +kernel
theorem dX12_going_70 : decode cX12_going 70 = .ok (.iload_n 2, 1) := by decide +kernel
theorem dX12_going_71 : decode cX12_going 71 = .ok (.iastore, 1) := by decide +kernel
theorem dX12_going_72 : decode cX12_going 72 = .ok (.aload_n 0, 1) := by decide +kernel
theorem dX12_going_73 : decode cX12_going 73 = .ok (.dup, 1) := by decide +kernel
theorem dX12_going_74 : decode cX12_going 74 = .ok (.getfield 165, 3) := by decide +kernel
theorem dX12_going_77 : decode cX12_going 77 = .ok (.iconst 1, 1) := by decide +kernel
theorem dX12_going_78 : decode cX12_going 78 = .ok (.iadd, 1) := by decide +kernel
theorem dX12_going_79 : decode cX12_going 79 = .ok (.putfield 165, 3) := by decide +kernel
theorem dX12_going_82 : decode cX12_going 82 = .ok (.aload_n 0, 1) := by decide +kernel
theorem dX12_going_83 : decode cX12_going 83 = .ok (.getfield 165, 3) := by decide +kernel
theorem dX12_going_86 : decode cX12_going 86 = .ok (.ireturn, 1) := by decide +kernel
theorem dX12_isThought_0 : decode cX12_isThought 0 = .ok (.iconst 0, 1) := by decide +kernel
theorem dX12_isThought_1 : decode cX12_isThought 1 = .ok (.istore_n 1, 1) := by decide +kernel
theorem dX12_isThought_2 : decode cX12_isThought 2 = .ok (.iload_n 1, 1) := by decide +kernel
theorem dX12_isThought_3 : decode cX12_isThought 3 = .ok (.aload_n 0, 1) := by decide +kernel
theorem dX12_isThought_4 : decode cX12_isThought 4 = .ok (.getfield 165, 3) := by decide +kernel
theorem dX12_isThought_7 : decode cX12_isThought 7 = .ok (.if_icmp .ge 30, 3) := by decide +kernel
theorem dX12_isThought_10 : decode cX12_isThought 10 = .ok (.aload_n 0, 1) := by decide +kernel
theorem dX12_isThought_11 : decode cX12_isThought 11 = .ok (.aload_n 0, 1) := by decide +kernel
theorem dX12_isThought_12 : decode cX12_isThought 12 = .ok (.getfield 31, 3) := by decide +kernel
theorem dX12_isThought_15 : decode cX12_isThought 15 = .ok (.iload_n 1, 1) := by decide +kernel
theorem dX12_isThought_16 : decode cX12_isThought 16 = .ok (.iaload, 1) := by decide +kernel
theorem dX12_isThought_17 : decode cX12_isThought 17 = .ok (.invokevirtual 183, 3) := by decide +kernel
theorem dX12_isThought_20 : decode cX12_isThought 20 = .ok (.aload_n 0, 1) := by decide +kernel
theorem dX12_isThought_21 : decode cX12_isThought 21 = .ok (.getfield 34, 3) := by decide +kernel
theorem dX12_isThought_24 : decode cX12_isThought 24 = .ok (.iload_n 1, 1) := by decide +kernel
theorem dX12_isThought_25 : decode cX12_isThought 25 = .ok (.iaload, 1) := by decide +kernel
theorem dX12_isThought_26 : decode cX12_isThought 26 = .ok (.if_icmp .eq 5, 3) := by decide +kernel
theorem dX12_isThought_29 : decode cX12_isThought 29 = .ok (.iconst 0, 1) := by decide +kernel
theorem dX12_isThought_30 : decode cX12_isThought 30 = .ok (.ireturn, 1) := by decide +kernel
theorem dX12_isThought_31 : decode cX12_isThought 31 = .ok (.iinc 1 1, 3) := by decide +kernel
theorem dX12_isThought_34 : decode cX12_isThought 34 = .ok (.goto (-32), 3) := by decide +kernel
theorem dX12_isThought_37 : decode cX12_isThought 37 = .ok (.iconst 1, 1) := by decide +kernel
theorem dX12_isThought_38 : decode cX12_isThought 38 = .ok (.ireturn, 1) := by decide +kernel
theorem dX12_fitting_0 : decode cX12_fitting 0 = .ok (.aload_n 0, 1) := by decide +kernel
theorem dX12_fitting_1 : decode cX12_fitting 1 = .ok (.getfield 13, 3) := by decide +kernel
theorem dX12_fitting_4 : decode cX12_fitting 4 = .ok (.iconst 4, 1) := by decide +kernel
theorem dX12_fitting_5 : decode cX12_fitting 5 = .ok (.iload_n 1, 1) := by decide +kernel
theorem dX12_fitting_6 : decode cX12_fitting 6 = .ok (.imul, 1) := by decide +kernel
theorem dX12_fitting_7 : decode cX12_fitting 7 = .ok (.iload_n 2, 1) := by decide +kernel
theorem dX12_fitting_8 : decode cX12_fitting 8 = .ok (.iadd, 1) := by decide +kernel
theorem dX12_fitting_9 : decode cX12_fitting 9 = .ok (.iaload, 1) := by decide +kernel
theorem dX12_fitting_10 : decode cX12_fitting 10 = .ok (.istore_n 3, 1) := by decide +kernel
theorem dX12_fitting_11 : decode cX12_fitting 11 = .ok (.iconst 0, 1) := by decide +kernel
theorem dX12_fitting_12 : decode cX12_fitting 12 = .ok (.istore 4, 2) := by decide +kernel
theorem dX12_fitting_14 : decode cX12_fitting 14 = .ok (.iconst 0, 1) := by decide +kernel
theorem dX12_fitting_15 : decode cX12_fitting 15 = .ok (.istore 5, 2) := by decide +kernel
theorem dX12_fitting_17 : decode cX12_fitting 17 = .ok (.iload 5, 2) := by decide +kernel
theorem dX12_fitting_19 : decode cX12_fitting 19 = .ok (.bipush 30, 2) := by decide +kernel
theorem dX12_fitting_21 : decode cX12_fitting 21 = .ok (.if_icmp .gt 41, 3) := by decide +kernel
theorem dX12_fitting_24 : decode cX12_fitting 24 = .ok (.aload_n 0, 1) := by decide +kernel
theorem dX12_fitting_25 : decode cX12_fitting 25 = .ok (.getfield 13, 3) := by decide +kernel
theorem dX12_fitting_28 : decode cX12_fitting 28 = .ok (.iconst 4, 1) := by decide +kernel
theorem dX12_fitting_29 : decode cX12_fitting 29 = .ok (.iload_n 1, 1) := by decide +kernel
theorem dX12_fitting_30 : decode cX12_fitting 30 = .ok (.imul, 1) := by decide +kernel
theorem dX12_fitting_31 : decode cX12_fitting 31 = .ok (.iload_n 2, 1) := by decide +kernel
theorem dX12_fitting_32 : decode cX12_fitting 32 = .ok (.iadd, 1) := by decide +kernel
theorem dX12_fitting_33 : decode cX12_fitting 33 = .ok (.iload 5, 2) := by decide +kernel
theorem dX12_fitting_35 : decode cX12_fitting 35 = .ok (.iastore, 1) := by decide +kernel
theorem dX12_fitting_36 : decode cX12_fitting 36 = .ok (.iload 4, 2) := by decide +kernel
theorem dX12_fitting_38 : decode cX12_fitting 38 = .ok (.aload_n 0, 1) := by decide +kernel
theorem dX12_fitting_39 : decode cX12_fitting 39 = .ok (.invokevirtual 242, 3) := by decide +kernel
theorem dX12_fitting_42 : decode cX12_fitting 42 = .ok (.ifCond .eq 10, 3) := by decide +kernel
theorem dX12_fitting_45 : decode cX12_fitting 45 = .ok (.iconst 1, 1) := by decide +kernel
theorem dX12_fitting_46 : decode cX12_fitting 46 = .ok (.iload 5, 2) := by decide +kernel
theorem dX12_fitting_48 : decode cX12_fitting 48 = .ok (.ishl, 1) := by decide +kernel
theorem dX12_fitting_49 : decode cX12_fitting 49 = .ok (.goto 4, 3) := by decide +kernel
theorem dX12_fitting_52 : decode cX12_fitting 52 = .ok (.iconst 0, 1) := by decide +kernel
theorem dX12_fitting_53 : decode cX12_fitting 53 = .ok (.ior, 1) := by decide +kernel
theorem dX12_fitting_54 : decode cX12_fitting 54 = .ok (.istore 4, 2) := by decide +kernel
theorem dX12_fitting_56 : decode cX12_fitting 56 = .ok (.iinc 5 1, 3) := by decide +kernel
theorem dX12_fitting_59 : decode cX12_fitting 59 = .ok (.goto (-42), 3) := by decide +kernel
theorem dX12_fitting_62 : decode cX12_fitting 62 = .ok (.aload_n 0, 1) := by decide +kernel
theorem dX12_fitting_63 : decode cX12_fitting 63 = .ok (.getfield 13, 3) := by decide +kernel
theorem dX12_fitting_66 : decode cX12_fitting 66 = .ok (.iconst 4, 1) := by decide +kernel
theorem dX12_fitting_67 : decode cX12_fitting 67 = .ok (.iload_n 1, 1) := by decide +kernel
theorem dX12_fitting_68 : decode cX12_fitting 68 = .ok (.imul, 1) := by decide +kernel
theorem dX12_fitting_69 : decode cX12_fitting 69 = .ok (.iload_n 2, 1) := by decide +kernel
theorem dX12_fitting_70 : decode cX12_fitting 70 = .ok (.iadd, 1) := by decide +kernel
theorem dX12_fitting_71 : decode cX12_fitting 71 = .ok (.iload_n 3, 1) := by decide +kernel
theorem dX12_fitting_72 : decode cX12_fitting 72 = .ok (.iastore, 1) := by decide +kernel
theorem dX12_fitting_73 : decode cX12_fitting 73 = .ok (.iload 4, 2) := by decide +kernel
theorem dX12_fitting_75 : decode cX12_fitting 75 = .ok (.ireturn, 1) := by decide +kernel
theorem dX12_think_0 : decode cX12_think 0 = .ok (.aload_n 0, 1) := by decide +kernel
theorem dX12_think_1 : decode cX12_think 1 = .ok (.iload_n 1, 1) := by decide +kernel
theorem dX12_think_2 : decode cX12_think 2 = .ok (.invokevirtual 128, 3) := by decide +kernel
theorem dX12_think_5 : decode cX12_think 5 = .ok (.ifCond .eq 12, 3) := by decide +kernel
theorem dX12_think_8 : decode cX12_think 8 = .ok (.iload_n 2, 1) := by decide +kernel
theorem dX12_think_9 : decode cX12_think 9 = .ok (.iconst 0, 1) := by decide +kernel
theorem dX12_think_10 : decode cX12_think 10 = .ok (.iconst 3, 1) := by decide +kernel
theorem dX12_think_11 : decode cX12_think 11 = .ok (.invokestatic 83, 3) := by decide +kernel
theorem dX12_think_14 : decode cX12_think 14 = .ok (.ifCond .ne 9, 3) := by decide +kernel
theorem dX12_think_17 : decode cX12_think 17 = .ok (.aload_n 0, 1) := by decide +kernel
theorem dX12_think_18 : decode cX12_think 18 = .ok (.iconst (-1), 1) := by decide +kernel
theorem dX12_think_19 : decode cX12_think 19 = .ok (.invokevirtual 98, 3) := by decide +kernel
theorem dX12_think_22 : decode cX12_think 22 = .ok (.ireturn, 1) := by decide +kernel
theorem dX12_think_23 : decode cX12_think 23 = .ok (.iload_n 3, 1) := by decide +kernel
theorem dX12_think_24 : decode cX12_think 24 = .ok (.iconst 0, 1) := by decide +kernel
theorem dX12_think_25 : decode cX12_think 25 = .ok (.iconst 2, 1) := by decide +kernel
theorem dX12_think_26 : decode cX12_think 26 = .ok (.invokestatic 83, 3) := by decide +kernel
theorem dX12_think_29 : decode cX12_think 29 = .ok (.ifCond .ne 10, 3) := by decide +kernel
theorem dX12_think_32 : decode cX12_think 32 = .ok (.aload_n 0, 1) := by decide +kernel
theorem dX12_think_33 : decode cX12_think 33 = .ok (.bipush (-2), 2) := by decide +kernel
theorem dX12_think_35 : decode cX12_think 35 = .ok (.invokevirtual 98, 3) := by decide +kernel
theorem dX12_think_38 : decode cX12_think 38 = .ok (.ireturn, 1) := by decide +kernel
theorem dX12_think_39 : decode cX12_think 39 = .ok (.aload_n 0, 1) := by decide +kernel
theorem dX12_think_40 : decode cX12_think 40 = .ok (.iload_n 1, 1) := by decide +kernel
theorem dX12_think_41 : decode cX12_think 41 = .ok (.iload_n 2, 1) := by decide +kernel
theorem dX12_think_42 : decode cX12_think 42 = .ok (.invokevirtual 245, 3) := by decide +kernel
theorem dX12_think_45 : decode cX12_think 45 = .ok (.istore 4, 2) := by decide +kernel
theorem dX12_think_47 : decode cX12_think 47 = .ok (.bipush (-9), 2) := by decide +kernel
theorem dX12_think_49 : decode cX12_think 49 = .ok (.istore 5, 2) := by decide +kernel
theorem dX12_think_51 : decode cX12_think 51 = .ok (.iconst 0, 1) := by decide +kernel
theorem dX12_think_52 : decode cX12_think 52 = .ok (.istore 6, 2) := by decide +kernel
theorem dX12_think_54 : decode cX12_think 54 = .ok (.iconst 0, 1) := by decide +kernel
theorem dX12_think_55 : decode cX12_think 55 = .ok (.istore 7, 2) := by decide +kernel
theorem dX12_think_57 : decode cX12_think 57 = .ok (.iload 7, 2) := by decide +kernel
theorem dX12_think_59 : decode cX12_think 59 = .ok (.bipush 30, 2) := by decide +kernel
theorem dX12_think_61 : decode cX12_think 61 = .ok (.if_icmp .gt 39, 3) := by decide +kernel
theorem dX12_think_64 : decode cX12_think 64 = .ok (.iload 4, 2) := by decide +kernel
theorem dX12_think_66 : decode cX12_think 66 = .ok (.iload 7, 2) := by decide +kernel
theorem dX12_think_68 : decode cX12_think 68 = .ok (.ishr, 1) := by decide +kernel
theorem dX12_think_69 : decode cX12_think 69 = .ok (.iconst 1, 1) := by decide +kernel
theorem dX12_think_70 : decode cX12_think 70 = .ok (.iand, 1) := by decide +kernel
theorem dX12_think_71 : decode cX12_think 71 = .ok (.ifCond .ne 6, 3) := by decide +kernel
theorem dX12_think_74 : decode cX12_think 74 = .ok (.goto 20, 3) := by decide +kernel
theorem dX12_think_77 : decode cX12_think 77 = .ok (.iinc 6 1, 3) := by decide +kernel
theorem dX12_think_80 : decode cX12_think 80 = .ok (.iload 5, 2) := by decide +kernel
theorem dX12_think_82 : decode cX12_think 82 = .ok (.ifCond .lt 8, 3) := by decide +kernel
theorem dX12_think_85 : decode cX12_think 85 = .ok (.iload_n 3, 1) := by decide +kernel
theorem dX12_think_86 : decode cX12_think 86 = .ok (.iconst 1, 1) := by decide +kernel
theorem dX12_think_87 : decode cX12_think 87 = .ok (.if_icmp .ne 7, 3) := by decide +kernel
theorem dX12_think_90 : decode cX12_think 90 = .ok (.iload 7, 2) := by decide +kernel
theorem dX12_think_92 : decode cX12_think 92 = .ok (.istore 5, 2) := by decide +kernel
theorem dX12_think_94 : decode cX12_think 94 = .ok (.iinc 7 1, 3) := by decide +kernel
theorem dX12_think_97 : decode cX12_think 97 = .ok (.goto (-40), 3) := by decide +kernel
theorem dX12_think_100 : decode cX12_think 100 = .ok (.iload_n 3, 1) := by decide +kernel
theorem dX12_think_101 : decode cX12_think 101 = .ok (.iconst 2, 1) := by decide +kernel
theorem dX12_think_102 : decode cX12_think 102 = .ok (.if_icmp .ne 8, 3) := by decide +kernel
theorem dX12_think_105 : decode cX12_think 105 = .ok (.iload 6, 2) := by decide +kernel
theorem dX12_think_107 : decode cX12_think 107 = .ok (.goto 5, 3) := by decide +kernel
theorem dX12_think_110 : decode cX12_think 110 = .ok (.iload 5, 2) := by decide +kernel
theorem dX12_think_112 : decode cX12_think 112 = .ok (.ireturn, 1) := by decide +kernel
theorem dX12_tell_0 : decode cX12_tell 0 = .ok (.aload_n 0, 1) := by decide +kernel
theorem dX12_tell_1 : decode cX12_tell 1 = .ok (.iload_n 1, 1) := by decide +kernel
theorem dX12_tell_2 : decode cX12_tell 2 = .ok (.invokevirtual 128, 3) := by decide +kernel
theorem dX12_tell_5 : decode cX12_tell 5 = .ok (.ifCond .eq 12, 3) := by decide +kernel
theorem dX12_tell_8 : decode cX12_tell 8 = .ok (.iload_n 2, 1) := by decide +kernel
theorem dX12_tell_9 : decode cX12_tell 9 = .ok (.iconst 0, 1) := by decide +kernel
theorem dX12_tell_10 : decode cX12_tell 10 = .ok (.iconst 3, 1) := by decide +kernel
theorem dX12_tell_11 : decode cX12_tell 11 = .ok (.invokestatic 83, 3) := by decide +kernel
theorem dX12_tell_14 : decode cX12_tell 14 = .ok (.ifCond .ne 9, 3) := by decide +kernel
theorem dX12_tell_17 : decode cX12_tell 17 = .ok (.aload_n 0, 1) := by decide +kernel
theorem dX12_tell_18 : decode cX12_tell 18 = .ok (.iconst (-1), 1) := by decide +kernel
theorem dX12_tell_19 : decode cX12_tell 19 = .ok (.invokevirtual 98, 3) := by decide +kernel
theorem dX12_tell_22 : decode cX12_tell 22 = .ok (.ireturn, 1) := by decide +kernel
theorem dX12_tell_23 : decode cX12_tell 23 = .ok (.aload_n 0, 1) := by decide +kernel
theorem dX12_tell_24 : decode cX12_tell 24 = .ok (.iload_n 1, 1) := by decide +kernel
theorem dX12_tell_25 : decode cX12_tell 25 = .ok (.iload_n 2, 1) := by decide +kernel
theorem dX12_tell_26 : decode cX12_tell 26 = .ok (.invokevirtual 245, 3) := by decide +kernel
theorem dX12_tell_29 : decode cX12_tell 29 = .ok (.istore_n 3, 1) := by decide +kernel
theorem dX12_tell_30 : decode cX12_tell 30 = .ok (.iload_n 3, 1) := by decide +kernel
theorem dX12_tell_31 : decode cX12_tell 31 = .ok (.ifCond .ne 10, 3) := by decide +kernel
theorem dX12_tell_34 : decode cX12_tell 34 = .ok (.aload_n 0, 1) := by decide +kernel
theorem dX12_tell_35 : decode cX12_tell 35 = .ok (.bipush (-3), 2) := by decide +kernel
theorem dX12_tell_37 : decode cX12_tell 37 = .ok (.invokevirtual 98, 3) := by decide +kernel
theorem dX12_tell_40 : decode cX12_tell 40 = .ok (.ireturn, 1) := by decide +kernel
theorem dX12_tell_41 : decode cX12_tell 41 = .ok (.aload_n 0, 1) := by decide +kernel
theorem dX12_tell_42 : decode cX12_tell 42 = .ok (.getfield 13, 3) := by decide +kernel
theorem dX12_tell_45 : decode cX12_tell 45 = .ok (.iconst 4, 1) := by decide +kernel
theorem dX12_tell_46 : decode cX12_tell 46 = .ok (.iload_n 1, 1) := by decide +kernel
theorem dX12_tell_47 : decode cX12_tell 47 = .ok (.imul, 1) := by decide +kernel
theorem dX12_tell_48 : decode cX12_tell 48 = .ok (.iload_n 2, 1) := by decide +kernel
theorem dX12_tell_49 : decode cX12_tell 49 = .ok (.iadd, 1) := by decide +kernel
theorem dX12_tell_50 : decode cX12_tell 50 = .ok (.iaload, 1) := by decide +kernel
theorem dX12_tell_51 : decode cX12_tell 51 = .ok (.istore 4, 2) := by decide +kernel
theorem dX12_tell_53 : decode cX12_tell 53 = .ok (.iconst 0, 1) := by decide +kernel
theorem dX12_tell_54 : decode cX12_tell 54 = .ok (.istore 5, 2) := by decide +kernel
theorem dX12_tell_56 : decode cX12_tell 56 = .ok (.iconst (-1), 1) := by decide +kernel
theorem dX12_tell_57 : decode cX12_tell 57 = .ok (.istore 6, 2) := by decide +kernel
theorem dX12_tell_59 : decode cX12_tell 59 = .ok (.iconst 0, 1) := by decide +kernel
theorem dX12_tell_60 : decode cX12_tell 60 = .ok (.istore 7, 2) := by decide +kernel
theorem dX12_tell_62 : decode cX12_tell 62 = .ok (.iload 7, 2) := by decide +kernel
theorem dX12_tell_64 : decode cX12_tell 64 = .ok (.bipush 81, 2) := by decide +kernel
theorem dX12_tell_66 : decode cX12_tell 66 = .ok (.if_icmp .ge 109, 3) := by decide +kernel
theorem dX12_tell_69 : decode cX12_tell 69 = .ok (.iconst 0, 1) := by decide +kernel
theorem dX12_tell_70 : decode cX12_tell 70 = .ok (.istore 8, 2) := by decide +kernel
theorem dX12_tell_72 : decode cX12_tell 72 = .ok (.iconst 0, 1) := by decide +kernel
theorem dX12_tell_73 : decode cX12_tell 73 = .ok (.istore 9, 2) := by decide +kernel
theorem dX12_tell_75 : decode cX12_tell 75 = .ok (.iload 9, 2) := by decide +kernel
theorem dX12_tell_77 : decode cX12_tell 77 = .ok (.bipush 30, 2) := by decide +kernel
theorem dX12_tell_79 : decode cX12_tell 79 = .ok (.if_icmp .gt 63, 3) := by decide +kernel
theorem dX12_tell_82 : decode cX12_tell 82 = .ok (.iload_n 3, 1) := by decide +kernel
theorem dX12_tell_83 : decode cX12_tell 83 = .ok (.iload 9, 2) := by decide +kernel
theorem dX12_tell_85 : decode cX12_tell 85 = .ok (.ishr, 1) := by decide +kernel
theorem dX12_tell_86 : decode cX12_tell 86 = .ok (.iconst 1, 1) := by decide +kernel
theorem dX12_tell_87 : decode cX12_tell 87 = .ok (.iand, 1) := by decide +kernel
theorem dX12_tell_88 : decode cX12_tell 88 = .ok (.ifCond .ne 6, 3) := by decide +kernel
theorem dX12_tell_91 : decode cX12_tell 91 = .ok (.goto 45, 3) := by decide +kernel
theorem dX12_tell_94 : decode cX12_tell 94 = .ok (.aload_n 0, 1) := by decide +kernel
theorem dX12_tell_95 : decode cX12_tell 95 = .ok (.getfield 13, 3) := by decide +kernel
theorem dX12_tell_98 : decode cX12_tell 98 = .ok (.iconst 4, 1) := by decide +kernel
theorem dX12_tell_99 : decode cX12_tell 99 = .ok (.iload_n 1, 1) := by decide +kernel
theorem dX12_tell_100 : decode cX12_tell 100 = .ok (.imul, 1) := by decide +kernel
theorem dX12_tell_101 : decode cX12_tell 101 = .ok (.iload_n 2, 1) := by decide +kernel
theorem dX12_tell_102 : decode cX12_tell 102 = .ok (.iadd, 1) := by decide +kernel
theorem dX12_tell_103 : decode cX12_tell 103 = .ok (.iload 9, 2) := by decide +kernel
theorem dX12_tell_105 : decode cX12_tell 105 = .ok (.iastore, 1) := by decide +kernel
theorem dX12_tell_106 : decode cX12_tell 106 = .ok (.aload_n 0, 1) := by decide +kernel
theorem dX12_tell_107 : decode cX12_tell 107 = .ok (.iload 7, 2) := by decide +kernel
theorem dX12_tell_109 : decode cX12_tell 109 = .ok (.invokestatic 205, 3) := by decide +kernel
theorem dX12_tell_112 : decode cX12_tell 112 = .ok (.invokevirtual 183, 3) := by decide +kernel
theorem dX12_tell_115 : decode cX12_tell 115 = .ok (.istore 10, 2) := by decide +kernel
theorem dX12_tell_117 : decode cX12_tell 117 = .ok (.iload 8, 2) := by decide +kernel
theorem dX12_tell_119 : decode cX12_tell 119 = .ok (.iload 10, 2) := by decide +kernel
theorem dX12_tell_121 : decode cX12_tell 121 = .ok (.ifCond .ge 8, 3) := by decide +kernel
theorem dX12_tell_124 : decode cX12_tell 124 = .ok (.bipush 64, 2) := by decide +kernel
theorem dX12_tell_126 : decode cX12_tell 126 = .ok (.goto 7, 3) := by decide +kernel
theorem dX12_tell_129 : decode cX12_tell 129 = .ok (.iconst 1, 1) := by decide +kernel
theorem dX12_tell_130 : decode cX12_tell 130 = .ok (.iload 10, 2) := by decide +kernel
theorem dX12_tell_132 : decode cX12_tell 132 = .ok (.ishl, 1) := by decide +kernel
theorem dX12_tell_133 : decode cX12_tell 133 = .ok (.ior, 1) := by decide +kernel
theorem dX12_tell_134 : decode cX12_tell 134 = .ok (.istore 8, 2) := by decide +kernel
theorem dX12_tell_136 : decode cX12_tell 136 = .ok (.iinc 9 1, 3) := by decide +kernel
theorem dX12_tell_139 : decode cX12_tell 139 = .ok (.goto (-64), 3) := by decide +kernel
theorem dX12_tell_142 : decode cX12_tell 142 = .ok (.iload 8, 2) := by decide +kernel
theorem dX12_tell_144 : decode cX12_tell 144 = .ok (.invokestatic 239, 3) := by decide +kernel
theorem dX12_tell_147 : decode cX12_tell 147 = .ok (.iload 6, 2) := by decide +kernel
theorem dX12_tell_149 : decode cX12_tell 149 = .ok (.if_icmp .gt 6, 3) := by decide +kernel
theorem dX12_tell_152 : decode cX12_tell 152 = .ok (.goto 17, 3) := by decide +kernel
theorem dX12_tell_155 : decode cX12_tell 155 = .ok (.iload 8, 2) := by decide +kernel
theorem dX12_tell_157 : decode cX12_tell 157 = .ok (.invokestatic 239, 3) := by decide +kernel
theorem dX12_tell_160 : decode cX12_tell 160 = .ok (.istore 6, 2) := by decide +kernel
theorem dX12_tell_162 : decode cX12_tell 162 = .ok (.iload 7, 2) := by decide +kernel
theorem dX12_tell_164 : decode cX12_tell 164 = .ok (.invokestatic 205, 3) := by decide +kernel
theorem dX12_tell_167 : decode cX12_tell 167 = .ok (.istore 5, 2) := by decide +kernel
theorem dX12_tell_169 : decode cX12_tell 169 = .ok (.iinc 7 1, 3) := by decide +kernel
theorem dX12_tell_172 : decode cX12_tell 172 = .ok (.goto (-110), 3) := by decide +kernel
theorem dX12_tell_175 : decode cX12_tell 175 = .ok (.aload_n 0, 1) := by decide +kernel
theorem dX12_tell_176 : decode cX12_tell 176 = .ok (.getfield 13, 3) := by decide +kernel
theorem dX12_tell_179 : decode cX12_tell 179 = .ok (.iconst 4, 1) := by decide +kernel
theorem dX12_tell_180 : decode cX12_tell 180 = .ok (.iload_n 1, 1) := by decide +kernel
theorem dX12_tell_181 : decode cX12_tell 181 = .ok (.imul, 1) := by decide +kernel
theorem dX12_tell_182 : decode cX12_tell 182 = .ok (.iload_n 2, 1) := by decide +kernel
theorem dX12_tell_183 : decode cX12_tell 183 = .ok (.iadd, 1) := by decide +kernel
theorem dX12_tell_184 : decode cX12_tell 184 = .ok (.iload 4, 2) := by decide +kernel
theorem dX12_tell_186 : decode cX12_tell 186 = .ok (.iastore, 1) := by decide +kernel
theorem dX12_tell_187 : decode cX12_tell 187 = .ok (.iload 5, 2) := by decide +kernel
theorem dX12_tell_189 : decode cX12_tell 189 = .ok (.ireturn, 1) := by decide +kernel
theorem dX12_laws_0 : decode cX12_laws 0 = .ok (.aload_n 0, 1) := by decide +kernel
theorem dX12_laws_1 : decode cX12_laws 1 = .ok (.iload_n 1, 1) := by decide +kernel
theorem dX12_laws_2 : decode cX12_laws 2 = .ok (.invokevirtual 128, 3) := by decide +kernel
theorem dX12_laws_5 : decode cX12_laws 5 = .ok (.ifCond .ne 9, 3) := by decide +kernel
theorem dX12_laws_8 : decode cX12_laws 8 = .ok (.aload_n 0, 1) := by decide +kernel
theorem dX12_laws_9 : decode cX12_laws 9 = .ok (.iconst (-1), 1) := by decide +kernel
theorem dX12_laws_10 : decode cX12_laws 10 = .ok (.invokevirtual 98, 3) := by decide +kernel
theorem dX12_laws_13 : decode cX12_laws 13 = .ok (.ireturn, 1) := by decide +kernel
theorem dX12_laws_14 : decode cX12_laws 14 = .ok (.aload_n 0, 1) := by decide +kernel
theorem dX12_laws_15 : decode cX12_laws 15 = .ok (.getfield 156, 3) := by decide +kernel
theorem dX12_laws_18 : decode cX12_laws 18 = .ok (.istore_n 2, 1) := by decide +kernel
theorem dX12_laws_19 : decode cX12_laws 19 = .ok (.iconst 0, 1) := by decide +kernel
theorem dX12_laws_20 : decode cX12_laws 20 = .ok (.istore_n 3, 1) := by decide +kernel
theorem dX12_laws_21 : decode cX12_laws 21 = .ok (.iconst 0, 1) := by decide +kernel
theorem dX12_laws_22 : decode cX12_laws 22 = .ok (.istore 4, 2) := by decide +kernel
theorem dX12_laws_24 : decode cX12_laws 24 = .ok (.iload 4, 2) := by decide +kernel
theorem dX12_laws_26 : decode cX12_laws 26 = .ok (.iconst 5, 1) := by decide +kernel
theorem dX12_laws_27 : decode cX12_laws 27 = .ok (.if_icmp .ge 34, 3) := by decide +kernel
theorem dX12_laws_30 : decode cX12_laws 30 = .ok (.aload_n 0, 1) := by decide +kernel
theorem dX12_laws_31 : decode cX12_laws 31 = .ok (.iload 4, 2) := by decide +kernel
theorem dX12_laws_33 : decode cX12_laws 33 = .ok (.putfield 156, 3) := by decide +kernel
theorem dX12_laws_36 : decode cX12_laws 36 = .ok (.iload_n 3, 1) := by decide +kernel
theorem dX12_laws_37 : decode cX12_laws 37 = .ok (.aload_n 0, 1) := by decide +kernel
theorem dX12_laws_38 : decode cX12_laws 38 = .ok (.iload_n 1, 1) := by decide +kernel
theorem dX12_laws_39 : decode cX12_laws 39 = .ok (.invokevirtual 217, 3) := by decide +kernel
theorem dX12_laws_42 : decode cX12_laws 42 = .ok (.ifCond .eq 10, 3) := by decide +kernel
theorem dX12_laws_45 : decode cX12_laws 45 = .ok (.iconst 1, 1) := by decide +kernel
theorem dX12_laws_46 : decode cX12_laws 46 = .ok (.iload 4, 2) := by decide +kernel
theorem dX12_laws_48 : decode cX12_laws 48 = .ok (.ishl, 1) := by decide +kernel
theorem dX12_laws_49 : decode cX12_laws 49 = .ok (.goto 4, 3) := by decide +kernel
theorem dX12_laws_52 : decode cX12_laws 52 = .ok (.iconst 0, 1) := by decide +kernel
theorem dX12_laws_53 : decode cX12_laws 53 = .ok (.ior, 1) := by decide +kernel
theorem dX12_laws_54 : decode cX12_laws 54 = .ok (.istore_n 3, 1) := by decide +kernel
theorem dX12_laws_55 : decode cX12_laws 55 = .ok (.iinc 4 1, 3) := by decide +kernel
theorem dX12_laws_58 : decode cX12_laws 58 = .ok (.goto (-34), 3) := by decide +kernel
theorem dX12_laws_61 : decode cX12_laws 61 = .ok (.aload_n 0, 1) := by decide +kernel
theorem dX12_laws_62 : decode cX12_laws 62 = .ok (.iload_n 2, 1) := by decide +kernel
theorem dX12_laws_63 : decode cX12_laws 63 = .ok (.putfield 156, 3) := by decide +kernel
theorem dX12_laws_66 : decode cX12_laws 66 = .ok (.iload_n 3, 1) := by decide +kernel
theorem dX12_laws_67 : decode cX12_laws 67 = .ok (.ireturn, 1) := by decide +kernel
theorem dX12_chanceOf_0 : decode cX12_chanceOf 0 = .ok (.aload_n 0, 1) := by decide +kernel
theorem dX12_chanceOf_1 : decode cX12_chanceOf 1 = .ok (.iconst 0, 1) := by decide +kernel
theorem dX12_chanceOf_2 : decode cX12_chanceOf 2 = .ok (.putfield 174, 3) := by decide +kernel
theorem dX12_chanceOf_5 : decode cX12_chanceOf 5 = .ok (.aload_n 0, 1) := by decide +kernel
theorem dX12_chanceOf_6 : decode cX12_chanceOf 6 = .ok (.iload_n 2, 1) := by decide +kernel
theorem dX12_chanceOf_7 : decode cX12_chanceOf 7 = .ok (.iconst (-1), 1) := by decide +kernel
theorem dX12_chanceOf_8 : decode cX12_chanceOf 8 = .ok (.invokevirtual 180, 3) := by decide +kernel
theorem dX12_chanceOf_11 : decode cX12_chanceOf 11 = .ok (.istore_n 3, 1) := by decide +kernel
theorem dX12_chanceOf_12 : decode cX12_chanceOf 12 = .ok (.iload_n 3, 1) := by decide +kernel
theorem dX12_chanceOf_13 : decode cX12_chanceOf 13 = .ok (.ifCond .ge 5, 3) := by decide +kernel
theorem dX12_chanceOf_16 : decode cX12_chanceOf 16 = .ok (.iconst 0, 1) := by decide +kernel
theorem dX12_chanceOf_17 : decode cX12_chanceOf 17 = .ok (.ireturn, 1) := by decide +kernel
theorem dX12_chanceOf_18 : decode cX12_chanceOf 18 = .ok (.aload_n 0, 1) := by decide +kernel
theorem dX12_chanceOf_19 : decode cX12_chanceOf 19 = .ok (.iload_n 2, 1) := by decide +kernel
theorem dX12_chanceOf_20 : decode cX12_chanceOf 20 = .ok (.iload_n 3, 1) := by decide +kernel
theorem dX12_chanceOf_21 : decode cX12_chanceOf 21 = .ok (.invokevirtual 180, 3) := by decide +kernel
theorem dX12_chanceOf_24 : decode cX12_chanceOf 24 = .ok (.istore 4, 2) := by decide +kernel
theorem dX12_chanceOf_26 : decode cX12_chanceOf 26 = .ok (.iload 4, 2) := by decide +kernel
theorem dX12_chanceOf_28 : decode cX12_chanceOf 28 = .ok (.ifCond .ge 15, 3) := by decide +kernel
theorem dX12_chanceOf_31 : decode cX12_chanceOf 31 = .ok (.iload_n 1, 1) := by decide +kernel
theorem dX12_chanceOf_32 : decode cX12_chanceOf 32 = .ok (.iload_n 3, 1) := by decide +kernel
theorem dX12_chanceOf_33 : decode cX12_chanceOf 33 = .ok (.if_icmp .ne 8, 3) := by decide +kernel
theorem dX12_chanceOf_36 : decode cX12_chanceOf 36 = .ok (.bipush 100, 2) := by decide +kernel
theorem dX12_chanceOf_38 : decode cX12_chanceOf 38 = .ok (.goto 4, 3) := by decide +kernel
theorem dX12_chanceOf_41 : decode cX12_chanceOf 41 = .ok (.iconst 0, 1) := by decide +kernel
theorem dX12_chanceOf_42 : decode cX12_chanceOf 42 = .ok (.ireturn, 1) := by decide +kernel
theorem dX12_chanceOf_43 : decode cX12_chanceOf 43 = .ok (.aload_n 0, 1) := by decide +kernel
theorem dX12_chanceOf_44 : decode cX12_chanceOf 44 = .ok (.getfield 156, 3) := by decide +kernel
theorem dX12_chanceOf_47 : decode cX12_chanceOf 47 = .ok (.iconst 3, 1) := by decide +kernel
theorem dX12_chanceOf_48 : decode cX12_chanceOf 48 = .ok (.if_icmp .ne 10, 3) := by decide +kernel
theorem dX12_chanceOf_51 : decode cX12_chanceOf 51 = .ok (.aload_n 0, 1) := by decide +kernel
theorem dX12_chanceOf_52 : decode cX12_chanceOf 52 = .ok (.getfield 159, 3) := by decide +kernel
theorem dX12_chanceOf_55 : decode cX12_chanceOf 55 = .ok (.goto 10, 3) := by decide +kernel
theorem dX12_chanceOf_58 : decode cX12_chanceOf 58 = .ok (.bipush 100, 2) := by decide +kernel
theorem dX12_chanceOf_60 : decode cX12_chanceOf 60 = .ok (.aload_n 0, 1) := by decide +kernel
theorem dX12_chanceOf_61 : decode cX12_chanceOf 61 = .ok (.getfield 159, 3) := by decide +kernel
theorem dX12_chanceOf_64 : decode cX12_chanceOf 64 = .ok (.isub, 1) := by decide +kernel
theorem dX12_chanceOf_65 : decode cX12_chanceOf 65 = .ok (.istore 5, 2) := by decide +kernel
theorem dX12_chanceOf_67 : decode cX12_chanceOf 67 = .ok (.iload_n 1, 1) := by decide +kernel
theorem dX12_chanceOf_68 : decode cX12_chanceOf 68 = .ok (.iload_n 3, 1) := by decide +kernel
theorem dX12_chanceOf_69 : decode cX12_chanceOf 69 = .ok (.if_icmp .ne 8, 3) := by decide +kernel
theorem dX12_chanceOf_72 : decode cX12_chanceOf 72 = .ok (.iload 5, 2) := by decide +kernel
theorem dX12_chanceOf_74 : decode cX12_chanceOf 74 = .ok (.goto 18, 3) := by decide +kernel
theorem dX12_chanceOf_77 : decode cX12_chanceOf 77 = .ok (.iload_n 1, 1) := by decide +kernel
theorem dX12_chanceOf_78 : decode cX12_chanceOf 78 = .ok (.iload 4, 2) := by decide +kernel
theorem dX12_chanceOf_80 : decode cX12_chanceOf 80 = .ok (.if_icmp .ne 11, 3) := by decide +kernel
theorem dX12_chanceOf_83 : decode cX12_chanceOf 83 = .ok (.bipush 100, 2) := by decide +kernel
theorem dX12_chanceOf_85 : decode cX12_chanceOf 85 = .ok (.iload 5, 2) := by decide +kernel
theorem dX12_chanceOf_87 : decode cX12_chanceOf 87 = .ok (.isub, 1) := by decide +kernel
theorem dX12_chanceOf_88 : decode cX12_chanceOf 88 = .ok (.goto 4, 3) := by decide +kernel
theorem dX12_chanceOf_91 : decode cX12_chanceOf 91 = .ok (.iconst 0, 1) := by decide +kernel
theorem dX12_chanceOf_92 : decode cX12_chanceOf 92 = .ok (.ireturn, 1) := by decide +kernel
theorem dX12_divisor_0 : decode cX12_divisor 0 = .ok (.iload_n 0, 1) := by decide +kernel
theorem dX12_divisor_1 : decode cX12_divisor 1 = .ok (.istore_n 2, 1) := by decide +kernel
theorem dX12_divisor_2 : decode cX12_divisor 2 = .ok (.iload_n 1, 1) := by decide +kernel
theorem dX12_divisor_3 : decode cX12_divisor 3 = .ok (.istore_n 3, 1) := by decide +kernel
theorem dX12_divisor_4 : decode cX12_divisor 4 = .ok (.iload_n 3, 1) := by decide +kernel
theorem dX12_divisor_5 : decode cX12_divisor 5 = .ok (.ifCond .eq 16, 3) := by decide +kernel
theorem dX12_divisor_8 : decode cX12_divisor 8 = .ok (.iload_n 2, 1) := by decide +kernel
theorem dX12_divisor_9 : decode cX12_divisor 9 = .ok (.iload_n 3, 1) := by decide +kernel
theorem dX12_divisor_10 : decode cX12_divisor 10 = .ok (.irem, 1) := by decide +kernel
theorem dX12_divisor_11 : decode cX12_divisor 11 = .ok (.istore 4, 2) := by decide +kernel
theorem dX12_divisor_13 : decode cX12_divisor 13 = .ok (.iload_n 3, 1) := by decide +kernel
theorem dX12_divisor_14 : decode cX12_divisor 14 = .ok (.istore_n 2, 1) := by decide +kernel
theorem dX12_divisor_15 : decode cX12_divisor 15 = .ok (.iload 4, 2) := by decide +kernel
theorem dX12_divisor_17 : decode cX12_divisor 17 = .ok (.istore_n 3, 1) := by decide +kernel
theorem dX12_divisor_18 : decode cX12_divisor 18 = .ok (.goto (-14), 3) := by decide +kernel
theorem dX12_divisor_21 : decode cX12_divisor 21 = .ok (.iload_n 2, 1) := by decide +kernel
theorem dX12_divisor_22 : decode cX12_divisor 22 = .ok (.ireturn, 1) := by decide +kernel
theorem dX12_eye_0 : decode cX12_eye 0 = .ok (.aload_n 0, 1) := by decide +kernel
theorem dX12_eye_1 : decode cX12_eye 1 = .ok (.iload_n 1, 1) := by decide +kernel
theorem dX12_eye_2 : decode cX12_eye 2 = .ok (.invokevirtual 128, 3) := by decide +kernel
theorem dX12_eye_5 : decode cX12_eye 5 = .ok (.ifCond .eq 10, 3) := by decide +kernel
theorem dX12_eye_8 : decode cX12_eye 8 = .ok (.iload_n 2, 1) := by decide +kernel
theorem dX12_eye_9 : decode cX12_eye 9 = .ok (.invokestatic 193, 3) := by decide +kernel
theorem dX12_eye_12 : decode cX12_eye 12 = .ok (.ifCond .ne 9, 3) := by decide +kernel
theorem dX12_eye_15 : decode cX12_eye 15 = .ok (.aload_n 0, 1) := by decide +kernel
theorem dX12_eye_16 : decode cX12_eye 16 = .ok (.iconst (-1), 1) := by decide +kernel
theorem dX12_eye_17 : decode cX12_eye 17 = .ok (.invokevirtual 98, 3) := by decide +kernel
theorem dX12_eye_20 : decode cX12_eye 20 = .ok (.ireturn, 1) := by decide +kernel
theorem dX12_eye_21 : decode cX12_eye 21 = .ok (.iload_n 3, 1) := by decide +kernel
theorem dX12_eye_22 : decode cX12_eye 22 = .ok (.iconst 0, 1) := by decide +kernel
theorem dX12_eye_23 : decode cX12_eye 23 = .ok (.iconst 1, 1) := by decide +kernel
theorem dX12_eye_24 : decode cX12_eye 24 = .ok (.invokestatic 83, 3) := by decide +kernel
theorem dX12_eye_27 : decode cX12_eye 27 = .ok (.ifCond .ne 10, 3) := by decide +kernel
theorem dX12_eye_30 : decode cX12_eye 30 = .ok (.aload_n 0, 1) := by decide +kernel
theorem dX12_eye_31 : decode cX12_eye 31 = .ok (.bipush (-2), 2) := by decide +kernel
theorem dX12_eye_33 : decode cX12_eye 33 = .ok (.invokevirtual 98, 3) := by decide +kernel
theorem dX12_eye_36 : decode cX12_eye 36 = .ok (.ireturn, 1) := by decide +kernel
theorem dX12_eye_37 : decode cX12_eye 37 = .ok (.aload_n 0, 1) := by decide +kernel
theorem dX12_eye_38 : decode cX12_eye 38 = .ok (.iload_n 1, 1) := by decide +kernel
theorem dX12_eye_39 : decode cX12_eye 39 = .ok (.iload_n 2, 1) := by decide +kernel
theorem dX12_eye_40 : decode cX12_eye 40 = .ok (.invokevirtual 248, 3) := by decide +kernel
theorem dX12_eye_43 : decode cX12_eye 43 = .ok (.istore 4, 2) := by decide +kernel
theorem dX12_eye_45 : decode cX12_eye 45 = .ok (.iload_n 3, 1) := by decide +kernel
theorem dX12_eye_46 : decode cX12_eye 46 = .ok (.ifCond .ne 8, 3) := by decide +kernel
theorem dX12_eye_49 : decode cX12_eye 49 = .ok (.iload 4, 2) := by decide +kernel
theorem dX12_eye_51 : decode cX12_eye 51 = .ok (.goto 5, 3) := by decide +kernel
theorem dX12_eye_54 : decode cX12_eye 54 = .ok (.bipush 100, 2) := by decide +kernel
theorem dX12_eye_56 : decode cX12_eye 56 = .ok (.iload 4, 2) := by decide +kernel
theorem dX12_eye_58 : decode cX12_eye 58 = .ok (.bipush 100, 2) := by decide +kernel
theorem dX12_eye_60 : decode cX12_eye 60 = .ok (.invokestatic 251, 3) := by decide +kernel
theorem dX12_eye_63 : decode cX12_eye 63 = .ok (.idiv, 1) := by decide +kernel
theorem dX12_eye_64 : decode cX12_eye 64 = .ok (.ireturn, 1) := by decide +kernel
theorem dX12_surest_0 : decode cX12_surest 0 = .ok (.aload_n 0, 1) := by decide +kernel
theorem dX12_surest_1 : decode cX12_surest 1 = .ok (.iload_n 1, 1) := by decide +kernel
theorem dX12_surest_2 : decode cX12_surest 2 = .ok (.invokevirtual 128, 3) := by decide +kernel
theorem dX12_surest_5 : decode cX12_surest 5 = .ok (.ifCond .ne 9, 3) := by decide +kernel
theorem dX12_surest_8 : decode cX12_surest 8 = .ok (.aload_n 0, 1) := by decide +kernel
theorem dX12_surest_9 : decode cX12_surest 9 = .ok (.iconst (-1), 1) := by decide +kernel
theorem dX12_surest_10 : decode cX12_surest 10 = .ok (.invokevirtual 98, 3) := by decide +kernel
theorem dX12_surest_13 : decode cX12_surest 13 = .ok (.ireturn, 1) := by decide +kernel
theorem dX12_surest_14 : decode cX12_surest 14 = .ok (.bipush (-9), 2) := by decide +kernel
theorem dX12_surest_16 : decode cX12_surest 16 = .ok (.istore_n 2, 1) := by decide +kernel
theorem dX12_surest_17 : decode cX12_surest 17 = .ok (.iconst 0, 1) := by decide +kernel
theorem dX12_surest_18 : decode cX12_surest 18 = .ok (.istore_n 3, 1) := by decide +kernel
theorem dX12_surest_19 : decode cX12_surest 19 = .ok (.iconst 0, 1) := by decide +kernel
theorem dX12_surest_20 : decode cX12_surest 20 = .ok (.istore 4, 2) := by decide +kernel
theorem dX12_surest_22 : decode cX12_surest 22 = .ok (.iload 4, 2) := by decide +kernel
theorem dX12_surest_24 : decode cX12_surest 24 = .ok (.bipush 81, 2) := by decide +kernel
theorem dX12_surest_26 : decode cX12_surest 26 = .ok (.if_icmp .ge 65, 3) := by decide +kernel
theorem dX12_surest_29 : decode cX12_surest 29 = .ok (.aload_n 0, 1) := by decide +kernel
theorem dX12_surest_30 : decode cX12_surest 30 = .ok (.iload_n 1, 1) := by decide +kernel
theorem dX12_surest_31 : decode cX12_surest 31 = .ok (.iload 4, 2) := by decide +kernel
theorem dX12_surest_33 : decode cX12_surest 33 = .ok (.invokestatic 205, 3) := by decide +kernel
theorem dX12_surest_36 : decode cX12_surest 36 = .ok (.invokevirtual 248, 3) := by decide +kernel
theorem dX12_surest_39 : decode cX12_surest 39 = .ok (.istore 5, 2) := by decide +kernel
theorem dX12_surest_41 : decode cX12_surest 41 = .ok (.iload 5, 2) := by decide +kernel
theorem dX12_surest_43 : decode cX12_surest 43 = .ok (.iload_n 3, 1) := by decide +kernel
theorem dX12_surest_44 : decode cX12_surest 44 = .ok (.if_icmp .lt 41, 3) := by decide +kernel
theorem dX12_surest_47 : decode cX12_surest 47 = .ok (.iload 5, 2) := by decide +kernel
theorem dX12_surest_49 : decode cX12_surest 49 = .ok (.ifCond .eq 36, 3) := by decide +kernel
theorem dX12_surest_52 : decode cX12_surest 52 = .ok (.iload 5, 2) := by decide +kernel
theorem dX12_surest_54 : decode cX12_surest 54 = .ok (.iload_n 3, 1) := by decide +kernel
theorem dX12_surest_55 : decode cX12_surest 55 = .ok (.if_icmp .ne 21, 3) := by decide +kernel
theorem dX12_surest_58 : decode cX12_surest 58 = .ok (.iload 4, 2) := by decide +kernel
theorem dX12_surest_60 : decode cX12_surest 60 = .ok (.invokestatic 205, 3) := by decide +kernel
theorem dX12_surest_63 : decode cX12_surest 63 = .ok (.invokestatic 208, 3) := by decide +kernel
theorem dX12_surest_66 : decode cX12_surest 66 = .ok (.iload_n 2, 1) := by decide +kernel
theorem dX12_surest_67 : decode cX12_surest 67 = .ok (.invokestatic 208, 3) := by decide +kernel
theorem dX12_surest_70 : decode cX12_surest 70 = .ok (.if_icmp .lt 6, 3) := by decide +kernel
theorem dX12_surest_73 : decode cX12_surest 73 = .ok (.goto 12, 3) := by decide +kernel
theorem dX12_surest_76 : decode cX12_surest 76 = .ok (.iload 4, 2) := by decide +kernel
theorem dX12_surest_78 : decode cX12_surest 78 = .ok (.invokestatic 205, 3) := by decide +kernel
theorem dX12_surest_81 : decode cX12_surest 81 = .ok (.istore_n 2, 1) := by decide +kernel
theorem dX12_surest_82 : decode cX12_surest 82 = .ok (.iload 5, 2) := by decide +kernel
theorem dX12_surest_84 : decode cX12_surest 84 = .ok (.istore_n 3, 1) := by decide +kernel
theorem dX12_surest_85 : decode cX12_surest 85 = .ok (.iinc 4 1, 3) := by decide +kernel
theorem dX12_surest_88 : decode cX12_surest 88 = .ok (.goto (-66), 3) := by decide +kernel
theorem dX12_surest_91 : decode cX12_surest 91 = .ok (.iload_n 2, 1) := by decide +kernel
theorem dX12_surest_92 : decode cX12_surest 92 = .ok (.ireturn, 1) := by decide +kernel
theorem dX12_aimOf_0 : decode cX12_aimOf 0 = .ok (.aload_n 0, 1) := by decide +kernel
theorem dX12_aimOf_1 : decode cX12_aimOf 1 = .ok (.aload_n 0, 1) := by decide +kernel
theorem dX12_aimOf_2 : decode cX12_aimOf 2 = .ok (.getfield 22, 3) := by decide +kernel
theorem dX12_aimOf_5 : decode cX12_aimOf 5 = .ok (.iload_n 1, 1) := by decide +kernel
theorem dX12_aimOf_6 : decode cX12_aimOf 6 = .ok (.iaload, 1) := by decide +kernel
theorem dX12_aimOf_7 : decode cX12_aimOf 7 = .ok (.invokevirtual 211, 3) := by decide +kernel
theorem dX12_aimOf_10 : decode cX12_aimOf 10 = .ok (.istore_n 2, 1) := by decide +kernel
theorem dX12_aimOf_11 : decode cX12_aimOf 11 = .ok (.iload_n 2, 1) := by decide +kernel
theorem dX12_aimOf_12 : decode cX12_aimOf 12 = .ok (.ifCond .ge 12, 3) := by decide +kernel
theorem dX12_aimOf_15 : decode cX12_aimOf 15 = .ok (.aload_n 0, 1) := by decide +kernel
theorem dX12_aimOf_16 : decode cX12_aimOf 16 = .ok (.getfield 25, 3) := by decide +kernel
theorem dX12_aimOf_19 : decode cX12_aimOf 19 = .ok (.iload_n 1, 1) := by decide +kernel
theorem dX12_aimOf_20 : decode cX12_aimOf 20 = .ok (.iaload, 1) := by decide +kernel
theorem dX12_aimOf_21 : decode cX12_aimOf 21 = .ok (.goto 4, 3) := by decide +kernel
theorem dX12_aimOf_24 : decode cX12_aimOf 24 = .ok (.iload_n 2, 1) := by decide +kernel
theorem dX12_aimOf_25 : decode cX12_aimOf 25 = .ok (.ireturn, 1) := by decide +kernel
theorem dX12_allOf_0 : decode cX12_allOf 0 = .ok (.iconst 0, 1) := by decide +kernel
theorem dX12_allOf_1 : decode cX12_allOf 1 = .ok (.istore_n 1, 1) := by decide +kernel
theorem dX12_allOf_2 : decode cX12_allOf 2 = .ok (.iconst (-1), 1) := by decide +kernel
theorem dX12_allOf_3 : decode cX12_allOf 3 = .ok (.istore_n 2, 1) := by decide +kernel
theorem dX12_allOf_4 : decode cX12_allOf 4 = .ok (.iconst 0, 1) := by decide +kernel
theorem dX12_allOf_5 : decode cX12_allOf 5 = .ok (.istore_n 3, 1) := by decide +kernel
theorem dX12_allOf_6 : decode cX12_allOf 6 = .ok (.iload_n 3, 1) := by decide +kernel
theorem dX12_allOf_7 : decode cX12_allOf 7 = .ok (.bipush 81, 2) := by decide +kernel
theorem dX12_allOf_9 : decode cX12_allOf 9 = .ok (.if_icmp .ge 75, 3) := by decide +kernel
theorem dX12_allOf_12 : decode cX12_allOf 12 = .ok (.aload_n 0, 1) := by decide +kernel
theorem dX12_allOf_13 : decode cX12_allOf 13 = .ok (.iconst 0, 1) := by decide +kernel
theorem dX12_allOf_14 : decode cX12_allOf 14 = .ok (.invokevirtual 220, 3) := by decide +kernel
theorem dX12_allOf_17 : decode cX12_allOf 17 = .ok (.aload_n 0, 1) := by decide +kernel
theorem dX12_allOf_18 : decode cX12_allOf 18 = .ok (.iload_n 3, 1) := by decide +kernel
theorem dX12_allOf_19 : decode cX12_allOf 19 = .ok (.invokestatic 205, 3) := by decide +kernel
theorem dX12_allOf_22 : decode cX12_allOf 22 = .ok (.invokevirtual 196, 3) := by decide +kernel
theorem dX12_allOf_25 : decode cX12_allOf 25 = .ok (.pop, 1) := by decide +kernel
theorem dX12_allOf_26 : decode cX12_allOf 26 = .ok (.aload_n 0, 1) := by decide +kernel
theorem dX12_allOf_27 : decode cX12_allOf 27 = .ok (.invokevirtual 202, 3) := by decide +kernel
theorem dX12_allOf_30 : decode cX12_allOf 30 = .ok (.istore 4, 2) := by decide +kernel
theorem dX12_allOf_32 : decode cX12_allOf 32 = .ok (.aload_n 0, 1) := by decide +kernel
theorem dX12_allOf_33 : decode cX12_allOf 33 = .ok (.iconst 0, 1) := by decide +kernel
theorem dX12_allOf_34 : decode cX12_allOf 34 = .ok (.invokevirtual 227, 3) := by decide +kernel
theorem dX12_allOf_37 : decode cX12_allOf 37 = .ok (.iload_n 2, 1) := by decide +kernel
theorem dX12_allOf_38 : decode cX12_allOf 38 = .ok (.ifCond .lt 32, 3) := by decide +kernel
theorem dX12_allOf_41 : decode cX12_allOf 41 = .ok (.iload 4, 2) := by decide +kernel
theorem dX12_allOf_43 : decode cX12_allOf 43 = .ok (.iload_n 2, 1) := by decide +kernel
theorem dX12_allOf_44 : decode cX12_allOf 44 = .ok (.if_icmp .gt 34, 3) := by decide +kernel
theorem dX12_allOf_47 : decode cX12_allOf 47 = .ok (.iload 4, 2) := by decide +kernel
theorem dX12_allOf_49 : decode cX12_allOf 49 = .ok (.iload_n 2, 1) := by decide +kernel
theorem dX12_allOf_50 : decode cX12_allOf 50 = .ok (.if_icmp .ne 20, 3) := by decide +kernel
theorem dX12_allOf_53 : decode cX12_allOf 53 = .ok (.iload_n 3, 1) := by decide +kernel
theorem dX12_allOf_54 : decode cX12_allOf 54 = .ok (.invokestatic 205, 3) := by decide +kernel
theorem dX12_allOf_57 : decode cX12_allOf 57 = .ok (.invokestatic 208, 3) := by decide +kernel
theorem dX12_allOf_60 : decode cX12_allOf 60 = .ok (.iload_n 1, 1) := by decide +kernel
theorem dX12_allOf_61 : decode cX12_allOf 61 = .ok (.invokestatic 208, 3) := by decide +kernel
theorem dX12_allOf_64 : decode cX12_allOf 64 = .ok (.if_icmp .lt 6, 3) := by decide +kernel
theorem dX12_allOf_67 : decode cX12_allOf 67 = .ok (.goto 11, 3) := by decide +kernel
theorem dX12_allOf_70 : decode cX12_allOf 70 = .ok (.iload_n 3, 1) := by decide +kernel
theorem dX12_allOf_71 : decode cX12_allOf 71 = .ok (.invokestatic 205, 3) := by decide +kernel
theorem dX12_allOf_74 : decode cX12_allOf 74 = .ok (.istore_n 1, 1) := by decide +kernel
theorem dX12_allOf_75 : decode cX12_allOf 75 = .ok (.iload 4, 2) := by decide +kernel
theorem dX12_allOf_77 : decode cX12_allOf 77 = .ok (.istore_n 2, 1) := by decide +kernel
theorem dX12_allOf_78 : decode cX12_allOf 78 = .ok (.iinc 3 1, 3) := by decide +kernel
theorem dX12_allOf_81 : decode cX12_allOf 81 = .ok (.goto (-75), 3) := by decide +kernel
theorem dX12_allOf_84 : decode cX12_allOf 84 = .ok (.iload_n 1, 1) := by decide +kernel
theorem dX12_allOf_85 : decode cX12_allOf 85 = .ok (.ireturn, 1) := by decide +kernel
theorem dX12_aheadOf_0 : decode cX12_aheadOf 0 = .ok (.aload_n 0, 1) := by decide +kernel
theorem dX12_aheadOf_1 : decode cX12_aheadOf 1 = .ok (.aload_n 0, 1) := by decide +kernel
theorem dX12_aheadOf_2 : decode cX12_aheadOf 2 = .ok (.getfield 22, 3) := by decide +kernel
theorem dX12_aheadOf_5 : decode cX12_aheadOf 5 = .ok (.iload_n 1, 1) := by decide +kernel
theorem dX12_aheadOf_6 : decode cX12_aheadOf 6 = .ok (.iaload, 1) := by decide +kernel
theorem dX12_aheadOf_7 : decode cX12_aheadOf 7 = .ok (.invokevirtual 211, 3) := by decide +kernel
theorem dX12_aheadOf_10 : decode cX12_aheadOf 10 = .ok (.istore_n 2, 1) := by decide +kernel
theorem dX12_aheadOf_11 : decode cX12_aheadOf 11 = .ok (.bipush (-9), 2) := by decide +kernel
theorem dX12_aheadOf_13 : decode cX12_aheadOf 13 = .ok (.istore_n 3, 1) := by decide +kernel
theorem dX12_aheadOf_14 : decode cX12_aheadOf 14 = .ok (.iconst 0, 1) := by decide +kernel
theorem dX12_aheadOf_15 : decode cX12_aheadOf 15 = .ok (.istore 4, 2) := by decide +kernel
theorem dX12_aheadOf_17 : decode cX12_aheadOf 17 = .ok (.iload 4, 2) := by decide +kernel
theorem dX12_aheadOf_19 : decode cX12_aheadOf 19 = .ok (.bipush 81, 2) := by decide +kernel
theorem dX12_aheadOf_21 : decode cX12_aheadOf 21 = .ok (.if_icmp .ge 90, 3) := by decide +kernel
theorem dX12_aheadOf_24 : decode cX12_aheadOf 24 = .ok (.iload_n 3, 1) := by decide +kernel
theorem dX12_aheadOf_25 : decode cX12_aheadOf 25 = .ok (.ifCond .lt 21, 3) := by decide +kernel
theorem dX12_aheadOf_28 : decode cX12_aheadOf 28 = .ok (.iload 4, 2) := by decide +kernel
theorem dX12_aheadOf_30 : decode cX12_aheadOf 30 = .ok (.invokestatic 205, 3) := by decide +kernel
theorem dX12_aheadOf_33 : decode cX12_aheadOf 33 = .ok (.invokestatic 208, 3) := by decide +kernel
theorem dX12_aheadOf_36 : decode cX12_aheadOf 36 = .ok (.iload_n 3, 1) := by decide +kernel
theorem dX12_aheadOf_37 : decode cX12_aheadOf 37 = .ok (.invokestatic 208, 3) := by decide +kernel
theorem dX12_aheadOf_40 : decode cX12_aheadOf 40 = .ok (.if_icmp .lt 6, 3) := by decide +kernel
theorem dX12_aheadOf_43 : decode cX12_aheadOf 43 = .ok (.goto 62, 3) := by decide +kernel
theorem dX12_aheadOf_46 : decode cX12_aheadOf 46 = .ok (.aload_n 0, 1) := by decide +kernel
theorem dX12_aheadOf_47 : decode cX12_aheadOf 47 = .ok (.iconst 0, 1) := by decide +kernel
theorem dX12_aheadOf_48 : decode cX12_aheadOf 48 = .ok (.invokevirtual 220, 3) := by decide +kernel
theorem dX12_aheadOf_51 : decode cX12_aheadOf 51 = .ok (.aload_n 0, 1) := by decide +kernel
theorem dX12_aheadOf_52 : decode cX12_aheadOf 52 = .ok (.iload 4, 2) := by decide +kernel
theorem dX12_aheadOf_54 : decode cX12_aheadOf 54 = .ok (.invokestatic 205, 3) := by decide +kernel
theorem dX12_aheadOf_57 : decode cX12_aheadOf 57 = .ok (.invokevirtual 196, 3) := by decide +kernel
theorem dX12_aheadOf_60 : decode cX12_aheadOf 60 = .ok (.pop, 1) := by decide +kernel
theorem dX12_aheadOf_61 : decode cX12_aheadOf 61 = .ok (.aload_n 0, 1) := by decide +kernel
theorem dX12_aheadOf_62 : decode cX12_aheadOf 62 = .ok (.aload_n 0, 1) := by decide +kernel
theorem dX12_aheadOf_63 : decode cX12_aheadOf 63 = .ok (.getfield 22, 3) := by decide +kernel
theorem dX12_aheadOf_66 : decode cX12_aheadOf 66 = .ok (.iload_n 1, 1) := by decide +kernel
theorem dX12_aheadOf_67 : decode cX12_aheadOf 67 = .ok (.iaload, 1) := by decide +kernel
theorem dX12_aheadOf_68 : decode cX12_aheadOf 68 = .ok (.invokevirtual 211, 3) := by decide +kernel
theorem dX12_aheadOf_71 : decode cX12_aheadOf 71 = .ok (.istore 5, 2) := by decide +kernel
theorem dX12_aheadOf_73 : decode cX12_aheadOf 73 = .ok (.aload_n 0, 1) := by decide +kernel
theorem dX12_aheadOf_74 : decode cX12_aheadOf 74 = .ok (.iconst 0, 1) := by decide +kernel
theorem dX12_aheadOf_75 : decode cX12_aheadOf 75 = .ok (.invokevirtual 227, 3) := by decide +kernel
theorem dX12_aheadOf_78 : decode cX12_aheadOf 78 = .ok (.iload 5, 2) := by decide +kernel
theorem dX12_aheadOf_80 : decode cX12_aheadOf 80 = .ok (.ifCond .lt 25, 3) := by decide +kernel
theorem dX12_aheadOf_83 : decode cX12_aheadOf 83 = .ok (.iload_n 2, 1) := by decide +kernel
theorem dX12_aheadOf_84 : decode cX12_aheadOf 84 = .ok (.ifCond .lt 15, 3) := by decide +kernel
theorem dX12_aheadOf_87 : decode cX12_aheadOf 87 = .ok (.iload 5, 2) := by decide +kernel
theorem dX12_aheadOf_89 : decode cX12_aheadOf 89 = .ok (.invokestatic 208, 3) := by decide +kernel
theorem dX12_aheadOf_92 : decode cX12_aheadOf 92 = .ok (.iload_n 2, 1) := by decide +kernel
theorem dX12_aheadOf_93 : decode cX12_aheadOf 93 = .ok (.invokestatic 208, 3) := by decide +kernel
theorem dX12_aheadOf_96 : decode cX12_aheadOf 96 = .ok (.if_icmp .ge 9, 3) := by decide +kernel
theorem dX12_aheadOf_99 : decode cX12_aheadOf 99 = .ok (.iload 4, 2) := by decide +kernel
theorem dX12_aheadOf_101 : decode cX12_aheadOf 101 = .ok (.invokestatic 205, 3) := by decide +kernel
theorem dX12_aheadOf_104 : decode cX12_aheadOf 104 = .ok (.istore_n 3, 1) := by decide +kernel
theorem dX12_aheadOf_105 : decode cX12_aheadOf 105 = .ok (.iinc 4 1, 3) := by decide +kernel
theorem dX12_aheadOf_108 : decode cX12_aheadOf 108 = .ok (.goto (-91), 3) := by decide +kernel
theorem dX12_aheadOf_111 : decode cX12_aheadOf 111 = .ok (.iload_n 3, 1) := by decide +kernel
theorem dX12_aheadOf_112 : decode cX12_aheadOf 112 = .ok (.ifCond .ge 11, 3) := by decide +kernel
theorem dX12_aheadOf_115 : decode cX12_aheadOf 115 = .ok (.aload_n 0, 1) := by decide +kernel
theorem dX12_aheadOf_116 : decode cX12_aheadOf 116 = .ok (.iload_n 1, 1) := by decide +kernel
theorem dX12_aheadOf_117 : decode cX12_aheadOf 117 = .ok (.invokevirtual 254, 3) := by decide +kernel
theorem dX12_aheadOf_120 : decode cX12_aheadOf 120 = .ok (.goto 4, 3) := by decide +kernel
theorem dX12_aheadOf_123 : decode cX12_aheadOf 123 = .ok (.iload_n 3, 1) := by decide +kernel
theorem dX12_aheadOf_124 : decode cX12_aheadOf 124 = .ok (.ireturn, 1) := by decide +kernel
theorem dX12_writesOf_0 : decode cX12_writesOf 0 = .ok (.aload_n 0, 1) := by decide +kernel
theorem dX12_writesOf_1 : decode cX12_writesOf 1 = .ok (.getfield 19, 3) := by decide +kernel
theorem dX12_writesOf_4 : decode cX12_writesOf 4 = .ok (.iload_n 1, 1) := by decide +kernel
theorem dX12_writesOf_5 : decode cX12_writesOf 5 = .ok (.iaload, 1) := by decide +kernel
theorem dX12_writesOf_6 : decode cX12_writesOf 6 = .ok (.tableswitch 73 0 3 #[30, 37, 43, 48], 30) := by decide +kernel
theorem dX12_writesOf_36 : decode cX12_writesOf 36 = .ok (.aload_n 0, 1) := by decide +kernel
theorem dX12_writesOf_37 : decode cX12_writesOf 37 = .ok (.getfield 25, 3) := by decide +kernel
theorem dX12_writesOf_40 : decode cX12_writesOf 40 = .ok (.iload_n 1, 1) := by decide +kernel
theorem dX12_writesOf_41 : decode cX12_writesOf 41 = .ok (.iaload, 1) := by decide +kernel
theorem dX12_writesOf_42 : decode cX12_writesOf 42 = .ok (.ireturn, 1) := by decide +kernel
theorem dX12_writesOf_43 : decode cX12_writesOf 43 = .ok (.aload_n 0, 1) := by decide +kernel
theorem dX12_writesOf_44 : decode cX12_writesOf 44 = .ok (.iload_n 1, 1) := by decide +kernel
theorem dX12_writesOf_45 : decode cX12_writesOf 45 = .ok (.invokevirtual 254, 3) := by decide +kernel
theorem dX12_writesOf_48 : decode cX12_writesOf 48 = .ok (.ireturn, 1) := by decide +kernel
theorem dX12_writesOf_49 : decode cX12_writesOf 49 = .ok (.aload_n 0, 1) := by decide +kernel
theorem dX12_writesOf_50 : decode cX12_writesOf 50 = .ok (.invokevirtual 257, 3) := by decide +kernel
theorem dX12_writesOf_53 : decode cX12_writesOf 53 = .ok (.ireturn, 1) := by decide +kernel
theorem dX12_writesOf_54 : decode cX12_writesOf 54 = .ok (.aload_n 0, 1) := by decide +kernel
theorem dX12_writesOf_55 : decode cX12_writesOf 55 = .ok (.getfield 168, 3) := by decide +kernel
theorem dX12_writesOf_58 : decode cX12_writesOf 58 = .ok (.iconst 2, 1) := by decide +kernel
theorem dX12_writesOf_59 : decode cX12_writesOf 59 = .ok (.irem, 1) := by decide +kernel
theorem dX12_writesOf_60 : decode cX12_writesOf 60 = .ok (.iconst 1, 1) := by decide +kernel
theorem dX12_writesOf_61 : decode cX12_writesOf 61 = .ok (.if_icmp .ne 11, 3) := by decide +kernel
theorem dX12_writesOf_64 : decode cX12_writesOf 64 = .ok (.aload_n 0, 1) := by decide +kernel
theorem dX12_writesOf_65 : decode cX12_writesOf 65 = .ok (.iload_n 1, 1) := by decide +kernel
theorem dX12_writesOf_66 : decode cX12_writesOf 66 = .ok (.invokevirtual 254, 3) := by decide +kernel
theorem dX12_writesOf_69 : decode cX12_writesOf 69 = .ok (.goto 9, 3) := by decide +kernel
theorem dX12_writesOf_72 : decode cX12_writesOf 72 = .ok (.aload_n 0, 1) := by decide +kernel
theorem dX12_writesOf_73 : decode cX12_writesOf 73 = .ok (.getfield 25, 3) := by decide +kernel
theorem dX12_writesOf_76 : decode cX12_writesOf 76 = .ok (.iload_n 1, 1) := by decide +kernel
theorem dX12_writesOf_77 : decode cX12_writesOf 77 = .ok (.iaload, 1) := by decide +kernel
theorem dX12_writesOf_78 : decode cX12_writesOf 78 = .ok (.ireturn, 1) := by decide +kernel
theorem dX12_writesOf_79 : decode cX12_writesOf 79 = .ok (.aload_n 0, 1) := by decide +kernel
theorem dX12_writesOf_80 : decode cX12_writesOf 80 = .ok (.iload_n 1, 1) := by decide +kernel
theorem dX12_writesOf_81 : decode cX12_writesOf 81 = .ok (.invokevirtual 260, 3) := by decide +kernel
theorem dX12_writesOf_84 : decode cX12_writesOf 84 = .ok (.ireturn, 1) := by decide +kernel
theorem dX12_morning_0 : decode cX12_morning 0 = .ok (.iconst 0, 1) := by decide +kernel
theorem dX12_morning_1 : decode cX12_morning 1 = .ok (.istore_n 1, 1) := by decide +kernel
theorem dX12_morning_2 : decode cX12_morning 2 = .ok (.iconst 0, 1) := by decide +kernel
theorem dX12_morning_3 : decode cX12_morning 3 = .ok (.istore_n 2, 1) := by decide +kernel
theorem dX12_morning_4 : decode cX12_morning 4 = .ok (.iload_n 2, 1) := by decide +kernel
theorem dX12_morning_5 : decode cX12_morning 5 = .ok (.aload_n 0, 1) := by decide +kernel
theorem dX12_morning_6 : decode cX12_morning 6 = .ok (.getfield 80, 3) := by decide +kernel
theorem dX12_morning_9 : decode cX12_morning 9 = .ok (.if_icmp .ge 47, 3) := by decide +kernel
theorem dX12_morning_12 : decode cX12_morning 12 = .ok (.aload_n 0, 1) := by decide +kernel
theorem dX12_morning_13 : decode cX12_morning 13 = .ok (.iload_n 2, 1) := by decide +kernel
theorem dX12_morning_14 : decode cX12_morning 14 = .ok (.invokevirtual 263, 3) := by decide +kernel
theorem dX12_morning_17 : decode cX12_morning 17 = .ok (.istore_n 3, 1) := by decide +kernel
theorem dX12_morning_18 : decode cX12_morning 18 = .ok (.aload_n 0, 1) := by decide +kernel
theorem dX12_morning_19 : decode cX12_morning 19 = .ok (.dup, 1) := by decide +kernel
theorem dX12_morning_20 : decode cX12_morning 20 = .ok (.getfield 171, 3) := by decide +kernel
theorem dX12_morning_23 : decode cX12_morning 23 = .ok (.iconst 1, 1) := by decide +kernel
theorem dX12_morning_24 : decode cX12_morning 24 = .ok (.iadd, 1) := by decide +kernel
theorem dX12_morning_25 : decode cX12_morning 25 = .ok (.putfield 171, 3) := by decide +kernel
theorem dX12_morning_28 : decode cX12_morning 28 = .ok (.iload_n 1, 1) := by decide +kernel
theorem dX12_morning_29 : decode cX12_morning 29 = .ok (.aload_n 0, 1) := by decide +kernel
theorem dX12_morning_30 : decode cX12_morning 30 = .ok (.iload_n 3, 1) := by decide +kernel
theorem dX12_morning_31 : decode cX12_morning 31 = .ok (.invokevirtual 196, 3) := by decide +kernel
theorem dX12_morning_34 : decode cX12_morning 34 = .ok (.aload_n 0, 1) := by decide +kernel
theorem dX12_morning_35 : decode cX12_morning 35 = .ok (.getfield 22, 3) := by decide +kernel
theorem dX12_morning_38 : decode cX12_morning 38 = .ok (.iload_n 2, 1) := by decide +kernel
theorem dX12_morning_39 : decode cX12_morning 39 = .ok (.iaload, 1) := by decide +kernel
theorem dX12_morning_40 : decode cX12_morning 40 = .ok (.if_icmp .ne 7, 3) := by decide +kernel
theorem dX12_morning_43 : decode cX12_morning 43 = .ok (.iconst 1, 1) := by decide +kernel
theorem dX12_morning_44 : decode cX12_morning 44 = .ok (.goto 4, 3) := by decide +kernel
theorem dX12_morning_47 : decode cX12_morning 47 = .ok (.iconst 0, 1) := by decide +kernel
theorem dX12_morning_48 : decode cX12_morning 48 = .ok (.iadd, 1) := by decide +kernel
theorem dX12_morning_49 : decode cX12_morning 49 = .ok (.istore_n 1, 1) := by decide +kernel
theorem dX12_morning_50 : decode cX12_morning 50 = .ok (.iinc 2 1, 3) := by decide +kernel
theorem dX12_morning_53 : decode cX12_morning 53 = .ok (.goto (-49), 3) := by decide +kernel
theorem dX12_morning_56 : decode cX12_morning 56 = .ok (.iload_n 1, 1) := by decide +kernel
theorem dX12_morning_57 : decode cX12_morning 57 = .ok (.ireturn, 1) := by decide +kernel
theorem dX12_writes_0 : decode cX12_writes 0 = .ok (.aload_n 0, 1) := by decide +kernel
theorem dX12_writes_1 : decode cX12_writes 1 = .ok (.iload_n 1, 1) := by decide +kernel
theorem dX12_writes_2 : decode cX12_writes 2 = .ok (.invokevirtual 190, 3) := by decide +kernel
theorem dX12_writes_5 : decode cX12_writes 5 = .ok (.ifCond .eq 11, 3) := by decide +kernel
theorem dX12_writes_8 : decode cX12_writes 8 = .ok (.aload_n 0, 1) := by decide +kernel
theorem dX12_writes_9 : decode cX12_writes 9 = .ok (.iload_n 1, 1) := by decide +kernel
theorem dX12_writes_10 : decode cX12_writes 10 = .ok (.invokevirtual 263, 3) := by decide +kernel
theorem dX12_writes_13 : decode cX12_writes 13 = .ok (.goto 8, 3) := by decide +kernel
theorem dX12_writes_16 : decode cX12_writes 16 = .ok (.aload_n 0, 1) := by decide +kernel
theorem dX12_writes_17 : decode cX12_writes 17 = .ok (.iconst (-1), 1) := by decide +kernel
theorem dX12_writes_18 : decode cX12_writes 18 = .ok (.invokevirtual 98, 3) := by decide +kernel
theorem dX12_writes_21 : decode cX12_writes 21 = .ok (.ireturn, 1) := by decide +kernel
theorem dX12_aimBehind_0 : decode cX12_aimBehind 0 = .ok (.aload_n 0, 1) := by decide +kernel
theorem dX12_aimBehind_1 : decode cX12_aimBehind 1 = .ok (.iconst 0, 1) := by decide +kernel
theorem dX12_aimBehind_2 : decode cX12_aimBehind 2 = .ok (.invokevirtual 220, 3) := by decide +kernel
theorem dX12_aimBehind_5 : decode cX12_aimBehind 5 = .ok (.aload_n 0, 1) := by decide +kernel
theorem dX12_aimBehind_6 : decode cX12_aimBehind 6 = .ok (.iload_n 2, 1) := by decide +kernel
theorem dX12_aimBehind_7 : decode cX12_aimBehind 7 = .ok (.invokevirtual 196, 3) := by decide +kernel
theorem dX12_aimBehind_10 : decode cX12_aimBehind 10 = .ok (.pop, 1) := by decide +kernel
theorem dX12_aimBehind_11 : decode cX12_aimBehind 11 = .ok (.aload_n 0, 1) := by decide +kernel
theorem dX12_aimBehind_12 : decode cX12_aimBehind 12 = .ok (.iload_n 1, 1) := by decide +kernel
theorem dX12_aimBehind_13 : decode cX12_aimBehind 13 = .ok (.invokevirtual 254, 3) := by decide +kernel
theorem dX12_aimBehind_16 : decode cX12_aimBehind 16 = .ok (.istore_n 3, 1) := by decide +kernel
theorem dX12_aimBehind_17 : decode cX12_aimBehind 17 = .ok (.aload_n 0, 1) := by decide +kernel
theorem dX12_aimBehind_18 : decode cX12_aimBehind 18 = .ok (.iconst 0, 1) := by decide +kernel
theorem dX12_aimBehind_19 : decode cX12_aimBehind 19 = .ok (.invokevirtual 227, 3) := by decide +kernel
theorem dX12_aimBehind_22 : decode cX12_aimBehind 22 = .ok (.iload_n 3, 1) := by decide +kernel
theorem dX12_aimBehind_23 : decode cX12_aimBehind 23 = .ok (.ireturn, 1) := by decide +kernel
theorem dX12_both_0 : decode cX12_both 0 = .ok (.aload_n 0, 1) := by decide +kernel
theorem dX12_both_1 : decode cX12_both 1 = .ok (.iload_n 1, 1) := by decide +kernel
theorem dX12_both_2 : decode cX12_both 2 = .ok (.invokevirtual 190, 3) := by decide +kernel
theorem dX12_both_5 : decode cX12_both 5 = .ok (.ifCond .eq 16, 3) := by decide +kernel
theorem dX12_both_8 : decode cX12_both 8 = .ok (.aload_n 0, 1) := by decide +kernel
theorem dX12_both_9 : decode cX12_both 9 = .ok (.iload_n 2, 1) := by decide +kernel
theorem dX12_both_10 : decode cX12_both 10 = .ok (.invokevirtual 190, 3) := by decide +kernel
theorem dX12_both_13 : decode cX12_both 13 = .ok (.ifCond .eq 8, 3) := by decide +kernel
theorem dX12_both_16 : decode cX12_both 16 = .ok (.iload_n 1, 1) := by decide +kernel
theorem dX12_both_17 : decode cX12_both 17 = .ok (.iload_n 2, 1) := by decide +kernel
theorem dX12_both_18 : decode cX12_both 18 = .ok (.if_icmp .ne 9, 3) := by decide +kernel
theorem dX12_both_21 : decode cX12_both 21 = .ok (.aload_n 0, 1) := by decide +kernel
theorem dX12_both_22 : decode cX12_both 22 = .ok (.iconst (-1), 1) := by decide +kernel
theorem dX12_both_23 : decode cX12_both 23 = .ok (.invokevirtual 98, 3) := by decide +kernel
theorem dX12_both_26 : decode cX12_both 26 = .ok (.ireturn, 1) := by decide +kernel
theorem dX12_both_27 : decode cX12_both 27 = .ok (.aload_n 0, 1) := by decide +kernel
theorem dX12_both_28 : decode cX12_both 28 = .ok (.getfield 25, 3) := by decide +kernel
theorem dX12_both_31 : decode cX12_both 31 = .ok (.iload_n 1, 1) := by decide +kernel
theorem dX12_both_32 : decode cX12_both 32 = .ok (.iaload, 1) := by decide +kernel
theorem dX12_both_33 : decode cX12_both 33 = .ok (.istore_n 3, 1) := by decide +kernel
theorem dX12_both_34 : decode cX12_both 34 = .ok (.aload_n 0, 1) := by decide +kernel
theorem dX12_both_35 : decode cX12_both 35 = .ok (.getfield 25, 3) := by decide +kernel
theorem dX12_both_38 : decode cX12_both 38 = .ok (.iload_n 2, 1) := by decide +kernel
theorem dX12_both_39 : decode cX12_both 39 = .ok (.iaload, 1) := by decide +kernel
theorem dX12_both_40 : decode cX12_both 40 = .ok (.istore 4, 2) := by decide +kernel
theorem dX12_both_42 : decode cX12_both 42 = .ok (.iconst 1, 1) := by decide +kernel
theorem dX12_both_43 : decode cX12_both 43 = .ok (.istore 5, 2) := by decide +kernel
theorem dX12_both_45 : decode cX12_both 45 = .ok (.iload 5, 2) := by decide +kernel
theorem dX12_both_47 : decode cX12_both 47 = .ok (.bipush 10, 2) := by decide +kernel
theorem dX12_both_49 : decode cX12_both 49 = .ok (.if_icmp .gt 50, 3) := by decide +kernel
theorem dX12_both_52 : decode cX12_both 52 = .ok (.aload_n 0, 1) := by decide +kernel
theorem dX12_both_53 : decode cX12_both 53 = .ok (.iload_n 1, 1) := by decide +kernel
theorem dX12_both_54 : decode cX12_both 54 = .ok (.iload 4, 2) := by decide +kernel
theorem dX12_both_56 : decode cX12_both 56 = .ok (.invokevirtual 266, 3) := by decide +kernel
theorem dX12_both_59 : decode cX12_both 59 = .ok (.istore 6, 2) := by decide +kernel
theorem dX12_both_61 : decode cX12_both 61 = .ok (.aload_n 0, 1) := by decide +kernel
theorem dX12_both_62 : decode cX12_both 62 = .ok (.iload_n 2, 1) := by decide +kernel
theorem dX12_both_63 : decode cX12_both 63 = .ok (.iload 6, 2) := by decide +kernel
theorem dX12_both_65 : decode cX12_both 65 = .ok (.invokevirtual 266, 3) := by decide +kernel
theorem dX12_both_68 : decode cX12_both 68 = .ok (.istore 7, 2) := by decide +kernel
theorem dX12_both_70 : decode cX12_both 70 = .ok (.iload 6, 2) := by decide +kernel
theorem dX12_both_72 : decode cX12_both 72 = .ok (.iload_n 3, 1) := by decide +kernel
theorem dX12_both_73 : decode cX12_both 73 = .ok (.if_icmp .ne 13, 3) := by decide +kernel
theorem dX12_both_76 : decode cX12_both 76 = .ok (.iload 7, 2) := by decide +kernel
theorem dX12_both_78 : decode cX12_both 78 = .ok (.iload 4, 2) := by decide +kernel
theorem dX12_both_80 : decode cX12_both 80 = .ok (.if_icmp .ne 6, 3) := by decide +kernel
theorem dX12_both_83 : decode cX12_both 83 = .ok (.iload 5, 2) := by decide +kernel
theorem dX12_both_85 : decode cX12_both 85 = .ok (.ireturn, 1) := by decide +kernel
theorem dX12_both_86 : decode cX12_both 86 = .ok (.iload 6, 2) := by decide +kernel
theorem dX12_both_88 : decode cX12_both 88 = .ok (.istore_n 3, 1) := by decide +kernel
theorem dX12_both_89 : decode cX12_both 89 = .ok (.iload 7, 2) := by decide +kernel
theorem dX12_both_91 : decode cX12_both 91 = .ok (.istore 4, 2) := by decide +kernel
theorem dX12_both_93 : decode cX12_both 93 = .ok (.iinc 5 1, 3) := by decide +kernel
theorem dX12_both_96 : decode cX12_both 96 = .ok (.goto (-51), 3) := by decide +kernel
theorem dX12_both_99 : decode cX12_both 99 = .ok (.bipush (-9), 2) := by decide +kernel
theorem dX12_both_101 : decode cX12_both 101 = .ok (.ireturn, 1) := by decide +kernel
theorem dX12_draw_0 : decode cX12_draw 0 = .ok (.aload_n 0, 1) := by decide +kernel
theorem dX12_draw_1 : decode cX12_draw 1 = .ok (.aload_n 0, 1) := by decide +kernel
theorem dX12_draw_2 : decode cX12_draw 2 = .ok (.getfield 269, 3) := by decide +kernel
theorem dX12_draw_5 : decode cX12_draw 5 = .ok (.ldc_w 272, 3) := by decide +kernel
theorem dX12_draw_8 : decode cX12_draw 8 = .ok (.imul, 1) := by decide +kernel
theorem dX12_draw_9 : decode cX12_draw 9 = .ok (.ldc_w 273, 3) := by decide +kernel
theorem dX12_draw_12 : decode cX12_draw 12 = .ok (.iadd, 1) := by decide +kernel
theorem dX12_draw_13 : decode cX12_draw 13 = .ok (.putfield 269, 3) := by decide +kernel
theorem dX12_draw_16 : decode cX12_draw 16 = .ok (.aload_n 0, 1) := by decide +kernel
theorem dX12_draw_17 : decode cX12_draw 17 = .ok (.getfield 269, 3) := by decide +kernel
theorem dX12_draw_20 : decode cX12_draw 20 = .ok (.ldc_w 274, 3) := by decide +kernel
theorem dX12_draw_23 : decode cX12_draw 23 = .ok (.iand, 1) := by decide +kernel
theorem dX12_draw_24 : decode cX12_draw 24 = .ok (.sipush 256, 3) := by decide +kernel
theorem dX12_draw_27 : decode cX12_draw 27 = .ok (.idiv, 1) := by decide +kernel
theorem dX12_draw_28 : decode cX12_draw 28 = .ok (.iload_n 1, 1) := by decide +kernel
theorem dX12_draw_29 : decode cX12_draw 29 = .ok (.irem, 1) := by decide +kernel
theorem dX12_draw_30 : decode cX12_draw 30 = .ok (.ireturn, 1) := by decide +kernel
theorem dX12_year_0 : decode cX12_year 0 = .ok (.iload_n 1, 1) := by decide +kernel
theorem dX12_year_1 : decode cX12_year 1 = .ok (.iconst 1, 1) := by decide +kernel
theorem dX12_year_2 : decode cX12_year 2 = .ok (.bipush 30, 2) := by decide +kernel
theorem dX12_year_4 : decode cX12_year 4 = .ok (.invokestatic 91, 3) := by decide +kernel
theorem dX12_year_7 : decode cX12_year 7 = .ok (.istore_n 3, 1) := by decide +kernel
theorem dX12_year_8 : decode cX12_year 8 = .ok (.iload_n 3, 1) := by decide +kernel
theorem dX12_year_9 : decode cX12_year 9 = .ok (.ifCond .eq 9, 3) := by decide +kernel
theorem dX12_year_12 : decode cX12_year 12 = .ok (.aload_n 0, 1) := by decide +kernel
theorem dX12_year_13 : decode cX12_year 13 = .ok (.iload_n 3, 1) := by decide +kernel
theorem dX12_year_14 : decode cX12_year 14 = .ok (.invokevirtual 98, 3) := by decide +kernel
theorem dX12_year_17 : decode cX12_year 17 = .ok (.ireturn, 1) := by decide +kernel
theorem dX12_year_18 : decode cX12_year 18 = .ok (.aload_n 0, 1) := by decide +kernel
theorem dX12_year_19 : decode cX12_year 19 = .ok (.iconst 0, 1) := by decide +kernel
theorem dX12_year_20 : decode cX12_year 20 = .ok (.invokevirtual 220, 3) := by decide +kernel
theorem dX12_year_23 : decode cX12_year 23 = .ok (.aload_n 0, 1) := by decide +kernel
theorem dX12_year_24 : decode cX12_year 24 = .ok (.iload_n 2, 1) := by decide +kernel
theorem dX12_year_25 : decode cX12_year 25 = .ok (.putfield 269, 3) := by decide +kernel
theorem dX12_year_28 : decode cX12_year 28 = .ok (.iconst 0, 1) := by decide +kernel
theorem dX12_year_29 : decode cX12_year 29 = .ok (.istore 4, 2) := by decide +kernel
theorem dX12_year_31 : decode cX12_year 31 = .ok (.iload 4, 2) := by decide +kernel
theorem dX12_year_33 : decode cX12_year 33 = .ok (.iload_n 1, 1) := by decide +kernel
theorem dX12_year_34 : decode cX12_year 34 = .ok (.if_icmp .ge 67, 3) := by decide +kernel
theorem dX12_year_37 : decode cX12_year 37 = .ok (.aload_n 0, 1) := by decide +kernel
theorem dX12_year_38 : decode cX12_year 38 = .ok (.iconst 3, 1) := by decide +kernel
theorem dX12_year_39 : decode cX12_year 39 = .ok (.invokevirtual 275, 3) := by decide +kernel
theorem dX12_year_42 : decode cX12_year 42 = .ok (.istore 5, 2) := by decide +kernel
theorem dX12_year_44 : decode cX12_year 44 = .ok (.iload 5, 2) := by decide +kernel
theorem dX12_year_46 : decode cX12_year 46 = .ok (.bipush 10, 2) := by decide +kernel
theorem dX12_year_48 : decode cX12_year 48 = .ok (.aload_n 0, 1) := by decide +kernel
theorem dX12_year_49 : decode cX12_year 49 = .ok (.iconst 3, 1) := by decide +kernel
theorem dX12_year_50 : decode cX12_year 50 = .ok (.invokevirtual 275, 3) := by decide +kernel
theorem dX12_year_53 : decode cX12_year 53 = .ok (.imul, 1) := by decide +kernel
theorem dX12_year_54 : decode cX12_year 54 = .ok (.iadd, 1) := by decide +kernel
theorem dX12_year_55 : decode cX12_year 55 = .ok (.istore 5, 2) := by decide +kernel
theorem dX12_year_57 : decode cX12_year 57 = .ok (.iload 5, 2) := by decide +kernel
theorem dX12_year_59 : decode cX12_year 59 = .ok (.bipush 100, 2) := by decide +kernel
theorem dX12_year_61 : decode cX12_year 61 = .ok (.aload_n 0, 1) := by decide +kernel
theorem dX12_year_62 : decode cX12_year 62 = .ok (.iconst 3, 1) := by decide +kernel
theorem dX12_year_63 : decode cX12_year 63 = .ok (.invokevirtual 275, 3) := by decide +kernel
theorem dX12_year_66 : decode cX12_year 66 = .ok (.imul, 1) := by decide +kernel
theorem dX12_year_67 : decode cX12_year 67 = .ok (.iadd, 1) := by decide +kernel
theorem dX12_year_68 : decode cX12_year 68 = .ok (.istore 5, 2) := by decide +kernel
theorem dX12_year_70 : decode cX12_year 70 = .ok (.iload 5, 2) := by decide +kernel
theorem dX12_year_72 : decode cX12_year 72 = .ok (.sipush 1000, 3) := by decide +kernel
theorem dX12_year_75 : decode cX12_year 75 = .ok (.aload_n 0, 1) := by decide +kernel
theorem dX12_year_76 : decode cX12_year 76 = .ok (.iconst 3, 1) := by decide +kernel
theorem dX12_year_77 : decode cX12_year 77 = .ok (.invokevirtual 275, 3) := by decide +kernel
theorem dX12_year_80 : decode cX12_year 80 = .ok (.imul, 1) := by decide +kernel
theorem dX12_year_81 : decode cX12_year 81 = .ok (.iadd, 1) := by decide +kernel
theorem dX12_year_82 : decode cX12_year 82 = .ok (.istore 5, 2) := by decide +kernel
theorem dX12_year_84 : decode cX12_year 84 = .ok (.aload_n 0, 1) := by decide +kernel
theorem dX12_year_85 : decode cX12_year 85 = .ok (.iload 5, 2) := by decide +kernel
theorem dX12_year_87 : decode cX12_year 87 = .ok (.invokevirtual 196, 3) := by decide +kernel
theorem dX12_year_90 : decode cX12_year 90 = .ok (.pop, 1) := by decide +kernel
theorem dX12_year_91 : decode cX12_year 91 = .ok (.aload_n 0, 1) := by decide +kernel
theorem dX12_year_92 : decode cX12_year 92 = .ok (.invokevirtual 199, 3) := by decide +kernel
theorem dX12_year_95 : decode cX12_year 95 = .ok (.iinc 4 1, 3) := by decide +kernel
theorem dX12_year_98 : decode cX12_year 98 = .ok (.goto (-67), 3) := by decide +kernel
theorem dX12_year_101 : decode cX12_year 101 = .ok (.aload_n 0, 1) := by decide +kernel
theorem dX12_year_102 : decode cX12_year 102 = .ok (.invokevirtual 202, 3) := by decide +kernel
theorem dX12_year_105 : decode cX12_year 105 = .ok (.istore 4, 2) := by decide +kernel
theorem dX12_year_107 : decode cX12_year 107 = .ok (.aload_n 0, 1) := by decide +kernel
theorem dX12_year_108 : decode cX12_year 108 = .ok (.iconst 0, 1) := by decide +kernel
theorem dX12_year_109 : decode cX12_year 109 = .ok (.invokevirtual 227, 3) := by decide +kernel
theorem dX12_year_112 : decode cX12_year 112 = .ok (.iload 4, 2) := by decide +kernel
theorem dX12_year_114 : decode cX12_year 114 = .ok (.ireturn, 1) := by decide +kernel
theorem dX12_row_0 : decode cX12_row 0 = .ok (.iload_n 1, 1) := by decide +kernel
theorem dX12_row_1 : decode cX12_row 1 = .ok (.iconst 0, 1) := by decide +kernel
theorem dX12_row_2 : decode cX12_row 2 = .ok (.bipush 9, 2) := by decide +kernel
theorem dX12_row_4 : decode cX12_row 4 = .ok (.invokestatic 91, 3) := by decide +kernel
theorem dX12_row_7 : decode cX12_row 7 = .ok (.istore_n 2, 1) := by decide +kernel
theorem dX12_row_8 : decode cX12_row 8 = .ok (.iload_n 2, 1) := by decide +kernel
theorem dX12_row_9 : decode cX12_row 9 = .ok (.ifCond .ne 15, 3) := by decide +kernel
theorem dX12_row_12 : decode cX12_row 12 = .ok (.aload_n 0, 1) := by decide +kernel
theorem dX12_row_13 : decode cX12_row 13 = .ok (.getfield 278, 3) := by decide +kernel
theorem dX12_row_16 : decode cX12_row 16 = .ok (.bipush 8, 2) := by decide +kernel
theorem dX12_row_18 : decode cX12_row 18 = .ok (.if_icmp .ne 6, 3) := by decide +kernel
theorem dX12_row_21 : decode cX12_row 21 = .ok (.bipush (-6), 2) := by decide +kernel
theorem dX12_row_23 : decode cX12_row 23 = .ok (.istore_n 2, 1) := by decide +kernel
theorem dX12_row_24 : decode cX12_row 24 = .ok (.iload_n 2, 1) := by decide +kernel
theorem dX12_row_25 : decode cX12_row 25 = .ok (.ifCond .eq 9, 3) := by decide +kernel
theorem dX12_row_28 : decode cX12_row 28 = .ok (.aload_n 0, 1) := by decide +kernel
theorem dX12_row_29 : decode cX12_row 29 = .ok (.iload_n 2, 1) := by decide +kernel
theorem dX12_row_30 : decode cX12_row 30 = .ok (.invokevirtual 98, 3) := by decide +kernel
theorem dX12_row_33 : decode cX12_row 33 = .ok (.ireturn, 1) := by decide +kernel
theorem dX12_row_34 : decode cX12_row 34 = .ok (.aload_n 0, 1) := by decide +kernel
theorem dX12_row_35 : decode cX12_row 35 = .ok (.getfield 73, 3) := by decide +kernel
theorem dX12_row_38 : decode cX12_row 38 = .ok (.aload_n 0, 1) := by decide +kernel
theorem dX12_row_39 : decode cX12_row 39 = .ok (.getfield 278, 3) := by decide +kernel
theorem dX12_row_42 : decode cX12_row 42 = .ok (.iload_n 1, 1) := by decide +kernel
theorem dX12_row_43 : decode cX12_row 43 = .ok (.iastore, 1) := by decide +kernel
theorem dX12_row_44 : decode cX12_row 44 = .ok (.aload_n 0, 1) := by decide +kernel
theorem dX12_row_45 : decode cX12_row 45 = .ok (.dup, 1) := by decide +kernel
theorem dX12_row_46 : decode cX12_row 46 = .ok (.getfield 278, 3) := by decide +kernel
theorem dX12_row_49 : decode cX12_row 49 = .ok (.iconst 1, 1) := by decide +kernel
theorem dX12_row_50 : decode cX12_row 50 = .ok (.iadd, 1) := by decide +kernel
theorem dX12_row_51 : decode cX12_row 51 = .ok (.putfield 278, 3) := by decide +kernel
theorem dX12_row_54 : decode cX12_row 54 = .ok (.aload_n 0, 1) := by decide +kernel
theorem dX12_row_55 : decode cX12_row 55 = .ok (.getfield 278, 3) := by decide +kernel
theorem dX12_row_58 : decode cX12_row 58 = .ok (.ireturn, 1) := by decide +kernel
theorem dX12_judge_0 : decode cX12_judge 0 = .ok (.aload_n 0, 1) := by decide +kernel
theorem dX12_judge_1 : decode cX12_judge 1 = .ok (.getfield 278, 3) := by decide +kernel
theorem dX12_judge_4 : decode cX12_judge 4 = .ok (.istore_n 1, 1) := by decide +kernel
theorem dX12_judge_5 : decode cX12_judge 5 = .ok (.aload_n 0, 1) := by decide +kernel
theorem dX12_judge_6 : decode cX12_judge 6 = .ok (.iconst 0, 1) := by decide +kernel
theorem dX12_judge_7 : decode cX12_judge 7 = .ok (.putfield 278, 3) := by decide +kernel
theorem dX12_judge_10 : decode cX12_judge 10 = .ok (.aload_n 0, 1) := by decide +kernel
theorem dX12_judge_11 : decode cX12_judge 11 = .ok (.iconst 0, 1) := by decide +kernel
theorem dX12_judge_12 : decode cX12_judge 12 = .ok (.invokevirtual 220, 3) := by decide +kernel
theorem dX12_judge_15 : decode cX12_judge 15 = .ok (.bipush (-9), 2) := by decide +kernel
theorem dX12_judge_17 : decode cX12_judge 17 = .ok (.istore_n 2, 1) := by decide +kernel
theorem dX12_judge_18 : decode cX12_judge 18 = .ok (.iconst 0, 1) := by decide +kernel
theorem dX12_judge_19 : decode cX12_judge 19 = .ok (.istore_n 3, 1) := by decide +kernel
theorem dX12_judge_20 : decode cX12_judge 20 = .ok (.iload_n 3, 1) := by decide +kernel
theorem dX12_judge_21 : decode cX12_judge 21 = .ok (.iload_n 1, 1) := by decide +kernel
theorem dX12_judge_22 : decode cX12_judge 22 = .ok (.if_icmp .ge 56, 3) := by decide +kernel
theorem dX12_judge_25 : decode cX12_judge 25 = .ok (.iload_n 3, 1) := by decide +kernel
theorem dX12_judge_26 : decode cX12_judge 26 = .ok (.aload_n 0, 1) := by decide +kernel
theorem dX12_judge_27 : decode cX12_judge 27 = .ok (.getfield 162, 3) := by decide +kernel
theorem dX12_judge_30 : decode cX12_judge 30 = .ok (.if_icmp .ge 48, 3) := by decide +kernel
theorem dX12_judge_33 : decode cX12_judge 33 = .ok (.iload_n 2, 1) := by decide +kernel
theorem dX12_judge_34 : decode cX12_judge 34 = .ok (.ifCond .ge 44, 3) := by decide +kernel
theorem dX12_judge_37 : decode cX12_judge 37 = .ok (.aload_n 0, 1) := by decide +kernel
theorem dX12_judge_38 : decode cX12_judge 38 = .ok (.aload_n 0, 1) := by decide +kernel
theorem dX12_judge_39 : decode cX12_judge 39 = .ok (.getfield 28, 3) := by decide +kernel
theorem dX12_judge_42 : decode cX12_judge 42 = .ok (.iload_n 3, 1) := by decide +kernel
theorem dX12_judge_43 : decode cX12_judge 43 = .ok (.iaload, 1) := by decide +kernel
theorem dX12_judge_44 : decode cX12_judge 44 = .ok (.invokevirtual 196, 3) := by decide +kernel
theorem dX12_judge_47 : decode cX12_judge 47 = .ok (.istore 4, 2) := by decide +kernel
theorem dX12_judge_49 : decode cX12_judge 49 = .ok (.iload 4, 2) := by decide +kernel
theorem dX12_judge_51 : decode cX12_judge 51 = .ok (.ifCond .ge 8, 3) := by decide +kernel
theorem dX12_judge_54 : decode cX12_judge 54 = .ok (.bipush 9, 2) := by decide +kernel
theorem dX12_judge_56 : decode cX12_judge 56 = .ok (.goto 5, 3) := by decide +kernel
theorem dX12_judge_59 : decode cX12_judge 59 = .ok (.iload 4, 2) := by decide +kernel
theorem dX12_judge_61 : decode cX12_judge 61 = .ok (.aload_n 0, 1) := by decide +kernel
theorem dX12_judge_62 : decode cX12_judge 62 = .ok (.getfield 73, 3) := by decide +kernel
theorem dX12_judge_65 : decode cX12_judge 65 = .ok (.iload_n 3, 1) := by decide +kernel
theorem dX12_judge_66 : decode cX12_judge 66 = .ok (.iaload, 1) := by decide +kernel
theorem dX12_judge_67 : decode cX12_judge 67 = .ok (.if_icmp .eq 5, 3) := by decide +kernel
theorem dX12_judge_70 : decode cX12_judge 70 = .ok (.iload_n 3, 1) := by decide +kernel
theorem dX12_judge_71 : decode cX12_judge 71 = .ok (.istore_n 2, 1) := by decide +kernel
theorem dX12_judge_72 : decode cX12_judge 72 = .ok (.iinc 3 1, 3) := by decide +kernel
theorem dX12_judge_75 : decode cX12_judge 75 = .ok (.goto (-55), 3) := by decide +kernel
theorem dX12_judge_78 : decode cX12_judge 78 = .ok (.aload_n 0, 1) := by decide +kernel
theorem dX12_judge_79 : decode cX12_judge 79 = .ok (.iconst 0, 1) := by decide +kernel
theorem dX12_judge_80 : decode cX12_judge 80 = .ok (.invokevirtual 227, 3) := by decide +kernel
theorem dX12_judge_83 : decode cX12_judge 83 = .ok (.iload_n 2, 1) := by decide +kernel
theorem dX12_judge_84 : decode cX12_judge 84 = .ok (.ifCond .lt 5, 3) := by decide +kernel
theorem dX12_judge_87 : decode cX12_judge 87 = .ok (.iload_n 2, 1) := by decide +kernel
theorem dX12_judge_88 : decode cX12_judge 88 = .ok (.ireturn, 1) := by decide +kernel
theorem dX12_judge_89 : decode cX12_judge 89 = .ok (.iload_n 1, 1) := by decide +kernel
theorem dX12_judge_90 : decode cX12_judge 90 = .ok (.aload_n 0, 1) := by decide +kernel
theorem dX12_judge_91 : decode cX12_judge 91 = .ok (.getfield 162, 3) := by decide +kernel
theorem dX12_judge_94 : decode cX12_judge 94 = .ok (.if_icmp .ge 7, 3) := by decide +kernel
theorem dX12_judge_97 : decode cX12_judge 97 = .ok (.iload_n 1, 1) := by decide +kernel
theorem dX12_judge_98 : decode cX12_judge 98 = .ok (.goto 20, 3) := by decide +kernel
theorem dX12_judge_101 : decode cX12_judge 101 = .ok (.iload_n 1, 1) := by decide +kernel
theorem dX12_judge_102 : decode cX12_judge 102 = .ok (.aload_n 0, 1) := by decide +kernel
theorem dX12_judge_103 : decode cX12_judge 103 = .ok (.getfield 162, 3) := by decide +kernel
theorem dX12_judge_106 : decode cX12_judge 106 = .ok (.if_icmp .le 10, 3) := by decide +kernel
theorem dX12_judge_109 : decode cX12_judge 109 = .ok (.aload_n 0, 1) := by decide +kernel
theorem dX12_judge_110 : decode cX12_judge 110 = .ok (.getfield 162, 3) := by decide +kernel
theorem dX12_judge_113 : decode cX12_judge 113 = .ok (.goto 5, 3) := by decide +kernel
theorem dX12_judge_116 : decode cX12_judge 116 = .ok (.bipush (-9), 2) := by decide +kernel
theorem dX12_judge_118 : decode cX12_judge 118 = .ok (.ireturn, 1) := by decide +kernel
theorem dX12_image_0 : decode cX12_image 0 = .ok (.aload_n 0, 1) := by decide +kernel
theorem dX12_image_1 : decode cX12_image 1 = .ok (.iconst 1, 1) := by decide +kernel
theorem dX12_image_2 : decode cX12_image 2 = .ok (.putfield 281, 3) := by decide +kernel
theorem dX12_image_5 : decode cX12_image 5 = .ok (.aload_n 0, 1) := by decide +kernel
theorem dX12_image_6 : decode cX12_image 6 = .ok (.iconst 0, 1) := by decide +kernel
theorem dX12_image_7 : decode cX12_image 7 = .ok (.iconst 1, 1) := by decide +kernel
theorem dX12_image_8 : decode cX12_image 8 = .ok (.invokevirtual 135, 3) := by decide +kernel
theorem dX12_image_11 : decode cX12_image 11 = .ok (.aload_n 0, 1) := by decide +kernel
theorem dX12_image_12 : decode cX12_image 12 = .ok (.getfield 168, 3) := by decide +kernel
theorem dX12_image_15 : decode cX12_image 15 = .ok (.ireturn, 1) := by decide +kernel
theorem dX12_on_0 : decode cX12_on 0 = .ok (.aload_n 0, 1) := by decide +kernel
theorem dX12_on_1 : decode cX12_on 1 = .ok (.getfield 281, 3) := by decide +kernel
theorem dX12_on_4 : decode cX12_on 4 = .ok (.ifCond .ne 10, 3) := by decide +kernel
theorem dX12_on_7 : decode cX12_on 7 = .ok (.aload_n 0, 1) := by decide +kernel
theorem dX12_on_8 : decode cX12_on 8 = .ok (.bipush (-3), 2) := by decide +kernel
theorem dX12_on_10 : decode cX12_on 10 = .ok (.invokevirtual 98, 3) := by decide +kernel
theorem dX12_on_13 : decode cX12_on 13 = .ok (.ireturn, 1) := by decide +kernel
theorem dX12_on_14 : decode cX12_on 14 = .ok (.aload_n 0, 1) := by decide +kernel
theorem dX12_on_15 : decode cX12_on 15 = .ok (.iconst 0, 1) := by decide +kernel
theorem dX12_on_16 : decode cX12_on 16 = .ok (.iconst 0, 1) := by decide +kernel
theorem dX12_on_17 : decode cX12_on 17 = .ok (.invokevirtual 135, 3) := by decide +kernel
theorem dX12_on_20 : decode cX12_on 20 = .ok (.aload_n 0, 1) := by decide +kernel
theorem dX12_on_21 : decode cX12_on 21 = .ok (.getfield 168, 3) := by decide +kernel
theorem dX12_on_24 : decode cX12_on 24 = .ok (.ireturn, 1) := by decide +kernel
theorem dX12_count_0 : decode cX12_count 0 = .ok (.iload_n 1, 1) := by decide +kernel
theorem dX12_count_1 : decode cX12_count 1 = .ok (.bipush 11, 2) := by decide +kernel
theorem dX12_count_3 : decode cX12_count 3 = .ok (.bipush 16, 2) := by decide +kernel
theorem dX12_count_5 : decode cX12_count 5 = .ok (.invokestatic 83, 3) := by decide +kernel
theorem dX12_count_8 : decode cX12_count 8 = .ok (.ifCond .eq 13, 3) := by decide +kernel
theorem dX12_count_11 : decode cX12_count 11 = .ok (.aload_n 0, 1) := by decide +kernel
theorem dX12_count_12 : decode cX12_count 12 = .ok (.getfield 7, 3) := by decide +kernel
theorem dX12_count_15 : decode cX12_count 15 = .ok (.iload_n 1, 1) := by decide +kernel
theorem dX12_count_16 : decode cX12_count 16 = .ok (.bipush 10, 2) := by decide +kernel
theorem dX12_count_18 : decode cX12_count 18 = .ok (.isub, 1) := by decide +kernel
theorem dX12_count_19 : decode cX12_count 19 = .ok (.iaload, 1) := by decide +kernel
theorem dX12_count_20 : decode cX12_count 20 = .ok (.ireturn, 1) := by decide +kernel
theorem dX12_count_21 : decode cX12_count 21 = .ok (.iload_n 1, 1) := by decide +kernel
theorem dX12_count_22 : decode cX12_count 22 = .ok (.tableswitch 86 0 7 #[46, 51, 56, 61, 66, 71, 76, 81], 46) := by decide +kernel
theorem dX12_count_68 : decode cX12_count 68 = .ok (.aload_n 0, 1) := by decide +kernel
theorem dX12_count_69 : decode cX12_count 69 = .ok (.getfield 76, 3) := by decide +kernel
theorem dX12_count_72 : decode cX12_count 72 = .ok (.ireturn, 1) := by decide +kernel
theorem dX12_count_73 : decode cX12_count 73 = .ok (.aload_n 0, 1) := by decide +kernel
theorem dX12_count_74 : decode cX12_count 74 = .ok (.getfield 80, 3) := by decide +kernel
theorem dX12_count_77 : decode cX12_count 77 = .ok (.ireturn, 1) := by decide +kernel
theorem dX12_count_78 : decode cX12_count 78 = .ok (.aload_n 0, 1) := by decide +kernel
theorem dX12_count_79 : decode cX12_count 79 = .ok (.getfield 162, 3) := by decide +kernel
theorem dX12_count_82 : decode cX12_count 82 = .ok (.ireturn, 1) := by decide +kernel
theorem dX12_count_83 : decode cX12_count 83 = .ok (.aload_n 0, 1) := by decide +kernel
theorem dX12_count_84 : decode cX12_count 84 = .ok (.getfield 165, 3) := by decide +kernel
theorem dX12_count_87 : decode cX12_count 87 = .ok (.ireturn, 1) := by decide +kernel
theorem dX12_count_88 : decode cX12_count 88 = .ok (.aload_n 0, 1) := by decide +kernel
theorem dX12_count_89 : decode cX12_count 89 = .ok (.getfield 168, 3) := by decide +kernel
theorem dX12_count_92 : decode cX12_count 92 = .ok (.ireturn, 1) := by decide +kernel
theorem dX12_count_93 : decode cX12_count 93 = .ok (.aload_n 0, 1) := by decide +kernel
theorem dX12_count_94 : decode cX12_count 94 = .ok (.getfield 278, 3) := by decide +kernel
theorem dX12_count_97 : decode cX12_count 97 = .ok (.ireturn, 1) := by decide +kernel
theorem dX12_count_98 : decode cX12_count 98 = .ok (.aload_n 0, 1) := by decide +kernel
theorem dX12_count_99 : decode cX12_count 99 = .ok (.getfield 95, 3) := by decide +kernel
theorem dX12_count_102 : decode cX12_count 102 = .ok (.ireturn, 1) := by decide +kernel
theorem dX12_count_103 : decode cX12_count 103 = .ok (.aload_n 0, 1) := by decide +kernel
theorem dX12_count_104 : decode cX12_count 104 = .ok (.getfield 171, 3) := by decide +kernel
theorem dX12_count_107 : decode cX12_count 107 = .ok (.ireturn, 1) := by decide +kernel
theorem dX12_count_108 : decode cX12_count 108 = .ok (.bipush (-9), 2) := by decide +kernel
theorem dX12_count_110 : decode cX12_count 110 = .ok (.ireturn, 1) := by decide +kernel
end
section
theorem dL_law_0 : decode cL_law 0 = .ok (.new 7, 3) := by decide +kernel
theorem dL_law_3 : decode cL_law 3 = .ok (.dup, 1) := by decide +kernel
theorem dL_law_4 : decode cL_law 4 = .ok (.invokespecial 9, 3) := by decide +kernel
theorem dL_law_7 : decode cL_law 7 = .ok (.astore_n 1, 1) := by decide +kernel
theorem dL_law_8 : decode cL_law 8 = .ok (.new 10, 3) := by decide +kernel
theorem dL_law_11 : decode cL_law 11 = .ok (.dup, 1) := by decide +kernel
theorem dL_law_12 : decode cL_law 12 = .ok (.invokespecial 12, 3) := by decide +kernel
theorem dL_law_15 : decode cL_law 15 = .ok (.astore_n 2, 1) := by decide +kernel
theorem dL_law_16 : decode cL_law 16 = .ok (.iconst 0, 1) := by decide +kernel
theorem dL_law_17 : decode cL_law 17 = .ok (.istore_n 3, 1) := by decide +kernel
theorem dL_law_18 : decode cL_law 18 = .ok (.iload_n 3, 1) := by decide +kernel
theorem dL_law_19 : decode cL_law 19 = .ok (.aload_n 0, 1) := by decide +kernel
theorem dL_law_20 : decode cL_law 20 = .ok (.arraylength, 1) := by decide +kernel
theorem dL_law_21 : decode cL_law 21 = .ok (.iconst 4, 1) := by decide +kernel
theorem dL_law_22 : decode cL_law 22 = .ok (.isub, 1) := by decide +kernel
theorem dL_law_23 : decode cL_law 23 = .ok (.if_icmp .gt 1043, 3) := by decide +kernel
theorem dL_law_26 : decode cL_law 26 = .ok (.aload_n 0, 1) := by decide +kernel
theorem dL_law_27 : decode cL_law 27 = .ok (.iload_n 3, 1) := by decide +kernel
theorem dL_law_28 : decode cL_law 28 = .ok (.iaload, 1) := by decide +kernel
theorem dL_law_29 : decode cL_law 29 = .ok (.bipush 63, 2) := by decide +kernel
theorem dL_law_31 : decode cL_law 31 = .ok (.iand, 1) := by decide +kernel
theorem dL_law_32 : decode cL_law 32 = .ok (.tableswitch 1028 0 35 #[160, 183, 196, 229, 262, 285, 308, 341, 364, 387, 400, 413, 436, 449, 472, 505, 528, 541, 574, 597, 610, 643, 676, 719, 752, 775, 818, 841, 854, 877, 910, 943, 966, 979, 992, 1005], 160) := by decide +kernel
theorem dL_law_192 : decode cL_law 192 = .ok (.aload_n 1, 1) := by decide +kernel
theorem dL_law_193 : decode cL_law 193 = .ok (.aload_n 0, 1) := by decide +kernel
theorem dL_law_194 : decode cL_law 194 = .ok (.iload_n 3, 1) := by decide +kernel
theorem dL_law_195 : decode cL_law 195 = .ok (.iconst 1, 1) := by decide +kernel
theorem dL_law_196 : decode cL_law 196 = .ok (.iadd, 1) := by decide +kernel
theorem dL_law_197 : decode cL_law 197 = .ok (.iaload, 1) := by decide +kernel
theorem dL_law_198 : decode cL_law 198 = .ok (.invokevirtual 13, 3) := by decide +kernel
theorem dL_law_201 : decode cL_law 201 = .ok (.aload_n 2, 1) := by decide +kernel
theorem dL_law_202 : decode cL_law 202 = .ok (.aload_n 0, 1) := by decide +kernel
theorem dL_law_203 : decode cL_law 203 = .ok (.iload_n 3, 1) := by decide +kernel
theorem dL_law_204 : decode cL_law 204 = .ok (.iconst 1, 1) := by decide +kernel
theorem dL_law_205 : decode cL_law 205 = .ok (.iadd, 1) := by decide +kernel
theorem dL_law_206 : decode cL_law 206 = .ok (.iaload, 1) := by decide +kernel
theorem dL_law_207 : decode cL_law 207 = .ok (.invokevirtual 17, 3) := by decide +kernel
theorem dL_law_210 : decode cL_law 210 = .ok (.if_icmp .eq 850, 3) := by decide +kernel
theorem dL_law_213 : decode cL_law 213 = .ok (.iconst 0, 1) := by decide +kernel
theorem dL_law_214 : decode cL_law 214 = .ok (.ireturn, 1) := by decide +kernel
theorem dL_law_215 : decode cL_law 215 = .ok (.aload_n 1, 1) := by decide +kernel
theorem dL_law_216 : decode cL_law 216 = .ok (.invokevirtual 18, 3) := by decide +kernel
theorem dL_law_219 : decode cL_law 219 = .ok (.aload_n 2, 1) := by decide +kernel
theorem dL_law_220 : decode cL_law 220 = .ok (.invokevirtual 22, 3) := by decide +kernel
theorem dL_law_223 : decode cL_law 223 = .ok (.if_icmp .eq 837, 3) := by decide +kernel
theorem dL_law_226 : decode cL_law 226 = .ok (.iconst 0, 1) := by decide +kernel
theorem dL_law_227 : decode cL_law 227 = .ok (.ireturn, 1) := by decide +kernel
theorem dL_law_228 : decode cL_law 228 = .ok (.aload_n 1, 1) := by decide +kernel
theorem dL_law_229 : decode cL_law 229 = .ok (.aload_n 0, 1) := by decide +kernel
theorem dL_law_230 : decode cL_law 230 = .ok (.iload_n 3, 1) := by decide +kernel
theorem dL_law_231 : decode cL_law 231 = .ok (.iconst 1, 1) := by decide +kernel
theorem dL_law_232 : decode cL_law 232 = .ok (.iadd, 1) := by decide +kernel
theorem dL_law_233 : decode cL_law 233 = .ok (.iaload, 1) := by decide +kernel
theorem dL_law_234 : decode cL_law 234 = .ok (.aload_n 0, 1) := by decide +kernel
theorem dL_law_235 : decode cL_law 235 = .ok (.iload_n 3, 1) := by decide +kernel
theorem dL_law_236 : decode cL_law 236 = .ok (.iconst 2, 1) := by decide +kernel
theorem dL_law_237 : decode cL_law 237 = .ok (.iadd, 1) := by decide +kernel
theorem dL_law_238 : decode cL_law 238 = .ok (.iaload, 1) := by decide +kernel
theorem dL_law_239 : decode cL_law 239 = .ok (.invokevirtual 23, 3) := by decide +kernel
theorem dL_law_242 : decode cL_law 242 = .ok (.aload_n 2, 1) := by decide +kernel
theorem dL_law_243 : decode cL_law 243 = .ok (.aload_n 0, 1) := by decide +kernel
theorem dL_law_244 : decode cL_law 244 = .ok (.iload_n 3, 1) := by decide +kernel
theorem dL_law_245 : decode cL_law 245 = .ok (.iconst 1, 1) := by decide +kernel
theorem dL_law_246 : decode cL_law 246 = .ok (.iadd, 1) := by decide +kernel
theorem dL_law_247 : decode cL_law 247 = .ok (.iaload, 1) := by decide +kernel
theorem dL_law_248 : decode cL_law 248 = .ok (.aload_n 0, 1) := by decide +kernel
theorem dL_law_249 : decode cL_law 249 = .ok (.iload_n 3, 1) := by decide +kernel
theorem dL_law_250 : decode cL_law 250 = .ok (.iconst 2, 1) := by decide +kernel
theorem dL_law_251 : decode cL_law 251 = .ok (.iadd, 1) := by decide +kernel
theorem dL_law_252 : decode cL_law 252 = .ok (.iaload, 1) := by decide +kernel
theorem dL_law_253 : decode cL_law 253 = .ok (.invokevirtual 27, 3) := by decide +kernel
theorem dL_law_256 : decode cL_law 256 = .ok (.if_icmp .eq 804, 3) := by decide +kernel
theorem dL_law_259 : decode cL_law 259 = .ok (.iconst 0, 1) := by decide +kernel
theorem dL_law_260 : decode cL_law 260 = .ok (.ireturn, 1) := by decide +kernel
theorem dL_law_261 : decode cL_law 261 = .ok (.aload_n 1, 1) := by decide +kernel
theorem dL_law_262 : decode cL_law 262 = .ok (.aload_n 0, 1) := by decide +kernel
theorem dL_law_263 : decode cL_law 263 = .ok (.iload_n 3, 1) := by decide +kernel
theorem dL_law_264 : decode cL_law 264 = .ok (.iconst 1, 1) := by decide +kernel
theorem dL_law_265 : decode cL_law 265 = .ok (.iadd, 1) := by decide +kernel
theorem dL_law_266 : decode cL_law 266 = .ok (.iaload, 1) := by decide +kernel
theorem dL_law_267 : decode cL_law 267 = .ok (.aload_n 0, 1) := by decide +kernel
theorem dL_law_268 : decode cL_law 268 = .ok (.iload_n 3, 1) := by decide +kernel
theorem dL_law_269 : decode cL_law 269 = .ok (.iconst 2, 1) := by decide +kernel
theorem dL_law_270 : decode cL_law 270 = .ok (.iadd, 1) := by decide +kernel
theorem dL_law_271 : decode cL_law 271 = .ok (.iaload, 1) := by decide +kernel
theorem dL_law_272 : decode cL_law 272 = .ok (.invokevirtual 28, 3) := by decide +kernel
theorem dL_law_275 : decode cL_law 275 = .ok (.aload_n 2, 1) := by decide +kernel
theorem dL_law_276 : decode cL_law 276 = .ok (.aload_n 0, 1) := by decide +kernel
theorem dL_law_277 : decode cL_law 277 = .ok (.iload_n 3, 1) := by decide +kernel
theorem dL_law_278 : decode cL_law 278 = .ok (.iconst 1, 1) := by decide +kernel
theorem dL_law_279 : decode cL_law 279 = .ok (.iadd, 1) := by decide +kernel
theorem dL_law_280 : decode cL_law 280 = .ok (.iaload, 1) := by decide +kernel
theorem dL_law_281 : decode cL_law 281 = .ok (.aload_n 0, 1) := by decide +kernel
theorem dL_law_282 : decode cL_law 282 = .ok (.iload_n 3, 1) := by decide +kernel
theorem dL_law_283 : decode cL_law 283 = .ok (.iconst 2, 1) := by decide +kernel
theorem dL_law_284 : decode cL_law 284 = .ok (.iadd, 1) := by decide +kernel
theorem dL_law_285 : decode cL_law 285 = .ok (.iaload, 1) := by decide +kernel
theorem dL_law_286 : decode cL_law 286 = .ok (.invokevirtual 31, 3) := by decide +kernel
theorem dL_law_289 : decode cL_law 289 = .ok (.if_icmp .eq 771, 3) := by decide +kernel
theorem dL_law_292 : decode cL_law 292 = .ok (.iconst 0, 1) := by decide +kernel
theorem dL_law_293 : decode cL_law 293 = .ok (.ireturn, 1) := by decide +kernel
theorem dL_law_294 : decode cL_law 294 = .ok (.aload_n 1, 1) := by decide +kernel
theorem dL_law_295 : decode cL_law 295 = .ok (.aload_n 0, 1) := by decide +kernel
theorem dL_law_296 : decode cL_law 296 = .ok (.iload_n 3, 1) := by decide +kernel
theorem dL_law_297 : decode cL_law 297 = .ok (.iconst 1, 1) := by decide +kernel
theorem dL_law_298 : decode cL_law 298 = .ok (.iadd, 1) := by decide +kernel
theorem dL_law_299 : decode cL_law 299 = .ok (.iaload, 1) := by decide +kernel
theorem dL_law_300 : decode cL_law 300 = .ok (.invokevirtual 32, 3) := by decide +kernel
theorem dL_law_303 : decode cL_law 303 = .ok (.aload_n 2, 1) := by decide +kernel
theorem dL_law_304 : decode cL_law 304 = .ok (.aload_n 0, 1) := by decide +kernel
theorem dL_law_305 : decode cL_law 305 = .ok (.iload_n 3, 1) := by decide +kernel
theorem dL_law_306 : decode cL_law 306 = .ok (.iconst 1, 1) := by decide +kernel
theorem dL_law_307 : decode cL_law 307 = .ok (.iadd, 1) := by decide +kernel
theorem dL_law_308 : decode cL_law 308 = .ok (.iaload, 1) := by decide +kernel
theorem dL_law_309 : decode cL_law 309 = .ok (.invokevirtual 35, 3) := by decide +kernel
theorem dL_law_312 : decode cL_law 312 = .ok (.if_icmp .eq 748, 3) := by decide +kernel
theorem dL_law_315 : decode cL_law 315 = .ok (.iconst 0, 1) := by decide +kernel
theorem dL_law_316 : decode cL_law 316 = .ok (.ireturn, 1) := by decide +kernel
theorem dL_law_317 : decode cL_law 317 = .ok (.aload_n 1, 1) := by decide +kernel
theorem dL_law_318 : decode cL_law 318 = .ok (.aload_n 0, 1) := by decide +kernel
theorem dL_law_319 : decode cL_law 319 = .ok (.iload_n 3, 1) := by decide +kernel
theorem dL_law_320 : decode cL_law 320 = .ok (.iconst 1, 1) := by decide +kernel
theorem dL_law_321 : decode cL_law 321 = .ok (.iadd, 1) := by decide +kernel
theorem dL_law_322 : decode cL_law 322 = .ok (.iaload, 1) := by decide +kernel
theorem dL_law_323 : decode cL_law 323 = .ok (.invokevirtual 36, 3) := by decide +kernel
theorem dL_law_326 : decode cL_law 326 = .ok (.aload_n 2, 1) := by decide +kernel
theorem dL_law_327 : decode cL_law 327 = .ok (.aload_n 0, 1) := by decide +kernel
theorem dL_law_328 : decode cL_law 328 = .ok (.iload_n 3, 1) := by decide +kernel
theorem dL_law_329 : decode cL_law 329 = .ok (.iconst 1, 1) := by decide +kernel
theorem dL_law_330 : decode cL_law 330 = .ok (.iadd, 1) := by decide +kernel
theorem dL_law_331 : decode cL_law 331 = .ok (.iaload, 1) := by decide +kernel
theorem dL_law_332 : decode cL_law 332 = .ok (.invokevirtual 39, 3) := by decide +kernel
theorem dL_law_335 : decode cL_law 335 = .ok (.if_icmp .eq 725, 3) := by decide +kernel
theorem dL_law_338 : decode cL_law 338 = .ok (.iconst 0, 1) := by decide +kernel
theorem dL_law_339 : decode cL_law 339 = .ok (.ireturn, 1) := by decide +kernel
theorem dL_law_340 : decode cL_law 340 = .ok (.aload_n 1, 1) := by decide +kernel
theorem dL_law_341 : decode cL_law 341 = .ok (.aload_n 0, 1) := by decide +kernel
theorem dL_law_342 : decode cL_law 342 = .ok (.iload_n 3, 1) := by decide +kernel
theorem dL_law_343 : decode cL_law 343 = .ok (.iconst 1, 1) := by decide +kernel
theorem dL_law_344 : decode cL_law 344 = .ok (.iadd, 1) := by decide +kernel
theorem dL_law_345 : decode cL_law 345 = .ok (.iaload, 1) := by decide +kernel
theorem dL_law_346 : decode cL_law 346 = .ok (.aload_n 0, 1) := by decide +kernel
theorem dL_law_347 : decode cL_law 347 = .ok (.iload_n 3, 1) := by decide +kernel
theorem dL_law_348 : decode cL_law 348 = .ok (.iconst 2, 1) := by decide +kernel
theorem dL_law_349 : decode cL_law 349 = .ok (.iadd, 1) := by decide +kernel
theorem dL_law_350 : decode cL_law 350 = .ok (.iaload, 1) := by decide +kernel
theorem dL_law_351 : decode cL_law 351 = .ok (.invokevirtual 40, 3) := by decide +kernel
theorem dL_law_354 : decode cL_law 354 = .ok (.aload_n 2, 1) := by decide +kernel
theorem dL_law_355 : decode cL_law 355 = .ok (.aload_n 0, 1) := by decide +kernel
theorem dL_law_356 : decode cL_law 356 = .ok (.iload_n 3, 1) := by decide +kernel
theorem dL_law_357 : decode cL_law 357 = .ok (.iconst 1, 1) := by decide +kernel
theorem dL_law_358 : decode cL_law 358 = .ok (.iadd, 1) := by decide +kernel
theorem dL_law_359 : decode cL_law 359 = .ok (.iaload, 1) := by decide +kernel
theorem dL_law_360 : decode cL_law 360 = .ok (.aload_n 0, 1) := by decide +kernel
theorem dL_law_361 : decode cL_law 361 = .ok (.iload_n 3, 1) := by decide +kernel
theorem dL_law_362 : decode cL_law 362 = .ok (.iconst 2, 1) := by decide +kernel
theorem dL_law_363 : decode cL_law 363 = .ok (.iadd, 1) := by decide +kernel
theorem dL_law_364 : decode cL_law 364 = .ok (.iaload, 1) := by decide +kernel
theorem dL_law_365 : decode cL_law 365 = .ok (.invokevirtual 43, 3) := by decide +kernel
theorem dL_law_368 : decode cL_law 368 = .ok (.if_icmp .eq 692, 3) := by decide +kernel
theorem dL_law_371 : decode cL_law 371 = .ok (.iconst 0, 1) := by decide +kernel
theorem dL_law_372 : decode cL_law 372 = .ok (.ireturn, 1) := by decide +kernel
theorem dL_law_373 : decode cL_law 373 = .ok (.aload_n 1, 1) := by decide +kernel
theorem dL_law_374 : decode cL_law 374 = .ok (.aload_n 0, 1) := by decide +kernel
theorem dL_law_375 : decode cL_law 375 = .ok (.iload_n 3, 1) := by decide +kernel
theorem dL_law_376 : decode cL_law 376 = .ok (.iconst 1, 1) := by decide +kernel
theorem dL_law_377 : decode cL_law 377 = .ok (.iadd, 1) := by decide +kernel
theorem dL_law_378 : decode cL_law 378 = .ok (.iaload, 1) := by decide +kernel
theorem dL_law_379 : decode cL_law 379 = .ok (.invokevirtual 44, 3) := by decide +kernel
theorem dL_law_382 : decode cL_law 382 = .ok (.aload_n 2, 1) := by decide +kernel
theorem dL_law_383 : decode cL_law 383 = .ok (.aload_n 0, 1) := by decide +kernel
theorem dL_law_384 : decode cL_law 384 = .ok (.iload_n 3, 1) := by decide +kernel
theorem dL_law_385 : decode cL_law 385 = .ok (.iconst 1, 1) := by decide +kernel
theorem dL_law_386 : decode cL_law 386 = .ok (.iadd, 1) := by decide +kernel
theorem dL_law_387 : decode cL_law 387 = .ok (.iaload, 1) := by decide +kernel
theorem dL_law_388 : decode cL_law 388 = .ok (.invokevirtual 47, 3) := by decide +kernel
theorem dL_law_391 : decode cL_law 391 = .ok (.if_icmp .eq 669, 3) := by decide +kernel
theorem dL_law_394 : decode cL_law 394 = .ok (.iconst 0, 1) := by decide +kernel
theorem dL_law_395 : decode cL_law 395 = .ok (.ireturn, 1) := by decide +kernel
theorem dL_law_396 : decode cL_law 396 = .ok (.aload_n 1, 1) := by decide +kernel
theorem dL_law_397 : decode cL_law 397 = .ok (.aload_n 0, 1) := by decide +kernel
theorem dL_law_398 : decode cL_law 398 = .ok (.iload_n 3, 1) := by decide +kernel
theorem dL_law_399 : decode cL_law 399 = .ok (.iconst 1, 1) := by decide +kernel
theorem dL_law_400 : decode cL_law 400 = .ok (.iadd, 1) := by decide +kernel
theorem dL_law_401 : decode cL_law 401 = .ok (.iaload, 1) := by decide +kernel
theorem dL_law_402 : decode cL_law 402 = .ok (.invokevirtual 48, 3) := by decide +kernel
theorem dL_law_405 : decode cL_law 405 = .ok (.aload_n 2, 1) := by decide +kernel
theorem dL_law_406 : decode cL_law 406 = .ok (.aload_n 0, 1) := by decide +kernel
theorem dL_law_407 : decode cL_law 407 = .ok (.iload_n 3, 1) := by decide +kernel
theorem dL_law_408 : decode cL_law 408 = .ok (.iconst 1, 1) := by decide +kernel
theorem dL_law_409 : decode cL_law 409 = .ok (.iadd, 1) := by decide +kernel
theorem dL_law_410 : decode cL_law 410 = .ok (.iaload, 1) := by decide +kernel
theorem dL_law_411 : decode cL_law 411 = .ok (.invokevirtual 51, 3) := by decide +kernel
theorem dL_law_414 : decode cL_law 414 = .ok (.if_icmp .eq 646, 3) := by decide +kernel
theorem dL_law_417 : decode cL_law 417 = .ok (.iconst 0, 1) := by decide +kernel
theorem dL_law_418 : decode cL_law 418 = .ok (.ireturn, 1) := by decide +kernel
theorem dL_law_419 : decode cL_law 419 = .ok (.aload_n 1, 1) := by decide +kernel
theorem dL_law_420 : decode cL_law 420 = .ok (.invokevirtual 52, 3) := by decide +kernel
theorem dL_law_423 : decode cL_law 423 = .ok (.aload_n 2, 1) := by decide +kernel
theorem dL_law_424 : decode cL_law 424 = .ok (.invokevirtual 55, 3) := by decide +kernel
theorem dL_law_427 : decode cL_law 427 = .ok (.if_icmp .eq 633, 3) := by decide +kernel
theorem dL_law_430 : decode cL_law 430 = .ok (.iconst 0, 1) := by decide +kernel
theorem dL_law_431 : decode cL_law 431 = .ok (.ireturn, 1) := by decide +kernel
theorem dL_law_432 : decode cL_law 432 = .ok (.aload_n 1, 1) := by decide +kernel
theorem dL_law_433 : decode cL_law 433 = .ok (.invokevirtual 56, 3) := by decide +kernel
theorem dL_law_436 : decode cL_law 436 = .ok (.aload_n 2, 1) := by decide +kernel
theorem dL_law_437 : decode cL_law 437 = .ok (.invokevirtual 59, 3) := by decide +kernel
theorem dL_law_440 : decode cL_law 440 = .ok (.if_icmp .eq 620, 3) := by decide +kernel
theorem dL_law_443 : decode cL_law 443 = .ok (.iconst 0, 1) := by decide +kernel
theorem dL_law_444 : decode cL_law 444 = .ok (.ireturn, 1) := by decide +kernel
theorem dL_law_445 : decode cL_law 445 = .ok (.aload_n 1, 1) := by decide +kernel
theorem dL_law_446 : decode cL_law 446 = .ok (.aload_n 0, 1) := by decide +kernel
theorem dL_law_447 : decode cL_law 447 = .ok (.iload_n 3, 1) := by decide +kernel
theorem dL_law_448 : decode cL_law 448 = .ok (.iconst 1, 1) := by decide +kernel
theorem dL_law_449 : decode cL_law 449 = .ok (.iadd, 1) := by decide +kernel
theorem dL_law_450 : decode cL_law 450 = .ok (.iaload, 1) := by decide +kernel
theorem dL_law_451 : decode cL_law 451 = .ok (.invokevirtual 60, 3) := by decide +kernel
theorem dL_law_454 : decode cL_law 454 = .ok (.aload_n 2, 1) := by decide +kernel
theorem dL_law_455 : decode cL_law 455 = .ok (.aload_n 0, 1) := by decide +kernel
theorem dL_law_456 : decode cL_law 456 = .ok (.iload_n 3, 1) := by decide +kernel
theorem dL_law_457 : decode cL_law 457 = .ok (.iconst 1, 1) := by decide +kernel
theorem dL_law_458 : decode cL_law 458 = .ok (.iadd, 1) := by decide +kernel
theorem dL_law_459 : decode cL_law 459 = .ok (.iaload, 1) := by decide +kernel
theorem dL_law_460 : decode cL_law 460 = .ok (.invokevirtual 63, 3) := by decide +kernel
theorem dL_law_463 : decode cL_law 463 = .ok (.if_icmp .eq 597, 3) := by decide +kernel
theorem dL_law_466 : decode cL_law 466 = .ok (.iconst 0, 1) := by decide +kernel
theorem dL_law_467 : decode cL_law 467 = .ok (.ireturn, 1) := by decide +kernel
theorem dL_law_468 : decode cL_law 468 = .ok (.aload_n 1, 1) := by decide +kernel
theorem dL_law_469 : decode cL_law 469 = .ok (.invokevirtual 64, 3) := by decide +kernel
theorem dL_law_472 : decode cL_law 472 = .ok (.aload_n 2, 1) := by decide +kernel
theorem dL_law_473 : decode cL_law 473 = .ok (.invokevirtual 67, 3) := by decide +kernel
theorem dL_law_476 : decode cL_law 476 = .ok (.if_icmp .eq 584, 3) := by decide +kernel
theorem dL_law_479 : decode cL_law 479 = .ok (.iconst 0, 1) := by decide +kernel
theorem dL_law_480 : decode cL_law 480 = .ok (.ireturn, 1) := by decide +kernel
theorem dL_law_481 : decode cL_law 481 = .ok (.aload_n 1, 1) := by decide +kernel
theorem dL_law_482 : decode cL_law 482 = .ok (.aload_n 0, 1) := by decide +kernel
theorem dL_law_483 : decode cL_law 483 = .ok (.iload_n 3, 1) := by decide +kernel
theorem dL_law_484 : decode cL_law 484 = .ok (.iconst 1, 1) := by decide +kernel
theorem dL_law_485 : decode cL_law 485 = .ok (.iadd, 1) := by decide +kernel
theorem dL_law_486 : decode cL_law 486 = .ok (.iaload, 1) := by decide +kernel
theorem dL_law_487 : decode cL_law 487 = .ok (.invokevirtual 68, 3) := by decide +kernel
theorem dL_law_490 : decode cL_law 490 = .ok (.aload_n 2, 1) := by decide +kernel
theorem dL_law_491 : decode cL_law 491 = .ok (.aload_n 0, 1) := by decide +kernel
theorem dL_law_492 : decode cL_law 492 = .ok (.iload_n 3, 1) := by decide +kernel
theorem dL_law_493 : decode cL_law 493 = .ok (.iconst 1, 1) := by decide +kernel
theorem dL_law_494 : decode cL_law 494 = .ok (.iadd, 1) := by decide +kernel
theorem dL_law_495 : decode cL_law 495 = .ok (.iaload, 1) := by decide +kernel
theorem dL_law_496 : decode cL_law 496 = .ok (.invokevirtual 71, 3) := by decide +kernel
theorem dL_law_499 : decode cL_law 499 = .ok (.if_icmp .eq 561, 3) := by decide +kernel
theorem dL_law_502 : decode cL_law 502 = .ok (.iconst 0, 1) := by decide +kernel
theorem dL_law_503 : decode cL_law 503 = .ok (.ireturn, 1) := by decide +kernel
theorem dL_law_504 : decode cL_law 504 = .ok (.aload_n 1, 1) := by decide +kernel
theorem dL_law_505 : decode cL_law 505 = .ok (.aload_n 0, 1) := by decide +kernel
theorem dL_law_506 : decode cL_law 506 = .ok (.iload_n 3, 1) := by decide +kernel
theorem dL_law_507 : decode cL_law 507 = .ok (.iconst 1, 1) := by decide +kernel
theorem dL_law_508 : decode cL_law 508 = .ok (.iadd, 1) := by decide +kernel
theorem dL_law_509 : decode cL_law 509 = .ok (.iaload, 1) := by decide +kernel
theorem dL_law_510 : decode cL_law 510 = .ok (.aload_n 0, 1) := by decide +kernel
theorem dL_law_511 : decode cL_law 511 = .ok (.iload_n 3, 1) := by decide +kernel
theorem dL_law_512 : decode cL_law 512 = .ok (.iconst 2, 1) := by decide +kernel
theorem dL_law_513 : decode cL_law 513 = .ok (.iadd, 1) := by decide +kernel
theorem dL_law_514 : decode cL_law 514 = .ok (.iaload, 1) := by decide +kernel
theorem dL_law_515 : decode cL_law 515 = .ok (.invokevirtual 72, 3) := by decide +kernel
theorem dL_law_518 : decode cL_law 518 = .ok (.aload_n 2, 1) := by decide +kernel
theorem dL_law_519 : decode cL_law 519 = .ok (.aload_n 0, 1) := by decide +kernel
theorem dL_law_520 : decode cL_law 520 = .ok (.iload_n 3, 1) := by decide +kernel
theorem dL_law_521 : decode cL_law 521 = .ok (.iconst 1, 1) := by decide +kernel
theorem dL_law_522 : decode cL_law 522 = .ok (.iadd, 1) := by decide +kernel
theorem dL_law_523 : decode cL_law 523 = .ok (.iaload, 1) := by decide +kernel
theorem dL_law_524 : decode cL_law 524 = .ok (.aload_n 0, 1) := by decide +kernel
theorem dL_law_525 : decode cL_law 525 = .ok (.iload_n 3, 1) := by decide +kernel
theorem dL_law_526 : decode cL_law 526 = .ok (.iconst 2, 1) := by decide +kernel
theorem dL_law_527 : decode cL_law 527 = .ok (.iadd, 1) := by decide +kernel
theorem dL_law_528 : decode cL_law 528 = .ok (.iaload, 1) := by decide +kernel
theorem dL_law_529 : decode cL_law 529 = .ok (.invokevirtual 75, 3) := by decide +kernel
theorem dL_law_532 : decode cL_law 532 = .ok (.if_icmp .eq 528, 3) := by decide +kernel
theorem dL_law_535 : decode cL_law 535 = .ok (.iconst 0, 1) := by decide +kernel
theorem dL_law_536 : decode cL_law 536 = .ok (.ireturn, 1) := by decide +kernel
theorem dL_law_537 : decode cL_law 537 = .ok (.aload_n 1, 1) := by decide +kernel
theorem dL_law_538 : decode cL_law 538 = .ok (.aload_n 0, 1) := by decide +kernel
theorem dL_law_539 : decode cL_law 539 = .ok (.iload_n 3, 1) := by decide +kernel
theorem dL_law_540 : decode cL_law 540 = .ok (.iconst 1, 1) := by decide +kernel
theorem dL_law_541 : decode cL_law 541 = .ok (.iadd, 1) := by decide +kernel
theorem dL_law_542 : decode cL_law 542 = .ok (.iaload, 1) := by decide +kernel
theorem dL_law_543 : decode cL_law 543 = .ok (.invokevirtual 76, 3) := by decide +kernel
theorem dL_law_546 : decode cL_law 546 = .ok (.aload_n 2, 1) := by decide +kernel
theorem dL_law_547 : decode cL_law 547 = .ok (.aload_n 0, 1) := by decide +kernel
theorem dL_law_548 : decode cL_law 548 = .ok (.iload_n 3, 1) := by decide +kernel
theorem dL_law_549 : decode cL_law 549 = .ok (.iconst 1, 1) := by decide +kernel
theorem dL_law_550 : decode cL_law 550 = .ok (.iadd, 1) := by decide +kernel
theorem dL_law_551 : decode cL_law 551 = .ok (.iaload, 1) := by decide +kernel
theorem dL_law_552 : decode cL_law 552 = .ok (.invokevirtual 79, 3) := by decide +kernel
theorem dL_law_555 : decode cL_law 555 = .ok (.if_icmp .eq 505, 3) := by decide +kernel
theorem dL_law_558 : decode cL_law 558 = .ok (.iconst 0, 1) := by decide +kernel
theorem dL_law_559 : decode cL_law 559 = .ok (.ireturn, 1) := by decide +kernel
theorem dL_law_560 : decode cL_law 560 = .ok (.aload_n 1, 1) := by decide +kernel
theorem dL_law_561 : decode cL_law 561 = .ok (.invokevirtual 80, 3) := by decide +kernel
theorem dL_law_564 : decode cL_law 564 = .ok (.aload_n 2, 1) := by decide +kernel
theorem dL_law_565 : decode cL_law 565 = .ok (.invokevirtual 83, 3) := by decide +kernel
theorem dL_law_568 : decode cL_law 568 = .ok (.if_icmp .eq 492, 3) := by decide +kernel
theorem dL_law_571 : decode cL_law 571 = .ok (.iconst 0, 1) := by decide +kernel
theorem dL_law_572 : decode cL_law 572 = .ok (.ireturn, 1) := by decide +kernel
theorem dL_law_573 : decode cL_law 573 = .ok (.aload_n 1, 1) := by decide +kernel
theorem dL_law_574 : decode cL_law 574 = .ok (.aload_n 0, 1) := by decide +kernel
theorem dL_law_575 : decode cL_law 575 = .ok (.iload_n 3, 1) := by decide +kernel
theorem dL_law_576 : decode cL_law 576 = .ok (.iconst 1, 1) := by decide +kernel
theorem dL_law_577 : decode cL_law 577 = .ok (.iadd, 1) := by decide +kernel
theorem dL_law_578 : decode cL_law 578 = .ok (.iaload, 1) := by decide +kernel
theorem dL_law_579 : decode cL_law 579 = .ok (.aload_n 0, 1) := by decide +kernel
theorem dL_law_580 : decode cL_law 580 = .ok (.iload_n 3, 1) := by decide +kernel
theorem dL_law_581 : decode cL_law 581 = .ok (.iconst 2, 1) := by decide +kernel
theorem dL_law_582 : decode cL_law 582 = .ok (.iadd, 1) := by decide +kernel
theorem dL_law_583 : decode cL_law 583 = .ok (.iaload, 1) := by decide +kernel
theorem dL_law_584 : decode cL_law 584 = .ok (.invokevirtual 84, 3) := by decide +kernel
theorem dL_law_587 : decode cL_law 587 = .ok (.aload_n 2, 1) := by decide +kernel
theorem dL_law_588 : decode cL_law 588 = .ok (.aload_n 0, 1) := by decide +kernel
theorem dL_law_589 : decode cL_law 589 = .ok (.iload_n 3, 1) := by decide +kernel
theorem dL_law_590 : decode cL_law 590 = .ok (.iconst 1, 1) := by decide +kernel
theorem dL_law_591 : decode cL_law 591 = .ok (.iadd, 1) := by decide +kernel
theorem dL_law_592 : decode cL_law 592 = .ok (.iaload, 1) := by decide +kernel
theorem dL_law_593 : decode cL_law 593 = .ok (.aload_n 0, 1) := by decide +kernel
theorem dL_law_594 : decode cL_law 594 = .ok (.iload_n 3, 1) := by decide +kernel
theorem dL_law_595 : decode cL_law 595 = .ok (.iconst 2, 1) := by decide +kernel
theorem dL_law_596 : decode cL_law 596 = .ok (.iadd, 1) := by decide +kernel
theorem dL_law_597 : decode cL_law 597 = .ok (.iaload, 1) := by decide +kernel
theorem dL_law_598 : decode cL_law 598 = .ok (.invokevirtual 87, 3) := by decide +kernel
theorem dL_law_601 : decode cL_law 601 = .ok (.if_icmp .eq 459, 3) := by decide +kernel
theorem dL_law_604 : decode cL_law 604 = .ok (.iconst 0, 1) := by decide +kernel
theorem dL_law_605 : decode cL_law 605 = .ok (.ireturn, 1) := by decide +kernel
theorem dL_law_606 : decode cL_law 606 = .ok (.aload_n 1, 1) := by decide +kernel
theorem dL_law_607 : decode cL_law 607 = .ok (.aload_n 0, 1) := by decide +kernel
theorem dL_law_608 : decode cL_law 608 = .ok (.iload_n 3, 1) := by decide +kernel
theorem dL_law_609 : decode cL_law 609 = .ok (.iconst 1, 1) := by decide +kernel
theorem dL_law_610 : decode cL_law 610 = .ok (.iadd, 1) := by decide +kernel
theorem dL_law_611 : decode cL_law 611 = .ok (.iaload, 1) := by decide +kernel
theorem dL_law_612 : decode cL_law 612 = .ok (.invokevirtual 88, 3) := by decide +kernel
theorem dL_law_615 : decode cL_law 615 = .ok (.aload_n 2, 1) := by decide +kernel
theorem dL_law_616 : decode cL_law 616 = .ok (.aload_n 0, 1) := by decide +kernel
theorem dL_law_617 : decode cL_law 617 = .ok (.iload_n 3, 1) := by decide +kernel
theorem dL_law_618 : decode cL_law 618 = .ok (.iconst 1, 1) := by decide +kernel
theorem dL_law_619 : decode cL_law 619 = .ok (.iadd, 1) := by decide +kernel
theorem dL_law_620 : decode cL_law 620 = .ok (.iaload, 1) := by decide +kernel
theorem dL_law_621 : decode cL_law 621 = .ok (.invokevirtual 91, 3) := by decide +kernel
theorem dL_law_624 : decode cL_law 624 = .ok (.if_icmp .eq 436, 3) := by decide +kernel
theorem dL_law_627 : decode cL_law 627 = .ok (.iconst 0, 1) := by decide +kernel
theorem dL_law_628 : decode cL_law 628 = .ok (.ireturn, 1) := by decide +kernel
theorem dL_law_629 : decode cL_law 629 = .ok (.aload_n 1, 1) := by decide +kernel
theorem dL_law_630 : decode cL_law 630 = .ok (.invokevirtual 92, 3) := by decide +kernel
theorem dL_law_633 : decode cL_law 633 = .ok (.aload_n 2, 1) := by decide +kernel
theorem dL_law_634 : decode cL_law 634 = .ok (.invokevirtual 95, 3) := by decide +kernel
theorem dL_law_637 : decode cL_law 637 = .ok (.if_icmp .eq 423, 3) := by decide +kernel
theorem dL_law_640 : decode cL_law 640 = .ok (.iconst 0, 1) := by decide +kernel
theorem dL_law_641 : decode cL_law 641 = .ok (.ireturn, 1) := by decide +kernel
theorem dL_law_642 : decode cL_law 642 = .ok (.aload_n 1, 1) := by decide +kernel
theorem dL_law_643 : decode cL_law 643 = .ok (.aload_n 0, 1) := by decide +kernel
theorem dL_law_644 : decode cL_law 644 = .ok (.iload_n 3, 1) := by decide +kernel
theorem dL_law_645 : decode cL_law 645 = .ok (.iconst 1, 1) := by decide +kernel
theorem dL_law_646 : decode cL_law 646 = .ok (.iadd, 1) := by decide +kernel
theorem dL_law_647 : decode cL_law 647 = .ok (.iaload, 1) := by decide +kernel
theorem dL_law_648 : decode cL_law 648 = .ok (.aload_n 0, 1) := by decide +kernel
theorem dL_law_649 : decode cL_law 649 = .ok (.iload_n 3, 1) := by decide +kernel
theorem dL_law_650 : decode cL_law 650 = .ok (.iconst 2, 1) := by decide +kernel
theorem dL_law_651 : decode cL_law 651 = .ok (.iadd, 1) := by decide +kernel
theorem dL_law_652 : decode cL_law 652 = .ok (.iaload, 1) := by decide +kernel
theorem dL_law_653 : decode cL_law 653 = .ok (.invokevirtual 96, 3) := by decide +kernel
theorem dL_law_656 : decode cL_law 656 = .ok (.aload_n 2, 1) := by decide +kernel
theorem dL_law_657 : decode cL_law 657 = .ok (.aload_n 0, 1) := by decide +kernel
theorem dL_law_658 : decode cL_law 658 = .ok (.iload_n 3, 1) := by decide +kernel
theorem dL_law_659 : decode cL_law 659 = .ok (.iconst 1, 1) := by decide +kernel
theorem dL_law_660 : decode cL_law 660 = .ok (.iadd, 1) := by decide +kernel
theorem dL_law_661 : decode cL_law 661 = .ok (.iaload, 1) := by decide +kernel
theorem dL_law_662 : decode cL_law 662 = .ok (.aload_n 0, 1) := by decide +kernel
theorem dL_law_663 : decode cL_law 663 = .ok (.iload_n 3, 1) := by decide +kernel
theorem dL_law_664 : decode cL_law 664 = .ok (.iconst 2, 1) := by decide +kernel
theorem dL_law_665 : decode cL_law 665 = .ok (.iadd, 1) := by decide +kernel
theorem dL_law_666 : decode cL_law 666 = .ok (.iaload, 1) := by decide +kernel
theorem dL_law_667 : decode cL_law 667 = .ok (.invokevirtual 99, 3) := by decide +kernel
theorem dL_law_670 : decode cL_law 670 = .ok (.if_icmp .eq 390, 3) := by decide +kernel
theorem dL_law_673 : decode cL_law 673 = .ok (.iconst 0, 1) := by decide +kernel
theorem dL_law_674 : decode cL_law 674 = .ok (.ireturn, 1) := by decide +kernel
theorem dL_law_675 : decode cL_law 675 = .ok (.aload_n 1, 1) := by decide +kernel
theorem dL_law_676 : decode cL_law 676 = .ok (.aload_n 0, 1) := by decide +kernel
theorem dL_law_677 : decode cL_law 677 = .ok (.iload_n 3, 1) := by decide +kernel
theorem dL_law_678 : decode cL_law 678 = .ok (.iconst 1, 1) := by decide +kernel
theorem dL_law_679 : decode cL_law 679 = .ok (.iadd, 1) := by decide +kernel
theorem dL_law_680 : decode cL_law 680 = .ok (.iaload, 1) := by decide +kernel
theorem dL_law_681 : decode cL_law 681 = .ok (.aload_n 0, 1) := by decide +kernel
theorem dL_law_682 : decode cL_law 682 = .ok (.iload_n 3, 1) := by decide +kernel
theorem dL_law_683 : decode cL_law 683 = .ok (.iconst 2, 1) := by decide +kernel
theorem dL_law_684 : decode cL_law 684 = .ok (.iadd, 1) := by decide +kernel
theorem dL_law_685 : decode cL_law 685 = .ok (.iaload, 1) := by decide +kernel
theorem dL_law_686 : decode cL_law 686 = .ok (.invokevirtual 100, 3) := by decide +kernel
theorem dL_law_689 : decode cL_law 689 = .ok (.aload_n 2, 1) := by decide +kernel
theorem dL_law_690 : decode cL_law 690 = .ok (.aload_n 0, 1) := by decide +kernel
theorem dL_law_691 : decode cL_law 691 = .ok (.iload_n 3, 1) := by decide +kernel
theorem dL_law_692 : decode cL_law 692 = .ok (.iconst 1, 1) := by decide +kernel
theorem dL_law_693 : decode cL_law 693 = .ok (.iadd, 1) := by decide +kernel
theorem dL_law_694 : decode cL_law 694 = .ok (.iaload, 1) := by decide +kernel
theorem dL_law_695 : decode cL_law 695 = .ok (.aload_n 0, 1) := by decide +kernel
theorem dL_law_696 : decode cL_law 696 = .ok (.iload_n 3, 1) := by decide +kernel
theorem dL_law_697 : decode cL_law 697 = .ok (.iconst 2, 1) := by decide +kernel
theorem dL_law_698 : decode cL_law 698 = .ok (.iadd, 1) := by decide +kernel
theorem dL_law_699 : decode cL_law 699 = .ok (.iaload, 1) := by decide +kernel
theorem dL_law_700 : decode cL_law 700 = .ok (.invokevirtual 103, 3) := by decide +kernel
theorem dL_law_703 : decode cL_law 703 = .ok (.if_icmp .eq 357, 3) := by decide +kernel
theorem dL_law_706 : decode cL_law 706 = .ok (.iconst 0, 1) := by decide +kernel
theorem dL_law_707 : decode cL_law 707 = .ok (.ireturn, 1) := by decide +kernel
theorem dL_law_708 : decode cL_law 708 = .ok (.aload_n 1, 1) := by decide +kernel
theorem dL_law_709 : decode cL_law 709 = .ok (.aload_n 0, 1) := by decide +kernel
theorem dL_law_710 : decode cL_law 710 = .ok (.iload_n 3, 1) := by decide +kernel
theorem dL_law_711 : decode cL_law 711 = .ok (.iconst 1, 1) := by decide +kernel
theorem dL_law_712 : decode cL_law 712 = .ok (.iadd, 1) := by decide +kernel
theorem dL_law_713 : decode cL_law 713 = .ok (.iaload, 1) := by decide +kernel
theorem dL_law_714 : decode cL_law 714 = .ok (.aload_n 0, 1) := by decide +kernel
theorem dL_law_715 : decode cL_law 715 = .ok (.iload_n 3, 1) := by decide +kernel
theorem dL_law_716 : decode cL_law 716 = .ok (.iconst 2, 1) := by decide +kernel
theorem dL_law_717 : decode cL_law 717 = .ok (.iadd, 1) := by decide +kernel
theorem dL_law_718 : decode cL_law 718 = .ok (.iaload, 1) := by decide +kernel
theorem dL_law_719 : decode cL_law 719 = .ok (.aload_n 0, 1) := by decide +kernel
theorem dL_law_720 : decode cL_law 720 = .ok (.iload_n 3, 1) := by decide +kernel
theorem dL_law_721 : decode cL_law 721 = .ok (.iconst 3, 1) := by decide +kernel
theorem dL_law_722 : decode cL_law 722 = .ok (.iadd, 1) := by decide +kernel
theorem dL_law_723 : decode cL_law 723 = .ok (.iaload, 1) := by decide +kernel
theorem dL_law_724 : decode cL_law 724 = .ok (.invokevirtual 104, 3) := by decide +kernel
theorem dL_law_727 : decode cL_law 727 = .ok (.aload_n 2, 1) := by decide +kernel
theorem dL_law_728 : decode cL_law 728 = .ok (.aload_n 0, 1) := by decide +kernel
theorem dL_law_729 : decode cL_law 729 = .ok (.iload_n 3, 1) := by decide +kernel
theorem dL_law_730 : decode cL_law 730 = .ok (.iconst 1, 1) := by decide +kernel
theorem dL_law_731 : decode cL_law 731 = .ok (.iadd, 1) := by decide +kernel
theorem dL_law_732 : decode cL_law 732 = .ok (.iaload, 1) := by decide +kernel
theorem dL_law_733 : decode cL_law 733 = .ok (.aload_n 0, 1) := by decide +kernel
theorem dL_law_734 : decode cL_law 734 = .ok (.iload_n 3, 1) := by decide +kernel
theorem dL_law_735 : decode cL_law 735 = .ok (.iconst 2, 1) := by decide +kernel
theorem dL_law_736 : decode cL_law 736 = .ok (.iadd, 1) := by decide +kernel
theorem dL_law_737 : decode cL_law 737 = .ok (.iaload, 1) := by decide +kernel
theorem dL_law_738 : decode cL_law 738 = .ok (.aload_n 0, 1) := by decide +kernel
theorem dL_law_739 : decode cL_law 739 = .ok (.iload_n 3, 1) := by decide +kernel
theorem dL_law_740 : decode cL_law 740 = .ok (.iconst 3, 1) := by decide +kernel
theorem dL_law_741 : decode cL_law 741 = .ok (.iadd, 1) := by decide +kernel
theorem dL_law_742 : decode cL_law 742 = .ok (.iaload, 1) := by decide +kernel
theorem dL_law_743 : decode cL_law 743 = .ok (.invokevirtual 108, 3) := by decide +kernel
theorem dL_law_746 : decode cL_law 746 = .ok (.if_icmp .eq 314, 3) := by decide +kernel
theorem dL_law_749 : decode cL_law 749 = .ok (.iconst 0, 1) := by decide +kernel
theorem dL_law_750 : decode cL_law 750 = .ok (.ireturn, 1) := by decide +kernel
theorem dL_law_751 : decode cL_law 751 = .ok (.aload_n 1, 1) := by decide +kernel
theorem dL_law_752 : decode cL_law 752 = .ok (.aload_n 0, 1) := by decide +kernel
theorem dL_law_753 : decode cL_law 753 = .ok (.iload_n 3, 1) := by decide +kernel
theorem dL_law_754 : decode cL_law 754 = .ok (.iconst 1, 1) := by decide +kernel
theorem dL_law_755 : decode cL_law 755 = .ok (.iadd, 1) := by decide +kernel
theorem dL_law_756 : decode cL_law 756 = .ok (.iaload, 1) := by decide +kernel
theorem dL_law_757 : decode cL_law 757 = .ok (.aload_n 0, 1) := by decide +kernel
theorem dL_law_758 : decode cL_law 758 = .ok (.iload_n 3, 1) := by decide +kernel
theorem dL_law_759 : decode cL_law 759 = .ok (.iconst 2, 1) := by decide +kernel
theorem dL_law_760 : decode cL_law 760 = .ok (.iadd, 1) := by decide +kernel
theorem dL_law_761 : decode cL_law 761 = .ok (.iaload, 1) := by decide +kernel
theorem dL_law_762 : decode cL_law 762 = .ok (.invokevirtual 109, 3) := by decide +kernel
theorem dL_law_765 : decode cL_law 765 = .ok (.aload_n 2, 1) := by decide +kernel
theorem dL_law_766 : decode cL_law 766 = .ok (.aload_n 0, 1) := by decide +kernel
theorem dL_law_767 : decode cL_law 767 = .ok (.iload_n 3, 1) := by decide +kernel
theorem dL_law_768 : decode cL_law 768 = .ok (.iconst 1, 1) := by decide +kernel
theorem dL_law_769 : decode cL_law 769 = .ok (.iadd, 1) := by decide +kernel
theorem dL_law_770 : decode cL_law 770 = .ok (.iaload, 1) := by decide +kernel
theorem dL_law_771 : decode cL_law 771 = .ok (.aload_n 0, 1) := by decide +kernel
theorem dL_law_772 : decode cL_law 772 = .ok (.iload_n 3, 1) := by decide +kernel
theorem dL_law_773 : decode cL_law 773 = .ok (.iconst 2, 1) := by decide +kernel
theorem dL_law_774 : decode cL_law 774 = .ok (.iadd, 1) := by decide +kernel
theorem dL_law_775 : decode cL_law 775 = .ok (.iaload, 1) := by decide +kernel
theorem dL_law_776 : decode cL_law 776 = .ok (.invokevirtual 112, 3) := by decide +kernel
theorem dL_law_779 : decode cL_law 779 = .ok (.if_icmp .eq 281, 3) := by decide +kernel
theorem dL_law_782 : decode cL_law 782 = .ok (.iconst 0, 1) := by decide +kernel
theorem dL_law_783 : decode cL_law 783 = .ok (.ireturn, 1) := by decide +kernel
theorem dL_law_784 : decode cL_law 784 = .ok (.aload_n 1, 1) := by decide +kernel
theorem dL_law_785 : decode cL_law 785 = .ok (.aload_n 0, 1) := by decide +kernel
theorem dL_law_786 : decode cL_law 786 = .ok (.iload_n 3, 1) := by decide +kernel
theorem dL_law_787 : decode cL_law 787 = .ok (.iconst 1, 1) := by decide +kernel
theorem dL_law_788 : decode cL_law 788 = .ok (.iadd, 1) := by decide +kernel
theorem dL_law_789 : decode cL_law 789 = .ok (.iaload, 1) := by decide +kernel
theorem dL_law_790 : decode cL_law 790 = .ok (.invokevirtual 113, 3) := by decide +kernel
theorem dL_law_793 : decode cL_law 793 = .ok (.aload_n 2, 1) := by decide +kernel
theorem dL_law_794 : decode cL_law 794 = .ok (.aload_n 0, 1) := by decide +kernel
theorem dL_law_795 : decode cL_law 795 = .ok (.iload_n 3, 1) := by decide +kernel
theorem dL_law_796 : decode cL_law 796 = .ok (.iconst 1, 1) := by decide +kernel
theorem dL_law_797 : decode cL_law 797 = .ok (.iadd, 1) := by decide +kernel
theorem dL_law_798 : decode cL_law 798 = .ok (.iaload, 1) := by decide +kernel
theorem dL_law_799 : decode cL_law 799 = .ok (.invokevirtual 116, 3) := by decide +kernel
theorem dL_law_802 : decode cL_law 802 = .ok (.if_icmp .eq 258, 3) := by decide +kernel
theorem dL_law_805 : decode cL_law 805 = .ok (.iconst 0, 1) := by decide +kernel
theorem dL_law_806 : decode cL_law 806 = .ok (.ireturn, 1) := by decide +kernel
theorem dL_law_807 : decode cL_law 807 = .ok (.aload_n 1, 1) := by decide +kernel
theorem dL_law_808 : decode cL_law 808 = .ok (.aload_n 0, 1) := by decide +kernel
theorem dL_law_809 : decode cL_law 809 = .ok (.iload_n 3, 1) := by decide +kernel
theorem dL_law_810 : decode cL_law 810 = .ok (.iconst 1, 1) := by decide +kernel
theorem dL_law_811 : decode cL_law 811 = .ok (.iadd, 1) := by decide +kernel
theorem dL_law_812 : decode cL_law 812 = .ok (.iaload, 1) := by decide +kernel
theorem dL_law_813 : decode cL_law 813 = .ok (.aload_n 0, 1) := by decide +kernel
theorem dL_law_814 : decode cL_law 814 = .ok (.iload_n 3, 1) := by decide +kernel
theorem dL_law_815 : decode cL_law 815 = .ok (.iconst 2, 1) := by decide +kernel
theorem dL_law_816 : decode cL_law 816 = .ok (.iadd, 1) := by decide +kernel
theorem dL_law_817 : decode cL_law 817 = .ok (.iaload, 1) := by decide +kernel
theorem dL_law_818 : decode cL_law 818 = .ok (.aload_n 0, 1) := by decide +kernel
theorem dL_law_819 : decode cL_law 819 = .ok (.iload_n 3, 1) := by decide +kernel
theorem dL_law_820 : decode cL_law 820 = .ok (.iconst 3, 1) := by decide +kernel
theorem dL_law_821 : decode cL_law 821 = .ok (.iadd, 1) := by decide +kernel
theorem dL_law_822 : decode cL_law 822 = .ok (.iaload, 1) := by decide +kernel
theorem dL_law_823 : decode cL_law 823 = .ok (.invokevirtual 117, 3) := by decide +kernel
theorem dL_law_826 : decode cL_law 826 = .ok (.aload_n 2, 1) := by decide +kernel
theorem dL_law_827 : decode cL_law 827 = .ok (.aload_n 0, 1) := by decide +kernel
theorem dL_law_828 : decode cL_law 828 = .ok (.iload_n 3, 1) := by decide +kernel
theorem dL_law_829 : decode cL_law 829 = .ok (.iconst 1, 1) := by decide +kernel
theorem dL_law_830 : decode cL_law 830 = .ok (.iadd, 1) := by decide +kernel
theorem dL_law_831 : decode cL_law 831 = .ok (.iaload, 1) := by decide +kernel
theorem dL_law_832 : decode cL_law 832 = .ok (.aload_n 0, 1) := by decide +kernel
theorem dL_law_833 : decode cL_law 833 = .ok (.iload_n 3, 1) := by decide +kernel
theorem dL_law_834 : decode cL_law 834 = .ok (.iconst 2, 1) := by decide +kernel
theorem dL_law_835 : decode cL_law 835 = .ok (.iadd, 1) := by decide +kernel
theorem dL_law_836 : decode cL_law 836 = .ok (.iaload, 1) := by decide +kernel
theorem dL_law_837 : decode cL_law 837 = .ok (.aload_n 0, 1) := by decide +kernel
theorem dL_law_838 : decode cL_law 838 = .ok (.iload_n 3, 1) := by decide +kernel
theorem dL_law_839 : decode cL_law 839 = .ok (.iconst 3, 1) := by decide +kernel
theorem dL_law_840 : decode cL_law 840 = .ok (.iadd, 1) := by decide +kernel
theorem dL_law_841 : decode cL_law 841 = .ok (.iaload, 1) := by decide +kernel
theorem dL_law_842 : decode cL_law 842 = .ok (.invokevirtual 120, 3) := by decide +kernel
theorem dL_law_845 : decode cL_law 845 = .ok (.if_icmp .eq 215, 3) := by decide +kernel
theorem dL_law_848 : decode cL_law 848 = .ok (.iconst 0, 1) := by decide +kernel
theorem dL_law_849 : decode cL_law 849 = .ok (.ireturn, 1) := by decide +kernel
theorem dL_law_850 : decode cL_law 850 = .ok (.aload_n 1, 1) := by decide +kernel
theorem dL_law_851 : decode cL_law 851 = .ok (.aload_n 0, 1) := by decide +kernel
theorem dL_law_852 : decode cL_law 852 = .ok (.iload_n 3, 1) := by decide +kernel
theorem dL_law_853 : decode cL_law 853 = .ok (.iconst 1, 1) := by decide +kernel
theorem dL_law_854 : decode cL_law 854 = .ok (.iadd, 1) := by decide +kernel
theorem dL_law_855 : decode cL_law 855 = .ok (.iaload, 1) := by decide +kernel
theorem dL_law_856 : decode cL_law 856 = .ok (.invokevirtual 121, 3) := by decide +kernel
theorem dL_law_859 : decode cL_law 859 = .ok (.aload_n 2, 1) := by decide +kernel
theorem dL_law_860 : decode cL_law 860 = .ok (.aload_n 0, 1) := by decide +kernel
theorem dL_law_861 : decode cL_law 861 = .ok (.iload_n 3, 1) := by decide +kernel
theorem dL_law_862 : decode cL_law 862 = .ok (.iconst 1, 1) := by decide +kernel
theorem dL_law_863 : decode cL_law 863 = .ok (.iadd, 1) := by decide +kernel
theorem dL_law_864 : decode cL_law 864 = .ok (.iaload, 1) := by decide +kernel
theorem dL_law_865 : decode cL_law 865 = .ok (.invokevirtual 124, 3) := by decide +kernel
theorem dL_law_868 : decode cL_law 868 = .ok (.if_icmp .eq 192, 3) := by decide +kernel
theorem dL_law_871 : decode cL_law 871 = .ok (.iconst 0, 1) := by decide +kernel
theorem dL_law_872 : decode cL_law 872 = .ok (.ireturn, 1) := by decide +kernel
theorem dL_law_873 : decode cL_law 873 = .ok (.aload_n 1, 1) := by decide +kernel
theorem dL_law_874 : decode cL_law 874 = .ok (.invokevirtual 125, 3) := by decide +kernel
theorem dL_law_877 : decode cL_law 877 = .ok (.aload_n 2, 1) := by decide +kernel
theorem dL_law_878 : decode cL_law 878 = .ok (.invokevirtual 128, 3) := by decide +kernel
theorem dL_law_881 : decode cL_law 881 = .ok (.if_icmp .eq 179, 3) := by decide +kernel
theorem dL_law_884 : decode cL_law 884 = .ok (.iconst 0, 1) := by decide +kernel
theorem dL_law_885 : decode cL_law 885 = .ok (.ireturn, 1) := by decide +kernel
theorem dL_law_886 : decode cL_law 886 = .ok (.aload_n 1, 1) := by decide +kernel
theorem dL_law_887 : decode cL_law 887 = .ok (.aload_n 0, 1) := by decide +kernel
theorem dL_law_888 : decode cL_law 888 = .ok (.iload_n 3, 1) := by decide +kernel
theorem dL_law_889 : decode cL_law 889 = .ok (.iconst 1, 1) := by decide +kernel
theorem dL_law_890 : decode cL_law 890 = .ok (.iadd, 1) := by decide +kernel
theorem dL_law_891 : decode cL_law 891 = .ok (.iaload, 1) := by decide +kernel
theorem dL_law_892 : decode cL_law 892 = .ok (.invokevirtual 129, 3) := by decide +kernel
theorem dL_law_895 : decode cL_law 895 = .ok (.aload_n 2, 1) := by decide +kernel
theorem dL_law_896 : decode cL_law 896 = .ok (.aload_n 0, 1) := by decide +kernel
theorem dL_law_897 : decode cL_law 897 = .ok (.iload_n 3, 1) := by decide +kernel
theorem dL_law_898 : decode cL_law 898 = .ok (.iconst 1, 1) := by decide +kernel
theorem dL_law_899 : decode cL_law 899 = .ok (.iadd, 1) := by decide +kernel
theorem dL_law_900 : decode cL_law 900 = .ok (.iaload, 1) := by decide +kernel
theorem dL_law_901 : decode cL_law 901 = .ok (.invokevirtual 132, 3) := by decide +kernel
theorem dL_law_904 : decode cL_law 904 = .ok (.if_icmp .eq 156, 3) := by decide +kernel
theorem dL_law_907 : decode cL_law 907 = .ok (.iconst 0, 1) := by decide +kernel
theorem dL_law_908 : decode cL_law 908 = .ok (.ireturn, 1) := by decide +kernel
theorem dL_law_909 : decode cL_law 909 = .ok (.aload_n 1, 1) := by decide +kernel
theorem dL_law_910 : decode cL_law 910 = .ok (.aload_n 0, 1) := by decide +kernel
theorem dL_law_911 : decode cL_law 911 = .ok (.iload_n 3, 1) := by decide +kernel
theorem dL_law_912 : decode cL_law 912 = .ok (.iconst 1, 1) := by decide +kernel
theorem dL_law_913 : decode cL_law 913 = .ok (.iadd, 1) := by decide +kernel
theorem dL_law_914 : decode cL_law 914 = .ok (.iaload, 1) := by decide +kernel
theorem dL_law_915 : decode cL_law 915 = .ok (.aload_n 0, 1) := by decide +kernel
theorem dL_law_916 : decode cL_law 916 = .ok (.iload_n 3, 1) := by decide +kernel
theorem dL_law_917 : decode cL_law 917 = .ok (.iconst 2, 1) := by decide +kernel
theorem dL_law_918 : decode cL_law 918 = .ok (.iadd, 1) := by decide +kernel
theorem dL_law_919 : decode cL_law 919 = .ok (.iaload, 1) := by decide +kernel
theorem dL_law_920 : decode cL_law 920 = .ok (.invokevirtual 133, 3) := by decide +kernel
theorem dL_law_923 : decode cL_law 923 = .ok (.aload_n 2, 1) := by decide +kernel
theorem dL_law_924 : decode cL_law 924 = .ok (.aload_n 0, 1) := by decide +kernel
theorem dL_law_925 : decode cL_law 925 = .ok (.iload_n 3, 1) := by decide +kernel
theorem dL_law_926 : decode cL_law 926 = .ok (.iconst 1, 1) := by decide +kernel
theorem dL_law_927 : decode cL_law 927 = .ok (.iadd, 1) := by decide +kernel
theorem dL_law_928 : decode cL_law 928 = .ok (.iaload, 1) := by decide +kernel
theorem dL_law_929 : decode cL_law 929 = .ok (.aload_n 0, 1) := by decide +kernel
theorem dL_law_930 : decode cL_law 930 = .ok (.iload_n 3, 1) := by decide +kernel
theorem dL_law_931 : decode cL_law 931 = .ok (.iconst 2, 1) := by decide +kernel
theorem dL_law_932 : decode cL_law 932 = .ok (.iadd, 1) := by decide +kernel
theorem dL_law_933 : decode cL_law 933 = .ok (.iaload, 1) := by decide +kernel
theorem dL_law_934 : decode cL_law 934 = .ok (.invokevirtual 136, 3) := by decide +kernel
theorem dL_law_937 : decode cL_law 937 = .ok (.if_icmp .eq 123, 3) := by decide +kernel
theorem dL_law_940 : decode cL_law 940 = .ok (.iconst 0, 1) := by decide +kernel
theorem dL_law_941 : decode cL_law 941 = .ok (.ireturn, 1) := by decide +kernel
theorem dL_law_942 : decode cL_law 942 = .ok (.aload_n 1, 1) := by decide +kernel
theorem dL_law_943 : decode cL_law 943 = .ok (.aload_n 0, 1) := by decide +kernel
theorem dL_law_944 : decode cL_law 944 = .ok (.iload_n 3, 1) := by decide +kernel
theorem dL_law_945 : decode cL_law 945 = .ok (.iconst 1, 1) := by decide +kernel
theorem dL_law_946 : decode cL_law 946 = .ok (.iadd, 1) := by decide +kernel
theorem dL_law_947 : decode cL_law 947 = .ok (.iaload, 1) := by decide +kernel
theorem dL_law_948 : decode cL_law 948 = .ok (.aload_n 0, 1) := by decide +kernel
theorem dL_law_949 : decode cL_law 949 = .ok (.iload_n 3, 1) := by decide +kernel
theorem dL_law_950 : decode cL_law 950 = .ok (.iconst 2, 1) := by decide +kernel
theorem dL_law_951 : decode cL_law 951 = .ok (.iadd, 1) := by decide +kernel
theorem dL_law_952 : decode cL_law 952 = .ok (.iaload, 1) := by decide +kernel
theorem dL_law_953 : decode cL_law 953 = .ok (.invokevirtual 137, 3) := by decide +kernel
theorem dL_law_956 : decode cL_law 956 = .ok (.aload_n 2, 1) := by decide +kernel
theorem dL_law_957 : decode cL_law 957 = .ok (.aload_n 0, 1) := by decide +kernel
theorem dL_law_958 : decode cL_law 958 = .ok (.iload_n 3, 1) := by decide +kernel
theorem dL_law_959 : decode cL_law 959 = .ok (.iconst 1, 1) := by decide +kernel
theorem dL_law_960 : decode cL_law 960 = .ok (.iadd, 1) := by decide +kernel
theorem dL_law_961 : decode cL_law 961 = .ok (.iaload, 1) := by decide +kernel
theorem dL_law_962 : decode cL_law 962 = .ok (.aload_n 0, 1) := by decide +kernel
theorem dL_law_963 : decode cL_law 963 = .ok (.iload_n 3, 1) := by decide +kernel
theorem dL_law_964 : decode cL_law 964 = .ok (.iconst 2, 1) := by decide +kernel
theorem dL_law_965 : decode cL_law 965 = .ok (.iadd, 1) := by decide +kernel
theorem dL_law_966 : decode cL_law 966 = .ok (.iaload, 1) := by decide +kernel
theorem dL_law_967 : decode cL_law 967 = .ok (.invokevirtual 140, 3) := by decide +kernel
theorem dL_law_970 : decode cL_law 970 = .ok (.if_icmp .eq 90, 3) := by decide +kernel
theorem dL_law_973 : decode cL_law 973 = .ok (.iconst 0, 1) := by decide +kernel
theorem dL_law_974 : decode cL_law 974 = .ok (.ireturn, 1) := by decide +kernel
theorem dL_law_975 : decode cL_law 975 = .ok (.aload_n 1, 1) := by decide +kernel
theorem dL_law_976 : decode cL_law 976 = .ok (.aload_n 0, 1) := by decide +kernel
theorem dL_law_977 : decode cL_law 977 = .ok (.iload_n 3, 1) := by decide +kernel
theorem dL_law_978 : decode cL_law 978 = .ok (.iconst 1, 1) := by decide +kernel
theorem dL_law_979 : decode cL_law 979 = .ok (.iadd, 1) := by decide +kernel
theorem dL_law_980 : decode cL_law 980 = .ok (.iaload, 1) := by decide +kernel
theorem dL_law_981 : decode cL_law 981 = .ok (.invokevirtual 141, 3) := by decide +kernel
theorem dL_law_984 : decode cL_law 984 = .ok (.aload_n 2, 1) := by decide +kernel
theorem dL_law_985 : decode cL_law 985 = .ok (.aload_n 0, 1) := by decide +kernel
theorem dL_law_986 : decode cL_law 986 = .ok (.iload_n 3, 1) := by decide +kernel
theorem dL_law_987 : decode cL_law 987 = .ok (.iconst 1, 1) := by decide +kernel
theorem dL_law_988 : decode cL_law 988 = .ok (.iadd, 1) := by decide +kernel
theorem dL_law_989 : decode cL_law 989 = .ok (.iaload, 1) := by decide +kernel
theorem dL_law_990 : decode cL_law 990 = .ok (.invokevirtual 144, 3) := by decide +kernel
theorem dL_law_993 : decode cL_law 993 = .ok (.if_icmp .eq 67, 3) := by decide +kernel
theorem dL_law_996 : decode cL_law 996 = .ok (.iconst 0, 1) := by decide +kernel
theorem dL_law_997 : decode cL_law 997 = .ok (.ireturn, 1) := by decide +kernel
theorem dL_law_998 : decode cL_law 998 = .ok (.aload_n 1, 1) := by decide +kernel
theorem dL_law_999 : decode cL_law 999 = .ok (.invokevirtual 145, 3) := by decide +kernel
theorem dL_law_1002 : decode cL_law 1002 = .ok (.aload_n 2, 1) := by decide +kernel
theorem dL_law_1003 : decode cL_law 1003 = .ok (.invokevirtual 148, 3) := by decide +kernel
theorem dL_law_1006 : decode cL_law 1006 = .ok (.if_icmp .eq 54, 3) := by decide +kernel
theorem dL_law_1009 : decode cL_law 1009 = .ok (.iconst 0, 1) := by decide +kernel
theorem dL_law_1010 : decode cL_law 1010 = .ok (.ireturn, 1) := by decide +kernel
theorem dL_law_1011 : decode cL_law 1011 = .ok (.aload_n 1, 1) := by decide +kernel
theorem dL_law_1012 : decode cL_law 1012 = .ok (.invokevirtual 149, 3) := by decide +kernel
theorem dL_law_1015 : decode cL_law 1015 = .ok (.aload_n 2, 1) := by decide +kernel
theorem dL_law_1016 : decode cL_law 1016 = .ok (.invokevirtual 152, 3) := by decide +kernel
theorem dL_law_1019 : decode cL_law 1019 = .ok (.if_icmp .eq 41, 3) := by decide +kernel
theorem dL_law_1022 : decode cL_law 1022 = .ok (.iconst 0, 1) := by decide +kernel
theorem dL_law_1023 : decode cL_law 1023 = .ok (.ireturn, 1) := by decide +kernel
theorem dL_law_1024 : decode cL_law 1024 = .ok (.aload_n 1, 1) := by decide +kernel
theorem dL_law_1025 : decode cL_law 1025 = .ok (.invokevirtual 153, 3) := by decide +kernel
theorem dL_law_1028 : decode cL_law 1028 = .ok (.aload_n 2, 1) := by decide +kernel
theorem dL_law_1029 : decode cL_law 1029 = .ok (.invokevirtual 156, 3) := by decide +kernel
theorem dL_law_1032 : decode cL_law 1032 = .ok (.if_icmp .eq 28, 3) := by decide +kernel
theorem dL_law_1035 : decode cL_law 1035 = .ok (.iconst 0, 1) := by decide +kernel
theorem dL_law_1036 : decode cL_law 1036 = .ok (.ireturn, 1) := by decide +kernel
theorem dL_law_1037 : decode cL_law 1037 = .ok (.aload_n 1, 1) := by decide +kernel
theorem dL_law_1038 : decode cL_law 1038 = .ok (.aload_n 0, 1) := by decide +kernel
theorem dL_law_1039 : decode cL_law 1039 = .ok (.iload_n 3, 1) := by decide +kernel
theorem dL_law_1040 : decode cL_law 1040 = .ok (.iconst 1, 1) := by decide +kernel
theorem dL_law_1041 : decode cL_law 1041 = .ok (.iadd, 1) := by decide +kernel
theorem dL_law_1042 : decode cL_law 1042 = .ok (.iaload, 1) := by decide +kernel
theorem dL_law_1043 : decode cL_law 1043 = .ok (.invokevirtual 157, 3) := by decide +kernel
theorem dL_law_1046 : decode cL_law 1046 = .ok (.aload_n 2, 1) := by decide +kernel
theorem dL_law_1047 : decode cL_law 1047 = .ok (.aload_n 0, 1) := by decide +kernel
theorem dL_law_1048 : decode cL_law 1048 = .ok (.iload_n 3, 1) := by decide +kernel
theorem dL_law_1049 : decode cL_law 1049 = .ok (.iconst 1, 1) := by decide +kernel
theorem dL_law_1050 : decode cL_law 1050 = .ok (.iadd, 1) := by decide +kernel
theorem dL_law_1051 : decode cL_law 1051 = .ok (.iaload, 1) := by decide +kernel
theorem dL_law_1052 : decode cL_law 1052 = .ok (.invokevirtual 160, 3) := by decide +kernel
theorem dL_law_1055 : decode cL_law 1055 = .ok (.if_icmp .eq 5, 3) := by decide +kernel
theorem dL_law_1058 : decode cL_law 1058 = .ok (.iconst 0, 1) := by decide +kernel
theorem dL_law_1059 : decode cL_law 1059 = .ok (.ireturn, 1) := by decide +kernel
theorem dL_law_1060 : decode cL_law 1060 = .ok (.iinc 3 4, 3) := by decide +kernel
theorem dL_law_1063 : decode cL_law 1063 = .ok (.goto (-1045), 3) := by decide +kernel
theorem dL_law_1066 : decode cL_law 1066 = .ok (.iconst 1, 1) := by decide +kernel
theorem dL_law_1067 : decode cL_law 1067 = .ok (.ireturn, 1) := by decide +kernel
end
section
abbrev Sg : Type := Nat → Nat → Int32
abbrev Ev : Type := va_G × (Nat → Nat) × (Nat → Nat)
abbrev Yv : Type := MethodName × ByteArray × Nat × Option FieldType × Nat × Nat
abbrev Xv : Type := Program × Launch × Env × State × MethodId × Array Value × List Frame × Method × Code
abbrev Pv : Type := Option Value × Sg
/-- one row of the store anew -/
def sgr (σ : Sg) (q : Nat) (f : Nat → Int32) : Sg := fun a => if a = q then f else σ a
/-- one number of the store anew -/
def sgs (σ : Sg) (q k : Nat) (v : Int32) : Sg := sgr σ q (upd (σ q) k v)
def jrem (x y : Int32) : Int32 := x - x / y * y
def kdL : List (Nat × Nat) := [(0, 0), (1, 0), (2, 0), (8, 24), (8, 6), (3, 0), (8, 4), (3, 0), (8, 4), (3, 0), (8, 4), (3, 0), (8, 5), (3, 0), (8, 6), (3, 0), (8, 6), (1, 0), (2, 0), (8, 24), (8, 6), (3, 0), (8, 4), (3, 0), (8, 4), (3, 0), (8, 4), (3, 0), (8, 5), (3, 0), (8, 6), (3, 0), (8, 6), (4, 0), (3, 0), (8, 64), (1, 0), (2, 0), (8, 24), (8, 6), (3, 0), (8, 4), (3, 0), (8, 4), (3, 0), (8, 4), (3, 0), (8, 5), (3, 0), (8, 6), (3, 0), (8, 6), (8, 5), (5, 0), (2, 0), (8, 24), (8, 6), (2, 0), (8, 24), (8, 6), (3, 0), (8, 5), (3, 0), (8, 5), (9, 5), (6, 9), (6, 0), (6, 2), (6, 7), (6, 5), (3, 0), (8, 8), (8, 7), (7, 0), (8, 7), (8, 24), (8, 6), (8, 4), (8, 4), (8, 4), (8, 5), (8, 6), (8, 6), (8, 64), (8, 32), (8, 32), (8, 32), (8, 32), (8, 32), (8, 32), (8, 32), (8, 300), (8, 120), (8, 5), (8, 5), (8, 8)]
def kd (q : Nat) : Nat × Nat := kdL.getD q (99, 0)
abbrev vwC : List vw_C := [(RX1, TX1, 1), (RX2, TX2, 5), (RX3, TX3, 1), (RX4, TX4, 2), (RX5, TX5, 3), (RX6, TX6, 1), (RX7, TX7, 4), (RX8, TX8, 1), (RX9, TX9, 11), (RX10, TX10, 1), (RX11, TX11, 8), (RX12, TX12, 39)]
abbrev fs_0 (E : Ev) (σ : Sg) (q : Nat) : List Value := [.ref (E.2.1 1), .ref (E.2.1 17), .ref (E.2.1 33), .ref (E.2.1 53), .ref (E.2.1 64), .ref (E.2.1 70), .ref (E.2.1 72), .int (σ q 7)]
abbrev fs_1 (E : Ev) (σ : Sg) (q : Nat) : List Value := [.ref (E.2.1 (q + 1)), .ref (E.2.1 (q + 4)), .ref (E.2.1 (q + 6)), .ref (E.2.1 (q + 8)), .ref (E.2.1 (q + 10)), .ref (E.2.1 (q + 12)), .ref (E.2.1 (q + 14)), .int (σ q 7), .int (σ q 8), .int (σ q 9), .int (σ q 10)]
abbrev fs_2 (E : Ev) (σ : Sg) (q : Nat) : List Value := [.ref (E.2.1 (q + 1)), .ref (E.2.1 (q + 2)), .int (σ q 2)]
abbrev fs_3 (E : Ev) (σ : Sg) (q : Nat) : List Value := [.ref (E.2.1 (q + 1)), .int (σ q 1)]
abbrev fs_4 (E : Ev) (σ : Sg) (q : Nat) : List Value := [.ref (E.2.1 34), .ref (E.2.1 36), .ref (E.2.1 52), .int (σ q 3)]
abbrev fs_5 (E : Ev) (σ : Sg) (q : Nat) : List Value := [.ref (E.2.1 54), .ref (E.2.1 57), .ref (E.2.1 60), .ref (E.2.1 62), .int (σ q 4)]
abbrev fs_6 (_ : Ev) (σ : Sg) (q : Nat) : List Value := [.int (σ q 0)]
abbrev fs_7 (E : Ev) (σ : Sg) (q : Nat) : List Value := [.ref (E.2.1 74), .ref (E.2.1 75), .ref (E.2.1 76), .ref (E.2.1 77), .ref (E.2.1 78), .ref (E.2.1 79), .ref (E.2.1 80), .ref (E.2.1 81), .ref (E.2.1 82), .int (σ q 9), .int (σ q 10), .int (σ q 11), .int (σ q 12), .int (σ q 13), .int (σ q 14), .int (σ q 15), .int (σ q 16), .ref (E.2.1 83), .ref (E.2.1 84), .ref (E.2.1 85), .ref (E.2.1 86), .ref (E.2.1 87), .ref (E.2.1 88), .ref (E.2.1 89), .ref (E.2.1 90), .int (σ q 25), .int (σ q 26), .int (σ q 27), .ref (E.2.1 91), .ref (E.2.1 92), .int (σ q 30), .int (σ q 31), .int (σ q 32), .int (σ q 33), .ref (E.2.1 93), .ref (E.2.1 94), .int (σ q 36), .ref (E.2.1 95), .int (σ q 38)]
def lawsAt (E : Ev) (j : Nat) : Option Nat := if j < 5 then some (E.2.1 (65 + j)) else none
def wc (E : Ev) (σ : Sg) (q : Nat) : va_E := match (kd q).1 with
  | 0 => .inr (10, fs_0 E σ q)
  | 1 => .inr (8, fs_1 E σ q)
  | 2 => .inr (4, fs_2 E σ q)
  | 3 => .inr (3, fs_3 E σ q)
  | 4 => .inr (6, fs_4 E σ q)
  | 5 => .inr (1, fs_5 E σ q)
  | 6 => .inr ((kd q).2, fs_6 E σ q)
  | 7 => .inr (11, fs_7 E σ q)
  | 8 => .inl (E.2.2 0, (kd q).2, .inl (σ q))
  | _ => .inl (E.2.2 1, (kd q).2, .inr (.inr (.inr (.inr (lawsAt E)))))
def wl (E : Ev) (σ : Sg) : va_W := (List.range 96).map (fun q => (E.2.1 q, wc E σ q))
theorem wl_get (E : Ev) (σ : Sg) {q : Nat} (h : q < 96) : (wl E σ)[q]? = some (E.2.1 q, wc E σ q) := by
  simp [wl, List.getElem?_map, List.getElem?_range h]
theorem wl_inv {E : Ev} {σ : Sg} {k : Nat} {x : Nat × va_E} (h : (wl E σ)[k]? = some x) : k < 96 ∧ x = (E.2.1 k, wc E σ k) := by
  have hk : k < 96 := by
    have := (List.getElem?_eq_some_iff.mp h).1
    simpa [wl] using this
  rw [wl_get E σ hk] at h
  exact ⟨hk, (Option.some.inj h).symm⟩
theorem wc_congr {E : Ev} {σ τ : Sg} {q : Nat} (h : σ q = τ q) : wc E σ q = wc E τ q := by
  unfold wc
  simp only [fs_0, fs_1, fs_2, fs_3, fs_4, fs_5, fs_6, fs_7, h]
theorem sgr_self (σ : Sg) (q : Nat) (f : Nat → Int32) : sgr σ q f q = f := by simp [sgr]
theorem sgr_ne (σ : Sg) {q a : Nat} (f : Nat → Int32) (h : a ≠ q) : sgr σ q f a = σ a := by simp [sgr, h]
theorem wl_len (E : Ev) (σ : Sg) : (wl E σ).length = 96 := by simp [wl]
theorem wl_set {E : Ev} {σ : Sg} {q : Nat} {f : Nat → Int32} (hq : q < 96) {c : va_E} (hc : wc E (sgr σ q f) q = c) : (wl E σ).set q (E.2.1 q, c) = wl E (sgr σ q f) := by
  subst hc
  apply List.ext_getElem?
  intro i
  by_cases hi : i < 96
  · rw [wl_get _ _ hi]
    by_cases h : i = q
    · subst h
      rw [List.getElem?_set_self (by rw [wl_len]; exact hi)]
    · rw [List.getElem?_set_ne (Ne.symm h), wl_get _ _ hi, wc_congr (sgr_ne σ f h).symm]
  · rw [List.getElem?_eq_none (by simp [wl_len]; omega), List.getElem?_eq_none (by simp [wl_len]; omega)]
def Aw (E : Ev) : Nat → Prop := fun a => ∃ k, k < 96 ∧ a = E.2.1 k
def Inj (E : Ev) : Prop := ∀ i j, i < 96 → j < 96 → E.2.1 i = E.2.1 j → i = j
theorem wl_D {E : Ev} (σ : Sg) (hI : Inj E) : va_D (Aw E) (wl E σ) := by
  refine ⟨fun i j p q hi hj h => ?_, fun k q hk => ?_⟩
  · obtain ⟨h1, rfl⟩ := wl_inv hi
    obtain ⟨h2, rfl⟩ := wl_inv hj
    exact hI i j h1 h2 h
  · obtain ⟨h1, rfl⟩ := wl_inv hk
    exact ⟨k, h1, rfl⟩
/-- the words that travel -/
def WT : List Cond := lw_tbl.filter goodWord
theorem wt_of {w : Cond} (h : w ∈ lw_tbl) (hg : goodWord w = true) : w ∈ WT := List.mem_filter.mpr ⟨h, hg⟩
theorem wt_good {y : MethodName} {cc : ByteArray} {n : Nat} {r : Option FieldType} (h : Cond.code y cc n r ∈ WT) : GoodIn WT (Cond.code y cc n r :: WT) := by
  intro w hw
  have hm : w ∈ WT := by
    rcases List.mem_cons.mp hw with rfl | hw
    · exact h
    · exact hw
  exact ⟨hm, good_of_word (List.mem_filter.mp hm).2⟩
/-- the words of nest mates' members: they are carried in the start -/
def isNest : Cond → Bool
  | .fieldLinkNest _ _ _ _ _ _ => true
  | .methodLinkNest _ _ _ _ => true
  | _ => false
def NW : List Cond := tables_1.filter isNest
def twoL : List Int32 := [0, 1, 2, 10, 11, 12, 20, 21, 22, 100, 101, 102, 110, 111, 112, 120, 121, 122, 200, 201, 202, 210, 211, 212, 220, 221, 222, 1000, 1001, 1002, 1010, 1011, 1012, 1020, 1021, 1022, 1100, 1101, 1102, 1110, 1111, 1112, 1120, 1121, 1122, 1200, 1201, 1202, 1210, 1211, 1212, 1220, 1221, 1222, 2000, 2001, 2002, 2010, 2011, 2012, 2020, 2021, 2022, 2100, 2101, 2102, 2110, 2111, 2112, 2120, 2121, 2122, 2200, 2201, 2202, 2210, 2211, 2212, 2220, 2221, 2222]
def twoV (j : Nat) : Value := .int (twoL.getD j 0)
def digL : List Int32 := [1, 10, 100, 1000]
def digV (j : Nat) : Value := .int (digL.getD j 0)
def Amb (E : Ev) (U : State) : Prop := va_K E.1 vwC [(E.2.2 0, .int), (E.2.2 1, .object "ToWhoNeeds$Law")] U ∧ (∀ w ∈ NW, va_Nw w U) ∧ (va_Z "ToWhoNeeds" "TWO" "[I" (.ref (E.2.2 2)) (Aw E) U U.heap ∧ va_T .int (E.2.2 2) 81 twoV (Aw E) U U.heap) ∧ (va_Z "ToWhoNeeds" "DIGIT" "[I" (.ref (E.2.2 3)) (Aw E) U U.heap ∧ va_T .int (E.2.2 3) 4 digV (Aw E) U U.heap) ∧ Inj E ∧ (vk_R "ToWhoNeeds$Reader" 80 "pamth" (E.2.2 4) U ∧ vk_S 1 [5] [[112, 97, 109, 116, 104]] (fun _ => E.2.2 4) (fun _ => E.2.2 5) (Aw E) U U.heap) ∧ (va_Z "java/lang/String" "COMPACT_STRINGS" "Z" (.int 1) (Aw E) U U.heap ∧ va_Zq "jdk/internal/util/Preconditions" "SIOOBE_FORMATTER" "Ljava/util/function/BiFunction;" (Aw E) U U.heap)
theorem nw_moved {s U : State} (hW : s.WarmedH U.vm) (h : ∀ w ∈ NW, va_Nw w s) : ∀ w ∈ NW, va_Nw w U := by
  intro w hw
  have h1 := h w hw
  have h2 := (List.mem_filter.mp hw).2
  cases w <;> first | exact va_Nw.warmF hW h1 | exact va_Nw.warmM hW h1 | (exact absurd h2 (by simp [isNest]))
theorem Amb.mov {E : Ev} {s U : State} {H : Heap} {locs : List Loc} (h : Amb E s) (hS : va_S (Aw E) s.heap H locs) (hU : U.heap = H) (hW : s.WarmedH U.vm) : Amb E U := by
  obtain ⟨h1, h2, ⟨h3, h4⟩, ⟨h5, h6⟩, h7, ⟨h8, h9⟩, h10, h11⟩ := h
  subst hU
  have hk : ∀ a : Nat, a < s.heap.size → ¬ Aw E a → U.heap[a]? = s.heap[a]? := hS.2.1
  exact ⟨h1.moved hW.alike, nw_moved hW h2, ⟨(h3.kept hk).moved hW.alike, (h4.kept hk).moved hW.alike⟩, ⟨(h5.kept hk).moved hW.alike, (h6.kept hk).moved hW.alike⟩, h7, ⟨h8.warm hW, (h9.kept hk).moved hW.alike⟩, (h10.kept hk).moved hW.alike, (h11.kept hk).moved hW.alike⟩
def Rm (fr lo : Nat) : Room := { frames := fr, cells := 0, slots := 0, locals := lo }
def Pre (E : Ev) (av : List Value) (σ : Sg) : Array Value → State → Prop := va_Pc av (fun U => Amb E U ∧ va_P E.1 vwC (wl E σ) U.heap)
def Post (E : Ev) (P : Pv) : Array Value → State → Outcome → State → Prop := fun _ st o t => (o = .returned P.1 ∧ va_P E.1 vwC (wl E P.2) t.heap) ∧ va_F (Aw E) st t
/-- a method's contract in the one world: from the store σ it returns P.1, and the store is P.2 -/
def Ct (l : Launch) (E : Ev) (Y : Yv) (av : List Value) (σ : Sg) (P : Pv) : Prop := Met l Y.1 (Cond.code Y.1 Y.2.1 Y.2.2.1 Y.2.2.2.1 :: WT) (Rm Y.2.2.2.2.1 Y.2.2.2.2.2) (Pre E av σ) (Post E P) 0 0 (Aw E)
def Cx (E : Ev) (X : Xv) (Y : Yv) : Prop := X.1.tables.exec = Jvm.exec ∧ X.2.2.2.2.2.2.2.2.code = Y.2.1 ∧ X.2.2.2.2.2.2.2.1.sig.returnType = Y.2.2.2.1 ∧ X.2.2.2.2.2.2.2.2.maxLocals = Y.2.2.1 ∧ X.2.2.2.1.vm.findClass Y.1.cls = some X.2.2.2.2.1.cls ∧ (∀ w ∈ WT, w.before X.2.2.2.2.2.1 X.2.2.2.1 = true) ∧ X.2.2.2.2.2.2.2.1.locks = false ∧ Amb E X.2.2.2.1
def Wx (E : Ev) (X : Xv) (Y : Yv) (P : Pv) (H : Heap) (locs : List Loc) (g : JFrame) : Prop := W X.1 X.2.1 X.2.2.1 (Rm Y.2.2.2.2.1 Y.2.2.2.2.2) X.2.2.2.1 X.2.2.2.2.1 X.2.2.2.2.2.1 X.2.2.2.2.2.2.1 X.2.2.2.2.2.2.2.1 X.2.2.2.2.2.2.2.2 H locs 0 0 (MQ X.2.2.2.2.2.2.1 (Post E P) X.2.2.2.2.2.1 X.2.2.2.1 0 0 (Aw E)) g
def Zz (E : Ev) (X : Xv) (Y : Yv) (P : Pv) (σ : Sg) (pc : Nat) (lv : List (Nat × Value)) (st : List Value) : Prop := ∀ (H : Heap) (locs : List Loc) (ls : Array Slot), va_P E.1 vwC (wl E σ) H → va_S (Aw E) X.2.2.2.1.heap H locs → lv_has ls Y.2.2.1 lv → Wx E X Y P H locs (F0 X.2.2.2.2.1 pc ls st)
theorem ct_of {l : Launch} {E : Ev} {Y : Yv} {av : List Value} {σ : Sg} {P : Pv} (hy : plainName Y.1.cls = true) (hn : (lg_sl av).length ≤ Y.2.2.1) (lv : List (Nat × Value)) (hlv : lv_args 0 av = lv)
    (h : ∀ X : Xv, X.2.1 = l → Cx E X Y → Zz E X Y P σ 0 lv []) : Ct l E Y av σ P := by
  refine Met.ofW (cc := Y.2.1) (maxL := Y.2.2.1) (ret := Y.2.2.2.1) hy rfl ?_
  intro p e s m args below meth c s₁ B hml hv
  obtain ⟨rfl, hA, hP⟩ := hv
  have hts := atoms_spec (ws := Cond.code Y.1 Y.2.1 Y.2.2.1 Y.2.2.2.1 :: WT) B.pre
  have hl := lv_entry av (n := Y.2.2.1) hn
  rw [lg_entry_eq]
  rw [hlv] at hl
  exact h (p, l, e, s, m, av.toArray, below, meth, c) rfl ⟨B.exec, B.bytes, B.returns, hml, findClass_of_methodNamed B.named, fun w hw => hts w (List.mem_cons_of_mem _ hw), B.notSynchronized, hA⟩ s.heap [] _ hP va_S.rf hl

section ZROWS
variable {E : Ev} {X : Xv} {Y : Yv} {P : Pv} {σ : Sg} {pc : Nat} {lv : List (Nat × Value)} {st : List Value}
theorem z_iconst (C : Cx E X Y) {n : Int} {v : Int32} (d : decode Y.2.1 pc = .ok (.iconst n, 1)) (hv : Int32.ofInt n = v) (k : Zz E X Y P σ (pc + 1) lv (.int v :: st)) : Zz E X Y P σ pc lv st := fun H locs ls hP hS hl => lv_iconst C.1 C.2.1 d hv (k H locs ls hP hS hl)
theorem z_bipush (C : Cx E X Y) {n : Int} {v : Int32} (d : decode Y.2.1 pc = .ok (.bipush n, 2)) (hv : (Int8.ofInt n).toInt32 = v) (k : Zz E X Y P σ (pc + 2) lv (.int v :: st)) : Zz E X Y P σ pc lv st := fun H locs ls hP hS hl => lv_bipush C.1 C.2.1 d hv (k H locs ls hP hS hl)
theorem z_sipush (C : Cx E X Y) {n : Int} {v : Int32} (d : decode Y.2.1 pc = .ok (.sipush n, 3)) (hv : (Int16.ofInt n).toInt32 = v) (k : Zz E X Y P σ (pc + 3) lv (.int v :: st)) : Zz E X Y P σ pc lv st := fun H locs ls hP hS hl => lv_sipush C.1 C.2.1 d hv (k H locs ls hP hS hl)
theorem z_iload (C : Cx E X Y) {i : Nat} {x : Int32} (d : decode Y.2.1 pc = .ok (.iload i, 2)) (j : Nat) (hj : lv[j]? = some (i, .int x)) (k : Zz E X Y P σ (pc + 2) lv (.int x :: st)) : Zz E X Y P σ pc lv st := fun H locs ls hP hS hl => lv_iload C.1 C.2.1 d (lv_at hl j hj) (k H locs ls hP hS hl)
theorem z_iload_n (C : Cx E X Y) {i : Fin 4} {x : Int32} (d : decode Y.2.1 pc = .ok (.iload_n i, 1)) (j : Nat) (hj : lv[j]? = some (i.1, .int x)) (k : Zz E X Y P σ (pc + 1) lv (.int x :: st)) : Zz E X Y P σ pc lv st := fun H locs ls hP hS hl => lv_iload_n C.1 C.2.1 d rfl (lv_at hl j hj) (k H locs ls hP hS hl)
theorem z_aload (C : Cx E X Y) {i : Nat} {x : Nat} (d : decode Y.2.1 pc = .ok (.aload i, 2)) (j : Nat) (hj : lv[j]? = some (i, .ref x)) (k : Zz E X Y P σ (pc + 2) lv (.ref x :: st)) : Zz E X Y P σ pc lv st := fun H locs ls hP hS hl => lv_aload C.1 C.2.1 d (lv_at hl j hj) (k H locs ls hP hS hl)
theorem z_aload_n (C : Cx E X Y) {i : Fin 4} {x : Nat} (d : decode Y.2.1 pc = .ok (.aload_n i, 1)) (j : Nat) (hj : lv[j]? = some (i.1, .ref x)) (k : Zz E X Y P σ (pc + 1) lv (.ref x :: st)) : Zz E X Y P σ pc lv st := fun H locs ls hP hS hl => lv_aload_n C.1 C.2.1 d rfl (lv_at hl j hj) (k H locs ls hP hS hl)
abbrev lvs (lv : List (Nat × Value)) (i : Nat) (v : Value) : List (Nat × Value) := (i, v) :: lv.filter (fun q => !(q.1 == i) && !(q.1 + 1 == i && q.2.category == 2))
theorem z_istore (C : Cx E X Y) {i : Nat} {x : Int32} {lv' : List (Nat × Value)} (d : decode Y.2.1 pc = .ok (.istore i, 2)) (hn : i < Y.2.2.1) (hl' : lvs lv i (.int x) = lv') (k : Zz E X Y P σ (pc + 2) lv' st) : Zz E X Y P σ pc lv (.int x :: st) := fun H locs _ hP hS hl => lv_istore C.1 C.2.1 d hl hn hl' (fun ls hl => k H locs ls hP hS hl)
theorem z_istore_n (C : Cx E X Y) {i : Fin 4} {x : Int32} {lv' : List (Nat × Value)} (d : decode Y.2.1 pc = .ok (.istore_n i, 1)) (hn : i.1 < Y.2.2.1) (hl' : lvs lv i.1 (.int x) = lv') (k : Zz E X Y P σ (pc + 1) lv' st) : Zz E X Y P σ pc lv (.int x :: st) := fun H locs _ hP hS hl => lv_istore_n C.1 C.2.1 d rfl hl hn hl' (fun ls hl => k H locs ls hP hS hl)
theorem z_astore_n (C : Cx E X Y) {i : Fin 4} {x : Nat} {lv' : List (Nat × Value)} (d : decode Y.2.1 pc = .ok (.astore_n i, 1)) (hn : i.1 < Y.2.2.1) (hl' : lvs lv i.1 (.ref x) = lv') (k : Zz E X Y P σ (pc + 1) lv' st) : Zz E X Y P σ pc lv (.ref x :: st) := fun H locs _ hP hS hl => lv_astore_n C.1 C.2.1 d rfl hl hn hl' (fun ls hl => k H locs ls hP hS hl)
theorem z_iinc (C : Cx E X Y) {i : Nat} {n : Int} {x v : Int32} {lv' : List (Nat × Value)} (d : decode Y.2.1 pc = .ok (.iinc i n, 3)) (j : Nat) (hj : lv[j]? = some (i, .int x)) (hv : x + Int32.ofInt n = v) (hn : i < Y.2.2.1) (hl' : lvs lv i (.int v) = lv') (k : Zz E X Y P σ (pc + 3) lv' st) : Zz E X Y P σ pc lv st := fun H locs _ hP hS hl => lv_iinc C.1 C.2.1 d hl hj hv hn hl' (fun ls hl => k H locs ls hP hS hl)
theorem z_iadd (C : Cx E X Y) {x y : Int32} (d : decode Y.2.1 pc = .ok (.iadd, 1)) (k : Zz E X Y P σ (pc + 1) lv (.int (x + y) :: st)) : Zz E X Y P σ pc lv (.int y :: .int x :: st) := fun H locs ls hP hS hl => lv_iadd C.1 C.2.1 d (k H locs ls hP hS hl)
theorem z_isub (C : Cx E X Y) {x y : Int32} (d : decode Y.2.1 pc = .ok (.isub, 1)) (k : Zz E X Y P σ (pc + 1) lv (.int (x - y) :: st)) : Zz E X Y P σ pc lv (.int y :: .int x :: st) := fun H locs ls hP hS hl => lv_isub C.1 C.2.1 d (k H locs ls hP hS hl)
theorem z_imul (C : Cx E X Y) {x y : Int32} (d : decode Y.2.1 pc = .ok (.imul, 1)) (k : Zz E X Y P σ (pc + 1) lv (.int (x * y) :: st)) : Zz E X Y P σ pc lv (.int y :: .int x :: st) := fun H locs ls hP hS hl => lv_imul C.1 C.2.1 d (k H locs ls hP hS hl)
theorem z_iand (C : Cx E X Y) {x y : Int32} (d : decode Y.2.1 pc = .ok (.iand, 1)) (k : Zz E X Y P σ (pc + 1) lv (.int (x &&& y) :: st)) : Zz E X Y P σ pc lv (.int y :: .int x :: st) := fun H locs ls hP hS hl => lv_iand C.1 C.2.1 d (k H locs ls hP hS hl)
theorem z_ior (C : Cx E X Y) {x y : Int32} (d : decode Y.2.1 pc = .ok (.ior, 1)) (k : Zz E X Y P σ (pc + 1) lv (.int (x ||| y) :: st)) : Zz E X Y P σ pc lv (.int y :: .int x :: st) := fun H locs ls hP hS hl => lv_ior C.1 C.2.1 d (k H locs ls hP hS hl)
theorem z_ishl (C : Cx E X Y) {x y : Int32} (d : decode Y.2.1 pc = .ok (.ishl, 1)) (k : Zz E X Y P σ (pc + 1) lv (.int (x <<< (y &&& 31)) :: st)) : Zz E X Y P σ pc lv (.int y :: .int x :: st) := fun H locs ls hP hS hl => lv_ishl C.1 C.2.1 d (k H locs ls hP hS hl)
theorem z_ishr (C : Cx E X Y) {x y : Int32} (d : decode Y.2.1 pc = .ok (.ishr, 1)) (k : Zz E X Y P σ (pc + 1) lv (.int (x >>> (y &&& 31)) :: st)) : Zz E X Y P σ pc lv (.int y :: .int x :: st) := fun H locs ls hP hS hl => lv_ishr C.1 C.2.1 d (k H locs ls hP hS hl)
theorem z_idiv (C : Cx E X Y) {x y : Int32} (d : decode Y.2.1 pc = .ok (.idiv, 1)) (hne : ¬ y = 0) (k : Zz E X Y P σ (pc + 1) lv (.int (x / y) :: st)) : Zz E X Y P σ pc lv (.int y :: .int x :: st) := fun H locs ls hP hS hl => lv_idiv C.1 C.2.1 d hne (k H locs ls hP hS hl)
theorem z_irem (C : Cx E X Y) {x y : Int32} (d : decode Y.2.1 pc = .ok (.irem, 1)) (hne : ¬ y = 0) (k : Zz E X Y P σ (pc + 1) lv (.int (jrem x y) :: st)) : Zz E X Y P σ pc lv (.int y :: .int x :: st) := fun H locs ls hP hS hl => lv_irem C.1 C.2.1 d hne (k H locs ls hP hS hl)
theorem z_ineg (C : Cx E X Y) {x : Int32} (d : decode Y.2.1 pc = .ok (.ineg, 1)) (k : Zz E X Y P σ (pc + 1) lv (.int (-x) :: st)) : Zz E X Y P σ pc lv (.int x :: st) := fun H locs ls hP hS hl => lv_ineg C.1 C.2.1 d (k H locs ls hP hS hl)
theorem z_dup (C : Cx E X Y) {v : Value} (d : decode Y.2.1 pc = .ok (.dup, 1)) (hv : v.category = 1) (k : Zz E X Y P σ (pc + 1) lv (v :: v :: st)) : Zz E X Y P σ pc lv (v :: st) := fun H locs ls hP hS hl => lv_dup C.1 C.2.1 d hv (k H locs ls hP hS hl)
theorem z_dup2 (C : Cx E X Y) {v u : Value} (d : decode Y.2.1 pc = .ok (.dup2, 1)) (hv : v.category = 1) (hu : u.category = 1) (k : Zz E X Y P σ (pc + 1) lv (v :: u :: v :: u :: st)) : Zz E X Y P σ pc lv (v :: u :: st) := fun H locs ls hP hS hl => lv_dup2_11 C.1 C.2.1 d hv hu (k H locs ls hP hS hl)
theorem z_pop (C : Cx E X Y) {v : Value} (d : decode Y.2.1 pc = .ok (.pop, 1)) (hv : v.category = 1) (k : Zz E X Y P σ (pc + 1) lv st) : Zz E X Y P σ pc lv (v :: st) := fun H locs ls hP hS hl => lv_pop C.1 C.2.1 d hv (k H locs ls hP hS hl)
theorem z_goto (C : Cx E X Y) {off : Int} {tgt : Nat} (d : decode Y.2.1 pc = .ok (.goto off, 3)) (ht : (pc : Int) + off = (tgt : Int)) (k : Zz E X Y P σ tgt lv st) : Zz E X Y P σ pc lv st := fun H locs ls hP hS hl => lv_goto C.1 C.2.1 d ht (k H locs ls hP hS hl)
theorem z_sub (lv' : List (Nat × Value)) (ks : List Nat) (h : lv_pick lv ks = lv') (k : Zz E X Y P σ pc lv' st) : Zz E X Y P σ pc lv st := fun H locs ls hP hS hl => k H locs ls hP hS (lv_sub hl ks h)
theorem z_ldc (C : Cx E X Y) {i : Nat} {v : Int32} (d : decode Y.2.1 pc = .ok (.ldc i, 2)) (hw : Cond.constant Y.1.cls i v ∈ WT) (k : Zz E X Y P σ (pc + 2) lv (.int v :: st)) : Zz E X Y P σ pc lv st := fun H locs ls hP hS hl => lv_ldc C.1 C.2.1 C.2.2.2.2.1 (C.2.2.2.2.2.1 _ hw) d (k H locs ls hP hS hl)
theorem z_ldcw (C : Cx E X Y) {i : Nat} {v : Int32} (d : decode Y.2.1 pc = .ok (.ldc_w i, 3)) (hw : Cond.constant Y.1.cls i v ∈ WT) (k : Zz E X Y P σ (pc + 3) lv (.int v :: st)) : Zz E X Y P σ pc lv st := fun H locs ls hP hS hl => lv_ldcw C.1 C.2.1 C.2.2.2.2.1 (C.2.2.2.2.2.1 _ hw) d (k H locs ls hP hS hl)
theorem z_if_eq (C : Cx E X Y) {x : Int32} {off : Int} {tgt : Nat} (d : decode Y.2.1 pc = .ok (.ifCond .eq off, 3)) (ht : (pc : Int) + off = (tgt : Int)) (kt : x = 0 → Zz E X Y P σ tgt lv st) (kf : ¬ x = 0 → Zz E X Y P σ (pc + 3) lv st) : Zz E X Y P σ pc lv (.int x :: st) := fun H locs ls hP hS hl => lv_if_eq C.1 C.2.1 d ht (fun h => kt h H locs ls hP hS hl) (fun h => kf h H locs ls hP hS hl)
theorem z_icmp_eq (C : Cx E X Y) {x y : Int32} {off : Int} {tgt : Nat} (d : decode Y.2.1 pc = .ok (.if_icmp .eq off, 3)) (ht : (pc : Int) + off = (tgt : Int)) (kt : x = y → Zz E X Y P σ tgt lv st) (kf : ¬ x = y → Zz E X Y P σ (pc + 3) lv st) : Zz E X Y P σ pc lv (.int y :: .int x :: st) := fun H locs ls hP hS hl => lv_icmp_eq C.1 C.2.1 d ht (fun h => kt h H locs ls hP hS hl) (fun h => kf h H locs ls hP hS hl)
theorem z_if_ne (C : Cx E X Y) {x : Int32} {off : Int} {tgt : Nat} (d : decode Y.2.1 pc = .ok (.ifCond .ne off, 3)) (ht : (pc : Int) + off = (tgt : Int)) (kt : ¬ x = 0 → Zz E X Y P σ tgt lv st) (kf : x = 0 → Zz E X Y P σ (pc + 3) lv st) : Zz E X Y P σ pc lv (.int x :: st) := fun H locs ls hP hS hl => lv_if_ne C.1 C.2.1 d ht (fun h => kt h H locs ls hP hS hl) (fun h => kf h H locs ls hP hS hl)
theorem z_icmp_ne (C : Cx E X Y) {x y : Int32} {off : Int} {tgt : Nat} (d : decode Y.2.1 pc = .ok (.if_icmp .ne off, 3)) (ht : (pc : Int) + off = (tgt : Int)) (kt : ¬ x = y → Zz E X Y P σ tgt lv st) (kf : x = y → Zz E X Y P σ (pc + 3) lv st) : Zz E X Y P σ pc lv (.int y :: .int x :: st) := fun H locs ls hP hS hl => lv_icmp_ne C.1 C.2.1 d ht (fun h => kt h H locs ls hP hS hl) (fun h => kf h H locs ls hP hS hl)
theorem z_if_lt (C : Cx E X Y) {x : Int32} {off : Int} {tgt : Nat} (d : decode Y.2.1 pc = .ok (.ifCond .lt off, 3)) (ht : (pc : Int) + off = (tgt : Int)) (kt : x < 0 → Zz E X Y P σ tgt lv st) (kf : ¬ x < 0 → Zz E X Y P σ (pc + 3) lv st) : Zz E X Y P σ pc lv (.int x :: st) := fun H locs ls hP hS hl => lv_if_lt C.1 C.2.1 d ht (fun h => kt h H locs ls hP hS hl) (fun h => kf h H locs ls hP hS hl)
theorem z_icmp_lt (C : Cx E X Y) {x y : Int32} {off : Int} {tgt : Nat} (d : decode Y.2.1 pc = .ok (.if_icmp .lt off, 3)) (ht : (pc : Int) + off = (tgt : Int)) (kt : x < y → Zz E X Y P σ tgt lv st) (kf : ¬ x < y → Zz E X Y P σ (pc + 3) lv st) : Zz E X Y P σ pc lv (.int y :: .int x :: st) := fun H locs ls hP hS hl => lv_icmp_lt C.1 C.2.1 d ht (fun h => kt h H locs ls hP hS hl) (fun h => kf h H locs ls hP hS hl)
theorem z_if_ge (C : Cx E X Y) {x : Int32} {off : Int} {tgt : Nat} (d : decode Y.2.1 pc = .ok (.ifCond .ge off, 3)) (ht : (pc : Int) + off = (tgt : Int)) (kt : 0 ≤ x → Zz E X Y P σ tgt lv st) (kf : ¬ 0 ≤ x → Zz E X Y P σ (pc + 3) lv st) : Zz E X Y P σ pc lv (.int x :: st) := fun H locs ls hP hS hl => lv_if_ge C.1 C.2.1 d ht (fun h => kt h H locs ls hP hS hl) (fun h => kf h H locs ls hP hS hl)
theorem z_icmp_ge (C : Cx E X Y) {x y : Int32} {off : Int} {tgt : Nat} (d : decode Y.2.1 pc = .ok (.if_icmp .ge off, 3)) (ht : (pc : Int) + off = (tgt : Int)) (kt : y ≤ x → Zz E X Y P σ tgt lv st) (kf : ¬ y ≤ x → Zz E X Y P σ (pc + 3) lv st) : Zz E X Y P σ pc lv (.int y :: .int x :: st) := fun H locs ls hP hS hl => lv_icmp_ge C.1 C.2.1 d ht (fun h => kt h H locs ls hP hS hl) (fun h => kf h H locs ls hP hS hl)
theorem z_if_gt (C : Cx E X Y) {x : Int32} {off : Int} {tgt : Nat} (d : decode Y.2.1 pc = .ok (.ifCond .gt off, 3)) (ht : (pc : Int) + off = (tgt : Int)) (kt : 0 < x → Zz E X Y P σ tgt lv st) (kf : ¬ 0 < x → Zz E X Y P σ (pc + 3) lv st) : Zz E X Y P σ pc lv (.int x :: st) := fun H locs ls hP hS hl => lv_if_gt C.1 C.2.1 d ht (fun h => kt h H locs ls hP hS hl) (fun h => kf h H locs ls hP hS hl)
theorem z_icmp_gt (C : Cx E X Y) {x y : Int32} {off : Int} {tgt : Nat} (d : decode Y.2.1 pc = .ok (.if_icmp .gt off, 3)) (ht : (pc : Int) + off = (tgt : Int)) (kt : y < x → Zz E X Y P σ tgt lv st) (kf : ¬ y < x → Zz E X Y P σ (pc + 3) lv st) : Zz E X Y P σ pc lv (.int y :: .int x :: st) := fun H locs ls hP hS hl => lv_icmp_gt C.1 C.2.1 d ht (fun h => kt h H locs ls hP hS hl) (fun h => kf h H locs ls hP hS hl)
theorem z_if_le (C : Cx E X Y) {x : Int32} {off : Int} {tgt : Nat} (d : decode Y.2.1 pc = .ok (.ifCond .le off, 3)) (ht : (pc : Int) + off = (tgt : Int)) (kt : x ≤ 0 → Zz E X Y P σ tgt lv st) (kf : ¬ x ≤ 0 → Zz E X Y P σ (pc + 3) lv st) : Zz E X Y P σ pc lv (.int x :: st) := fun H locs ls hP hS hl => lv_if_le C.1 C.2.1 d ht (fun h => kt h H locs ls hP hS hl) (fun h => kf h H locs ls hP hS hl)
theorem z_icmp_le (C : Cx E X Y) {x y : Int32} {off : Int} {tgt : Nat} (d : decode Y.2.1 pc = .ok (.if_icmp .le off, 3)) (ht : (pc : Int) + off = (tgt : Int)) (kt : x ≤ y → Zz E X Y P σ tgt lv st) (kf : ¬ x ≤ y → Zz E X Y P σ (pc + 3) lv st) : Zz E X Y P σ pc lv (.int y :: .int x :: st) := fun H locs ls hP hS hl => lv_icmp_le C.1 C.2.1 d ht (fun h => kt h H locs ls hP hS hl) (fun h => kf h H locs ls hP hS hl)
theorem z_iret (C : Cx E X Y) {v : Int32} (d : decode Y.2.1 pc = .ok (.ireturn, 1)) (hr : Y.2.2.2.1 = some .int) (hp : P = (some (.int v), σ)) : Zz E X Y P σ pc lv [.int v] := by
  subst hp
  intro H locs ls hP hS hl
  exact W.iret C.1 C.2.1 (C.2.2.1.trans hr) (fun t ht _ => ⟨⟨rfl, by rw [ht]; exact hP⟩, hS.F ht⟩) hS.2.2 d C.2.2.2.2.2.2.1
theorem z_zret (C : Cx E X Y) {v : Int32} {ty : FieldType} (d : decode Y.2.1 pc = .ok (.ireturn, 1)) (hr : Y.2.2.2.1 = some ty) (hn : narrow ty (.int v) = .int v) (hp : P = (some (.int v), σ)) : Zz E X Y P σ pc lv [.int v] := by
  subst hp
  intro H locs ls hP hS hl
  exact W.zret C.1 C.2.1 (C.2.2.1.trans hr) hn (fun t ht _ => ⟨⟨rfl, by rw [ht]; exact hP⟩, hS.F ht⟩) hS.2.2 d C.2.2.2.2.2.2.1
theorem z_vret (C : Cx E X Y) (d : decode Y.2.1 pc = .ok (.return_, 1)) (hr : Y.2.2.2.1 = none) (hp : P = (none, σ)) : Zz E X Y P σ pc lv [] := by
  subst hp
  intro H locs ls hP hS hl
  exact W.vret C.1 C.2.1 (C.2.2.1.trans hr) (fun t ht _ => ⟨⟨rfl, by rw [ht]; exact hP⟩, hS.F ht⟩) hS.2.2 d C.2.2.2.2.2.2.1
theorem z_aret (C : Cx E X Y) {a : Nat} {n : String} (d : decode Y.2.1 pc = .ok (.areturn, 1)) (hr : Y.2.2.2.1 = some (.object n)) (hp : P = (some (.ref a), σ)) : Zz E X Y P σ pc lv [.ref a] := by
  subst hp
  intro H locs ls hP hS hl
  exact W.aret C.1 C.2.1 (C.2.2.1.trans hr) (Or.inl ⟨n, rfl⟩) (Or.inr ⟨a, rfl⟩) (fun t ht _ => ⟨⟨rfl, by rw [ht]; exact hP⟩, hS.F ht⟩) hS.2.2 d C.2.2.2.2.2.2.1
/-- a field of an object at a place, by the class's own link -/
theorem z_get (C : Cx E X Y) {ref CC : String} {T : u_T} {N ci i q : Nat} {fs : List Value} (hq : q < 96) (he : wc E σ q = .inr (ci, fs)) (hc : vwC[ci]? = some (CC, T, N)) (hin : ∀ w ∈ u_ws CC T N, w ∈ WT) (n : Nat) (hk : n < N) (hw : Cond.fieldLink Y.1.cls i (T n).1 (T n).2.1 (T n).2.2.1 ∈ WT) {v : Value} (hv : fs[n]? = some v) (d : decode Y.2.1 pc = .ok (.getfield i, 3)) (k : Zz E X Y P σ (pc + 3) lv (v :: st)) : Zz E X Y P σ pc lv (.ref (E.2.1 q) :: st) := fun H locs ls hP hS hl => va_get C.1 C.2.1 C.2.2.2.2.2.1 hin C.2.2.2.2.1 C.2.2.2.2.2.2.2.1 hP q (by rw [wl_get E σ hq, he]) hc n hk (C.2.2.2.2.2.1 _ hw) (fun _ h => h) hv d (k H locs ls hP hS hl)
theorem z_getN (C : Cx E X Y) {host CC : String} {T : u_T} {N ci i q : Nat} {fs : List Value} (hq : q < 96) (he : wc E σ q = .inr (ci, fs)) (hc : vwC[ci]? = some (CC, T, N)) (hin : ∀ w ∈ u_ws CC T N, w ∈ WT) (n : Nat) (hk : n < N) (hw : Cond.fieldLinkNest Y.1.cls i (T n).1 (T n).2.1 (T n).2.2.1 host ∈ NW) {v : Value} (hv : fs[n]? = some v) (d : decode Y.2.1 pc = .ok (.getfield i, 3)) (k : Zz E X Y P σ (pc + 3) lv (v :: st)) : Zz E X Y P σ pc lv (.ref (E.2.1 q) :: st) := fun H locs ls hP hS hl => va_getN C.1 C.2.1 C.2.2.2.2.2.1 hin C.2.2.2.2.1 C.2.2.2.2.2.2.2.1 hP q (by rw [wl_get E σ hq, he]) hc n hk (va_Nw.use rfl (C.2.2.2.2.2.2.2.2.1 _ hw)) (fun _ h => h) hv d (k H locs ls hP hS hl)
theorem z_put (C : Cx E X Y) {CC : String} {T : u_T} {N ci i q : Nat} {fs : List Value} {ty : FieldType} (ty0 : Nat → FieldType) (hty : ∀ k, k < N → parseFieldDescriptor (T k).2.2.1 = some (ty0 k)) (hnm : ∀ a, a < N → ∀ b, b < N → a ≠ b → (T a).2.1 ≠ (T b).2.1) (hq : q < 96) (he : wc E σ q = .inr (ci, fs)) (hc : vwC[ci]? = some (CC, T, N)) (hin : ∀ w ∈ u_ws CC T N, w ∈ WT) (n : Nat) (hk : n < N) (hw : Cond.fieldLink Y.1.cls i (T n).1 (T n).2.1 (T n).2.2.1 ∈ WT) (hfin : (T n).2.2.2 = false) {x : Int32} (hd : parseFieldDescriptor (T n).2.2.1 = some ty) (hna : narrow ty (.int x) = .int x) (hfit : fits ty (.int x) = true) (hl : n < fs.length) (he' : wc E (sgs σ q n x) q = .inr (ci, fs.set n (.int x))) (d : decode Y.2.1 pc = .ok (.putfield i, 3)) (k : Zz E X Y P (sgs σ q n x) (pc + 3) lv st) : Zz E X Y P σ pc lv (.int x :: .ref (E.2.1 q) :: st) := fun H locs ls hP hS hl' => va_put C.1 C.2.1 C.2.2.2.2.2.1 hin ty0 hty hnm C.2.2.2.2.1 C.2.2.2.2.2.2.2.1 hP (wl_D σ C.2.2.2.2.2.2.2.2.2.2.2.1) hS q (by rw [wl_get E σ hq, he]) hc n hk (C.2.2.2.2.2.1 _ hw) (fun _ h => h) hfin hd hna hfit hl d (fun H1 locs1 hP1 _ hS1 => k H1 locs1 ls (by rw [wl_set hq he'] at hP1; exact hP1) hS1 hl')
theorem z_putN (C : Cx E X Y) {host CC : String} {T : u_T} {N ci i q : Nat} {fs : List Value} {ty : FieldType} (ty0 : Nat → FieldType) (hty : ∀ k, k < N → parseFieldDescriptor (T k).2.2.1 = some (ty0 k)) (hnm : ∀ a, a < N → ∀ b, b < N → a ≠ b → (T a).2.1 ≠ (T b).2.1) (hq : q < 96) (he : wc E σ q = .inr (ci, fs)) (hc : vwC[ci]? = some (CC, T, N)) (hin : ∀ w ∈ u_ws CC T N, w ∈ WT) (n : Nat) (hk : n < N) (hw : Cond.fieldLinkNest Y.1.cls i (T n).1 (T n).2.1 (T n).2.2.1 host ∈ NW) (hfin : (T n).2.2.2 = false) {x : Int32} (hd : parseFieldDescriptor (T n).2.2.1 = some ty) (hna : narrow ty (.int x) = .int x) (hfit : fits ty (.int x) = true) (hl : n < fs.length) (he' : wc E (sgs σ q n x) q = .inr (ci, fs.set n (.int x))) (d : decode Y.2.1 pc = .ok (.putfield i, 3)) (k : Zz E X Y P (sgs σ q n x) (pc + 3) lv st) : Zz E X Y P σ pc lv (.int x :: .ref (E.2.1 q) :: st) := fun H locs ls hP hS hl' => va_putN C.1 C.2.1 C.2.2.2.2.2.1 hin ty0 hty hnm C.2.2.2.2.1 C.2.2.2.2.2.2.2.1 hP (wl_D σ C.2.2.2.2.2.2.2.2.2.2.2.1) hS q (by rw [wl_get E σ hq, he]) hc n hk (va_Nw.use rfl (C.2.2.2.2.2.2.2.2.1 _ hw)) (fun _ h => h) hfin hd hna hfit hl d (fun H1 locs1 hP1 _ hS1 => k H1 locs1 ls (by rw [wl_set hq he'] at hP1; exact hP1) hS1 hl')
theorem wc_arr {q n : Nat} (h : kd q = (8, n)) : wc E σ q = .inl (E.2.2 0, n, .inl (σ q)) := by
  unfold wc
  rw [h]
  rfl
theorem kd_lt {q : Nat} (h : (kd q).1 ≠ 99) : q < 96 := by
  by_cases hq : q < 96
  · exact hq
  · exfalso
    apply h
    unfold kd
    rw [List.getD_eq_getElem?_getD, List.getElem?_eq_none (by show kdL.length ≤ q; have : kdL.length = 96 := rfl; omega)]
    rfl
theorem kd_lt8 {q n : Nat} (h : kd q = (8, n)) : q < 96 := kd_lt (by rw [h]; simp)
theorem z_iald (C : Cx E X Y) {q n : Nat} {i : Int32} (hq : kd q = (8, n)) (hin : vp_in i n) (d : decode Y.2.1 pc = .ok (.iaload, 1)) (k : Zz E X Y P σ (pc + 1) lv (.int (σ q i.toNatClampNeg) :: st)) : Zz E X Y P σ pc lv (.int i :: .ref (E.2.1 q) :: st) := fun H locs ls hP hS hl => va_iald C.1 C.2.1 C.2.2.2.2.2.2.2.1 hP q 0 (by rw [wl_get E σ (kd_lt8 hq), wc_arr hq]) rfl hin d (k H locs ls hP hS hl)
theorem z_iast (C : Cx E X Y) {q n : Nat} {i x : Int32} (hq : kd q = (8, n)) (hin : vp_in i n) (d : decode Y.2.1 pc = .ok (.iastore, 1)) (k : Zz E X Y P (sgs σ q i.toNatClampNeg x) (pc + 1) lv st) : Zz E X Y P σ pc lv (.int x :: .int i :: .ref (E.2.1 q) :: st) := fun H locs ls hP hS hl => va_iast C.1 C.2.1 C.2.2.2.2.2.2.2.1 hP (wl_D σ C.2.2.2.2.2.2.2.2.2.2.2.1) hS q 0 (by rw [wl_get E σ (kd_lt8 hq), wc_arr hq]) rfl hin d (fun H1 locs1 hP1 _ hS1 => k H1 locs1 ls (by rw [wl_set (kd_lt8 hq) (by rw [wc_arr hq, sgr_self])] at hP1; exact hP1) hS1 hl)
theorem z_alen (C : Cx E X Y) {q n : Nat} {v : Int32} (hq : kd q = (8, n)) (hv : Int32.ofNat n = v) (d : decode Y.2.1 pc = .ok (.arraylength, 1)) (k : Zz E X Y P σ (pc + 1) lv (.int v :: st)) : Zz E X Y P σ pc lv (.ref (E.2.1 q) :: st) := fun H locs ls hP hS hl => va_alen C.1 C.2.1 C.2.2.2.2.2.2.2.1 hP q 0 (by rw [wl_get E σ (kd_lt8 hq), wc_arr hq]) rfl hv d (k H locs ls hP hS hl)
theorem z_alenq (C : Cx E X Y) {v : Int32} (hv : Int32.ofNat 5 = v) (d : decode Y.2.1 pc = .ok (.arraylength, 1)) (k : Zz E X Y P σ (pc + 1) lv (.int v :: st)) : Zz E X Y P σ pc lv (.ref (E.2.1 64) :: st) := fun H locs ls hP hS hl => va_alen C.1 C.2.1 C.2.2.2.2.2.2.2.1 hP 64 1 (wl_get E σ (q := 64) (by decide)) rfl hv d (k H locs ls hP hS hl)
theorem vp_nat {i : Int32} {n : Nat} (h : vp_in i n) : i.toNatClampNeg < n := Nat.not_le.mp fun q => h (Or.inr q)
theorem z_aldq (C : Cx E X Y) {i : Int32} (hin : vp_in i 5) (d : decode Y.2.1 pc = .ok (.aaload, 1)) (k : Zz E X Y P σ (pc + 1) lv (.ref (E.2.1 (65 + i.toNatClampNeg)) :: st)) : Zz E X Y P σ pc lv (.int i :: .ref (E.2.1 64) :: st) := fun H locs ls hP hS hl => va_aldq C.1 C.2.1 C.2.2.2.2.2.2.2.1 hP 64 1 (wl_get E σ (q := 64) (by decide)) rfl hin d (by have h := k H locs ls hP hS hl; rw [lawsAt, if_pos (vp_nat hin)]; exact h)
theorem z_copy (C : Cx E X Y) {i q0 q1 n0 n1 : Nat} {n : Int32} (hw1 : Cond.methodLink Y.1.cls i arraycopyName ∈ WT) (h0 : kd q0 = (8, n0)) (h1 : kd q1 = (8, n1)) (h3 : ¬ n < 0) (h4 : n.toNatClampNeg ≤ n0) (h5 : n.toNatClampNeg ≤ n1) (hf : 1 ≤ Y.2.2.2.2.1) (hlo : (st.map fun v => v.category).sum + (nativeFrameWords "java/lang/System" "arraycopy" 5 + 11) ≤ Y.2.2.2.2.2) (hw2 : Cond.native arraycopyName ∈ WT) (hw3 : Cond.static arraycopyName ∈ WT) (hw4 : Cond.initialized "java/lang/System" ∈ WT) (d : decode Y.2.1 pc = .ok (.invokestatic i, 3)) (k : Zz E X Y P (sgr σ q1 (va_cpy (σ q0) (σ q1) 0 0 n.toNatClampNeg)) (pc + 3) lv st) : Zz E X Y P σ pc lv (.int n :: .int 0 :: .ref (E.2.1 q1) :: .int 0 :: .ref (E.2.1 q0) :: st) := fun H locs ls hP hS hl => va_copyi C.1 C.2.1 (C.2.2.2.1.trans hl.1.symm) C.2.2.2.2.1 (C.2.2.2.2.2.1 _ hw1) (C.2.2.2.2.2.1 _ hw2) (C.2.2.2.2.2.1 _ hw3) (C.2.2.2.2.2.1 _ hw4) C.2.2.2.2.2.2.2.1 hP (wl_D σ C.2.2.2.2.2.2.2.2.2.2.2.1) hS q0 q1 0 0 (by rw [wl_get E σ (kd_lt8 h0), wc_arr h0]) (by rw [wl_get E σ (kd_lt8 h1), wc_arr h1]) rfl rfl rfl (by decide) (by decide) h3 (by simpa using h4) (by simpa using h5) (fun _ _ => rfl) hf hlo d (fun H1 locs1 hP1 _ hS1 => k H1 locs1 ls (by rw [wl_set (kd_lt8 h1) (by rw [wc_arr h1, sgr_self]; rfl)] at hP1; exact hP1) hS1 hl)
theorem z_gets2 (C : Cx E X Y) {i : Nat} (hw : Cond.fieldLinkNest Y.1.cls i "ToWhoNeeds" "TWO" "[I" "ToWhoNeeds" ∈ NW) (d : decode Y.2.1 pc = .ok (.getstatic i, 3)) (k : Zz E X Y P σ (pc + 3) lv (.ref (E.2.2 2) :: st)) : Zz E X Y P σ pc lv st := fun H locs ls hP hS hl => va_getsN C.1 C.2.1 C.2.2.2.2.2.2.2.2.2.1.1 hS C.2.2.2.2.1 (va_Nw.use rfl (C.2.2.2.2.2.2.2.2.1 _ hw)) (fun _ h => h) d (k H locs ls hP hS hl)
theorem z_getsD (C : Cx E X Y) {i : Nat} (hw : Cond.fieldLinkNest Y.1.cls i "ToWhoNeeds" "DIGIT" "[I" "ToWhoNeeds" ∈ NW) (d : decode Y.2.1 pc = .ok (.getstatic i, 3)) (k : Zz E X Y P σ (pc + 3) lv (.ref (E.2.2 3) :: st)) : Zz E X Y P σ pc lv st := fun H locs ls hP hS hl => va_getsN C.1 C.2.1 C.2.2.2.2.2.2.2.2.2.2.1.1 hS C.2.2.2.2.1 (va_Nw.use rfl (C.2.2.2.2.2.2.2.2.1 _ hw)) (fun _ h => h) d (k H locs ls hP hS hl)
theorem z_ald2 (C : Cx E X Y) {i : Int32} (hin : vp_in i 81) (d : decode Y.2.1 pc = .ok (.iaload, 1)) (k : Zz E X Y P σ (pc + 1) lv (.int (twoL.getD i.toNatClampNeg 0) :: st)) : Zz E X Y P σ pc lv (.int i :: .ref (E.2.2 2) :: st) := fun H locs ls hP hS hl => va_ti C.1 C.2.1 C.2.2.2.2.2.2.2.2.2.1.2 hS hin rfl d (k H locs ls hP hS hl)
theorem z_alen2 (C : Cx E X Y) (d : decode Y.2.1 pc = .ok (.arraylength, 1)) (k : Zz E X Y P σ (pc + 1) lv (.int 81 :: st)) : Zz E X Y P σ pc lv (.ref (E.2.2 2) :: st) := fun H locs ls hP hS hl => va_tlen C.1 C.2.1 C.2.2.2.2.2.2.2.2.2.1.2 hS rfl d (k H locs ls hP hS hl)
theorem z_aldD (C : Cx E X Y) {i : Int32} (hin : vp_in i 4) (d : decode Y.2.1 pc = .ok (.iaload, 1)) (k : Zz E X Y P σ (pc + 1) lv (.int (digL.getD i.toNatClampNeg 0) :: st)) : Zz E X Y P σ pc lv (.int i :: .ref (E.2.2 3) :: st) := fun H locs ls hP hS hl => va_ti C.1 C.2.1 C.2.2.2.2.2.2.2.2.2.2.1.2 hS hin rfl d (k H locs ls hP hS hl)
theorem Amb.calling {U : State} {g : JFrame} {mk : MethodId} {a : Array Value} (h : Amb E U) : Amb E (U.calling g mk a) := by
  obtain ⟨h1, h2, ⟨h3, h4⟩, ⟨h5, h6⟩, h7, ⟨h8, h9⟩, h10, h11⟩ := h
  have ha : U.vm.Alike (U.calling g mk a).vm := Vm.Alike.refl U.vm
  refine ⟨va_K.moved (u := U) ha h1, fun w hw => ?_, ⟨va_Z.moved (u := U) ha h3, va_T.moved (u := U) ha h4⟩, ⟨va_Z.moved (u := U) ha h5, va_T.moved (u := U) ha h6⟩, h7, ⟨vk_R.same (u := U) rfl h8, vk_S.moved (u := U) ha h9⟩, va_Z.moved (u := U) ha h10, va_Zq.moved (u := U) ha h11⟩
  have h1 := h2 w hw
  have h2 := (List.mem_filter.mp hw).2
  cases w <;> first | exact va_Nw.same (u := U) rfl rfl h1 | (exact absurd h2 (by simp [isNest]))
theorem pre_blind {av : List Value} : FrameBlind (Pre E av σ) := fun a U g mk q => ⟨q.1, Amb.calling q.2.1, q.2.2⟩
theorem z_go {p : Program} {l : Launch} {e : Env} {R : Room} {s : State} {m : MethodId} {args : Array Value} {below : List Frame} {meth : Method} {c : Code} {H : Heap} {locs : List Loc} {Q : State → Prop} {ls : Array Slot} {st0 rest : List Value} {P2 : Pv} {a : Array Value} (hr : va_Run p l e R s m args below meth c H locs 0 0 0 0 (F0 m pc ls st0) rest (Post E P2 a) (Aw E)) (hS : va_S (Aw E) s.heap H locs)
    (kk : ∀ (H1 : Heap) (locs1 : List Loc), va_P E.1 vwC (wl E P2.2) H1 → va_S (Aw E) s.heap H1 locs1 → W p l e R s m args below meth c H1 locs1 0 0 Q (F0 m (pc + 3) ls (P2.1.toList ++ rest))) : W p l e R s m args below meth c H locs 0 0 Q (F0 m pc ls st0) := by
  intro T hT X
  obtain ⟨v, st₀, t, T', L, h0, X', hL, e1, e2, ⟨⟨hv, hb⟩, hz, hk⟩, st⟩ := hr T hT X
  have hv' : v = P2.1 := by injection hv
  subst hv'
  rw [h0] at hz hk
  obtain ⟨t2, a1, b1⟩ := kk T'.heap (locs ++ L) (by rw [e1]; exact hb)
    ⟨Nat.le_trans hS.1 (by rw [e1]; exact hz), fun q h1 h2 => by rw [e1, hk q (Nat.lt_of_lt_of_le h1 hS.1) h2]; exact hS.2.1 q h1 h2, fun q hq => by
      rcases List.mem_append.mp hq with h | h
      · exact hS.2.2 q h
      · exact hL q h⟩ T' rfl X'
  exact ⟨t2, st t2 a1, b1⟩
/-- the words of a callee that a caller shows -/
def Lk (Y Y2 : Yv) (n : Nat) : Prop := Cond.code Y2.1 Y2.2.1 Y2.2.2.1 Y2.2.2.2.1 ∈ WT ∧ Cond.initialized Y2.1.cls ∈ WT ∧ (Y2.1.cls ≠ "java/lang/invoke/MethodHandle" ∧ Y2.1.cls ≠ "java/lang/invoke/VarHandle") ∧ (parseMethodDescriptor Y2.1.desc).map (fun d => d.parameters.length) = some n
theorem len_of {x : MethodName} {n : Nat} (h : (parseMethodDescriptor x.desc).map (fun d => d.parameters.length) = some n) : ∀ sig, parseMethodDescriptor x.desc = some sig → n = sig.parameters.length := by
  intro sig hs
  rw [hs] at h
  exact (Option.some.inj h).symm
theorem z_callV (C : Cx E X Y) {Y2 : Yv} {P2 : Pv} {CC : String} {T : u_T} {N ci i q n : Nat} {As fs stk : List Value} (hL : Lk Y Y2 n) (hq : q < 96) (he : wc E σ q = .inr (ci, fs)) (hc : vwC[ci]? = some (CC, T, N)) (hw1 : Cond.methodLink Y.1.cls i Y2.1 ∈ WT) (hw2 : Cond.instanceMethod Y2.1 ∈ WT) (hw3 : Cond.selects CC Y2.1 Y2.1 ∈ WT) (hfr : Y2.2.2.2.2.1 + 1 ≤ Y.2.2.2.2.1) (hlo : 8 + (Y2.2.2.1 + 11) + Y2.2.2.2.2.2 ≤ Y.2.2.2.2.2) (d : decode Y.2.1 pc = .ok (.invokevirtual i, 3)) (hst : (st.map fun v => v.category).sum ≤ 8) (hn : As.length = n) (hs : stk = As.reverse ++ .ref (E.2.1 q) :: st) (hM : Ct X.2.1 E Y2 (.ref (E.2.1 q) :: As) σ P2) (k : Zz E X Y P P2.2 (pc + 3) lv (P2.1.toList ++ st)) : Zz E X Y P σ pc lv stk := by
  subst hs
  intro H locs ls hP hS hl
  have hA := C.2.2.2.2.2.2.2
  have hts := C.2.2.2.2.2.1
  refine z_go (va_runV (As := As) (rest := st) (n := n) (bytes := Y2.2.1) (maxL := Y2.2.2.1) (ret := Y2.2.2.2.1) (C := CC) ⟨C.1, C.2.1, C.2.2.2.1, C.2.2.2.2.1, hts⟩ hM ⟨⟨rfl, rfl, hfr, hlo, pay_in hts (wt_good hL.1), List.mem_cons_self, hts _ hL.1, hts _ hL.2.1, hL.2.2.1, len_of hL.2.2.2, hts _ hw1⟩, hts _ hw2, hts _ hw3⟩ ⟨pre_blind, va_recv hA.1 hP hc (by rw [wl_get E σ hq, he]), fun U hU hW => ⟨rfl, hA.mov hS hU hW, by rw [hU]; exact hP⟩⟩ rfl hn hl.1 rfl (by show 2 * 0 + _ ≤ 8; omega) d ⟨Nat.le_refl _, Nat.le_refl _⟩) hS (fun H1 locs1 hP1 hS1 => k H1 locs1 ls hP1 hS1 hl)
theorem z_callU (C : Cx E X Y) {Y2 : Yv} {P2 : Pv} {x : MethodName} {CC owner : String} {T : u_T} {N ci i q n : Nat} {As fs stk : List Value} (hL : Lk Y Y2 n) (hq : q < 96) (he : wc E σ q = .inr (ci, fs)) (hc : vwC[ci]? = some (CC, T, N)) (hw1 : Cond.methodLink Y.1.cls i x ∈ WT) (hw2 : Cond.instanceMethod Y2.1 ∈ WT) (hw3 : Cond.selects CC x Y2.1 ∈ WT) (hw4 : Cond.sameMethod x.cls owner x.name x.desc ∈ WT) (hdc : va_Decl X.2.2.2.1 ⟨owner, x.name, x.desc⟩) (ho : owner ≠ "java/lang/invoke/MethodHandle" ∧ owner ≠ "java/lang/invoke/VarHandle") (hxd : (parseMethodDescriptor x.desc).map (fun d => d.parameters.length) = some n) (hfr : Y2.2.2.2.2.1 + 1 ≤ Y.2.2.2.2.1) (hlo : 8 + (Y2.2.2.1 + 11) + Y2.2.2.2.2.2 ≤ Y.2.2.2.2.2) (d : decode Y.2.1 pc = .ok (.invokevirtual i, 3)) (hst : (st.map fun v => v.category).sum ≤ 8) (hn : As.length = n) (hs : stk = As.reverse ++ .ref (E.2.1 q) :: st) (hM : Ct X.2.1 E Y2 (.ref (E.2.1 q) :: As) σ P2) (k : Zz E X Y P P2.2 (pc + 3) lv (P2.1.toList ++ st)) : Zz E X Y P σ pc lv stk := by
  subst hs
  intro H locs ls hP hS hl
  have hA := C.2.2.2.2.2.2.2
  have hts := C.2.2.2.2.2.1
  refine z_go (va_runU (x := x) (owner := owner) (As := As) (rest := st) (n := n) (bytes := Y2.2.1) (maxL := Y2.2.2.1) (ret := Y2.2.2.2.1) (C := CC) ⟨C.1, C.2.1, C.2.2.2.1, C.2.2.2.2.1, hts⟩ hM ⟨⟨rfl, rfl, hfr, hlo, pay_in hts (wt_good hL.1), List.mem_cons_self⟩, hts _ hL.1, hts _ hL.2.1, ho, len_of hxd, hts _ hw1, hts _ hw4, hdc, hts _ hw3, hts _ hw2⟩ ⟨pre_blind, va_recv hA.1 hP hc (by rw [wl_get E σ hq, he]), fun U hU hW => ⟨rfl, hA.mov hS hU hW, by rw [hU]; exact hP⟩⟩ rfl hn hl.1 rfl (by show 2 * 0 + _ ≤ 8; omega) d ⟨Nat.le_refl _, Nat.le_refl _⟩) hS (fun H1 locs1 hP1 hS1 => k H1 locs1 ls hP1 hS1 hl)
theorem z_callS (C : Cx E X Y) {Y2 : Yv} {P2 : Pv} {i n : Nat} {As stk : List Value} (hL : Lk Y Y2 n) (hw1 : Cond.methodLink Y.1.cls i Y2.1 ∈ WT) (hw2 : Cond.static Y2.1 ∈ WT) (hfr : Y2.2.2.2.2.1 + 1 ≤ Y.2.2.2.2.1) (hlo : 8 + (Y2.2.2.1 + 11) + Y2.2.2.2.2.2 ≤ Y.2.2.2.2.2) (d : decode Y.2.1 pc = .ok (.invokestatic i, 3)) (hst : (st.map fun v => v.category).sum ≤ 8) (hn : As.length = n) (hs : stk = As.reverse ++ st) (hM : Ct X.2.1 E Y2 As σ P2) (k : Zz E X Y P P2.2 (pc + 3) lv (P2.1.toList ++ st)) : Zz E X Y P σ pc lv stk := by
  subst hs
  intro H locs ls hP hS hl
  have hA := C.2.2.2.2.2.2.2
  have hts := C.2.2.2.2.2.1
  refine z_go (va_runS (As := As) (rest := st) (n := n) (bytes := Y2.2.1) (maxL := Y2.2.2.1) (ret := Y2.2.2.2.1) ⟨C.1, C.2.1, C.2.2.2.1, C.2.2.2.2.1, hts⟩ hM ⟨⟨rfl, rfl, hfr, hlo, pay_in hts (wt_good hL.1), List.mem_cons_self, hts _ hL.1, hts _ hL.2.1, hL.2.2.1, len_of hL.2.2.2, hts _ hw1⟩, hts _ hw2⟩ ⟨pre_blind, fun U hU hW => ⟨rfl, hA.mov hS hU hW, by rw [hU]; exact hP⟩⟩ rfl hn hl.1 rfl (by show 2 * 0 + _ ≤ 8; omega) d ⟨Nat.le_refl _, Nat.le_refl _⟩) hS (fun H1 locs1 hP1 hS1 => k H1 locs1 ls hP1 hS1 hl)
theorem z_callSN (C : Cx E X Y) {Y2 : Yv} {P2 : Pv} {host : String} {i n : Nat} {As stk : List Value} (hL : Lk Y Y2 n) (hw1 : Cond.methodLinkNest Y.1.cls i Y2.1 host ∈ NW) (hw2 : Cond.static Y2.1 ∈ WT) (hfr : Y2.2.2.2.2.1 + 1 ≤ Y.2.2.2.2.1) (hlo : 8 + (Y2.2.2.1 + 11) + Y2.2.2.2.2.2 ≤ Y.2.2.2.2.2) (d : decode Y.2.1 pc = .ok (.invokestatic i, 3)) (hst : (st.map fun v => v.category).sum ≤ 8) (hn : As.length = n) (hs : stk = As.reverse ++ st) (hM : Ct X.2.1 E Y2 As σ P2) (k : Zz E X Y P P2.2 (pc + 3) lv (P2.1.toList ++ st)) : Zz E X Y P σ pc lv stk := by
  subst hs
  intro H locs ls hP hS hl
  have hA := C.2.2.2.2.2.2.2
  have hts := C.2.2.2.2.2.1
  refine z_go (va_runSN (host := host) (As := As) (rest := st) (n := n) (bytes := Y2.2.1) (maxL := Y2.2.2.1) (ret := Y2.2.2.2.1) ⟨C.1, C.2.1, C.2.2.2.1, C.2.2.2.2.1, hts⟩ hM ⟨⟨⟨rfl, rfl, hfr, hlo, pay_in hts (wt_good hL.1), List.mem_cons_self⟩, hts _ hL.1, hts _ hL.2.1, hL.2.2.1, len_of hL.2.2.2, va_Nw.use rfl (hA.2.1 _ hw1)⟩, hts _ hw2, trivial⟩ ⟨pre_blind, fun U hU hW => ⟨rfl, hA.mov hS hU hW, by rw [hU]; exact hP⟩⟩ rfl hn hl.1 rfl (by show 2 * 0 + _ ≤ 8; omega) d ⟨Nat.le_refl _, Nat.le_refl _⟩) hS (fun H1 locs1 hP1 hS1 => k H1 locs1 ls hP1 hS1 hl)
theorem z_mmax (C : Cx E X Y) {i : Nat} {x y : Int32} (hw1 : Cond.methodLink Y.1.cls i Lib.Math.max.name ∈ WT) (hw2 : Cond.static Lib.Math.max.name ∈ WT) (hw3 : Cond.initialized "java/lang/Math" ∈ WT) (hw4 : Cond.code Lib.Math.max.name Lib.Math.max.code 2 (some .int) ∈ WT) (hf : 1 ≤ Y.2.2.2.2.1) (hlo : (st.map fun v => v.category).sum + 13 ≤ Y.2.2.2.2.2) (d : decode Y.2.1 pc = .ok (.invokestatic i, 3)) (k : Zz E X Y P σ (pc + 3) lv (.int (if x < y then y else x) :: st)) : Zz E X Y P σ pc lv (.int y :: .int x :: st) := fun H locs ls hP hS hl => va_mmax C.1 C.2.1 (C.2.2.2.1.trans hl.1.symm) C.2.2.2.2.1 (C.2.2.2.2.2.1 _ hw1) (C.2.2.2.2.2.1 _ hw2) (C.2.2.2.2.2.1 _ hw3) (C.2.2.2.2.2.1 _ hw4) hf hlo (Nat.zero_le _) (Nat.zero_le _) d (k H locs ls hP hS hl)
theorem z_mmin (C : Cx E X Y) {i : Nat} {x y : Int32} (hw1 : Cond.methodLink Y.1.cls i Lib.Math.min.name ∈ WT) (hw2 : Cond.static Lib.Math.min.name ∈ WT) (hw3 : Cond.initialized "java/lang/Math" ∈ WT) (hw4 : Cond.code Lib.Math.min.name Lib.Math.min.code 2 (some .int) ∈ WT) (hf : 1 ≤ Y.2.2.2.2.1) (hlo : (st.map fun v => v.category).sum + 13 ≤ Y.2.2.2.2.2) (d : decode Y.2.1 pc = .ok (.invokestatic i, 3)) (k : Zz E X Y P σ (pc + 3) lv (.int (if y < x then y else x) :: st)) : Zz E X Y P σ pc lv (.int y :: .int x :: st) := fun H locs ls hP hS hl => va_mmin C.1 C.2.1 (C.2.2.2.1.trans hl.1.symm) C.2.2.2.2.1 (C.2.2.2.2.2.1 _ hw1) (C.2.2.2.2.2.1 _ hw2) (C.2.2.2.2.2.1 _ hw3) (C.2.2.2.2.2.1 _ hw4) hf hlo (Nat.zero_le _) (Nat.zero_le _) d (k H locs ls hP hS hl)
theorem z_tabOut (C : Cx E X Y) {dflt lo hi : Int} {offs : Array Int} {len : Nat} {x : Int32} {tgt : Nat} (d : decode Y.2.1 pc = .ok (.tableswitch dflt lo hi offs, len)) (h : x.toInt < lo ∨ hi < x.toInt) (ht : (pc : Int) + dflt = (tgt : Int)) (k : Zz E X Y P σ tgt lv st) : Zz E X Y P σ pc lv (.int x :: st) := fun H locs ls hP hS hl => lv_tableOut C.1 C.2.1 d h ht (k H locs ls hP hS hl)
theorem z_tabIn (C : Cx E X Y) {dflt lo hi : Int} {offs : Array Int} {len : Nat} {x : Int32} {off : Int} {tgt : Nat} (d : decode Y.2.1 pc = .ok (.tableswitch dflt lo hi offs, len)) (h1 : ¬ x.toInt < lo) (h2 : ¬ hi < x.toInt) (ho : offs[(x.toInt - lo).toNat]? = some off) (ht : (pc : Int) + off = (tgt : Int)) (k : Zz E X Y P σ tgt lv st) : Zz E X Y P σ pc lv (.int x :: st) := fun H locs ls hP hS hl => lv_tableIn C.1 C.2.1 d h1 h2 ho ht (k H locs ls hP hS hl)
theorem z_look (C : Cx E X Y) {dflt : Int} {ps : Array (Int × Int)} {len : Nat} {x : Int32} {off : Int} {tgt : Nat} (d : decode Y.2.1 pc = .ok (.lookupswitch dflt ps, len)) (hp : (ps.toList.zip (ps.toList.drop 1)).all (fun (a, next) => a.1 < next.1) = true) (ho : Op.lookupswitch.offset ps.toList dflt x.toInt = off) (ht : (pc : Int) + off = (tgt : Int)) (k : Zz E X Y P σ tgt lv st) : Zz E X Y P σ pc lv (.int x :: st) := fun H locs ls hP hS hl => lv_lookup C.1 C.2.1 d hp ho ht (k H locs ls hP hS hl)
end ZROWS
end
