theorem t_1 : Jvm.Cond.initialized "ToWhoNeeds" ∈ WT := wt_of (List.mem_of_getElem? (i := 66) (by decide +kernel)) rfl
theorem t_2 : Jvm.Cond.initialized "ToWhoNeeds$State" ∈ WT := wt_of (List.mem_of_getElem? (i := 67) (by decide +kernel)) rfl
theorem t_3 : Jvm.Cond.initialized "ToWhoNeeds$People" ∈ WT := wt_of (List.mem_of_getElem? (i := 68) (by decide +kernel)) rfl
theorem t_4 : Jvm.Cond.initialized "ToWhoNeeds$Numbers" ∈ WT := wt_of (List.mem_of_getElem? (i := 69) (by decide +kernel)) rfl
theorem t_5 : Jvm.Cond.initialized "ToWhoNeeds$Reader" ∈ WT := wt_of (List.mem_of_getElem? (i := 70) (by decide +kernel)) rfl
theorem t_6 : Jvm.Cond.initialized "ToWhoNeeds$Mind" ∈ WT := wt_of (List.mem_of_getElem? (i := 71) (by decide +kernel)) rfl
theorem t_7 : Jvm.Cond.initialized "ToWhoNeeds$Law" ∈ WT := wt_of (List.mem_of_getElem? (i := 72) (by decide +kernel)) rfl
theorem t_8 : Jvm.Cond.initialized "ToWhoNeeds$Sum" ∈ WT := wt_of (List.mem_of_getElem? (i := 73) (by decide +kernel)) rfl
theorem t_9 : Jvm.Cond.initialized "ToWhoNeeds$Met" ∈ WT := wt_of (List.mem_of_getElem? (i := 74) (by decide +kernel)) rfl
theorem t_10 : Jvm.Cond.initialized "ToWhoNeeds$Most" ∈ WT := wt_of (List.mem_of_getElem? (i := 75) (by decide +kernel)) rfl
theorem t_12 : Jvm.Cond.initialized "ToWhoNeeds$ReadOn" ∈ WT := wt_of (List.mem_of_getElem? (i := 77) (by decide +kernel)) rfl
theorem t_13 : Jvm.Cond.initialized "ToWhoNeedsModel" ∈ WT := wt_of (List.mem_of_getElem? (i := 78) (by decide +kernel)) rfl
theorem t_41 : Jvm.Cond.fieldLink "ToWhoNeeds$People" (9 : Nat) "ToWhoNeeds$People" "needs" "[I" ∈ WT := wt_of (List.mem_of_getElem? (i := 106) (by decide +kernel)) rfl
theorem t_45 : Jvm.Cond.fieldLink "ToWhoNeeds$People" (15 : Nat) "ToWhoNeeds$People" "growths" "[I" ∈ WT := wt_of (List.mem_of_getElem? (i := 110) (by decide +kernel)) rfl
theorem t_66 : Jvm.Cond.fieldLink "ToWhoNeeds$Numbers" (7 : Nat) "ToWhoNeeds$Numbers" "items" "[I" ∈ WT := wt_of (List.mem_of_getElem? (i := 131) (by decide +kernel)) rfl
theorem t_77 : Jvm.Cond.fieldLink "ToWhoNeeds$State" (12 : Nat) "ToWhoNeeds$State" "people" "LToWhoNeeds$People;" ∈ WT := wt_of (List.mem_of_getElem? (i := 142) (by decide +kernel)) rfl
theorem t_81 : Jvm.Cond.fieldLink "ToWhoNeeds$State" (23 : Nat) "ToWhoNeeds$State" "kinds" "LToWhoNeeds$Numbers;" ∈ WT := wt_of (List.mem_of_getElem? (i := 146) (by decide +kernel)) rfl
theorem t_85 : Jvm.Cond.fieldLink "ToWhoNeeds$State" (27 : Nat) "ToWhoNeeds$State" "aims" "LToWhoNeeds$Numbers;" ∈ WT := wt_of (List.mem_of_getElem? (i := 150) (by decide +kernel)) rfl
theorem t_89 : Jvm.Cond.fieldLink "ToWhoNeeds$State" (30 : Nat) "ToWhoNeeds$State" "letters" "LToWhoNeeds$Numbers;" ∈ WT := wt_of (List.mem_of_getElem? (i := 154) (by decide +kernel)) rfl
theorem t_93 : Jvm.Cond.fieldLink "ToWhoNeeds$State" (33 : Nat) "ToWhoNeeds$State" "told" "LToWhoNeeds$Numbers;" ∈ WT := wt_of (List.mem_of_getElem? (i := 158) (by decide +kernel)) rfl
theorem t_95 : Jvm.Cond.fieldLink "ToWhoNeeds$State" (36 : Nat) "ToWhoNeeds$State" "wentLetter" "LToWhoNeeds$Numbers;" ∈ WT := wt_of (List.mem_of_getElem? (i := 160) (by decide +kernel)) rfl
theorem t_98 : Jvm.Cond.fieldLink "ToWhoNeeds$State" (39 : Nat) "ToWhoNeeds$State" "wentTo" "LToWhoNeeds$Numbers;" ∈ WT := wt_of (List.mem_of_getElem? (i := 163) (by decide +kernel)) rfl
theorem t_143 : Jvm.Cond.fieldLink "ToWhoNeeds$Reader" (14 : Nat) "ToWhoNeeds$Reader" "text" "LToWhoNeeds$Numbers;" ∈ WT := wt_of (List.mem_of_getElem? (i := 208) (by decide +kernel)) rfl
theorem t_145 : Jvm.Cond.fieldLink "ToWhoNeeds$Reader" (23 : Nat) "ToWhoNeeds$Reader" "draft" "LToWhoNeeds$State;" ∈ WT := wt_of (List.mem_of_getElem? (i := 210) (by decide +kernel)) rfl
theorem t_146 : Jvm.Cond.fieldLink "ToWhoNeeds$Reader" (27 : Nat) "ToWhoNeeds$Reader" "numbers" "[I" ∈ WT := wt_of (List.mem_of_getElem? (i := 211) (by decide +kernel)) rfl
theorem t_167 : Jvm.Cond.fieldLink "ToWhoNeeds$Mind" (12 : Nat) "ToWhoNeeds$Mind" "thought" "LToWhoNeeds$People;" ∈ WT := wt_of (List.mem_of_getElem? (i := 232) (by decide +kernel)) rfl
theorem t_168 : Jvm.Cond.fieldLink "ToWhoNeeds$Mind" (18 : Nat) "ToWhoNeeds$Mind" "further" "LToWhoNeeds$People;" ∈ WT := wt_of (List.mem_of_getElem? (i := 233) (by decide +kernel)) rfl
theorem t_169 : Jvm.Cond.fieldLink "ToWhoNeeds$Mind" (26 : Nat) "ToWhoNeeds$Mind" "line" "LToWhoNeeds$Numbers;" ∈ WT := wt_of (List.mem_of_getElem? (i := 234) (by decide +kernel)) rfl
theorem t_170 : Jvm.Cond.fieldLink "ToWhoNeeds$Mind" (30 : Nat) "ToWhoNeeds$Mind" "bestLine" "LToWhoNeeds$Numbers;" ∈ WT := wt_of (List.mem_of_getElem? (i := 235) (by decide +kernel)) rfl
theorem t_195 : Jvm.Cond.fieldLink "ToWhoNeeds$Law" (9 : Nat) "ToWhoNeeds$Law" "place" "I" ∈ WT := wt_of (List.mem_of_getElem? (i := 260) (by decide +kernel)) rfl
theorem t_233 : Jvm.Cond.fieldLink "ToWhoNeeds" (10 : Nat) "ToWhoNeeds" "state" "LToWhoNeeds$State;" ∈ WT := wt_of (List.mem_of_getElem? (i := 298) (by decide +kernel)) rfl
theorem t_234 : Jvm.Cond.fieldLink "ToWhoNeeds" (16 : Nat) "ToWhoNeeds" "kept" "LToWhoNeeds$State;" ∈ WT := wt_of (List.mem_of_getElem? (i := 299) (by decide +kernel)) rfl
theorem t_235 : Jvm.Cond.fieldLink "ToWhoNeeds" (22 : Nat) "ToWhoNeeds" "reader" "LToWhoNeeds$Reader;" ∈ WT := wt_of (List.mem_of_getElem? (i := 300) (by decide +kernel)) rfl
theorem t_236 : Jvm.Cond.fieldLink "ToWhoNeeds" (29 : Nat) "ToWhoNeeds" "mind" "LToWhoNeeds$Mind;" ∈ WT := wt_of (List.mem_of_getElem? (i := 301) (by decide +kernel)) rfl
theorem t_237 : Jvm.Cond.fieldLink "ToWhoNeeds" (52 : Nat) "ToWhoNeeds" "kindsOfLaw" "[LToWhoNeeds$Law;" ∈ WT := wt_of (List.mem_of_getElem? (i := 302) (by decide +kernel)) rfl
theorem t_238 : Jvm.Cond.fieldLink "ToWhoNeeds" (59 : Nat) "ToWhoNeeds" "row" "LToWhoNeeds$Numbers;" ∈ WT := wt_of (List.mem_of_getElem? (i := 303) (by decide +kernel)) rfl
theorem t_239 : Jvm.Cond.fieldLink "ToWhoNeeds" (63 : Nat) "ToWhoNeeds" "refused" "[I" ∈ WT := wt_of (List.mem_of_getElem? (i := 304) (by decide +kernel)) rfl
theorem t_845 : Jvm.Cond.fieldLink "ToWhoNeedsModel" (7 : Nat) "ToWhoNeedsModel" "refused" "[I" ∈ WT := wt_of (List.mem_of_getElem? (i := 910) (by decide +kernel)) rfl
theorem t_846 : Jvm.Cond.fieldLink "ToWhoNeedsModel" (13 : Nat) "ToWhoNeedsModel" "need" "[I" ∈ WT := wt_of (List.mem_of_getElem? (i := 911) (by decide +kernel)) rfl
theorem t_847 : Jvm.Cond.fieldLink "ToWhoNeedsModel" (16 : Nat) "ToWhoNeedsModel" "growth" "[I" ∈ WT := wt_of (List.mem_of_getElem? (i := 912) (by decide +kernel)) rfl
theorem t_848 : Jvm.Cond.fieldLink "ToWhoNeedsModel" (19 : Nat) "ToWhoNeedsModel" "kind" "[I" ∈ WT := wt_of (List.mem_of_getElem? (i := 913) (by decide +kernel)) rfl
theorem t_849 : Jvm.Cond.fieldLink "ToWhoNeedsModel" (22 : Nat) "ToWhoNeedsModel" "his" "[I" ∈ WT := wt_of (List.mem_of_getElem? (i := 914) (by decide +kernel)) rfl
theorem t_850 : Jvm.Cond.fieldLink "ToWhoNeedsModel" (25 : Nat) "ToWhoNeedsModel" "told" "[I" ∈ WT := wt_of (List.mem_of_getElem? (i := 915) (by decide +kernel)) rfl
theorem t_851 : Jvm.Cond.fieldLink "ToWhoNeedsModel" (28 : Nat) "ToWhoNeedsModel" "ordered" "[I" ∈ WT := wt_of (List.mem_of_getElem? (i := 916) (by decide +kernel)) rfl
theorem t_852 : Jvm.Cond.fieldLink "ToWhoNeedsModel" (31 : Nat) "ToWhoNeedsModel" "goingLetter" "[I" ∈ WT := wt_of (List.mem_of_getElem? (i := 917) (by decide +kernel)) rfl
theorem t_853 : Jvm.Cond.fieldLink "ToWhoNeedsModel" (34 : Nat) "ToWhoNeedsModel" "goingTo" "[I" ∈ WT := wt_of (List.mem_of_getElem? (i := 918) (by decide +kernel)) rfl
theorem t_862 : Jvm.Cond.fieldLink "ToWhoNeedsModel" (37 : Nat) "ToWhoNeedsModel" "tape" "[I" ∈ WT := wt_of (List.mem_of_getElem? (i := 927) (by decide +kernel)) rfl
theorem t_863 : Jvm.Cond.fieldLink "ToWhoNeedsModel" (40 : Nat) "ToWhoNeedsModel" "letter" "[I" ∈ WT := wt_of (List.mem_of_getElem? (i := 928) (by decide +kernel)) rfl
theorem t_864 : Jvm.Cond.fieldLink "ToWhoNeedsModel" (43 : Nat) "ToWhoNeedsModel" "letterAt" "[I" ∈ WT := wt_of (List.mem_of_getElem? (i := 929) (by decide +kernel)) rfl
theorem t_865 : Jvm.Cond.fieldLink "ToWhoNeedsModel" (46 : Nat) "ToWhoNeedsModel" "one" "[I" ∈ WT := wt_of (List.mem_of_getElem? (i := 930) (by decide +kernel)) rfl
theorem t_866 : Jvm.Cond.fieldLink "ToWhoNeedsModel" (49 : Nat) "ToWhoNeedsModel" "other" "[I" ∈ WT := wt_of (List.mem_of_getElem? (i := 931) (by decide +kernel)) rfl
theorem t_867 : Jvm.Cond.fieldLink "ToWhoNeedsModel" (52 : Nat) "ToWhoNeedsModel" "third" "[I" ∈ WT := wt_of (List.mem_of_getElem? (i := 932) (by decide +kernel)) rfl
theorem t_868 : Jvm.Cond.fieldLink "ToWhoNeedsModel" (55 : Nat) "ToWhoNeedsModel" "fourth" "[I" ∈ WT := wt_of (List.mem_of_getElem? (i := 933) (by decide +kernel)) rfl
theorem t_869 : Jvm.Cond.fieldLink "ToWhoNeedsModel" (58 : Nat) "ToWhoNeedsModel" "fifth" "[I" ∈ WT := wt_of (List.mem_of_getElem? (i := 934) (by decide +kernel)) rfl
theorem t_873 : Jvm.Cond.fieldLink "ToWhoNeedsModel" (61 : Nat) "ToWhoNeedsModel" "kept" "[I" ∈ WT := wt_of (List.mem_of_getElem? (i := 938) (by decide +kernel)) rfl
theorem t_874 : Jvm.Cond.fieldLink "ToWhoNeedsModel" (64 : Nat) "ToWhoNeedsModel" "needs" "[I" ∈ WT := wt_of (List.mem_of_getElem? (i := 939) (by decide +kernel)) rfl
theorem t_879 : Jvm.Cond.fieldLink "ToWhoNeedsModel" (67 : Nat) "ToWhoNeedsModel" "place" "[I" ∈ WT := wt_of (List.mem_of_getElem? (i := 944) (by decide +kernel)) rfl
theorem t_880 : Jvm.Cond.fieldLink "ToWhoNeedsModel" (70 : Nat) "ToWhoNeedsModel" "bestPlace" "[I" ∈ WT := wt_of (List.mem_of_getElem? (i := 945) (by decide +kernel)) rfl
theorem t_882 : Jvm.Cond.fieldLink "ToWhoNeedsModel" (73 : Nat) "ToWhoNeedsModel" "row" "[I" ∈ WT := wt_of (List.mem_of_getElem? (i := 947) (by decide +kernel)) rfl
theorem in_X1 : ∀ w ∈ u_ws RX1 TX1 1, w ∈ WT := by decide +kernel
theorem in_X2 : ∀ w ∈ u_ws RX2 TX2 5, w ∈ WT := by decide +kernel
theorem in_X3 : ∀ w ∈ u_ws RX3 TX3 1, w ∈ WT := by decide +kernel
theorem in_X4 : ∀ w ∈ u_ws RX4 TX4 2, w ∈ WT := by decide +kernel
theorem in_X5 : ∀ w ∈ u_ws RX5 TX5 3, w ∈ WT := by decide +kernel
theorem in_X6 : ∀ w ∈ u_ws RX6 TX6 1, w ∈ WT := by decide +kernel
theorem in_X7 : ∀ w ∈ u_ws RX7 TX7 4, w ∈ WT := by decide +kernel
theorem in_X8 : ∀ w ∈ u_ws RX8 TX8 1, w ∈ WT := by decide +kernel
theorem in_X9 : ∀ w ∈ u_ws RX9 TX9 11, w ∈ WT := by decide +kernel
theorem in_X10 : ∀ w ∈ u_ws RX10 TX10 1, w ∈ WT := by decide +kernel
theorem in_X11 : ∀ w ∈ u_ws RX11 TX11 8, w ∈ WT := by decide +kernel
theorem in_X12 : ∀ w ∈ u_ws RX12 TX12 39, w ∈ WT := by decide +kernel
