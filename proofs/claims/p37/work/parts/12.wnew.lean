theorem t_11 : Jvm.Cond.initialized "ToWhoNeeds$Second" ∈ WT := wt_of (List.mem_of_getElem? (i := 76) (by decide +kernel)) rfl
theorem t_25 : Jvm.Cond.code ({ cls := "ToWhoNeeds", name := "<init>", desc := "()V" } : Jvm.MethodName) prog_1_method_1_code (1 : Nat) (Option.none : Option Jvm.ClassFile.FieldType) ∈ WT := wt_of (List.mem_of_getElem? (i := 90) (by decide +kernel)) rfl
theorem t_26 : Jvm.Cond.methodLink "ToWhoNeeds" (1 : Nat) ({ cls := "java/lang/Object", name := "<init>", desc := "()V" } : Jvm.MethodName) ∈ WT := wt_of (List.mem_of_getElem? (i := 91) (by decide +kernel)) rfl
theorem t_27 : Jvm.Cond.instanceMethod ({ cls := "java/lang/Object", name := "<init>", desc := "()V" } : Jvm.MethodName) ∈ WT := wt_of (List.mem_of_getElem? (i := 92) (by decide +kernel)) rfl
theorem t_28 : Jvm.Cond.code ({ cls := "java/lang/Object", name := "<init>", desc := "()V" } : Jvm.MethodName) object_method_1_code (1 : Nat) (Option.none : Option Jvm.ClassFile.FieldType) ∈ WT := wt_of (List.mem_of_getElem? (i := 93) (by decide +kernel)) rfl
theorem t_29 : Jvm.Cond.classLink "ToWhoNeeds" (7 : Nat) "ToWhoNeeds$State" ∈ WT := wt_of (List.mem_of_getElem? (i := 94) (by decide +kernel)) rfl
theorem t_30 : Jvm.Cond.instantiable "ToWhoNeeds$State" (11 : Nat) ∈ WT := wt_of (List.mem_of_getElem? (i := 95) (by decide +kernel)) rfl
theorem t_32 : Jvm.Cond.instanceMethod ({ cls := "ToWhoNeeds$State", name := "<init>", desc := "()V" } : Jvm.MethodName) ∈ WT := wt_of (List.mem_of_getElem? (i := 97) (by decide +kernel)) rfl
theorem t_33 : Jvm.Cond.code ({ cls := "ToWhoNeeds$State", name := "<init>", desc := "()V" } : Jvm.MethodName) prog_11_method_1_code (1 : Nat) (Option.none : Option Jvm.ClassFile.FieldType) ∈ WT := wt_of (List.mem_of_getElem? (i := 98) (by decide +kernel)) rfl
theorem t_34 : Jvm.Cond.methodLink "ToWhoNeeds$State" (3 : Nat) ({ cls := "java/lang/Object", name := "<init>", desc := "()V" } : Jvm.MethodName) ∈ WT := wt_of (List.mem_of_getElem? (i := 99) (by decide +kernel)) rfl
theorem t_35 : Jvm.Cond.classLink "ToWhoNeeds$State" (9 : Nat) "ToWhoNeeds$People" ∈ WT := wt_of (List.mem_of_getElem? (i := 100) (by decide +kernel)) rfl
theorem t_36 : Jvm.Cond.instantiable "ToWhoNeeds$People" (3 : Nat) ∈ WT := wt_of (List.mem_of_getElem? (i := 101) (by decide +kernel)) rfl
theorem t_38 : Jvm.Cond.instanceMethod ({ cls := "ToWhoNeeds$People", name := "<init>", desc := "()V" } : Jvm.MethodName) ∈ WT := wt_of (List.mem_of_getElem? (i := 103) (by decide +kernel)) rfl
theorem t_39 : Jvm.Cond.code ({ cls := "ToWhoNeeds$People", name := "<init>", desc := "()V" } : Jvm.MethodName) prog_7_method_1_code (1 : Nat) (Option.none : Option Jvm.ClassFile.FieldType) ∈ WT := wt_of (List.mem_of_getElem? (i := 104) (by decide +kernel)) rfl
theorem t_40 : Jvm.Cond.methodLink "ToWhoNeeds$People" (3 : Nat) ({ cls := "java/lang/Object", name := "<init>", desc := "()V" } : Jvm.MethodName) ∈ WT := wt_of (List.mem_of_getElem? (i := 105) (by decide +kernel)) rfl
theorem t_59 : Jvm.Cond.arrayClass Jvm.ClassFile.FieldType.int ∈ WT := wt_of (List.mem_of_getElem? (i := 124) (by decide +kernel)) rfl
theorem t_60 : Jvm.Cond.classLink "ToWhoNeeds$State" (18 : Nat) "ToWhoNeeds$Numbers" ∈ WT := wt_of (List.mem_of_getElem? (i := 125) (by decide +kernel)) rfl
theorem t_61 : Jvm.Cond.instantiable "ToWhoNeeds$Numbers" (2 : Nat) ∈ WT := wt_of (List.mem_of_getElem? (i := 126) (by decide +kernel)) rfl
theorem t_62 : Jvm.Cond.methodLink "ToWhoNeeds$State" (20 : Nat) ({ cls := "ToWhoNeeds$Numbers", name := "<init>", desc := "(I)V" } : Jvm.MethodName) ∈ WT := wt_of (List.mem_of_getElem? (i := 127) (by decide +kernel)) rfl
theorem t_63 : Jvm.Cond.instanceMethod ({ cls := "ToWhoNeeds$Numbers", name := "<init>", desc := "(I)V" } : Jvm.MethodName) ∈ WT := wt_of (List.mem_of_getElem? (i := 128) (by decide +kernel)) rfl
theorem t_64 : Jvm.Cond.code ({ cls := "ToWhoNeeds$Numbers", name := "<init>", desc := "(I)V" } : Jvm.MethodName) prog_6_method_1_code (2 : Nat) (Option.none : Option Jvm.ClassFile.FieldType) ∈ WT := wt_of (List.mem_of_getElem? (i := 129) (by decide +kernel)) rfl
theorem t_65 : Jvm.Cond.methodLink "ToWhoNeeds$Numbers" (1 : Nat) ({ cls := "java/lang/Object", name := "<init>", desc := "()V" } : Jvm.MethodName) ∈ WT := wt_of (List.mem_of_getElem? (i := 130) (by decide +kernel)) rfl
theorem t_133 : Jvm.Cond.classLink "ToWhoNeeds" (19 : Nat) "ToWhoNeeds$Reader" ∈ WT := wt_of (List.mem_of_getElem? (i := 198) (by decide +kernel)) rfl
theorem t_134 : Jvm.Cond.instantiable "ToWhoNeeds$Reader" (4 : Nat) ∈ WT := wt_of (List.mem_of_getElem? (i := 199) (by decide +kernel)) rfl
theorem t_136 : Jvm.Cond.instanceMethod ({ cls := "ToWhoNeeds$Reader", name := "<init>", desc := "()V" } : Jvm.MethodName) ∈ WT := wt_of (List.mem_of_getElem? (i := 201) (by decide +kernel)) rfl
theorem t_137 : Jvm.Cond.code ({ cls := "ToWhoNeeds$Reader", name := "<init>", desc := "()V" } : Jvm.MethodName) prog_9_method_1_code (1 : Nat) (Option.none : Option Jvm.ClassFile.FieldType) ∈ WT := wt_of (List.mem_of_getElem? (i := 202) (by decide +kernel)) rfl
theorem t_138 : Jvm.Cond.methodLink "ToWhoNeeds$Reader" (3 : Nat) ({ cls := "java/lang/Object", name := "<init>", desc := "()V" } : Jvm.MethodName) ∈ WT := wt_of (List.mem_of_getElem? (i := 203) (by decide +kernel)) rfl
theorem t_139 : Jvm.Cond.classLink "ToWhoNeeds$Reader" (9 : Nat) "ToWhoNeeds$Numbers" ∈ WT := wt_of (List.mem_of_getElem? (i := 204) (by decide +kernel)) rfl
theorem t_140 : Jvm.Cond.methodLink "ToWhoNeeds$Reader" (11 : Nat) ({ cls := "ToWhoNeeds$Numbers", name := "<init>", desc := "(I)V" } : Jvm.MethodName) ∈ WT := wt_of (List.mem_of_getElem? (i := 205) (by decide +kernel)) rfl
theorem t_141 : Jvm.Cond.classLink "ToWhoNeeds$Reader" (20 : Nat) "ToWhoNeeds$State" ∈ WT := wt_of (List.mem_of_getElem? (i := 206) (by decide +kernel)) rfl
theorem t_157 : Jvm.Cond.classLink "ToWhoNeeds" (26 : Nat) "ToWhoNeeds$Mind" ∈ WT := wt_of (List.mem_of_getElem? (i := 222) (by decide +kernel)) rfl
theorem t_158 : Jvm.Cond.instantiable "ToWhoNeeds$Mind" (5 : Nat) ∈ WT := wt_of (List.mem_of_getElem? (i := 223) (by decide +kernel)) rfl
theorem t_160 : Jvm.Cond.instanceMethod ({ cls := "ToWhoNeeds$Mind", name := "<init>", desc := "()V" } : Jvm.MethodName) ∈ WT := wt_of (List.mem_of_getElem? (i := 225) (by decide +kernel)) rfl
theorem t_161 : Jvm.Cond.code ({ cls := "ToWhoNeeds$Mind", name := "<init>", desc := "()V" } : Jvm.MethodName) prog_4_method_1_code (1 : Nat) (Option.none : Option Jvm.ClassFile.FieldType) ∈ WT := wt_of (List.mem_of_getElem? (i := 226) (by decide +kernel)) rfl
theorem t_162 : Jvm.Cond.methodLink "ToWhoNeeds$Mind" (3 : Nat) ({ cls := "java/lang/Object", name := "<init>", desc := "()V" } : Jvm.MethodName) ∈ WT := wt_of (List.mem_of_getElem? (i := 227) (by decide +kernel)) rfl
theorem t_163 : Jvm.Cond.classLink "ToWhoNeeds$Mind" (9 : Nat) "ToWhoNeeds$People" ∈ WT := wt_of (List.mem_of_getElem? (i := 228) (by decide +kernel)) rfl
theorem t_165 : Jvm.Cond.classLink "ToWhoNeeds$Mind" (21 : Nat) "ToWhoNeeds$Numbers" ∈ WT := wt_of (List.mem_of_getElem? (i := 230) (by decide +kernel)) rfl
theorem t_166 : Jvm.Cond.methodLink "ToWhoNeeds$Mind" (23 : Nat) ({ cls := "ToWhoNeeds$Numbers", name := "<init>", desc := "(I)V" } : Jvm.MethodName) ∈ WT := wt_of (List.mem_of_getElem? (i := 231) (by decide +kernel)) rfl
theorem t_184 : Jvm.Cond.classLink "ToWhoNeeds" (33 : Nat) "ToWhoNeeds$Law" ∈ WT := wt_of (List.mem_of_getElem? (i := 249) (by decide +kernel)) rfl
theorem t_186 : Jvm.Cond.classLink "ToWhoNeeds" (35 : Nat) "ToWhoNeeds$Sum" ∈ WT := wt_of (List.mem_of_getElem? (i := 251) (by decide +kernel)) rfl
theorem t_187 : Jvm.Cond.instantiable "ToWhoNeeds$Sum" (1 : Nat) ∈ WT := wt_of (List.mem_of_getElem? (i := 252) (by decide +kernel)) rfl
theorem t_188 : Jvm.Cond.methodLink "ToWhoNeeds" (37 : Nat) ({ cls := "ToWhoNeeds$Sum", name := "<init>", desc := "(I)V" } : Jvm.MethodName) ∈ WT := wt_of (List.mem_of_getElem? (i := 253) (by decide +kernel)) rfl
theorem t_189 : Jvm.Cond.instanceMethod ({ cls := "ToWhoNeeds$Sum", name := "<init>", desc := "(I)V" } : Jvm.MethodName) ∈ WT := wt_of (List.mem_of_getElem? (i := 254) (by decide +kernel)) rfl
theorem t_190 : Jvm.Cond.code ({ cls := "ToWhoNeeds$Sum", name := "<init>", desc := "(I)V" } : Jvm.MethodName) prog_12_method_1_code (2 : Nat) (Option.none : Option Jvm.ClassFile.FieldType) ∈ WT := wt_of (List.mem_of_getElem? (i := 255) (by decide +kernel)) rfl
theorem t_191 : Jvm.Cond.methodLink "ToWhoNeeds$Sum" (3 : Nat) ({ cls := "ToWhoNeeds$Law", name := "<init>", desc := "(I)V" } : Jvm.MethodName) ∈ WT := wt_of (List.mem_of_getElem? (i := 256) (by decide +kernel)) rfl
theorem t_192 : Jvm.Cond.instanceMethod ({ cls := "ToWhoNeeds$Law", name := "<init>", desc := "(I)V" } : Jvm.MethodName) ∈ WT := wt_of (List.mem_of_getElem? (i := 257) (by decide +kernel)) rfl
theorem t_193 : Jvm.Cond.code ({ cls := "ToWhoNeeds$Law", name := "<init>", desc := "(I)V" } : Jvm.MethodName) prog_2_method_1_code (2 : Nat) (Option.none : Option Jvm.ClassFile.FieldType) ∈ WT := wt_of (List.mem_of_getElem? (i := 258) (by decide +kernel)) rfl
theorem t_194 : Jvm.Cond.methodLink "ToWhoNeeds$Law" (3 : Nat) ({ cls := "java/lang/Object", name := "<init>", desc := "()V" } : Jvm.MethodName) ∈ WT := wt_of (List.mem_of_getElem? (i := 259) (by decide +kernel)) rfl
theorem t_199 : Jvm.Cond.classLink "ToWhoNeeds" (40 : Nat) "ToWhoNeeds$Met" ∈ WT := wt_of (List.mem_of_getElem? (i := 264) (by decide +kernel)) rfl
theorem t_200 : Jvm.Cond.instantiable "ToWhoNeeds$Met" (1 : Nat) ∈ WT := wt_of (List.mem_of_getElem? (i := 265) (by decide +kernel)) rfl
theorem t_201 : Jvm.Cond.methodLink "ToWhoNeeds" (42 : Nat) ({ cls := "ToWhoNeeds$Met", name := "<init>", desc := "()V" } : Jvm.MethodName) ∈ WT := wt_of (List.mem_of_getElem? (i := 266) (by decide +kernel)) rfl
theorem t_202 : Jvm.Cond.instanceMethod ({ cls := "ToWhoNeeds$Met", name := "<init>", desc := "()V" } : Jvm.MethodName) ∈ WT := wt_of (List.mem_of_getElem? (i := 267) (by decide +kernel)) rfl
theorem t_203 : Jvm.Cond.code ({ cls := "ToWhoNeeds$Met", name := "<init>", desc := "()V" } : Jvm.MethodName) prog_3_method_1_code (1 : Nat) (Option.none : Option Jvm.ClassFile.FieldType) ∈ WT := wt_of (List.mem_of_getElem? (i := 268) (by decide +kernel)) rfl
theorem t_204 : Jvm.Cond.methodLink "ToWhoNeeds$Met" (3 : Nat) ({ cls := "ToWhoNeeds$Sum", name := "<init>", desc := "(I)V" } : Jvm.MethodName) ∈ WT := wt_of (List.mem_of_getElem? (i := 269) (by decide +kernel)) rfl
theorem t_207 : Jvm.Cond.classLink "ToWhoNeeds" (43 : Nat) "ToWhoNeeds$Most" ∈ WT := wt_of (List.mem_of_getElem? (i := 272) (by decide +kernel)) rfl
theorem t_208 : Jvm.Cond.instantiable "ToWhoNeeds$Most" (1 : Nat) ∈ WT := wt_of (List.mem_of_getElem? (i := 273) (by decide +kernel)) rfl
theorem t_209 : Jvm.Cond.methodLink "ToWhoNeeds" (45 : Nat) ({ cls := "ToWhoNeeds$Most", name := "<init>", desc := "()V" } : Jvm.MethodName) ∈ WT := wt_of (List.mem_of_getElem? (i := 274) (by decide +kernel)) rfl
theorem t_210 : Jvm.Cond.instanceMethod ({ cls := "ToWhoNeeds$Most", name := "<init>", desc := "()V" } : Jvm.MethodName) ∈ WT := wt_of (List.mem_of_getElem? (i := 275) (by decide +kernel)) rfl
theorem t_211 : Jvm.Cond.code ({ cls := "ToWhoNeeds$Most", name := "<init>", desc := "()V" } : Jvm.MethodName) prog_5_method_1_code (1 : Nat) (Option.none : Option Jvm.ClassFile.FieldType) ∈ WT := wt_of (List.mem_of_getElem? (i := 276) (by decide +kernel)) rfl
theorem t_212 : Jvm.Cond.methodLink "ToWhoNeeds$Most" (3 : Nat) ({ cls := "ToWhoNeeds$Law", name := "<init>", desc := "(I)V" } : Jvm.MethodName) ∈ WT := wt_of (List.mem_of_getElem? (i := 277) (by decide +kernel)) rfl
theorem t_215 : Jvm.Cond.classLink "ToWhoNeeds" (46 : Nat) "ToWhoNeeds$Second" ∈ WT := wt_of (List.mem_of_getElem? (i := 280) (by decide +kernel)) rfl
theorem t_216 : Jvm.Cond.instantiable "ToWhoNeeds$Second" (1 : Nat) ∈ WT := wt_of (List.mem_of_getElem? (i := 281) (by decide +kernel)) rfl
theorem t_217 : Jvm.Cond.methodLink "ToWhoNeeds" (48 : Nat) ({ cls := "ToWhoNeeds$Second", name := "<init>", desc := "()V" } : Jvm.MethodName) ∈ WT := wt_of (List.mem_of_getElem? (i := 282) (by decide +kernel)) rfl
theorem t_218 : Jvm.Cond.instanceMethod ({ cls := "ToWhoNeeds$Second", name := "<init>", desc := "()V" } : Jvm.MethodName) ∈ WT := wt_of (List.mem_of_getElem? (i := 283) (by decide +kernel)) rfl
theorem t_219 : Jvm.Cond.code ({ cls := "ToWhoNeeds$Second", name := "<init>", desc := "()V" } : Jvm.MethodName) prog_10_method_1_code (1 : Nat) (Option.none : Option Jvm.ClassFile.FieldType) ∈ WT := wt_of (List.mem_of_getElem? (i := 284) (by decide +kernel)) rfl
theorem t_220 : Jvm.Cond.methodLink "ToWhoNeeds$Second" (1 : Nat) ({ cls := "ToWhoNeeds$Sum", name := "<init>", desc := "(I)V" } : Jvm.MethodName) ∈ WT := wt_of (List.mem_of_getElem? (i := 285) (by decide +kernel)) rfl
theorem t_223 : Jvm.Cond.classLink "ToWhoNeeds" (49 : Nat) "ToWhoNeeds$ReadOn" ∈ WT := wt_of (List.mem_of_getElem? (i := 288) (by decide +kernel)) rfl
theorem t_224 : Jvm.Cond.instantiable "ToWhoNeeds$ReadOn" (1 : Nat) ∈ WT := wt_of (List.mem_of_getElem? (i := 289) (by decide +kernel)) rfl
theorem t_226 : Jvm.Cond.instanceMethod ({ cls := "ToWhoNeeds$ReadOn", name := "<init>", desc := "()V" } : Jvm.MethodName) ∈ WT := wt_of (List.mem_of_getElem? (i := 291) (by decide +kernel)) rfl
theorem t_227 : Jvm.Cond.code ({ cls := "ToWhoNeeds$ReadOn", name := "<init>", desc := "()V" } : Jvm.MethodName) prog_8_method_1_code (1 : Nat) (Option.none : Option Jvm.ClassFile.FieldType) ∈ WT := wt_of (List.mem_of_getElem? (i := 292) (by decide +kernel)) rfl
theorem t_228 : Jvm.Cond.methodLink "ToWhoNeeds$ReadOn" (1 : Nat) ({ cls := "ToWhoNeeds$Met", name := "<init>", desc := "()V" } : Jvm.MethodName) ∈ WT := wt_of (List.mem_of_getElem? (i := 293) (by decide +kernel)) rfl
theorem t_231 : Jvm.Cond.classLink "ToWhoNeeds" (56 : Nat) "ToWhoNeeds$Numbers" ∈ WT := wt_of (List.mem_of_getElem? (i := 296) (by decide +kernel)) rfl
theorem t_232 : Jvm.Cond.methodLink "ToWhoNeeds" (58 : Nat) ({ cls := "ToWhoNeeds$Numbers", name := "<init>", desc := "(I)V" } : Jvm.MethodName) ∈ WT := wt_of (List.mem_of_getElem? (i := 297) (by decide +kernel)) rfl
theorem t_843 : Jvm.Cond.code ({ cls := "ToWhoNeedsModel", name := "<init>", desc := "()V" } : Jvm.MethodName) prog_14_method_1_code (1 : Nat) (Option.none : Option Jvm.ClassFile.FieldType) ∈ WT := wt_of (List.mem_of_getElem? (i := 908) (by decide +kernel)) rfl
theorem t_844 : Jvm.Cond.methodLink "ToWhoNeedsModel" (1 : Nat) ({ cls := "java/lang/Object", name := "<init>", desc := "()V" } : Jvm.MethodName) ∈ WT := wt_of (List.mem_of_getElem? (i := 909) (by decide +kernel)) rfl
theorem n_31 : Jvm.Cond.methodLinkNest "ToWhoNeeds" (9 : Nat) ({ cls := "ToWhoNeeds$State", name := "<init>", desc := "()V" } : Jvm.MethodName) "ToWhoNeeds" ∈ NW := List.mem_filter.mpr ⟨List.mem_of_getElem? (i := 31) (by decide +kernel), rfl⟩
theorem n_37 : Jvm.Cond.methodLinkNest "ToWhoNeeds$State" (11 : Nat) ({ cls := "ToWhoNeeds$People", name := "<init>", desc := "()V" } : Jvm.MethodName) "ToWhoNeeds" ∈ NW := List.mem_filter.mpr ⟨List.mem_of_getElem? (i := 37) (by decide +kernel), rfl⟩
theorem n_135 : Jvm.Cond.methodLinkNest "ToWhoNeeds" (21 : Nat) ({ cls := "ToWhoNeeds$Reader", name := "<init>", desc := "()V" } : Jvm.MethodName) "ToWhoNeeds" ∈ NW := List.mem_filter.mpr ⟨List.mem_of_getElem? (i := 135) (by decide +kernel), rfl⟩
theorem n_142 : Jvm.Cond.methodLinkNest "ToWhoNeeds$Reader" (22 : Nat) ({ cls := "ToWhoNeeds$State", name := "<init>", desc := "()V" } : Jvm.MethodName) "ToWhoNeeds" ∈ NW := List.mem_filter.mpr ⟨List.mem_of_getElem? (i := 142) (by decide +kernel), rfl⟩
theorem n_159 : Jvm.Cond.methodLinkNest "ToWhoNeeds" (28 : Nat) ({ cls := "ToWhoNeeds$Mind", name := "<init>", desc := "()V" } : Jvm.MethodName) "ToWhoNeeds" ∈ NW := List.mem_filter.mpr ⟨List.mem_of_getElem? (i := 159) (by decide +kernel), rfl⟩
theorem n_164 : Jvm.Cond.methodLinkNest "ToWhoNeeds$Mind" (11 : Nat) ({ cls := "ToWhoNeeds$People", name := "<init>", desc := "()V" } : Jvm.MethodName) "ToWhoNeeds" ∈ NW := List.mem_filter.mpr ⟨List.mem_of_getElem? (i := 164) (by decide +kernel), rfl⟩
theorem n_225 : Jvm.Cond.methodLinkNest "ToWhoNeeds" (51 : Nat) ({ cls := "ToWhoNeeds$ReadOn", name := "<init>", desc := "()V" } : Jvm.MethodName) "ToWhoNeeds" ∈ NW := List.mem_filter.mpr ⟨List.mem_of_getElem? (i := 225) (by decide +kernel), rfl⟩
