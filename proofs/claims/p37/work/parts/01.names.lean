def RX0 : String := "ToWhoNeeds$Law"
abbrev cX0_init : ByteArray := prog_2_method_1_code
def yX0_init : MethodName := ⟨RX0, "<init>", "(I)V"⟩
def RX1 : String := "ToWhoNeeds$Met"
def TX1 : u_T := fun k => match k with
  | _ => ("ToWhoNeeds$Law", "place", "I", true)
def tyX1 : Nat → FieldType := fun k => match k with
  | _ => .int
theorem nmX1 : ∀ a, a < 1 → ∀ b, b < 1 → a ≠ b → (TX1 a).2.1 ≠ (TX1 b).2.1 := by decide +kernel
theorem tyX1_ok : ∀ k, k < 1 → parseFieldDescriptor (TX1 k).2.2.1 = some (tyX1 k) := by decide +kernel
abbrev cX1_init : ByteArray := prog_3_method_1_code
def yX1_init : MethodName := ⟨RX1, "<init>", "()V"⟩
def RX2 : String := "ToWhoNeeds$Mind"
def TX2 : u_T := fun k => match k with
  | 0 => ("ToWhoNeeds$Mind", "thought", "LToWhoNeeds$People;", true)
  | 1 => ("ToWhoNeeds$Mind", "further", "LToWhoNeeds$People;", true)
  | 2 => ("ToWhoNeeds$Mind", "line", "LToWhoNeeds$Numbers;", true)
  | 3 => ("ToWhoNeeds$Mind", "bestLine", "LToWhoNeeds$Numbers;", true)
  | _ => ("ToWhoNeeds$Mind", "seed", "I", false)
def tyX2 : Nat → FieldType := fun k => match k with
  | 0 => .object "ToWhoNeeds$People"
  | 1 => .object "ToWhoNeeds$People"
  | 2 => .object "ToWhoNeeds$Numbers"
  | 3 => .object "ToWhoNeeds$Numbers"
  | _ => .int
theorem nmX2 : ∀ a, a < 5 → ∀ b, b < 5 → a ≠ b → (TX2 a).2.1 ≠ (TX2 b).2.1 := by decide +kernel
theorem tyX2_ok : ∀ k, k < 5 → parseFieldDescriptor (TX2 k).2.2.1 = some (tyX2 k) := by decide +kernel
abbrev cX2_init : ByteArray := prog_4_method_1_code
def yX2_init : MethodName := ⟨RX2, "<init>", "()V"⟩
def RX3 : String := "ToWhoNeeds$Most"
def TX3 : u_T := fun k => match k with
  | _ => ("ToWhoNeeds$Law", "place", "I", true)
def tyX3 : Nat → FieldType := fun k => match k with
  | _ => .int
theorem nmX3 : ∀ a, a < 1 → ∀ b, b < 1 → a ≠ b → (TX3 a).2.1 ≠ (TX3 b).2.1 := by decide +kernel
theorem tyX3_ok : ∀ k, k < 1 → parseFieldDescriptor (TX3 k).2.2.1 = some (tyX3 k) := by decide +kernel
abbrev cX3_init : ByteArray := prog_5_method_1_code
def yX3_init : MethodName := ⟨RX3, "<init>", "()V"⟩
def RX4 : String := "ToWhoNeeds$Numbers"
def TX4 : u_T := fun k => match k with
  | 0 => ("ToWhoNeeds$Numbers", "items", "[I", true)
  | _ => ("ToWhoNeeds$Numbers", "size", "I", false)
def tyX4 : Nat → FieldType := fun k => match k with
  | 0 => .array .int
  | _ => .int
theorem nmX4 : ∀ a, a < 2 → ∀ b, b < 2 → a ≠ b → (TX4 a).2.1 ≠ (TX4 b).2.1 := by decide +kernel
theorem tyX4_ok : ∀ k, k < 2 → parseFieldDescriptor (TX4 k).2.2.1 = some (tyX4 k) := by decide +kernel
abbrev cX4_init : ByteArray := prog_6_method_1_code
def yX4_init : MethodName := ⟨RX4, "<init>", "(I)V"⟩
def RX5 : String := "ToWhoNeeds$People"
def TX5 : u_T := fun k => match k with
  | 0 => ("ToWhoNeeds$People", "needs", "[I", true)
  | 1 => ("ToWhoNeeds$People", "growths", "[I", true)
  | _ => ("ToWhoNeeds$People", "size", "I", false)
def tyX5 : Nat → FieldType := fun k => match k with
  | 0 => .array .int
  | 1 => .array .int
  | _ => .int
theorem nmX5 : ∀ a, a < 3 → ∀ b, b < 3 → a ≠ b → (TX5 a).2.1 ≠ (TX5 b).2.1 := by decide +kernel
theorem tyX5_ok : ∀ k, k < 3 → parseFieldDescriptor (TX5 k).2.2.1 = some (tyX5 k) := by decide +kernel
abbrev cX5_init : ByteArray := prog_7_method_1_code
def yX5_init : MethodName := ⟨RX5, "<init>", "()V"⟩
def RX6 : String := "ToWhoNeeds$ReadOn"
def TX6 : u_T := fun k => match k with
  | _ => ("ToWhoNeeds$Law", "place", "I", true)
def tyX6 : Nat → FieldType := fun k => match k with
  | _ => .int
theorem nmX6 : ∀ a, a < 1 → ∀ b, b < 1 → a ≠ b → (TX6 a).2.1 ≠ (TX6 b).2.1 := by decide +kernel
theorem tyX6_ok : ∀ k, k < 1 → parseFieldDescriptor (TX6 k).2.2.1 = some (tyX6 k) := by decide +kernel
abbrev cX6_init : ByteArray := prog_8_method_1_code
def yX6_init : MethodName := ⟨RX6, "<init>", "()V"⟩
def RX7 : String := "ToWhoNeeds$Reader"
def TX7 : u_T := fun k => match k with
  | 0 => ("ToWhoNeeds$Reader", "text", "LToWhoNeeds$Numbers;", true)
  | 1 => ("ToWhoNeeds$Reader", "draft", "LToWhoNeeds$State;", true)
  | 2 => ("ToWhoNeeds$Reader", "numbers", "[I", true)
  | _ => ("ToWhoNeeds$Reader", "at", "I", false)
def tyX7 : Nat → FieldType := fun k => match k with
  | 0 => .object "ToWhoNeeds$Numbers"
  | 1 => .object "ToWhoNeeds$State"
  | 2 => .array .int
  | _ => .int
theorem nmX7 : ∀ a, a < 4 → ∀ b, b < 4 → a ≠ b → (TX7 a).2.1 ≠ (TX7 b).2.1 := by decide +kernel
theorem tyX7_ok : ∀ k, k < 4 → parseFieldDescriptor (TX7 k).2.2.1 = some (tyX7 k) := by decide +kernel
abbrev cX7_init : ByteArray := prog_9_method_1_code
def yX7_init : MethodName := ⟨RX7, "<init>", "()V"⟩
def RX8 : String := "ToWhoNeeds$Second"
def TX8 : u_T := fun k => match k with
  | _ => ("ToWhoNeeds$Law", "place", "I", true)
def tyX8 : Nat → FieldType := fun k => match k with
  | _ => .int
theorem nmX8 : ∀ a, a < 1 → ∀ b, b < 1 → a ≠ b → (TX8 a).2.1 ≠ (TX8 b).2.1 := by decide +kernel
theorem tyX8_ok : ∀ k, k < 1 → parseFieldDescriptor (TX8 k).2.2.1 = some (tyX8 k) := by decide +kernel
abbrev cX8_init : ByteArray := prog_10_method_1_code
def yX8_init : MethodName := ⟨RX8, "<init>", "()V"⟩
def RX9 : String := "ToWhoNeeds$State"
def TX9 : u_T := fun k => match k with
  | 0 => ("ToWhoNeeds$State", "people", "LToWhoNeeds$People;", true)
  | 1 => ("ToWhoNeeds$State", "kinds", "LToWhoNeeds$Numbers;", true)
  | 2 => ("ToWhoNeeds$State", "aims", "LToWhoNeeds$Numbers;", true)
  | 3 => ("ToWhoNeeds$State", "letters", "LToWhoNeeds$Numbers;", true)
  | 4 => ("ToWhoNeeds$State", "told", "LToWhoNeeds$Numbers;", true)
  | 5 => ("ToWhoNeeds$State", "wentLetter", "LToWhoNeeds$Numbers;", true)
  | 6 => ("ToWhoNeeds$State", "wentTo", "LToWhoNeeds$Numbers;", true)
  | 7 => ("ToWhoNeeds$State", "law", "I", false)
  | 8 => ("ToWhoNeeds$State", "err", "I", false)
  | 9 => ("ToWhoNeeds$State", "day", "I", false)
  | _ => ("ToWhoNeeds$State", "posted", "I", false)
def tyX9 : Nat → FieldType := fun k => match k with
  | 0 => .object "ToWhoNeeds$People"
  | 1 => .object "ToWhoNeeds$Numbers"
  | 2 => .object "ToWhoNeeds$Numbers"
  | 3 => .object "ToWhoNeeds$Numbers"
  | 4 => .object "ToWhoNeeds$Numbers"
  | 5 => .object "ToWhoNeeds$Numbers"
  | 6 => .object "ToWhoNeeds$Numbers"
  | 7 => .int
  | 8 => .int
  | 9 => .int
  | _ => .int
theorem nmX9 : ∀ a, a < 11 → ∀ b, b < 11 → a ≠ b → (TX9 a).2.1 ≠ (TX9 b).2.1 := by decide +kernel
theorem tyX9_ok : ∀ k, k < 11 → parseFieldDescriptor (TX9 k).2.2.1 = some (tyX9 k) := by decide +kernel
abbrev cX9_init : ByteArray := prog_11_method_1_code
def yX9_init : MethodName := ⟨RX9, "<init>", "()V"⟩
def RX10 : String := "ToWhoNeeds$Sum"
def TX10 : u_T := fun k => match k with
  | _ => ("ToWhoNeeds$Law", "place", "I", true)
def tyX10 : Nat → FieldType := fun k => match k with
  | _ => .int
theorem nmX10 : ∀ a, a < 1 → ∀ b, b < 1 → a ≠ b → (TX10 a).2.1 ≠ (TX10 b).2.1 := by decide +kernel
theorem tyX10_ok : ∀ k, k < 1 → parseFieldDescriptor (TX10 k).2.2.1 = some (tyX10 k) := by decide +kernel
abbrev cX10_init : ByteArray := prog_12_method_1_code
def yX10_init : MethodName := ⟨RX10, "<init>", "(I)V"⟩
def RX11 : String := "ToWhoNeeds"
def TX11 : u_T := fun k => match k with
  | 0 => ("ToWhoNeeds", "state", "LToWhoNeeds$State;", true)
  | 1 => ("ToWhoNeeds", "kept", "LToWhoNeeds$State;", true)
  | 2 => ("ToWhoNeeds", "reader", "LToWhoNeeds$Reader;", true)
  | 3 => ("ToWhoNeeds", "mind", "LToWhoNeeds$Mind;", true)
  | 4 => ("ToWhoNeeds", "kindsOfLaw", "[LToWhoNeeds$Law;", true)
  | 5 => ("ToWhoNeeds", "row", "LToWhoNeeds$Numbers;", true)
  | 6 => ("ToWhoNeeds", "refused", "[I", true)
  | _ => ("ToWhoNeeds", "isKept", "Z", false)
def tyX11 : Nat → FieldType := fun k => match k with
  | 0 => .object "ToWhoNeeds$State"
  | 1 => .object "ToWhoNeeds$State"
  | 2 => .object "ToWhoNeeds$Reader"
  | 3 => .object "ToWhoNeeds$Mind"
  | 4 => .array (.object "ToWhoNeeds$Law")
  | 5 => .object "ToWhoNeeds$Numbers"
  | 6 => .array .int
  | _ => .boolean
theorem nmX11 : ∀ a, a < 8 → ∀ b, b < 8 → a ≠ b → (TX11 a).2.1 ≠ (TX11 b).2.1 := by decide +kernel
theorem tyX11_ok : ∀ k, k < 8 → parseFieldDescriptor (TX11 k).2.2.1 = some (tyX11 k) := by decide +kernel
abbrev cX11_init : ByteArray := prog_1_method_1_code
def yX11_init : MethodName := ⟨RX11, "<init>", "()V"⟩
def RX12 : String := "ToWhoNeedsModel"
def TX12 : u_T := fun k => match k with
  | 0 => ("ToWhoNeedsModel", "refused", "[I", true)
  | 1 => ("ToWhoNeedsModel", "need", "[I", true)
  | 2 => ("ToWhoNeedsModel", "growth", "[I", true)
  | 3 => ("ToWhoNeedsModel", "kind", "[I", true)
  | 4 => ("ToWhoNeedsModel", "his", "[I", true)
  | 5 => ("ToWhoNeedsModel", "told", "[I", true)
  | 6 => ("ToWhoNeedsModel", "ordered", "[I", true)
  | 7 => ("ToWhoNeedsModel", "goingLetter", "[I", true)
  | 8 => ("ToWhoNeedsModel", "goingTo", "[I", true)
  | 9 => ("ToWhoNeedsModel", "persons", "I", false)
  | 10 => ("ToWhoNeedsModel", "writers", "I", false)
  | 11 => ("ToWhoNeedsModel", "law", "I", false)
  | 12 => ("ToWhoNeedsModel", "err", "I", false)
  | 13 => ("ToWhoNeedsModel", "orders", "I", false)
  | 14 => ("ToWhoNeedsModel", "goings", "I", false)
  | 15 => ("ToWhoNeedsModel", "day", "I", false)
  | 16 => ("ToWhoNeedsModel", "posted", "I", false)
  | 17 => ("ToWhoNeedsModel", "tape", "[I", true)
  | 18 => ("ToWhoNeedsModel", "letter", "[I", true)
  | 19 => ("ToWhoNeedsModel", "letterAt", "[I", true)
  | 20 => ("ToWhoNeedsModel", "one", "[I", true)
  | 21 => ("ToWhoNeedsModel", "other", "[I", true)
  | 22 => ("ToWhoNeedsModel", "third", "[I", true)
  | 23 => ("ToWhoNeedsModel", "fourth", "[I", true)
  | 24 => ("ToWhoNeedsModel", "fifth", "[I", true)
  | 25 => ("ToWhoNeedsModel", "taped", "I", false)
  | 26 => ("ToWhoNeedsModel", "at", "I", false)
  | 27 => ("ToWhoNeedsModel", "statements", "I", false)
  | 28 => ("ToWhoNeedsModel", "kept", "[I", true)
  | 29 => ("ToWhoNeedsModel", "needs", "[I", true)
  | 30 => ("ToWhoNeedsModel", "hasImage", "Z", false)
  | 31 => ("ToWhoNeedsModel", "isKeeping", "Z", false)
  | 32 => ("ToWhoNeedsModel", "cursor", "I", false)
  | 33 => ("ToWhoNeedsModel", "had", "I", false)
  | 34 => ("ToWhoNeedsModel", "place", "[I", true)
  | 35 => ("ToWhoNeedsModel", "bestPlace", "[I", true)
  | 36 => ("ToWhoNeedsModel", "lots", "I", false)
  | 37 => ("ToWhoNeedsModel", "row", "[I", true)
  | _ => ("ToWhoNeedsModel", "rowMany", "I", false)
def tyX12 : Nat → FieldType := fun k => match k with
  | 0 => .array .int
  | 1 => .array .int
  | 2 => .array .int
  | 3 => .array .int
  | 4 => .array .int
  | 5 => .array .int
  | 6 => .array .int
  | 7 => .array .int
  | 8 => .array .int
  | 9 => .int
  | 10 => .int
  | 11 => .int
  | 12 => .int
  | 13 => .int
  | 14 => .int
  | 15 => .int
  | 16 => .int
  | 17 => .array .int
  | 18 => .array .int
  | 19 => .array .int
  | 20 => .array .int
  | 21 => .array .int
  | 22 => .array .int
  | 23 => .array .int
  | 24 => .array .int
  | 25 => .int
  | 26 => .int
  | 27 => .int
  | 28 => .array .int
  | 29 => .array .int
  | 30 => .boolean
  | 31 => .boolean
  | 32 => .int
  | 33 => .int
  | 34 => .array .int
  | 35 => .array .int
  | 36 => .int
  | 37 => .array .int
  | _ => .int
theorem nmX12 : ∀ a, a < 39 → ∀ b, b < 39 → a ≠ b → (TX12 a).2.1 ≠ (TX12 b).2.1 := by decide +kernel
theorem tyX12_ok : ∀ k, k < 39 → parseFieldDescriptor (TX12 k).2.2.1 = some (tyX12 k) := by decide +kernel
abbrev cX12_init : ByteArray := prog_14_method_1_code
def yX12_init : MethodName := ⟨RX12, "<init>", "()V"⟩
def RL : String := "ToWhoNeedsLaw"
abbrev cL_law : ByteArray := code
