abbrev Sg : Type := Nat → Nat → Int32
abbrev Ev : Type := va_G × (Nat → Nat) × (Nat → Nat)
abbrev Yv : Type := MethodName × ByteArray × Nat × Option FieldType × Nat × Nat
abbrev Xv : Type := Program × Launch × Env × State × MethodId × Array Value × List Frame × Method × Code
abbrev Pv : Type := Option Value × Sg
def kdL : List (Nat × Nat) := [(0, 0), (1, 0), (2, 0), (8, 24), (8, 6), (3, 0), (8, 4), (3, 0), (8, 4), (3, 0), (8, 4), (3, 0), (8, 5), (3, 0), (8, 6), (3, 0), (8, 6), (1, 0), (2, 0), (8, 24), (8, 6), (3, 0), (8, 4), (3, 0), (8, 4), (3, 0), (8, 4), (3, 0), (8, 5), (3, 0), (8, 6), (3, 0), (8, 6), (4, 0), (3, 0), (8, 64), (1, 0), (2, 0), (8, 24), (8, 6), (3, 0), (8, 4), (3, 0), (8, 4), (3, 0), (8, 4), (3, 0), (8, 5), (3, 0), (8, 6), (3, 0), (8, 6), (8, 5), (5, 0), (2, 0), (8, 24), (8, 6), (2, 0), (8, 24), (8, 6), (3, 0), (8, 5), (3, 0), (8, 5), (9, 5), (6, 9), (6, 0), (6, 2), (6, 7), (6, 5), (3, 0), (8, 8), (8, 7), (7, 0), (8, 7), (8, 24), (8, 6), (8, 4), (8, 4), (8, 4), (8, 5), (8, 6), (8, 6), (8, 64), (8, 32), (8, 32), (8, 32), (8, 32), (8, 32), (8, 32), (8, 32), (8, 300), (8, 120), (8, 5), (8, 5), (8, 8)]
def kd (q : Nat) : Nat × Nat := kdL.getD q (99, 0)
abbrev vwC : List vw_C := [(RX1, TX1, 1), (RX2, TX2, 5), (RX3, TX3, 1), (RX4, TX4, 2), (RX5, TX5, 3), (RX6, TX6, 1), (RX7, TX7, 4), (RX8, TX8, 1), (RX9, TX9, 11), (RX10, TX10, 1), (RX11, TX11, 8), (RX12, TX12, 39)]
abbrev fs_0 (E : Ev) (σ : Sg) (q : Nat) : List Value := [.ref (E.2.1 1), .ref (E.2.1 17), .ref (E.2.1 33), .ref (E.2.1 53), .ref (E.2.1 64), .ref (E.2.1 70), .ref (E.2.1 72), .int (σ q 7)]
abbrev fs_1 (E : Ev) (σ : Sg) (q : Nat) : List Value := [.ref (E.2.1 (q + 1)), .ref (E.2.1 (q + 4)), .ref (E.2.1 (q + 6)), .ref (E.2.1 (q + 8)), .ref (E.2.1 (q + 10)), .ref (E.2.1 (q + 12)), .ref (E.2.1 (q + 14)), .int (σ q 7), .int (σ q 8), .int (σ q 9), .int (σ q 10)]
abbrev fs_2 (E : Ev) (σ : Sg) (q : Nat) : List Value := [.ref (E.2.1 (q + 1)), .ref (E.2.1 (q + 2)), .int (σ q 2)]
abbrev fs_3 (E : Ev) (σ : Sg) (q : Nat) : List Value := [.ref (E.2.1 (q + 1)), .int (σ q 1)]
abbrev fs_4 (E : Ev) (σ : Sg) (q : Nat) : List Value := [.ref (E.2.1 34), .ref (E.2.1 36), .ref (E.2.1 52), .int (σ q 3)]
abbrev fs_5 (E : Ev) (σ : Sg) (q : Nat) : List Value := [.ref (E.2.1 54), .ref (E.2.1 57), .ref (E.2.1 60), .ref (E.2.1 62), .int (σ q 4)]
abbrev fs_6 (_ : Ev) (σ : Sg) (q : Nat) : List Value := [.int (σ q 0)]
abbrev fs_7 (E : Ev) (σ : Sg) (q : Nat) : List Value := [.ref (E.2.1 74), .ref (E.2.1 75), .ref (E.2.1 76), .ref (E.2.1 77), .ref (E.2.1 78), .ref (E.2.1 79), .ref (E.2.1 80), .ref (E.2.1 81), .ref (E.2.1 82), .int (σ q 9), .int (σ q 10), .int (σ q 11), .int (σ q 12), .int (σ q 13), .int (σ q 14), .int (σ q 15), .int (σ q 16), .ref (E.2.1 83), .ref (E.2.1 84), .ref (E.2.1 85), .ref (E.2.1 86), .ref (E.2.1 87), .ref (E.2.1 88), .ref (E.2.1 89), .ref (E.2.1 90), .int (σ q 25), .int (σ q 26), .int (σ q 27), .ref (E.2.1 91), .ref (E.2.1 92), .int (σ q 30), .int (σ q 31), .int (σ q 32), .int (σ q 33), .ref (E.2.1 93), .ref (E.2.1 94), .int (σ q 36), .ref (E.2.1 95), .int (σ q 38)]
def lawsAt (E : Ev) (j : Nat) : Option Nat := if j < 5 then some (E.2.1 (65 + j)) else none
def wc (E : Ev) (σ : Sg) (q : Nat) : va_E := match (kd q).1 with
  | 0 => .inr (10, fs_0 E σ q)
  | 1 => .inr (8, fs_1 E σ q)
  | 2 => .inr (4, fs_2 E σ q)
  | 3 => .inr (3, fs_3 E σ q)
  | 4 => .inr (6, fs_4 E σ q)
  | 5 => .inr (1, fs_5 E σ q)
  | 6 => .inr ((kd q).2, fs_6 E σ q)
  | 7 => .inr (11, fs_7 E σ q)
  | 8 => .inl (E.2.2 0, (kd q).2, .inl (σ q))
  | _ => .inl (E.2.2 1, (kd q).2, .inr (.inr (.inr (.inr (lawsAt E)))))
def wl (E : Ev) (σ : Sg) : va_W := (List.range 96).map (fun q => (E.2.1 q, wc E σ q))
theorem wl_get (E : Ev) (σ : Sg) {q : Nat} (h : q < 96) : (wl E σ)[q]? = some (E.2.1 q, wc E σ q) := by
  simp [wl, List.getElem?_map, List.getElem?_range h]
def Aw (E : Ev) : Nat → Prop := fun a => ∃ k, k < 96 ∧ a = E.2.1 k
def Inj (E : Ev) : Prop := ∀ i j, i < 96 → j < 96 → E.2.1 i = E.2.1 j → i = j
/-- the words that travel -/
def WT : List Cond := lw_tbl.filter goodWord
theorem wt_of {w : Cond} (h : w ∈ lw_tbl) (hg : goodWord w = true) : w ∈ WT := List.mem_filter.mpr ⟨h, hg⟩
theorem wt_good {y : MethodName} {cc : ByteArray} {n : Nat} {r : Option FieldType} (h : Cond.code y cc n r ∈ WT) : GoodIn WT (Cond.code y cc n r :: WT) := by
  intro w hw
  have hm : w ∈ WT := by
    rcases List.mem_cons.mp hw with rfl | hw
    · exact h
    · exact hw
  exact ⟨hm, good_of_word (List.mem_filter.mp hm).2⟩
/-- the words of nest mates' members: they are carried in the start -/
def isNest : Cond → Bool
  | .fieldLinkNest _ _ _ _ _ _ => true
  | .methodLinkNest _ _ _ _ => true
  | .declares _ => true
  | _ => false
def NW : List Cond := tables_1.filter isNest
def twoL : List Int32 := [0, 1, 2, 10, 11, 12, 20, 21, 22, 100, 101, 102, 110, 111, 112, 120, 121, 122, 200, 201, 202, 210, 211, 212, 220, 221, 222, 1000, 1001, 1002, 1010, 1011, 1012, 1020, 1021, 1022, 1100, 1101, 1102, 1110, 1111, 1112, 1120, 1121, 1122, 1200, 1201, 1202, 1210, 1211, 1212, 1220, 1221, 1222, 2000, 2001, 2002, 2010, 2011, 2012, 2020, 2021, 2022, 2100, 2101, 2102, 2110, 2111, 2112, 2120, 2121, 2122, 2200, 2201, 2202, 2210, 2211, 2212, 2220, 2221, 2222]
def twoV (j : Nat) : Value := .int (twoL.getD j 0)
def digL : List Int32 := [1, 10, 100, 1000]
def digV (j : Nat) : Value := .int (digL.getD j 0)
def Amb (E : Ev) (U : State) : Prop := va_K E.1 vwC [(E.2.2 0, .int), (E.2.2 1, .object "ToWhoNeeds$Law")] U ∧ (∀ w ∈ NW, va_Nw w U) ∧ (va_Z "ToWhoNeeds" "TWO" "[I" (.ref (E.2.2 2)) (Aw E) U U.heap ∧ va_T .int (E.2.2 2) 81 twoV (Aw E) U U.heap) ∧ (va_Z "ToWhoNeeds" "DIGIT" "[I" (.ref (E.2.2 3)) (Aw E) U U.heap ∧ va_T .int (E.2.2 3) 4 digV (Aw E) U U.heap) ∧ Inj E ∧ (vk_R "ToWhoNeeds$Reader" 80 "pamth" (E.2.2 4) U ∧ vk_S 1 [5] [[112, 97, 109, 116, 104]] (fun _ => E.2.2 4) (fun _ => E.2.2 5) (Aw E) U U.heap) ∧ (va_Z "java/lang/String" "COMPACT_STRINGS" "Z" (.int 1) (Aw E) U U.heap ∧ va_Zq "jdk/internal/util/Preconditions" "SIOOBE_FORMATTER" "Ljava/util/function/BiFunction;" (Aw E) U U.heap)
theorem nw_moved {s U : State} (hW : s.WarmedH U.vm) (h : ∀ w ∈ NW, va_Nw w s) : ∀ w ∈ NW, va_Nw w U := by
  intro w hw
  have h1 := h w hw
  have h2 := (List.mem_filter.mp hw).2
  cases w <;> first | exact va_Nw.warmF hW h1 | exact va_Nw.warmM hW h1 | exact va_Nw.warmD hW h1 | (exact absurd h2 (by simp [isNest]))
theorem Amb.mov {E : Ev} {s U : State} {H : Heap} {locs : List Loc} (h : Amb E s) (hS : va_S (Aw E) s.heap H locs) (hU : U.heap = H) (hW : s.WarmedH U.vm) : Amb E U := by
  obtain ⟨h1, h2, ⟨h3, h4⟩, ⟨h5, h6⟩, h7, ⟨h8, h9⟩, h10, h11⟩ := h
  subst hU
  have hk : ∀ a : Nat, a < s.heap.size → ¬ Aw E a → U.heap[a]? = s.heap[a]? := hS.2.1
  exact ⟨h1.moved hW.alike, nw_moved hW h2, ⟨(h3.kept hk).moved hW.alike, (h4.kept hk).moved hW.alike⟩, ⟨(h5.kept hk).moved hW.alike, (h6.kept hk).moved hW.alike⟩, h7, ⟨h8.warm hW, (h9.kept hk).moved hW.alike⟩, (h10.kept hk).moved hW.alike, (h11.kept hk).moved hW.alike⟩
def Post (E : Ev) (P : Pv) : Array Value → State → Outcome → State → Prop := fun _ st o t => (o = .returned P.1 ∧ va_P E.1 vwC (wl E P.2) t.heap) ∧ va_F (Aw E) st t
section ZROWS
variable {E : Ev} {X : Xv} {Y : Yv} {P : Pv} {σ : Sg} {pc : Nat} {lv : List (Nat × Value)} {st : List Value}
theorem wc_arr {q n : Nat} (h : kd q = (8, n)) : wc E σ q = .inl (E.2.2 0, n, .inl (σ q)) := by
  unfold wc
  rw [h]
  rfl
theorem Amb.calling {U : State} {g : JFrame} {mk : MethodId} {a : Array Value} (h : Amb E U) : Amb E (U.calling g mk a) := by
  obtain ⟨h1, h2, ⟨h3, h4⟩, ⟨h5, h6⟩, h7, ⟨h8, h9⟩, h10, h11⟩ := h
  have ha : U.vm.Alike (U.calling g mk a).vm := Vm.Alike.refl U.vm
  refine ⟨va_K.moved (u := U) ha h1, fun w hw => ?_, ⟨va_Z.moved (u := U) ha h3, va_T.moved (u := U) ha h4⟩, ⟨va_Z.moved (u := U) ha h5, va_T.moved (u := U) ha h6⟩, h7, ⟨vk_R.same (u := U) rfl h8, vk_S.moved (u := U) ha h9⟩, va_Z.moved (u := U) ha h10, va_Zq.moved (u := U) ha h11⟩
  have h1 := h2 w hw
  have h2 := (List.mem_filter.mp hw).2
  cases w <;> first | exact va_Nw.same (u := U) rfl rfl h1 | (exact absurd h2 (by simp [isNest]))
/-- the words of a callee that a caller shows -/
def Lk (Y Y2 : Yv) (n : Nat) : Prop := Cond.code Y2.1 Y2.2.1 Y2.2.2.1 Y2.2.2.2.1 ∈ WT ∧ Cond.initialized Y2.1.cls ∈ WT ∧ (Y2.1.cls ≠ "java/lang/invoke/MethodHandle" ∧ Y2.1.cls ≠ "java/lang/invoke/VarHandle") ∧ (parseMethodDescriptor Y2.1.desc).map (fun d => d.parameters.length) = some n
theorem len_of {x : MethodName} {n : Nat} (h : (parseMethodDescriptor x.desc).map (fun d => d.parameters.length) = some n) : ∀ sig, parseMethodDescriptor x.desc = some sig → n = sig.parameters.length := by
  intro sig hs
  rw [hs] at h
  exact (Option.some.inj h).symm
end ZROWS
