abbrev Sg : Type := Nat → Nat → Int32
abbrev Ev : Type := va_G × (Nat → Nat) × (Nat → Nat)
abbrev Yv : Type := MethodName × ByteArray × Nat × Option FieldType × Nat × Nat
abbrev Xv : Type := Program × Launch × Env × State × MethodId × Array Value × List Frame × Method × Code
abbrev Pv : Type := Option Value × Sg
/-- one row of the store anew -/
def sgr (σ : Sg) (q : Nat) (f : Nat → Int32) : Sg := fun a => if a = q then f else σ a
/-- one number of the store anew -/
def sgs (σ : Sg) (q k : Nat) (v : Int32) : Sg := sgr σ q (upd (σ q) k v)
def jrem (x y : Int32) : Int32 := x - x / y * y
def kdL : List (Nat × Nat) := [(0, 0), (1, 0), (2, 0), (8, 24), (8, 6), (3, 0), (8, 4), (3, 0), (8, 4), (3, 0), (8, 4), (3, 0), (8, 5), (3, 0), (8, 6), (3, 0), (8, 6), (1, 0), (2, 0), (8, 24), (8, 6), (3, 0), (8, 4), (3, 0), (8, 4), (3, 0), (8, 4), (3, 0), (8, 5), (3, 0), (8, 6), (3, 0), (8, 6), (4, 0), (3, 0), (8, 64), (1, 0), (2, 0), (8, 24), (8, 6), (3, 0), (8, 4), (3, 0), (8, 4), (3, 0), (8, 4), (3, 0), (8, 5), (3, 0), (8, 6), (3, 0), (8, 6), (8, 5), (5, 0), (2, 0), (8, 24), (8, 6), (2, 0), (8, 24), (8, 6), (3, 0), (8, 5), (3, 0), (8, 5), (9, 5), (6, 9), (6, 0), (6, 2), (6, 7), (6, 5), (3, 0), (8, 8), (8, 7), (7, 0), (8, 7), (8, 24), (8, 6), (8, 4), (8, 4), (8, 4), (8, 5), (8, 6), (8, 6), (8, 64), (8, 32), (8, 32), (8, 32), (8, 32), (8, 32), (8, 32), (8, 32), (8, 300), (8, 120), (8, 5), (8, 5), (8, 8)]
def kd (q : Nat) : Nat × Nat := kdL.getD q (99, 0)
abbrev vwC : List vw_C := [(RX1, TX1, 1), (RX2, TX2, 5), (RX3, TX3, 1), (RX4, TX4, 2), (RX5, TX5, 3), (RX6, TX6, 1), (RX7, TX7, 4), (RX8, TX8, 1), (RX9, TX9, 11), (RX10, TX10, 1), (RX11, TX11, 8), (RX12, TX12, 39)]
abbrev fs_0 (E : Ev) (σ : Sg) (q : Nat) : List Value := [.ref (E.2.1 1), .ref (E.2.1 17), .ref (E.2.1 33), .ref (E.2.1 53), .ref (E.2.1 64), .ref (E.2.1 70), .ref (E.2.1 72), .int (σ q 7)]
abbrev fs_1 (E : Ev) (σ : Sg) (q : Nat) : List Value := [.ref (E.2.1 (q + 1)), .ref (E.2.1 (q + 4)), .ref (E.2.1 (q + 6)), .ref (E.2.1 (q + 8)), .ref (E.2.1 (q + 10)), .ref (E.2.1 (q + 12)), .ref (E.2.1 (q + 14)), .int (σ q 7), .int (σ q 8), .int (σ q 9), .int (σ q 10)]
abbrev fs_2 (E : Ev) (σ : Sg) (q : Nat) : List Value := [.ref (E.2.1 (q + 1)), .ref (E.2.1 (q + 2)), .int (σ q 2)]
abbrev fs_3 (E : Ev) (σ : Sg) (q : Nat) : List Value := [.ref (E.2.1 (q + 1)), .int (σ q 1)]
abbrev fs_4 (E : Ev) (σ : Sg) (q : Nat) : List Value := [.ref (E.2.1 34), .ref (E.2.1 36), .ref (E.2.1 52), .int (σ q 3)]
abbrev fs_5 (E : Ev) (σ : Sg) (q : Nat) : List Value := [.ref (E.2.1 54), .ref (E.2.1 57), .ref (E.2.1 60), .ref (E.2.1 62), .int (σ q 4)]
abbrev fs_6 (_ : Ev) (σ : Sg) (q : Nat) : List Value := [.int (σ q 0)]
abbrev fs_7 (E : Ev) (σ : Sg) (q : Nat) : List Value := [.ref (E.2.1 74), .ref (E.2.1 75), .ref (E.2.1 76), .ref (E.2.1 77), .ref (E.2.1 78), .ref (E.2.1 79), .ref (E.2.1 80), .ref (E.2.1 81), .ref (E.2.1 82), .int (σ q 9), .int (σ q 10), .int (σ q 11), .int (σ q 12), .int (σ q 13), .int (σ q 14), .int (σ q 15), .int (σ q 16), .ref (E.2.1 83), .ref (E.2.1 84), .ref (E.2.1 85), .ref (E.2.1 86), .ref (E.2.1 87), .ref (E.2.1 88), .ref (E.2.1 89), .ref (E.2.1 90), .int (σ q 25), .int (σ q 26), .int (σ q 27), .ref (E.2.1 91), .ref (E.2.1 92), .int (σ q 30), .int (σ q 31), .int (σ q 32), .int (σ q 33), .ref (E.2.1 93), .ref (E.2.1 94), .int (σ q 36), .ref (E.2.1 95), .int (σ q 38)]
def lawsAt (E : Ev) (j : Nat) : Option Nat := if j < 5 then some (E.2.1 (65 + j)) else none
def wc (E : Ev) (σ : Sg) (q : Nat) : va_E := match (kd q).1 with
  | 0 => .inr (10, fs_0 E σ q)
  | 1 => .inr (8, fs_1 E σ q)
  | 2 => .inr (4, fs_2 E σ q)
  | 3 => .inr (3, fs_3 E σ q)
  | 4 => .inr (6, fs_4 E σ q)
  | 5 => .inr (1, fs_5 E σ q)
  | 6 => .inr ((kd q).2, fs_6 E σ q)
  | 7 => .inr (11, fs_7 E σ q)
  | 8 => .inl (E.2.2 0, (kd q).2, .inl (σ q))
  | _ => .inl (E.2.2 1, (kd q).2, .inr (.inr (.inr (.inr (lawsAt E)))))
def wl (E : Ev) (σ : Sg) : va_W := (List.range 96).map (fun q => (E.2.1 q, wc E σ q))
theorem wl_get (E : Ev) (σ : Sg) {q : Nat} (h : q < 96) : (wl E σ)[q]? = some (E.2.1 q, wc E σ q) := by
  simp [wl, List.getElem?_map, List.getElem?_range h]
theorem wl_inv {E : Ev} {σ : Sg} {k : Nat} {x : Nat × va_E} (h : (wl E σ)[k]? = some x) : k < 96 ∧ x = (E.2.1 k, wc E σ k) := by
  have hk : k < 96 := by
    have := (List.getElem?_eq_some_iff.mp h).1
    simpa [wl] using this
  rw [wl_get E σ hk] at h
  exact ⟨hk, (Option.some.inj h).symm⟩
theorem wc_congr {E : Ev} {σ τ : Sg} {q : Nat} (h : σ q = τ q) : wc E σ q = wc E τ q := by
  unfold wc
  simp only [fs_0, fs_1, fs_2, fs_3, fs_4, fs_5, fs_6, fs_7, h]
theorem sgr_self (σ : Sg) (q : Nat) (f : Nat → Int32) : sgr σ q f q = f := by simp [sgr]
theorem sgr_ne (σ : Sg) {q a : Nat} (f : Nat → Int32) (h : a ≠ q) : sgr σ q f a = σ a := by simp [sgr, h]
theorem wl_len (E : Ev) (σ : Sg) : (wl E σ).length = 96 := by simp [wl]
theorem wl_set {E : Ev} {σ : Sg} {q : Nat} {f : Nat → Int32} (hq : q < 96) {c : va_E} (hc : wc E (sgr σ q f) q = c) : (wl E σ).set q (E.2.1 q, c) = wl E (sgr σ q f) := by
  subst hc
  apply List.ext_getElem?
  intro i
  by_cases hi : i < 96
  · rw [wl_get _ _ hi]
    by_cases h : i = q
    · subst h
      rw [List.getElem?_set_self (by rw [wl_len]; exact hi)]
    · rw [List.getElem?_set_ne (Ne.symm h), wl_get _ _ hi, wc_congr (sgr_ne σ f h).symm]
  · rw [List.getElem?_eq_none (by simp [wl_len]; omega), List.getElem?_eq_none (by simp [wl_len]; omega)]
def Aw (E : Ev) : Nat → Prop := fun a => ∃ k, k < 96 ∧ a = E.2.1 k
def Inj (E : Ev) : Prop := ∀ i j, i < 96 → j < 96 → E.2.1 i = E.2.1 j → i = j
theorem wl_D {E : Ev} (σ : Sg) (hI : Inj E) : va_D (Aw E) (wl E σ) := by
  refine ⟨fun i j p q hi hj h => ?_, fun k q hk => ?_⟩
  · obtain ⟨h1, rfl⟩ := wl_inv hi
    obtain ⟨h2, rfl⟩ := wl_inv hj
    exact hI i j h1 h2 h
  · obtain ⟨h1, rfl⟩ := wl_inv hk
    exact ⟨k, h1, rfl⟩
/-- the words that travel -/
def WT : List Cond := lw_tbl.filter goodWord
theorem wt_of {w : Cond} (h : w ∈ lw_tbl) (hg : goodWord w = true) : w ∈ WT := List.mem_filter.mpr ⟨h, hg⟩
theorem wt_good {y : MethodName} {cc : ByteArray} {n : Nat} {r : Option FieldType} (h : Cond.code y cc n r ∈ WT) : GoodIn WT (Cond.code y cc n r :: WT) := by
  intro w hw
  have hm : w ∈ WT := by
    rcases List.mem_cons.mp hw with rfl | hw
    · exact h
    · exact hw
  exact ⟨hm, good_of_word (List.mem_filter.mp hm).2⟩
/-- the words of nest mates' members: they are carried in the start -/
def isNest : Cond → Bool
  | .fieldLinkNest _ _ _ _ _ _ => true
  | .methodLinkNest _ _ _ _ => true
  | .declares _ => true
  | _ => false
def NW : List Cond := tables_1.filter isNest
def twoL : List Int32 := [0, 1, 2, 10, 11, 12, 20, 21, 22, 100, 101, 102, 110, 111, 112, 120, 121, 122, 200, 201, 202, 210, 211, 212, 220, 221, 222, 1000, 1001, 1002, 1010, 1011, 1012, 1020, 1021, 1022, 1100, 1101, 1102, 1110, 1111, 1112, 1120, 1121, 1122, 1200, 1201, 1202, 1210, 1211, 1212, 1220, 1221, 1222, 2000, 2001, 2002, 2010, 2011, 2012, 2020, 2021, 2022, 2100, 2101, 2102, 2110, 2111, 2112, 2120, 2121, 2122, 2200, 2201, 2202, 2210, 2211, 2212, 2220, 2221, 2222]
def twoV (j : Nat) : Value := .int (twoL.getD j 0)
def digL : List Int32 := [1, 10, 100, 1000]
def digV (j : Nat) : Value := .int (digL.getD j 0)
def Amb (E : Ev) (U : State) : Prop := va_K E.1 vwC [(E.2.2 0, .int), (E.2.2 1, .object "ToWhoNeeds$Law")] U ∧ (∀ w ∈ NW, va_Nw w U) ∧ (va_Z "ToWhoNeeds" "TWO" "[I" (.ref (E.2.2 2)) (Aw E) U U.heap ∧ va_T .int (E.2.2 2) 81 twoV (Aw E) U U.heap) ∧ (va_Z "ToWhoNeeds" "DIGIT" "[I" (.ref (E.2.2 3)) (Aw E) U U.heap ∧ va_T .int (E.2.2 3) 4 digV (Aw E) U U.heap) ∧ Inj E ∧ (vk_R "ToWhoNeeds$Reader" 80 "pamth" (E.2.2 4) U ∧ vk_S 1 [5] [[112, 97, 109, 116, 104]] (fun _ => E.2.2 4) (fun _ => E.2.2 5) (Aw E) U U.heap) ∧ (va_Z "java/lang/String" "COMPACT_STRINGS" "Z" (.int 1) (Aw E) U U.heap ∧ va_Zq "jdk/internal/util/Preconditions" "SIOOBE_FORMATTER" "Ljava/util/function/BiFunction;" (Aw E) U U.heap)
theorem nw_moved {s U : State} (hW : s.WarmedH U.vm) (h : ∀ w ∈ NW, va_Nw w s) : ∀ w ∈ NW, va_Nw w U := by
  intro w hw
  have h1 := h w hw
  have h2 := (List.mem_filter.mp hw).2
  cases w <;> first | exact va_Nw.warmF hW h1 | exact va_Nw.warmM hW h1 | exact va_Nw.warmD hW h1 | (exact absurd h2 (by simp [isNest]))
theorem Amb.mov {E : Ev} {s U : State} {H : Heap} {locs : List Loc} (h : Amb E s) (hS : va_S (Aw E) s.heap H locs) (hU : U.heap = H) (hW : s.WarmedH U.vm) : Amb E U := by
  obtain ⟨h1, h2, ⟨h3, h4⟩, ⟨h5, h6⟩, h7, ⟨h8, h9⟩, h10, h11⟩ := h
  subst hU
  have hk : ∀ a : Nat, a < s.heap.size → ¬ Aw E a → U.heap[a]? = s.heap[a]? := hS.2.1
  exact ⟨h1.moved hW.alike, nw_moved hW h2, ⟨(h3.kept hk).moved hW.alike, (h4.kept hk).moved hW.alike⟩, ⟨(h5.kept hk).moved hW.alike, (h6.kept hk).moved hW.alike⟩, h7, ⟨h8.warm hW, (h9.kept hk).moved hW.alike⟩, (h10.kept hk).moved hW.alike, (h11.kept hk).moved hW.alike⟩
def Rm (fr lo : Nat) : Room := { frames := fr, cells := 0, slots := 0, locals := lo }
def Pre (E : Ev) (av : List Value) (σ : Sg) : Array Value → State → Prop := va_Pc av (fun U => Amb E U ∧ va_P E.1 vwC (wl E σ) U.heap)
def Post (E : Ev) (P : Pv) : Array Value → State → Outcome → State → Prop := fun _ st o t => (o = .returned P.1 ∧ va_P E.1 vwC (wl E P.2) t.heap) ∧ va_F (Aw E) st t
/-- a method's contract in the one world: from the store σ it returns P.1, and the store is P.2 -/
def Ct (l : Launch) (E : Ev) (Y : Yv) (av : List Value) (σ : Sg) (P : Pv) : Prop := Met l Y.1 (Cond.code Y.1 Y.2.1 Y.2.2.1 Y.2.2.2.1 :: WT) (Rm Y.2.2.2.2.1 Y.2.2.2.2.2) (Pre E av σ) (Post E P) 0 0 (Aw E)
def Cx (E : Ev) (X : Xv) (Y : Yv) : Prop := X.1.tables.exec = Jvm.exec ∧ X.2.2.2.2.2.2.2.2.code = Y.2.1 ∧ X.2.2.2.2.2.2.2.1.sig.returnType = Y.2.2.2.1 ∧ X.2.2.2.2.2.2.2.2.maxLocals = Y.2.2.1 ∧ X.2.2.2.1.vm.findClass Y.1.cls = some X.2.2.2.2.1.cls ∧ (∀ w ∈ WT, w.before X.2.2.2.2.2.1 X.2.2.2.1 = true) ∧ X.2.2.2.2.2.2.2.1.locks = false ∧ Amb E X.2.2.2.1
def Wx (E : Ev) (X : Xv) (Y : Yv) (P : Pv) (H : Heap) (locs : List Loc) (g : JFrame) : Prop := W X.1 X.2.1 X.2.2.1 (Rm Y.2.2.2.2.1 Y.2.2.2.2.2) X.2.2.2.1 X.2.2.2.2.1 X.2.2.2.2.2.1 X.2.2.2.2.2.2.1 X.2.2.2.2.2.2.2.1 X.2.2.2.2.2.2.2.2 H locs 0 0 (MQ X.2.2.2.2.2.2.1 (Post E P) X.2.2.2.2.2.1 X.2.2.2.1 0 0 (Aw E)) g
def Zz (E : Ev) (X : Xv) (Y : Yv) (P : Pv) (σ : Sg) (pc : Nat) (lv : List (Nat × Value)) (st : List Value) : Prop := ∀ (H : Heap) (locs : List Loc) (ls : Array Slot), va_P E.1 vwC (wl E σ) H → va_S (Aw E) X.2.2.2.1.heap H locs → lv_has ls Y.2.2.1 lv → Wx E X Y P H locs (F0 X.2.2.2.2.1 pc ls st)
theorem ct_of {l : Launch} {E : Ev} {Y : Yv} {av : List Value} {σ : Sg} {P : Pv} (hy : plainName Y.1.cls = true) (hn : (lg_sl av).length ≤ Y.2.2.1) (lv : List (Nat × Value)) (hlv : lv_args 0 av = lv)
    (h : ∀ X : Xv, X.2.1 = l → Cx E X Y → Zz E X Y P σ 0 lv []) : Ct l E Y av σ P := by
  refine Met.ofW (cc := Y.2.1) (maxL := Y.2.2.1) (ret := Y.2.2.2.1) hy rfl ?_
  intro p e s m args below meth c s₁ B hml hv
  obtain ⟨rfl, hA, hP⟩ := hv
  have hts := atoms_spec (ws := Cond.code Y.1 Y.2.1 Y.2.2.1 Y.2.2.2.1 :: WT) B.pre
  have hl := lv_entry av (n := Y.2.2.1) hn
  rw [lg_entry_eq]
  rw [hlv] at hl
  exact h (p, l, e, s, m, av.toArray, below, meth, c) rfl ⟨B.exec, B.bytes, B.returns, hml, findClass_of_methodNamed B.named, fun w hw => hts w (List.mem_cons_of_mem _ hw), B.notSynchronized, hA⟩ s.heap [] _ hP va_S.rf hl

theorem kd_lt {q : Nat} (h : (kd q).1 ≠ 99) : q < 96 := by
  by_cases hq : q < 96
  · exact hq
  · exfalso
    apply h
    unfold kd
    rw [List.getD_eq_getElem?_getD, List.getElem?_eq_none (by show kdL.length ≤ q; have : kdL.length = 96 := rfl; omega)]
    rfl
/-- the words of generated functions: a guarded index, a guarded divisor, a truth value, a named value, a loop's exits -/
def ga {α : Type} (i : Int32) (n : Nat) (k : Option α) : Option α := if i < 0 ∨ n ≤ i.toNatClampNeg then none else k
theorem ga_some {α : Type} {i : Int32} {n : Nat} {k : Option α} {r : α} (h : ga i n k = some r) : vp_in i n ∧ k = some r := by
  unfold ga at h
  by_cases hc : i < 0 ∨ n ≤ i.toNatClampNeg
  · rw [if_pos hc] at h; cases h
  · rw [if_neg hc] at h; exact ⟨hc, h⟩
def gd {α : Type} (y : Int32) (k : Option α) : Option α := if y = 0 then none else k
theorem gd_some {α : Type} {y : Int32} {k : Option α} {r : α} (h : gd y k = some r) : ¬ y = 0 ∧ k = some r := by
  unfold gd at h
  by_cases hc : y = 0
  · rw [if_pos hc] at h; cases h
  · rw [if_neg hc] at h; exact ⟨hc, h⟩
def gb {α : Type} (v : Int32) (k : Option α) : Option α := if v = 0 ∨ v = 1 then k else none
theorem gb_some {α : Type} {v : Int32} {k : Option α} {r : α} (h : gb v k = some r) : narrow .boolean (.int v) = .int v ∧ k = some r := by
  unfold gb at h
  by_cases hc : v = 0 ∨ v = 1
  · rw [if_pos hc] at h
    refine ⟨?_, h⟩
    rcases hc with rfl | rfl <;> rfl
  · rw [if_neg hc] at h; cases h
def nm {α β : Type} (a : α) (f : α → β) : β := f a
theorem nm_some {α β : Type} {a : α} {f : α → Option β} {r : β} (h : nm a f = some r) : ∃ x, x = a ∧ f x = some r := ⟨a, rfl, h⟩
theorem bd_some {α β : Type} {x : Option α} {f : α → Option β} {r : β} (h : x.bind f = some r) : ∃ y, x = some y ∧ f y = some r := by
  cases x with
  | none => cases h
  | some y => exact ⟨y, rfl, h⟩
def ex1 {S T β : Type} (x : Option (S ⊕ T)) (f : S → Option β) (g : T → Option β) : Option β := match x with
  | none => none
  | some (.inl s) => f s
  | some (.inr t) => g t
theorem ex1_some {S T β : Type} {x : Option (S ⊕ T)} {f : S → Option β} {g : T → Option β} {r : β} (h : ex1 x f g = some r) : (∃ s, x = some (.inl s) ∧ f s = some r) ∨ ∃ t, x = some (.inr t) ∧ g t = some r := by
  cases x with
  | none => cases h
  | some y =>
    cases y with
    | inl s => exact Or.inl ⟨s, rfl, h⟩
    | inr t => exact Or.inr ⟨t, rfl, h⟩
theorem ifp {α : Type} {c : Prop} [Decidable c] {a b : α} {r : α} (h : (if c then a else b) = r) (hc : c) : a = r := by rw [if_pos hc] at h; exact h
theorem ifn {α : Type} {c : Prop} [Decidable c] {a b : α} {r : α} (h : (if c then a else b) = r) (hc : ¬ c) : b = r := by rw [if_neg hc] at h; exact h
/-- what stands at a place -/
def nln (o : Nat) : Nat := (kd (o + 1)).2
def isNu (o : Nat) : Prop := kd o = (3, 0) ∧ kd (o + 1) = (8, nln o)
def isPe (o : Nat) : Prop := kd o = (2, 0) ∧ kd (o + 1) = (8, 24) ∧ kd (o + 2) = (8, 6)
def isSt (s : Nat) : Prop := kd s = (1, 0) ∧ isPe (s + 1) ∧ isNu (s + 4) ∧ isNu (s + 6) ∧ isNu (s + 8) ∧ isNu (s + 10) ∧ isNu (s + 12) ∧ isNu (s + 14)
def isLa (q : Nat) : Prop := q = 65 ∨ q = 66 ∨ q = 67 ∨ q = 68 ∨ q = 69
theorem lt_nu {o : Nat} (h : isNu o) : o < 96 := kd_lt (by rw [h.1]; simp)
theorem lt_pe {o : Nat} (h : isPe o) : o < 96 := kd_lt (by rw [h.1]; simp)
theorem lt_st {o : Nat} (h : isSt o) : o < 96 := kd_lt (by rw [h.1]; simp)
theorem wc_nu {E : Ev} {σ : Sg} {o : Nat} (h : isNu o) : wc E σ o = .inr (3, fs_3 E σ o) := by unfold wc; rw [h.1]; rfl
theorem wc_pe {E : Ev} {σ : Sg} {o : Nat} (h : isPe o) : wc E σ o = .inr (4, fs_2 E σ o) := by unfold wc; rw [h.1]; rfl
theorem wc_st {E : Ev} {σ : Sg} {o : Nat} (h : isSt o) : wc E σ o = .inr (8, fs_1 E σ o) := by unfold wc; rw [h.1]; rfl
theorem wc_main {E : Ev} {σ : Sg} : wc E σ 0 = .inr (10, fs_0 E σ 0) := rfl
theorem wc_rd {E : Ev} {σ : Sg} : wc E σ 33 = .inr (6, fs_4 E σ 33) := rfl
theorem wc_mi {E : Ev} {σ : Sg} : wc E σ 53 = .inr (1, fs_5 E σ 53) := rfl
theorem wc_mo {E : Ev} {σ : Sg} : wc E σ 73 = .inr (11, fs_7 E σ 73) := rfl
section ZROWS
variable {E : Ev} {X : Xv} {Y : Yv} {P : Pv} {σ : Sg} {pc : Nat} {lv : List (Nat × Value)} {st : List Value}
theorem z_iconst (C : Cx E X Y) {n : Int} {v : Int32} (d : decode Y.2.1 pc = .ok (.iconst n, 1)) (hv : Int32.ofInt n = v) (k : Zz E X Y P σ (pc + 1) lv (.int v :: st)) : Zz E X Y P σ pc lv st := fun H locs ls hP hS hl => lv_iconst C.1 C.2.1 d hv (k H locs ls hP hS hl)
theorem z_bipush (C : Cx E X Y) {n : Int} {v : Int32} (d : decode Y.2.1 pc = .ok (.bipush n, 2)) (hv : (Int8.ofInt n).toInt32 = v) (k : Zz E X Y P σ (pc + 2) lv (.int v :: st)) : Zz E X Y P σ pc lv st := fun H locs ls hP hS hl => lv_bipush C.1 C.2.1 d hv (k H locs ls hP hS hl)
theorem z_sipush (C : Cx E X Y) {n : Int} {v : Int32} (d : decode Y.2.1 pc = .ok (.sipush n, 3)) (hv : (Int16.ofInt n).toInt32 = v) (k : Zz E X Y P σ (pc + 3) lv (.int v :: st)) : Zz E X Y P σ pc lv st := fun H locs ls hP hS hl => lv_sipush C.1 C.2.1 d hv (k H locs ls hP hS hl)
theorem z_iload (C : Cx E X Y) {i : Nat} {x : Int32} (d : decode Y.2.1 pc = .ok (.iload i, 2)) (j : Nat) (hj : lv[j]? = some (i, .int x)) (k : Zz E X Y P σ (pc + 2) lv (.int x :: st)) : Zz E X Y P σ pc lv st := fun H locs ls hP hS hl => lv_iload C.1 C.2.1 d (lv_at hl j hj) (k H locs ls hP hS hl)
theorem z_iload_n (C : Cx E X Y) {i : Fin 4} {x : Int32} (d : decode Y.2.1 pc = .ok (.iload_n i, 1)) (j : Nat) (hj : lv[j]? = some (i.1, .int x)) (k : Zz E X Y P σ (pc + 1) lv (.int x :: st)) : Zz E X Y P σ pc lv st := fun H locs ls hP hS hl => lv_iload_n C.1 C.2.1 d rfl (lv_at hl j hj) (k H locs ls hP hS hl)
theorem z_aload (C : Cx E X Y) {i : Nat} {x : Nat} (d : decode Y.2.1 pc = .ok (.aload i, 2)) (j : Nat) (hj : lv[j]? = some (i, .ref x)) (k : Zz E X Y P σ (pc + 2) lv (.ref x :: st)) : Zz E X Y P σ pc lv st := fun H locs ls hP hS hl => lv_aload C.1 C.2.1 d (lv_at hl j hj) (k H locs ls hP hS hl)
theorem z_aload_n (C : Cx E X Y) {i : Fin 4} {x : Nat} (d : decode Y.2.1 pc = .ok (.aload_n i, 1)) (j : Nat) (hj : lv[j]? = some (i.1, .ref x)) (k : Zz E X Y P σ (pc + 1) lv (.ref x :: st)) : Zz E X Y P σ pc lv st := fun H locs ls hP hS hl => lv_aload_n C.1 C.2.1 d rfl (lv_at hl j hj) (k H locs ls hP hS hl)
abbrev lvs (lv : List (Nat × Value)) (i : Nat) (v : Value) : List (Nat × Value) := (i, v) :: lv.filter (fun q => !(q.1 == i) && !(q.1 + 1 == i && q.2.category == 2))
theorem z_istore (C : Cx E X Y) {i : Nat} {x : Int32} {lv' : List (Nat × Value)} (d : decode Y.2.1 pc = .ok (.istore i, 2)) (hn : i < Y.2.2.1) (hl' : lvs lv i (.int x) = lv') (k : Zz E X Y P σ (pc + 2) lv' st) : Zz E X Y P σ pc lv (.int x :: st) := fun H locs _ hP hS hl => lv_istore C.1 C.2.1 d hl hn hl' (fun ls hl => k H locs ls hP hS hl)
theorem z_istore_n (C : Cx E X Y) {i : Fin 4} {x : Int32} {lv' : List (Nat × Value)} (d : decode Y.2.1 pc = .ok (.istore_n i, 1)) (hn : i.1 < Y.2.2.1) (hl' : lvs lv i.1 (.int x) = lv') (k : Zz E X Y P σ (pc + 1) lv' st) : Zz E X Y P σ pc lv (.int x :: st) := fun H locs _ hP hS hl => lv_istore_n C.1 C.2.1 d rfl hl hn hl' (fun ls hl => k H locs ls hP hS hl)
theorem z_astore_n (C : Cx E X Y) {i : Fin 4} {x : Nat} {lv' : List (Nat × Value)} (d : decode Y.2.1 pc = .ok (.astore_n i, 1)) (hn : i.1 < Y.2.2.1) (hl' : lvs lv i.1 (.ref x) = lv') (k : Zz E X Y P σ (pc + 1) lv' st) : Zz E X Y P σ pc lv (.ref x :: st) := fun H locs _ hP hS hl => lv_astore_n C.1 C.2.1 d rfl hl hn hl' (fun ls hl => k H locs ls hP hS hl)
theorem z_iinc (C : Cx E X Y) {i : Nat} {n : Int} {x v : Int32} {lv' : List (Nat × Value)} (d : decode Y.2.1 pc = .ok (.iinc i n, 3)) (j : Nat) (hj : lv[j]? = some (i, .int x)) (hv : x + Int32.ofInt n = v) (hn : i < Y.2.2.1) (hl' : lvs lv i (.int v) = lv') (k : Zz E X Y P σ (pc + 3) lv' st) : Zz E X Y P σ pc lv st := fun H locs _ hP hS hl => lv_iinc C.1 C.2.1 d hl hj hv hn hl' (fun ls hl => k H locs ls hP hS hl)
theorem z_iadd (C : Cx E X Y) {x y : Int32} (d : decode Y.2.1 pc = .ok (.iadd, 1)) (k : Zz E X Y P σ (pc + 1) lv (.int (x + y) :: st)) : Zz E X Y P σ pc lv (.int y :: .int x :: st) := fun H locs ls hP hS hl => lv_iadd C.1 C.2.1 d (k H locs ls hP hS hl)
theorem z_isub (C : Cx E X Y) {x y : Int32} (d : decode Y.2.1 pc = .ok (.isub, 1)) (k : Zz E X Y P σ (pc + 1) lv (.int (x - y) :: st)) : Zz E X Y P σ pc lv (.int y :: .int x :: st) := fun H locs ls hP hS hl => lv_isub C.1 C.2.1 d (k H locs ls hP hS hl)
theorem z_imul (C : Cx E X Y) {x y : Int32} (d : decode Y.2.1 pc = .ok (.imul, 1)) (k : Zz E X Y P σ (pc + 1) lv (.int (x * y) :: st)) : Zz E X Y P σ pc lv (.int y :: .int x :: st) := fun H locs ls hP hS hl => lv_imul C.1 C.2.1 d (k H locs ls hP hS hl)
theorem z_iand (C : Cx E X Y) {x y : Int32} (d : decode Y.2.1 pc = .ok (.iand, 1)) (k : Zz E X Y P σ (pc + 1) lv (.int (x &&& y) :: st)) : Zz E X Y P σ pc lv (.int y :: .int x :: st) := fun H locs ls hP hS hl => lv_iand C.1 C.2.1 d (k H locs ls hP hS hl)
theorem z_ior (C : Cx E X Y) {x y : Int32} (d : decode Y.2.1 pc = .ok (.ior, 1)) (k : Zz E X Y P σ (pc + 1) lv (.int (x ||| y) :: st)) : Zz E X Y P σ pc lv (.int y :: .int x :: st) := fun H locs ls hP hS hl => lv_ior C.1 C.2.1 d (k H locs ls hP hS hl)
theorem z_ishl (C : Cx E X Y) {x y : Int32} (d : decode Y.2.1 pc = .ok (.ishl, 1)) (k : Zz E X Y P σ (pc + 1) lv (.int (x <<< (y &&& 31)) :: st)) : Zz E X Y P σ pc lv (.int y :: .int x :: st) := fun H locs ls hP hS hl => lv_ishl C.1 C.2.1 d (k H locs ls hP hS hl)
theorem z_ishr (C : Cx E X Y) {x y : Int32} (d : decode Y.2.1 pc = .ok (.ishr, 1)) (k : Zz E X Y P σ (pc + 1) lv (.int (x >>> (y &&& 31)) :: st)) : Zz E X Y P σ pc lv (.int y :: .int x :: st) := fun H locs ls hP hS hl => lv_ishr C.1 C.2.1 d (k H locs ls hP hS hl)
theorem z_idiv (C : Cx E X Y) {x y : Int32} (d : decode Y.2.1 pc = .ok (.idiv, 1)) (hne : ¬ y = 0) (k : Zz E X Y P σ (pc + 1) lv (.int (x / y) :: st)) : Zz E X Y P σ pc lv (.int y :: .int x :: st) := fun H locs ls hP hS hl => lv_idiv C.1 C.2.1 d hne (k H locs ls hP hS hl)
theorem z_irem (C : Cx E X Y) {x y : Int32} (d : decode Y.2.1 pc = .ok (.irem, 1)) (hne : ¬ y = 0) (k : Zz E X Y P σ (pc + 1) lv (.int (jrem x y) :: st)) : Zz E X Y P σ pc lv (.int y :: .int x :: st) := fun H locs ls hP hS hl => lv_irem C.1 C.2.1 d hne (k H locs ls hP hS hl)
def jushr (x y : Int32) : Int32 := (x.toUInt32 >>> (y.toUInt32 &&& Int32.toUInt32 31)).toInt32
theorem z_iushr (C : Cx E X Y) {x y : Int32} (d : decode Y.2.1 pc = .ok (.iushr, 1)) (k : Zz E X Y P σ (pc + 1) lv (.int (jushr x y) :: st)) : Zz E X Y P σ pc lv (.int y :: .int x :: st) := fun H locs ls hP hS hl => lv_iushr C.1 C.2.1 d rfl (k H locs ls hP hS hl)
theorem z_ineg (C : Cx E X Y) {x : Int32} (d : decode Y.2.1 pc = .ok (.ineg, 1)) (k : Zz E X Y P σ (pc + 1) lv (.int (-x) :: st)) : Zz E X Y P σ pc lv (.int x :: st) := fun H locs ls hP hS hl => lv_ineg C.1 C.2.1 d (k H locs ls hP hS hl)
theorem z_dup (C : Cx E X Y) {v : Value} (d : decode Y.2.1 pc = .ok (.dup, 1)) (hv : v.category = 1) (k : Zz E X Y P σ (pc + 1) lv (v :: v :: st)) : Zz E X Y P σ pc lv (v :: st) := fun H locs ls hP hS hl => lv_dup C.1 C.2.1 d hv (k H locs ls hP hS hl)
theorem z_dup2 (C : Cx E X Y) {v u : Value} (d : decode Y.2.1 pc = .ok (.dup2, 1)) (hv : v.category = 1) (hu : u.category = 1) (k : Zz E X Y P σ (pc + 1) lv (v :: u :: v :: u :: st)) : Zz E X Y P σ pc lv (v :: u :: st) := fun H locs ls hP hS hl => lv_dup2_11 C.1 C.2.1 d hv hu (k H locs ls hP hS hl)
theorem z_pop (C : Cx E X Y) {v : Value} (d : decode Y.2.1 pc = .ok (.pop, 1)) (hv : v.category = 1) (k : Zz E X Y P σ (pc + 1) lv st) : Zz E X Y P σ pc lv (v :: st) := fun H locs ls hP hS hl => lv_pop C.1 C.2.1 d hv (k H locs ls hP hS hl)
theorem z_goto (C : Cx E X Y) {off : Int} {tgt : Nat} (d : decode Y.2.1 pc = .ok (.goto off, 3)) (ht : (pc : Int) + off = (tgt : Int)) (k : Zz E X Y P σ tgt lv st) : Zz E X Y P σ pc lv st := fun H locs ls hP hS hl => lv_goto C.1 C.2.1 d ht (k H locs ls hP hS hl)
theorem z_sub (lv' : List (Nat × Value)) (ks : List Nat) (h : lv_pick lv ks = lv') (k : Zz E X Y P σ pc lv' st) : Zz E X Y P σ pc lv st := fun H locs ls hP hS hl => k H locs ls hP hS (lv_sub hl ks h)
theorem z_ldc (C : Cx E X Y) {i : Nat} {v : Int32} (d : decode Y.2.1 pc = .ok (.ldc i, 2)) (hw : Cond.constant Y.1.cls i v ∈ WT) (k : Zz E X Y P σ (pc + 2) lv (.int v :: st)) : Zz E X Y P σ pc lv st := fun H locs ls hP hS hl => lv_ldc C.1 C.2.1 C.2.2.2.2.1 (C.2.2.2.2.2.1 _ hw) d (k H locs ls hP hS hl)
theorem z_ldcw (C : Cx E X Y) {i : Nat} {v : Int32} (d : decode Y.2.1 pc = .ok (.ldc_w i, 3)) (hw : Cond.constant Y.1.cls i v ∈ WT) (k : Zz E X Y P σ (pc + 3) lv (.int v :: st)) : Zz E X Y P σ pc lv st := fun H locs ls hP hS hl => lv_ldcw C.1 C.2.1 C.2.2.2.2.1 (C.2.2.2.2.2.1 _ hw) d (k H locs ls hP hS hl)
theorem z_if_eq (C : Cx E X Y) {x : Int32} {off : Int} {tgt : Nat} (d : decode Y.2.1 pc = .ok (.ifCond .eq off, 3)) (ht : (pc : Int) + off = (tgt : Int)) (kt : x = 0 → Zz E X Y P σ tgt lv st) (kf : ¬ x = 0 → Zz E X Y P σ (pc + 3) lv st) : Zz E X Y P σ pc lv (.int x :: st) := fun H locs ls hP hS hl => lv_if_eq C.1 C.2.1 d ht (fun h => kt h H locs ls hP hS hl) (fun h => kf h H locs ls hP hS hl)
theorem z_icmp_eq (C : Cx E X Y) {x y : Int32} {off : Int} {tgt : Nat} (d : decode Y.2.1 pc = .ok (.if_icmp .eq off, 3)) (ht : (pc : Int) + off = (tgt : Int)) (kt : x = y → Zz E X Y P σ tgt lv st) (kf : ¬ x = y → Zz E X Y P σ (pc + 3) lv st) : Zz E X Y P σ pc lv (.int y :: .int x :: st) := fun H locs ls hP hS hl => lv_icmp_eq C.1 C.2.1 d ht (fun h => kt h H locs ls hP hS hl) (fun h => kf h H locs ls hP hS hl)
theorem z_if_ne (C : Cx E X Y) {x : Int32} {off : Int} {tgt : Nat} (d : decode Y.2.1 pc = .ok (.ifCond .ne off, 3)) (ht : (pc : Int) + off = (tgt : Int)) (kt : ¬ x = 0 → Zz E X Y P σ tgt lv st) (kf : x = 0 → Zz E X Y P σ (pc + 3) lv st) : Zz E X Y P σ pc lv (.int x :: st) := fun H locs ls hP hS hl => lv_if_ne C.1 C.2.1 d ht (fun h => kt h H locs ls hP hS hl) (fun h => kf h H locs ls hP hS hl)
theorem z_icmp_ne (C : Cx E X Y) {x y : Int32} {off : Int} {tgt : Nat} (d : decode Y.2.1 pc = .ok (.if_icmp .ne off, 3)) (ht : (pc : Int) + off = (tgt : Int)) (kt : ¬ x = y → Zz E X Y P σ tgt lv st) (kf : x = y → Zz E X Y P σ (pc + 3) lv st) : Zz E X Y P σ pc lv (.int y :: .int x :: st) := fun H locs ls hP hS hl => lv_icmp_ne C.1 C.2.1 d ht (fun h => kt h H locs ls hP hS hl) (fun h => kf h H locs ls hP hS hl)
theorem z_if_lt (C : Cx E X Y) {x : Int32} {off : Int} {tgt : Nat} (d : decode Y.2.1 pc = .ok (.ifCond .lt off, 3)) (ht : (pc : Int) + off = (tgt : Int)) (kt : x < 0 → Zz E X Y P σ tgt lv st) (kf : ¬ x < 0 → Zz E X Y P σ (pc + 3) lv st) : Zz E X Y P σ pc lv (.int x :: st) := fun H locs ls hP hS hl => lv_if_lt C.1 C.2.1 d ht (fun h => kt h H locs ls hP hS hl) (fun h => kf h H locs ls hP hS hl)
theorem z_icmp_lt (C : Cx E X Y) {x y : Int32} {off : Int} {tgt : Nat} (d : decode Y.2.1 pc = .ok (.if_icmp .lt off, 3)) (ht : (pc : Int) + off = (tgt : Int)) (kt : x < y → Zz E X Y P σ tgt lv st) (kf : ¬ x < y → Zz E X Y P σ (pc + 3) lv st) : Zz E X Y P σ pc lv (.int y :: .int x :: st) := fun H locs ls hP hS hl => lv_icmp_lt C.1 C.2.1 d ht (fun h => kt h H locs ls hP hS hl) (fun h => kf h H locs ls hP hS hl)
theorem z_if_ge (C : Cx E X Y) {x : Int32} {off : Int} {tgt : Nat} (d : decode Y.2.1 pc = .ok (.ifCond .ge off, 3)) (ht : (pc : Int) + off = (tgt : Int)) (kt : 0 ≤ x → Zz E X Y P σ tgt lv st) (kf : ¬ 0 ≤ x → Zz E X Y P σ (pc + 3) lv st) : Zz E X Y P σ pc lv (.int x :: st) := fun H locs ls hP hS hl => lv_if_ge C.1 C.2.1 d ht (fun h => kt h H locs ls hP hS hl) (fun h => kf h H locs ls hP hS hl)
theorem z_icmp_ge (C : Cx E X Y) {x y : Int32} {off : Int} {tgt : Nat} (d : decode Y.2.1 pc = .ok (.if_icmp .ge off, 3)) (ht : (pc : Int) + off = (tgt : Int)) (kt : y ≤ x → Zz E X Y P σ tgt lv st) (kf : ¬ y ≤ x → Zz E X Y P σ (pc + 3) lv st) : Zz E X Y P σ pc lv (.int y :: .int x :: st) := fun H locs ls hP hS hl => lv_icmp_ge C.1 C.2.1 d ht (fun h => kt h H locs ls hP hS hl) (fun h => kf h H locs ls hP hS hl)
theorem z_if_gt (C : Cx E X Y) {x : Int32} {off : Int} {tgt : Nat} (d : decode Y.2.1 pc = .ok (.ifCond .gt off, 3)) (ht : (pc : Int) + off = (tgt : Int)) (kt : 0 < x → Zz E X Y P σ tgt lv st) (kf : ¬ 0 < x → Zz E X Y P σ (pc + 3) lv st) : Zz E X Y P σ pc lv (.int x :: st) := fun H locs ls hP hS hl => lv_if_gt C.1 C.2.1 d ht (fun h => kt h H locs ls hP hS hl) (fun h => kf h H locs ls hP hS hl)
theorem z_icmp_gt (C : Cx E X Y) {x y : Int32} {off : Int} {tgt : Nat} (d : decode Y.2.1 pc = .ok (.if_icmp .gt off, 3)) (ht : (pc : Int) + off = (tgt : Int)) (kt : y < x → Zz E X Y P σ tgt lv st) (kf : ¬ y < x → Zz E X Y P σ (pc + 3) lv st) : Zz E X Y P σ pc lv (.int y :: .int x :: st) := fun H locs ls hP hS hl => lv_icmp_gt C.1 C.2.1 d ht (fun h => kt h H locs ls hP hS hl) (fun h => kf h H locs ls hP hS hl)
theorem z_if_le (C : Cx E X Y) {x : Int32} {off : Int} {tgt : Nat} (d : decode Y.2.1 pc = .ok (.ifCond .le off, 3)) (ht : (pc : Int) + off = (tgt : Int)) (kt : x ≤ 0 → Zz E X Y P σ tgt lv st) (kf : ¬ x ≤ 0 → Zz E X Y P σ (pc + 3) lv st) : Zz E X Y P σ pc lv (.int x :: st) := fun H locs ls hP hS hl => lv_if_le C.1 C.2.1 d ht (fun h => kt h H locs ls hP hS hl) (fun h => kf h H locs ls hP hS hl)
theorem z_icmp_le (C : Cx E X Y) {x y : Int32} {off : Int} {tgt : Nat} (d : decode Y.2.1 pc = .ok (.if_icmp .le off, 3)) (ht : (pc : Int) + off = (tgt : Int)) (kt : x ≤ y → Zz E X Y P σ tgt lv st) (kf : ¬ x ≤ y → Zz E X Y P σ (pc + 3) lv st) : Zz E X Y P σ pc lv (.int y :: .int x :: st) := fun H locs ls hP hS hl => lv_icmp_le C.1 C.2.1 d ht (fun h => kt h H locs ls hP hS hl) (fun h => kf h H locs ls hP hS hl)
theorem z_iret (C : Cx E X Y) {v : Int32} (d : decode Y.2.1 pc = .ok (.ireturn, 1)) (hr : Y.2.2.2.1 = some .int) (hp : P = (some (.int v), σ)) : Zz E X Y P σ pc lv [.int v] := by
  subst hp
  intro H locs ls hP hS hl
  exact W.iret C.1 C.2.1 (C.2.2.1.trans hr) (fun t ht _ => ⟨⟨rfl, by rw [ht]; exact hP⟩, hS.F ht⟩) hS.2.2 d C.2.2.2.2.2.2.1
theorem z_zret (C : Cx E X Y) {v : Int32} {ty : FieldType} (d : decode Y.2.1 pc = .ok (.ireturn, 1)) (hr : Y.2.2.2.1 = some ty) (hn : narrow ty (.int v) = .int v) (hp : P = (some (.int v), σ)) : Zz E X Y P σ pc lv [.int v] := by
  subst hp
  intro H locs ls hP hS hl
  exact W.zret C.1 C.2.1 (C.2.2.1.trans hr) hn (fun t ht _ => ⟨⟨rfl, by rw [ht]; exact hP⟩, hS.F ht⟩) hS.2.2 d C.2.2.2.2.2.2.1
theorem z_vret (C : Cx E X Y) (d : decode Y.2.1 pc = .ok (.return_, 1)) (hr : Y.2.2.2.1 = none) (hp : P = (none, σ)) : Zz E X Y P σ pc lv [] := by
  subst hp
  intro H locs ls hP hS hl
  exact W.vret C.1 C.2.1 (C.2.2.1.trans hr) (fun t ht _ => ⟨⟨rfl, by rw [ht]; exact hP⟩, hS.F ht⟩) hS.2.2 d C.2.2.2.2.2.2.1
theorem z_aret (C : Cx E X Y) {a : Nat} {n : String} (d : decode Y.2.1 pc = .ok (.areturn, 1)) (hr : Y.2.2.2.1 = some (.object n)) (hp : P = (some (.ref a), σ)) : Zz E X Y P σ pc lv [.ref a] := by
  subst hp
  intro H locs ls hP hS hl
  exact W.aret C.1 C.2.1 (C.2.2.1.trans hr) (Or.inl ⟨n, rfl⟩) (Or.inr ⟨a, rfl⟩) (fun t ht _ => ⟨⟨rfl, by rw [ht]; exact hP⟩, hS.F ht⟩) hS.2.2 d C.2.2.2.2.2.2.1
/-- a field of an object at a place, by the class's own link -/
theorem z_get (C : Cx E X Y) {CC : String} {T : u_T} {N ci i q : Nat} {fs : List Value} (hq : q < 96) (he : wc E σ q = .inr (ci, fs)) (hc : vwC[ci]? = some (CC, T, N)) (hin : ∀ w ∈ u_ws CC T N, w ∈ WT) (n : Nat) (hk : n < N) (hw : Cond.fieldLink Y.1.cls i (T n).1 (T n).2.1 (T n).2.2.1 ∈ WT) {v : Value} (hv : fs[n]? = some v) (d : decode Y.2.1 pc = .ok (.getfield i, 3)) (k : Zz E X Y P σ (pc + 3) lv (v :: st)) : Zz E X Y P σ pc lv (.ref (E.2.1 q) :: st) := fun H locs ls hP hS hl => va_get C.1 C.2.1 C.2.2.2.2.2.1 hin C.2.2.2.2.1 C.2.2.2.2.2.2.2.1 hP q (by rw [wl_get E σ hq, he]) hc n hk (C.2.2.2.2.2.1 _ hw) (fun _ h => h) hv d (k H locs ls hP hS hl)
theorem z_getN (C : Cx E X Y) {host CC : String} {T : u_T} {N ci i q : Nat} {fs : List Value} (hq : q < 96) (he : wc E σ q = .inr (ci, fs)) (hc : vwC[ci]? = some (CC, T, N)) (hin : ∀ w ∈ u_ws CC T N, w ∈ WT) (n : Nat) (hk : n < N) (hw : Cond.fieldLinkNest Y.1.cls i (T n).1 (T n).2.1 (T n).2.2.1 host ∈ NW) {v : Value} (hv : fs[n]? = some v) (d : decode Y.2.1 pc = .ok (.getfield i, 3)) (k : Zz E X Y P σ (pc + 3) lv (v :: st)) : Zz E X Y P σ pc lv (.ref (E.2.1 q) :: st) := fun H locs ls hP hS hl => va_getN C.1 C.2.1 C.2.2.2.2.2.1 hin C.2.2.2.2.1 C.2.2.2.2.2.2.2.1 hP q (by rw [wl_get E σ hq, he]) hc n hk (va_Nw.use rfl (C.2.2.2.2.2.2.2.2.1 _ hw)) (fun _ h => h) hv d (k H locs ls hP hS hl)
theorem z_put (C : Cx E X Y) {CC : String} {T : u_T} {N ci i q : Nat} {fs : List Value} {ty : FieldType} (ty0 : Nat → FieldType) (hty : ∀ k, k < N → parseFieldDescriptor (T k).2.2.1 = some (ty0 k)) (hnm : ∀ a, a < N → ∀ b, b < N → a ≠ b → (T a).2.1 ≠ (T b).2.1) (hq : q < 96) (he : wc E σ q = .inr (ci, fs)) (hc : vwC[ci]? = some (CC, T, N)) (hin : ∀ w ∈ u_ws CC T N, w ∈ WT) (n : Nat) (hk : n < N) (hw : Cond.fieldLink Y.1.cls i (T n).1 (T n).2.1 (T n).2.2.1 ∈ WT) (hfin : (T n).2.2.2 = false) {x : Int32} (hd : parseFieldDescriptor (T n).2.2.1 = some ty) (hna : narrow ty (.int x) = .int x) (hfit : fits ty (.int x) = true) (hl : n < fs.length) (he' : wc E (sgs σ q n x) q = .inr (ci, fs.set n (.int x))) (d : decode Y.2.1 pc = .ok (.putfield i, 3)) (k : Zz E X Y P (sgs σ q n x) (pc + 3) lv st) : Zz E X Y P σ pc lv (.int x :: .ref (E.2.1 q) :: st) := fun H locs ls hP hS hl' => va_put C.1 C.2.1 C.2.2.2.2.2.1 hin ty0 hty hnm C.2.2.2.2.1 C.2.2.2.2.2.2.2.1 hP (wl_D σ C.2.2.2.2.2.2.2.2.2.2.2.1) hS q (by rw [wl_get E σ hq, he]) hc n hk (C.2.2.2.2.2.1 _ hw) (fun _ h => h) hfin hd hna hfit hl d (fun H1 locs1 hP1 _ hS1 => k H1 locs1 ls (by rw [wl_set hq he'] at hP1; exact hP1) hS1 hl')
theorem z_putN (C : Cx E X Y) {host CC : String} {T : u_T} {N ci i q : Nat} {fs : List Value} {ty : FieldType} (ty0 : Nat → FieldType) (hty : ∀ k, k < N → parseFieldDescriptor (T k).2.2.1 = some (ty0 k)) (hnm : ∀ a, a < N → ∀ b, b < N → a ≠ b → (T a).2.1 ≠ (T b).2.1) (hq : q < 96) (he : wc E σ q = .inr (ci, fs)) (hc : vwC[ci]? = some (CC, T, N)) (hin : ∀ w ∈ u_ws CC T N, w ∈ WT) (n : Nat) (hk : n < N) (hw : Cond.fieldLinkNest Y.1.cls i (T n).1 (T n).2.1 (T n).2.2.1 host ∈ NW) (hfin : (T n).2.2.2 = false) {x : Int32} (hd : parseFieldDescriptor (T n).2.2.1 = some ty) (hna : narrow ty (.int x) = .int x) (hfit : fits ty (.int x) = true) (hl : n < fs.length) (he' : wc E (sgs σ q n x) q = .inr (ci, fs.set n (.int x))) (d : decode Y.2.1 pc = .ok (.putfield i, 3)) (k : Zz E X Y P (sgs σ q n x) (pc + 3) lv st) : Zz E X Y P σ pc lv (.int x :: .ref (E.2.1 q) :: st) := fun H locs ls hP hS hl' => va_putN C.1 C.2.1 C.2.2.2.2.2.1 hin ty0 hty hnm C.2.2.2.2.1 C.2.2.2.2.2.2.2.1 hP (wl_D σ C.2.2.2.2.2.2.2.2.2.2.2.1) hS q (by rw [wl_get E σ hq, he]) hc n hk (va_Nw.use rfl (C.2.2.2.2.2.2.2.2.1 _ hw)) (fun _ h => h) hfin hd hna hfit hl d (fun H1 locs1 hP1 _ hS1 => k H1 locs1 ls (by rw [wl_set hq he'] at hP1; exact hP1) hS1 hl')
theorem wc_arr {q n : Nat} (h : kd q = (8, n)) : wc E σ q = .inl (E.2.2 0, n, .inl (σ q)) := by
  unfold wc
  rw [h]
  rfl
theorem kd_lt8 {q n : Nat} (h : kd q = (8, n)) : q < 96 := kd_lt (by rw [h]; simp)
theorem z_iald (C : Cx E X Y) {q n : Nat} {i : Int32} (hq : kd q = (8, n)) (hin : vp_in i n) (d : decode Y.2.1 pc = .ok (.iaload, 1)) (k : Zz E X Y P σ (pc + 1) lv (.int (σ q i.toNatClampNeg) :: st)) : Zz E X Y P σ pc lv (.int i :: .ref (E.2.1 q) :: st) := fun H locs ls hP hS hl => va_iald C.1 C.2.1 C.2.2.2.2.2.2.2.1 hP q 0 (by rw [wl_get E σ (kd_lt8 hq), wc_arr hq]) rfl hin d (k H locs ls hP hS hl)
theorem z_iast (C : Cx E X Y) {q n : Nat} {i x : Int32} (hq : kd q = (8, n)) (hin : vp_in i n) (d : decode Y.2.1 pc = .ok (.iastore, 1)) (k : Zz E X Y P (sgs σ q i.toNatClampNeg x) (pc + 1) lv st) : Zz E X Y P σ pc lv (.int x :: .int i :: .ref (E.2.1 q) :: st) := fun H locs ls hP hS hl => va_iast C.1 C.2.1 C.2.2.2.2.2.2.2.1 hP (wl_D σ C.2.2.2.2.2.2.2.2.2.2.2.1) hS q 0 (by rw [wl_get E σ (kd_lt8 hq), wc_arr hq]) rfl hin d (fun H1 locs1 hP1 _ hS1 => k H1 locs1 ls (by rw [wl_set (kd_lt8 hq) (by rw [wc_arr hq, sgr_self])] at hP1; exact hP1) hS1 hl)
theorem z_alen (C : Cx E X Y) {q n : Nat} {v : Int32} (hq : kd q = (8, n)) (hv : Int32.ofNat n = v) (d : decode Y.2.1 pc = .ok (.arraylength, 1)) (k : Zz E X Y P σ (pc + 1) lv (.int v :: st)) : Zz E X Y P σ pc lv (.ref (E.2.1 q) :: st) := fun H locs ls hP hS hl => va_alen C.1 C.2.1 C.2.2.2.2.2.2.2.1 hP q 0 (by rw [wl_get E σ (kd_lt8 hq), wc_arr hq]) rfl hv d (k H locs ls hP hS hl)
theorem z_alenq (C : Cx E X Y) {v : Int32} (hv : Int32.ofNat 5 = v) (d : decode Y.2.1 pc = .ok (.arraylength, 1)) (k : Zz E X Y P σ (pc + 1) lv (.int v :: st)) : Zz E X Y P σ pc lv (.ref (E.2.1 64) :: st) := fun H locs ls hP hS hl => va_alen C.1 C.2.1 C.2.2.2.2.2.2.2.1 hP 64 1 (wl_get E σ (q := 64) (by decide)) rfl hv d (k H locs ls hP hS hl)
theorem vp_nat {i : Int32} {n : Nat} (h : vp_in i n) : i.toNatClampNeg < n := Nat.not_le.mp fun q => h (Or.inr q)
theorem z_aldq (C : Cx E X Y) {i : Int32} (hin : vp_in i 5) (d : decode Y.2.1 pc = .ok (.aaload, 1)) (k : Zz E X Y P σ (pc + 1) lv (.ref (E.2.1 (65 + i.toNatClampNeg)) :: st)) : Zz E X Y P σ pc lv (.int i :: .ref (E.2.1 64) :: st) := fun H locs ls hP hS hl => va_aldq C.1 C.2.1 C.2.2.2.2.2.2.2.1 hP 64 1 (wl_get E σ (q := 64) (by decide)) rfl hin d (by have h := k H locs ls hP hS hl; rw [lawsAt, if_pos (vp_nat hin)]; exact h)
theorem z_copy (C : Cx E X Y) {i q0 q1 n0 n1 : Nat} {n : Int32} (hw1 : Cond.methodLink Y.1.cls i arraycopyName ∈ WT) (h0 : kd q0 = (8, n0)) (h1 : kd q1 = (8, n1)) (h3 : ¬ n < 0) (h4 : n.toNatClampNeg ≤ n0) (h5 : n.toNatClampNeg ≤ n1) (hf : 1 ≤ Y.2.2.2.2.1) (hlo : (st.map fun v => v.category).sum + (nativeFrameWords "java/lang/System" "arraycopy" 5 + 11) ≤ Y.2.2.2.2.2) (hw2 : Cond.native arraycopyName ∈ WT) (hw3 : Cond.static arraycopyName ∈ WT) (hw4 : Cond.initialized "java/lang/System" ∈ WT) (d : decode Y.2.1 pc = .ok (.invokestatic i, 3)) (k : Zz E X Y P (sgr σ q1 (va_cpy (σ q0) (σ q1) 0 0 n.toNatClampNeg)) (pc + 3) lv st) : Zz E X Y P σ pc lv (.int n :: .int 0 :: .ref (E.2.1 q1) :: .int 0 :: .ref (E.2.1 q0) :: st) := fun H locs ls hP hS hl => va_copyi C.1 C.2.1 (C.2.2.2.1.trans hl.1.symm) C.2.2.2.2.1 (C.2.2.2.2.2.1 _ hw1) (C.2.2.2.2.2.1 _ hw2) (C.2.2.2.2.2.1 _ hw3) (C.2.2.2.2.2.1 _ hw4) C.2.2.2.2.2.2.2.1 hP (wl_D σ C.2.2.2.2.2.2.2.2.2.2.2.1) hS q0 q1 0 0 (by rw [wl_get E σ (kd_lt8 h0), wc_arr h0]) (by rw [wl_get E σ (kd_lt8 h1), wc_arr h1]) rfl rfl rfl (by decide) (by decide) h3 (by simpa using h4) (by simpa using h5) (fun _ _ => rfl) hf hlo d (fun H1 locs1 hP1 _ hS1 => k H1 locs1 ls (by rw [wl_set (kd_lt8 h1) (by rw [wc_arr h1, sgr_self])] at hP1; exact hP1) hS1 hl)
theorem z_gets2 (C : Cx E X Y) {i : Nat} (hw : Cond.fieldLinkNest Y.1.cls i "ToWhoNeeds" "TWO" "[I" "ToWhoNeeds" ∈ NW) (d : decode Y.2.1 pc = .ok (.getstatic i, 3)) (k : Zz E X Y P σ (pc + 3) lv (.ref (E.2.2 2) :: st)) : Zz E X Y P σ pc lv st := fun H locs ls hP hS hl => va_getsN C.1 C.2.1 C.2.2.2.2.2.2.2.2.2.1.1 hS C.2.2.2.2.1 (va_Nw.use rfl (C.2.2.2.2.2.2.2.2.1 _ hw)) (fun _ h => h) d (k H locs ls hP hS hl)
theorem z_getsD (C : Cx E X Y) {i : Nat} (hw : Cond.fieldLinkNest Y.1.cls i "ToWhoNeeds" "DIGIT" "[I" "ToWhoNeeds" ∈ NW) (d : decode Y.2.1 pc = .ok (.getstatic i, 3)) (k : Zz E X Y P σ (pc + 3) lv (.ref (E.2.2 3) :: st)) : Zz E X Y P σ pc lv st := fun H locs ls hP hS hl => va_getsN C.1 C.2.1 C.2.2.2.2.2.2.2.2.2.2.1.1 hS C.2.2.2.2.1 (va_Nw.use rfl (C.2.2.2.2.2.2.2.2.1 _ hw)) (fun _ h => h) d (k H locs ls hP hS hl)
theorem z_ald2 (C : Cx E X Y) {i : Int32} (hin : vp_in i 81) (d : decode Y.2.1 pc = .ok (.iaload, 1)) (k : Zz E X Y P σ (pc + 1) lv (.int (twoL.getD i.toNatClampNeg 0) :: st)) : Zz E X Y P σ pc lv (.int i :: .ref (E.2.2 2) :: st) := fun H locs ls hP hS hl => va_ti C.1 C.2.1 C.2.2.2.2.2.2.2.2.2.1.2 hS hin rfl d (k H locs ls hP hS hl)
theorem z_alen2 (C : Cx E X Y) (d : decode Y.2.1 pc = .ok (.arraylength, 1)) (k : Zz E X Y P σ (pc + 1) lv (.int 81 :: st)) : Zz E X Y P σ pc lv (.ref (E.2.2 2) :: st) := fun H locs ls hP hS hl => va_tlen C.1 C.2.1 C.2.2.2.2.2.2.2.2.2.1.2 hS rfl d (k H locs ls hP hS hl)
theorem z_aldD (C : Cx E X Y) {i : Int32} (hin : vp_in i 4) (d : decode Y.2.1 pc = .ok (.iaload, 1)) (k : Zz E X Y P σ (pc + 1) lv (.int (digL.getD i.toNatClampNeg 0) :: st)) : Zz E X Y P σ pc lv (.int i :: .ref (E.2.2 3) :: st) := fun H locs ls hP hS hl => va_ti C.1 C.2.1 C.2.2.2.2.2.2.2.2.2.2.1.2 hS hin rfl d (k H locs ls hP hS hl)
theorem Amb.calling {U : State} {g : JFrame} {mk : MethodId} {a : Array Value} (h : Amb E U) : Amb E (U.calling g mk a) := by
  obtain ⟨h1, h2, ⟨h3, h4⟩, ⟨h5, h6⟩, h7, ⟨h8, h9⟩, h10, h11⟩ := h
  have ha : U.vm.Alike (U.calling g mk a).vm := Vm.Alike.refl U.vm
  refine ⟨va_K.moved (u := U) ha h1, fun w hw => ?_, ⟨va_Z.moved (u := U) ha h3, va_T.moved (u := U) ha h4⟩, ⟨va_Z.moved (u := U) ha h5, va_T.moved (u := U) ha h6⟩, h7, ⟨vk_R.same (u := U) rfl h8, vk_S.moved (u := U) ha h9⟩, va_Z.moved (u := U) ha h10, va_Zq.moved (u := U) ha h11⟩
  have h1 := h2 w hw
  have h2 := (List.mem_filter.mp hw).2
  cases w <;> first | exact va_Nw.same (u := U) rfl rfl h1 | (exact absurd h2 (by simp [isNest]))
theorem pre_blind {av : List Value} : FrameBlind (Pre E av σ) := fun a U g mk q => ⟨q.1, Amb.calling q.2.1, q.2.2⟩
theorem z_go {p : Program} {l : Launch} {e : Env} {R : Room} {s : State} {m : MethodId} {args : Array Value} {below : List Frame} {meth : Method} {c : Code} {H : Heap} {locs : List Loc} {Q : State → Prop} {ls : Array Slot} {st0 rest : List Value} {P2 : Pv} {a : Array Value} (hr : va_Run p l e R s m args below meth c H locs 0 0 0 0 (F0 m pc ls st0) rest (Post E P2 a) (Aw E)) (hS : va_S (Aw E) s.heap H locs)
    (kk : ∀ (H1 : Heap) (locs1 : List Loc), va_P E.1 vwC (wl E P2.2) H1 → va_S (Aw E) s.heap H1 locs1 → W p l e R s m args below meth c H1 locs1 0 0 Q (F0 m (pc + 3) ls (P2.1.toList ++ rest))) : W p l e R s m args below meth c H locs 0 0 Q (F0 m pc ls st0) := by
  intro T hT X
  obtain ⟨v, st₀, t, T', L, h0, X', hL, e1, e2, ⟨⟨hv, hb⟩, hz, hk⟩, st⟩ := hr T hT X
  have hv' : v = P2.1 := by injection hv
  subst hv'
  rw [h0] at hz hk
  obtain ⟨t2, a1, b1⟩ := kk T'.heap (locs ++ L) (by rw [e1]; exact hb)
    ⟨Nat.le_trans hS.1 (by rw [e1]; exact hz), fun q h1 h2 => by rw [e1, hk q (Nat.lt_of_lt_of_le h1 hS.1) h2]; exact hS.2.1 q h1 h2, fun q hq => by
      rcases List.mem_append.mp hq with h | h
      · exact hS.2.2 q h
      · exact hL q h⟩ T' rfl X'
  exact ⟨t2, st t2 a1, b1⟩
/-- the words of a callee that a caller shows -/
def Lk (Y Y2 : Yv) (n : Nat) : Prop := Cond.code Y2.1 Y2.2.1 Y2.2.2.1 Y2.2.2.2.1 ∈ WT ∧ Cond.initialized Y2.1.cls ∈ WT ∧ (Y2.1.cls ≠ "java/lang/invoke/MethodHandle" ∧ Y2.1.cls ≠ "java/lang/invoke/VarHandle") ∧ (parseMethodDescriptor Y2.1.desc).map (fun d => d.parameters.length) = some n
theorem len_of {x : MethodName} {n : Nat} (h : (parseMethodDescriptor x.desc).map (fun d => d.parameters.length) = some n) : ∀ sig, parseMethodDescriptor x.desc = some sig → n = sig.parameters.length := by
  intro sig hs
  rw [hs] at h
  exact (Option.some.inj h).symm
theorem z_callV (C : Cx E X Y) {Y2 : Yv} {P2 : Pv} {CC : String} {T : u_T} {N ci i q n : Nat} {As fs stk : List Value} (hL : Lk Y Y2 n) (hq : q < 96) (he : wc E σ q = .inr (ci, fs)) (hc : vwC[ci]? = some (CC, T, N)) (hw1 : Cond.methodLink Y.1.cls i Y2.1 ∈ WT) (hw2 : Cond.instanceMethod Y2.1 ∈ WT) (hw3 : Cond.selects CC Y2.1 Y2.1 ∈ WT) (hfr : Y2.2.2.2.2.1 + 1 ≤ Y.2.2.2.2.1) (hlo : 8 + (Y2.2.2.1 + 11) + Y2.2.2.2.2.2 ≤ Y.2.2.2.2.2) (d : decode Y.2.1 pc = .ok (.invokevirtual i, 3)) (hst : (st.map fun v => v.category).sum ≤ 8) (hn : As.length = n) (hs : stk = As.reverse ++ .ref (E.2.1 q) :: st) (hM : Ct X.2.1 E Y2 (.ref (E.2.1 q) :: As) σ P2) (k : Zz E X Y P P2.2 (pc + 3) lv (P2.1.toList ++ st)) : Zz E X Y P σ pc lv stk := by
  subst hs
  intro H locs ls hP hS hl
  have hA := C.2.2.2.2.2.2.2
  have hts := C.2.2.2.2.2.1
  refine z_go (va_runV (As := As) (rest := st) (n := n) (bytes := Y2.2.1) (maxL := Y2.2.2.1) (ret := Y2.2.2.2.1) (C := CC) ⟨C.1, C.2.1, C.2.2.2.1, C.2.2.2.2.1, hts⟩ hM ⟨⟨rfl, rfl, hfr, hlo, pay_in hts (wt_good hL.1), List.mem_cons_self, hts _ hL.1, hts _ hL.2.1, hL.2.2.1, len_of hL.2.2.2, hts _ hw1⟩, hts _ hw2, hts _ hw3⟩ ⟨pre_blind, va_recv hA.1 hP hc (by rw [wl_get E σ hq, he]), fun U hU hW => ⟨rfl, hA.mov hS hU hW, by rw [hU]; exact hP⟩⟩ rfl hn hl.1 rfl (by show 2 * 0 + _ ≤ 8; omega) d ⟨Nat.le_refl _, Nat.le_refl _⟩) hS (fun H1 locs1 hP1 hS1 => k H1 locs1 ls hP1 hS1 hl)
theorem z_callU (C : Cx E X Y) {Y2 : Yv} {P2 : Pv} {x : MethodName} {CC owner : String} {T : u_T} {N ci i q n : Nat} {As fs stk : List Value} (hL : Lk Y Y2 n) (hq : q < 96) (he : wc E σ q = .inr (ci, fs)) (hc : vwC[ci]? = some (CC, T, N)) (hw1 : Cond.methodLink Y.1.cls i x ∈ WT) (hw2 : Cond.instanceMethod Y2.1 ∈ WT) (hw3 : Cond.selects CC x Y2.1 ∈ WT) (hw4 : Cond.sameMethod x.cls owner x.name x.desc ∈ WT) (hdc : va_Decl X.2.2.2.1 ⟨owner, x.name, x.desc⟩) (ho : owner ≠ "java/lang/invoke/MethodHandle" ∧ owner ≠ "java/lang/invoke/VarHandle") (hxd : (parseMethodDescriptor x.desc).map (fun d => d.parameters.length) = some n) (hfr : Y2.2.2.2.2.1 + 1 ≤ Y.2.2.2.2.1) (hlo : 8 + (Y2.2.2.1 + 11) + Y2.2.2.2.2.2 ≤ Y.2.2.2.2.2) (d : decode Y.2.1 pc = .ok (.invokevirtual i, 3)) (hst : (st.map fun v => v.category).sum ≤ 8) (hn : As.length = n) (hs : stk = As.reverse ++ .ref (E.2.1 q) :: st) (hM : Ct X.2.1 E Y2 (.ref (E.2.1 q) :: As) σ P2) (k : Zz E X Y P P2.2 (pc + 3) lv (P2.1.toList ++ st)) : Zz E X Y P σ pc lv stk := by
  subst hs
  intro H locs ls hP hS hl
  have hA := C.2.2.2.2.2.2.2
  have hts := C.2.2.2.2.2.1
  refine z_go (va_runU (x := x) (owner := owner) (As := As) (rest := st) (n := n) (bytes := Y2.2.1) (maxL := Y2.2.2.1) (ret := Y2.2.2.2.1) (C := CC) ⟨C.1, C.2.1, C.2.2.2.1, C.2.2.2.2.1, hts⟩ hM ⟨⟨rfl, rfl, hfr, hlo, pay_in hts (wt_good hL.1), List.mem_cons_self⟩, hts _ hL.1, hts _ hL.2.1, ho, len_of hxd, hts _ hw1, hts _ hw4, hdc, hts _ hw3, hts _ hw2⟩ ⟨pre_blind, va_recv hA.1 hP hc (by rw [wl_get E σ hq, he]), fun U hU hW => ⟨rfl, hA.mov hS hU hW, by rw [hU]; exact hP⟩⟩ rfl hn hl.1 rfl (by show 2 * 0 + _ ≤ 8; omega) d ⟨Nat.le_refl _, Nat.le_refl _⟩) hS (fun H1 locs1 hP1 hS1 => k H1 locs1 ls hP1 hS1 hl)
theorem z_callS (C : Cx E X Y) {Y2 : Yv} {P2 : Pv} {i n : Nat} {As stk : List Value} (hL : Lk Y Y2 n) (hw1 : Cond.methodLink Y.1.cls i Y2.1 ∈ WT) (hw2 : Cond.static Y2.1 ∈ WT) (hfr : Y2.2.2.2.2.1 + 1 ≤ Y.2.2.2.2.1) (hlo : 8 + (Y2.2.2.1 + 11) + Y2.2.2.2.2.2 ≤ Y.2.2.2.2.2) (d : decode Y.2.1 pc = .ok (.invokestatic i, 3)) (hst : (st.map fun v => v.category).sum ≤ 8) (hn : As.length = n) (hs : stk = As.reverse ++ st) (hM : Ct X.2.1 E Y2 As σ P2) (k : Zz E X Y P P2.2 (pc + 3) lv (P2.1.toList ++ st)) : Zz E X Y P σ pc lv stk := by
  subst hs
  intro H locs ls hP hS hl
  have hA := C.2.2.2.2.2.2.2
  have hts := C.2.2.2.2.2.1
  refine z_go (va_runS (As := As) (rest := st) (n := n) (bytes := Y2.2.1) (maxL := Y2.2.2.1) (ret := Y2.2.2.2.1) ⟨C.1, C.2.1, C.2.2.2.1, C.2.2.2.2.1, hts⟩ hM ⟨⟨rfl, rfl, hfr, hlo, pay_in hts (wt_good hL.1), List.mem_cons_self, hts _ hL.1, hts _ hL.2.1, hL.2.2.1, len_of hL.2.2.2, hts _ hw1⟩, hts _ hw2⟩ ⟨pre_blind, fun U hU hW => ⟨rfl, hA.mov hS hU hW, by rw [hU]; exact hP⟩⟩ rfl hn hl.1 rfl (by show 2 * 0 + _ ≤ 8; omega) d ⟨Nat.le_refl _, Nat.le_refl _⟩) hS (fun H1 locs1 hP1 hS1 => k H1 locs1 ls hP1 hS1 hl)
theorem z_callSN (C : Cx E X Y) {Y2 : Yv} {P2 : Pv} {host : String} {i n : Nat} {As stk : List Value} (hL : Lk Y Y2 n) (hw1 : Cond.methodLinkNest Y.1.cls i Y2.1 host ∈ NW) (hw2 : Cond.static Y2.1 ∈ WT) (hfr : Y2.2.2.2.2.1 + 1 ≤ Y.2.2.2.2.1) (hlo : 8 + (Y2.2.2.1 + 11) + Y2.2.2.2.2.2 ≤ Y.2.2.2.2.2) (d : decode Y.2.1 pc = .ok (.invokestatic i, 3)) (hst : (st.map fun v => v.category).sum ≤ 8) (hn : As.length = n) (hs : stk = As.reverse ++ st) (hM : Ct X.2.1 E Y2 As σ P2) (k : Zz E X Y P P2.2 (pc + 3) lv (P2.1.toList ++ st)) : Zz E X Y P σ pc lv stk := by
  subst hs
  intro H locs ls hP hS hl
  have hA := C.2.2.2.2.2.2.2
  have hts := C.2.2.2.2.2.1
  refine z_go (va_runSN (host := host) (As := As) (rest := st) (n := n) (bytes := Y2.2.1) (maxL := Y2.2.2.1) (ret := Y2.2.2.2.1) ⟨C.1, C.2.1, C.2.2.2.1, C.2.2.2.2.1, hts⟩ hM ⟨⟨⟨rfl, rfl, hfr, hlo, pay_in hts (wt_good hL.1), List.mem_cons_self⟩, hts _ hL.1, hts _ hL.2.1, hL.2.2.1, len_of hL.2.2.2, va_Nw.use rfl (hA.2.1 _ hw1)⟩, hts _ hw2, trivial⟩ ⟨pre_blind, fun U hU hW => ⟨rfl, hA.mov hS hU hW, by rw [hU]; exact hP⟩⟩ rfl hn hl.1 rfl (by show 2 * 0 + _ ≤ 8; omega) d ⟨Nat.le_refl _, Nat.le_refl _⟩) hS (fun H1 locs1 hP1 hS1 => k H1 locs1 ls hP1 hS1 hl)
theorem z_mmax (C : Cx E X Y) {i : Nat} {x y : Int32} (hw1 : Cond.methodLink Y.1.cls i Lib.Math.max.name ∈ WT) (hw2 : Cond.static Lib.Math.max.name ∈ WT) (hw3 : Cond.initialized "java/lang/Math" ∈ WT) (hw4 : Cond.code Lib.Math.max.name Lib.Math.max.code 2 (some .int) ∈ WT) (hf : 1 ≤ Y.2.2.2.2.1) (hlo : (st.map fun v => v.category).sum + 13 ≤ Y.2.2.2.2.2) (d : decode Y.2.1 pc = .ok (.invokestatic i, 3)) (k : Zz E X Y P σ (pc + 3) lv (.int (if x < y then y else x) :: st)) : Zz E X Y P σ pc lv (.int y :: .int x :: st) := fun H locs ls hP hS hl => va_mmax C.1 C.2.1 (C.2.2.2.1.trans hl.1.symm) C.2.2.2.2.1 (C.2.2.2.2.2.1 _ hw1) (C.2.2.2.2.2.1 _ hw2) (C.2.2.2.2.2.1 _ hw3) (C.2.2.2.2.2.1 _ hw4) hf hlo (Nat.zero_le _) (Nat.zero_le _) d (k H locs ls hP hS hl)
theorem z_mmin (C : Cx E X Y) {i : Nat} {x y : Int32} (hw1 : Cond.methodLink Y.1.cls i Lib.Math.min.name ∈ WT) (hw2 : Cond.static Lib.Math.min.name ∈ WT) (hw3 : Cond.initialized "java/lang/Math" ∈ WT) (hw4 : Cond.code Lib.Math.min.name Lib.Math.min.code 2 (some .int) ∈ WT) (hf : 1 ≤ Y.2.2.2.2.1) (hlo : (st.map fun v => v.category).sum + 13 ≤ Y.2.2.2.2.2) (d : decode Y.2.1 pc = .ok (.invokestatic i, 3)) (k : Zz E X Y P σ (pc + 3) lv (.int (if y < x then y else x) :: st)) : Zz E X Y P σ pc lv (.int y :: .int x :: st) := fun H locs ls hP hS hl => va_mmin C.1 C.2.1 (C.2.2.2.1.trans hl.1.symm) C.2.2.2.2.1 (C.2.2.2.2.2.1 _ hw1) (C.2.2.2.2.2.1 _ hw2) (C.2.2.2.2.2.1 _ hw3) (C.2.2.2.2.2.1 _ hw4) hf hlo (Nat.zero_le _) (Nat.zero_le _) d (k H locs ls hP hS hl)
theorem z_tabOut (C : Cx E X Y) {dflt lo hi : Int} {offs : Array Int} {len : Nat} {x : Int32} {tgt : Nat} (d : decode Y.2.1 pc = .ok (.tableswitch dflt lo hi offs, len)) (h : x.toInt < lo ∨ hi < x.toInt) (ht : (pc : Int) + dflt = (tgt : Int)) (k : Zz E X Y P σ tgt lv st) : Zz E X Y P σ pc lv (.int x :: st) := fun H locs ls hP hS hl => lv_tableOut C.1 C.2.1 d h ht (k H locs ls hP hS hl)
theorem z_tabIn (C : Cx E X Y) {dflt lo hi : Int} {offs : Array Int} {len : Nat} {x : Int32} {off : Int} {tgt : Nat} (d : decode Y.2.1 pc = .ok (.tableswitch dflt lo hi offs, len)) (h1 : ¬ x.toInt < lo) (h2 : ¬ hi < x.toInt) (ho : offs[(x.toInt - lo).toNat]? = some off) (ht : (pc : Int) + off = (tgt : Int)) (k : Zz E X Y P σ tgt lv st) : Zz E X Y P σ pc lv (.int x :: st) := fun H locs ls hP hS hl => lv_tableIn C.1 C.2.1 d h1 h2 ho ht (k H locs ls hP hS hl)
theorem z_look (C : Cx E X Y) {dflt : Int} {ps : Array (Int × Int)} {len : Nat} {x : Int32} {off : Int} {tgt : Nat} (d : decode Y.2.1 pc = .ok (.lookupswitch dflt ps, len)) (hp : (ps.toList.zip (ps.toList.drop 1)).all (fun (a, next) => a.1 < next.1) = true) (ho : Op.lookupswitch.offset ps.toList dflt x.toInt = off) (ht : (pc : Int) + off = (tgt : Int)) (k : Zz E X Y P σ tgt lv st) : Zz E X Y P σ pc lv (.int x :: st) := fun H locs ls hP hS hl => lv_lookup C.1 C.2.1 d hp ho ht (k H locs ls hP hS hl)
end ZROWS
