def σ0 : Sg := fun q k => if q = 68 ∧ k = 0 then 1 else 0
theorem s0z {q : Nat} (h : (kd q).1 ≠ 6) (k : Nat) : σ0 q k = 0 := by
  unfold σ0
  rw [if_neg]
  rintro ⟨rfl, -⟩
  exact h rfl
theorem s0a {q n : Nat} (h : kd q = (8, n)) : σ0 q = fun _ => 0 := funext fun k => s0z (by rw [h]; simp) k
def sl (E : Ev) (i n : Nat) : va_W := (List.range n).map (fun j => (E.2.1 (i + j), wc E σ0 (i + j)))
theorem sl_app (E : Ev) (i n m : Nat) {j : Nat} (h : j = i + n) : sl E i n ++ sl E j m = sl E i (n + m) := by
  subst h
  unfold sl
  rw [List.range_add, List.map_append, List.map_map]
  congr 1
  apply List.map_congr_left
  intro a _
  simp [Nat.add_assoc]
theorem sl_one (E : Ev) (i : Nat) : sl E i 1 = [(E.2.1 i, wc E σ0 i)] := by simp [sl, List.range_succ]
theorem sl_snoc (E : Ev) (i n : Nat) {j : Nat} {e : va_E} (h : j = i + n) (he : wc E σ0 j = e) : sl E i n ++ [(E.2.1 j, e)] = sl E i (n + 1) := by
  rw [← he, ← sl_one, sl_app E i n 1 h]
theorem sl_cons (E : Ev) (i n : Nat) {e : va_E} (he : wc E σ0 i = e) : (E.2.1 i, e) :: sl E (i + 1) n = sl E i (n + 1) := by
  have h := sl_app E i 1 n (j := i + 1) rfl
  rw [sl_one, he] at h
  rw [Nat.add_comm n 1, ← h]
  rfl
theorem wl_sl (E : Ev) : wl E σ0 = sl E 0 96 := by simp [wl, sl]
def lawCs : List String := ["ToWhoNeeds$Sum", "ToWhoNeeds$Met", "ToWhoNeeds$Most", "ToWhoNeeds$Second", "ToWhoNeeds$ReadOn"]
def AmbN (E : Ev) (U : State) : Prop := va_K E.1 vwC [(E.2.2 0, .int), (E.2.2 1, .object "ToWhoNeeds$Law")] U ∧ (∀ w ∈ NW, va_Nw w U) ∧ va_AO "ToWhoNeeds$Law" U ∧ ∀ C ∈ lawCs, va_Nw (.castable C "ToWhoNeeds$Law") U
theorem AmbN.mov {E : Ev} {s U : State} (h : AmbN E s) (hW : s.WarmedH U.vm) : AmbN E U := ⟨h.1.moved hW.alike, nw_moved hW h.2.1, h.2.2.1.moved hW.alike, fun C hC => va_Nw.warmC hW (h.2.2.2 C hC)⟩
theorem AmbN.calling {E : Ev} {U : State} {g : JFrame} {mk : MethodId} {a : Array Value} (h : AmbN E U) : AmbN E (U.calling g mk a) := by
  have ha : U.vm.Alike (U.calling g mk a).vm := Vm.Alike.refl U.vm
  refine ⟨va_K.moved (u := U) ha h.1, fun w hw => ?_, va_AO.moved (u := U) ha h.2.2.1, fun C hC => va_Nw.same (u := U) rfl rfl (h.2.2.2 C hC)⟩
  have h1 := h.2.1 w hw
  have h2 := (List.mem_filter.mp hw).2
  cases w <;> first | exact va_Nw.same (u := U) rfl rfl h1 | (exact absurd h2 (by simp [isNest]))
def Rn (fr lo mc ms : Nat) : Room := { frames := fr, cells := mc, slots := ms, locals := lo }
def Aq (E : Ev) (q : Nat) : Nat → Prop := fun a => E.2.1 q ≤ a
def Ad (E : Ev) : Prop := ∀ k, E.2.1 k = E.2.1 0 + k
def PreN (E : Ev) (q : Nat) (av : List Value) (e : va_E) : Array Value → State → Prop := va_Pc av (fun U => U.heap.size = E.2.1 (q + 1) ∧ AmbN E U ∧ va_P E.1 vwC [(E.2.1 q, e)] U.heap)
def PostN (E : Ev) (q : Nat) (P : va_W × Nat) : Array Value → State → Outcome → State → Prop := fun _ st o t => (o = .returned none ∧ t.heap.size = E.2.1 P.2 ∧ va_P E.1 vwC P.1 t.heap ∧ va_D (Aq E q) P.1) ∧ va_F (Aq E q) st t
/-- a constructor's contract: on the object at place q, the last cell of the heap, it makes the cells P.1 (its own among them); the next place is P.2 -/
def Cn (l : Launch) (E : Ev) (Y : Yv) (mc ms q : Nat) (av : List Value) (e : va_E) (P : va_W × Nat) : Prop := Met l Y.1 (Cond.code Y.1 Y.2.1 Y.2.2.1 Y.2.2.2.1 :: WT) (Rn Y.2.2.2.2.1 Y.2.2.2.2.2 mc ms) (PreN E q av e) (PostN E q P) mc ms (Aq E q)
def Cxn (E : Ev) (X : Xv) (Y : Yv) (q : Nat) : Prop := X.1.tables.exec = Jvm.exec ∧ X.2.2.2.2.2.2.2.2.code = Y.2.1 ∧ X.2.2.2.2.2.2.2.1.sig.returnType = Y.2.2.2.1 ∧ X.2.2.2.2.2.2.2.2.maxLocals = Y.2.2.1 ∧ X.2.2.2.1.vm.findClass Y.1.cls = some X.2.2.2.2.1.cls ∧ (∀ w ∈ WT, w.before X.2.2.2.2.2.1 X.2.2.2.1 = true) ∧ X.2.2.2.2.2.2.2.1.locks = false ∧ AmbN E X.2.2.2.1 ∧ Ad E ∧ X.2.2.2.1.heap.size = E.2.1 (q + 1) ∧ X.2.2.2.2.2.2.2.1.name = Y.1.name
def Zn (E : Ev) (X : Xv) (Y : Yv) (mc ms q : Nat) (P : va_W × Nat) (ws : va_W) (nx kc ks pc : Nat) (lv : List (Nat × Value)) (st : List Value) : Prop := ∀ (H : Heap) (locs : List Loc) (ls : Array Slot), H.size = E.2.1 nx → va_P E.1 vwC ws H → va_D (Aq E q) ws → va_S (Aq E q) X.2.2.2.1.heap H locs → lv_has ls Y.2.2.1 lv → W X.1 X.2.1 X.2.2.1 (Rn Y.2.2.2.2.1 Y.2.2.2.2.2 mc ms) X.2.2.2.1 X.2.2.2.2.1 X.2.2.2.2.2.1 X.2.2.2.2.2.2.1 X.2.2.2.2.2.2.2.1 X.2.2.2.2.2.2.2.2 H locs kc ks (MQ X.2.2.2.2.2.2.1 (PostN E q P) X.2.2.2.2.2.1 X.2.2.2.1 mc ms (Aq E q)) (F0 X.2.2.2.2.1 pc ls st)
theorem cn_of {l : Launch} {E : Ev} {Y : Yv} {mc ms q : Nat} {av : List Value} {e : va_E} {P : va_W × Nat} (hE : Ad E) (hy : plainName Y.1.cls = true) (hn : (lg_sl av).length ≤ Y.2.2.1) (lv : List (Nat × Value)) (hlv : lv_args 0 av = lv)
    (h : ∀ X : Xv, X.2.1 = l → Cxn E X Y q → Zn E X Y mc ms q P [(E.2.1 q, e)] (q + 1) 0 0 0 lv []) : Cn l E Y mc ms q av e P := by
  refine Met.ofW (cc := Y.2.1) (maxL := Y.2.2.1) (ret := Y.2.2.2.1) hy rfl ?_
  intro p e' s m args below meth c s₁ B hml hv
  obtain ⟨rfl, hsz, hA, hP⟩ := hv
  have hts := atoms_spec (ws := Cond.code Y.1 Y.2.1 Y.2.2.1 Y.2.2.2.1 :: WT) B.pre
  have hl := lv_entry av (n := Y.2.2.1) hn
  rw [lg_entry_eq]
  rw [hlv] at hl
  refine h (p, l, e', s, m, av.toArray, below, meth, c) rfl ⟨B.exec, B.bytes, B.returns, hml, findClass_of_methodNamed B.named, fun w hw => hts w (List.mem_cons_of_mem _ hw), B.notSynchronized, hA, hE, hsz, (name_of_methodNamed B.named B.method).1⟩ s.heap [] _ hsz hP ⟨fun i j x y hi hj _ => ?_, fun k x hx => ?_⟩ va_S.rf hl
  · have h1 : i < 1 := (List.getElem?_eq_some_iff.mp hi).1
    have h2 : j < 1 := (List.getElem?_eq_some_iff.mp hj).1
    omega
  · have h1 : k < 1 := (List.getElem?_eq_some_iff.mp hx).1
    rw [show k = 0 by omega] at hx
    cases hx
    exact Nat.le_refl _
section ZNEW
variable {E : Ev} {X : Xv} {Y : Yv} {mc ms q : Nat} {P : va_W × Nat} {ws : va_W} {nx kc ks pc : Nat} {lv : List (Nat × Value)} {st : List Value}
theorem zn_eq {ws' : va_W} {nx' : Nat} (hw : ws = ws') (hn : nx = nx') (k : Zn E X Y mc ms q P ws' nx' kc ks pc lv st) : Zn E X Y mc ms q P ws nx kc ks pc lv st := by
  subst hw
  subst hn
  exact k
theorem zn_aload_n (C : Cxn E X Y q) {i : Fin 4} {x : Nat} (d : decode Y.2.1 pc = .ok (.aload_n i, 1)) (j : Nat) (hj : lv[j]? = some (i.1, .ref x)) (k : Zn E X Y mc ms q P ws nx kc ks (pc + 1) lv (.ref x :: st)) : Zn E X Y mc ms q P ws nx kc ks pc lv st := fun H locs ls hz hP hD hS hl => lv_aload_n C.1 C.2.1 d rfl (lv_at hl j hj) (k H locs ls hz hP hD hS hl)
theorem zn_iload_n (C : Cxn E X Y q) {i : Fin 4} {x : Int32} (d : decode Y.2.1 pc = .ok (.iload_n i, 1)) (j : Nat) (hj : lv[j]? = some (i.1, .int x)) (k : Zn E X Y mc ms q P ws nx kc ks (pc + 1) lv (.int x :: st)) : Zn E X Y mc ms q P ws nx kc ks pc lv st := fun H locs ls hz hP hD hS hl => lv_iload_n C.1 C.2.1 d rfl (lv_at hl j hj) (k H locs ls hz hP hD hS hl)
theorem zn_iconst (C : Cxn E X Y q) {n : Int} {v : Int32} (d : decode Y.2.1 pc = .ok (.iconst n, 1)) (hv : Int32.ofInt n = v) (k : Zn E X Y mc ms q P ws nx kc ks (pc + 1) lv (.int v :: st)) : Zn E X Y mc ms q P ws nx kc ks pc lv st := fun H locs ls hz hP hD hS hl => lv_iconst C.1 C.2.1 d hv (k H locs ls hz hP hD hS hl)
theorem zn_bipush (C : Cxn E X Y q) {n : Int} {v : Int32} (d : decode Y.2.1 pc = .ok (.bipush n, 2)) (hv : (Int8.ofInt n).toInt32 = v) (k : Zn E X Y mc ms q P ws nx kc ks (pc + 2) lv (.int v :: st)) : Zn E X Y mc ms q P ws nx kc ks pc lv st := fun H locs ls hz hP hD hS hl => lv_bipush C.1 C.2.1 d hv (k H locs ls hz hP hD hS hl)
theorem zn_sipush (C : Cxn E X Y q) {n : Int} {v : Int32} (d : decode Y.2.1 pc = .ok (.sipush n, 3)) (hv : (Int16.ofInt n).toInt32 = v) (k : Zn E X Y mc ms q P ws nx kc ks (pc + 3) lv (.int v :: st)) : Zn E X Y mc ms q P ws nx kc ks pc lv st := fun H locs ls hz hP hD hS hl => lv_sipush C.1 C.2.1 d hv (k H locs ls hz hP hD hS hl)
theorem zn_dup (C : Cxn E X Y q) {v : Value} (d : decode Y.2.1 pc = .ok (.dup, 1)) (hv : v.category = 1) (k : Zn E X Y mc ms q P ws nx kc ks (pc + 1) lv (v :: v :: st)) : Zn E X Y mc ms q P ws nx kc ks pc lv (v :: st) := fun H locs ls hz hP hD hS hl => lv_dup C.1 C.2.1 d hv (k H locs ls hz hP hD hS hl)
theorem zn_goto (C : Cxn E X Y q) {off : Int} {tgt : Nat} (d : decode Y.2.1 pc = .ok (.goto off, 3)) (ht : (pc : Int) + off = (tgt : Int)) (k : Zn E X Y mc ms q P ws nx kc ks tgt lv st) : Zn E X Y mc ms q P ws nx kc ks pc lv st := fun H locs ls hz hP hD hS hl => lv_goto C.1 C.2.1 d ht (k H locs ls hz hP hD hS hl)
theorem zn_if_le (C : Cxn E X Y q) {x : Int32} {off : Int} {tgt : Nat} (d : decode Y.2.1 pc = .ok (.ifCond .le off, 3)) (ht : (pc : Int) + off = (tgt : Int)) (hx : ¬ x ≤ 0) (k : Zn E X Y mc ms q P ws nx kc ks (pc + 3) lv st) : Zn E X Y mc ms q P ws nx kc ks pc lv (.int x :: st) := fun H locs ls hz hP hD hS hl => lv_if_le C.1 C.2.1 d ht (fun h => absurd h hx) (fun _ => k H locs ls hz hP hD hS hl)
theorem zn_obj (C : Cxn E X Y q) {i a : Nat} (hw1 : Cond.methodLink Y.1.cls i objectInit ∈ WT) (hw2 : Cond.instanceMethod objectInit ∈ WT) (hw3 : Cond.code objectInit ⟨#[0xb1]⟩ 1 none ∈ WT) (d : decode Y.2.1 pc = .ok (.invokespecial i, 3)) (hf : 1 ≤ Y.2.2.2.2.1) (hlo : (st.map fun v => v.category).sum + 12 ≤ Y.2.2.2.2.2) (k : Zn E X Y mc ms q P ws nx kc ks (pc + 3) lv st) : Zn E X Y mc ms q P ws nx kc ks pc lv (.ref a :: st) := fun H locs ls hz hP hD hS hl => W.objInit C.1 C.2.1 C.2.2.2.2.1 (C.2.2.2.2.2.1 _ hw1) (C.2.2.2.2.2.1 _ hw2) (C.2.2.2.2.2.1 _ hw3) rfl (by rw [C.2.2.2.1]; exact hl.1) rfl d hf (by show 2 * 0 + (st.map fun v => v.category).sum + 12 ≤ Y.2.2.2.2.2; omega) (k H locs ls hz hP hD hS hl)
theorem zn_vret (C : Cxn E X Y q) (d : decode Y.2.1 pc = .ok (.return_, 1)) (hr : Y.2.2.2.1 = none) (hc : kc = mc) (hs : ks = ms) (hp : P = (ws, nx)) : Zn E X Y mc ms q P ws nx kc ks pc lv [] := by
  subst hp
  subst hc
  subst hs
  intro H locs ls hz hP hD hS hl
  exact W.vret C.1 C.2.1 (C.2.2.1.trans hr) (fun t ht _ => ⟨⟨rfl, by rw [ht]; exact hz, by rw [ht]; exact hP, hD⟩, hS.F ht⟩) hS.2.2 d C.2.2.2.2.2.2.1
theorem zn_sz {H1 : Heap} {locs1 : List Loc} {Q : State → Prop} {g : JFrame} (C : Cxn E X Y q) (hnk : nx = q + 1 + kc) (hle : E.2.1 nx ≤ H1.size) (k : H1.size = E.2.1 nx → W X.1 X.2.1 X.2.2.1 (Rn Y.2.2.2.2.1 Y.2.2.2.2.2 mc ms) X.2.2.2.1 X.2.2.2.2.1 X.2.2.2.2.2.1 X.2.2.2.2.2.2.1 X.2.2.2.2.2.2.2.1 X.2.2.2.2.2.2.2.2 H1 locs1 kc ks Q g) : W X.1 X.2.1 X.2.2.1 (Rn Y.2.2.2.2.1 Y.2.2.2.2.2 mc ms) X.2.2.2.1 X.2.2.2.2.1 X.2.2.2.2.2.1 X.2.2.2.2.2.2.1 X.2.2.2.2.2.2.2.1 X.2.2.2.2.2.2.2.2 H1 locs1 kc ks Q g := by
  intro T hT S
  have h1 := S.heapSize
  have hE := C.2.2.2.2.2.2.2.2.1
  have h2 := C.2.2.2.2.2.2.2.2.2.1
  refine k ?_ T hT S
  rw [hT, h2] at h1
  rw [hE nx] at hle ⊢
  rw [hE (q + 1)] at h1
  omega
theorem zn_putF (C : Cxn E X Y q) {CC : String} {TT : u_T} {N ci i a : Nat} {fs : List Value} {tl : va_W} {ty : FieldType} {v : Value} (ty0 : Nat → FieldType) (hty : ∀ k, k < N → parseFieldDescriptor (TT k).2.2.1 = some (ty0 k)) (hnm : ∀ a, a < N → ∀ b, b < N → a ≠ b → (TT a).2.1 ≠ (TT b).2.1) (hc : vwC[ci]? = some (CC, TT, N)) (hin : ∀ w ∈ u_ws CC TT N, w ∈ WT) (n : Nat) (hk : n < N) (hw : Cond.fieldLink Y.1.cls i (TT n).1 (TT n).2.1 (TT n).2.2.1 ∈ WT) (hfin : (TT n).2.2.2 = true) (hini : Y.1.name = "<init>") (hdc : (TT n).1 = Y.1.cls) (hd : parseFieldDescriptor (TT n).2.2.1 = some ty) (hna : narrow ty v = v) (hfit : fits ty v = true) (hl' : n < fs.length) (hnk : nx = q + 1 + kc) (d : decode Y.2.1 pc = .ok (.putfield i, 3)) (k : Zn E X Y mc ms q P ((a, .inr (ci, fs.set n v)) :: tl) nx kc ks (pc + 3) lv st) : Zn E X Y mc ms q P ((a, .inr (ci, fs)) :: tl) nx kc ks pc lv (v :: .ref a :: st) := by
  intro H locs ls hz hP hD hS hl
  refine va_putF (q0 := 0) C.1 C.2.1 C.2.2.2.2.2.1 hin ty0 hty hnm C.2.2.2.2.1 C.2.2.2.2.2.2.2.1.1 hP hD (H0 := H) ⟨Nat.le_refl _, fun _ _ _ => rfl, fun l hl => hS.2.2 l hl⟩ rfl hc n hk (C.2.2.2.2.2.1 _ hw) (fun _ h => h) hfin (C.2.2.2.2.2.2.2.2.2.2.trans hini) hdc hd hna hfit hl' d (fun H1 locs1 hP1 hD1 hS1 => ?_)
  refine zn_sz C hnk (by rw [← hz]; exact hS1.1) (fun hz1 => ?_)
  exact k H1 locs1 ls hz1 hP1 hD1 ⟨Nat.le_trans hS.1 hS1.1, fun x h1 h2 => (hS1.2.1 x (Nat.lt_of_lt_of_le h1 hS.1) h2).trans (hS.2.1 x h1 h2), hS1.2.2⟩ hl
theorem zn_new (C : Cxn E X Y q) {CC : String} {TT : u_T} {N ci i : Nat} {fs : List Value} (ty0 : Nat → FieldType) (hty : ∀ k, k < N → parseFieldDescriptor (TT k).2.2.1 = some (ty0 k)) (hc : vwC[ci]? = some (CC, TT, N)) (hin : ∀ w ∈ u_ws CC TT N, w ∈ WT) (hw1 : Cond.classLink Y.1.cls i CC ∈ WT) (hw2 : Cond.instantiable CC N ∈ WT) (hw3 : Cond.initialized CC ∈ WT) (hfs : ∀ j, j < N → defaultValue (ty0 j) = vp_V fs j) (hkc : kc + 1 ≤ mc) (hks : ks + N ≤ ms) (hq : q ≤ nx) (d : decode Y.2.1 pc = .ok (.new i, 3)) (k : Zn E X Y mc ms q P (ws ++ [(E.2.1 nx, .inr (ci, fs))]) (nx + 1) (kc + 1) (ks + N) (pc + 3) lv (.ref (E.2.1 nx) :: st)) : Zn E X Y mc ms q P ws nx kc ks pc lv st := by
  intro H locs ls hz hP hD hS hl
  have hts := C.2.2.2.2.2.1
  have hKn := C.2.2.2.2.2.2.2.1.1.1 ci _ hc
  have hE := C.2.2.2.2.2.2.2.2.1
  refine W.newcK C.1 C.2.1 C.2.2.2.2.1 (hts _ hw1) (hts _ hw2) (hts _ hw3) rfl d hkc hks hKn.2.1 hz fun H1 kC hkC e1 z1 o1 => ?_
  have hk : ∀ (j : Nat) (x : Nat × va_E), ws[j]? = some x → H1[x.1]? = H[x.1]? := fun j x hx => o1 x.1 (by rw [← hz]; exact (hP j x hx).lt)
  refine k H1 locs ls (by rw [z1, hE (nx + 1), hE nx]; omega) ((hP.kept hk).app (fun j x hx => ?_)) (hD.push hP hz.symm (by show E.2.1 q ≤ E.2.1 nx; rw [hE q, hE nx]; omega)) ⟨Nat.le_trans hS.1 (by rw [z1, ← hz]; omega), fun x h1 h2 => (o1 x (by rw [← hz]; exact Nat.lt_of_lt_of_le h1 hS.1)).trans (hS.2.1 x h1 h2), hS.2.2⟩ hl
  have hj : j < 1 := (List.getElem?_eq_some_iff.mp hx).1
  rw [show j = 0 by omega] at hx
  cases hx
  exact ⟨_, hc, (u_born ty0 hts hin hKn hkC e1 hty).to hfs⟩
theorem zn_newa (C : Cxn E X Y q) {n : Int32} {N : Nat} (hw : Cond.arrayClass .int ∈ WT) (hn : ¬ n < 0) (hN : n.toNatClampNeg = N) (hbytes : N * componentBytes .int ≤ 536870912) (hkc : kc + 1 ≤ mc) (hks : ks + N ≤ ms) (hq : q ≤ nx) (d : decode Y.2.1 pc = .ok (.newarray .int, 2)) (k : Zn E X Y mc ms q P (ws ++ [(E.2.1 nx, .inl (E.2.2 0, N, .inl (fun _ => 0)))]) (nx + 1) (kc + 1) (ks + N) (pc + 2) lv (.ref (E.2.1 nx) :: st)) : Zn E X Y mc ms q P ws nx kc ks pc lv (.int n :: st) := by
  intro H locs ls hz hP hD hS hl
  have hE := C.2.2.2.2.2.2.2.2.1
  refine va_newaK (atype := .int) C.1 C.2.1 (C.2.2.2.2.2.1 _ hw) rfl d rfl hn hN hbytes hkc hks hz fun H1 cA e1 z1 o1 _ hNm => ?_
  have hcI : E.2.2 0 = cA := by
    have h := (C.2.2.2.2.2.2.2.1.1.2 0 _ rfl).2
    exact Option.some.inj (h.symm.trans hNm)
  have hk : ∀ (j : Nat) (x : Nat × va_E), ws[j]? = some x → H1[x.1]? = H[x.1]? := fun j x hx => o1 x.1 (by rw [← hz]; exact (hP j x hx).lt)
  refine k H1 locs ls (by rw [z1, hE (nx + 1), hE nx]; omega) ((hP.kept hk).app (fun j x hx => ?_)) (hD.push hP hz.symm (by show E.2.1 q ≤ E.2.1 nx; rw [hE q, hE nx]; omega)) ⟨Nat.le_trans hS.1 (by rw [z1, ← hz]; omega), fun x h1 h2 => (o1 x (by rw [← hz]; exact Nat.lt_of_lt_of_le h1 hS.1)).trans (hS.2.1 x h1 h2), hS.2.2⟩ hl
  have hj : j < 1 := (List.getElem?_eq_some_iff.mp hx).1
  rw [show j = 0 by omega] at hx
  cases hx
  show H1[E.2.1 nx]? = some (vp_cell (E.2.2 0) (N, .inl (fun _ => 0)))
  rw [hcI]
  exact e1
theorem zn_newq (C : Cxn E X Y q) {i : Nat} (hw : Cond.classLink Y.1.cls i "ToWhoNeeds$Law" ∈ WT) (hkc : kc + 1 ≤ mc) (hks : ks + 5 ≤ ms) (hq : q ≤ nx) (d : decode Y.2.1 pc = .ok (.anewarray i, 3)) (k : Zn E X Y mc ms q P (ws ++ [(E.2.1 nx, .inl (E.2.2 1, 5, .inr (.inr (.inr (.inr (fun _ => none))))))]) (nx + 1) (kc + 1) (ks + 5) (pc + 3) lv (.ref (E.2.1 nx) :: st)) : Zn E X Y mc ms q P ws nx kc ks pc lv (.int 5 :: st) := by
  intro H locs ls hz hP hD hS hl
  have hE := C.2.2.2.2.2.2.2.2.1
  refine W.anew (n := 5) C.1 C.2.1 C.2.2.2.2.1 (C.2.2.2.2.2.1 _ hw) (va_AO.use C.2.2.2.2.2.2.2.1.2.2.1) rfl d rfl (by decide) (by decide) hkc hks fun cA kA comp f1 f2 f3 f4 => ?_
  generalize hH1 : H.push ({ cls := cA, slots := Array.replicate (5 : Int32).toNatClampNeg .null, vm := .none } : Cell) = H1
  have z1 : H1.size = H.size + 1 := by rw [← hH1, Array.size_push]
  have e1 : H1[H.size]? = some (arrV cA (5 : Int32).toNatClampNeg (fun _ => .null)) := by rw [← hH1, Array.getElem?_push_size, ← arrV_new]
  have o1 : ∀ x : Nat, x < H.size → H1[x]? = H[x]? := fun x hx => by rw [← hH1, Array.getElem?_push, if_neg (Nat.ne_of_lt hx)]
  have hcL : E.2.2 1 = cA := by
    obtain ⟨_, _, _, _, _, h⟩ := (C.2.2.2.2.2.2.2.1.1.2 1 _ rfl).2
    exact Option.some.inj (h.symm.trans f1)
  have hk : ∀ (j : Nat) (x : Nat × va_E), ws[j]? = some x → H1[x.1]? = H[x.1]? := fun j x hx => o1 x.1 ((hP j x hx).lt)
  rw [hz]
  refine k H1 locs ls (by rw [z1, hz, hE (nx + 1), hE nx]; omega) ((hP.kept hk).app (fun j x hx => ?_)) (hD.push hP hz.symm (by show E.2.1 q ≤ E.2.1 nx; rw [hE q, hE nx]; omega)) ⟨Nat.le_trans hS.1 (by rw [z1]; omega), fun x h1 h2 => (o1 x (Nat.lt_of_lt_of_le h1 hS.1)).trans (hS.2.1 x h1 h2), hS.2.2⟩ hl
  have hj : j < 1 := (List.getElem?_eq_some_iff.mp hx).1
  rw [show j = 0 by omega] at hx
  cases hx
  show H1[E.2.1 nx]? = some (vp_cell (E.2.2 1) (5, .inr (.inr (.inr (.inr (fun _ => none))))))
  rw [hcL, ← hz]
  exact e1
theorem zn_astq (C : Cxn E X Y q) {q0 qk ci a v : Nat} {r : vw_C} {vs : List Value} {f : Nat → Option Nat} {ws' : va_W} {i : Int32} (ha : ws[q0]? = some (a, .inl (E.2.2 1, 5, .inr (.inr (.inr (.inr f)))))) (hw : r.1 ∈ lawCs) (hv : ws[qk]? = some (v, .inr (ci, vs))) (hc : vwC[ci]? = some r) (hin : vp_in i 5) (hws : ws.set q0 (a, .inl (E.2.2 1, 5, .inr (.inr (.inr (.inr (va_up f i.toNatClampNeg (some v))))))) = ws') (hnk : nx = q + 1 + kc) (d : decode Y.2.1 pc = .ok (.aastore, 1)) (k : Zn E X Y mc ms q P ws' nx kc ks (pc + 1) lv st) : Zn E X Y mc ms q P ws nx kc ks pc lv (.ref v :: .int i :: .ref a :: st) := by
  intro H locs ls hz hP hD hS hl
  refine va_astqO C.1 C.2.1 C.2.2.2.2.2.2.2.1.1 hP hD (H0 := H) ⟨Nat.le_refl _, fun _ _ _ => rfl, fun l hl => hS.2.2 l hl⟩ q0 1 qk ci ha rfl (C.2.2.2.2.2.2.2.1.2.2.2 _ hw) hv hc hin d (fun H1 locs1 hP1 hD1 hS1 => ?_)
  rw [hws] at hP1 hD1
  refine zn_sz C hnk (by rw [← hz]; exact hS1.1) (fun hz1 => ?_)
  exact k H1 locs1 ls hz1 hP1 hD1 ⟨Nat.le_trans hS.1 hS1.1, fun x h1 h2 => (hS1.2.1 x (Nat.lt_of_lt_of_le h1 hS.1) h2).trans (hS.2.1 x h1 h2), hS1.2.2⟩ hl
theorem preN_blind {p : Nat} {av : List Value} {e : va_E} : FrameBlind (PreN E p av e) := fun a U g mk x => ⟨x.1, x.2.1, AmbN.calling x.2.2.1, x.2.2.2⟩
/-- behind a constructor's call on the last cell: what was ahead stands, what came stands behind it -/
theorem zn_go (C : Cxn E X Y q) {mc2 ms2 p : Nat} {pre : va_W} {e : va_E} {P2 : va_W × Nat} {a : Array Value} {H : Heap} {locs : List Loc} {ls : Array Slot} {stk : List Value} {Q : State → Prop} (hqp : q ≤ p) (hz : H.size = E.2.1 (p + 1)) (hP : va_P E.1 vwC (pre ++ [(E.2.1 p, e)]) H) (hD : va_D (Aq E q) (pre ++ [(E.2.1 p, e)])) (hS : va_S (Aq E q) X.2.2.2.1.heap H locs)
    (hr : va_Run X.1 X.2.1 X.2.2.1 (Rn Y.2.2.2.2.1 Y.2.2.2.2.2 mc ms) X.2.2.2.1 X.2.2.2.2.1 X.2.2.2.2.2.1 X.2.2.2.2.2.2.1 X.2.2.2.2.2.2.2.1 X.2.2.2.2.2.2.2.2 H locs kc ks mc2 ms2 (F0 X.2.2.2.2.1 pc ls stk) st (PostN E p P2 a) (Aq E p))
    (kk : ∀ (H1 : Heap) (locs1 : List Loc), H1.size = E.2.1 P2.2 → va_P E.1 vwC (pre ++ P2.1) H1 → va_D (Aq E q) (pre ++ P2.1) → va_S (Aq E q) X.2.2.2.1.heap H1 locs1 → W X.1 X.2.1 X.2.2.1 (Rn Y.2.2.2.2.1 Y.2.2.2.2.2 mc ms) X.2.2.2.1 X.2.2.2.2.1 X.2.2.2.2.2.1 X.2.2.2.2.2.2.1 X.2.2.2.2.2.2.2.1 X.2.2.2.2.2.2.2.2 H1 locs1 (kc + mc2) (ks + ms2) Q (F0 X.2.2.2.2.1 (pc + 3) ls st)) : W X.1 X.2.1 X.2.2.1 (Rn Y.2.2.2.2.1 Y.2.2.2.2.2 mc ms) X.2.2.2.1 X.2.2.2.2.1 X.2.2.2.2.2.1 X.2.2.2.2.2.2.1 X.2.2.2.2.2.2.2.1 X.2.2.2.2.2.2.2.2 H locs kc ks Q (F0 X.2.2.2.2.1 pc ls stk) := by
  have hE := C.2.2.2.2.2.2.2.2.1
  have hqa : E.2.1 q ≤ E.2.1 p := by rw [hE q, hE p]; omega
  have hlast : (pre ++ [(E.2.1 p, e)])[pre.length]? = some (E.2.1 p, e) := by rw [List.getElem?_append_right (Nat.le_refl _), Nat.sub_self]; rfl
  have hpre : ∀ (i : Nat) (x : Nat × va_E), pre[i]? = some x → (pre ++ [(E.2.1 p, e)])[i]? = some x := fun i x hx => by
    rw [List.getElem?_append_left (List.getElem?_eq_some_iff.mp hx).1]; exact hx
  have hlow : ∀ (i : Nat) (x : Nat × va_E), pre[i]? = some x → x.1 < E.2.1 p := by
    intro i x hx
    have h1 := (hP i x (hpre i x hx)).lt
    have h2 : x.1 ≠ E.2.1 p := fun h => by
      have := hD.1 i pre.length x (E.2.1 p, e) (hpre i x hx) hlast h
      have := (List.getElem?_eq_some_iff.mp hx).1
      omega
    rw [hz, hE (p + 1)] at h1
    rw [hE p] at h2 ⊢
    omega
  intro T hT S
  obtain ⟨v, st₀, t, T', L, h0, X', hL, e1, e2, ⟨⟨hv, hs1, hp1, hd1⟩, hzz, hkk⟩, stp⟩ := hr T hT S
  have hv' : v = none := by injection hv
  subst hv'
  rw [h0] at hzz hkk
  obtain ⟨t2, a1, b1⟩ := kk T'.heap (locs ++ L) (by rw [e1]; exact hs1)
    (va_P.app (fun i x hx => ((hP i x (hpre i x hx))).kept (by rw [e1]; exact hkk x.1 ((hP i x (hpre i x hx)).lt) (fun h => absurd (hlow i x hx) (Nat.not_lt.mpr h)))) (by rw [e1]; exact hp1))
    (va_D.app ⟨fun i j x y hi hj hxy => hD.1 i j x y (hpre i x hi) (hpre j y hj) hxy, fun i x hx => hD.2 i x (hpre i x hx)⟩ (hd1.weaken (fun _ x _ h => Nat.le_trans hqa h)) (fun i j x y hx hy hxy => by
      have h1 := hlow i x hx
      have h2 : E.2.1 p ≤ y.1 := hd1.2 j y hy
      omega))
    ⟨Nat.le_trans hS.1 (by rw [e1]; exact hzz), fun x h1 h2 => by rw [e1, hkk x (Nat.lt_of_lt_of_le h1 hS.1) (fun h => h2 (Nat.le_trans hqa h))]; exact hS.2.1 x h1 h2, fun x hx => by
      rcases List.mem_append.mp hx with h | h
      · exact hS.2.2 x h
      · exact Nat.le_trans hqa (hL x h)⟩ T' rfl X'
  exact ⟨t2, stp t2 a1, b1⟩
theorem zn_last {p : Nat} {pre : va_W} {e : va_E} {H : Heap} (hP : va_P E.1 vwC (pre ++ [(E.2.1 p, e)]) H) : va_P E.1 vwC [(E.2.1 p, e)] H := by
  intro k x hx
  have hk : k < 1 := (List.getElem?_eq_some_iff.mp hx).1
  rw [show k = 0 by omega] at hx
  exact hP (pre.length + 0) x (by rw [List.getElem?_append_right (by omega)]; simpa using hx)
theorem zn_init (C : Cxn E X Y q) {Y2 : Yv} {mc2 ms2 p i n : Nat} {pre : va_W} {e : va_E} {P2 : va_W × Nat} {As stk : List Value} (hL : Lk Y Y2 n) (hr2 : Y2.2.2.2.1 = none) (hnm : Y2.1.name = "<init>") (hw1 : Cond.methodLink Y.1.cls i Y2.1 ∈ WT) (hw2 : Cond.instanceMethod Y2.1 ∈ WT) (hqp : q ≤ p) (hfr : Y2.2.2.2.2.1 + 1 ≤ Y.2.2.2.2.1) (hlo : 8 + (Y2.2.2.1 + 11) + Y2.2.2.2.2.2 ≤ Y.2.2.2.2.2) (hkc : kc + mc2 ≤ mc) (hks : ks + ms2 ≤ ms) (d : decode Y.2.1 pc = .ok (.invokespecial i, 3)) (hst : (st.map fun v => v.category).sum ≤ 8) (hn : As.length = n) (hs : stk = As.reverse ++ .ref (E.2.1 p) :: st) (hM : Cn X.2.1 E Y2 mc2 ms2 p (.ref (E.2.1 p) :: As) e P2) (k : Zn E X Y mc ms q P (pre ++ P2.1) P2.2 (kc + mc2) (ks + ms2) (pc + 3) lv st) : Zn E X Y mc ms q P (pre ++ [(E.2.1 p, e)]) (p + 1) kc ks pc lv stk := by
  subst hs
  intro H locs ls hz hP hD hS hl
  have hA := C.2.2.2.2.2.2.2.1
  have hts := C.2.2.2.2.2.1
  have hL1 := hL.1
  rw [hr2] at hL1
  have hM' := hM
  unfold Cn at hM'
  rw [hr2] at hM'
  exact zn_go C hqp hz hP hD hS (va_runI (As := As) (rest := st) (n := n) (bytes := Y2.2.1) (maxL := Y2.2.2.1) ⟨C.1, C.2.1, C.2.2.2.1, C.2.2.2.2.1, hts⟩ hM' ⟨⟨rfl, rfl, hfr, hlo, pay_in hts (wt_good hL1), List.mem_cons_self, hts _ hL1, hts _ hL.2.1, hL.2.2.1, len_of hL.2.2.2, hts _ hw1⟩, hnm, hts _ hw2⟩ ⟨preN_blind, fun U hU hW => ⟨rfl, by rw [hU]; exact hz, hA.mov hW, by rw [hU]; exact zn_last hP⟩⟩ rfl hn hl.1 rfl (by show 2 * 0 + _ ≤ 8; omega) d ⟨hkc, hks⟩) (fun H1 locs1 hz1 hP1 hD1 hS1 => k H1 locs1 ls hz1 hP1 hD1 hS1 hl)
theorem zn_initN (C : Cxn E X Y q) {Y2 : Yv} {host : String} {mc2 ms2 p i n : Nat} {pre : va_W} {e : va_E} {P2 : va_W × Nat} {As stk : List Value} (hL : Lk Y Y2 n) (hr2 : Y2.2.2.2.1 = none) (hnm : Y2.1.name = "<init>") (hw1 : Cond.methodLinkNest Y.1.cls i Y2.1 host ∈ NW) (hw2 : Cond.instanceMethod Y2.1 ∈ WT) (hqp : q ≤ p) (hfr : Y2.2.2.2.2.1 + 1 ≤ Y.2.2.2.2.1) (hlo : 8 + (Y2.2.2.1 + 11) + Y2.2.2.2.2.2 ≤ Y.2.2.2.2.2) (hkc : kc + mc2 ≤ mc) (hks : ks + ms2 ≤ ms) (d : decode Y.2.1 pc = .ok (.invokespecial i, 3)) (hst : (st.map fun v => v.category).sum ≤ 8) (hn : As.length = n) (hs : stk = As.reverse ++ .ref (E.2.1 p) :: st) (hM : Cn X.2.1 E Y2 mc2 ms2 p (.ref (E.2.1 p) :: As) e P2) (k : Zn E X Y mc ms q P (pre ++ P2.1) P2.2 (kc + mc2) (ks + ms2) (pc + 3) lv st) : Zn E X Y mc ms q P (pre ++ [(E.2.1 p, e)]) (p + 1) kc ks pc lv stk := by
  subst hs
  intro H locs ls hz hP hD hS hl
  have hA := C.2.2.2.2.2.2.2.1
  have hts := C.2.2.2.2.2.1
  have hL1 := hL.1
  rw [hr2] at hL1
  have hM' := hM
  unfold Cn at hM'
  rw [hr2] at hM'
  exact zn_go C hqp hz hP hD hS (va_runIN (host := host) (As := As) (rest := st) (n := n) (bytes := Y2.2.1) (maxL := Y2.2.2.1) ⟨C.1, C.2.1, C.2.2.2.1, C.2.2.2.2.1, hts⟩ hM' ⟨⟨⟨rfl, rfl, hfr, hlo, pay_in hts (wt_good hL1), List.mem_cons_self⟩, hts _ hL1, hts _ hL.2.1, hL.2.2.1, len_of hL.2.2.2, va_Nw.use rfl (hA.2.1 _ hw1)⟩, hnm, hts _ hw2⟩ ⟨preN_blind, fun U hU hW => ⟨rfl, by rw [hU]; exact hz, hA.mov hW, by rw [hU]; exact zn_last hP⟩⟩ rfl hn hl.1 rfl (by show 2 * 0 + _ ≤ 8; omega) d ⟨hkc, hks⟩) (fun H1 locs1 hz1 hP1 hD1 hS1 => k H1 locs1 ls hz1 hP1 hD1 hS1 hl)
end ZNEW
