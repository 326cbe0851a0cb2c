theorem dL_law_16 : decode cL_law 16 = .ok (.iconst 0, 1) := by decide +kernel
theorem dL_law_17 : decode cL_law 17 = .ok (.istore_n 3, 1) := by decide +kernel
theorem dL_law_18 : decode cL_law 18 = .ok (.iload_n 3, 1) := by decide +kernel
theorem dL_law_19 : decode cL_law 19 = .ok (.aload_n 0, 1) := by decide +kernel
theorem dL_law_20 : decode cL_law 20 = .ok (.arraylength, 1) := by decide +kernel
theorem dL_law_21 : decode cL_law 21 = .ok (.iconst 4, 1) := by decide +kernel
theorem dL_law_22 : decode cL_law 22 = .ok (.isub, 1) := by decide +kernel
theorem dL_law_23 : decode cL_law 23 = .ok (.if_icmp .gt 1043, 3) := by decide +kernel
theorem dL_law_1066 : decode cL_law 1066 = .ok (.iconst 1, 1) := by decide +kernel
theorem dL_law_1067 : decode cL_law 1067 = .ok (.ireturn, 1) := by decide +kernel
def overQ (below : List Frame) (s : State) : State → Prop := fun t => ∃ o, t.status = .running ∧ Ended t below o ∧ ¬ Framed s o t [] 96 1112
theorem over_ret {p : Program} {l : Launch} {e : Env} {R : Room} {s : State} {m : MethodId} {args : Array Value} {below : List Frame} {meth : Method} {c : Code} {kc ks : Nat} {locs : List Loc} (hx : p.tables.exec = Jvm.exec) (hb : c.code = code) (hr : meth.sig.returnType = ret) (hlocks : meth.locks = false) {pc : Nat} {H : Heap} {ls : Array Slot} (hdg : decode code pc = .ok (.ireturn, 1)) (hbig : 1128 ≤ ((H.toList.drop s.heap.size).map (fun x => x.slots.size)).sum) : W p l e R s m args below meth c H locs kc ks (overQ below s) (F0 m pc ls [.int 1]) := by
  intro T hT X
  obtain ⟨fs, hret, hrun, hended, hW, hframe⟩ := X.leave (v := some (.int 1)) (hlocks := hlocks) (fun h => by rw [hr] at h; cases h)
  have hmeth' : T.vm.method? m = some meth := X.method'
  refine ⟨T.setFrames fs, ?_, .returned (some (.int 1)), hrun, hended, ?_⟩
  · jvm_step X.here [X.here.top, hx, hb, hdg, hmeth', hr, ret, narrow_b1]
    (try refine ⟨rfl, ?_⟩); (try refine ⟨rfl, ?_⟩)
    first | (intro acts; rw [hret _ acts rfl rfl rfl]) | rw [hret _ _ rfl rfl rfl]
    exact Steps.refl _
  · intro hF
    have h1 : (((T.setFrames fs).heap.toList.drop s.heap.size).map (fun x => x.slots.size)).sum ≤ 1112 := hF.2.2.2.2.2.2.1
    have h2 : (T.setFrames fs).heap = H := hT
    rw [h2] at h1
    omega
set_option maxHeartbeats 4000000 in
set_option maxRecDepth 20000 in
/-- THE LAW'S END in a room that is large enough, on a script of less than four ints: more than 1112 slots have come -/
theorem law_over {p : Program} {l : Launch} {e : Env} {s : State} {m : MethodId} {below : List Frame} {meth : Method} {c : Code} {b L : Nat} {xs : Nat → Int32} (hL : L < 4) (C0 : lw_At p s m meth c b L xs) : W p l e R1281 s m #[Value.ref b] below meth c s.heap [] 0 0 (overQ below s) (entryFrame m ([Value.ref b] : List Value).toArray 4) := by
  obtain ⟨E, hEa, hA⟩ := amb_start C0
  obtain ⟨hx, hb, hr, hml, hown, hts, hX, hbl, hlocks, hgv⟩ := C0
  have hE0 : ∀ k, E.2.1 k = s.heap.size + k := fun k => by rw [hEa]
  have hE : Ad E := fun k => by rw [hE0 k, hE0 0]; omega
  have htw : ∀ w ∈ WT, w.before #[Value.ref b] s = true := fun w hw => hts w (List.mem_filter.mp hw).1
  have hbA : ¬ Aq E 0 b := by show ¬ E.2.1 0 ≤ b; rw [hE0 0]; omega
  have hl := lv_entry ([.ref b]) (n := 4) (Nat.le_of_ble_eq_true rfl)
  rw [lg_entry_eq]
  generalize (lg_sl ([.ref b]) ++ List.replicate (4 - (lg_sl ([.ref b])).length) Slot.unset).toArray = ls at hl ⊢
  have hl : lv_has ls 4 [(0, .ref b)] := hl
  refine zl_make (Y2 := YX11_init) (CC := RX11) (TT := TX11) (N := 8) (ci := 10) (q := 0) (ws := []) (fs := [.null, .null, .null, .null, .null, .null, .null, .int 0]) (mc2 := 72) (ms2 := 442) hE hA hx hb hml hown htw hl.1 tyX11 tyX11_ok rfl in_X11 t_21 t_22 t_1 (by decide +kernel) lk_X11_init rfl rfl t_23 t_24 (Nat.le_of_ble_eq_true rfl) (Nat.le_of_ble_eq_true rfl) (Nat.le_of_ble_eq_true rfl) (Nat.le_of_ble_eq_true rfl) (Nat.le_of_ble_eq_true rfl) (Nat.le_of_ble_eq_true rfl) dL_law_0 dL_law_3 dL_law_4 (cn_X11 l E hE) (by rw [hE0 0]; rfl) (fun k q h => by simp at h) ⟨fun i j x y h => by simp at h, fun k q h => by simp at h⟩ va_S.rf (fun H locs hz hP hD hS => ?_)
  refine lv_astore_n (lv' := [(1, .ref (E.2.1 0)), (0, .ref b)]) hx hb dL_law_7 rfl hl (by decide) rfl (fun ls hl => ?_)
  refine zl_make (Y2 := YX12_init) (CC := RX12) (TT := TX12) (N := 39) (ci := 11) (q := 73) (fs := [.null, .null, .null, .null, .null, .null, .null, .null, .null, .int 0, .int 0, .int 0, .int 0, .int 0, .int 0, .int 0, .int 0, .null, .null, .null, .null, .null, .null, .null, .null, .int 0, .int 0, .int 0, .null, .null, .int 0, .int 0, .int 0, .int 0, .null, .null, .int 0, .null, .int 0]) (mc2 := 22) (ms2 := 792) hE hA hx hb hml hown htw hl.1 tyX12 tyX12_ok rfl in_X12 t_839 t_840 t_13 (by decide +kernel) lk_X12_init rfl rfl t_841 t_842 (Nat.le_of_ble_eq_true rfl) (Nat.le_of_ble_eq_true rfl) (Nat.le_of_ble_eq_true rfl) (Nat.le_of_ble_eq_true rfl) (Nat.le_of_ble_eq_true rfl) (Nat.le_of_ble_eq_true rfl) dL_law_8 dL_law_11 dL_law_12 (cn_X12 l E hE) hz hP hD hS (fun H locs hz hP hD hS => ?_)
  have hP : va_P E.1 vwC (wl E σ0) H := by
    rw [wl_sl, ← sl_app E 0 73 23 (j := 73) rfl]
    exact hP
  refine lv_astore_n (lv' := [(2, .ref (E.2.1 73)), (1, .ref (E.2.1 0)), (0, .ref b)]) hx hb dL_law_15 rfl hl (by decide) rfl (fun ls hl => ?_)
  refine lv_iconst (v := 0) hx hb dL_law_16 (by decide) ?_
  refine lv_istore_n (lv' := [(3, .int 0), (2, .ref (E.2.1 73)), (1, .ref (E.2.1 0)), (0, .ref b)]) hx hb dL_law_17 rfl hl (by decide) rfl (fun ls hl => ?_)
  refine lv_iload_n hx hb dL_law_18 rfl (lv_at hl 0 rfl) ?_
  refine lv_aload_n hx hb dL_law_19 rfl (lv_at hl 3 rfl) ?_
  refine va_slen hx hb hX hbl hbA hS dL_law_20 ?_
  refine lv_iconst (v := 4) hx hb dL_law_21 (by decide) ?_
  refine lv_isub hx hb dL_law_22 ?_
  refine lv_icmp_gt (tgt := 1066) hx hb dL_law_23 (by decide) (fun _ => ?_) (fun h => absurd ?_ h)
  · refine lv_iconst (v := 1) hx hb dL_law_1066 (by decide) ?_
    exact over_ret hx hb hr hlocks dL_law_1067 (wl_big hE0 hP)
  · have hc : L = 0 ∨ L = 1 ∨ L = 2 ∨ L = 3 := by omega
    rcases hc with rfl | rfl | rfl | rfl <;> decide
set_option maxHeartbeats 4000000 in
/-- the law's run on a script of less than four ints, from a start with room for 1281 slots: its end isn't framed by 96 cells and 1112 slots -/
theorem over_walk (l : Launch) (b : Addr) (xs : List Int32) : MetFree l x (headSpec (Jvm.Cond.code x code maxLocals ret :: tables_1) R1281) (fun args s => lw_P b xs args s ∧ xs.length < 4) (fun _ _ _ _ _ => True) (fun _ s o t => ¬ Framed s o t [] 96 1112) := by
  refine MetFree.of_bodyS (code := code) (maxLocals := maxLocals) (ret := ret) (by decide) ?_ ?_
  · intro args s m h hn
    obtain ⟨meth, c, h1, h2, h3, h4, h5, h6, -, -⟩ := Cond.code_spec hn (atoms_spec (ws := Jvm.Cond.code x code maxLocals ret :: tables_1) h _ List.mem_cons_self)
    exact ⟨meth, c, h1, h2, h3, h4, h5, h6⟩
  · intro p e s m args below meth c s₁ B hml0 hP _
    obtain ⟨⟨rfl, hx, hbd, hgv⟩, hshort⟩ := hP
    obtain ⟨scr, harrAt, hlist, hof, hsmall⟩ := hx
    obtain ⟨hcb, hkn, -, -⟩ := State.arrayAt?_spec harrAt
    have hown : s.vm.findClass R_law = some m.cls := findClass_of_methodNamed B.named
    have hts0 : ∀ c ∈ (Jvm.Cond.code x code maxLocals ret :: tables_1), c.before #[Value.ref b] s = true := atoms_spec (ws := Jvm.Cond.code x code maxLocals ret :: tables_1) B.pre
    have hts : ∀ w ∈ lw_tbl, w.before #[Value.ref b] s = true := k2_hts_sels lw_privs (fun w hw => hts0 w (List.mem_cons_of_mem _ hw)) lw_privs_ok
    have hml : c.maxLocals = 4 := B.maxLocals_eq (hts0 _ List.mem_cons_self)
    have X₀ : Stand p l e R1281 s m #[Value.ref b] below meth c s₁ [] 0 0 := Stand.of_body B
    have hh0 : s₁.heap = s.heap := by rw [B.state]; rfl
    have hsz : scr.slots.size = xs.length := by rw [← Array.length_toList, hlist, List.length_map]
    have hval : ∀ j : Nat, j < xs.length → scr.slots[j]? = some (.int (xs.getD j 0)) := fun j hj => by
      rw [← Array.getElem?_toList, hlist]
      simp [hj]
    have hbl : b < s.heap.size := (Array.getElem?_eq_some_iff.mp hcb).1
    have hX : va_X b xs.length (fun j => xs.getD j 0) s s.heap := ⟨scr, hcb, hof, hkn, hsz, hval⟩
    have K : W p l e R1281 s m #[Value.ref b] below meth c s₁.heap [] 0 0 (overQ below s) (entryFrame m ([Value.ref b] : List Value).toArray 4) := by
      rw [hh0]
      exact law_over hshort ⟨B.exec, B.bytes, B.returns, hml, hown, hts, hX, hbl, B.notSynchronized, hgv⟩
    obtain ⟨t, a1, o, b1, b2, b3⟩ := K s₁ rfl X₀
    exact ⟨t, o, a1, b1, b2, b3⟩
theorem fall_code {c : Jvm.Cond} {a : Array Value} {s t : State} (hv : s.vm = t.vm) (h : su_isCode c = true) (hb : c.before a s = true) : c.before a t = true := by
  cases c with
  | code y bytes n r =>
    simp only [Cond.before, Cond.holds, Cond.value, State.methodNamed?, hv] at hb ⊢
    exact hb
  | _ => exact absurd (show false = true from h) (by decide)
theorem fall_words : ∀ c ∈ (Jvm.Cond.code x code maxLocals ret :: tables_1), c.before start1.args0 fall_s = true := by
  intro c hc
  cases hq : su_isCode c with
  | true => exact fall_code (s := start1.about) rfl hq (start1.words c hc)
  | false =>
    have go : ∀ (l : List Jvm.Cond), l.all (fun c => su_isCode c || c.before start1.args0 fall_s) = true → c ∈ l → c.before start1.args0 fall_s = true := fun l hl hm => by
      have h := List.all_eq_true.mp hl c hm
      rw [hq, Bool.false_or] at h
      exact h
    rcases List.mem_cons.mp hc with h | h
    · rw [h] at hq
      exact absurd (show true = false from hq) (by decide)
    · have h1 : c ∈ tables_1_1 ++ (tables_1_2 ++ (tables_1_3 ++ (tables_1_4 ++ (tables_1_5 ++ tables_1_6)))) := h
      rcases List.mem_append.mp h1 with h2 | h1
      · exact go _ fall_o_1 h2
      rcases List.mem_append.mp h1 with h2 | h1
      · exact go _ fall_o_2 h2
      rcases List.mem_append.mp h1 with h2 | h1
      · exact go _ fall_o_3 h2
      rcases List.mem_append.mp h1 with h2 | h1
      · exact go _ fall_o_4 h2
      rcases List.mem_append.mp h1 with h2 | h1
      · exact go _ fall_o_5 h2
      exact go _ fall_o_6 h1
set_option maxRecDepth 16384 in
/-- the empty script is a start that meets the claim's premises, in the printed launch's own machine -/
theorem fall_start : AtStart classFile x code maxLocals ret World_1 tables_1 room_1 Calls_1 rest_1 Pre_1 launch0 start1.p0 start1.e0 fall_s ⟨0, 0⟩ start1.args0 Lib.HandBits.below0 := by
  obtain ⟨hL, hW, ha, hle, hc, hk, -, -, -, -, -, -, -⟩ := start1.atStart
  exact ⟨hL, hW, ha, hle, hc, hk, rfl, by decide +kernel, by decide +kernel,
    (Spec.applies_iff rfl).mpr ⟨rfl, rfl, rfl, by decide +kernel, by decide +kernel, by decide +kernel, launch0.hasRoom_least _ room_1 (by decide +kernel) (by decide +kernel) (by decide +kernel) (by decide +kernel) (by decide +kernel) (by decide +kernel), atoms_intro fall_words⟩,
    trivial, (show rest_1_c.before start1.args0 fall_s = true by decide +kernel), (show (Cond.and given_1 narrow_1).before start1.args0 fall_s = true by decide +kernel)⟩
theorem fall_room : fall_s.hasRoom start1.e0.platform R1281 = true :=
  show fall_s.hasRoom (launch0.env 0 0 0).platform R1281 = true from launch0.hasRoom_least _ R1281 (by decide +kernel) (by decide +kernel) (by decide +kernel) (by decide +kernel) (by decide +kernel) (by decide +kernel)
theorem fall_short {b : Addr} {xs : List Int32} (hP : lw_P b xs start1.args0 fall_s) : xs.length < 4 := by
  obtain ⟨hb, hx, -, -⟩ := hP
  have h1 : start1.args0[0]? = some (Value.ref b) := by rw [hb]; rfl
  have h2 : some (Value.ref 0) = some (Value.ref b) := h1
  injection h2 with h2
  injection h2 with h2
  subst h2
  obtain ⟨scr, harrAt, hlist, -, -⟩ := hx
  obtain ⟨hcb, -, -, -⟩ := State.arrayAt?_spec harrAt
  have e0 : ∃ cell : Cell, fall_s.heap[0]? = some cell ∧ cell.slots = #[] := ⟨_, rfl, rfl⟩
  obtain ⟨cell, e1, e2⟩ := e0
  rw [e1] at hcb
  injection hcb with hcb
  subst hcb
  have h3 := congrArg List.length hlist
  rw [e2, List.length_map] at h3
  have h4 : (#[] : Array Value).toList.length = 0 := rfl
  omega
/-- there the law's run ends, and its end is not framed by 96 cells and 1112 slots -/
theorem fall_run : ∃ (n : Nat) (o : Outcome), (∀ k, k < n → Within (stepsAlone start1.p0.tables start1.e0 k fall_s) Lib.HandBits.below0) ∧ (stepsAlone start1.p0.tables start1.e0 n fall_s).status = Status.running ∧ Ended (stepsAlone start1.p0.tables start1.e0 n fall_s) Lib.HandBits.below0 o ∧ ¬ Framed fall_s o (stepsAlone start1.p0.tables start1.e0 n fall_s) [] 96 1112 := by
  obtain ⟨-, -, ha, -, hc, hk, hf, -, -, happ, -, hrest, hPre⟩ := fall_start
  obtain ⟨b, xs, hP⟩ := lw_pre_spec hPre hrest
  have hl := ((Spec.applies_iff_loose hf).mp happ).1
  have hl' : (headSpec (Jvm.Cond.code x code maxLocals ret :: tables_1) R1281).appliesLoose x start1.e0.platform fall_s = true := by
    obtain ⟨g1, g2, g3, g4, g5, g6, -, g8⟩ := (Spec.appliesLoose_iff hf).mp hl
    exact (Spec.appliesLoose_iff hf).mpr ⟨g1, g2, g3, g4, g5, g6, fall_room, g8⟩
  obtain ⟨n1, o1, w1, r1, e1, q1⟩ := over_walk launch0 b xs start1.p0 start1.e0 ha hc hk fall_s ⟨0, 0⟩ start1.args0 Lib.HandBits.below0 hf hl' ⟨hP, fall_short hP⟩ trivial
  exact ⟨n1, o1, w1, r1, e1, q1⟩
/-- THE STATEMENT'S OWN WORDS FOR 'REFUTED', both halves: at the empty script -/
theorem falls_1 : RefutedClaimed_1_1 := by
  obtain ⟨n, o, hw, hr, he, hq⟩ := fall_run
  exact ⟨launch0, start1.p0, start1.e0, fall_s, ⟨0, 0⟩, start1.args0, Lib.HandBits.below0, rfl, fall_start, n, o, hw, hr, he, fun h => hq h.2⟩
theorem falls_2 : RefutedClaimed_1_2 := by
  obtain ⟨n, o, hw, hr, he, hq⟩ := fall_run
  exact ⟨launch0, start1.p0, start1.e0, fall_s, ⟨0, 0⟩, start1.args0, Lib.HandBits.below0, rfl, fall_start, n, o, hw, hr, he, fun h => hq h.2⟩
theorem falls_both : RefutedClaimed_1_1 ∧ RefutedClaimed_1_2 := ⟨falls_1, falls_2⟩
