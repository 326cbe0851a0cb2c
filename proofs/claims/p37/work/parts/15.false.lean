theorem not_within {t : State} {below : List Frame} {o : Outcome} (h : Ended t below o) : ¬ Within t below := by
  rintro ⟨above, h1, h2, h3⟩
  cases o with
  | threw a =>
    have h4 : t.frames = .throwing a :: below := h
    rw [h4] at h1
    have h5 : [Frame.throwing a] ++ below = above ++ below := h1
    exact h3 a (List.append_cancel_right h5).symm
  | returned v =>
    have hlen : t.frames.length = below.length := by
      unfold Ended at h
      split at h
      · rename_i hh
        cases hh
      · rename_i hh
        split at h
        · obtain ⟨_, _, _, _, _, h4⟩ := h
          rw [h4]; simp
        · rw [h]; simp
        · rw [h]; simp
        · rw [h.2]
    rw [h1, List.length_append] at hlen
    exact h2 (List.length_eq_zero_iff.mp (by omega))
/-- the first step of an invocation: its body's frame stands -/
theorem enters {p : Program} {l : Launch} {y : MethodName} {S : Spec} {cc : ByteArray} {n : Nat} {r : Option FieldType} {e : Env} {s : State} {m : MethodId} {args : Array Value} {below : List Frame} {meth : Method} {c : Code} {s₁ : State} (B : BodyLoose p l y S cc n r e s m args below meth c s₁) (hc : meth.code = some c) (hn : c.maxLocals = n) (hrun : s.status = .running) (hable : s.curStatus? = some .runnable) (halone : s.alone = true) {t : State} (hs : Steps p.tables e below (s₁.setTop (entryFrame m args n)) t) : Steps p.tables e below s t := by
  have hcur := B.cur
  have ht1 : s₁.topJava? = some (entryFrame m args n) := State.topJava?_of_frames B.frames₁
  have hfull : e.platform.stackFull (s.setFrames below).me (s.setFrames below).frames c.maxLocals = false := by
    obtain ⟨-, h1, -, h2⟩ := State.hasRoom_stack B.room
    rw [B.frames, List.length_cons] at h1
    rw [State.localsInUse_invoking B.frames B.method hc] at h2
    have hw := stackUse_le_stackWeight below
    rw [State.frames_setFrames _ hcur]
    exact Platform.stackFull_eq_false (by rw [State.stackLimits_setFrames]; omega) (by rw [State.stackLimits_setFrames]; omega)
  have hstep : (stepThread p.tables e s).1 = s₁.setTop (entryFrame m args n) := by
    rw [State.setTop_self ht1, B.state, stepThread_invoking B.frames, (doInvoke_java (s := s.setFrames below) (e := e) (meth := meth) (code := c) B.method hc B.notSynchronized hfull).1]
    simp only [State.pushFrame, State.frames_setFrames _ hcur, State.setFrames_setFrames, hn, entryFrame]
  exact Steps.head ⟨hrun, hable, halone⟩ ⟨[.invoking m args], B.frames, by simp, by simp⟩ (hstep ▸ hs)
set_option maxHeartbeats 4000000 in
/-- from every start with room for 1281 slots, on every script, the law's run comes to a moment with 1128 new slots -/
theorem many_come {l : Launch} {p : Program} {e : Env} {s : State} {m : MethodId} {args : Array Value} {below : List Frame} (ha : l.admits e) (hc : FairCas e.choices) (hk : FairClock e.choices) (hf : s.frames = .invoking m args :: below) (happ : (headSpec (Jvm.Cond.code x code maxLocals ret :: tables_1) R1281).appliesLoose x e.platform s = true) {b : Addr} {xs : List Int32} (hP : lw_P b xs args s) : ∃ t, Steps p.tables e below s t ∧ s.slotsUsed + 1128 ≤ t.slotsUsed := by
  obtain ⟨hrun, hable, halone, hname, hhears, hinit, hroom, hpre⟩ := (Spec.appliesLoose_iff hf).mp happ
  obtain ⟨meth, c, hmeth, hcode, hbytes, hlocals, hret, hlocks, -, -⟩ := Cond.code_spec hname (atoms_spec (ws := Jvm.Cond.code x code maxLocals ret :: tables_1) hpre _ List.mem_cons_self)
  have hcur := State.cur_lt_of_frames hf
  have hf1 : (s.setFrames (.java (entryFrame m args maxLocals) :: below)).frames = .java (entryFrame m args maxLocals) :: below := State.frames_setFrames _ hcur
  have hplain : (s.setFrames (.java (entryFrame m args maxLocals) :: below)).plainMethod m := by
    refine State.plainMethod.of_name fun k hk => ?_
    obtain ⟨k', hk', hn⟩ := className_of_methodNamed hname
    cases (show s.vm.classes[m.cls]? = some k from hk).symm.trans hk'
    rw [hn]; decide
  have hAt : At (s.setFrames (.java (entryFrame m args maxLocals) :: below)) m c below :=
    ⟨by rw [State.topJava?_of_frames hf1]; rfl, ⟨[], by rw [hf1]; rfl⟩, hrun, by simpa using hable, by simpa using halone, by rw [State.code?_eq]; simp [State.setFrames, hmeth, hcode], hplain⟩
  have B : BodyLoose p l x (headSpec (Jvm.Cond.code x code maxLocals ret :: tables_1) R1281) code maxLocals ret e s m args below meth c (s.setFrames (.java (entryFrame m args maxLocals) :: below)) :=
    ⟨ha, hc, hk, by cases p <;> rfl, hf, hname, hhears, hinit, hroom, hpre, hmeth, hret, hlocks, hbytes, rfl, hAt⟩
  have K : ∃ t, Steps p.tables e below ((s.setFrames (.java (entryFrame m args maxLocals) :: below)).setTop (entryFrame m args maxLocals)) t ∧ s.slotsUsed + 1128 ≤ t.slotsUsed := by
    obtain ⟨rfl, hx, hbd, hgv⟩ := hP
    obtain ⟨scr, harrAt, hlist, hof, hsmall⟩ := hx
    obtain ⟨hcb, hkn, -, -⟩ := State.arrayAt?_spec harrAt
    have hown : s.vm.findClass R_law = some m.cls := findClass_of_methodNamed hname
    have hts0 : ∀ c ∈ (Jvm.Cond.code x code maxLocals ret :: tables_1), c.before #[Value.ref b] s = true := atoms_spec (ws := Jvm.Cond.code x code maxLocals ret :: tables_1) hpre
    have hts : ∀ w ∈ lw_tbl, w.before #[Value.ref b] s = true := k2_hts_sels lw_privs (fun w hw => hts0 w (List.mem_cons_of_mem _ hw)) lw_privs_ok
    have X₀ : Stand p l e R1281 s m #[Value.ref b] below meth c _ [] 0 0 := Stand.of_body B
    have hsz : scr.slots.size = xs.length := by rw [← Array.length_toList, hlist, List.length_map]
    have hval : ∀ j : Nat, j < xs.length → scr.slots[j]? = some (.int (xs.getD j 0)) := fun j hj => by
      rw [← Array.getElem?_toList, hlist]
      simp [hj]
    have hbl : b < s.heap.size := (Array.getElem?_eq_some_iff.mp hcb).1
    have hX : va_X b xs.length (fun j => xs.getD j 0) s s.heap := ⟨scr, hcb, hof, hkn, hsz, hval⟩
    exact law_many ⟨B.exec, hbytes, hret, hlocals, hown, hts, hX, hbl, hlocks, hgv⟩ _ rfl X₀
  obtain ⟨t, h1, h2⟩ := K
  exact ⟨t, enters B hcode hlocals hrun hable halone h1, h2⟩
/-- the same machine with so many slots more -/
def roomier (e : Env) (k : Nat) : Env := { e with platform := { e.platform with maxSlots := e.platform.maxSlots + k } }
theorem roomier_admits {l : Launch} {e : Env} (k : Nat) (h : l.admits e) : l.admits (roomier e k) := by
  obtain ⟨h1, h2, h3, h4, h5, h6, h7, h8, h9⟩ := h
  exact ⟨h1, h2, h3, h4, congrArg (fun P : Platform => { P with maxSlots := e.platform.maxSlots + k }) h5, h6, h7, Nat.le_trans h8 (Nat.le_add_right _ k), h9⟩
/-- room_1 here: 169 slots more there -/
theorem roomier_room {e : Env} {s : State} (h : s.hasRoom e.platform room_1 = true) : s.hasRoom (roomier e 169).platform R1281 = true := by
  simp only [State.hasRoom, Bool.and_eq_true, decide_eq_true_eq] at h
  obtain ⟨⟨⟨⟨a1, a2, a3, a4, a5, a6⟩, a7⟩, a8⟩, a9⟩ := h
  refine State.hasRoom_of a6 a2 a4 a7 ?_ a9 a1
  show s.slotsUsed + 1281 ≤ e.platform.maxSlots + 169
  have h8 : s.slotsUsed + 1112 ≤ e.platform.maxSlots := a8
  omega
theorem roomier_room1 {e : Env} {s : State} (k : Nat) (h : s.hasRoom e.platform room_1 = true) : s.hasRoom (roomier e k).platform room_1 = true := by
  simp only [State.hasRoom, Bool.and_eq_true, decide_eq_true_eq] at h
  obtain ⟨⟨⟨⟨a1, a2, a3, a4, a5, a6⟩, a7⟩, a8⟩, a9⟩ := h
  exact State.hasRoom_of a6 a2 a4 a7 (Nat.le_trans a8 (Nat.le_add_right _ k)) a9 a1
/-- whatever end asks for the frame of 96 cells and 1112 slots is failed by every start that meets the premises -/
theorem arm_falls {Post : Tables → Env → Array Value → State → Outcome → State → Prop} (hPost : ∀ tb e a s o t, Post tb e a s o t → Framed s o t [] 96 1112) {l : Launch} {p : Program} {e : Env} {s : State} {m : MethodId} {args : Array Value} {below : List Frame} (hflags : l.flags = flags0) (hS : AtStart classFile x code maxLocals ret World_1 tables_1 room_1 Calls_1 rest_1 Pre_1 l p e s m args below) : ¬ ArmFor flags0 classFile x code maxLocals ret World_1 tables_1 room_1 Calls_1 rest_1 Pre_1 Post := by
  intro hC
  obtain ⟨hLs, hWd, ha, -, hc, hk, hf, hfit, hheap, happ, hcalls, hrest, hPre⟩ := hS
  obtain ⟨b, xs, hP⟩ := lw_pre_spec hPre hrest
  have hl := (Spec.applies_iff hf).mp happ
  have happ1 : (headSpec (Jvm.Cond.code x code maxLocals ret :: tables_1) room_1).applies x (roomier e 169).platform s = true := by
    obtain ⟨g1, g2, g3, g4, g5, g6, g7, g8⟩ := hl
    exact (Spec.applies_iff hf).mpr ⟨g1, g2, g3, g4, g5, g6, roomier_room1 169 g7, g8⟩
  have happ2 : (headSpec (Jvm.Cond.code x code maxLocals ret :: tables_1) R1281).appliesLoose x (roomier e 169).platform s = true := by
    obtain ⟨g1, g2, g3, g4, g5, g6, g7, g8⟩ := (Spec.appliesLoose_iff hf).mp ((Spec.applies_iff_loose hf).mp happ).1
    exact (Spec.appliesLoose_iff hf).mpr ⟨g1, g2, g3, g4, g5, g6, roomier_room g7, g8⟩
  obtain ⟨t, ⟨n1, e1, w1⟩, hbig⟩ := many_come (p := p) (e := roomier e 169) (roomier_admits 169 ha) hc hk hf happ2 hP
  obtain ⟨n2, o2, w2, -, e2, q2⟩ := hC l hflags hLs hWd p (roomier e 169) (roomier_admits 169 ha) hc hk s m args below hf hfit hheap happ1 ⟨hcalls, hrest, hPre⟩
  have hle : n1 ≤ n2 := Nat.le_of_not_lt fun h => not_within e2 (w1 n2 h)
  have hmono := (stepsAlone_heap_grows_add p.tables (roomier e 169) n1 (n2 - n1) s).2
  rw [show n1 + (n2 - n1) = n2 by omega, e1] at hmono
  have hF : Framed s o2 (stepsAlone p.tables (roomier e 169) n2 s) [] 96 1112 := hPost _ _ _ _ _ _ q2
  have h4 : (stepsAlone p.tables (roomier e 169) n2 s).slotsUsed = s.slotsUsed + (((stepsAlone p.tables (roomier e 169) n2 s).heap.toList.drop s.heap.size).map (fun x => x.slots.size)).sum := hF.2.2.2.2.2.1
  have h5 : (((stepsAlone p.tables (roomier e 169) n2 s).heap.toList.drop s.heap.size).map (fun x => x.slots.size)).sum ≤ 1112 := hF.2.2.2.2.2.2.1
  omega
/-- THE STATEMENT AS PRINTED IS FALSE, both its halves: its own witness is a start that fails them -/
theorem owed_1_falls : WitnessClaimed_1 → ¬ Claimed_1_1 := by
  rintro ⟨p, e, s, m, args, below, h⟩
  exact arm_falls (fun _ _ _ _ _ _ h => h.2) (l := launch0) rfl h
theorem owed_2_falls : WitnessClaimed_1 → ¬ Claimed_1_2 := by
  rintro ⟨p, e, s, m, args, below, h⟩
  exact arm_falls (fun _ _ _ _ _ _ h => h.2) (l := launch0) rfl h
/-- .. and that witness is proved, by the printed module beside these rows -/
theorem refuted_1 : ¬ Claimed_1_1 := owed_1_falls witness_1
theorem refuted_2 : ¬ Claimed_1_2 := owed_2_falls witness_1
theorem owed_refuted : ¬ (Claimed_1_1 ∧ Claimed_1_2) := fun h => refuted_1 h.1
theorem owed_refuted_both : ¬ Claimed_1_1 ∧ ¬ Claimed_1_2 ∧ ¬ (Claimed_1_1 ∧ Claimed_1_2) := ⟨refuted_1, refuted_2, owed_refuted⟩
