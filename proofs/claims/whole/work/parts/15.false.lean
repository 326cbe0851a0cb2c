theorem not_within {t : State} {below : List Frame} {o : Outcome} (h : Ended t below o) : ¬ Within t below := by
  rintro ⟨above, h1, h2, h3⟩
  cases o with
  | threw a =>
    have h4 : t.frames = .throwing a :: below := h
    rw [h4] at h1
    have h5 : [Frame.throwing a] ++ below = above ++ below := h1
    exact h3 a (List.append_cancel_right h5).symm
  | returned v =>
    have hlen : t.frames.length = below.length := by
      unfold Ended at h
      split at h
      · rename_i hh
        cases hh
      · rename_i hh
        split at h
        · obtain ⟨_, _, _, _, _, h4⟩ := h
          rw [h4]; simp
        · rw [h]; simp
        · rw [h]; simp
        · rw [h.2]
    rw [h1, List.length_append] at hlen
    exact h2 (List.length_eq_zero_iff.mp (by omega))
set_option maxHeartbeats 4000000 in
/-- the law's run on a script of less than four ints, from a start with room for 1281 slots: its end isn't framed by 96 cells and 1112 slots -/
theorem over_walk (l : Launch) (b : Addr) (xs : List Int32) : MetFree l x (headSpec (Jvm.Cond.code x code maxLocals ret :: tables_1) R1281) (fun args s => lw_P b xs args s ∧ xs.length < 4) (fun _ _ _ _ _ => True) (fun _ s o t => ¬ Framed s o t [] 96 1112) := by
  refine MetFree.of_bodyS (code := code) (maxLocals := maxLocals) (ret := ret) (by decide) ?_ ?_
  · intro args s m h hn
    obtain ⟨meth, c, h1, h2, h3, h4, h5, h6, -, -⟩ := Cond.code_spec hn (atoms_spec (ws := Jvm.Cond.code x code maxLocals ret :: tables_1) h _ List.mem_cons_self)
    exact ⟨meth, c, h1, h2, h3, h4, h5, h6⟩
  · intro p e s m args below meth c s₁ B hml0 hP _
    obtain ⟨⟨rfl, hx, hbd, hgv⟩, hshort⟩ := hP
    obtain ⟨scr, harrAt, hlist, hof, hsmall⟩ := hx
    obtain ⟨hcb, hkn, -, -⟩ := State.arrayAt?_spec harrAt
    have hown : s.vm.findClass R_law = some m.cls := findClass_of_methodNamed B.named
    have hts0 : ∀ c ∈ (Jvm.Cond.code x code maxLocals ret :: tables_1), c.before #[Value.ref b] s = true := atoms_spec (ws := Jvm.Cond.code x code maxLocals ret :: tables_1) B.pre
    have hts : ∀ w ∈ lw_tbl, w.before #[Value.ref b] s = true := k2_hts_sels lw_privs (fun w hw => hts0 w (List.mem_cons_of_mem _ hw)) lw_privs_ok
    have hml : c.maxLocals = 4 := B.maxLocals_eq (hts0 _ List.mem_cons_self)
    have X₀ : Stand p l e R1281 s m #[Value.ref b] below meth c s₁ [] 0 0 := Stand.of_body B
    have hh0 : s₁.heap = s.heap := by rw [B.state]; rfl
    have hsz : scr.slots.size = xs.length := by rw [← Array.length_toList, hlist, List.length_map]
    have hval : ∀ j : Nat, j < xs.length → scr.slots[j]? = some (.int (xs.getD j 0)) := fun j hj => by
      rw [← Array.getElem?_toList, hlist]
      simp [hj]
    have hbl : b < s.heap.size := (Array.getElem?_eq_some_iff.mp hcb).1
    have hX : va_X b xs.length (fun j => xs.getD j 0) s s.heap := ⟨scr, hcb, hof, hkn, hsz, hval⟩
    have K : W p l e R1281 s m #[Value.ref b] below meth c s₁.heap [] 0 0 (overQ below s) (entryFrame m ([Value.ref b] : List Value).toArray 4) := by
      rw [hh0]
      exact law_over hshort ⟨B.exec, B.bytes, B.returns, hml, hown, hts, hX, hbl, B.notSynchronized, hgv⟩
    obtain ⟨t, a1, o, b1, b2, b3⟩ := K s₁ rfl X₀
    exact ⟨t, o, a1, b1, b2, b3⟩
/-- THE CLAIM IS FALSE, if one start that meets its premises has a script of less than four ints and room for 1281 slots: there the law's end has more new slots than the claim's frame allows -/
theorem claim_falls {l : Launch} {p : Program} {e : Env} {s : State} {m : MethodId} {args : Array Value} {below : List Frame} (hflags : l.flags = flags0) (hS : AtStart classFile x code maxLocals ret World_1 tables_1 room_1 Calls_1 rest_1 Pre_1 l p e s m args below) (hroom : s.hasRoom e.platform R1281 = true) (hshort : ∀ (b : Addr) (xs : List Int32), args = #[.ref b] → s.IntsAt b xs → xs.length < 4) : ¬ Claimed_1_1 := by
  intro hC
  obtain ⟨hLs, hWd, ha, -, hc, hk, hf, hfit, hheap, happ, hcalls, hrest, hPre⟩ := hS
  obtain ⟨b, xs, hP⟩ := lw_pre_spec hPre hrest
  have hl := ((Spec.applies_iff_loose hf).mp happ).1
  have hl' : (headSpec (Jvm.Cond.code x code maxLocals ret :: tables_1) R1281).appliesLoose x e.platform s = true := by
    obtain ⟨g1, g2, g3, g4, g5, g6, -, g8⟩ := (Spec.appliesLoose_iff hf).mp hl
    exact (Spec.appliesLoose_iff hf).mpr ⟨g1, g2, g3, g4, g5, g6, hroom, g8⟩
  obtain ⟨n1, o1, w1, -, e1, q1⟩ := over_walk l b xs p e ha hc hk s m args below hf hl' ⟨hP, hshort b xs hP.1 hP.2.1⟩ trivial
  obtain ⟨n2, o2, w2, -, e2, q2⟩ := hC l hflags hLs hWd p e ha hc hk s m args below hf hfit hheap happ ⟨hcalls, hrest, hPre⟩
  have hn : n1 = n2 := by
    rcases Nat.lt_trichotomy n1 n2 with h | h | h
    · exact absurd (w2 n1 h) (not_within e1)
    · exact h
    · exact absurd (w1 n2 h) (not_within e2)
  subst hn
  have hF : Framed s o2 (stepsAlone p.tables e n1 s) [] 96 1112 := q2.2
  exact q1 ⟨by
    have hr := e1
    obtain ⟨v, hv⟩ := hF.1
    subst hv
    cases o1 with
    | returned v1 => exact ⟨v1, rfl⟩
    | threw a =>
      exfalso
      have h1 : (stepsAlone p.tables e n1 s).frames = .throwing a :: below := e1
      have h2 := not_within e2
      have hlen : (stepsAlone p.tables e n1 s).frames.length = below.length := by
        unfold Ended at e2
        split at e2
        · rename_i hh
          cases hh
        · split at e2
          · obtain ⟨_, _, _, _, _, h4⟩ := e2
            rw [h4]; simp
          · rw [e2]; simp
          · rw [e2]; simp
          · rw [e2.2]
      rw [h1] at hlen
      simp at hlen, hF.2⟩
