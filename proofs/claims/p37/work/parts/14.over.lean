theorem t_21 : Jvm.Cond.classLink "ToWhoNeedsLaw" (7 : Nat) "ToWhoNeeds" ∈ WT := wt_of (List.mem_of_getElem? (i := 86) (by decide +kernel)) rfl
theorem t_22 : Jvm.Cond.instantiable "ToWhoNeeds" (8 : Nat) ∈ WT := wt_of (List.mem_of_getElem? (i := 87) (by decide +kernel)) rfl
theorem t_23 : Jvm.Cond.methodLink "ToWhoNeedsLaw" (9 : Nat) ({ cls := "ToWhoNeeds", name := "<init>", desc := "()V" } : Jvm.MethodName) ∈ WT := wt_of (List.mem_of_getElem? (i := 88) (by decide +kernel)) rfl
theorem t_24 : Jvm.Cond.instanceMethod ({ cls := "ToWhoNeeds", name := "<init>", desc := "()V" } : Jvm.MethodName) ∈ WT := wt_of (List.mem_of_getElem? (i := 89) (by decide +kernel)) rfl
theorem t_839 : Jvm.Cond.classLink "ToWhoNeedsLaw" (10 : Nat) "ToWhoNeedsModel" ∈ WT := wt_of (List.mem_of_getElem? (i := 904) (by decide +kernel)) rfl
theorem t_840 : Jvm.Cond.instantiable "ToWhoNeedsModel" (39 : Nat) ∈ WT := wt_of (List.mem_of_getElem? (i := 905) (by decide +kernel)) rfl
theorem t_841 : Jvm.Cond.methodLink "ToWhoNeedsLaw" (12 : Nat) ({ cls := "ToWhoNeedsModel", name := "<init>", desc := "()V" } : Jvm.MethodName) ∈ WT := wt_of (List.mem_of_getElem? (i := 906) (by decide +kernel)) rfl
theorem t_842 : Jvm.Cond.instanceMethod ({ cls := "ToWhoNeedsModel", name := "<init>", desc := "()V" } : Jvm.MethodName) ∈ WT := wt_of (List.mem_of_getElem? (i := 907) (by decide +kernel)) rfl
section ZLAW
variable {E : Ev} {p : Program} {l : Launch} {e : Env} {R : Room} {s : State} {m : MethodId} {args : Array Value} {below : List Frame} {meth : Method} {c : Code} {Q : State → Prop} {kc ks pc : Nat} {ls : Array Slot} {st : List Value}
theorem zl_go {mc2 ms2 q : Nat} {pre : va_W} {x : va_E} {P2 : va_W × Nat} {a : Array Value} {H : Heap} {locs : List Loc} {stk : List Value} (hE : Ad E) (hz : H.size = E.2.1 (q + 1)) (hP : va_P E.1 vwC (pre ++ [(E.2.1 q, x)]) H) (hD : va_D (Aq E 0) (pre ++ [(E.2.1 q, x)])) (hS : va_S (Aq E 0) s.heap H locs)
    (hr : va_Run p l e R s m args below meth c H locs kc ks mc2 ms2 (F0 m pc ls stk) st (PostN E q P2 a) (Aq E q))
    (kk : ∀ (H1 : Heap) (locs1 : List Loc), H1.size = E.2.1 P2.2 → va_P E.1 vwC (pre ++ P2.1) H1 → va_D (Aq E 0) (pre ++ P2.1) → va_S (Aq E 0) s.heap H1 locs1 → W p l e R s m args below meth c H1 locs1 (kc + mc2) (ks + ms2) Q (F0 m (pc + 3) ls st)) : W p l e R s m args below meth c H locs kc ks Q (F0 m pc ls stk) := by
  have hqa : E.2.1 0 ≤ E.2.1 q := by rw [hE q]; omega
  have hlast : (pre ++ [(E.2.1 q, x)])[pre.length]? = some (E.2.1 q, x) := by rw [List.getElem?_append_right (Nat.le_refl _), Nat.sub_self]; rfl
  have hpre : ∀ (i : Nat) (y : Nat × va_E), pre[i]? = some y → (pre ++ [(E.2.1 q, x)])[i]? = some y := fun i y hy => by
    rw [List.getElem?_append_left (List.getElem?_eq_some_iff.mp hy).1]; exact hy
  have hlow : ∀ (i : Nat) (y : Nat × va_E), pre[i]? = some y → y.1 < E.2.1 q := by
    intro i y hy
    have h1 := (hP i y (hpre i y hy)).lt
    have h2 : y.1 ≠ E.2.1 q := fun h => by
      have := hD.1 i pre.length y (E.2.1 q, x) (hpre i y hy) hlast h
      have := (List.getElem?_eq_some_iff.mp hy).1
      omega
    rw [hz, hE (q + 1)] at h1
    rw [hE q] at h2 ⊢
    omega
  intro T hT S
  obtain ⟨v, st₀, t, T', L, h0, X', hL, e1, e2, ⟨⟨hv, hs1, hp1, hd1⟩, hzz, hkk⟩, stp⟩ := hr T hT S
  have hv' : v = none := by injection hv
  subst hv'
  rw [h0] at hzz hkk
  obtain ⟨t2, a1, b1⟩ := kk T'.heap (locs ++ L) (by rw [e1]; exact hs1)
    (va_P.app (fun i y hy => ((hP i y (hpre i y hy))).kept (by rw [e1]; exact hkk y.1 ((hP i y (hpre i y hy)).lt) (fun h => absurd (hlow i y hy) (Nat.not_lt.mpr h)))) (by rw [e1]; exact hp1))
    (va_D.app ⟨fun i j y z hi hj hyz => hD.1 i j y z (hpre i y hi) (hpre j z hj) hyz, fun i y hy => hD.2 i y (hpre i y hy)⟩ (hd1.weaken (fun _ y _ h => Nat.le_trans hqa h)) (fun i j y z hy hz' hyz => by
      have h1 := hlow i y hy
      have h2 : E.2.1 q ≤ z.1 := hd1.2 j z hz'
      omega))
    ⟨Nat.le_trans hS.1 (by rw [e1]; exact hzz), fun y h1 h2 => by rw [e1, hkk y (Nat.lt_of_lt_of_le h1 hS.1) (fun h => h2 (Nat.le_trans hqa h))]; exact hS.2.1 y h1 h2, fun y hy => by
      rcases List.mem_append.mp hy with h | h
      · exact hS.2.2 y h
      · exact Nat.le_trans hqa (hL y h)⟩ T' rfl X'
  exact ⟨t2, stp t2 a1, b1⟩
/-- the law makes an object of a class, and its constructor runs -/
theorem zl_make {Y2 : Yv} {CC : String} {TT : u_T} {N ci i j q mc2 ms2 : Nat} {ws : va_W} {H : Heap} {locs : List Loc} {fs : List Value} {P2 : va_W × Nat} (hE : Ad E) (hA : AmbN E s) (hx : p.tables.exec = Jvm.exec) (hb : c.code = cL_law) (hml : c.maxLocals = 4) (hown : s.vm.findClass RL = some m.cls) (hts : ∀ w ∈ WT, w.before args s = true) (hl : ls.size = 4) (ty0 : Nat → FieldType) (hty : ∀ k, k < N → parseFieldDescriptor (TT k).2.2.1 = some (ty0 k)) (hc : vwC[ci]? = some (CC, TT, N)) (hin : ∀ w ∈ u_ws CC TT N, w ∈ WT) (hw1 : Cond.classLink RL i CC ∈ WT) (hw2 : Cond.instantiable CC N ∈ WT) (hw3 : Cond.initialized CC ∈ WT) (hfs : ∀ j, j < N → defaultValue (ty0 j) = vp_V fs j)
    (hL : Lk Y2 Y2 0) (hr2 : Y2.2.2.2.1 = none) (hnm : Y2.1.name = "<init>") (hw4 : Cond.methodLink RL j Y2.1 ∈ WT) (hw5 : Cond.instanceMethod Y2.1 ∈ WT) (hfr : Y2.2.2.2.2.1 + 1 ≤ R.frames) (hlo : 8 + (Y2.2.2.1 + 11) + Y2.2.2.2.2.2 ≤ R.locals) (hkc : kc + 1 ≤ R.cells) (hks : ks + N ≤ R.slots) (hkc2 : kc + 1 + mc2 ≤ R.cells) (hks2 : ks + N + ms2 ≤ R.slots)
    (d1 : decode cL_law pc = .ok (.new i, 3)) (d2 : decode cL_law (pc + 3) = .ok (.dup, 1)) (d3 : decode cL_law (pc + 4) = .ok (.invokespecial j, 3)) (hM : Cn l E Y2 mc2 ms2 q [.ref (E.2.1 q)] (.inr (ci, fs)) P2)
    (hz : H.size = E.2.1 q) (hP : va_P E.1 vwC ws H) (hD : va_D (Aq E 0) ws) (hS : va_S (Aq E 0) s.heap H locs)
    (kk : ∀ (H1 : Heap) (locs1 : List Loc), H1.size = E.2.1 P2.2 → va_P E.1 vwC (ws ++ P2.1) H1 → va_D (Aq E 0) (ws ++ P2.1) → va_S (Aq E 0) s.heap H1 locs1 → W p l e R s m args below meth c H1 locs1 (kc + 1 + mc2) (ks + N + ms2) Q (F0 m (pc + 7) ls [.ref (E.2.1 q)])) : W p l e R s m args below meth c H locs kc ks Q (F0 m pc ls []) := by
  have hKn := hA.1.1 ci _ hc
  have hqa : E.2.1 0 ≤ E.2.1 q := by rw [hE q]; omega
  refine W.newcK hx hb hown (hts _ hw1) (hts _ hw2) (hts _ hw3) rfl d1 hkc hks hKn.2.1 hz fun H1 kC hkC e1 z1 o1 => ?_
  have hk : ∀ (j : Nat) (x : Nat × va_E), ws[j]? = some x → H1[x.1]? = H[x.1]? := fun j x hx => o1 x.1 (by rw [← hz]; exact (hP j x hx).lt)
  have hP1 : va_P E.1 vwC (ws ++ [(E.2.1 q, .inr (ci, fs))]) H1 := (hP.kept hk).app (fun j x hx => by
    have hj : j < 1 := (List.getElem?_eq_some_iff.mp hx).1
    rw [show j = 0 by omega] at hx
    cases hx
    exact ⟨_, hc, (u_born ty0 hts hin hKn hkC e1 hty).to hfs⟩)
  have hD1 : va_D (Aq E 0) (ws ++ [(E.2.1 q, .inr (ci, fs))]) := hD.push hP hz.symm hqa
  have hS1 : va_S (Aq E 0) s.heap H1 locs := ⟨Nat.le_trans hS.1 (by rw [z1, ← hz]; omega), fun x h1 h2 => (o1 x (by rw [← hz]; exact Nat.lt_of_lt_of_le h1 hS.1)).trans (hS.2.1 x h1 h2), hS.2.2⟩
  have hz1 : H1.size = E.2.1 (q + 1) := by rw [z1, hE (q + 1), hE q]; omega
  refine lv_dup hx hb d2 rfl ?_
  have hL1 := hL.1
  rw [hr2] at hL1
  have hM' := hM
  unfold Cn at hM'
  rw [hr2] at hM'
  exact zl_go hE hz1 hP1 hD1 hS1 (va_runI (As := []) (rest := [.ref (E.2.1 q)]) (n := 0) (bytes := Y2.2.1) (maxL := Y2.2.2.1) ⟨hx, hb, hml, hown, hts⟩ hM' ⟨⟨rfl, rfl, hfr, hlo, pay_in hts (wt_good hL1), List.mem_cons_self, hts _ hL1, hts _ hL.2.1, hL.2.2.1, len_of hL.2.2.2, hts _ hw4⟩, hnm, hts _ hw5⟩ ⟨preN_blind, fun U hU hW => ⟨rfl, by rw [hU]; exact hz1, hA.mov hW, by rw [hU]; exact zn_last hP1⟩⟩ rfl rfl hl rfl (Nat.le_of_ble_eq_true rfl) d3 ⟨hkc2, hks2⟩) kk
end ZLAW
/-- at the law's entry: the classes' numbers, and what the constructors ask -/
theorem amb_start {p : Program} {s : State} {m : MethodId} {meth : Method} {c : Code} {b L : Nat} {xs : Nat → Int32} (C0 : lw_At p s m meth c b L xs) : ∃ E : Ev, E.2.1 = (fun k => s.heap.size + k) ∧ AmbN E s := by
  obtain ⟨hx, hb, hr, hml, hown, hts, hX, hbl, hlocks, hgv⟩ := C0
  obtain ⟨c0, i0, k0⟩ := u_known (C := RX1) (T := TX1) (N := 1) (n := 1) hts (fun w h => (List.mem_filter.mp (in_X1 w h)).1) (hts _ (List.mem_filter.mp t_200).1)
  obtain ⟨c1, i1, k1⟩ := u_known (C := RX2) (T := TX2) (N := 5) (n := 5) hts (fun w h => (List.mem_filter.mp (in_X2 w h)).1) (hts _ (List.mem_filter.mp t_158).1)
  obtain ⟨c2, i2, k2⟩ := u_known (C := RX3) (T := TX3) (N := 1) (n := 1) hts (fun w h => (List.mem_filter.mp (in_X3 w h)).1) (hts _ (List.mem_filter.mp t_208).1)
  obtain ⟨c3, i3, k3⟩ := u_known (C := RX4) (T := TX4) (N := 2) (n := 2) hts (fun w h => (List.mem_filter.mp (in_X4 w h)).1) (hts _ (List.mem_filter.mp t_61).1)
  obtain ⟨c4, i4, k4⟩ := u_known (C := RX5) (T := TX5) (N := 3) (n := 3) hts (fun w h => (List.mem_filter.mp (in_X5 w h)).1) (hts _ (List.mem_filter.mp t_36).1)
  obtain ⟨c5, i5, k5⟩ := u_known (C := RX6) (T := TX6) (N := 1) (n := 1) hts (fun w h => (List.mem_filter.mp (in_X6 w h)).1) (hts _ (List.mem_filter.mp t_224).1)
  obtain ⟨c6, i6, k6⟩ := u_known (C := RX7) (T := TX7) (N := 4) (n := 4) hts (fun w h => (List.mem_filter.mp (in_X7 w h)).1) (hts _ (List.mem_filter.mp t_134).1)
  obtain ⟨c7, i7, k7⟩ := u_known (C := RX8) (T := TX8) (N := 1) (n := 1) hts (fun w h => (List.mem_filter.mp (in_X8 w h)).1) (hts _ (List.mem_filter.mp t_216).1)
  obtain ⟨c8, i8, k8⟩ := u_known (C := RX9) (T := TX9) (N := 11) (n := 11) hts (fun w h => (List.mem_filter.mp (in_X9 w h)).1) (hts _ (List.mem_filter.mp t_30).1)
  obtain ⟨c9, i9, k9⟩ := u_known (C := RX10) (T := TX10) (N := 1) (n := 1) hts (fun w h => (List.mem_filter.mp (in_X10 w h)).1) (hts _ (List.mem_filter.mp t_187).1)
  obtain ⟨c10, i10, k10⟩ := u_known (C := RX11) (T := TX11) (N := 8) (n := 8) hts (fun w h => (List.mem_filter.mp (in_X11 w h)).1) (hts _ (List.mem_filter.mp t_22).1)
  obtain ⟨c11, i11, k11⟩ := u_known (C := RX12) (T := TX12) (N := 39) (n := 39) hts (fun w h => (List.mem_filter.mp (in_X12 w h)).1) (hts _ (List.mem_filter.mp t_840).1)
  obtain ⟨cI, kI, compI, a1, a2, a3⟩ := Cond.arrayClass_spec (hts _ (List.mem_filter.mp t_59).1)
  have hao : va_AO "ToWhoNeeds$Law" s := va_AO.of (hts _ (List.mem_of_getElem? (i := 250) (by decide +kernel)))
  obtain ⟨compL, cL, kL, b1, b2, b3, b4, b5⟩ := Cond.arrayOver_spec hao
  refine ⟨((fun k => [c0, c1, c2, c3, c4, c5, c6, c7, c8, c9, c10, c11].getD k 0, fun k => [i0, i1, i2, i3, i4, i5, i6, i7, i8, i9, i10, i11].getD k i0), (fun k => s.heap.size + k), (fun k => if k = 0 then cI else cL)), rfl, ⟨fun k q hq => ?_, fun k q hq => ?_⟩, fun w hw => ?_, hao, ?_⟩
  · match k, hq with
    | 0, hq => cases hq; exact k0
    | 1, hq => cases hq; exact k1
    | 2, hq => cases hq; exact k2
    | 3, hq => cases hq; exact k3
    | 4, hq => cases hq; exact k4
    | 5, hq => cases hq; exact k5
    | 6, hq => cases hq; exact k6
    | 7, hq => cases hq; exact k7
    | 8, hq => cases hq; exact k8
    | 9, hq => cases hq; exact k9
    | 10, hq => cases hq; exact k10
    | 11, hq => cases hq; exact k11
    | k + 12, hq => simp [vwC] at hq
  · match k, hq with
    | 0, hq => cases hq; exact ⟨fun n z => ⟨fun k h => (by cases h), kI, a2, compI, a3⟩, a1⟩
    | 1, hq => cases hq; exact ⟨fun n z => ⟨fun k h => (by cases h), kL, b3, compL, b4⟩, kL, compL, b3, b4, b1, b5⟩
    | k + 2, hq => simp at hq
  · have h1 := List.mem_filter.mp hw
    have h2 := hts w (List.mem_append_right _ h1.1)
    have h3 := h1.2
    cases w <;> first | exact va_Nw.of rfl h2 | (exact absurd h3 (by simp [isNest]))
  · intro C hC
    have hm : Cond.castable C "ToWhoNeeds$Law" ∈ lw_tbl := by
      have : C = "ToWhoNeeds$Sum" ∨ C = "ToWhoNeeds$Met" ∨ C = "ToWhoNeeds$Most" ∨ C = "ToWhoNeeds$Second" ∨ C = "ToWhoNeeds$ReadOn" := by simpa [lawCs] using hC
      rcases this with rfl | rfl | rfl | rfl | rfl
      · exact List.mem_of_getElem? (i := 1354) (by decide +kernel)
      · exact List.mem_of_getElem? (i := 1355) (by decide +kernel)
      · exact List.mem_of_getElem? (i := 1356) (by decide +kernel)
      · exact List.mem_of_getElem? (i := 1357) (by decide +kernel)
      · exact List.mem_of_getElem? (i := 1358) (by decide +kernel)
    exact va_Nw.of rfl (hts _ hm)
theorem sum_low : ∀ (n : Nat) (low : Nat → Nat) (l : List Nat), (∀ k, k < n → ∃ v, l[k]? = some v ∧ low k ≤ v) → ((List.range n).map low).sum ≤ l.sum
  | 0, _, _, _ => by simp
  | n + 1, low, [], h => by
    obtain ⟨v, hv, -⟩ := h 0 (by omega)
    simp at hv
  | n + 1, low, x :: l, h => by
    have ih := sum_low n (fun k => low (k + 1)) l (fun k hk => by
      obtain ⟨v, hv, h2⟩ := h (k + 1) (by omega)
      exact ⟨v, by simpa using hv, h2⟩)
    obtain ⟨v, hv, h0⟩ := h 0 (by omega)
    have hv' : x = v := by simpa using hv
    subst hv'
    have e : ((List.range (n + 1)).map low).sum = low 0 + ((List.range n).map (fun k => low (k + 1))).sum := by
      rw [List.range_succ_eq_map, List.map_cons, List.map_map, List.sum_cons]
      rfl
    rw [e, List.sum_cons]
    omega
/-- what the arrays among the places hold at least -/
def arrLow (k : Nat) : Nat := if (kd k).1 = 8 ∨ (kd k).1 = 9 then (kd k).2 else 0
theorem arrLow_sum : ((List.range 96).map arrLow).sum = 1128 := by decide +kernel
theorem wl_big {E : Ev} {H : Heap} {b : Nat} (hE : ∀ k, E.2.1 k = b + k) (hP : va_P E.1 vwC (wl E σ0) H) : 1128 ≤ ((H.toList.drop b).map (fun x => x.slots.size)).sum := by
  rw [← arrLow_sum]
  refine sum_low 96 arrLow _ (fun k hk => ?_)
  have h := hP k _ (wl_get E σ0 hk)
  have hg : ∀ cell : Cell, H[E.2.1 k]? = some cell → ((H.toList.drop b).map (fun x => x.slots.size))[k]? = some cell.slots.size := by
    intro cell hc
    rw [List.getElem?_map, List.getElem?_drop, ← hE k, Array.getElem?_toList, hc]
    rfl
  unfold va_at at h
  by_cases h8 : (kd k).1 = 8
  · have e : wc E σ0 k = .inl (E.2.2 0, (kd k).2, .inl (σ0 k)) := by unfold wc; rw [h8]; rfl
    rw [e] at h
    refine ⟨_, hg _ h, ?_⟩
    show arrLow k ≤ (vp_cell (E.2.2 0) ((kd k).2, .inl (σ0 k))).slots.size
    rw [vp_cell_i, arrV_size]
    simp [arrLow, h8]
  by_cases h9 : (kd k).1 = 9
  · have e : wc E σ0 k = .inl (E.2.2 1, (kd k).2, .inr (.inr (.inr (.inr (lawsAt E))))) := by unfold wc; rw [h9]; rfl
    rw [e] at h
    refine ⟨_, hg _ h, ?_⟩
    show arrLow k ≤ (vp_cell (E.2.2 1) ((kd k).2, .inr (.inr (.inr (.inr (lawsAt E)))))).slots.size
    rw [vp_cell_q, arrV_size]
    simp [arrLow, h9]
  · have hz : arrLow k = 0 := by simp [arrLow, h8, h9]
    rw [hz]
    have hex : ∃ cell : Cell, H[E.2.1 k]? = some cell := by
      have hl : E.2.1 k < H.size := (hP k _ (wl_get E σ0 hk)).lt
      exact ⟨H[E.2.1 k], by simp [hl]⟩
    obtain ⟨cell, hc⟩ := hex
    exact ⟨_, hg cell hc, Nat.zero_le _⟩
def R1281 : Room := { frames := 12, cells := 96, slots := 1281, locals := 434 }
/-- the law at its loop's head, with so many new slots -/
theorem many_here {p : Program} {l : Launch} {e : Env} {R : Room} {s : State} {m : MethodId} {args : Array Value} {below : List Frame} {meth : Method} {c : Code} {kc ks : Nat} {locs : List Loc} {H : Heap} {g : JFrame} (hbig : 1128 ≤ ((H.toList.drop s.heap.size).map (fun x => x.slots.size)).sum) : W p l e R s m args below meth c H locs kc ks (fun t => s.slotsUsed + 1128 ≤ t.slotsUsed) g := by
  intro T hT X
  refine ⟨T.setTop g, Steps.refl _, ?_⟩
  have h : T.slotsUsed = s.slotsUsed + ((T.heap.toList.drop s.heap.size).map (fun x => x.slots.size)).sum := X.same.2.2.2.1
  have h2 : (T.setTop g).slotsUsed = T.slotsUsed := rfl
  rw [hT] at h
  show s.slotsUsed + 1128 ≤ (T.setTop g).slotsUsed
  omega
set_option maxHeartbeats 4000000 in
set_option maxRecDepth 20000 in
/-- in a room that is large enough, on EVERY script, the law comes to its loop's head, and 1128 slots have come -/
theorem law_many {p : Program} {l : Launch} {e : Env} {s : State} {m : MethodId} {below : List Frame} {meth : Method} {c : Code} {b L : Nat} {xs : Nat → Int32} (C0 : lw_At p s m meth c b L xs) : W p l e R1281 s m #[Value.ref b] below meth c s.heap [] 0 0 (fun t => s.slotsUsed + 1128 ≤ t.slotsUsed) (entryFrame m ([Value.ref b] : List Value).toArray 4) := by
  obtain ⟨E, hEa, hA⟩ := amb_start C0
  obtain ⟨hx, hb, hr, hml, hown, hts, hX, hbl, hlocks, hgv⟩ := C0
  have hE0 : ∀ k, E.2.1 k = s.heap.size + k := fun k => by rw [hEa]
  have hE : Ad E := fun k => by rw [hE0 k, hE0 0]; omega
  have htw : ∀ w ∈ WT, w.before #[Value.ref b] s = true := fun w hw => hts w (List.mem_filter.mp hw).1
  have hbA : ¬ Aq E 0 b := by show ¬ E.2.1 0 ≤ b; rw [hE0 0]; omega
  have hl := lv_entry ([.ref b]) (n := 4) (Nat.le_of_ble_eq_true rfl)
  rw [lg_entry_eq]
  generalize (lg_sl ([.ref b]) ++ List.replicate (4 - (lg_sl ([.ref b])).length) Slot.unset).toArray = ls at hl ⊢
  have hl : lv_has ls 4 [(0, .ref b)] := hl
  refine zl_make (Y2 := YX11_init) (CC := RX11) (TT := TX11) (N := 8) (ci := 10) (q := 0) (ws := []) (fs := [.null, .null, .null, .null, .null, .null, .null, .int 0]) (mc2 := 72) (ms2 := 442) hE hA hx hb hml hown htw hl.1 tyX11 tyX11_ok rfl in_X11 t_21 t_22 t_1 (by decide +kernel) lk_X11_init rfl rfl t_23 t_24 (Nat.le_of_ble_eq_true rfl) (Nat.le_of_ble_eq_true rfl) (Nat.le_of_ble_eq_true rfl) (Nat.le_of_ble_eq_true rfl) (Nat.le_of_ble_eq_true rfl) (Nat.le_of_ble_eq_true rfl) dL_law_0 dL_law_3 dL_law_4 (cn_X11 l E hE) (by rw [hE0 0]; rfl) (fun k q h => by simp at h) ⟨fun i j x y h => by simp at h, fun k q h => by simp at h⟩ va_S.rf (fun H locs hz hP hD hS => ?_)
  refine lv_astore_n (lv' := [(1, .ref (E.2.1 0)), (0, .ref b)]) hx hb dL_law_7 rfl hl (by decide) rfl (fun ls hl => ?_)
  refine zl_make (Y2 := YX12_init) (CC := RX12) (TT := TX12) (N := 39) (ci := 11) (q := 73) (fs := [.null, .null, .null, .null, .null, .null, .null, .null, .null, .int 0, .int 0, .int 0, .int 0, .int 0, .int 0, .int 0, .int 0, .null, .null, .null, .null, .null, .null, .null, .null, .int 0, .int 0, .int 0, .null, .null, .int 0, .int 0, .int 0, .int 0, .null, .null, .int 0, .null, .int 0]) (mc2 := 22) (ms2 := 792) hE hA hx hb hml hown htw hl.1 tyX12 tyX12_ok rfl in_X12 t_839 t_840 t_13 (by decide +kernel) lk_X12_init rfl rfl t_841 t_842 (Nat.le_of_ble_eq_true rfl) (Nat.le_of_ble_eq_true rfl) (Nat.le_of_ble_eq_true rfl) (Nat.le_of_ble_eq_true rfl) (Nat.le_of_ble_eq_true rfl) (Nat.le_of_ble_eq_true rfl) dL_law_8 dL_law_11 dL_law_12 (cn_X12 l E hE) hz hP hD hS (fun H locs hz hP hD hS => ?_)
  have hP : va_P E.1 vwC (wl E σ0) H := by
    rw [wl_sl, ← sl_app E 0 73 23 (j := 73) rfl]
    exact hP
  refine lv_astore_n (lv' := [(2, .ref (E.2.1 73)), (1, .ref (E.2.1 0)), (0, .ref b)]) hx hb dL_law_15 rfl hl (by decide) rfl (fun ls hl => ?_)
  exact many_here (wl_big hE0 hP)
