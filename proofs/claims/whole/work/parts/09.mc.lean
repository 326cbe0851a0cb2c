abbrev YX11_costOf : Yv := (yX11_costOf, cX11_costOf, 4, some .int, 0, 0)
def f_X11_costOf_B6 (N : Nat) (rec : Int32 → Int32 → Int32 → Sg → Option (Int32 × Sg)) (a1 a2 a3 : Int32) (σ : Sg) : Option (Int32 × Sg) :=
  if 4 ≤ a3 then (some (a1, σ)) else (rec (a1 + (jrem a2 10)) (a2 / 10) (a3 + 1) σ)
def f_X11_costOf_L6 (N : Nat) : Nat → Int32 → Int32 → Int32 → Sg → Option (Int32 × Sg)
  | 0 => fun _ _ _ _ => none
  | k + 1 => fun a1 a2 a3 σ => f_X11_costOf_B6 N (f_X11_costOf_L6 N k) a1 a2 a3 σ
def f_X11_costOf (N : Nat) (x1 : Int32) (σ : Sg) : Option (Int32 × Sg) :=
  (f_X11_costOf_L6 N N 0 x1 0 σ).bind (fun s2 => some (s2.1, s2.2))
set_option maxHeartbeats 4000000 in
set_option maxRecDepth 20000 in
theorem m_X11_costOf (l : Launch) (E : Ev) (N : Nat) (x1 : Int32) (σ : Sg) (R : Int32 × Sg) (hf : f_X11_costOf N x1 σ = some R) : Ct l E YX11_costOf [.int x1] σ (some (.int R.1), R.2) := by
  refine ct_of (by decide +kernel) (Nat.le_of_ble_eq_true rfl) [(0, .int x1)] rfl (fun X hX C => ?_)
  have hL6 : ∀ (k : Nat) (a1 a2 a3 : Int32) (σ : Sg) (Q6 : Int32 × Sg), f_X11_costOf_L6 N k a1 a2 a3 σ = some Q6 → (Zz E X YX11_costOf (some (.int R.1), R.2) Q6.2 29 [(1, .int Q6.1)] []) → Zz E X YX11_costOf (some (.int R.1), R.2) σ 6 [(1, .int a1), (2, .int a2), (3, .int a3)] [] := by
    intro k
    induction k with
    | zero =>
      intro a1 a2 a3 σ Q6 hf
      have hf : (none : Option (Int32 × Sg)) = some Q6 := hf
      cases hf
    | succ k ih =>
      intro a1 a2 a3 σ Q6 hf hx6
      have hf : f_X11_costOf_B6 N (f_X11_costOf_L6 N k) a1 a2 a3 σ = some Q6 := hf
      unfold f_X11_costOf_B6 at hf
      refine z_iload_n C dX11_costOf_6 2 rfl ?_
      refine z_iconst (v := 4) C dX11_costOf_7 (by decide) ?_
      refine z_icmp_ge (tgt := 29) C dX11_costOf_8 (by decide) (fun h1 => ?_) (fun h1 => ?_)
      · replace hf := ifp hf h1
        refine z_sub [(1, .int a1)] [0] rfl ?_
        obtain rfl := Option.some.inj hf
        exact hx6
      · replace hf := ifn hf h1
        refine z_iload_n C dX11_costOf_11 0 rfl ?_
        refine z_iload_n C dX11_costOf_12 1 rfl ?_
        refine z_bipush (v := 10) C dX11_costOf_13 (by decide) ?_
        refine z_irem C dX11_costOf_15 (by decide) ?_
        refine z_iadd C dX11_costOf_16 ?_
        refine z_istore_n (lv' := [(1, .int (a1 + (jrem a2 10))), (2, .int a2), (3, .int a3)]) C dX11_costOf_17 (by decide) rfl ?_
        refine z_iload_n C dX11_costOf_18 1 rfl ?_
        refine z_bipush (v := 10) C dX11_costOf_19 (by decide) ?_
        refine z_idiv C dX11_costOf_21 (by decide) ?_
        refine z_istore_n (lv' := [(2, .int (a2 / 10)), (1, .int (a1 + (jrem a2 10))), (3, .int a3)]) C dX11_costOf_22 (by decide) rfl ?_
        refine z_iinc (v := (a3 + 1)) (lv' := [(3, .int (a3 + 1)), (2, .int (a2 / 10)), (1, .int (a1 + (jrem a2 10)))]) C dX11_costOf_23 2 rfl rfl (by decide) rfl ?_
        refine z_goto (tgt := 6) C dX11_costOf_26 (by decide) ?_
        refine z_sub [(1, .int (a1 + (jrem a2 10))), (2, .int (a2 / 10)), (3, .int (a3 + 1))] [2, 1, 0] rfl ?_
        exact ih (a1 + (jrem a2 10)) (a2 / 10) (a3 + 1) σ _ hf hx6
  unfold f_X11_costOf at hf
  refine z_iconst (v := 0) C dX11_costOf_0 (by decide) ?_
  refine z_istore_n (lv' := [(1, .int 0), (0, .int x1)]) C dX11_costOf_1 (by decide) rfl ?_
  refine z_iload_n C dX11_costOf_2 1 rfl ?_
  refine z_istore_n (lv' := [(2, .int x1), (1, .int 0), (0, .int x1)]) C dX11_costOf_3 (by decide) rfl ?_
  refine z_iconst (v := 0) C dX11_costOf_4 (by decide) ?_
  refine z_istore_n (lv' := [(3, .int 0), (2, .int x1), (1, .int 0), (0, .int x1)]) C dX11_costOf_5 (by decide) rfl ?_
  refine z_sub [(1, .int 0), (2, .int x1), (3, .int 0)] [2, 1, 0] rfl ?_
  obtain ⟨s2, h3, hf⟩ := bd_some hf
  refine hL6 N 0 x1 0 σ _ h3 ?_
  refine z_iload_n C dX11_costOf_29 0 rfl ?_
  exact z_iret C dX11_costOf_30 rfl (by rw [← Option.some.inj hf])
theorem lk_X11_costOf {Y : Yv} : Lk Y YX11_costOf 1 := ⟨t_582, t_1, ⟨by decide +kernel, by decide +kernel⟩, by decide +kernel⟩
abbrev YX2_cheapestTo : Yv := (yX2_cheapestTo, cX2_cheapestTo, 9, some .int, 3, 79)
def f_X2_cheapestTo_B11 (N : Nat) (p1 : Nat) (p2 : Nat) (rec : Int32 → Int32 → Int32 → Int32 → Sg → Option (Int32 × Sg)) (a3 a5 a6 a7 : Int32) (σ : Sg) : Option (Int32 × Sg) :=
  if 81 ≤ a7 then (some (a5, σ)) else (ga a7 81 ((f_X11_costOf N (twoL.getD (Int32.toNatClampNeg a7) 0) σ).bind (fun r3 => if a6 ≤ r3.1 then (rec a3 a5 a6 (a7 + 1) r3.2) else (ga a7 81 ((f_X0_reaches N p2 p1 a3 (twoL.getD (Int32.toNatClampNeg a7) 0) r3.2).bind (fun r7 => if r7.1 = 0 then (rec a3 a5 a6 (a7 + 1) r7.2) else (ga a7 81 (nm (twoL.getD (Int32.toNatClampNeg a7) 0) (fun v11 => rec a3 v11 r3.1 (a7 + 1) r7.2)))))))))
def f_X2_cheapestTo_L11 (N : Nat) (p1 : Nat) (p2 : Nat) : Nat → Int32 → Int32 → Int32 → Int32 → Sg → Option (Int32 × Sg)
  | 0 => fun _ _ _ _ _ => none
  | k + 1 => fun a3 a5 a6 a7 σ => f_X2_cheapestTo_B11 N p1 p2 (f_X2_cheapestTo_L11 N p1 p2 k) a3 a5 a6 a7 σ
def f_X2_cheapestTo (N : Nat) (p1 : Nat) (p2 : Nat) (x3 x4 : Int32) (σ : Sg) : Option (Int32 × Sg) :=
  (f_X2_cheapestTo_L11 N p1 p2 N x3 x4 100 0 σ).bind (fun s13 => some (s13.1, s13.2))
set_option maxHeartbeats 4000000 in
set_option maxRecDepth 20000 in
theorem m_X2_cheapestTo (l : Launch) (E : Ev) (N : Nat) (p1 : Nat) (p2 : Nat) (hp1 : isPe p1) (hp2 : isLa p2) (x3 x4 : Int32) (σ : Sg) (R : Int32 × Sg) (hf : f_X2_cheapestTo N p1 p2 x3 x4 σ = some R) : Ct l E YX2_cheapestTo [.ref (E.2.1 53), .ref (E.2.1 p1), .ref (E.2.1 p2), .int x3, .int x4] σ (some (.int R.1), R.2) := by
  refine ct_of (by decide +kernel) (Nat.le_of_ble_eq_true rfl) [(0, .ref (E.2.1 53)), (1, .ref (E.2.1 p1)), (2, .ref (E.2.1 p2)), (3, .int x3), (4, .int x4)] rfl (fun X hX C => ?_)
  have hL11 : ∀ (k : Nat) (a3 a5 a6 a7 : Int32) (σ : Sg) (Q11 : Int32 × Sg), f_X2_cheapestTo_L11 N p1 p2 k a3 a5 a6 a7 σ = some Q11 → (Zz E X YX2_cheapestTo (some (.int R.1), R.2) Q11.2 71 [(5, .int Q11.1)] []) → Zz E X YX2_cheapestTo (some (.int R.1), R.2) σ 11 [(1, .ref (E.2.1 p1)), (2, .ref (E.2.1 p2)), (3, .int a3), (5, .int a5), (6, .int a6), (7, .int a7)] [] := by
    intro k
    induction k with
    | zero =>
      intro a3 a5 a6 a7 σ Q11 hf
      have hf : (none : Option (Int32 × Sg)) = some Q11 := hf
      cases hf
    | succ k ih =>
      intro a3 a5 a6 a7 σ Q11 hf hx11
      have hf : f_X2_cheapestTo_B11 N p1 p2 (f_X2_cheapestTo_L11 N p1 p2 k) a3 a5 a6 a7 σ = some Q11 := hf
      unfold f_X2_cheapestTo_B11 at hf
      refine z_iload C dX2_cheapestTo_11 5 rfl ?_
      refine z_gets2 C n_578 dX2_cheapestTo_13 ?_
      refine z_alen2 C dX2_cheapestTo_16 ?_
      refine z_icmp_ge (tgt := 71) C dX2_cheapestTo_17 (by decide) (fun h1 => ?_) (fun h1 => ?_)
      · replace hf := ifp hf h1
        refine z_sub [(5, .int a5)] [3] rfl ?_
        obtain rfl := Option.some.inj hf
        exact hx11
      · replace hf := ifn hf h1
        refine z_gets2 C n_578 dX2_cheapestTo_20 ?_
        refine z_iload C dX2_cheapestTo_23 5 rfl ?_
        obtain ⟨h2, hf⟩ := ga_some hf
        refine z_ald2 C h2 dX2_cheapestTo_25 ?_
        obtain ⟨r3, h4, hf⟩ := bd_some hf
        refine z_callSN (Y2 := YX11_costOf) (As := [.int (twoL.getD (Int32.toNatClampNeg a7) 0)]) C lk_X11_costOf n_580 t_581 (Nat.le_of_ble_eq_true rfl) (Nat.le_of_ble_eq_true rfl) dX2_cheapestTo_26 (Nat.le_of_ble_eq_true rfl) rfl rfl (m_X11_costOf X.2.1 E N (twoL.getD (Int32.toNatClampNeg a7) 0) σ _ h4) ?_
        change Zz E X YX2_cheapestTo (some (.int R.1), R.2) r3.2 _ _ [.int r3.1]
        refine z_istore (lv' := [(8, .int r3.1), (1, .ref (E.2.1 p1)), (2, .ref (E.2.1 p2)), (3, .int a3), (5, .int a5), (6, .int a6), (7, .int a7)]) C dX2_cheapestTo_29 (by decide) rfl ?_
        refine z_iload C dX2_cheapestTo_31 0 rfl ?_
        refine z_iload C dX2_cheapestTo_33 5 rfl ?_
        refine z_icmp_ge (tgt := 65) C dX2_cheapestTo_35 (by decide) (fun h5 => ?_) (fun h5 => ?_)
        · replace hf := ifp hf h5
          refine z_iinc (v := (a7 + 1)) (lv' := [(7, .int (a7 + 1)), (8, .int r3.1), (1, .ref (E.2.1 p1)), (2, .ref (E.2.1 p2)), (3, .int a3), (5, .int a5), (6, .int a6)]) C dX2_cheapestTo_65 6 rfl rfl (by decide) rfl ?_
          refine z_goto (tgt := 11) C dX2_cheapestTo_68 (by decide) ?_
          refine z_sub [(1, .ref (E.2.1 p1)), (2, .ref (E.2.1 p2)), (3, .int a3), (5, .int a5), (6, .int a6), (7, .int (a7 + 1))] [2, 3, 4, 5, 6, 0] rfl ?_
          exact ih a3 a5 a6 (a7 + 1) r3.2 _ hf hx11
        · replace hf := ifn hf h5
          refine z_aload_n C dX2_cheapestTo_38 2 rfl ?_
          refine z_aload_n C dX2_cheapestTo_39 1 rfl ?_
          refine z_iload_n C dX2_cheapestTo_40 3 rfl ?_
          refine z_gets2 C n_578 dX2_cheapestTo_41 ?_
          refine z_iload C dX2_cheapestTo_44 6 rfl ?_
          obtain ⟨h6, hf⟩ := ga_some hf
          refine z_ald2 C h6 dX2_cheapestTo_46 ?_
          obtain ⟨r7, h8, hf⟩ := bd_some hf
          refine z_law_X0_reaches (As := [.ref (E.2.1 p1), .int a3, .int (twoL.getD (Int32.toNatClampNeg a7) 0)]) C hp2 t_583 (Nat.le_of_ble_eq_true rfl) (Nat.le_of_ble_eq_true rfl) dX2_cheapestTo_47 (Nat.le_of_ble_eq_true rfl) rfl rfl (m_X0_reaches X.2.1 E N p2 p1 hp2 hp1 a3 (twoL.getD (Int32.toNatClampNeg a7) 0) r3.2 _ h8) ?_
          change Zz E X YX2_cheapestTo (some (.int R.1), R.2) r7.2 _ _ [.int r7.1]
          refine z_if_eq (tgt := 65) C dX2_cheapestTo_50 (by decide) (fun h9 => ?_) (fun h9 => ?_)
          · replace hf := ifp hf h9
            refine z_iinc (v := (a7 + 1)) (lv' := [(7, .int (a7 + 1)), (8, .int r3.1), (1, .ref (E.2.1 p1)), (2, .ref (E.2.1 p2)), (3, .int a3), (5, .int a5), (6, .int a6)]) C dX2_cheapestTo_65 6 rfl rfl (by decide) rfl ?_
            refine z_goto (tgt := 11) C dX2_cheapestTo_68 (by decide) ?_
            refine z_sub [(1, .ref (E.2.1 p1)), (2, .ref (E.2.1 p2)), (3, .int a3), (5, .int a5), (6, .int a6), (7, .int (a7 + 1))] [2, 3, 4, 5, 6, 0] rfl ?_
            exact ih a3 a5 a6 (a7 + 1) r7.2 _ hf hx11
          · replace hf := ifn hf h9
            refine z_iload C dX2_cheapestTo_53 0 rfl ?_
            refine z_istore (lv' := [(6, .int r3.1), (8, .int r3.1), (1, .ref (E.2.1 p1)), (2, .ref (E.2.1 p2)), (3, .int a3), (5, .int a5), (7, .int a7)]) C dX2_cheapestTo_55 (by decide) rfl ?_
            refine z_gets2 C n_578 dX2_cheapestTo_57 ?_
            refine z_iload C dX2_cheapestTo_60 6 rfl ?_
            obtain ⟨h10, hf⟩ := ga_some hf
            refine z_ald2 C h10 dX2_cheapestTo_62 ?_
            obtain ⟨v11, h12, hf⟩ := nm_some hf
            rw [← h12]
            refine z_istore (lv' := [(5, .int v11), (6, .int r3.1), (8, .int r3.1), (1, .ref (E.2.1 p1)), (2, .ref (E.2.1 p2)), (3, .int a3), (7, .int a7)]) C dX2_cheapestTo_63 (by decide) rfl ?_
            refine z_iinc (v := (a7 + 1)) (lv' := [(7, .int (a7 + 1)), (5, .int v11), (6, .int r3.1), (8, .int r3.1), (1, .ref (E.2.1 p1)), (2, .ref (E.2.1 p2)), (3, .int a3)]) C dX2_cheapestTo_65 6 rfl rfl (by decide) rfl ?_
            refine z_goto (tgt := 11) C dX2_cheapestTo_68 (by decide) ?_
            refine z_sub [(1, .ref (E.2.1 p1)), (2, .ref (E.2.1 p2)), (3, .int a3), (5, .int v11), (6, .int r3.1), (7, .int (a7 + 1))] [4, 5, 6, 1, 2, 0] rfl ?_
            exact ih a3 v11 r3.1 (a7 + 1) r7.2 _ hf hx11
  unfold f_X2_cheapestTo at hf
  refine z_iload C dX2_cheapestTo_0 4 rfl ?_
  refine z_istore (lv' := [(5, .int x4), (0, .ref (E.2.1 53)), (1, .ref (E.2.1 p1)), (2, .ref (E.2.1 p2)), (3, .int x3), (4, .int x4)]) C dX2_cheapestTo_2 (by decide) rfl ?_
  refine z_bipush (v := 100) C dX2_cheapestTo_4 (by decide) ?_
  refine z_istore (lv' := [(6, .int 100), (5, .int x4), (0, .ref (E.2.1 53)), (1, .ref (E.2.1 p1)), (2, .ref (E.2.1 p2)), (3, .int x3), (4, .int x4)]) C dX2_cheapestTo_6 (by decide) rfl ?_
  refine z_iconst (v := 0) C dX2_cheapestTo_8 (by decide) ?_
  refine z_istore (lv' := [(7, .int 0), (6, .int 100), (5, .int x4), (0, .ref (E.2.1 53)), (1, .ref (E.2.1 p1)), (2, .ref (E.2.1 p2)), (3, .int x3), (4, .int x4)]) C dX2_cheapestTo_9 (by decide) rfl ?_
  refine z_sub [(1, .ref (E.2.1 p1)), (2, .ref (E.2.1 p2)), (3, .int x3), (5, .int x4), (6, .int 100), (7, .int 0)] [4, 5, 6, 2, 1, 0] rfl ?_
  obtain ⟨s13, h14, hf⟩ := bd_some hf
  refine hL11 N x3 x4 100 0 σ _ h14 ?_
  refine z_iload C dX2_cheapestTo_71 0 rfl ?_
  exact z_iret C dX2_cheapestTo_73 rfl (by rw [← Option.some.inj hf])
theorem lk_X2_cheapestTo {Y : Yv} : Lk Y YX2_cheapestTo 4 := ⟨t_577, t_6, ⟨by decide +kernel, by decide +kernel⟩, by decide +kernel⟩
abbrev YX2_isReached : Yv := (yX2_isReached, cX2_isReached, 5, some .boolean, 3, 79)
def f_X2_isReached_B3 (N : Nat) (p1 : Nat) (p2 : Nat) (rec : Int32 → Int32 → Sg → Option ((Sg) ⊕ (Int32 × Sg))) (a3 a4 : Int32) (σ : Sg) : Option ((Sg) ⊕ (Int32 × Sg)) :=
  if 81 ≤ a4 then (some (.inl σ)) else (ga a4 81 ((f_X0_reaches N p2 p1 a3 (twoL.getD (Int32.toNatClampNeg a4) 0) σ).bind (fun r3 => if r3.1 = 0 then (rec a3 (a4 + 1) r3.2) else (some (.inr (1, r3.2))))))
def f_X2_isReached_L3 (N : Nat) (p1 : Nat) (p2 : Nat) : Nat → Int32 → Int32 → Sg → Option ((Sg) ⊕ (Int32 × Sg))
  | 0 => fun _ _ _ => none
  | k + 1 => fun a3 a4 σ => f_X2_isReached_B3 N p1 p2 (f_X2_isReached_L3 N p1 p2 k) a3 a4 σ
def f_X2_isReached (N : Nat) (p1 : Nat) (p2 : Nat) (x3 : Int32) (σ : Sg) : Option (Int32 × Sg) :=
  ex1 (f_X2_isReached_L3 N p1 p2 N x3 0 σ) (fun s6 => some (0, s6)) (fun r7 => some r7)
set_option maxHeartbeats 4000000 in
set_option maxRecDepth 20000 in
theorem m_X2_isReached (l : Launch) (E : Ev) (N : Nat) (p1 : Nat) (p2 : Nat) (hp1 : isPe p1) (hp2 : isLa p2) (x3 : Int32) (σ : Sg) (R : Int32 × Sg) (hf : f_X2_isReached N p1 p2 x3 σ = some R) : Ct l E YX2_isReached [.ref (E.2.1 53), .ref (E.2.1 p1), .ref (E.2.1 p2), .int x3] σ (some (.int R.1), R.2) := by
  refine ct_of (by decide +kernel) (Nat.le_of_ble_eq_true rfl) [(0, .ref (E.2.1 53)), (1, .ref (E.2.1 p1)), (2, .ref (E.2.1 p2)), (3, .int x3)] rfl (fun X hX C => ?_)
  have hL3 : ∀ (k : Nat) (a3 a4 : Int32) (σ : Sg) (Q3 : (Sg) ⊕ (Int32 × Sg)), f_X2_isReached_L3 N p1 p2 k a3 a4 σ = some Q3 → (∀ S, Q3 = .inl S → Zz E X YX2_isReached (some (.int R.1), R.2) S 35 [] []) → (∀ r, Q3 = .inr r → ((some (.int R.1), R.2) : Pv) = (some (.int r.1), r.2)) → Zz E X YX2_isReached (some (.int R.1), R.2) σ 3 [(1, .ref (E.2.1 p1)), (2, .ref (E.2.1 p2)), (3, .int a3), (4, .int a4)] [] := by
    intro k
    induction k with
    | zero =>
      intro a3 a4 σ Q3 hf
      have hf : (none : Option ((Sg) ⊕ (Int32 × Sg))) = some Q3 := hf
      cases hf
    | succ k ih =>
      intro a3 a4 σ Q3 hf hx3 hr3
      have hf : f_X2_isReached_B3 N p1 p2 (f_X2_isReached_L3 N p1 p2 k) a3 a4 σ = some Q3 := hf
      unfold f_X2_isReached_B3 at hf
      refine z_iload C dX2_isReached_3 3 rfl ?_
      refine z_gets2 C n_578 dX2_isReached_5 ?_
      refine z_alen2 C dX2_isReached_8 ?_
      refine z_icmp_ge (tgt := 35) C dX2_isReached_9 (by decide) (fun h1 => ?_) (fun h1 => ?_)
      · replace hf := ifp hf h1
        refine z_sub [] [] rfl ?_
        exact hx3 _ (Option.some.inj hf).symm
      · replace hf := ifn hf h1
        refine z_aload_n C dX2_isReached_12 1 rfl ?_
        refine z_aload_n C dX2_isReached_13 0 rfl ?_
        refine z_iload_n C dX2_isReached_14 2 rfl ?_
        refine z_gets2 C n_578 dX2_isReached_15 ?_
        refine z_iload C dX2_isReached_18 3 rfl ?_
        obtain ⟨h2, hf⟩ := ga_some hf
        refine z_ald2 C h2 dX2_isReached_20 ?_
        obtain ⟨r3, h4, hf⟩ := bd_some hf
        refine z_law_X0_reaches (As := [.ref (E.2.1 p1), .int a3, .int (twoL.getD (Int32.toNatClampNeg a4) 0)]) C hp2 t_583 (Nat.le_of_ble_eq_true rfl) (Nat.le_of_ble_eq_true rfl) dX2_isReached_21 (Nat.le_of_ble_eq_true rfl) rfl rfl (m_X0_reaches X.2.1 E N p2 p1 hp2 hp1 a3 (twoL.getD (Int32.toNatClampNeg a4) 0) σ _ h4) ?_
        change Zz E X YX2_isReached (some (.int R.1), R.2) r3.2 _ _ [.int r3.1]
        refine z_if_eq (tgt := 29) C dX2_isReached_24 (by decide) (fun h5 => ?_) (fun h5 => ?_)
        · replace hf := ifp hf h5
          refine z_iinc (v := (a4 + 1)) (lv' := [(4, .int (a4 + 1)), (1, .ref (E.2.1 p1)), (2, .ref (E.2.1 p2)), (3, .int a3)]) C dX2_isReached_29 3 rfl rfl (by decide) rfl ?_
          refine z_goto (tgt := 3) C dX2_isReached_32 (by decide) ?_
          refine z_sub [(1, .ref (E.2.1 p1)), (2, .ref (E.2.1 p2)), (3, .int a3), (4, .int (a4 + 1))] [1, 2, 3, 0] rfl ?_
          exact ih a3 (a4 + 1) r3.2 _ hf hx3 hr3
        · replace hf := ifn hf h5
          refine z_iconst (v := 1) C dX2_isReached_27 (by decide) ?_
          have hq := hr3 _ (Option.some.inj hf).symm
          exact z_zret C dX2_isReached_28 rfl rfl hq
  unfold f_X2_isReached at hf
  refine z_iconst (v := 0) C dX2_isReached_0 (by decide) ?_
  refine z_istore (lv' := [(4, .int 0), (0, .ref (E.2.1 53)), (1, .ref (E.2.1 p1)), (2, .ref (E.2.1 p2)), (3, .int x3)]) C dX2_isReached_1 (by decide) rfl ?_
  refine z_sub [(1, .ref (E.2.1 p1)), (2, .ref (E.2.1 p2)), (3, .int x3), (4, .int 0)] [2, 3, 4, 0] rfl ?_
  rcases ex1_some hf with ⟨s6, h8, hf⟩ | ⟨r7, h8, hf⟩
  · refine hL3 N x3 0 σ _ h8 (fun S e => ?_) (fun _ e => nomatch e)
    cases e
    refine z_iconst (v := 0) C dX2_isReached_35 (by decide) ?_
    exact z_zret C dX2_isReached_36 rfl rfl (by rw [← Option.some.inj hf])
  · refine hL3 N x3 0 σ _ h8 (fun _ e => nomatch e) (fun r e => ?_)
    cases e
    exact (by rw [← Option.some.inj hf])
theorem lk_X2_isReached {Y : Yv} : Lk Y YX2_isReached 3 := ⟨t_603, t_6, ⟨by decide +kernel, by decide +kernel⟩, by decide +kernel⟩
abbrev YX2_reached : Yv := (yX2_reached, cX2_reached, 5, some .int, 4, 103)
def f_X2_reached_B5 (N : Nat) (p1 : Nat) (p2 : Nat) (rec : Int32 → Int32 → Sg → Option (Int32 × Sg)) (a3 a4 : Int32) (σ : Sg) : Option (Int32 × Sg) :=
  if (σ p1 2) ≤ a4 then (some (a3, σ)) else ((f_X2_isReached N p1 p2 a4 σ).bind (fun r2 => if r2.1 = 0 then (rec a3 (a4 + 1) r2.2) else (nm (a3 ||| ((1 : Int32) <<< (a4 &&& 31))) (fun v5 => rec v5 (a4 + 1) r2.2))))
def f_X2_reached_L5 (N : Nat) (p1 : Nat) (p2 : Nat) : Nat → Int32 → Int32 → Sg → Option (Int32 × Sg)
  | 0 => fun _ _ _ => none
  | k + 1 => fun a3 a4 σ => f_X2_reached_B5 N p1 p2 (f_X2_reached_L5 N p1 p2 k) a3 a4 σ
def f_X2_reached (N : Nat) (p1 : Nat) (p2 : Nat) (σ : Sg) : Option (Int32 × Sg) :=
  (f_X2_reached_L5 N p1 p2 N 0 0 σ).bind (fun s7 => some (s7.1, s7.2))
set_option maxHeartbeats 4000000 in
set_option maxRecDepth 20000 in
theorem m_X2_reached (l : Launch) (E : Ev) (N : Nat) (p1 : Nat) (p2 : Nat) (hp1 : isPe p1) (hp2 : isLa p2) (σ : Sg) (R : Int32 × Sg) (hf : f_X2_reached N p1 p2 σ = some R) : Ct l E YX2_reached [.ref (E.2.1 53), .ref (E.2.1 p1), .ref (E.2.1 p2)] σ (some (.int R.1), R.2) := by
  refine ct_of (by decide +kernel) (Nat.le_of_ble_eq_true rfl) [(0, .ref (E.2.1 53)), (1, .ref (E.2.1 p1)), (2, .ref (E.2.1 p2))] rfl (fun X hX C => ?_)
  have hL5 : ∀ (k : Nat) (a3 a4 : Int32) (σ : Sg) (Q5 : Int32 × Sg), f_X2_reached_L5 N p1 p2 k a3 a4 σ = some Q5 → (Zz E X YX2_reached (some (.int R.1), R.2) Q5.2 38 [(3, .int Q5.1)] []) → Zz E X YX2_reached (some (.int R.1), R.2) σ 5 [(0, .ref (E.2.1 53)), (1, .ref (E.2.1 p1)), (2, .ref (E.2.1 p2)), (3, .int a3), (4, .int a4)] [] := by
    intro k
    induction k with
    | zero =>
      intro a3 a4 σ Q5 hf
      have hf : (none : Option (Int32 × Sg)) = some Q5 := hf
      cases hf
    | succ k ih =>
      intro a3 a4 σ Q5 hf hx5
      have hf : f_X2_reached_B5 N p1 p2 (f_X2_reached_L5 N p1 p2 k) a3 a4 σ = some Q5 := hf
      unfold f_X2_reached_B5 at hf
      refine z_iload C dX2_reached_5 4 rfl ?_
      refine z_aload_n C dX2_reached_7 1 rfl ?_
      refine z_getN (v := .int (σ p1 2)) (T := TX5) (N := 3) (ci := 4) C (lt_pe hp1) (wc_pe hp1) rfl in_X5 2 (by decide) n_48 rfl dX2_reached_8 ?_
      refine z_icmp_ge (tgt := 38) C dX2_reached_11 (by decide) (fun h1 => ?_) (fun h1 => ?_)
      · replace hf := ifp hf h1
        refine z_sub [(3, .int a3)] [3] rfl ?_
        obtain rfl := Option.some.inj hf
        exact hx5
      · replace hf := ifn hf h1
        refine z_aload_n C dX2_reached_14 0 rfl ?_
        refine z_aload_n C dX2_reached_15 1 rfl ?_
        refine z_aload_n C dX2_reached_16 2 rfl ?_
        refine z_iload C dX2_reached_17 4 rfl ?_
        obtain ⟨r2, h3, hf⟩ := bd_some hf
        refine z_callV (Y2 := YX2_isReached) (CC := RX2) (T := TX2) (N := 5) (ci := 1) (As := [.ref (E.2.1 p1), .ref (E.2.1 p2), .int a4]) C lk_X2_isReached (by decide) wc_mi rfl t_600 t_601 t_602 (Nat.le_of_ble_eq_true rfl) (Nat.le_of_ble_eq_true rfl) dX2_reached_19 (Nat.le_of_ble_eq_true rfl) rfl rfl (m_X2_isReached X.2.1 E N p1 p2 hp1 hp2 a4 σ _ h3) ?_
        change Zz E X YX2_reached (some (.int R.1), R.2) r2.2 _ _ [.int r2.1]
        refine z_if_eq (tgt := 32) C dX2_reached_22 (by decide) (fun h4 => ?_) (fun h4 => ?_)
        · replace hf := ifp hf h4
          refine z_iinc (v := (a4 + 1)) (lv' := [(4, .int (a4 + 1)), (0, .ref (E.2.1 53)), (1, .ref (E.2.1 p1)), (2, .ref (E.2.1 p2)), (3, .int a3)]) C dX2_reached_32 4 rfl rfl (by decide) rfl ?_
          refine z_goto (tgt := 5) C dX2_reached_35 (by decide) ?_
          refine z_sub [(0, .ref (E.2.1 53)), (1, .ref (E.2.1 p1)), (2, .ref (E.2.1 p2)), (3, .int a3), (4, .int (a4 + 1))] [1, 2, 3, 4, 0] rfl ?_
          exact ih a3 (a4 + 1) r2.2 _ hf hx5
        · replace hf := ifn hf h4
          refine z_iload_n C dX2_reached_25 3 rfl ?_
          refine z_iconst (v := 1) C dX2_reached_26 (by decide) ?_
          refine z_iload C dX2_reached_27 4 rfl ?_
          refine z_ishl C dX2_reached_29 ?_
          refine z_ior C dX2_reached_30 ?_
          obtain ⟨v5, h6, hf⟩ := nm_some hf
          rw [← h6]
          refine z_istore_n (lv' := [(3, .int v5), (0, .ref (E.2.1 53)), (1, .ref (E.2.1 p1)), (2, .ref (E.2.1 p2)), (4, .int a4)]) C dX2_reached_31 (by decide) rfl ?_
          refine z_iinc (v := (a4 + 1)) (lv' := [(4, .int (a4 + 1)), (3, .int v5), (0, .ref (E.2.1 53)), (1, .ref (E.2.1 p1)), (2, .ref (E.2.1 p2))]) C dX2_reached_32 4 rfl rfl (by decide) rfl ?_
          refine z_goto (tgt := 5) C dX2_reached_35 (by decide) ?_
          refine z_sub [(0, .ref (E.2.1 53)), (1, .ref (E.2.1 p1)), (2, .ref (E.2.1 p2)), (3, .int v5), (4, .int (a4 + 1))] [2, 3, 4, 1, 0] rfl ?_
          exact ih v5 (a4 + 1) r2.2 _ hf hx5
  unfold f_X2_reached at hf
  refine z_iconst (v := 0) C dX2_reached_0 (by decide) ?_
  refine z_istore_n (lv' := [(3, .int 0), (0, .ref (E.2.1 53)), (1, .ref (E.2.1 p1)), (2, .ref (E.2.1 p2))]) C dX2_reached_1 (by decide) rfl ?_
  refine z_iconst (v := 0) C dX2_reached_2 (by decide) ?_
  refine z_istore (lv' := [(4, .int 0), (3, .int 0), (0, .ref (E.2.1 53)), (1, .ref (E.2.1 p1)), (2, .ref (E.2.1 p2))]) C dX2_reached_3 (by decide) rfl ?_
  refine z_sub [(0, .ref (E.2.1 53)), (1, .ref (E.2.1 p1)), (2, .ref (E.2.1 p2)), (3, .int 0), (4, .int 0)] [2, 3, 4, 1, 0] rfl ?_
  obtain ⟨s7, h8, hf⟩ := bd_some hf
  refine hL5 N 0 0 σ _ h8 ?_
  refine z_iload_n C dX2_reached_38 0 rfl ?_
  exact z_iret C dX2_reached_39 rfl (by rw [← Option.some.inj hf])
theorem lk_X2_reached {Y : Yv} : Lk Y YX2_reached 2 := ⟨t_599, t_6, ⟨by decide +kernel, by decide +kernel⟩, by decide +kernel⟩
abbrev YX2_costOfNext : Yv := (yX2_costOfNext, cX2_costOfNext, 8, some .int, 4, 103)
def f_X2_costOfNext_B6 (N : Nat) (p1 : Nat) (rec : Int32 → Int32 → Int32 → Sg → Option (Int32 × Sg)) (a2 a4 a5 : Int32) (σ : Sg) : Option (Int32 × Sg) :=
  if 81 ≤ a5 then (some (a4, σ)) else (ga a5 81 ((f_X11_costOf N (twoL.getD (Int32.toNatClampNeg a5) 0) σ).bind (fun r3 => if a4 ≤ r3.1 then (rec a2 a4 (a5 + 1) r3.2) else ((f_X5_takeFrom N 57 54 r3.2).bind (fun r6 => ga a5 81 ((f_X0_deliver N p1 57 (twoL.getD (Int32.toNatClampNeg a5) 0) r6).bind (fun r9 => if r9.1 = (-9) then (rec a2 a4 (a5 + 1) r9.2) else ((f_X2_isReached N 57 p1 a2 r9.2).bind (fun r12 => if r12.1 = 0 then (rec a2 a4 (a5 + 1) r12.2) else (rec a2 r3.1 (a5 + 1) r12.2))))))))))
def f_X2_costOfNext_L6 (N : Nat) (p1 : Nat) : Nat → Int32 → Int32 → Int32 → Sg → Option (Int32 × Sg)
  | 0 => fun _ _ _ _ => none
  | k + 1 => fun a2 a4 a5 σ => f_X2_costOfNext_B6 N p1 (f_X2_costOfNext_L6 N p1 k) a2 a4 a5 σ
def f_X2_costOfNext (N : Nat) (p1 : Nat) (x2 x3 : Int32) (σ : Sg) : Option (Int32 × Sg) :=
  (f_X2_costOfNext_L6 N p1 N x2 x3 0 σ).bind (fun s15 => some (s15.1, s15.2))
set_option maxHeartbeats 4000000 in
set_option maxRecDepth 20000 in
theorem m_X2_costOfNext (l : Launch) (E : Ev) (N : Nat) (p1 : Nat) (hp1 : isLa p1) (x2 x3 : Int32) (σ : Sg) (R : Int32 × Sg) (hf : f_X2_costOfNext N p1 x2 x3 σ = some R) : Ct l E YX2_costOfNext [.ref (E.2.1 53), .ref (E.2.1 p1), .int x2, .int x3] σ (some (.int R.1), R.2) := by
  refine ct_of (by decide +kernel) (Nat.le_of_ble_eq_true rfl) [(0, .ref (E.2.1 53)), (1, .ref (E.2.1 p1)), (2, .int x2), (3, .int x3)] rfl (fun X hX C => ?_)
  have hL6 : ∀ (k : Nat) (a2 a4 a5 : Int32) (σ : Sg) (Q6 : Int32 × Sg), f_X2_costOfNext_L6 N p1 k a2 a4 a5 σ = some Q6 → (Zz E X YX2_costOfNext (some (.int R.1), R.2) Q6.2 90 [(4, .int Q6.1)] []) → Zz E X YX2_costOfNext (some (.int R.1), R.2) σ 6 [(0, .ref (E.2.1 53)), (1, .ref (E.2.1 p1)), (2, .int a2), (4, .int a4), (5, .int a5)] [] := by
    intro k
    induction k with
    | zero =>
      intro a2 a4 a5 σ Q6 hf
      have hf : (none : Option (Int32 × Sg)) = some Q6 := hf
      cases hf
    | succ k ih =>
      intro a2 a4 a5 σ Q6 hf hx6
      have hf : f_X2_costOfNext_B6 N p1 (f_X2_costOfNext_L6 N p1 k) a2 a4 a5 σ = some Q6 := hf
      unfold f_X2_costOfNext_B6 at hf
      refine z_iload C dX2_costOfNext_6 4 rfl ?_
      refine z_gets2 C n_578 dX2_costOfNext_8 ?_
      refine z_alen2 C dX2_costOfNext_11 ?_
      refine z_icmp_ge (tgt := 90) C dX2_costOfNext_12 (by decide) (fun h1 => ?_) (fun h1 => ?_)
      · replace hf := ifp hf h1
        refine z_sub [(4, .int a4)] [3] rfl ?_
        obtain rfl := Option.some.inj hf
        exact hx6
      · replace hf := ifn hf h1
        refine z_gets2 C n_578 dX2_costOfNext_15 ?_
        refine z_iload C dX2_costOfNext_18 4 rfl ?_
        obtain ⟨h2, hf⟩ := ga_some hf
        refine z_ald2 C h2 dX2_costOfNext_20 ?_
        obtain ⟨r3, h4, hf⟩ := bd_some hf
        refine z_callSN (Y2 := YX11_costOf) (As := [.int (twoL.getD (Int32.toNatClampNeg a5) 0)]) C lk_X11_costOf n_580 t_581 (Nat.le_of_ble_eq_true rfl) (Nat.le_of_ble_eq_true rfl) dX2_costOfNext_21 (Nat.le_of_ble_eq_true rfl) rfl rfl (m_X11_costOf X.2.1 E N (twoL.getD (Int32.toNatClampNeg a5) 0) σ _ h4) ?_
        change Zz E X YX2_costOfNext (some (.int R.1), R.2) r3.2 _ _ [.int r3.1]
        refine z_istore (lv' := [(6, .int r3.1), (0, .ref (E.2.1 53)), (1, .ref (E.2.1 p1)), (2, .int a2), (4, .int a4), (5, .int a5)]) C dX2_costOfNext_24 (by decide) rfl ?_
        refine z_iload C dX2_costOfNext_26 0 rfl ?_
        refine z_iload C dX2_costOfNext_28 4 rfl ?_
        refine z_icmp_ge (tgt := 84) C dX2_costOfNext_30 (by decide) (fun h5 => ?_) (fun h5 => ?_)
        · replace hf := ifp hf h5
          refine z_iinc (v := (a5 + 1)) (lv' := [(5, .int (a5 + 1)), (6, .int r3.1), (0, .ref (E.2.1 53)), (1, .ref (E.2.1 p1)), (2, .int a2), (4, .int a4)]) C dX2_costOfNext_84 5 rfl rfl (by decide) rfl ?_
          refine z_goto (tgt := 6) C dX2_costOfNext_87 (by decide) ?_
          refine z_sub [(0, .ref (E.2.1 53)), (1, .ref (E.2.1 p1)), (2, .int a2), (4, .int a4), (5, .int (a5 + 1))] [2, 3, 4, 5, 0] rfl ?_
          exact ih a2 a4 (a5 + 1) r3.2 _ hf hx6
        · replace hf := ifn hf h5
          refine z_aload_n C dX2_costOfNext_33 1 rfl ?_
          refine z_get (v := .ref (E.2.1 57)) (T := TX2) (N := 5) (ci := 1) C (by decide) wc_mi rfl in_X2 1 (by decide) t_168 rfl dX2_costOfNext_34 ?_
          refine z_aload_n C dX2_costOfNext_37 1 rfl ?_
          refine z_get (v := .ref (E.2.1 54)) (T := TX2) (N := 5) (ci := 1) C (by decide) wc_mi rfl in_X2 0 (by decide) t_167 rfl dX2_costOfNext_38 ?_
          obtain ⟨r6, h7, hf⟩ := bd_some hf
          refine z_callV (Y2 := YX5_takeFrom) (CC := RX5) (T := TX5) (N := 3) (ci := 4) (As := [.ref (E.2.1 54)]) C lk_X5_takeFrom (lt_pe pe_57) (wc_pe pe_57) rfl t_617 t_287 t_288 (Nat.le_of_ble_eq_true rfl) (Nat.le_of_ble_eq_true rfl) dX2_costOfNext_41 (Nat.le_of_ble_eq_true rfl) rfl rfl (m_X5_takeFrom X.2.1 E N 57 54 pe_57 pe_54 r3.2 _ h7) ?_
          change Zz E X YX2_costOfNext (some (.int R.1), R.2) r6 _ _ []
          refine z_aload_n C dX2_costOfNext_44 2 rfl ?_
          refine z_aload_n C dX2_costOfNext_45 1 rfl ?_
          refine z_get (v := .ref (E.2.1 57)) (T := TX2) (N := 5) (ci := 1) C (by decide) wc_mi rfl in_X2 1 (by decide) t_168 rfl dX2_costOfNext_46 ?_
          refine z_gets2 C n_578 dX2_costOfNext_49 ?_
          refine z_iload C dX2_costOfNext_52 5 rfl ?_
          obtain ⟨h8, hf⟩ := ga_some hf
          refine z_ald2 C h8 dX2_costOfNext_54 ?_
          obtain ⟨r9, h10, hf⟩ := bd_some hf
          refine z_law_X0_deliver (As := [.ref (E.2.1 57), .int (twoL.getD (Int32.toNatClampNeg a5) 0)]) C hp1 t_622 (Nat.le_of_ble_eq_true rfl) (Nat.le_of_ble_eq_true rfl) dX2_costOfNext_55 (Nat.le_of_ble_eq_true rfl) rfl rfl (m_X0_deliver X.2.1 E N p1 57 hp1 pe_57 (twoL.getD (Int32.toNatClampNeg a5) 0) r6 _ h10) ?_
          change Zz E X YX2_costOfNext (some (.int R.1), R.2) r9.2 _ _ [.int r9.1]
          refine z_istore (lv' := [(7, .int r9.1), (6, .int r3.1), (0, .ref (E.2.1 53)), (1, .ref (E.2.1 p1)), (2, .int a2), (4, .int a4), (5, .int a5)]) C dX2_costOfNext_58 (by decide) rfl ?_
          refine z_iload C dX2_costOfNext_60 0 rfl ?_
          refine z_bipush (v := (-9)) C dX2_costOfNext_62 (by decide) ?_
          refine z_icmp_eq (tgt := 84) C dX2_costOfNext_64 (by decide) (fun h11 => ?_) (fun h11 => ?_)
          · replace hf := ifp hf h11
            refine z_iinc (v := (a5 + 1)) (lv' := [(5, .int (a5 + 1)), (7, .int r9.1), (6, .int r3.1), (0, .ref (E.2.1 53)), (1, .ref (E.2.1 p1)), (2, .int a2), (4, .int a4)]) C dX2_costOfNext_84 6 rfl rfl (by decide) rfl ?_
            refine z_goto (tgt := 6) C dX2_costOfNext_87 (by decide) ?_
            refine z_sub [(0, .ref (E.2.1 53)), (1, .ref (E.2.1 p1)), (2, .int a2), (4, .int a4), (5, .int (a5 + 1))] [3, 4, 5, 6, 0] rfl ?_
            exact ih a2 a4 (a5 + 1) r9.2 _ hf hx6
          · replace hf := ifn hf h11
            refine z_aload_n C dX2_costOfNext_67 2 rfl ?_
            refine z_aload_n C dX2_costOfNext_68 2 rfl ?_
            refine z_get (v := .ref (E.2.1 57)) (T := TX2) (N := 5) (ci := 1) C (by decide) wc_mi rfl in_X2 1 (by decide) t_168 rfl dX2_costOfNext_69 ?_
            refine z_aload_n C dX2_costOfNext_72 3 rfl ?_
            refine z_iload_n C dX2_costOfNext_73 4 rfl ?_
            obtain ⟨r12, h13, hf⟩ := bd_some hf
            refine z_callV (Y2 := YX2_isReached) (CC := RX2) (T := TX2) (N := 5) (ci := 1) (As := [.ref (E.2.1 57), .ref (E.2.1 p1), .int a2]) C lk_X2_isReached (by decide) wc_mi rfl t_600 t_601 t_602 (Nat.le_of_ble_eq_true rfl) (Nat.le_of_ble_eq_true rfl) dX2_costOfNext_74 (Nat.le_of_ble_eq_true rfl) rfl rfl (m_X2_isReached X.2.1 E N 57 p1 pe_57 hp1 a2 r9.2 _ h13) ?_
            change Zz E X YX2_costOfNext (some (.int R.1), R.2) r12.2 _ _ [.int r12.1]
            refine z_if_eq (tgt := 84) C dX2_costOfNext_77 (by decide) (fun h14 => ?_) (fun h14 => ?_)
            · replace hf := ifp hf h14
              refine z_iinc (v := (a5 + 1)) (lv' := [(5, .int (a5 + 1)), (7, .int r9.1), (6, .int r3.1), (0, .ref (E.2.1 53)), (1, .ref (E.2.1 p1)), (2, .int a2), (4, .int a4)]) C dX2_costOfNext_84 6 rfl rfl (by decide) rfl ?_
              refine z_goto (tgt := 6) C dX2_costOfNext_87 (by decide) ?_
              refine z_sub [(0, .ref (E.2.1 53)), (1, .ref (E.2.1 p1)), (2, .int a2), (4, .int a4), (5, .int (a5 + 1))] [3, 4, 5, 6, 0] rfl ?_
              exact ih a2 a4 (a5 + 1) r12.2 _ hf hx6
            · replace hf := ifn hf h14
              refine z_iload C dX2_costOfNext_80 1 rfl ?_
              refine z_istore (lv' := [(4, .int r3.1), (7, .int r9.1), (6, .int r3.1), (0, .ref (E.2.1 53)), (1, .ref (E.2.1 p1)), (2, .int a2), (5, .int a5)]) C dX2_costOfNext_82 (by decide) rfl ?_
              refine z_iinc (v := (a5 + 1)) (lv' := [(5, .int (a5 + 1)), (4, .int r3.1), (7, .int r9.1), (6, .int r3.1), (0, .ref (E.2.1 53)), (1, .ref (E.2.1 p1)), (2, .int a2)]) C dX2_costOfNext_84 6 rfl rfl (by decide) rfl ?_
              refine z_goto (tgt := 6) C dX2_costOfNext_87 (by decide) ?_
              refine z_sub [(0, .ref (E.2.1 53)), (1, .ref (E.2.1 p1)), (2, .int a2), (4, .int r3.1), (5, .int (a5 + 1))] [4, 5, 6, 1, 0] rfl ?_
              exact ih a2 r3.1 (a5 + 1) r12.2 _ hf hx6
  unfold f_X2_costOfNext at hf
  refine z_iload_n C dX2_costOfNext_0 3 rfl ?_
  refine z_istore (lv' := [(4, .int x3), (0, .ref (E.2.1 53)), (1, .ref (E.2.1 p1)), (2, .int x2), (3, .int x3)]) C dX2_costOfNext_1 (by decide) rfl ?_
  refine z_iconst (v := 0) C dX2_costOfNext_3 (by decide) ?_
  refine z_istore (lv' := [(5, .int 0), (4, .int x3), (0, .ref (E.2.1 53)), (1, .ref (E.2.1 p1)), (2, .int x2), (3, .int x3)]) C dX2_costOfNext_4 (by decide) rfl ?_
  refine z_sub [(0, .ref (E.2.1 53)), (1, .ref (E.2.1 p1)), (2, .int x2), (4, .int x3), (5, .int 0)] [2, 3, 4, 1, 0] rfl ?_
  obtain ⟨s15, h16, hf⟩ := bd_some hf
  refine hL6 N x2 x3 0 σ _ h16 ?_
  refine z_iload C dX2_costOfNext_90 0 rfl ?_
  exact z_iret C dX2_costOfNext_92 rfl (by rw [← Option.some.inj hf])
theorem lk_X2_costOfNext {Y : Yv} : Lk Y YX2_costOfNext 3 := ⟨t_621, t_6, ⟨by decide +kernel, by decide +kernel⟩, by decide +kernel⟩
abbrev YX2_costOfOneBefore : Yv := (yX2_costOfOneBefore, cX2_costOfOneBefore, 4, some .int, 5, 130)
def f_X2_costOfOneBefore (N : Nat) (p1 : Nat) (p2 : Nat) (x3 : Int32) (σ : Sg) : Option (Int32 × Sg) :=
  (f_X5_takeFrom N 54 p1 σ).bind (fun r1 => (f_X2_costOfNext N p2 x3 100 r1).bind (fun r3 => some (r3.1, r3.2)))
set_option maxHeartbeats 4000000 in
set_option maxRecDepth 20000 in
theorem m_X2_costOfOneBefore (l : Launch) (E : Ev) (N : Nat) (p1 : Nat) (p2 : Nat) (hp1 : isPe p1) (hp2 : isLa p2) (x3 : Int32) (σ : Sg) (R : Int32 × Sg) (hf : f_X2_costOfOneBefore N p1 p2 x3 σ = some R) : Ct l E YX2_costOfOneBefore [.ref (E.2.1 53), .ref (E.2.1 p1), .ref (E.2.1 p2), .int x3] σ (some (.int R.1), R.2) := by
  refine ct_of (by decide +kernel) (Nat.le_of_ble_eq_true rfl) [(0, .ref (E.2.1 53)), (1, .ref (E.2.1 p1)), (2, .ref (E.2.1 p2)), (3, .int x3)] rfl (fun X hX C => ?_)
  unfold f_X2_costOfOneBefore at hf
  refine z_aload_n C dX2_costOfOneBefore_0 0 rfl ?_
  refine z_get (v := .ref (E.2.1 54)) (T := TX2) (N := 5) (ci := 1) C (by decide) wc_mi rfl in_X2 0 (by decide) t_167 rfl dX2_costOfOneBefore_1 ?_
  refine z_aload_n C dX2_costOfOneBefore_4 1 rfl ?_
  obtain ⟨r1, h2, hf⟩ := bd_some hf
  refine z_callV (Y2 := YX5_takeFrom) (CC := RX5) (T := TX5) (N := 3) (ci := 4) (As := [.ref (E.2.1 p1)]) C lk_X5_takeFrom (lt_pe pe_54) (wc_pe pe_54) rfl t_617 t_287 t_288 (Nat.le_of_ble_eq_true rfl) (Nat.le_of_ble_eq_true rfl) dX2_costOfOneBefore_5 (Nat.le_of_ble_eq_true rfl) rfl rfl (m_X5_takeFrom X.2.1 E N 54 p1 pe_54 hp1 σ _ h2) ?_
  change Zz E X YX2_costOfOneBefore (some (.int R.1), R.2) r1 _ _ []
  refine z_aload_n C dX2_costOfOneBefore_8 0 rfl ?_
  refine z_aload_n C dX2_costOfOneBefore_9 2 rfl ?_
  refine z_iload_n C dX2_costOfOneBefore_10 3 rfl ?_
  refine z_bipush (v := 100) C dX2_costOfOneBefore_11 (by decide) ?_
  obtain ⟨r3, h4, hf⟩ := bd_some hf
  refine z_callV (Y2 := YX2_costOfNext) (CC := RX2) (T := TX2) (N := 5) (ci := 1) (As := [.ref (E.2.1 p2), .int x3, .int 100]) C lk_X2_costOfNext (by decide) wc_mi rfl t_618 t_620 p_17 (Nat.le_of_ble_eq_true rfl) (Nat.le_of_ble_eq_true rfl) dX2_costOfOneBefore_13 (Nat.le_of_ble_eq_true rfl) rfl rfl (m_X2_costOfNext X.2.1 E N p2 hp2 x3 100 r1 _ h4) ?_
  change Zz E X YX2_costOfOneBefore (some (.int R.1), R.2) r3.2 _ _ [.int r3.1]
  exact z_iret C dX2_costOfOneBefore_16 rfl (by rw [← Option.some.inj hf])
theorem lk_X2_costOfOneBefore {Y : Yv} : Lk Y YX2_costOfOneBefore 3 := ⟨t_616, t_6, ⟨by decide +kernel, by decide +kernel⟩, by decide +kernel⟩
abbrev YX2_costOfTwoBefore : Yv := (yX2_costOfTwoBefore, cX2_costOfTwoBefore, 7, some .int, 5, 130)
def f_X2_costOfTwoBefore_B7 (N : Nat) (p1 : Nat) (p2 : Nat) (rec : Int32 → Int32 → Int32 → Sg → Option (Int32 × Sg)) (a3 a4 a5 : Int32) (σ : Sg) : Option (Int32 × Sg) :=
  if 81 ≤ a5 then (some (a4, σ)) else (ga a5 81 ((f_X11_costOf N (twoL.getD (Int32.toNatClampNeg a5) 0) σ).bind (fun r3 => (f_X5_takeFrom N 54 p1 r3.2).bind (fun r5 => if a4 ≤ r3.1 then (rec a3 a4 (a5 + 1) r5) else (ga a5 81 ((f_X0_deliver N p2 54 (twoL.getD (Int32.toNatClampNeg a5) 0) r5).bind (fun r9 => if r9.1 = (-9) then (rec a3 a4 (a5 + 1) r9.2) else ((f_X2_costOfNext N p2 a3 (a4 - r3.1) r9.2).bind (fun r12 => nm (if (r3.1 + r12.1) < a4 then (r3.1 + r12.1) else a4) (fun v14 => rec a3 v14 (a5 + 1) r12.2))))))))))
def f_X2_costOfTwoBefore_L7 (N : Nat) (p1 : Nat) (p2 : Nat) : Nat → Int32 → Int32 → Int32 → Sg → Option (Int32 × Sg)
  | 0 => fun _ _ _ _ => none
  | k + 1 => fun a3 a4 a5 σ => f_X2_costOfTwoBefore_B7 N p1 p2 (f_X2_costOfTwoBefore_L7 N p1 p2 k) a3 a4 a5 σ
def f_X2_costOfTwoBefore (N : Nat) (p1 : Nat) (p2 : Nat) (x3 : Int32) (σ : Sg) : Option (Int32 × Sg) :=
  (f_X2_costOfTwoBefore_L7 N p1 p2 N x3 100 0 σ).bind (fun s16 => some (s16.1, s16.2))
set_option maxHeartbeats 4000000 in
set_option maxRecDepth 20000 in
theorem m_X2_costOfTwoBefore (l : Launch) (E : Ev) (N : Nat) (p1 : Nat) (p2 : Nat) (hp1 : isPe p1) (hp2 : isLa p2) (x3 : Int32) (σ : Sg) (R : Int32 × Sg) (hf : f_X2_costOfTwoBefore N p1 p2 x3 σ = some R) : Ct l E YX2_costOfTwoBefore [.ref (E.2.1 53), .ref (E.2.1 p1), .ref (E.2.1 p2), .int x3] σ (some (.int R.1), R.2) := by
  refine ct_of (by decide +kernel) (Nat.le_of_ble_eq_true rfl) [(0, .ref (E.2.1 53)), (1, .ref (E.2.1 p1)), (2, .ref (E.2.1 p2)), (3, .int x3)] rfl (fun X hX C => ?_)
  have hL7 : ∀ (k : Nat) (a3 a4 a5 : Int32) (σ : Sg) (Q7 : Int32 × Sg), f_X2_costOfTwoBefore_L7 N p1 p2 k a3 a4 a5 σ = some Q7 → (Zz E X YX2_costOfTwoBefore (some (.int R.1), R.2) Q7.2 88 [(4, .int Q7.1)] []) → Zz E X YX2_costOfTwoBefore (some (.int R.1), R.2) σ 7 [(0, .ref (E.2.1 53)), (1, .ref (E.2.1 p1)), (2, .ref (E.2.1 p2)), (3, .int a3), (4, .int a4), (5, .int a5)] [] := by
    intro k
    induction k with
    | zero =>
      intro a3 a4 a5 σ Q7 hf
      have hf : (none : Option (Int32 × Sg)) = some Q7 := hf
      cases hf
    | succ k ih =>
      intro a3 a4 a5 σ Q7 hf hx7
      have hf : f_X2_costOfTwoBefore_B7 N p1 p2 (f_X2_costOfTwoBefore_L7 N p1 p2 k) a3 a4 a5 σ = some Q7 := hf
      unfold f_X2_costOfTwoBefore_B7 at hf
      refine z_iload C dX2_costOfTwoBefore_7 5 rfl ?_
      refine z_gets2 C n_578 dX2_costOfTwoBefore_9 ?_
      refine z_alen2 C dX2_costOfTwoBefore_12 ?_
      refine z_icmp_ge (tgt := 88) C dX2_costOfTwoBefore_13 (by decide) (fun h1 => ?_) (fun h1 => ?_)
      · replace hf := ifp hf h1
        refine z_sub [(4, .int a4)] [4] rfl ?_
        obtain rfl := Option.some.inj hf
        exact hx7
      · replace hf := ifn hf h1
        refine z_gets2 C n_578 dX2_costOfTwoBefore_16 ?_
        refine z_iload C dX2_costOfTwoBefore_19 5 rfl ?_
        obtain ⟨h2, hf⟩ := ga_some hf
        refine z_ald2 C h2 dX2_costOfTwoBefore_21 ?_
        obtain ⟨r3, h4, hf⟩ := bd_some hf
        refine z_callSN (Y2 := YX11_costOf) (As := [.int (twoL.getD (Int32.toNatClampNeg a5) 0)]) C lk_X11_costOf n_580 t_581 (Nat.le_of_ble_eq_true rfl) (Nat.le_of_ble_eq_true rfl) dX2_costOfTwoBefore_22 (Nat.le_of_ble_eq_true rfl) rfl rfl (m_X11_costOf X.2.1 E N (twoL.getD (Int32.toNatClampNeg a5) 0) σ _ h4) ?_
        change Zz E X YX2_costOfTwoBefore (some (.int R.1), R.2) r3.2 _ _ [.int r3.1]
        refine z_istore (lv' := [(6, .int r3.1), (0, .ref (E.2.1 53)), (1, .ref (E.2.1 p1)), (2, .ref (E.2.1 p2)), (3, .int a3), (4, .int a4), (5, .int a5)]) C dX2_costOfTwoBefore_25 (by decide) rfl ?_
        refine z_aload_n C dX2_costOfTwoBefore_27 1 rfl ?_
        refine z_get (v := .ref (E.2.1 54)) (T := TX2) (N := 5) (ci := 1) C (by decide) wc_mi rfl in_X2 0 (by decide) t_167 rfl dX2_costOfTwoBefore_28 ?_
        refine z_aload_n C dX2_costOfTwoBefore_31 2 rfl ?_
        obtain ⟨r5, h6, hf⟩ := bd_some hf
        refine z_callV (Y2 := YX5_takeFrom) (CC := RX5) (T := TX5) (N := 3) (ci := 4) (As := [.ref (E.2.1 p1)]) C lk_X5_takeFrom (lt_pe pe_54) (wc_pe pe_54) rfl t_617 t_287 t_288 (Nat.le_of_ble_eq_true rfl) (Nat.le_of_ble_eq_true rfl) dX2_costOfTwoBefore_32 (Nat.le_of_ble_eq_true rfl) rfl rfl (m_X5_takeFrom X.2.1 E N 54 p1 pe_54 hp1 r3.2 _ h6) ?_
        change Zz E X YX2_costOfTwoBefore (some (.int R.1), R.2) r5 _ _ []
        refine z_iload C dX2_costOfTwoBefore_35 0 rfl ?_
        refine z_iload C dX2_costOfTwoBefore_37 5 rfl ?_
        refine z_icmp_ge (tgt := 82) C dX2_costOfTwoBefore_39 (by decide) (fun h7 => ?_) (fun h7 => ?_)
        · replace hf := ifp hf h7
          refine z_iinc (v := (a5 + 1)) (lv' := [(5, .int (a5 + 1)), (6, .int r3.1), (0, .ref (E.2.1 53)), (1, .ref (E.2.1 p1)), (2, .ref (E.2.1 p2)), (3, .int a3), (4, .int a4)]) C dX2_costOfTwoBefore_82 6 rfl rfl (by decide) rfl ?_
          refine z_goto (tgt := 7) C dX2_costOfTwoBefore_85 (by decide) ?_
          refine z_sub [(0, .ref (E.2.1 53)), (1, .ref (E.2.1 p1)), (2, .ref (E.2.1 p2)), (3, .int a3), (4, .int a4), (5, .int (a5 + 1))] [2, 3, 4, 5, 6, 0] rfl ?_
          exact ih a3 a4 (a5 + 1) r5 _ hf hx7
        · replace hf := ifn hf h7
          refine z_aload_n C dX2_costOfTwoBefore_42 3 rfl ?_
          refine z_aload_n C dX2_costOfTwoBefore_43 1 rfl ?_
          refine z_get (v := .ref (E.2.1 54)) (T := TX2) (N := 5) (ci := 1) C (by decide) wc_mi rfl in_X2 0 (by decide) t_167 rfl dX2_costOfTwoBefore_44 ?_
          refine z_gets2 C n_578 dX2_costOfTwoBefore_47 ?_
          refine z_iload C dX2_costOfTwoBefore_50 6 rfl ?_
          obtain ⟨h8, hf⟩ := ga_some hf
          refine z_ald2 C h8 dX2_costOfTwoBefore_52 ?_
          obtain ⟨r9, h10, hf⟩ := bd_some hf
          refine z_law_X0_deliver (As := [.ref (E.2.1 54), .int (twoL.getD (Int32.toNatClampNeg a5) 0)]) C hp2 t_622 (Nat.le_of_ble_eq_true rfl) (Nat.le_of_ble_eq_true rfl) dX2_costOfTwoBefore_53 (Nat.le_of_ble_eq_true rfl) rfl rfl (m_X0_deliver X.2.1 E N p2 54 hp2 pe_54 (twoL.getD (Int32.toNatClampNeg a5) 0) r5 _ h10) ?_
          change Zz E X YX2_costOfTwoBefore (some (.int R.1), R.2) r9.2 _ _ [.int r9.1]
          refine z_bipush (v := (-9)) C dX2_costOfTwoBefore_56 (by decide) ?_
          refine z_icmp_eq (tgt := 82) C dX2_costOfTwoBefore_58 (by decide) (fun h11 => ?_) (fun h11 => ?_)
          · replace hf := ifp hf h11
            refine z_iinc (v := (a5 + 1)) (lv' := [(5, .int (a5 + 1)), (6, .int r3.1), (0, .ref (E.2.1 53)), (1, .ref (E.2.1 p1)), (2, .ref (E.2.1 p2)), (3, .int a3), (4, .int a4)]) C dX2_costOfTwoBefore_82 6 rfl rfl (by decide) rfl ?_
            refine z_goto (tgt := 7) C dX2_costOfTwoBefore_85 (by decide) ?_
            refine z_sub [(0, .ref (E.2.1 53)), (1, .ref (E.2.1 p1)), (2, .ref (E.2.1 p2)), (3, .int a3), (4, .int a4), (5, .int (a5 + 1))] [2, 3, 4, 5, 6, 0] rfl ?_
            exact ih a3 a4 (a5 + 1) r9.2 _ hf hx7
          · replace hf := ifn hf h11
            refine z_iload C dX2_costOfTwoBefore_61 5 rfl ?_
            refine z_iload C dX2_costOfTwoBefore_63 0 rfl ?_
            refine z_aload_n C dX2_costOfTwoBefore_65 1 rfl ?_
            refine z_aload_n C dX2_costOfTwoBefore_66 3 rfl ?_
            refine z_iload_n C dX2_costOfTwoBefore_67 4 rfl ?_
            refine z_iload C dX2_costOfTwoBefore_68 5 rfl ?_
            refine z_iload C dX2_costOfTwoBefore_70 0 rfl ?_
            refine z_isub C dX2_costOfTwoBefore_72 ?_
            obtain ⟨r12, h13, hf⟩ := bd_some hf
            refine z_callV (Y2 := YX2_costOfNext) (CC := RX2) (T := TX2) (N := 5) (ci := 1) (As := [.ref (E.2.1 p2), .int a3, .int (a4 - r3.1)]) C lk_X2_costOfNext (by decide) wc_mi rfl t_618 t_620 p_17 (Nat.le_of_ble_eq_true rfl) (Nat.le_of_ble_eq_true rfl) dX2_costOfTwoBefore_73 (Nat.le_of_ble_eq_true rfl) rfl rfl (m_X2_costOfNext X.2.1 E N p2 hp2 a3 (a4 - r3.1) r9.2 _ h13) ?_
            change Zz E X YX2_costOfTwoBefore (some (.int R.1), R.2) r12.2 _ _ [.int r12.1, .int r3.1, .int a4]
            refine z_iadd C dX2_costOfTwoBefore_76 ?_
            refine z_mmin C t_627 t_413 t_19 t_414 (Nat.le_of_ble_eq_true rfl) (Nat.le_of_ble_eq_true rfl) dX2_costOfTwoBefore_77 ?_
            obtain ⟨v14, h15, hf⟩ := nm_some hf
            rw [← h15]
            refine z_istore (lv' := [(4, .int v14), (6, .int r3.1), (0, .ref (E.2.1 53)), (1, .ref (E.2.1 p1)), (2, .ref (E.2.1 p2)), (3, .int a3), (5, .int a5)]) C dX2_costOfTwoBefore_80 (by decide) rfl ?_
            refine z_iinc (v := (a5 + 1)) (lv' := [(5, .int (a5 + 1)), (4, .int v14), (6, .int r3.1), (0, .ref (E.2.1 53)), (1, .ref (E.2.1 p1)), (2, .ref (E.2.1 p2)), (3, .int a3)]) C dX2_costOfTwoBefore_82 6 rfl rfl (by decide) rfl ?_
            refine z_goto (tgt := 7) C dX2_costOfTwoBefore_85 (by decide) ?_
            refine z_sub [(0, .ref (E.2.1 53)), (1, .ref (E.2.1 p1)), (2, .ref (E.2.1 p2)), (3, .int a3), (4, .int v14), (5, .int (a5 + 1))] [3, 4, 5, 6, 1, 0] rfl ?_
            exact ih a3 v14 (a5 + 1) r12.2 _ hf hx7
  unfold f_X2_costOfTwoBefore at hf
  refine z_bipush (v := 100) C dX2_costOfTwoBefore_0 (by decide) ?_
  refine z_istore (lv' := [(4, .int 100), (0, .ref (E.2.1 53)), (1, .ref (E.2.1 p1)), (2, .ref (E.2.1 p2)), (3, .int x3)]) C dX2_costOfTwoBefore_2 (by decide) rfl ?_
  refine z_iconst (v := 0) C dX2_costOfTwoBefore_4 (by decide) ?_
  refine z_istore (lv' := [(5, .int 0), (4, .int 100), (0, .ref (E.2.1 53)), (1, .ref (E.2.1 p1)), (2, .ref (E.2.1 p2)), (3, .int x3)]) C dX2_costOfTwoBefore_5 (by decide) rfl ?_
  refine z_sub [(0, .ref (E.2.1 53)), (1, .ref (E.2.1 p1)), (2, .ref (E.2.1 p2)), (3, .int x3), (4, .int 100), (5, .int 0)] [2, 3, 4, 5, 1, 0] rfl ?_
  obtain ⟨s16, h17, hf⟩ := bd_some hf
  refine hL7 N x3 100 0 σ _ h17 ?_
  refine z_iload C dX2_costOfTwoBefore_88 0 rfl ?_
  exact z_iret C dX2_costOfTwoBefore_90 rfl (by rw [← Option.some.inj hf])
theorem lk_X2_costOfTwoBefore {Y : Yv} : Lk Y YX2_costOfTwoBefore 3 := ⟨t_626, t_6, ⟨by decide +kernel, by decide +kernel⟩, by decide +kernel⟩
abbrev YX2_takeLine : Yv := (yX2_takeLine, cX2_takeLine, 8, some .boolean, 1, 21)
def f_X2_takeLine_B16 (N : Nat) (rec : Int32 → Int32 → Int32 → Int32 → Int32 → Sg → Option ((Sg) ⊕ (Int32 × Sg))) (a1 a3 a4 a5 a6 : Int32) (σ : Sg) : Option ((Sg) ⊕ (Int32 × Sg)) :=
  if a1 ≤ a6 then (some (.inl σ)) else (if (jrem a4 10) < 0 then (some (.inr (0, σ))) else (if a3 ≤ (jrem a4 10) then (some (.inr (0, σ))) else (if ((a5 >>> ((jrem a4 10) &&& 31)) &&& 1) = 1 then (some (.inr (0, σ))) else (nm (a5 ||| ((1 : Int32) <<< ((jrem a4 10) &&& 31))) (fun v7 => (f_X4_add N 60 (jrem a4 10) σ).bind (fun r9 => rec a1 a3 (a4 / 10) v7 (a6 + 1) r9))))))
def f_X2_takeLine_L16 (N : Nat) : Nat → Int32 → Int32 → Int32 → Int32 → Int32 → Sg → Option ((Sg) ⊕ (Int32 × Sg))
  | 0 => fun _ _ _ _ _ _ => none
  | k + 1 => fun a1 a3 a4 a5 a6 σ => f_X2_takeLine_B16 N (f_X2_takeLine_L16 N k) a1 a3 a4 a5 a6 σ
def f_X2_takeLine (N : Nat) (x1 x2 x3 : Int32) (σ : Sg) : Option (Int32 × Sg) :=
  (f_X4_clear N 60 σ).bind (fun r1 => ex1 (f_X2_takeLine_L16 N N x1 x3 x2 0 0 r1) (fun s11 => some (1, s11)) (fun r12 => some r12))
set_option maxHeartbeats 4000000 in
set_option maxRecDepth 20000 in
theorem m_X2_takeLine (l : Launch) (E : Ev) (N : Nat) (x1 x2 x3 : Int32) (σ : Sg) (R : Int32 × Sg) (hf : f_X2_takeLine N x1 x2 x3 σ = some R) : Ct l E YX2_takeLine [.ref (E.2.1 53), .int x1, .int x2, .int x3] σ (some (.int R.1), R.2) := by
  refine ct_of (by decide +kernel) (Nat.le_of_ble_eq_true rfl) [(0, .ref (E.2.1 53)), (1, .int x1), (2, .int x2), (3, .int x3)] rfl (fun X hX C => ?_)
  have hL16 : ∀ (k : Nat) (a1 a3 a4 a5 a6 : Int32) (σ : Sg) (Q16 : (Sg) ⊕ (Int32 × Sg)), f_X2_takeLine_L16 N k a1 a3 a4 a5 a6 σ = some Q16 → (∀ S, Q16 = .inl S → Zz E X YX2_takeLine (some (.int R.1), R.2) S 84 [] []) → (∀ r, Q16 = .inr r → ((some (.int R.1), R.2) : Pv) = (some (.int r.1), r.2)) → Zz E X YX2_takeLine (some (.int R.1), R.2) σ 16 [(0, .ref (E.2.1 53)), (1, .int a1), (3, .int a3), (4, .int a4), (5, .int a5), (6, .int a6)] [] := by
    intro k
    induction k with
    | zero =>
      intro a1 a3 a4 a5 a6 σ Q16 hf
      have hf : (none : Option ((Sg) ⊕ (Int32 × Sg))) = some Q16 := hf
      cases hf
    | succ k ih =>
      intro a1 a3 a4 a5 a6 σ Q16 hf hx16 hr16
      have hf : f_X2_takeLine_B16 N (f_X2_takeLine_L16 N k) a1 a3 a4 a5 a6 σ = some Q16 := hf
      unfold f_X2_takeLine_B16 at hf
      refine z_iload C dX2_takeLine_16 5 rfl ?_
      refine z_iload_n C dX2_takeLine_18 1 rfl ?_
      refine z_icmp_ge (tgt := 84) C dX2_takeLine_19 (by decide) (fun h3 => ?_) (fun h3 => ?_)
      · replace hf := ifp hf h3
        refine z_sub [] [] rfl ?_
        exact hx16 _ (Option.some.inj hf).symm
      · replace hf := ifn hf h3
        refine z_iload C dX2_takeLine_22 3 rfl ?_
        refine z_bipush (v := 10) C dX2_takeLine_24 (by decide) ?_
        refine z_irem C dX2_takeLine_26 (by decide) ?_
        refine z_istore (lv' := [(7, .int (jrem a4 10)), (0, .ref (E.2.1 53)), (1, .int a1), (3, .int a3), (4, .int a4), (5, .int a5), (6, .int a6)]) C dX2_takeLine_27 (by decide) rfl ?_
        refine z_iload C dX2_takeLine_29 0 rfl ?_
        refine z_if_lt (tgt := 51) C dX2_takeLine_31 (by decide) (fun h4 => ?_) (fun h4 => ?_)
        · replace hf := ifp hf h4
          refine z_iconst (v := 0) C dX2_takeLine_51 (by decide) ?_
          have hq := hr16 _ (Option.some.inj hf).symm
          exact z_zret C dX2_takeLine_52 rfl rfl hq
        · replace hf := ifn hf h4
          refine z_iload C dX2_takeLine_34 0 rfl ?_
          refine z_iload_n C dX2_takeLine_36 3 rfl ?_
          refine z_icmp_ge (tgt := 51) C dX2_takeLine_37 (by decide) (fun h5 => ?_) (fun h5 => ?_)
          · replace hf := ifp hf h5
            refine z_iconst (v := 0) C dX2_takeLine_51 (by decide) ?_
            have hq := hr16 _ (Option.some.inj hf).symm
            exact z_zret C dX2_takeLine_52 rfl rfl hq
          · replace hf := ifn hf h5
            refine z_iload C dX2_takeLine_40 5 rfl ?_
            refine z_iload C dX2_takeLine_42 0 rfl ?_
            refine z_ishr C dX2_takeLine_44 ?_
            refine z_iconst (v := 1) C dX2_takeLine_45 (by decide) ?_
            refine z_iand C dX2_takeLine_46 ?_
            refine z_iconst (v := 1) C dX2_takeLine_47 (by decide) ?_
            refine z_icmp_ne (tgt := 53) C dX2_takeLine_48 (by decide) (fun h6 => ?_) (fun h6 => ?_)
            · replace hf := ifn hf h6
              refine z_iload C dX2_takeLine_53 5 rfl ?_
              refine z_iconst (v := 1) C dX2_takeLine_55 (by decide) ?_
              refine z_iload C dX2_takeLine_56 0 rfl ?_
              refine z_ishl C dX2_takeLine_58 ?_
              refine z_ior C dX2_takeLine_59 ?_
              obtain ⟨v7, h8, hf⟩ := nm_some hf
              rw [← h8]
              refine z_istore (lv' := [(5, .int v7), (7, .int (jrem a4 10)), (0, .ref (E.2.1 53)), (1, .int a1), (3, .int a3), (4, .int a4), (6, .int a6)]) C dX2_takeLine_60 (by decide) rfl ?_
              refine z_aload_n C dX2_takeLine_62 2 rfl ?_
              refine z_get (v := .ref (E.2.1 60)) (T := TX2) (N := 5) (ci := 1) C (by decide) wc_mi rfl in_X2 2 (by decide) t_169 rfl dX2_takeLine_63 ?_
              refine z_iload C dX2_takeLine_66 1 rfl ?_
              obtain ⟨r9, h10, hf⟩ := bd_some hf
              refine z_callV (Y2 := YX4_add) (CC := RX4) (T := TX4) (N := 2) (ci := 3) (As := [.int (jrem a4 10)]) C lk_X4_add (lt_nu nu_60) (wc_nu nu_60) rfl t_645 t_271 t_272 (Nat.le_of_ble_eq_true rfl) (Nat.le_of_ble_eq_true rfl) dX2_takeLine_68 (Nat.le_of_ble_eq_true rfl) rfl rfl (m_X4_add X.2.1 E N 60 nu_60 (jrem a4 10) σ _ h10) ?_
              change Zz E X YX2_takeLine (some (.int R.1), R.2) r9 _ _ []
              refine z_iload C dX2_takeLine_71 5 rfl ?_
              refine z_bipush (v := 10) C dX2_takeLine_73 (by decide) ?_
              refine z_idiv C dX2_takeLine_75 (by decide) ?_
              refine z_istore (lv' := [(4, .int (a4 / 10)), (5, .int v7), (7, .int (jrem a4 10)), (0, .ref (E.2.1 53)), (1, .int a1), (3, .int a3), (6, .int a6)]) C dX2_takeLine_76 (by decide) rfl ?_
              refine z_iinc (v := (a6 + 1)) (lv' := [(6, .int (a6 + 1)), (4, .int (a4 / 10)), (5, .int v7), (7, .int (jrem a4 10)), (0, .ref (E.2.1 53)), (1, .int a1), (3, .int a3)]) C dX2_takeLine_78 6 rfl rfl (by decide) rfl ?_
              refine z_goto (tgt := 16) C dX2_takeLine_81 (by decide) ?_
              refine z_sub [(0, .ref (E.2.1 53)), (1, .int a1), (3, .int a3), (4, .int (a4 / 10)), (5, .int v7), (6, .int (a6 + 1))] [4, 5, 6, 1, 2, 0] rfl ?_
              exact ih a1 a3 (a4 / 10) v7 (a6 + 1) r9 _ hf hx16 hr16
            · replace hf := ifp hf h6
              refine z_iconst (v := 0) C dX2_takeLine_51 (by decide) ?_
              have hq := hr16 _ (Option.some.inj hf).symm
              exact z_zret C dX2_takeLine_52 rfl rfl hq
  unfold f_X2_takeLine at hf
  refine z_aload_n C dX2_takeLine_0 0 rfl ?_
  refine z_get (v := .ref (E.2.1 60)) (T := TX2) (N := 5) (ci := 1) C (by decide) wc_mi rfl in_X2 2 (by decide) t_169 rfl dX2_takeLine_1 ?_
  obtain ⟨r1, h2, hf⟩ := bd_some hf
  refine z_callV (Y2 := YX4_clear) (CC := RX4) (T := TX4) (N := 2) (ci := 3) (As := []) C lk_X4_clear (lt_nu nu_60) (wc_nu nu_60) rfl t_644 t_298 t_299 (Nat.le_of_ble_eq_true rfl) (Nat.le_of_ble_eq_true rfl) dX2_takeLine_4 (Nat.le_of_ble_eq_true rfl) rfl rfl (m_X4_clear X.2.1 E N 60 nu_60 σ _ h2) ?_
  change Zz E X YX2_takeLine (some (.int R.1), R.2) r1 _ _ []
  refine z_iload_n C dX2_takeLine_7 2 rfl ?_
  refine z_istore (lv' := [(4, .int x2), (0, .ref (E.2.1 53)), (1, .int x1), (2, .int x2), (3, .int x3)]) C dX2_takeLine_8 (by decide) rfl ?_
  refine z_iconst (v := 0) C dX2_takeLine_10 (by decide) ?_
  refine z_istore (lv' := [(5, .int 0), (4, .int x2), (0, .ref (E.2.1 53)), (1, .int x1), (2, .int x2), (3, .int x3)]) C dX2_takeLine_11 (by decide) rfl ?_
  refine z_iconst (v := 0) C dX2_takeLine_13 (by decide) ?_
  refine z_istore (lv' := [(6, .int 0), (5, .int 0), (4, .int x2), (0, .ref (E.2.1 53)), (1, .int x1), (2, .int x2), (3, .int x3)]) C dX2_takeLine_14 (by decide) rfl ?_
  refine z_sub [(0, .ref (E.2.1 53)), (1, .int x1), (3, .int x3), (4, .int x2), (5, .int 0), (6, .int 0)] [3, 4, 6, 2, 1, 0] rfl ?_
  rcases ex1_some hf with ⟨s11, h13, hf⟩ | ⟨r12, h13, hf⟩
  · refine hL16 N x1 x3 x2 0 0 r1 _ h13 (fun S e => ?_) (fun _ e => nomatch e)
    cases e
    refine z_iconst (v := 1) C dX2_takeLine_84 (by decide) ?_
    exact z_zret C dX2_takeLine_85 rfl rfl (by rw [← Option.some.inj hf])
  · refine hL16 N x1 x3 x2 0 0 r1 _ h13 (fun _ e => nomatch e) (fun r e => ?_)
    cases e
    exact (by rw [← Option.some.inj hf])
theorem lk_X2_takeLine {Y : Yv} : Lk Y YX2_takeLine 3 := ⟨t_643, t_6, ⟨by decide +kernel, by decide +kernel⟩, by decide +kernel⟩
abbrev YX2_lessByLine : Yv := (yX2_lessByLine, cX2_lessByLine, 5, some .int, 4, 102)
def f_X2_lessByLine_B11 (N : Nat) (p1 : Nat) (p2 : Nat) (p3 : Nat) (rec : Int32 → Sg → Option (Sg)) (a4 : Int32) (σ : Sg) : Option (Sg) :=
  if (σ 60 1) ≤ a4 then (some σ) else ((f_X4_get N 60 a4 σ).bind (fun r4 => (f_X4_get N p3 r4.1 r4.2).bind (fun r6 => (f_X0_deliver N p2 54 r6.1 r6.2).bind (fun r8 => rec (a4 + 1) r8.2))))
def f_X2_lessByLine_L11 (N : Nat) (p1 : Nat) (p2 : Nat) (p3 : Nat) : Nat → Int32 → Sg → Option (Sg)
  | 0 => fun _ _ => none
  | k + 1 => fun a4 σ => f_X2_lessByLine_B11 N p1 p2 p3 (f_X2_lessByLine_L11 N p1 p2 p3 k) a4 σ
def f_X2_lessByLine (N : Nat) (p1 : Nat) (p2 : Nat) (p3 : Nat) (σ : Sg) : Option (Int32 × Sg) :=
  (f_X5_takeFrom N 54 p1 σ).bind (fun r1 => (f_X2_lessByLine_L11 N p1 p2 p3 N 0 r1).bind (fun s10 => (f_X5_total N p1 s10).bind (fun r11 => (f_X5_total N 54 r11.2).bind (fun r13 => some ((r11.1 - r13.1), r13.2)))))
set_option maxHeartbeats 4000000 in
set_option maxRecDepth 20000 in
theorem m_X2_lessByLine (l : Launch) (E : Ev) (N : Nat) (p1 : Nat) (p2 : Nat) (p3 : Nat) (hp1 : isPe p1) (hp2 : isLa p2) (hp3 : isNu p3) (σ : Sg) (R : Int32 × Sg) (hf : f_X2_lessByLine N p1 p2 p3 σ = some R) : Ct l E YX2_lessByLine [.ref (E.2.1 53), .ref (E.2.1 p1), .ref (E.2.1 p2), .ref (E.2.1 p3)] σ (some (.int R.1), R.2) := by
  refine ct_of (by decide +kernel) (Nat.le_of_ble_eq_true rfl) [(0, .ref (E.2.1 53)), (1, .ref (E.2.1 p1)), (2, .ref (E.2.1 p2)), (3, .ref (E.2.1 p3))] rfl (fun X hX C => ?_)
  have hL11 : ∀ (k : Nat) (a4 : Int32) (σ : Sg) (Q11 : Sg), f_X2_lessByLine_L11 N p1 p2 p3 k a4 σ = some Q11 → (Zz E X YX2_lessByLine (some (.int R.1), R.2) Q11 51 [(0, .ref (E.2.1 53)), (1, .ref (E.2.1 p1))] []) → Zz E X YX2_lessByLine (some (.int R.1), R.2) σ 11 [(0, .ref (E.2.1 53)), (1, .ref (E.2.1 p1)), (2, .ref (E.2.1 p2)), (3, .ref (E.2.1 p3)), (4, .int a4)] [] := by
    intro k
    induction k with
    | zero =>
      intro a4 σ Q11 hf
      have hf : (none : Option (Sg)) = some Q11 := hf
      cases hf
    | succ k ih =>
      intro a4 σ Q11 hf hx11
      have hf : f_X2_lessByLine_B11 N p1 p2 p3 (f_X2_lessByLine_L11 N p1 p2 p3 k) a4 σ = some Q11 := hf
      unfold f_X2_lessByLine_B11 at hf
      refine z_iload C dX2_lessByLine_11 4 rfl ?_
      refine z_aload_n C dX2_lessByLine_13 0 rfl ?_
      refine z_get (v := .ref (E.2.1 60)) (T := TX2) (N := 5) (ci := 1) C (by decide) wc_mi rfl in_X2 2 (by decide) t_169 rfl dX2_lessByLine_14 ?_
      refine z_getN (v := .int (σ 60 1)) (T := TX4) (N := 2) (ci := 3) C (lt_nu nu_60) (wc_nu nu_60) rfl in_X4 1 (by decide) n_71 rfl dX2_lessByLine_17 ?_
      refine z_icmp_ge (tgt := 51) C dX2_lessByLine_20 (by decide) (fun h3 => ?_) (fun h3 => ?_)
      · replace hf := ifp hf h3
        refine z_sub [(0, .ref (E.2.1 53)), (1, .ref (E.2.1 p1))] [0, 1] rfl ?_
        obtain rfl := Option.some.inj hf
        exact hx11
      · replace hf := ifn hf h3
        refine z_aload_n C dX2_lessByLine_23 2 rfl ?_
        refine z_aload_n C dX2_lessByLine_24 0 rfl ?_
        refine z_get (v := .ref (E.2.1 54)) (T := TX2) (N := 5) (ci := 1) C (by decide) wc_mi rfl in_X2 0 (by decide) t_167 rfl dX2_lessByLine_25 ?_
        refine z_aload_n C dX2_lessByLine_28 3 rfl ?_
        refine z_aload_n C dX2_lessByLine_29 0 rfl ?_
        refine z_get (v := .ref (E.2.1 60)) (T := TX2) (N := 5) (ci := 1) C (by decide) wc_mi rfl in_X2 2 (by decide) t_169 rfl dX2_lessByLine_30 ?_
        refine z_iload C dX2_lessByLine_33 4 rfl ?_
        obtain ⟨r4, h5, hf⟩ := bd_some hf
        refine z_callV (Y2 := YX4_get) (CC := RX4) (T := TX4) (N := 2) (ci := 3) (As := [.int a4]) C lk_X4_get (lt_nu nu_60) (wc_nu nu_60) rfl t_650 t_302 t_303 (Nat.le_of_ble_eq_true rfl) (Nat.le_of_ble_eq_true rfl) dX2_lessByLine_35 (Nat.le_of_ble_eq_true rfl) rfl rfl (m_X4_get X.2.1 E N 60 nu_60 a4 σ _ h5) ?_
        change Zz E X YX2_lessByLine (some (.int R.1), R.2) r4.2 _ _ [.int r4.1, .ref (E.2.1 p3), .ref (E.2.1 54), .ref (E.2.1 p2)]
        obtain ⟨r6, h7, hf⟩ := bd_some hf
        refine z_callV (Y2 := YX4_get) (CC := RX4) (T := TX4) (N := 2) (ci := 3) (As := [.int r4.1]) C lk_X4_get (lt_nu hp3) (wc_nu hp3) rfl t_650 t_302 t_303 (Nat.le_of_ble_eq_true rfl) (Nat.le_of_ble_eq_true rfl) dX2_lessByLine_38 (Nat.le_of_ble_eq_true rfl) rfl rfl (m_X4_get X.2.1 E N p3 hp3 r4.1 r4.2 _ h7) ?_
        change Zz E X YX2_lessByLine (some (.int R.1), R.2) r6.2 _ _ [.int r6.1, .ref (E.2.1 54), .ref (E.2.1 p2)]
        obtain ⟨r8, h9, hf⟩ := bd_some hf
        refine z_law_X0_deliver (As := [.ref (E.2.1 54), .int r6.1]) C hp2 t_622 (Nat.le_of_ble_eq_true rfl) (Nat.le_of_ble_eq_true rfl) dX2_lessByLine_41 (Nat.le_of_ble_eq_true rfl) rfl rfl (m_X0_deliver X.2.1 E N p2 54 hp2 pe_54 r6.1 r6.2 _ h9) ?_
        change Zz E X YX2_lessByLine (some (.int R.1), R.2) r8.2 _ _ [.int r8.1]
        refine z_pop C dX2_lessByLine_44 rfl ?_
        refine z_iinc (v := (a4 + 1)) (lv' := [(4, .int (a4 + 1)), (0, .ref (E.2.1 53)), (1, .ref (E.2.1 p1)), (2, .ref (E.2.1 p2)), (3, .ref (E.2.1 p3))]) C dX2_lessByLine_45 4 rfl rfl (by decide) rfl ?_
        refine z_goto (tgt := 11) C dX2_lessByLine_48 (by decide) ?_
        refine z_sub [(0, .ref (E.2.1 53)), (1, .ref (E.2.1 p1)), (2, .ref (E.2.1 p2)), (3, .ref (E.2.1 p3)), (4, .int (a4 + 1))] [1, 2, 3, 4, 0] rfl ?_
        exact ih (a4 + 1) r8.2 _ hf hx11
  unfold f_X2_lessByLine at hf
  refine z_aload_n C dX2_lessByLine_0 0 rfl ?_
  refine z_get (v := .ref (E.2.1 54)) (T := TX2) (N := 5) (ci := 1) C (by decide) wc_mi rfl in_X2 0 (by decide) t_167 rfl dX2_lessByLine_1 ?_
  refine z_aload_n C dX2_lessByLine_4 1 rfl ?_
  obtain ⟨r1, h2, hf⟩ := bd_some hf
  refine z_callV (Y2 := YX5_takeFrom) (CC := RX5) (T := TX5) (N := 3) (ci := 4) (As := [.ref (E.2.1 p1)]) C lk_X5_takeFrom (lt_pe pe_54) (wc_pe pe_54) rfl t_617 t_287 t_288 (Nat.le_of_ble_eq_true rfl) (Nat.le_of_ble_eq_true rfl) dX2_lessByLine_5 (Nat.le_of_ble_eq_true rfl) rfl rfl (m_X5_takeFrom X.2.1 E N 54 p1 pe_54 hp1 σ _ h2) ?_
  change Zz E X YX2_lessByLine (some (.int R.1), R.2) r1 _ _ []
  refine z_iconst (v := 0) C dX2_lessByLine_8 (by decide) ?_
  refine z_istore (lv' := [(4, .int 0), (0, .ref (E.2.1 53)), (1, .ref (E.2.1 p1)), (2, .ref (E.2.1 p2)), (3, .ref (E.2.1 p3))]) C dX2_lessByLine_9 (by decide) rfl ?_
  refine z_sub [(0, .ref (E.2.1 53)), (1, .ref (E.2.1 p1)), (2, .ref (E.2.1 p2)), (3, .ref (E.2.1 p3)), (4, .int 0)] [1, 2, 3, 4, 0] rfl ?_
  obtain ⟨s10, h15, hf⟩ := bd_some hf
  refine hL11 N 0 r1 _ h15 ?_
  refine z_aload_n C dX2_lessByLine_51 1 rfl ?_
  obtain ⟨r11, h12, hf⟩ := bd_some hf
  refine z_callV (Y2 := YX5_total) (CC := RX5) (T := TX5) (N := 3) (ci := 4) (As := []) C lk_X5_total (lt_pe hp1) (wc_pe hp1) rfl t_651 t_563 t_564 (Nat.le_of_ble_eq_true rfl) (Nat.le_of_ble_eq_true rfl) dX2_lessByLine_52 (Nat.le_of_ble_eq_true rfl) rfl rfl (m_X5_total X.2.1 E N p1 hp1 s10 _ h12) ?_
  change Zz E X YX2_lessByLine (some (.int R.1), R.2) r11.2 _ _ [.int r11.1]
  refine z_aload_n C dX2_lessByLine_55 0 rfl ?_
  refine z_get (v := .ref (E.2.1 54)) (T := TX2) (N := 5) (ci := 1) C (by decide) wc_mi rfl in_X2 0 (by decide) t_167 rfl dX2_lessByLine_56 ?_
  obtain ⟨r13, h14, hf⟩ := bd_some hf
  refine z_callV (Y2 := YX5_total) (CC := RX5) (T := TX5) (N := 3) (ci := 4) (As := []) C lk_X5_total (lt_pe pe_54) (wc_pe pe_54) rfl t_651 t_563 t_564 (Nat.le_of_ble_eq_true rfl) (Nat.le_of_ble_eq_true rfl) dX2_lessByLine_59 (Nat.le_of_ble_eq_true rfl) rfl rfl (m_X5_total X.2.1 E N 54 pe_54 r11.2 _ h14) ?_
  change Zz E X YX2_lessByLine (some (.int R.1), R.2) r13.2 _ _ [.int r13.1, .int r11.1]
  refine z_isub C dX2_lessByLine_62 ?_
  exact z_iret C dX2_lessByLine_63 rfl (by rw [← Option.some.inj hf])
theorem lk_X2_lessByLine {Y : Yv} : Lk Y YX2_lessByLine 3 := ⟨t_649, t_6, ⟨by decide +kernel, by decide +kernel⟩, by decide +kernel⟩
abbrev YX2_swapInLine : Yv := (yX2_swapInLine, cX2_swapInLine, 4, none, 1, 22)
def f_X2_swapInLine (N : Nat) (x1 x2 : Int32) (σ : Sg) : Option (Sg) :=
  (f_X4_get N 60 x1 σ).bind (fun r1 => (f_X4_get N 60 x2 r1.2).bind (fun r3 => (f_X4_set N 60 x1 r3.1 r3.2).bind (fun r5 => (f_X4_set N 60 x2 r1.1 r5).bind (fun r7 => some r7))))
set_option maxHeartbeats 4000000 in
set_option maxRecDepth 20000 in
theorem m_X2_swapInLine (l : Launch) (E : Ev) (N : Nat) (x1 x2 : Int32) (σ : Sg) (R : Sg) (hf : f_X2_swapInLine N x1 x2 σ = some R) : Ct l E YX2_swapInLine [.ref (E.2.1 53), .int x1, .int x2] σ (none, R) := by
  refine ct_of (by decide +kernel) (Nat.le_of_ble_eq_true rfl) [(0, .ref (E.2.1 53)), (1, .int x1), (2, .int x2)] rfl (fun X hX C => ?_)
  unfold f_X2_swapInLine at hf
  refine z_aload_n C dX2_swapInLine_0 0 rfl ?_
  refine z_get (v := .ref (E.2.1 60)) (T := TX2) (N := 5) (ci := 1) C (by decide) wc_mi rfl in_X2 2 (by decide) t_169 rfl dX2_swapInLine_1 ?_
  refine z_iload_n C dX2_swapInLine_4 1 rfl ?_
  obtain ⟨r1, h2, hf⟩ := bd_some hf
  refine z_callV (Y2 := YX4_get) (CC := RX4) (T := TX4) (N := 2) (ci := 3) (As := [.int x1]) C lk_X4_get (lt_nu nu_60) (wc_nu nu_60) rfl t_650 t_302 t_303 (Nat.le_of_ble_eq_true rfl) (Nat.le_of_ble_eq_true rfl) dX2_swapInLine_5 (Nat.le_of_ble_eq_true rfl) rfl rfl (m_X4_get X.2.1 E N 60 nu_60 x1 σ _ h2) ?_
  change Zz E X YX2_swapInLine (none, R) r1.2 _ _ [.int r1.1]
  refine z_istore_n (lv' := [(3, .int r1.1), (0, .ref (E.2.1 53)), (1, .int x1), (2, .int x2)]) C dX2_swapInLine_8 (by decide) rfl ?_
  refine z_aload_n C dX2_swapInLine_9 1 rfl ?_
  refine z_get (v := .ref (E.2.1 60)) (T := TX2) (N := 5) (ci := 1) C (by decide) wc_mi rfl in_X2 2 (by decide) t_169 rfl dX2_swapInLine_10 ?_
  refine z_iload_n C dX2_swapInLine_13 2 rfl ?_
  refine z_aload_n C dX2_swapInLine_14 1 rfl ?_
  refine z_get (v := .ref (E.2.1 60)) (T := TX2) (N := 5) (ci := 1) C (by decide) wc_mi rfl in_X2 2 (by decide) t_169 rfl dX2_swapInLine_15 ?_
  refine z_iload_n C dX2_swapInLine_18 3 rfl ?_
  obtain ⟨r3, h4, hf⟩ := bd_some hf
  refine z_callV (Y2 := YX4_get) (CC := RX4) (T := TX4) (N := 2) (ci := 3) (As := [.int x2]) C lk_X4_get (lt_nu nu_60) (wc_nu nu_60) rfl t_650 t_302 t_303 (Nat.le_of_ble_eq_true rfl) (Nat.le_of_ble_eq_true rfl) dX2_swapInLine_19 (Nat.le_of_ble_eq_true rfl) rfl rfl (m_X4_get X.2.1 E N 60 nu_60 x2 r1.2 _ h4) ?_
  change Zz E X YX2_swapInLine (none, R) r3.2 _ _ [.int r3.1, .int x1, .ref (E.2.1 60)]
  obtain ⟨r5, h6, hf⟩ := bd_some hf
  refine z_callV (Y2 := YX4_set) (CC := RX4) (T := TX4) (N := 2) (ci := 3) (As := [.int x1, .int r3.1]) C lk_X4_set (lt_nu nu_60) (wc_nu nu_60) rfl t_668 t_435 t_436 (Nat.le_of_ble_eq_true rfl) (Nat.le_of_ble_eq_true rfl) dX2_swapInLine_22 (Nat.le_of_ble_eq_true rfl) rfl rfl (m_X4_set X.2.1 E N 60 nu_60 x1 r3.1 r3.2 _ h6) ?_
  change Zz E X YX2_swapInLine (none, R) r5 _ _ []
  refine z_aload_n C dX2_swapInLine_25 1 rfl ?_
  refine z_get (v := .ref (E.2.1 60)) (T := TX2) (N := 5) (ci := 1) C (by decide) wc_mi rfl in_X2 2 (by decide) t_169 rfl dX2_swapInLine_26 ?_
  refine z_iload_n C dX2_swapInLine_29 3 rfl ?_
  refine z_iload_n C dX2_swapInLine_30 0 rfl ?_
  obtain ⟨r7, h8, hf⟩ := bd_some hf
  refine z_callV (Y2 := YX4_set) (CC := RX4) (T := TX4) (N := 2) (ci := 3) (As := [.int x2, .int r1.1]) C lk_X4_set (lt_nu nu_60) (wc_nu nu_60) rfl t_668 t_435 t_436 (Nat.le_of_ble_eq_true rfl) (Nat.le_of_ble_eq_true rfl) dX2_swapInLine_31 (Nat.le_of_ble_eq_true rfl) rfl rfl (m_X4_set X.2.1 E N 60 nu_60 x2 r1.1 r5 _ h8) ?_
  change Zz E X YX2_swapInLine (none, R) r7 _ _ []
  exact z_vret C dX2_swapInLine_34 rfl (by rw [← Option.some.inj hf])
theorem lk_X2_swapInLine {Y : Yv} : Lk Y YX2_swapInLine 2 := ⟨t_667, t_6, ⟨by decide +kernel, by decide +kernel⟩, by decide +kernel⟩
abbrev YX2_stepLine : Yv := (yX2_stepLine, cX2_stepLine, 5, some .boolean, 2, 45)
def f_X2_stepLine_B10 (N : Nat) (rec : Int32 → Sg → Option (Int32 × Sg)) (a1 : Int32) (σ : Sg) : Option (Int32 × Sg) :=
  if a1 < 0 then (some (a1, σ)) else ((f_X4_get N 60 a1 σ).bind (fun r2 => (f_X4_get N 60 (a1 + 1) r2.2).bind (fun r4 => if r2.1 ≤ r4.1 then (some (a1, r4.2)) else (rec (a1 + (-1)) r4.2))))
def f_X2_stepLine_L10 (N : Nat) : Nat → Int32 → Sg → Option (Int32 × Sg)
  | 0 => fun _ _ => none
  | k + 1 => fun a1 σ => f_X2_stepLine_B10 N (f_X2_stepLine_L10 N k) a1 σ
def f_X2_stepLine_B57 (N : Nat) (rec : Int32 → Int32 → Sg → Option (Int32 × Int32 × Sg)) (a1 a2 : Int32) (σ : Sg) : Option (Int32 × Int32 × Sg) :=
  if a2 ≤ a1 then (some (a1, a2, σ)) else ((f_X4_get N 60 a2 σ).bind (fun r10 => (f_X4_get N 60 a1 r10.2).bind (fun r12 => if r12.1 ≤ r10.1 then (some (a1, a2, r12.2)) else (rec a1 (a2 + (-1)) r12.2))))
def f_X2_stepLine_L57 (N : Nat) : Nat → Int32 → Int32 → Sg → Option (Int32 × Int32 × Sg)
  | 0 => fun _ _ _ => none
  | k + 1 => fun a1 a2 σ => f_X2_stepLine_B57 N (f_X2_stepLine_L57 N k) a1 a2 σ
def f_X2_stepLine_B108 (N : Nat) (rec : Int32 → Int32 → Sg → Option (Sg)) (a3 a4 : Int32) (σ : Sg) : Option (Sg) :=
  if a3 ≤ a4 then (some σ) else ((f_X2_swapInLine N a4 a3 σ).bind (fun r19 => rec (a3 + (-1)) (a4 + 1) r19))
def f_X2_stepLine_L108 (N : Nat) : Nat → Int32 → Int32 → Sg → Option (Sg)
  | 0 => fun _ _ _ => none
  | k + 1 => fun a3 a4 σ => f_X2_stepLine_B108 N (f_X2_stepLine_L108 N k) a3 a4 σ
def f_X2_stepLine (N : Nat) (σ : Sg) : Option (Int32 × Sg) :=
  (f_X2_stepLine_L10 N N ((σ 60 1) - 2) σ).bind (fun s7 => if 0 ≤ s7.1 then ((f_X2_stepLine_L57 N N s7.1 ((s7.2 60 1) - 1) s7.2).bind (fun s15 => (f_X2_swapInLine N s15.1 s15.2.1 s15.2.2).bind (fun r16 => (f_X2_stepLine_L108 N N ((r16 60 1) - 1) (s15.1 + 1) r16).bind (fun s21 => some (1, s21))))) else (some (0, s7.2)))
set_option maxHeartbeats 4000000 in
set_option maxRecDepth 20000 in
theorem m_X2_stepLine (l : Launch) (E : Ev) (N : Nat) (σ : Sg) (R : Int32 × Sg) (hf : f_X2_stepLine N σ = some R) : Ct l E YX2_stepLine [.ref (E.2.1 53)] σ (some (.int R.1), R.2) := by
  refine ct_of (by decide +kernel) (Nat.le_of_ble_eq_true rfl) [(0, .ref (E.2.1 53))] rfl (fun X hX C => ?_)
  have hL10 : ∀ (k : Nat) (a1 : Int32) (σ : Sg) (Q10 : Int32 × Sg), f_X2_stepLine_L10 N k a1 σ = some Q10 → (Zz E X YX2_stepLine (some (.int R.1), R.2) Q10.2 41 [(0, .ref (E.2.1 53)), (1, .int Q10.1)] []) → Zz E X YX2_stepLine (some (.int R.1), R.2) σ 10 [(0, .ref (E.2.1 53)), (1, .int a1)] [] := by
    intro k
    induction k with
    | zero =>
      intro a1 σ Q10 hf
      have hf : (none : Option (Int32 × Sg)) = some Q10 := hf
      cases hf
    | succ k ih =>
      intro a1 σ Q10 hf hx10
      have hf : f_X2_stepLine_B10 N (f_X2_stepLine_L10 N k) a1 σ = some Q10 := hf
      unfold f_X2_stepLine_B10 at hf
      refine z_iload_n C dX2_stepLine_10 1 rfl ?_
      refine z_if_lt (tgt := 41) C dX2_stepLine_11 (by decide) (fun h1 => ?_) (fun h1 => ?_)
      · replace hf := ifp hf h1
        refine z_sub [(0, .ref (E.2.1 53)), (1, .int a1)] [0, 1] rfl ?_
        obtain rfl := Option.some.inj hf
        exact hx10
      · replace hf := ifn hf h1
        refine z_aload_n C dX2_stepLine_14 0 rfl ?_
        refine z_get (v := .ref (E.2.1 60)) (T := TX2) (N := 5) (ci := 1) C (by decide) wc_mi rfl in_X2 2 (by decide) t_169 rfl dX2_stepLine_15 ?_
        refine z_iload_n C dX2_stepLine_18 1 rfl ?_
        obtain ⟨r2, h3, hf⟩ := bd_some hf
        refine z_callV (Y2 := YX4_get) (CC := RX4) (T := TX4) (N := 2) (ci := 3) (As := [.int a1]) C lk_X4_get (lt_nu nu_60) (wc_nu nu_60) rfl t_650 t_302 t_303 (Nat.le_of_ble_eq_true rfl) (Nat.le_of_ble_eq_true rfl) dX2_stepLine_19 (Nat.le_of_ble_eq_true rfl) rfl rfl (m_X4_get X.2.1 E N 60 nu_60 a1 σ _ h3) ?_
        change Zz E X YX2_stepLine (some (.int R.1), R.2) r2.2 _ _ [.int r2.1]
        refine z_aload_n C dX2_stepLine_22 0 rfl ?_
        refine z_get (v := .ref (E.2.1 60)) (T := TX2) (N := 5) (ci := 1) C (by decide) wc_mi rfl in_X2 2 (by decide) t_169 rfl dX2_stepLine_23 ?_
        refine z_iload_n C dX2_stepLine_26 1 rfl ?_
        refine z_iconst (v := 1) C dX2_stepLine_27 (by decide) ?_
        refine z_iadd C dX2_stepLine_28 ?_
        obtain ⟨r4, h5, hf⟩ := bd_some hf
        refine z_callV (Y2 := YX4_get) (CC := RX4) (T := TX4) (N := 2) (ci := 3) (As := [.int (a1 + 1)]) C lk_X4_get (lt_nu nu_60) (wc_nu nu_60) rfl t_650 t_302 t_303 (Nat.le_of_ble_eq_true rfl) (Nat.le_of_ble_eq_true rfl) dX2_stepLine_29 (Nat.le_of_ble_eq_true rfl) rfl rfl (m_X4_get X.2.1 E N 60 nu_60 (a1 + 1) r2.2 _ h5) ?_
        change Zz E X YX2_stepLine (some (.int R.1), R.2) r4.2 _ _ [.int r4.1, .int r2.1]
        refine z_icmp_le (tgt := 41) C dX2_stepLine_32 (by decide) (fun h6 => ?_) (fun h6 => ?_)
        · replace hf := ifp hf h6
          refine z_sub [(0, .ref (E.2.1 53)), (1, .int a1)] [0, 1] rfl ?_
          obtain rfl := Option.some.inj hf
          exact hx10
        · replace hf := ifn hf h6
          refine z_iinc (v := (a1 + (-1))) (lv' := [(1, .int (a1 + (-1))), (0, .ref (E.2.1 53))]) C dX2_stepLine_35 1 rfl rfl (by decide) rfl ?_
          refine z_goto (tgt := 10) C dX2_stepLine_38 (by decide) ?_
          refine z_sub [(0, .ref (E.2.1 53)), (1, .int (a1 + (-1)))] [1, 0] rfl ?_
          exact ih (a1 + (-1)) r4.2 _ hf hx10
  have hL57 : ∀ (k : Nat) (a1 a2 : Int32) (σ : Sg) (Q57 : Int32 × Int32 × Sg), f_X2_stepLine_L57 N k a1 a2 σ = some Q57 → (Zz E X YX2_stepLine (some (.int R.1), R.2) Q57.2.2 87 [(0, .ref (E.2.1 53)), (1, .int Q57.1), (2, .int Q57.2.1)] []) → Zz E X YX2_stepLine (some (.int R.1), R.2) σ 57 [(0, .ref (E.2.1 53)), (1, .int a1), (2, .int a2)] [] := by
    intro k
    induction k with
    | zero =>
      intro a1 a2 σ Q57 hf
      have hf : (none : Option (Int32 × Int32 × Sg)) = some Q57 := hf
      cases hf
    | succ k ih =>
      intro a1 a2 σ Q57 hf hx57
      have hf : f_X2_stepLine_B57 N (f_X2_stepLine_L57 N k) a1 a2 σ = some Q57 := hf
      unfold f_X2_stepLine_B57 at hf
      refine z_iload_n C dX2_stepLine_57 2 rfl ?_
      refine z_iload_n C dX2_stepLine_58 1 rfl ?_
      refine z_icmp_le (tgt := 87) C dX2_stepLine_59 (by decide) (fun h9 => ?_) (fun h9 => ?_)
      · replace hf := ifp hf h9
        refine z_sub [(0, .ref (E.2.1 53)), (1, .int a1), (2, .int a2)] [0, 1, 2] rfl ?_
        obtain rfl := Option.some.inj hf
        exact hx57
      · replace hf := ifn hf h9
        refine z_aload_n C dX2_stepLine_62 0 rfl ?_
        refine z_get (v := .ref (E.2.1 60)) (T := TX2) (N := 5) (ci := 1) C (by decide) wc_mi rfl in_X2 2 (by decide) t_169 rfl dX2_stepLine_63 ?_
        refine z_iload_n C dX2_stepLine_66 2 rfl ?_
        obtain ⟨r10, h11, hf⟩ := bd_some hf
        refine z_callV (Y2 := YX4_get) (CC := RX4) (T := TX4) (N := 2) (ci := 3) (As := [.int a2]) C lk_X4_get (lt_nu nu_60) (wc_nu nu_60) rfl t_650 t_302 t_303 (Nat.le_of_ble_eq_true rfl) (Nat.le_of_ble_eq_true rfl) dX2_stepLine_67 (Nat.le_of_ble_eq_true rfl) rfl rfl (m_X4_get X.2.1 E N 60 nu_60 a2 σ _ h11) ?_
        change Zz E X YX2_stepLine (some (.int R.1), R.2) r10.2 _ _ [.int r10.1]
        refine z_aload_n C dX2_stepLine_70 0 rfl ?_
        refine z_get (v := .ref (E.2.1 60)) (T := TX2) (N := 5) (ci := 1) C (by decide) wc_mi rfl in_X2 2 (by decide) t_169 rfl dX2_stepLine_71 ?_
        refine z_iload_n C dX2_stepLine_74 1 rfl ?_
        obtain ⟨r12, h13, hf⟩ := bd_some hf
        refine z_callV (Y2 := YX4_get) (CC := RX4) (T := TX4) (N := 2) (ci := 3) (As := [.int a1]) C lk_X4_get (lt_nu nu_60) (wc_nu nu_60) rfl t_650 t_302 t_303 (Nat.le_of_ble_eq_true rfl) (Nat.le_of_ble_eq_true rfl) dX2_stepLine_75 (Nat.le_of_ble_eq_true rfl) rfl rfl (m_X4_get X.2.1 E N 60 nu_60 a1 r10.2 _ h13) ?_
        change Zz E X YX2_stepLine (some (.int R.1), R.2) r12.2 _ _ [.int r12.1, .int r10.1]
        refine z_icmp_ge (tgt := 87) C dX2_stepLine_78 (by decide) (fun h14 => ?_) (fun h14 => ?_)
        · replace hf := ifp hf h14
          refine z_sub [(0, .ref (E.2.1 53)), (1, .int a1), (2, .int a2)] [0, 1, 2] rfl ?_
          obtain rfl := Option.some.inj hf
          exact hx57
        · replace hf := ifn hf h14
          refine z_iinc (v := (a2 + (-1))) (lv' := [(2, .int (a2 + (-1))), (0, .ref (E.2.1 53)), (1, .int a1)]) C dX2_stepLine_81 2 rfl rfl (by decide) rfl ?_
          refine z_goto (tgt := 57) C dX2_stepLine_84 (by decide) ?_
          refine z_sub [(0, .ref (E.2.1 53)), (1, .int a1), (2, .int (a2 + (-1)))] [1, 2, 0] rfl ?_
          exact ih a1 (a2 + (-1)) r12.2 _ hf hx57
  have hL108 : ∀ (k : Nat) (a3 a4 : Int32) (σ : Sg) (Q108 : Sg), f_X2_stepLine_L108 N k a3 a4 σ = some Q108 → (Zz E X YX2_stepLine (some (.int R.1), R.2) Q108 130 [] []) → Zz E X YX2_stepLine (some (.int R.1), R.2) σ 108 [(0, .ref (E.2.1 53)), (3, .int a3), (4, .int a4)] [] := by
    intro k
    induction k with
    | zero =>
      intro a3 a4 σ Q108 hf
      have hf : (none : Option (Sg)) = some Q108 := hf
      cases hf
    | succ k ih =>
      intro a3 a4 σ Q108 hf hx108
      have hf : f_X2_stepLine_B108 N (f_X2_stepLine_L108 N k) a3 a4 σ = some Q108 := hf
      unfold f_X2_stepLine_B108 at hf
      refine z_iload C dX2_stepLine_108 2 rfl ?_
      refine z_iload_n C dX2_stepLine_110 1 rfl ?_
      refine z_icmp_ge (tgt := 130) C dX2_stepLine_111 (by decide) (fun h18 => ?_) (fun h18 => ?_)
      · replace hf := ifp hf h18
        refine z_sub [] [] rfl ?_
        obtain rfl := Option.some.inj hf
        exact hx108
      · replace hf := ifn hf h18
        refine z_aload_n C dX2_stepLine_114 0 rfl ?_
        refine z_iload C dX2_stepLine_115 2 rfl ?_
        refine z_iload_n C dX2_stepLine_117 1 rfl ?_
        obtain ⟨r19, h20, hf⟩ := bd_some hf
        refine z_callV (Y2 := YX2_swapInLine) (CC := RX2) (T := TX2) (N := 5) (ci := 1) (As := [.int a4, .int a3]) C lk_X2_swapInLine (by decide) wc_mi rfl t_664 t_666 p_19 (Nat.le_of_ble_eq_true rfl) (Nat.le_of_ble_eq_true rfl) dX2_stepLine_118 (Nat.le_of_ble_eq_true rfl) rfl rfl (m_X2_swapInLine X.2.1 E N a4 a3 σ _ h20) ?_
        change Zz E X YX2_stepLine (some (.int R.1), R.2) r19 _ _ []
        refine z_iinc (v := (a3 + (-1))) (lv' := [(3, .int (a3 + (-1))), (0, .ref (E.2.1 53)), (4, .int a4)]) C dX2_stepLine_121 1 rfl rfl (by decide) rfl ?_
        refine z_iinc (v := (a4 + 1)) (lv' := [(4, .int (a4 + 1)), (3, .int (a3 + (-1))), (0, .ref (E.2.1 53))]) C dX2_stepLine_124 2 rfl rfl (by decide) rfl ?_
        refine z_goto (tgt := 108) C dX2_stepLine_127 (by decide) ?_
        refine z_sub [(0, .ref (E.2.1 53)), (3, .int (a3 + (-1))), (4, .int (a4 + 1))] [2, 1, 0] rfl ?_
        exact ih (a3 + (-1)) (a4 + 1) r19 _ hf hx108
  unfold f_X2_stepLine at hf
  refine z_aload_n C dX2_stepLine_0 0 rfl ?_
  refine z_get (v := .ref (E.2.1 60)) (T := TX2) (N := 5) (ci := 1) C (by decide) wc_mi rfl in_X2 2 (by decide) t_169 rfl dX2_stepLine_1 ?_
  refine z_getN (v := .int (σ 60 1)) (T := TX4) (N := 2) (ci := 3) C (lt_nu nu_60) (wc_nu nu_60) rfl in_X4 1 (by decide) n_71 rfl dX2_stepLine_4 ?_
  refine z_iconst (v := 2) C dX2_stepLine_7 (by decide) ?_
  refine z_isub C dX2_stepLine_8 ?_
  refine z_istore_n (lv' := [(1, .int ((σ 60 1) - 2)), (0, .ref (E.2.1 53))]) C dX2_stepLine_9 (by decide) rfl ?_
  refine z_sub [(0, .ref (E.2.1 53)), (1, .int ((σ 60 1) - 2))] [1, 0] rfl ?_
  obtain ⟨s7, h24, hf⟩ := bd_some hf
  refine hL10 N ((σ 60 1) - 2) σ _ h24 ?_
  refine z_iload_n C dX2_stepLine_41 1 rfl ?_
  refine z_if_ge (tgt := 47) C dX2_stepLine_42 (by decide) (fun h8 => ?_) (fun h8 => ?_)
  · replace hf := ifp hf h8
    refine z_aload_n C dX2_stepLine_47 0 rfl ?_
    refine z_get (v := .ref (E.2.1 60)) (T := TX2) (N := 5) (ci := 1) C (by decide) wc_mi rfl in_X2 2 (by decide) t_169 rfl dX2_stepLine_48 ?_
    refine z_getN (v := .int (s7.2 60 1)) (T := TX4) (N := 2) (ci := 3) C (lt_nu nu_60) (wc_nu nu_60) rfl in_X4 1 (by decide) n_71 rfl dX2_stepLine_51 ?_
    refine z_iconst (v := 1) C dX2_stepLine_54 (by decide) ?_
    refine z_isub C dX2_stepLine_55 ?_
    refine z_istore_n (lv' := [(2, .int ((s7.2 60 1) - 1)), (0, .ref (E.2.1 53)), (1, .int s7.1)]) C dX2_stepLine_56 (by decide) rfl ?_
    refine z_sub [(0, .ref (E.2.1 53)), (1, .int s7.1), (2, .int ((s7.2 60 1) - 1))] [1, 2, 0] rfl ?_
    obtain ⟨s15, h23, hf⟩ := bd_some hf
    refine hL57 N s7.1 ((s7.2 60 1) - 1) s7.2 _ h23 ?_
    refine z_aload_n C dX2_stepLine_87 0 rfl ?_
    refine z_iload_n C dX2_stepLine_88 1 rfl ?_
    refine z_iload_n C dX2_stepLine_89 2 rfl ?_
    obtain ⟨r16, h17, hf⟩ := bd_some hf
    refine z_callV (Y2 := YX2_swapInLine) (CC := RX2) (T := TX2) (N := 5) (ci := 1) (As := [.int s15.1, .int s15.2.1]) C lk_X2_swapInLine (by decide) wc_mi rfl t_664 t_666 p_19 (Nat.le_of_ble_eq_true rfl) (Nat.le_of_ble_eq_true rfl) dX2_stepLine_90 (Nat.le_of_ble_eq_true rfl) rfl rfl (m_X2_swapInLine X.2.1 E N s15.1 s15.2.1 s15.2.2 _ h17) ?_
    change Zz E X YX2_stepLine (some (.int R.1), R.2) r16 _ _ []
    refine z_aload_n C dX2_stepLine_93 0 rfl ?_
    refine z_get (v := .ref (E.2.1 60)) (T := TX2) (N := 5) (ci := 1) C (by decide) wc_mi rfl in_X2 2 (by decide) t_169 rfl dX2_stepLine_94 ?_
    refine z_getN (v := .int (r16 60 1)) (T := TX4) (N := 2) (ci := 3) C (lt_nu nu_60) (wc_nu nu_60) rfl in_X4 1 (by decide) n_71 rfl dX2_stepLine_97 ?_
    refine z_iconst (v := 1) C dX2_stepLine_100 (by decide) ?_
    refine z_isub C dX2_stepLine_101 ?_
    refine z_istore_n (lv' := [(3, .int ((r16 60 1) - 1)), (0, .ref (E.2.1 53)), (1, .int s15.1), (2, .int s15.2.1)]) C dX2_stepLine_102 (by decide) rfl ?_
    refine z_iload_n C dX2_stepLine_103 2 rfl ?_
    refine z_iconst (v := 1) C dX2_stepLine_104 (by decide) ?_
    refine z_iadd C dX2_stepLine_105 ?_
    refine z_istore (lv' := [(4, .int (s15.1 + 1)), (3, .int ((r16 60 1) - 1)), (0, .ref (E.2.1 53)), (1, .int s15.1), (2, .int s15.2.1)]) C dX2_stepLine_106 (by decide) rfl ?_
    refine z_sub [(0, .ref (E.2.1 53)), (3, .int ((r16 60 1) - 1)), (4, .int (s15.1 + 1))] [2, 1, 0] rfl ?_
    obtain ⟨s21, h22, hf⟩ := bd_some hf
    refine hL108 N ((r16 60 1) - 1) (s15.1 + 1) r16 _ h22 ?_
    refine z_iconst (v := 1) C dX2_stepLine_130 (by decide) ?_
    exact z_zret C dX2_stepLine_131 rfl rfl (by rw [← Option.some.inj hf])
  · replace hf := ifn hf h8
    refine z_iconst (v := 0) C dX2_stepLine_45 (by decide) ?_
    exact z_zret C dX2_stepLine_46 rfl rfl (by rw [← Option.some.inj hf])
theorem lk_X2_stepLine {Y : Yv} : Lk Y YX2_stepLine 0 := ⟨t_663, t_6, ⟨by decide +kernel, by decide +kernel⟩, by decide +kernel⟩
abbrev YX2_findBestLine : Yv := (yX2_findBestLine, cX2_findBestLine, 7, some .int, 5, 126)
def f_X2_findBestLine_B10 (N : Nat) (p1 : Nat) (p2 : Nat) (p3 : Nat) (rec : Int32 → Sg → Option (Sg)) (a4 : Int32) (σ : Sg) : Option (Sg) :=
  if (σ p3 1) ≤ a4 then (some σ) else ((f_X4_add N 60 a4 σ).bind (fun r4 => rec (a4 + 1) r4))
def f_X2_findBestLine_L10 (N : Nat) (p1 : Nat) (p2 : Nat) (p3 : Nat) : Nat → Int32 → Sg → Option (Sg)
  | 0 => fun _ _ => none
  | k + 1 => fun a4 σ => f_X2_findBestLine_B10 N p1 p2 p3 (f_X2_findBestLine_L10 N p1 p2 p3 k) a4 σ
def f_X2_findBestLine_J59 (N : Nat) (p1 : Nat) (p2 : Nat) (p3 : Nat) (rec : Int32 → Int32 → Sg → Option (Int32 × Sg)) (a4 a5 : Int32) (σ : Sg) : Option (Int32 × Sg) :=
  (f_X2_lessByLine N p1 p2 p3 σ).bind (fun r9 => if r9.1 ≤ a4 then (rec a4 (a5 + 1) r9.2) else ((f_X4_takeFrom N 62 60 r9.2).bind (fun r12 => rec r9.1 (a5 + 1) r12)))
def f_X2_findBestLine_B40 (N : Nat) (p1 : Nat) (p2 : Nat) (p3 : Nat) (rec : Int32 → Int32 → Sg → Option (Int32 × Sg)) (a4 a5 : Int32) (σ : Sg) : Option (Int32 × Sg) :=
  if 120 ≤ a5 then (some (a4, σ)) else (if a5 = 0 then (f_X2_findBestLine_J59 N p1 p2 p3 rec a4 a5 σ) else ((f_X2_stepLine N σ).bind (fun r14 => if r14.1 = 0 then (some (a4, r14.2)) else (f_X2_findBestLine_J59 N p1 p2 p3 rec a4 a5 r14.2))))
def f_X2_findBestLine_L40 (N : Nat) (p1 : Nat) (p2 : Nat) (p3 : Nat) : Nat → Int32 → Int32 → Sg → Option (Int32 × Sg)
  | 0 => fun _ _ _ => none
  | k + 1 => fun a4 a5 σ => f_X2_findBestLine_B40 N p1 p2 p3 (f_X2_findBestLine_L40 N p1 p2 p3 k) a4 a5 σ
def f_X2_findBestLine (N : Nat) (p1 : Nat) (p2 : Nat) (p3 : Nat) (σ : Sg) : Option (Int32 × Sg) :=
  (f_X4_clear N 60 σ).bind (fun r1 => (f_X2_findBestLine_L10 N p1 p2 p3 N 0 r1).bind (fun s6 => (f_X2_findBestLine_L40 N p1 p2 p3 N (-1) 0 s6).bind (fun s17 => some (s17.1, s17.2))))
set_option maxHeartbeats 4000000 in
set_option maxRecDepth 20000 in
theorem m_X2_findBestLine (l : Launch) (E : Ev) (N : Nat) (p1 : Nat) (p2 : Nat) (p3 : Nat) (hp1 : isPe p1) (hp2 : isLa p2) (hp3 : isNu p3) (σ : Sg) (R : Int32 × Sg) (hf : f_X2_findBestLine N p1 p2 p3 σ = some R) : Ct l E YX2_findBestLine [.ref (E.2.1 53), .ref (E.2.1 p1), .ref (E.2.1 p2), .ref (E.2.1 p3)] σ (some (.int R.1), R.2) := by
  refine ct_of (by decide +kernel) (Nat.le_of_ble_eq_true rfl) [(0, .ref (E.2.1 53)), (1, .ref (E.2.1 p1)), (2, .ref (E.2.1 p2)), (3, .ref (E.2.1 p3))] rfl (fun X hX C => ?_)
  have hL10 : ∀ (k : Nat) (a4 : Int32) (σ : Sg) (Q10 : Sg), f_X2_findBestLine_L10 N p1 p2 p3 k a4 σ = some Q10 → (Zz E X YX2_findBestLine (some (.int R.1), R.2) Q10 34 [(0, .ref (E.2.1 53)), (1, .ref (E.2.1 p1)), (2, .ref (E.2.1 p2)), (3, .ref (E.2.1 p3))] []) → Zz E X YX2_findBestLine (some (.int R.1), R.2) σ 10 [(0, .ref (E.2.1 53)), (1, .ref (E.2.1 p1)), (2, .ref (E.2.1 p2)), (3, .ref (E.2.1 p3)), (4, .int a4)] [] := by
    intro k
    induction k with
    | zero =>
      intro a4 σ Q10 hf
      have hf : (none : Option (Sg)) = some Q10 := hf
      cases hf
    | succ k ih =>
      intro a4 σ Q10 hf hx10
      have hf : f_X2_findBestLine_B10 N p1 p2 p3 (f_X2_findBestLine_L10 N p1 p2 p3 k) a4 σ = some Q10 := hf
      unfold f_X2_findBestLine_B10 at hf
      refine z_iload C dX2_findBestLine_10 4 rfl ?_
      refine z_aload_n C dX2_findBestLine_12 3 rfl ?_
      refine z_getN (v := .int (σ p3 1)) (T := TX4) (N := 2) (ci := 3) C (lt_nu hp3) (wc_nu hp3) rfl in_X4 1 (by decide) n_71 rfl dX2_findBestLine_13 ?_
      refine z_icmp_ge (tgt := 34) C dX2_findBestLine_16 (by decide) (fun h3 => ?_) (fun h3 => ?_)
      · replace hf := ifp hf h3
        refine z_sub [(0, .ref (E.2.1 53)), (1, .ref (E.2.1 p1)), (2, .ref (E.2.1 p2)), (3, .ref (E.2.1 p3))] [0, 1, 2, 3] rfl ?_
        obtain rfl := Option.some.inj hf
        exact hx10
      · replace hf := ifn hf h3
        refine z_aload_n C dX2_findBestLine_19 0 rfl ?_
        refine z_get (v := .ref (E.2.1 60)) (T := TX2) (N := 5) (ci := 1) C (by decide) wc_mi rfl in_X2 2 (by decide) t_169 rfl dX2_findBestLine_20 ?_
        refine z_iload C dX2_findBestLine_23 4 rfl ?_
        obtain ⟨r4, h5, hf⟩ := bd_some hf
        refine z_callV (Y2 := YX4_add) (CC := RX4) (T := TX4) (N := 2) (ci := 3) (As := [.int a4]) C lk_X4_add (lt_nu nu_60) (wc_nu nu_60) rfl t_645 t_271 t_272 (Nat.le_of_ble_eq_true rfl) (Nat.le_of_ble_eq_true rfl) dX2_findBestLine_25 (Nat.le_of_ble_eq_true rfl) rfl rfl (m_X4_add X.2.1 E N 60 nu_60 a4 σ _ h5) ?_
        change Zz E X YX2_findBestLine (some (.int R.1), R.2) r4 _ _ []
        refine z_iinc (v := (a4 + 1)) (lv' := [(4, .int (a4 + 1)), (0, .ref (E.2.1 53)), (1, .ref (E.2.1 p1)), (2, .ref (E.2.1 p2)), (3, .ref (E.2.1 p3))]) C dX2_findBestLine_28 4 rfl rfl (by decide) rfl ?_
        refine z_goto (tgt := 10) C dX2_findBestLine_31 (by decide) ?_
        refine z_sub [(0, .ref (E.2.1 53)), (1, .ref (E.2.1 p1)), (2, .ref (E.2.1 p2)), (3, .ref (E.2.1 p3)), (4, .int (a4 + 1))] [1, 2, 3, 4, 0] rfl ?_
        exact ih (a4 + 1) r4 _ hf hx10
  have hL40 : ∀ (k : Nat) (a4 a5 : Int32) (σ : Sg) (Q40 : Int32 × Sg), f_X2_findBestLine_L40 N p1 p2 p3 k a4 a5 σ = some Q40 → (Zz E X YX2_findBestLine (some (.int R.1), R.2) Q40.2 96 [(4, .int Q40.1)] []) → Zz E X YX2_findBestLine (some (.int R.1), R.2) σ 40 [(0, .ref (E.2.1 53)), (1, .ref (E.2.1 p1)), (2, .ref (E.2.1 p2)), (3, .ref (E.2.1 p3)), (4, .int a4), (5, .int a5)] [] := by
    intro k
    induction k with
    | zero =>
      intro a4 a5 σ Q40 hf
      have hf : (none : Option (Int32 × Sg)) = some Q40 := hf
      cases hf
    | succ k ih =>
      intro a4 a5 σ Q40 hf hx40
      have hf : f_X2_findBestLine_B40 N p1 p2 p3 (f_X2_findBestLine_L40 N p1 p2 p3 k) a4 a5 σ = some Q40 := hf
      have hJ59 : ∀ (a4 a5 : Int32) (σ : Sg), f_X2_findBestLine_J59 N p1 p2 p3 (f_X2_findBestLine_L40 N p1 p2 p3 k) a4 a5 σ = some Q40 → Zz E X YX2_findBestLine (some (.int R.1), R.2) σ 59 [(0, .ref (E.2.1 53)), (1, .ref (E.2.1 p1)), (2, .ref (E.2.1 p2)), (3, .ref (E.2.1 p3)), (4, .int a4), (5, .int a5)] [] := by
        intro a4 a5 σ hf
        unfold f_X2_findBestLine_J59 at hf
        refine z_aload_n C dX2_findBestLine_59 0 rfl ?_
        refine z_aload_n C dX2_findBestLine_60 1 rfl ?_
        refine z_aload_n C dX2_findBestLine_61 2 rfl ?_
        refine z_aload_n C dX2_findBestLine_62 3 rfl ?_
        obtain ⟨r9, h10, hf⟩ := bd_some hf
        refine z_callV (Y2 := YX2_lessByLine) (CC := RX2) (T := TX2) (N := 5) (ci := 1) (As := [.ref (E.2.1 p1), .ref (E.2.1 p2), .ref (E.2.1 p3)]) C lk_X2_lessByLine (by decide) wc_mi rfl t_669 t_647 t_648 (Nat.le_of_ble_eq_true rfl) (Nat.le_of_ble_eq_true rfl) dX2_findBestLine_63 (Nat.le_of_ble_eq_true rfl) rfl rfl (m_X2_lessByLine X.2.1 E N p1 p2 p3 hp1 hp2 hp3 σ _ h10) ?_
        change Zz E X YX2_findBestLine (some (.int R.1), R.2) r9.2 _ _ [.int r9.1]
        refine z_istore (lv' := [(6, .int r9.1), (0, .ref (E.2.1 53)), (1, .ref (E.2.1 p1)), (2, .ref (E.2.1 p2)), (3, .ref (E.2.1 p3)), (4, .int a4), (5, .int a5)]) C dX2_findBestLine_66 (by decide) rfl ?_
        refine z_iload C dX2_findBestLine_68 0 rfl ?_
        refine z_iload C dX2_findBestLine_70 5 rfl ?_
        refine z_icmp_le (tgt := 90) C dX2_findBestLine_72 (by decide) (fun h11 => ?_) (fun h11 => ?_)
        · replace hf := ifp hf h11
          refine z_iinc (v := (a5 + 1)) (lv' := [(5, .int (a5 + 1)), (6, .int r9.1), (0, .ref (E.2.1 53)), (1, .ref (E.2.1 p1)), (2, .ref (E.2.1 p2)), (3, .ref (E.2.1 p3)), (4, .int a4)]) C dX2_findBestLine_90 6 rfl rfl (by decide) rfl ?_
          refine z_goto (tgt := 40) C dX2_findBestLine_93 (by decide) ?_
          refine z_sub [(0, .ref (E.2.1 53)), (1, .ref (E.2.1 p1)), (2, .ref (E.2.1 p2)), (3, .ref (E.2.1 p3)), (4, .int a4), (5, .int (a5 + 1))] [2, 3, 4, 5, 6, 0] rfl ?_
          exact ih a4 (a5 + 1) r9.2 _ hf hx40
        · replace hf := ifn hf h11
          refine z_iload C dX2_findBestLine_75 0 rfl ?_
          refine z_istore (lv' := [(4, .int r9.1), (6, .int r9.1), (0, .ref (E.2.1 53)), (1, .ref (E.2.1 p1)), (2, .ref (E.2.1 p2)), (3, .ref (E.2.1 p3)), (5, .int a5)]) C dX2_findBestLine_77 (by decide) rfl ?_
          refine z_aload_n C dX2_findBestLine_79 2 rfl ?_
          refine z_get (v := .ref (E.2.1 62)) (T := TX2) (N := 5) (ci := 1) C (by decide) wc_mi rfl in_X2 3 (by decide) t_170 rfl dX2_findBestLine_80 ?_
          refine z_aload_n C dX2_findBestLine_83 2 rfl ?_
          refine z_get (v := .ref (E.2.1 60)) (T := TX2) (N := 5) (ci := 1) C (by decide) wc_mi rfl in_X2 2 (by decide) t_169 rfl dX2_findBestLine_84 ?_
          obtain ⟨r12, h13, hf⟩ := bd_some hf
          refine z_callV (Y2 := YX4_takeFrom) (CC := RX4) (T := TX4) (N := 2) (ci := 3) (As := [.ref (E.2.1 60)]) C lk_X4_takeFrom (lt_nu nu_62) (wc_nu nu_62) rfl t_670 t_294 t_295 (Nat.le_of_ble_eq_true rfl) (Nat.le_of_ble_eq_true rfl) dX2_findBestLine_87 (Nat.le_of_ble_eq_true rfl) rfl rfl (m_X4_takeFrom X.2.1 E N 62 60 nu_62 nu_60 r9.2 _ h13) ?_
          change Zz E X YX2_findBestLine (some (.int R.1), R.2) r12 _ _ []
          refine z_iinc (v := (a5 + 1)) (lv' := [(5, .int (a5 + 1)), (4, .int r9.1), (6, .int r9.1), (0, .ref (E.2.1 53)), (1, .ref (E.2.1 p1)), (2, .ref (E.2.1 p2)), (3, .ref (E.2.1 p3))]) C dX2_findBestLine_90 6 rfl rfl (by decide) rfl ?_
          refine z_goto (tgt := 40) C dX2_findBestLine_93 (by decide) ?_
          refine z_sub [(0, .ref (E.2.1 53)), (1, .ref (E.2.1 p1)), (2, .ref (E.2.1 p2)), (3, .ref (E.2.1 p3)), (4, .int r9.1), (5, .int (a5 + 1))] [3, 4, 5, 6, 1, 0] rfl ?_
          exact ih r9.1 (a5 + 1) r12 _ hf hx40
      unfold f_X2_findBestLine_B40 at hf
      refine z_iload C dX2_findBestLine_40 5 rfl ?_
      refine z_bipush (v := 120) C dX2_findBestLine_42 (by decide) ?_
      refine z_icmp_ge (tgt := 96) C dX2_findBestLine_44 (by decide) (fun h7 => ?_) (fun h7 => ?_)
      · replace hf := ifp hf h7
        refine z_sub [(4, .int a4)] [4] rfl ?_
        obtain rfl := Option.some.inj hf
        exact hx40
      · replace hf := ifn hf h7
        refine z_iload C dX2_findBestLine_47 5 rfl ?_
        refine z_if_eq (tgt := 59) C dX2_findBestLine_49 (by decide) (fun h8 => ?_) (fun h8 => ?_)
        · replace hf := ifp hf h8
          refine z_sub [(0, .ref (E.2.1 53)), (1, .ref (E.2.1 p1)), (2, .ref (E.2.1 p2)), (3, .ref (E.2.1 p3)), (4, .int a4), (5, .int a5)] [0, 1, 2, 3, 4, 5] rfl ?_
          exact hJ59 a4 a5 σ hf
        · replace hf := ifn hf h8
          refine z_aload_n C dX2_findBestLine_52 0 rfl ?_
          obtain ⟨r14, h15, hf⟩ := bd_some hf
          refine z_callV (Y2 := YX2_stepLine) (CC := RX2) (T := TX2) (N := 5) (ci := 1) (As := []) C lk_X2_stepLine (by decide) wc_mi rfl t_660 t_662 p_18 (Nat.le_of_ble_eq_true rfl) (Nat.le_of_ble_eq_true rfl) dX2_findBestLine_53 (Nat.le_of_ble_eq_true rfl) rfl rfl (m_X2_stepLine X.2.1 E N σ _ h15) ?_
          change Zz E X YX2_findBestLine (some (.int R.1), R.2) r14.2 _ _ [.int r14.1]
          refine z_if_eq (tgt := 96) C dX2_findBestLine_56 (by decide) (fun h16 => ?_) (fun h16 => ?_)
          · replace hf := ifp hf h16
            refine z_sub [(4, .int a4)] [4] rfl ?_
            obtain rfl := Option.some.inj hf
            exact hx40
          · replace hf := ifn hf h16
            refine z_sub [(0, .ref (E.2.1 53)), (1, .ref (E.2.1 p1)), (2, .ref (E.2.1 p2)), (3, .ref (E.2.1 p3)), (4, .int a4), (5, .int a5)] [0, 1, 2, 3, 4, 5] rfl ?_
            exact hJ59 a4 a5 r14.2 hf
  unfold f_X2_findBestLine at hf
  refine z_aload_n C dX2_findBestLine_0 0 rfl ?_
  refine z_get (v := .ref (E.2.1 60)) (T := TX2) (N := 5) (ci := 1) C (by decide) wc_mi rfl in_X2 2 (by decide) t_169 rfl dX2_findBestLine_1 ?_
  obtain ⟨r1, h2, hf⟩ := bd_some hf
  refine z_callV (Y2 := YX4_clear) (CC := RX4) (T := TX4) (N := 2) (ci := 3) (As := []) C lk_X4_clear (lt_nu nu_60) (wc_nu nu_60) rfl t_644 t_298 t_299 (Nat.le_of_ble_eq_true rfl) (Nat.le_of_ble_eq_true rfl) dX2_findBestLine_4 (Nat.le_of_ble_eq_true rfl) rfl rfl (m_X4_clear X.2.1 E N 60 nu_60 σ _ h2) ?_
  change Zz E X YX2_findBestLine (some (.int R.1), R.2) r1 _ _ []
  refine z_iconst (v := 0) C dX2_findBestLine_7 (by decide) ?_
  refine z_istore (lv' := [(4, .int 0), (0, .ref (E.2.1 53)), (1, .ref (E.2.1 p1)), (2, .ref (E.2.1 p2)), (3, .ref (E.2.1 p3))]) C dX2_findBestLine_8 (by decide) rfl ?_
  refine z_sub [(0, .ref (E.2.1 53)), (1, .ref (E.2.1 p1)), (2, .ref (E.2.1 p2)), (3, .ref (E.2.1 p3)), (4, .int 0)] [1, 2, 3, 4, 0] rfl ?_
  obtain ⟨s6, h19, hf⟩ := bd_some hf
  refine hL10 N 0 r1 _ h19 ?_
  refine z_iconst (v := (-1)) C dX2_findBestLine_34 (by decide) ?_
  refine z_istore (lv' := [(4, .int (-1)), (0, .ref (E.2.1 53)), (1, .ref (E.2.1 p1)), (2, .ref (E.2.1 p2)), (3, .ref (E.2.1 p3))]) C dX2_findBestLine_35 (by decide) rfl ?_
  refine z_iconst (v := 0) C dX2_findBestLine_37 (by decide) ?_
  refine z_istore (lv' := [(5, .int 0), (4, .int (-1)), (0, .ref (E.2.1 53)), (1, .ref (E.2.1 p1)), (2, .ref (E.2.1 p2)), (3, .ref (E.2.1 p3))]) C dX2_findBestLine_38 (by decide) rfl ?_
  refine z_sub [(0, .ref (E.2.1 53)), (1, .ref (E.2.1 p1)), (2, .ref (E.2.1 p2)), (3, .ref (E.2.1 p3)), (4, .int (-1)), (5, .int 0)] [2, 3, 4, 5, 1, 0] rfl ?_
  obtain ⟨s17, h18, hf⟩ := bd_some hf
  refine hL40 N (-1) 0 s6 _ h18 ?_
  refine z_iload C dX2_findBestLine_96 0 rfl ?_
  exact z_iret C dX2_findBestLine_98 rfl (by rw [← Option.some.inj hf])
theorem lk_X2_findBestLine {Y : Yv} : Lk Y YX2_findBestLine 3 := ⟨t_659, t_6, ⟨by decide +kernel, by decide +kernel⟩, by decide +kernel⟩
abbrev YX2_greediest : Yv := (yX2_greediest, cX2_greediest, 8, some .int, 4, 102)
def f_X2_greediest_B9 (N : Nat) (p1 : Nat) (p2 : Nat) (rec : Int32 → Int32 → Int32 → Int32 → Sg → Option (Int32 × Sg)) (a3 a4 a5 a6 : Int32) (σ : Sg) : Option (Int32 × Sg) :=
  if (σ p2 1) ≤ a6 then (some (a4, σ)) else (if ((a3 >>> (a6 &&& 31)) &&& 1) = 0 then ((f_X5_takeFrom N 57 54 σ).bind (fun r3 => (f_X4_get N p2 a6 r3).bind (fun r5 => (f_X0_deliver N p1 57 r5.1 r5.2).bind (fun r7 => (f_X5_total N 54 r7.2).bind (fun r9 => (f_X5_total N 57 r9.2).bind (fun r11 => if (r9.1 - r11.1) ≤ a5 then (rec a3 a4 a5 (a6 + 1) r11.2) else (rec a3 a6 (r9.1 - r11.1) (a6 + 1) r11.2))))))) else (rec a3 a4 a5 (a6 + 1) σ))
def f_X2_greediest_L9 (N : Nat) (p1 : Nat) (p2 : Nat) : Nat → Int32 → Int32 → Int32 → Int32 → Sg → Option (Int32 × Sg)
  | 0 => fun _ _ _ _ _ => none
  | k + 1 => fun a3 a4 a5 a6 σ => f_X2_greediest_B9 N p1 p2 (f_X2_greediest_L9 N p1 p2 k) a3 a4 a5 a6 σ
def f_X2_greediest (N : Nat) (p1 : Nat) (p2 : Nat) (x3 : Int32) (σ : Sg) : Option (Int32 × Sg) :=
  (f_X2_greediest_L9 N p1 p2 N x3 0 (-1) 0 σ).bind (fun s14 => some (s14.1, s14.2))
set_option maxHeartbeats 4000000 in
set_option maxRecDepth 20000 in
theorem m_X2_greediest (l : Launch) (E : Ev) (N : Nat) (p1 : Nat) (p2 : Nat) (hp1 : isLa p1) (hp2 : isNu p2) (x3 : Int32) (σ : Sg) (R : Int32 × Sg) (hf : f_X2_greediest N p1 p2 x3 σ = some R) : Ct l E YX2_greediest [.ref (E.2.1 53), .ref (E.2.1 p1), .ref (E.2.1 p2), .int x3] σ (some (.int R.1), R.2) := by
  refine ct_of (by decide +kernel) (Nat.le_of_ble_eq_true rfl) [(0, .ref (E.2.1 53)), (1, .ref (E.2.1 p1)), (2, .ref (E.2.1 p2)), (3, .int x3)] rfl (fun X hX C => ?_)
  have hL9 : ∀ (k : Nat) (a3 a4 a5 a6 : Int32) (σ : Sg) (Q9 : Int32 × Sg), f_X2_greediest_L9 N p1 p2 k a3 a4 a5 a6 σ = some Q9 → (Zz E X YX2_greediest (some (.int R.1), R.2) Q9.2 91 [(4, .int Q9.1)] []) → Zz E X YX2_greediest (some (.int R.1), R.2) σ 9 [(0, .ref (E.2.1 53)), (1, .ref (E.2.1 p1)), (2, .ref (E.2.1 p2)), (3, .int a3), (4, .int a4), (5, .int a5), (6, .int a6)] [] := by
    intro k
    induction k with
    | zero =>
      intro a3 a4 a5 a6 σ Q9 hf
      have hf : (none : Option (Int32 × Sg)) = some Q9 := hf
      cases hf
    | succ k ih =>
      intro a3 a4 a5 a6 σ Q9 hf hx9
      have hf : f_X2_greediest_B9 N p1 p2 (f_X2_greediest_L9 N p1 p2 k) a3 a4 a5 a6 σ = some Q9 := hf
      unfold f_X2_greediest_B9 at hf
      refine z_iload C dX2_greediest_9 6 rfl ?_
      refine z_aload_n C dX2_greediest_11 2 rfl ?_
      refine z_getN (v := .int (σ p2 1)) (T := TX4) (N := 2) (ci := 3) C (lt_nu hp2) (wc_nu hp2) rfl in_X4 1 (by decide) n_71 rfl dX2_greediest_12 ?_
      refine z_icmp_ge (tgt := 91) C dX2_greediest_15 (by decide) (fun h1 => ?_) (fun h1 => ?_)
      · replace hf := ifp hf h1
        refine z_sub [(4, .int a4)] [4] rfl ?_
        obtain rfl := Option.some.inj hf
        exact hx9
      · replace hf := ifn hf h1
        refine z_iload_n C dX2_greediest_18 3 rfl ?_
        refine z_iload C dX2_greediest_19 6 rfl ?_
        refine z_ishr C dX2_greediest_21 ?_
        refine z_iconst (v := 1) C dX2_greediest_22 (by decide) ?_
        refine z_iand C dX2_greediest_23 ?_
        refine z_if_ne (tgt := 85) C dX2_greediest_24 (by decide) (fun h2 => ?_) (fun h2 => ?_)
        · replace hf := ifn hf h2
          refine z_iinc (v := (a6 + 1)) (lv' := [(6, .int (a6 + 1)), (0, .ref (E.2.1 53)), (1, .ref (E.2.1 p1)), (2, .ref (E.2.1 p2)), (3, .int a3), (4, .int a4), (5, .int a5)]) C dX2_greediest_85 6 rfl rfl (by decide) rfl ?_
          refine z_goto (tgt := 9) C dX2_greediest_88 (by decide) ?_
          refine z_sub [(0, .ref (E.2.1 53)), (1, .ref (E.2.1 p1)), (2, .ref (E.2.1 p2)), (3, .int a3), (4, .int a4), (5, .int a5), (6, .int (a6 + 1))] [1, 2, 3, 4, 5, 6, 0] rfl ?_
          exact ih a3 a4 a5 (a6 + 1) σ _ hf hx9
        · replace hf := ifp hf h2
          refine z_aload_n C dX2_greediest_27 0 rfl ?_
          refine z_get (v := .ref (E.2.1 57)) (T := TX2) (N := 5) (ci := 1) C (by decide) wc_mi rfl in_X2 1 (by decide) t_168 rfl dX2_greediest_28 ?_
          refine z_aload_n C dX2_greediest_31 0 rfl ?_
          refine z_get (v := .ref (E.2.1 54)) (T := TX2) (N := 5) (ci := 1) C (by decide) wc_mi rfl in_X2 0 (by decide) t_167 rfl dX2_greediest_32 ?_
          obtain ⟨r3, h4, hf⟩ := bd_some hf
          refine z_callV (Y2 := YX5_takeFrom) (CC := RX5) (T := TX5) (N := 3) (ci := 4) (As := [.ref (E.2.1 54)]) C lk_X5_takeFrom (lt_pe pe_57) (wc_pe pe_57) rfl t_617 t_287 t_288 (Nat.le_of_ble_eq_true rfl) (Nat.le_of_ble_eq_true rfl) dX2_greediest_35 (Nat.le_of_ble_eq_true rfl) rfl rfl (m_X5_takeFrom X.2.1 E N 57 54 pe_57 pe_54 σ _ h4) ?_
          change Zz E X YX2_greediest (some (.int R.1), R.2) r3 _ _ []
          refine z_aload_n C dX2_greediest_38 1 rfl ?_
          refine z_aload_n C dX2_greediest_39 0 rfl ?_
          refine z_get (v := .ref (E.2.1 57)) (T := TX2) (N := 5) (ci := 1) C (by decide) wc_mi rfl in_X2 1 (by decide) t_168 rfl dX2_greediest_40 ?_
          refine z_aload_n C dX2_greediest_43 2 rfl ?_
          refine z_iload C dX2_greediest_44 6 rfl ?_
          obtain ⟨r5, h6, hf⟩ := bd_some hf
          refine z_callV (Y2 := YX4_get) (CC := RX4) (T := TX4) (N := 2) (ci := 3) (As := [.int a6]) C lk_X4_get (lt_nu hp2) (wc_nu hp2) rfl t_650 t_302 t_303 (Nat.le_of_ble_eq_true rfl) (Nat.le_of_ble_eq_true rfl) dX2_greediest_46 (Nat.le_of_ble_eq_true rfl) rfl rfl (m_X4_get X.2.1 E N p2 hp2 a6 r3 _ h6) ?_
          change Zz E X YX2_greediest (some (.int R.1), R.2) r5.2 _ _ [.int r5.1, .ref (E.2.1 57), .ref (E.2.1 p1)]
          obtain ⟨r7, h8, hf⟩ := bd_some hf
          refine z_law_X0_deliver (As := [.ref (E.2.1 57), .int r5.1]) C hp1 t_622 (Nat.le_of_ble_eq_true rfl) (Nat.le_of_ble_eq_true rfl) dX2_greediest_49 (Nat.le_of_ble_eq_true rfl) rfl rfl (m_X0_deliver X.2.1 E N p1 57 hp1 pe_57 r5.1 r5.2 _ h8) ?_
          change Zz E X YX2_greediest (some (.int R.1), R.2) r7.2 _ _ [.int r7.1]
          refine z_pop C dX2_greediest_52 rfl ?_
          refine z_aload_n C dX2_greediest_53 0 rfl ?_
          refine z_get (v := .ref (E.2.1 54)) (T := TX2) (N := 5) (ci := 1) C (by decide) wc_mi rfl in_X2 0 (by decide) t_167 rfl dX2_greediest_54 ?_
          obtain ⟨r9, h10, hf⟩ := bd_some hf
          refine z_callV (Y2 := YX5_total) (CC := RX5) (T := TX5) (N := 3) (ci := 4) (As := []) C lk_X5_total (lt_pe pe_54) (wc_pe pe_54) rfl t_651 t_563 t_564 (Nat.le_of_ble_eq_true rfl) (Nat.le_of_ble_eq_true rfl) dX2_greediest_57 (Nat.le_of_ble_eq_true rfl) rfl rfl (m_X5_total X.2.1 E N 54 pe_54 r7.2 _ h10) ?_
          change Zz E X YX2_greediest (some (.int R.1), R.2) r9.2 _ _ [.int r9.1]
          refine z_aload_n C dX2_greediest_60 0 rfl ?_
          refine z_get (v := .ref (E.2.1 57)) (T := TX2) (N := 5) (ci := 1) C (by decide) wc_mi rfl in_X2 1 (by decide) t_168 rfl dX2_greediest_61 ?_
          obtain ⟨r11, h12, hf⟩ := bd_some hf
          refine z_callV (Y2 := YX5_total) (CC := RX5) (T := TX5) (N := 3) (ci := 4) (As := []) C lk_X5_total (lt_pe pe_57) (wc_pe pe_57) rfl t_651 t_563 t_564 (Nat.le_of_ble_eq_true rfl) (Nat.le_of_ble_eq_true rfl) dX2_greediest_64 (Nat.le_of_ble_eq_true rfl) rfl rfl (m_X5_total X.2.1 E N 57 pe_57 r9.2 _ h12) ?_
          change Zz E X YX2_greediest (some (.int R.1), R.2) r11.2 _ _ [.int r11.1, .int r9.1]
          refine z_isub C dX2_greediest_67 ?_
          refine z_istore (lv' := [(7, .int (r9.1 - r11.1)), (0, .ref (E.2.1 53)), (1, .ref (E.2.1 p1)), (2, .ref (E.2.1 p2)), (3, .int a3), (4, .int a4), (5, .int a5), (6, .int a6)]) C dX2_greediest_68 (by decide) rfl ?_
          refine z_iload C dX2_greediest_70 0 rfl ?_
          refine z_iload C dX2_greediest_72 6 rfl ?_
          refine z_icmp_le (tgt := 85) C dX2_greediest_74 (by decide) (fun h13 => ?_) (fun h13 => ?_)
          · replace hf := ifp hf h13
            refine z_iinc (v := (a6 + 1)) (lv' := [(6, .int (a6 + 1)), (7, .int (r9.1 - r11.1)), (0, .ref (E.2.1 53)), (1, .ref (E.2.1 p1)), (2, .ref (E.2.1 p2)), (3, .int a3), (4, .int a4), (5, .int a5)]) C dX2_greediest_85 7 rfl rfl (by decide) rfl ?_
            refine z_goto (tgt := 9) C dX2_greediest_88 (by decide) ?_
            refine z_sub [(0, .ref (E.2.1 53)), (1, .ref (E.2.1 p1)), (2, .ref (E.2.1 p2)), (3, .int a3), (4, .int a4), (5, .int a5), (6, .int (a6 + 1))] [2, 3, 4, 5, 6, 7, 0] rfl ?_
            exact ih a3 a4 a5 (a6 + 1) r11.2 _ hf hx9
          · replace hf := ifn hf h13
            refine z_iload C dX2_greediest_77 0 rfl ?_
            refine z_istore (lv' := [(5, .int (r9.1 - r11.1)), (7, .int (r9.1 - r11.1)), (0, .ref (E.2.1 53)), (1, .ref (E.2.1 p1)), (2, .ref (E.2.1 p2)), (3, .int a3), (4, .int a4), (6, .int a6)]) C dX2_greediest_79 (by decide) rfl ?_
            refine z_iload C dX2_greediest_81 7 rfl ?_
            refine z_istore (lv' := [(4, .int a6), (5, .int (r9.1 - r11.1)), (7, .int (r9.1 - r11.1)), (0, .ref (E.2.1 53)), (1, .ref (E.2.1 p1)), (2, .ref (E.2.1 p2)), (3, .int a3), (6, .int a6)]) C dX2_greediest_83 (by decide) rfl ?_
            refine z_iinc (v := (a6 + 1)) (lv' := [(6, .int (a6 + 1)), (4, .int a6), (5, .int (r9.1 - r11.1)), (7, .int (r9.1 - r11.1)), (0, .ref (E.2.1 53)), (1, .ref (E.2.1 p1)), (2, .ref (E.2.1 p2)), (3, .int a3)]) C dX2_greediest_85 7 rfl rfl (by decide) rfl ?_
            refine z_goto (tgt := 9) C dX2_greediest_88 (by decide) ?_
            refine z_sub [(0, .ref (E.2.1 53)), (1, .ref (E.2.1 p1)), (2, .ref (E.2.1 p2)), (3, .int a3), (4, .int a6), (5, .int (r9.1 - r11.1)), (6, .int (a6 + 1))] [4, 5, 6, 7, 1, 2, 0] rfl ?_
            exact ih a3 a6 (r9.1 - r11.1) (a6 + 1) r11.2 _ hf hx9
  unfold f_X2_greediest at hf
  refine z_iconst (v := 0) C dX2_greediest_0 (by decide) ?_
  refine z_istore (lv' := [(4, .int 0), (0, .ref (E.2.1 53)), (1, .ref (E.2.1 p1)), (2, .ref (E.2.1 p2)), (3, .int x3)]) C dX2_greediest_1 (by decide) rfl ?_
  refine z_iconst (v := (-1)) C dX2_greediest_3 (by decide) ?_
  refine z_istore (lv' := [(5, .int (-1)), (4, .int 0), (0, .ref (E.2.1 53)), (1, .ref (E.2.1 p1)), (2, .ref (E.2.1 p2)), (3, .int x3)]) C dX2_greediest_4 (by decide) rfl ?_
  refine z_iconst (v := 0) C dX2_greediest_6 (by decide) ?_
  refine z_istore (lv' := [(6, .int 0), (5, .int (-1)), (4, .int 0), (0, .ref (E.2.1 53)), (1, .ref (E.2.1 p1)), (2, .ref (E.2.1 p2)), (3, .int x3)]) C dX2_greediest_7 (by decide) rfl ?_
  refine z_sub [(0, .ref (E.2.1 53)), (1, .ref (E.2.1 p1)), (2, .ref (E.2.1 p2)), (3, .int x3), (4, .int 0), (5, .int (-1)), (6, .int 0)] [3, 4, 5, 6, 2, 1, 0] rfl ?_
  obtain ⟨s14, h15, hf⟩ := bd_some hf
  refine hL9 N x3 0 (-1) 0 σ _ h15 ?_
  refine z_iload C dX2_greediest_91 0 rfl ?_
  exact z_iret C dX2_greediest_93 rfl (by rw [← Option.some.inj hf])
theorem lk_X2_greediest {Y : Yv} : Lk Y YX2_greediest 3 := ⟨t_682, t_6, ⟨by decide +kernel, by decide +kernel⟩, by decide +kernel⟩
abbrev YX2_lessByGreed : Yv := (yX2_lessByGreed, cX2_lessByGreed, 7, some .int, 5, 129)
def f_X2_lessByGreed_B14 (N : Nat) (p1 : Nat) (p2 : Nat) (p3 : Nat) (rec : Int32 → Int32 → Sg → Option (Sg)) (a4 a5 : Int32) (σ : Sg) : Option (Sg) :=
  if (σ p3 1) ≤ a5 then (some σ) else ((f_X2_greediest N p2 p3 a4 σ).bind (fun r4 => nm (a4 ||| ((1 : Int32) <<< (r4.1 &&& 31))) (fun v6 => (f_X4_get N p3 r4.1 r4.2).bind (fun r8 => (f_X0_deliver N p2 54 r8.1 r8.2).bind (fun r10 => rec v6 (a5 + 1) r10.2)))))
def f_X2_lessByGreed_L14 (N : Nat) (p1 : Nat) (p2 : Nat) (p3 : Nat) : Nat → Int32 → Int32 → Sg → Option (Sg)
  | 0 => fun _ _ _ => none
  | k + 1 => fun a4 a5 σ => f_X2_lessByGreed_B14 N p1 p2 p3 (f_X2_lessByGreed_L14 N p1 p2 p3 k) a4 a5 σ
def f_X2_lessByGreed (N : Nat) (p1 : Nat) (p2 : Nat) (p3 : Nat) (σ : Sg) : Option (Int32 × Sg) :=
  (f_X5_takeFrom N 54 p1 σ).bind (fun r1 => (f_X2_lessByGreed_L14 N p1 p2 p3 N 0 0 r1).bind (fun s12 => (f_X5_total N p1 s12).bind (fun r13 => (f_X5_total N 54 r13.2).bind (fun r15 => some ((r13.1 - r15.1), r15.2)))))
set_option maxHeartbeats 4000000 in
set_option maxRecDepth 20000 in
theorem m_X2_lessByGreed (l : Launch) (E : Ev) (N : Nat) (p1 : Nat) (p2 : Nat) (p3 : Nat) (hp1 : isPe p1) (hp2 : isLa p2) (hp3 : isNu p3) (σ : Sg) (R : Int32 × Sg) (hf : f_X2_lessByGreed N p1 p2 p3 σ = some R) : Ct l E YX2_lessByGreed [.ref (E.2.1 53), .ref (E.2.1 p1), .ref (E.2.1 p2), .ref (E.2.1 p3)] σ (some (.int R.1), R.2) := by
  refine ct_of (by decide +kernel) (Nat.le_of_ble_eq_true rfl) [(0, .ref (E.2.1 53)), (1, .ref (E.2.1 p1)), (2, .ref (E.2.1 p2)), (3, .ref (E.2.1 p3))] rfl (fun X hX C => ?_)
  have hL14 : ∀ (k : Nat) (a4 a5 : Int32) (σ : Sg) (Q14 : Sg), f_X2_lessByGreed_L14 N p1 p2 p3 k a4 a5 σ = some Q14 → (Zz E X YX2_lessByGreed (some (.int R.1), R.2) Q14 63 [(0, .ref (E.2.1 53)), (1, .ref (E.2.1 p1))] []) → Zz E X YX2_lessByGreed (some (.int R.1), R.2) σ 14 [(0, .ref (E.2.1 53)), (1, .ref (E.2.1 p1)), (2, .ref (E.2.1 p2)), (3, .ref (E.2.1 p3)), (4, .int a4), (5, .int a5)] [] := by
    intro k
    induction k with
    | zero =>
      intro a4 a5 σ Q14 hf
      have hf : (none : Option (Sg)) = some Q14 := hf
      cases hf
    | succ k ih =>
      intro a4 a5 σ Q14 hf hx14
      have hf : f_X2_lessByGreed_B14 N p1 p2 p3 (f_X2_lessByGreed_L14 N p1 p2 p3 k) a4 a5 σ = some Q14 := hf
      unfold f_X2_lessByGreed_B14 at hf
      refine z_iload C dX2_lessByGreed_14 5 rfl ?_
      refine z_aload_n C dX2_lessByGreed_16 3 rfl ?_
      refine z_getN (v := .int (σ p3 1)) (T := TX4) (N := 2) (ci := 3) C (lt_nu hp3) (wc_nu hp3) rfl in_X4 1 (by decide) n_71 rfl dX2_lessByGreed_17 ?_
      refine z_icmp_ge (tgt := 63) C dX2_lessByGreed_20 (by decide) (fun h3 => ?_) (fun h3 => ?_)
      · replace hf := ifp hf h3
        refine z_sub [(0, .ref (E.2.1 53)), (1, .ref (E.2.1 p1))] [0, 1] rfl ?_
        obtain rfl := Option.some.inj hf
        exact hx14
      · replace hf := ifn hf h3
        refine z_aload_n C dX2_lessByGreed_23 0 rfl ?_
        refine z_aload_n C dX2_lessByGreed_24 2 rfl ?_
        refine z_aload_n C dX2_lessByGreed_25 3 rfl ?_
        refine z_iload C dX2_lessByGreed_26 4 rfl ?_
        obtain ⟨r4, h5, hf⟩ := bd_some hf
        refine z_callV (Y2 := YX2_greediest) (CC := RX2) (T := TX2) (N := 5) (ci := 1) (As := [.ref (E.2.1 p2), .ref (E.2.1 p3), .int a4]) C lk_X2_greediest (by decide) wc_mi rfl t_679 t_681 p_20 (Nat.le_of_ble_eq_true rfl) (Nat.le_of_ble_eq_true rfl) dX2_lessByGreed_28 (Nat.le_of_ble_eq_true rfl) rfl rfl (m_X2_greediest X.2.1 E N p2 p3 hp2 hp3 a4 σ _ h5) ?_
        change Zz E X YX2_lessByGreed (some (.int R.1), R.2) r4.2 _ _ [.int r4.1]
        refine z_istore (lv' := [(6, .int r4.1), (0, .ref (E.2.1 53)), (1, .ref (E.2.1 p1)), (2, .ref (E.2.1 p2)), (3, .ref (E.2.1 p3)), (4, .int a4), (5, .int a5)]) C dX2_lessByGreed_31 (by decide) rfl ?_
        refine z_iload C dX2_lessByGreed_33 5 rfl ?_
        refine z_iconst (v := 1) C dX2_lessByGreed_35 (by decide) ?_
        refine z_iload C dX2_lessByGreed_36 0 rfl ?_
        refine z_ishl C dX2_lessByGreed_38 ?_
        refine z_ior C dX2_lessByGreed_39 ?_
        obtain ⟨v6, h7, hf⟩ := nm_some hf
        rw [← h7]
        refine z_istore (lv' := [(4, .int v6), (6, .int r4.1), (0, .ref (E.2.1 53)), (1, .ref (E.2.1 p1)), (2, .ref (E.2.1 p2)), (3, .ref (E.2.1 p3)), (5, .int a5)]) C dX2_lessByGreed_40 (by decide) rfl ?_
        refine z_aload_n C dX2_lessByGreed_42 4 rfl ?_
        refine z_aload_n C dX2_lessByGreed_43 2 rfl ?_
        refine z_get (v := .ref (E.2.1 54)) (T := TX2) (N := 5) (ci := 1) C (by decide) wc_mi rfl in_X2 0 (by decide) t_167 rfl dX2_lessByGreed_44 ?_
        refine z_aload_n C dX2_lessByGreed_47 5 rfl ?_
        refine z_iload C dX2_lessByGreed_48 1 rfl ?_
        obtain ⟨r8, h9, hf⟩ := bd_some hf
        refine z_callV (Y2 := YX4_get) (CC := RX4) (T := TX4) (N := 2) (ci := 3) (As := [.int r4.1]) C lk_X4_get (lt_nu hp3) (wc_nu hp3) rfl t_650 t_302 t_303 (Nat.le_of_ble_eq_true rfl) (Nat.le_of_ble_eq_true rfl) dX2_lessByGreed_50 (Nat.le_of_ble_eq_true rfl) rfl rfl (m_X4_get X.2.1 E N p3 hp3 r4.1 r4.2 _ h9) ?_
        change Zz E X YX2_lessByGreed (some (.int R.1), R.2) r8.2 _ _ [.int r8.1, .ref (E.2.1 54), .ref (E.2.1 p2)]
        obtain ⟨r10, h11, hf⟩ := bd_some hf
        refine z_law_X0_deliver (As := [.ref (E.2.1 54), .int r8.1]) C hp2 t_622 (Nat.le_of_ble_eq_true rfl) (Nat.le_of_ble_eq_true rfl) dX2_lessByGreed_53 (Nat.le_of_ble_eq_true rfl) rfl rfl (m_X0_deliver X.2.1 E N p2 54 hp2 pe_54 r8.1 r8.2 _ h11) ?_
        change Zz E X YX2_lessByGreed (some (.int R.1), R.2) r10.2 _ _ [.int r10.1]
        refine z_pop C dX2_lessByGreed_56 rfl ?_
        refine z_iinc (v := (a5 + 1)) (lv' := [(5, .int (a5 + 1)), (4, .int v6), (6, .int r4.1), (0, .ref (E.2.1 53)), (1, .ref (E.2.1 p1)), (2, .ref (E.2.1 p2)), (3, .ref (E.2.1 p3))]) C dX2_lessByGreed_57 6 rfl rfl (by decide) rfl ?_
        refine z_goto (tgt := 14) C dX2_lessByGreed_60 (by decide) ?_
        refine z_sub [(0, .ref (E.2.1 53)), (1, .ref (E.2.1 p1)), (2, .ref (E.2.1 p2)), (3, .ref (E.2.1 p3)), (4, .int v6), (5, .int (a5 + 1))] [3, 4, 5, 6, 1, 0] rfl ?_
        exact ih v6 (a5 + 1) r10.2 _ hf hx14
  unfold f_X2_lessByGreed at hf
  refine z_aload_n C dX2_lessByGreed_0 0 rfl ?_
  refine z_get (v := .ref (E.2.1 54)) (T := TX2) (N := 5) (ci := 1) C (by decide) wc_mi rfl in_X2 0 (by decide) t_167 rfl dX2_lessByGreed_1 ?_
  refine z_aload_n C dX2_lessByGreed_4 1 rfl ?_
  obtain ⟨r1, h2, hf⟩ := bd_some hf
  refine z_callV (Y2 := YX5_takeFrom) (CC := RX5) (T := TX5) (N := 3) (ci := 4) (As := [.ref (E.2.1 p1)]) C lk_X5_takeFrom (lt_pe pe_54) (wc_pe pe_54) rfl t_617 t_287 t_288 (Nat.le_of_ble_eq_true rfl) (Nat.le_of_ble_eq_true rfl) dX2_lessByGreed_5 (Nat.le_of_ble_eq_true rfl) rfl rfl (m_X5_takeFrom X.2.1 E N 54 p1 pe_54 hp1 σ _ h2) ?_
  change Zz E X YX2_lessByGreed (some (.int R.1), R.2) r1 _ _ []
  refine z_iconst (v := 0) C dX2_lessByGreed_8 (by decide) ?_
  refine z_istore (lv' := [(4, .int 0), (0, .ref (E.2.1 53)), (1, .ref (E.2.1 p1)), (2, .ref (E.2.1 p2)), (3, .ref (E.2.1 p3))]) C dX2_lessByGreed_9 (by decide) rfl ?_
  refine z_iconst (v := 0) C dX2_lessByGreed_11 (by decide) ?_
  refine z_istore (lv' := [(5, .int 0), (4, .int 0), (0, .ref (E.2.1 53)), (1, .ref (E.2.1 p1)), (2, .ref (E.2.1 p2)), (3, .ref (E.2.1 p3))]) C dX2_lessByGreed_12 (by decide) rfl ?_
  refine z_sub [(0, .ref (E.2.1 53)), (1, .ref (E.2.1 p1)), (2, .ref (E.2.1 p2)), (3, .ref (E.2.1 p3)), (4, .int 0), (5, .int 0)] [2, 3, 4, 5, 1, 0] rfl ?_
  obtain ⟨s12, h17, hf⟩ := bd_some hf
  refine hL14 N 0 0 r1 _ h17 ?_
  refine z_aload_n C dX2_lessByGreed_63 1 rfl ?_
  obtain ⟨r13, h14, hf⟩ := bd_some hf
  refine z_callV (Y2 := YX5_total) (CC := RX5) (T := TX5) (N := 3) (ci := 4) (As := []) C lk_X5_total (lt_pe hp1) (wc_pe hp1) rfl t_651 t_563 t_564 (Nat.le_of_ble_eq_true rfl) (Nat.le_of_ble_eq_true rfl) dX2_lessByGreed_64 (Nat.le_of_ble_eq_true rfl) rfl rfl (m_X5_total X.2.1 E N p1 hp1 s12 _ h14) ?_
  change Zz E X YX2_lessByGreed (some (.int R.1), R.2) r13.2 _ _ [.int r13.1]
  refine z_aload_n C dX2_lessByGreed_67 0 rfl ?_
  refine z_get (v := .ref (E.2.1 54)) (T := TX2) (N := 5) (ci := 1) C (by decide) wc_mi rfl in_X2 0 (by decide) t_167 rfl dX2_lessByGreed_68 ?_
  obtain ⟨r15, h16, hf⟩ := bd_some hf
  refine z_callV (Y2 := YX5_total) (CC := RX5) (T := TX5) (N := 3) (ci := 4) (As := []) C lk_X5_total (lt_pe pe_54) (wc_pe pe_54) rfl t_651 t_563 t_564 (Nat.le_of_ble_eq_true rfl) (Nat.le_of_ble_eq_true rfl) dX2_lessByGreed_71 (Nat.le_of_ble_eq_true rfl) rfl rfl (m_X5_total X.2.1 E N 54 pe_54 r13.2 _ h16) ?_
  change Zz E X YX2_lessByGreed (some (.int R.1), R.2) r15.2 _ _ [.int r15.1, .int r13.1]
  refine z_isub C dX2_lessByGreed_74 ?_
  exact z_iret C dX2_lessByGreed_75 rfl (by rw [← Option.some.inj hf])
theorem lk_X2_lessByGreed {Y : Yv} : Lk Y YX2_lessByGreed 3 := ⟨t_678, t_6, ⟨by decide +kernel, by decide +kernel⟩, by decide +kernel⟩
abbrev YX2_timesTillHad : Yv := (yX2_timesTillHad, cX2_timesTillHad, 8, some .int, 4, 102)
def f_X2_timesTillHad_B14 (N : Nat) (p1 : Nat) (p2 : Nat) (rec : Int32 → Int32 → Int32 → Int32 → Sg → Option ((Sg) ⊕ (Int32 × Sg))) (a3 a4 a5 a6 : Int32) (σ : Sg) : Option ((Sg) ⊕ (Int32 × Sg)) :=
  if 40 < a6 then (some (.inl σ)) else ((f_J6_bitCount_0f7a4 N a5 σ).bind (fun r4 => if r4.1 < a4 then ((f_X0_receiver N p2 54 a3 r4.2).bind (fun r7 => (f_hv N p2 54 a3 r7.1 r7.2).bind (fun r9 => (f_X0_deliver N p2 54 a3 r9.2).bind (fun r11 => rec a3 a4 (a5 ||| r9.1) (a6 + 1) r11.2)))) else (some (.inr (a6, r4.2)))))
def f_X2_timesTillHad_L14 (N : Nat) (p1 : Nat) (p2 : Nat) : Nat → Int32 → Int32 → Int32 → Int32 → Sg → Option ((Sg) ⊕ (Int32 × Sg))
  | 0 => fun _ _ _ _ _ => none
  | k + 1 => fun a3 a4 a5 a6 σ => f_X2_timesTillHad_B14 N p1 p2 (f_X2_timesTillHad_L14 N p1 p2 k) a3 a4 a5 a6 σ
def f_X2_timesTillHad (N : Nat) (p1 : Nat) (p2 : Nat) (x3 x4 : Int32) (σ : Sg) : Option (Int32 × Sg) :=
  (f_X5_takeFrom N 54 p1 σ).bind (fun r1 => ex1 (f_X2_timesTillHad_L14 N p1 p2 N x3 x4 0 0 r1) (fun s13 => some ((-9), s13)) (fun r14 => some r14))
set_option maxHeartbeats 4000000 in
set_option maxRecDepth 20000 in
theorem m_X2_timesTillHad (l : Launch) (E : Ev) (N : Nat) (p1 : Nat) (p2 : Nat) (hp1 : isPe p1) (hp2 : isLa p2) (x3 x4 : Int32) (σ : Sg) (R : Int32 × Sg) (hf : f_X2_timesTillHad N p1 p2 x3 x4 σ = some R) : Ct l E YX2_timesTillHad [.ref (E.2.1 53), .ref (E.2.1 p1), .ref (E.2.1 p2), .int x3, .int x4] σ (some (.int R.1), R.2) := by
  refine ct_of (by decide +kernel) (Nat.le_of_ble_eq_true rfl) [(0, .ref (E.2.1 53)), (1, .ref (E.2.1 p1)), (2, .ref (E.2.1 p2)), (3, .int x3), (4, .int x4)] rfl (fun X hX C => ?_)
  have hL14 : ∀ (k : Nat) (a3 a4 a5 a6 : Int32) (σ : Sg) (Q14 : (Sg) ⊕ (Int32 × Sg)), f_X2_timesTillHad_L14 N p1 p2 k a3 a4 a5 a6 σ = some Q14 → (∀ S, Q14 = .inl S → Zz E X YX2_timesTillHad (some (.int R.1), R.2) S 77 [] []) → (∀ r, Q14 = .inr r → ((some (.int R.1), R.2) : Pv) = (some (.int r.1), r.2)) → Zz E X YX2_timesTillHad (some (.int R.1), R.2) σ 14 [(0, .ref (E.2.1 53)), (2, .ref (E.2.1 p2)), (3, .int a3), (4, .int a4), (5, .int a5), (6, .int a6)] [] := by
    intro k
    induction k with
    | zero =>
      intro a3 a4 a5 a6 σ Q14 hf
      have hf : (none : Option ((Sg) ⊕ (Int32 × Sg))) = some Q14 := hf
      cases hf
    | succ k ih =>
      intro a3 a4 a5 a6 σ Q14 hf hx14 hr14
      have hf : f_X2_timesTillHad_B14 N p1 p2 (f_X2_timesTillHad_L14 N p1 p2 k) a3 a4 a5 a6 σ = some Q14 := hf
      unfold f_X2_timesTillHad_B14 at hf
      refine z_iload C dX2_timesTillHad_14 5 rfl ?_
      refine z_bipush (v := 40) C dX2_timesTillHad_16 (by decide) ?_
      refine z_icmp_gt (tgt := 77) C dX2_timesTillHad_18 (by decide) (fun h3 => ?_) (fun h3 => ?_)
      · replace hf := ifp hf h3
        refine z_sub [] [] rfl ?_
        exact hx14 _ (Option.some.inj hf).symm
      · replace hf := ifn hf h3
        refine z_iload C dX2_timesTillHad_21 4 rfl ?_
        obtain ⟨r4, h5, hf⟩ := bd_some hf
        refine z_callS (Y2 := YJ6_bitCount_0f7a4) (As := [.int a5]) C lk_J6_bitCount_0f7a4 t_691 t_692 (Nat.le_of_ble_eq_true rfl) (Nat.le_of_ble_eq_true rfl) dX2_timesTillHad_23 (Nat.le_of_ble_eq_true rfl) rfl rfl (m_J6_bitCount_0f7a4 X.2.1 E N a5 σ _ h5) ?_
        change Zz E X YX2_timesTillHad (some (.int R.1), R.2) r4.2 _ _ [.int r4.1]
        refine z_iload C dX2_timesTillHad_26 3 rfl ?_
        refine z_icmp_lt (tgt := 34) C dX2_timesTillHad_28 (by decide) (fun h6 => ?_) (fun h6 => ?_)
        · replace hf := ifp hf h6
          refine z_aload_n C dX2_timesTillHad_34 1 rfl ?_
          refine z_aload_n C dX2_timesTillHad_35 0 rfl ?_
          refine z_get (v := .ref (E.2.1 54)) (T := TX2) (N := 5) (ci := 1) C (by decide) wc_mi rfl in_X2 0 (by decide) t_167 rfl dX2_timesTillHad_36 ?_
          refine z_iload_n C dX2_timesTillHad_39 2 rfl ?_
          obtain ⟨r7, h8, hf⟩ := bd_some hf
          refine z_law_X0_receiver (As := [.ref (E.2.1 54), .int a3]) C hp2 t_697 (Nat.le_of_ble_eq_true rfl) (Nat.le_of_ble_eq_true rfl) dX2_timesTillHad_40 (Nat.le_of_ble_eq_true rfl) rfl rfl (m_X0_receiver X.2.1 E N p2 54 hp2 pe_54 a3 r4.2 _ h8) ?_
          change Zz E X YX2_timesTillHad (some (.int R.1), R.2) r7.2 _ _ [.int r7.1]
          refine z_istore (lv' := [(7, .int r7.1), (0, .ref (E.2.1 53)), (2, .ref (E.2.1 p2)), (3, .int a3), (4, .int a4), (5, .int a5), (6, .int a6)]) C dX2_timesTillHad_43 (by decide) rfl ?_
          refine z_iload C dX2_timesTillHad_45 5 rfl ?_
          refine z_aload_n C dX2_timesTillHad_47 2 rfl ?_
          refine z_aload_n C dX2_timesTillHad_48 1 rfl ?_
          refine z_get (v := .ref (E.2.1 54)) (T := TX2) (N := 5) (ci := 1) C (by decide) wc_mi rfl in_X2 0 (by decide) t_167 rfl dX2_timesTillHad_49 ?_
          refine z_iload_n C dX2_timesTillHad_52 3 rfl ?_
          refine z_iload C dX2_timesTillHad_53 0 rfl ?_
          obtain ⟨r9, h10, hf⟩ := bd_some hf
          refine z_hv (As := [.ref (E.2.1 54), .int a3, .int r7.1]) C hp2 t_698 (Nat.le_of_ble_eq_true rfl) (Nat.le_of_ble_eq_true rfl) dX2_timesTillHad_55 (Nat.le_of_ble_eq_true rfl) rfl rfl (m_hv X.2.1 E N p2 54 hp2 pe_54 a3 r7.1 r7.2 _ h10) ?_
          change Zz E X YX2_timesTillHad (some (.int R.1), R.2) r9.2 _ _ [.int r9.1, .int a5]
          refine z_ior C dX2_timesTillHad_58 ?_
          refine z_istore (lv' := [(5, .int (a5 ||| r9.1)), (7, .int r7.1), (0, .ref (E.2.1 53)), (2, .ref (E.2.1 p2)), (3, .int a3), (4, .int a4), (6, .int a6)]) C dX2_timesTillHad_59 (by decide) rfl ?_
          refine z_aload_n C dX2_timesTillHad_61 3 rfl ?_
          refine z_aload_n C dX2_timesTillHad_62 2 rfl ?_
          refine z_get (v := .ref (E.2.1 54)) (T := TX2) (N := 5) (ci := 1) C (by decide) wc_mi rfl in_X2 0 (by decide) t_167 rfl dX2_timesTillHad_63 ?_
          refine z_iload_n C dX2_timesTillHad_66 4 rfl ?_
          obtain ⟨r11, h12, hf⟩ := bd_some hf
          refine z_law_X0_deliver (As := [.ref (E.2.1 54), .int a3]) C hp2 t_622 (Nat.le_of_ble_eq_true rfl) (Nat.le_of_ble_eq_true rfl) dX2_timesTillHad_67 (Nat.le_of_ble_eq_true rfl) rfl rfl (m_X0_deliver X.2.1 E N p2 54 hp2 pe_54 a3 r9.2 _ h12) ?_
          change Zz E X YX2_timesTillHad (some (.int R.1), R.2) r11.2 _ _ [.int r11.1]
          refine z_pop C dX2_timesTillHad_70 rfl ?_
          refine z_iinc (v := (a6 + 1)) (lv' := [(6, .int (a6 + 1)), (5, .int (a5 ||| r9.1)), (7, .int r7.1), (0, .ref (E.2.1 53)), (2, .ref (E.2.1 p2)), (3, .int a3), (4, .int a4)]) C dX2_timesTillHad_71 6 rfl rfl (by decide) rfl ?_
          refine z_goto (tgt := 14) C dX2_timesTillHad_74 (by decide) ?_
          refine z_sub [(0, .ref (E.2.1 53)), (2, .ref (E.2.1 p2)), (3, .int a3), (4, .int a4), (5, .int (a5 ||| r9.1)), (6, .int (a6 + 1))] [3, 4, 5, 6, 1, 0] rfl ?_
          exact ih a3 a4 (a5 ||| r9.1) (a6 + 1) r11.2 _ hf hx14 hr14
        · replace hf := ifn hf h6
          refine z_iload C dX2_timesTillHad_31 5 rfl ?_
          have hq := hr14 _ (Option.some.inj hf).symm
          exact z_iret C dX2_timesTillHad_33 rfl hq
  unfold f_X2_timesTillHad at hf
  refine z_aload_n C dX2_timesTillHad_0 0 rfl ?_
  refine z_get (v := .ref (E.2.1 54)) (T := TX2) (N := 5) (ci := 1) C (by decide) wc_mi rfl in_X2 0 (by decide) t_167 rfl dX2_timesTillHad_1 ?_
  refine z_aload_n C dX2_timesTillHad_4 1 rfl ?_
  obtain ⟨r1, h2, hf⟩ := bd_some hf
  refine z_callV (Y2 := YX5_takeFrom) (CC := RX5) (T := TX5) (N := 3) (ci := 4) (As := [.ref (E.2.1 p1)]) C lk_X5_takeFrom (lt_pe pe_54) (wc_pe pe_54) rfl t_617 t_287 t_288 (Nat.le_of_ble_eq_true rfl) (Nat.le_of_ble_eq_true rfl) dX2_timesTillHad_5 (Nat.le_of_ble_eq_true rfl) rfl rfl (m_X5_takeFrom X.2.1 E N 54 p1 pe_54 hp1 σ _ h2) ?_
  change Zz E X YX2_timesTillHad (some (.int R.1), R.2) r1 _ _ []
  refine z_iconst (v := 0) C dX2_timesTillHad_8 (by decide) ?_
  refine z_istore (lv' := [(5, .int 0), (0, .ref (E.2.1 53)), (1, .ref (E.2.1 p1)), (2, .ref (E.2.1 p2)), (3, .int x3), (4, .int x4)]) C dX2_timesTillHad_9 (by decide) rfl ?_
  refine z_iconst (v := 0) C dX2_timesTillHad_11 (by decide) ?_
  refine z_istore (lv' := [(6, .int 0), (5, .int 0), (0, .ref (E.2.1 53)), (1, .ref (E.2.1 p1)), (2, .ref (E.2.1 p2)), (3, .int x3), (4, .int x4)]) C dX2_timesTillHad_12 (by decide) rfl ?_
  refine z_sub [(0, .ref (E.2.1 53)), (2, .ref (E.2.1 p2)), (3, .int x3), (4, .int x4), (5, .int 0), (6, .int 0)] [2, 4, 5, 6, 1, 0] rfl ?_
  rcases ex1_some hf with ⟨s13, h15, hf⟩ | ⟨r14, h15, hf⟩
  · refine hL14 N x3 x4 0 0 r1 _ h15 (fun S e => ?_) (fun _ e => nomatch e)
    cases e
    refine z_bipush (v := (-9)) C dX2_timesTillHad_77 (by decide) ?_
    exact z_iret C dX2_timesTillHad_79 rfl (by rw [← Option.some.inj hf])
  · refine hL14 N x3 x4 0 0 r1 _ h15 (fun _ e => nomatch e) (fun r e => ?_)
    cases e
    exact (by rw [← Option.some.inj hf])
theorem lk_X2_timesTillHad {Y : Yv} : Lk Y YX2_timesTillHad 4 := ⟨t_690, t_6, ⟨by decide +kernel, by decide +kernel⟩, by decide +kernel⟩
abbrev YX2_allWentSo : Yv := (yX2_allWentSo, cX2_allWentSo, 5, some .boolean, 3, 79)
def f_X2_allWentSo_B2 (N : Nat) (p1 : Nat) (p2 : Nat) (rec : Int32 → Sg → Option ((Sg) ⊕ (Int32 × Sg))) (a3 : Int32) (σ : Sg) : Option ((Sg) ⊕ (Int32 × Sg)) :=
  if (σ (p1 + 12) 1) ≤ a3 then (some (.inl σ)) else ((f_X4_get N (p1 + 12) a3 σ).bind (fun r2 => (f_X0_receiver N p2 54 r2.1 r2.2).bind (fun r4 => (f_X4_get N (p1 + 14) a3 r4.2).bind (fun r6 => if r4.1 = r6.1 then (rec (a3 + 1) r6.2) else (some (.inr (0, r6.2)))))))
def f_X2_allWentSo_L2 (N : Nat) (p1 : Nat) (p2 : Nat) : Nat → Int32 → Sg → Option ((Sg) ⊕ (Int32 × Sg))
  | 0 => fun _ _ => none
  | k + 1 => fun a3 σ => f_X2_allWentSo_B2 N p1 p2 (f_X2_allWentSo_L2 N p1 p2 k) a3 σ
def f_X2_allWentSo (N : Nat) (p1 : Nat) (p2 : Nat) (σ : Sg) : Option (Int32 × Sg) :=
  ex1 (f_X2_allWentSo_L2 N p1 p2 N 0 σ) (fun s9 => some (1, s9)) (fun r10 => some r10)
set_option maxHeartbeats 4000000 in
set_option maxRecDepth 20000 in
theorem m_X2_allWentSo (l : Launch) (E : Ev) (N : Nat) (p1 : Nat) (p2 : Nat) (hp1 : isSt p1) (hp2 : isLa p2) (σ : Sg) (R : Int32 × Sg) (hf : f_X2_allWentSo N p1 p2 σ = some R) : Ct l E YX2_allWentSo [.ref (E.2.1 53), .ref (E.2.1 p1), .ref (E.2.1 p2)] σ (some (.int R.1), R.2) := by
  refine ct_of (by decide +kernel) (Nat.le_of_ble_eq_true rfl) [(0, .ref (E.2.1 53)), (1, .ref (E.2.1 p1)), (2, .ref (E.2.1 p2))] rfl (fun X hX C => ?_)
  have hL2 : ∀ (k : Nat) (a3 : Int32) (σ : Sg) (Q2 : (Sg) ⊕ (Int32 × Sg)), f_X2_allWentSo_L2 N p1 p2 k a3 σ = some Q2 → (∀ S, Q2 = .inl S → Zz E X YX2_allWentSo (some (.int R.1), R.2) S 52 [] []) → (∀ r, Q2 = .inr r → ((some (.int R.1), R.2) : Pv) = (some (.int r.1), r.2)) → Zz E X YX2_allWentSo (some (.int R.1), R.2) σ 2 [(0, .ref (E.2.1 53)), (1, .ref (E.2.1 p1)), (2, .ref (E.2.1 p2)), (3, .int a3)] [] := by
    intro k
    induction k with
    | zero =>
      intro a3 σ Q2 hf
      have hf : (none : Option ((Sg) ⊕ (Int32 × Sg))) = some Q2 := hf
      cases hf
    | succ k ih =>
      intro a3 σ Q2 hf hx2 hr2
      have hf : f_X2_allWentSo_B2 N p1 p2 (f_X2_allWentSo_L2 N p1 p2 k) a3 σ = some Q2 := hf
      unfold f_X2_allWentSo_B2 at hf
      refine z_iload_n C dX2_allWentSo_2 3 rfl ?_
      refine z_aload_n C dX2_allWentSo_3 1 rfl ?_
      refine z_getN (v := .ref (E.2.1 (p1 + 12))) (T := TX9) (N := 11) (ci := 8) C (lt_st hp1) (wc_st hp1) rfl in_X9 5 (by decide) n_96 rfl dX2_allWentSo_4 ?_
      refine z_getN (v := .int (σ (p1 + 12) 1)) (T := TX4) (N := 2) (ci := 3) C (lt_nu (hp1).2.2.2.2.2.2.1) (wc_nu (hp1).2.2.2.2.2.2.1) rfl in_X4 1 (by decide) n_71 rfl dX2_allWentSo_7 ?_
      refine z_icmp_ge (tgt := 52) C dX2_allWentSo_10 (by decide) (fun h1 => ?_) (fun h1 => ?_)
      · replace hf := ifp hf h1
        refine z_sub [] [] rfl ?_
        exact hx2 _ (Option.some.inj hf).symm
      · replace hf := ifn hf h1
        refine z_aload_n C dX2_allWentSo_13 2 rfl ?_
        refine z_aload_n C dX2_allWentSo_14 0 rfl ?_
        refine z_get (v := .ref (E.2.1 54)) (T := TX2) (N := 5) (ci := 1) C (by decide) wc_mi rfl in_X2 0 (by decide) t_167 rfl dX2_allWentSo_15 ?_
        refine z_aload_n C dX2_allWentSo_18 1 rfl ?_
        refine z_getN (v := .ref (E.2.1 (p1 + 12))) (T := TX9) (N := 11) (ci := 8) C (lt_st hp1) (wc_st hp1) rfl in_X9 5 (by decide) n_96 rfl dX2_allWentSo_19 ?_
        refine z_iload_n C dX2_allWentSo_22 3 rfl ?_
        obtain ⟨r2, h3, hf⟩ := bd_some hf
        refine z_callV (Y2 := YX4_get) (CC := RX4) (T := TX4) (N := 2) (ci := 3) (As := [.int a3]) C lk_X4_get (lt_nu (hp1).2.2.2.2.2.2.1) (wc_nu (hp1).2.2.2.2.2.2.1) rfl t_650 t_302 t_303 (Nat.le_of_ble_eq_true rfl) (Nat.le_of_ble_eq_true rfl) dX2_allWentSo_23 (Nat.le_of_ble_eq_true rfl) rfl rfl (m_X4_get X.2.1 E N (p1 + 12) (hp1).2.2.2.2.2.2.1 a3 σ _ h3) ?_
        change Zz E X YX2_allWentSo (some (.int R.1), R.2) r2.2 _ _ [.int r2.1, .ref (E.2.1 54), .ref (E.2.1 p2)]
        obtain ⟨r4, h5, hf⟩ := bd_some hf
        refine z_law_X0_receiver (As := [.ref (E.2.1 54), .int r2.1]) C hp2 t_697 (Nat.le_of_ble_eq_true rfl) (Nat.le_of_ble_eq_true rfl) dX2_allWentSo_26 (Nat.le_of_ble_eq_true rfl) rfl rfl (m_X0_receiver X.2.1 E N p2 54 hp2 pe_54 r2.1 r2.2 _ h5) ?_
        change Zz E X YX2_allWentSo (some (.int R.1), R.2) r4.2 _ _ [.int r4.1]
        refine z_istore (lv' := [(4, .int r4.1), (0, .ref (E.2.1 53)), (1, .ref (E.2.1 p1)), (2, .ref (E.2.1 p2)), (3, .int a3)]) C dX2_allWentSo_29 (by decide) rfl ?_
        refine z_iload C dX2_allWentSo_31 0 rfl ?_
        refine z_aload_n C dX2_allWentSo_33 2 rfl ?_
        refine z_getN (v := .ref (E.2.1 (p1 + 14))) (T := TX9) (N := 11) (ci := 8) C (lt_st hp1) (wc_st hp1) rfl in_X9 6 (by decide) n_99 rfl dX2_allWentSo_34 ?_
        refine z_iload_n C dX2_allWentSo_37 4 rfl ?_
        obtain ⟨r6, h7, hf⟩ := bd_some hf
        refine z_callV (Y2 := YX4_get) (CC := RX4) (T := TX4) (N := 2) (ci := 3) (As := [.int a3]) C lk_X4_get (lt_nu (hp1).2.2.2.2.2.2.2) (wc_nu (hp1).2.2.2.2.2.2.2) rfl t_650 t_302 t_303 (Nat.le_of_ble_eq_true rfl) (Nat.le_of_ble_eq_true rfl) dX2_allWentSo_38 (Nat.le_of_ble_eq_true rfl) rfl rfl (m_X4_get X.2.1 E N (p1 + 14) (hp1).2.2.2.2.2.2.2 a3 r4.2 _ h7) ?_
        change Zz E X YX2_allWentSo (some (.int R.1), R.2) r6.2 _ _ [.int r6.1, .int r4.1]
        refine z_icmp_eq (tgt := 46) C dX2_allWentSo_41 (by decide) (fun h8 => ?_) (fun h8 => ?_)
        · replace hf := ifp hf h8
          refine z_iinc (v := (a3 + 1)) (lv' := [(3, .int (a3 + 1)), (4, .int r4.1), (0, .ref (E.2.1 53)), (1, .ref (E.2.1 p1)), (2, .ref (E.2.1 p2))]) C dX2_allWentSo_46 4 rfl rfl (by decide) rfl ?_
          refine z_goto (tgt := 2) C dX2_allWentSo_49 (by decide) ?_
          refine z_sub [(0, .ref (E.2.1 53)), (1, .ref (E.2.1 p1)), (2, .ref (E.2.1 p2)), (3, .int (a3 + 1))] [2, 3, 4, 0] rfl ?_
          exact ih (a3 + 1) r6.2 _ hf hx2 hr2
        · replace hf := ifn hf h8
          refine z_iconst (v := 0) C dX2_allWentSo_44 (by decide) ?_
          have hq := hr2 _ (Option.some.inj hf).symm
          exact z_zret C dX2_allWentSo_45 rfl rfl hq
  unfold f_X2_allWentSo at hf
  refine z_iconst (v := 0) C dX2_allWentSo_0 (by decide) ?_
  refine z_istore_n (lv' := [(3, .int 0), (0, .ref (E.2.1 53)), (1, .ref (E.2.1 p1)), (2, .ref (E.2.1 p2))]) C dX2_allWentSo_1 (by decide) rfl ?_
  refine z_sub [(0, .ref (E.2.1 53)), (1, .ref (E.2.1 p1)), (2, .ref (E.2.1 p2)), (3, .int 0)] [1, 2, 3, 0] rfl ?_
  rcases ex1_some hf with ⟨s9, h11, hf⟩ | ⟨r10, h11, hf⟩
  · refine hL2 N 0 σ _ h11 (fun S e => ?_) (fun _ e => nomatch e)
    cases e
    refine z_iconst (v := 1) C dX2_allWentSo_52 (by decide) ?_
    exact z_zret C dX2_allWentSo_53 rfl rfl (by rw [← Option.some.inj hf])
  · refine hL2 N 0 σ _ h11 (fun _ e => nomatch e) (fun r e => ?_)
    cases e
    exact (by rw [← Option.some.inj hf])
theorem lk_X2_allWentSo {Y : Yv} : Lk Y YX2_allWentSo 2 := ⟨t_715, t_6, ⟨by decide +kernel, by decide +kernel⟩, by decide +kernel⟩
abbrev YX2_fittingValues : Yv := (yX2_fittingValues, cX2_fittingValues, 7, some .int, 4, 103)
def f_X2_fittingValues_B17 (N : Nat) (p1 : Nat) (p2 : Nat) (rec : Int32 → Int32 → Int32 → Int32 → Sg → Option (Int32 × Sg)) (a3 a4 a5 a6 : Int32) (σ : Sg) : Option (Int32 × Sg) :=
  if 30 < a6 then (some (a5, σ)) else ((f_X5_setLack N 54 a3 a4 a6 σ).bind (fun r4 => (f_X2_allWentSo N p1 p2 r4).bind (fun r6 => if r6.1 = 0 then (rec a3 a4 a5 (a6 + 1) r6.2) else (nm (a5 ||| ((1 : Int32) <<< (a6 &&& 31))) (fun v9 => rec a3 a4 v9 (a6 + 1) r6.2)))))
def f_X2_fittingValues_L17 (N : Nat) (p1 : Nat) (p2 : Nat) : Nat → Int32 → Int32 → Int32 → Int32 → Sg → Option (Int32 × Sg)
  | 0 => fun _ _ _ _ _ => none
  | k + 1 => fun a3 a4 a5 a6 σ => f_X2_fittingValues_B17 N p1 p2 (f_X2_fittingValues_L17 N p1 p2 k) a3 a4 a5 a6 σ
def f_X2_fittingValues (N : Nat) (p1 : Nat) (p2 : Nat) (x3 x4 : Int32) (σ : Sg) : Option (Int32 × Sg) :=
  (f_X5_takeFrom N 54 (p1 + 1) σ).bind (fun r1 => (f_X2_fittingValues_L17 N p1 p2 N x3 x4 0 0 r1).bind (fun s11 => some (s11.1, s11.2)))
set_option maxHeartbeats 4000000 in
set_option maxRecDepth 20000 in
theorem m_X2_fittingValues (l : Launch) (E : Ev) (N : Nat) (p1 : Nat) (p2 : Nat) (hp1 : isSt p1) (hp2 : isLa p2) (x3 x4 : Int32) (σ : Sg) (R : Int32 × Sg) (hf : f_X2_fittingValues N p1 p2 x3 x4 σ = some R) : Ct l E YX2_fittingValues [.ref (E.2.1 53), .ref (E.2.1 p1), .ref (E.2.1 p2), .int x3, .int x4] σ (some (.int R.1), R.2) := by
  refine ct_of (by decide +kernel) (Nat.le_of_ble_eq_true rfl) [(0, .ref (E.2.1 53)), (1, .ref (E.2.1 p1)), (2, .ref (E.2.1 p2)), (3, .int x3), (4, .int x4)] rfl (fun X hX C => ?_)
  have hL17 : ∀ (k : Nat) (a3 a4 a5 a6 : Int32) (σ : Sg) (Q17 : Int32 × Sg), f_X2_fittingValues_L17 N p1 p2 k a3 a4 a5 a6 σ = some Q17 → (Zz E X YX2_fittingValues (some (.int R.1), R.2) Q17.2 60 [(5, .int Q17.1)] []) → Zz E X YX2_fittingValues (some (.int R.1), R.2) σ 17 [(0, .ref (E.2.1 53)), (1, .ref (E.2.1 p1)), (2, .ref (E.2.1 p2)), (3, .int a3), (4, .int a4), (5, .int a5), (6, .int a6)] [] := by
    intro k
    induction k with
    | zero =>
      intro a3 a4 a5 a6 σ Q17 hf
      have hf : (none : Option (Int32 × Sg)) = some Q17 := hf
      cases hf
    | succ k ih =>
      intro a3 a4 a5 a6 σ Q17 hf hx17
      have hf : f_X2_fittingValues_B17 N p1 p2 (f_X2_fittingValues_L17 N p1 p2 k) a3 a4 a5 a6 σ = some Q17 := hf
      unfold f_X2_fittingValues_B17 at hf
      refine z_iload C dX2_fittingValues_17 6 rfl ?_
      refine z_bipush (v := 30) C dX2_fittingValues_19 (by decide) ?_
      refine z_icmp_gt (tgt := 60) C dX2_fittingValues_21 (by decide) (fun h3 => ?_) (fun h3 => ?_)
      · replace hf := ifp hf h3
        refine z_sub [(5, .int a5)] [5] rfl ?_
        obtain rfl := Option.some.inj hf
        exact hx17
      · replace hf := ifn hf h3
        refine z_aload_n C dX2_fittingValues_24 0 rfl ?_
        refine z_get (v := .ref (E.2.1 54)) (T := TX2) (N := 5) (ci := 1) C (by decide) wc_mi rfl in_X2 0 (by decide) t_167 rfl dX2_fittingValues_25 ?_
        refine z_iload_n C dX2_fittingValues_28 3 rfl ?_
        refine z_iload C dX2_fittingValues_29 4 rfl ?_
        refine z_iload C dX2_fittingValues_31 6 rfl ?_
        obtain ⟨r4, h5, hf⟩ := bd_some hf
        refine z_callV (Y2 := YX5_setLack) (CC := RX5) (T := TX5) (N := 3) (ci := 4) (As := [.int a3, .int a4, .int a6]) C lk_X5_setLack (lt_pe pe_54) (wc_pe pe_54) rfl t_711 t_409 t_410 (Nat.le_of_ble_eq_true rfl) (Nat.le_of_ble_eq_true rfl) dX2_fittingValues_33 (Nat.le_of_ble_eq_true rfl) rfl rfl (m_X5_setLack X.2.1 E N 54 pe_54 a3 a4 a6 σ _ h5) ?_
        change Zz E X YX2_fittingValues (some (.int R.1), R.2) r4 _ _ []
        refine z_aload_n C dX2_fittingValues_36 0 rfl ?_
        refine z_aload_n C dX2_fittingValues_37 1 rfl ?_
        refine z_aload_n C dX2_fittingValues_38 2 rfl ?_
        obtain ⟨r6, h7, hf⟩ := bd_some hf
        refine z_callV (Y2 := YX2_allWentSo) (CC := RX2) (T := TX2) (N := 5) (ci := 1) (As := [.ref (E.2.1 p1), .ref (E.2.1 p2)]) C lk_X2_allWentSo (by decide) wc_mi rfl t_712 t_714 p_21 (Nat.le_of_ble_eq_true rfl) (Nat.le_of_ble_eq_true rfl) dX2_fittingValues_39 (Nat.le_of_ble_eq_true rfl) rfl rfl (m_X2_allWentSo X.2.1 E N p1 p2 hp1 hp2 r4 _ h7) ?_
        change Zz E X YX2_fittingValues (some (.int R.1), R.2) r6.2 _ _ [.int r6.1]
        refine z_if_eq (tgt := 54) C dX2_fittingValues_42 (by decide) (fun h8 => ?_) (fun h8 => ?_)
        · replace hf := ifp hf h8
          refine z_iinc (v := (a6 + 1)) (lv' := [(6, .int (a6 + 1)), (0, .ref (E.2.1 53)), (1, .ref (E.2.1 p1)), (2, .ref (E.2.1 p2)), (3, .int a3), (4, .int a4), (5, .int a5)]) C dX2_fittingValues_54 6 rfl rfl (by decide) rfl ?_
          refine z_goto (tgt := 17) C dX2_fittingValues_57 (by decide) ?_
          refine z_sub [(0, .ref (E.2.1 53)), (1, .ref (E.2.1 p1)), (2, .ref (E.2.1 p2)), (3, .int a3), (4, .int a4), (5, .int a5), (6, .int (a6 + 1))] [1, 2, 3, 4, 5, 6, 0] rfl ?_
          exact ih a3 a4 a5 (a6 + 1) r6.2 _ hf hx17
        · replace hf := ifn hf h8
          refine z_iload C dX2_fittingValues_45 5 rfl ?_
          refine z_iconst (v := 1) C dX2_fittingValues_47 (by decide) ?_
          refine z_iload C dX2_fittingValues_48 6 rfl ?_
          refine z_ishl C dX2_fittingValues_50 ?_
          refine z_ior C dX2_fittingValues_51 ?_
          obtain ⟨v9, h10, hf⟩ := nm_some hf
          rw [← h10]
          refine z_istore (lv' := [(5, .int v9), (0, .ref (E.2.1 53)), (1, .ref (E.2.1 p1)), (2, .ref (E.2.1 p2)), (3, .int a3), (4, .int a4), (6, .int a6)]) C dX2_fittingValues_52 (by decide) rfl ?_
          refine z_iinc (v := (a6 + 1)) (lv' := [(6, .int (a6 + 1)), (5, .int v9), (0, .ref (E.2.1 53)), (1, .ref (E.2.1 p1)), (2, .ref (E.2.1 p2)), (3, .int a3), (4, .int a4)]) C dX2_fittingValues_54 6 rfl rfl (by decide) rfl ?_
          refine z_goto (tgt := 17) C dX2_fittingValues_57 (by decide) ?_
          refine z_sub [(0, .ref (E.2.1 53)), (1, .ref (E.2.1 p1)), (2, .ref (E.2.1 p2)), (3, .int a3), (4, .int a4), (5, .int v9), (6, .int (a6 + 1))] [2, 3, 4, 5, 6, 1, 0] rfl ?_
          exact ih a3 a4 v9 (a6 + 1) r6.2 _ hf hx17
  unfold f_X2_fittingValues at hf
  refine z_aload_n C dX2_fittingValues_0 0 rfl ?_
  refine z_get (v := .ref (E.2.1 54)) (T := TX2) (N := 5) (ci := 1) C (by decide) wc_mi rfl in_X2 0 (by decide) t_167 rfl dX2_fittingValues_1 ?_
  refine z_aload_n C dX2_fittingValues_4 1 rfl ?_
  refine z_getN (v := .ref (E.2.1 (p1 + 1))) (T := TX9) (N := 11) (ci := 8) C (lt_st hp1) (wc_st hp1) rfl in_X9 0 (by decide) n_80 rfl dX2_fittingValues_5 ?_
  obtain ⟨r1, h2, hf⟩ := bd_some hf
  refine z_callV (Y2 := YX5_takeFrom) (CC := RX5) (T := TX5) (N := 3) (ci := 4) (As := [.ref (E.2.1 (p1 + 1))]) C lk_X5_takeFrom (lt_pe pe_54) (wc_pe pe_54) rfl t_617 t_287 t_288 (Nat.le_of_ble_eq_true rfl) (Nat.le_of_ble_eq_true rfl) dX2_fittingValues_8 (Nat.le_of_ble_eq_true rfl) rfl rfl (m_X5_takeFrom X.2.1 E N 54 (p1 + 1) pe_54 (hp1).2.1 σ _ h2) ?_
  change Zz E X YX2_fittingValues (some (.int R.1), R.2) r1 _ _ []
  refine z_iconst (v := 0) C dX2_fittingValues_11 (by decide) ?_
  refine z_istore (lv' := [(5, .int 0), (0, .ref (E.2.1 53)), (1, .ref (E.2.1 p1)), (2, .ref (E.2.1 p2)), (3, .int x3), (4, .int x4)]) C dX2_fittingValues_12 (by decide) rfl ?_
  refine z_iconst (v := 0) C dX2_fittingValues_14 (by decide) ?_
  refine z_istore (lv' := [(6, .int 0), (5, .int 0), (0, .ref (E.2.1 53)), (1, .ref (E.2.1 p1)), (2, .ref (E.2.1 p2)), (3, .int x3), (4, .int x4)]) C dX2_fittingValues_15 (by decide) rfl ?_
  refine z_sub [(0, .ref (E.2.1 53)), (1, .ref (E.2.1 p1)), (2, .ref (E.2.1 p2)), (3, .int x3), (4, .int x4), (5, .int 0), (6, .int 0)] [2, 3, 4, 5, 6, 1, 0] rfl ?_
  obtain ⟨s11, h12, hf⟩ := bd_some hf
  refine hL17 N x3 x4 0 0 r1 _ h12 ?_
  refine z_iload C dX2_fittingValues_60 0 rfl ?_
  exact z_iret C dX2_fittingValues_62 rfl (by rw [← Option.some.inj hf])
theorem lk_X2_fittingValues {Y : Yv} : Lk Y YX2_fittingValues 4 := ⟨t_710, t_6, ⟨by decide +kernel, by decide +kernel⟩, by decide +kernel⟩
abbrev YX2_receiversOver : Yv := (yX2_receiversOver, cX2_receiversOver, 9, some .int, 3, 79)
def f_X2_receiversOver_B6 (N : Nat) (p1 : Nat) (rec : Int32 → Int32 → Int32 → Int32 → Int32 → Int32 → Sg → Option (Int32 × Sg)) (a2 a3 a4 a5 a6 a7 : Int32) (σ : Sg) : Option (Int32 × Sg) :=
  if 30 < a7 then (some (a6, σ)) else (if ((a4 >>> (a7 &&& 31)) &&& 1) = 1 then ((f_X5_setLack N 54 a2 a3 a7 σ).bind (fun r3 => (f_X0_receiver N p1 54 a5 r3).bind (fun r5 => if r5.1 = (-9) then (nm (a6 ||| ((1 : Int32) <<< (6 &&& 31))) (fun v10 => rec a2 a3 a4 a5 v10 (a7 + 1) r5.2)) else (nm (a6 ||| ((1 : Int32) <<< (r5.1 &&& 31))) (fun v8 => rec a2 a3 a4 a5 v8 (a7 + 1) r5.2))))) else (rec a2 a3 a4 a5 a6 (a7 + 1) σ))
def f_X2_receiversOver_L6 (N : Nat) (p1 : Nat) : Nat → Int32 → Int32 → Int32 → Int32 → Int32 → Int32 → Sg → Option (Int32 × Sg)
  | 0 => fun _ _ _ _ _ _ _ => none
  | k + 1 => fun a2 a3 a4 a5 a6 a7 σ => f_X2_receiversOver_B6 N p1 (f_X2_receiversOver_L6 N p1 k) a2 a3 a4 a5 a6 a7 σ
def f_X2_receiversOver (N : Nat) (p1 : Nat) (x2 x3 x4 x5 : Int32) (σ : Sg) : Option (Int32 × Sg) :=
  (f_X2_receiversOver_L6 N p1 N x2 x3 x4 x5 0 0 σ).bind (fun s12 => (f_J6_bitCount_0f7a4 N s12.1 s12.2).bind (fun r13 => some (r13.1, r13.2)))
set_option maxHeartbeats 4000000 in
set_option maxRecDepth 20000 in
theorem m_X2_receiversOver (l : Launch) (E : Ev) (N : Nat) (p1 : Nat) (hp1 : isLa p1) (x2 x3 x4 x5 : Int32) (σ : Sg) (R : Int32 × Sg) (hf : f_X2_receiversOver N p1 x2 x3 x4 x5 σ = some R) : Ct l E YX2_receiversOver [.ref (E.2.1 53), .ref (E.2.1 p1), .int x2, .int x3, .int x4, .int x5] σ (some (.int R.1), R.2) := by
  refine ct_of (by decide +kernel) (Nat.le_of_ble_eq_true rfl) [(0, .ref (E.2.1 53)), (1, .ref (E.2.1 p1)), (2, .int x2), (3, .int x3), (4, .int x4), (5, .int x5)] rfl (fun X hX C => ?_)
  have hL6 : ∀ (k : Nat) (a2 a3 a4 a5 a6 a7 : Int32) (σ : Sg) (Q6 : Int32 × Sg), f_X2_receiversOver_L6 N p1 k a2 a3 a4 a5 a6 a7 σ = some Q6 → (Zz E X YX2_receiversOver (some (.int R.1), R.2) Q6.2 74 [(6, .int Q6.1)] []) → Zz E X YX2_receiversOver (some (.int R.1), R.2) σ 6 [(0, .ref (E.2.1 53)), (1, .ref (E.2.1 p1)), (2, .int a2), (3, .int a3), (4, .int a4), (5, .int a5), (6, .int a6), (7, .int a7)] [] := by
    intro k
    induction k with
    | zero =>
      intro a2 a3 a4 a5 a6 a7 σ Q6 hf
      have hf : (none : Option (Int32 × Sg)) = some Q6 := hf
      cases hf
    | succ k ih =>
      intro a2 a3 a4 a5 a6 a7 σ Q6 hf hx6
      have hf : f_X2_receiversOver_B6 N p1 (f_X2_receiversOver_L6 N p1 k) a2 a3 a4 a5 a6 a7 σ = some Q6 := hf
      unfold f_X2_receiversOver_B6 at hf
      refine z_iload C dX2_receiversOver_6 7 rfl ?_
      refine z_bipush (v := 30) C dX2_receiversOver_8 (by decide) ?_
      refine z_icmp_gt (tgt := 74) C dX2_receiversOver_10 (by decide) (fun h1 => ?_) (fun h1 => ?_)
      · replace hf := ifp hf h1
        refine z_sub [(6, .int a6)] [6] rfl ?_
        obtain rfl := Option.some.inj hf
        exact hx6
      · replace hf := ifn hf h1
        refine z_iload C dX2_receiversOver_13 4 rfl ?_
        refine z_iload C dX2_receiversOver_15 7 rfl ?_
        refine z_ishr C dX2_receiversOver_17 ?_
        refine z_iconst (v := 1) C dX2_receiversOver_18 (by decide) ?_
        refine z_iand C dX2_receiversOver_19 ?_
        refine z_iconst (v := 1) C dX2_receiversOver_20 (by decide) ?_
        refine z_icmp_ne (tgt := 68) C dX2_receiversOver_21 (by decide) (fun h2 => ?_) (fun h2 => ?_)
        · replace hf := ifn hf h2
          refine z_iinc (v := (a7 + 1)) (lv' := [(7, .int (a7 + 1)), (0, .ref (E.2.1 53)), (1, .ref (E.2.1 p1)), (2, .int a2), (3, .int a3), (4, .int a4), (5, .int a5), (6, .int a6)]) C dX2_receiversOver_68 7 rfl rfl (by decide) rfl ?_
          refine z_goto (tgt := 6) C dX2_receiversOver_71 (by decide) ?_
          refine z_sub [(0, .ref (E.2.1 53)), (1, .ref (E.2.1 p1)), (2, .int a2), (3, .int a3), (4, .int a4), (5, .int a5), (6, .int a6), (7, .int (a7 + 1))] [1, 2, 3, 4, 5, 6, 7, 0] rfl ?_
          exact ih a2 a3 a4 a5 a6 (a7 + 1) σ _ hf hx6
        · replace hf := ifp hf h2
          refine z_aload_n C dX2_receiversOver_24 0 rfl ?_
          refine z_get (v := .ref (E.2.1 54)) (T := TX2) (N := 5) (ci := 1) C (by decide) wc_mi rfl in_X2 0 (by decide) t_167 rfl dX2_receiversOver_25 ?_
          refine z_iload_n C dX2_receiversOver_28 2 rfl ?_
          refine z_iload_n C dX2_receiversOver_29 3 rfl ?_
          refine z_iload C dX2_receiversOver_30 7 rfl ?_
          obtain ⟨r3, h4, hf⟩ := bd_some hf
          refine z_callV (Y2 := YX5_setLack) (CC := RX5) (T := TX5) (N := 3) (ci := 4) (As := [.int a2, .int a3, .int a7]) C lk_X5_setLack (lt_pe pe_54) (wc_pe pe_54) rfl t_711 t_409 t_410 (Nat.le_of_ble_eq_true rfl) (Nat.le_of_ble_eq_true rfl) dX2_receiversOver_32 (Nat.le_of_ble_eq_true rfl) rfl rfl (m_X5_setLack X.2.1 E N 54 pe_54 a2 a3 a7 σ _ h4) ?_
          change Zz E X YX2_receiversOver (some (.int R.1), R.2) r3 _ _ []
          refine z_aload_n C dX2_receiversOver_35 1 rfl ?_
          refine z_aload_n C dX2_receiversOver_36 0 rfl ?_
          refine z_get (v := .ref (E.2.1 54)) (T := TX2) (N := 5) (ci := 1) C (by decide) wc_mi rfl in_X2 0 (by decide) t_167 rfl dX2_receiversOver_37 ?_
          refine z_iload C dX2_receiversOver_40 5 rfl ?_
          obtain ⟨r5, h6, hf⟩ := bd_some hf
          refine z_law_X0_receiver (As := [.ref (E.2.1 54), .int a5]) C hp1 t_697 (Nat.le_of_ble_eq_true rfl) (Nat.le_of_ble_eq_true rfl) dX2_receiversOver_42 (Nat.le_of_ble_eq_true rfl) rfl rfl (m_X0_receiver X.2.1 E N p1 54 hp1 pe_54 a5 r3 _ h6) ?_
          change Zz E X YX2_receiversOver (some (.int R.1), R.2) r5.2 _ _ [.int r5.1]
          refine z_istore (lv' := [(8, .int r5.1), (0, .ref (E.2.1 53)), (1, .ref (E.2.1 p1)), (2, .int a2), (3, .int a3), (4, .int a4), (5, .int a5), (6, .int a6), (7, .int a7)]) C dX2_receiversOver_45 (by decide) rfl ?_
          refine z_iload C dX2_receiversOver_47 7 rfl ?_
          refine z_iconst (v := 1) C dX2_receiversOver_49 (by decide) ?_
          refine z_iload C dX2_receiversOver_50 0 rfl ?_
          refine z_bipush (v := (-9)) C dX2_receiversOver_52 (by decide) ?_
          refine z_icmp_ne (tgt := 62) C dX2_receiversOver_54 (by decide) (fun h7 => ?_) (fun h7 => ?_)
          · replace hf := ifn hf h7
            refine z_iload C dX2_receiversOver_62 0 rfl ?_
            refine z_ishl C dX2_receiversOver_64 ?_
            refine z_ior C dX2_receiversOver_65 ?_
            obtain ⟨v8, h9, hf⟩ := nm_some hf
            rw [← h9]
            refine z_istore (lv' := [(6, .int v8), (8, .int r5.1), (0, .ref (E.2.1 53)), (1, .ref (E.2.1 p1)), (2, .int a2), (3, .int a3), (4, .int a4), (5, .int a5), (7, .int a7)]) C dX2_receiversOver_66 (by decide) rfl ?_
            refine z_iinc (v := (a7 + 1)) (lv' := [(7, .int (a7 + 1)), (6, .int v8), (8, .int r5.1), (0, .ref (E.2.1 53)), (1, .ref (E.2.1 p1)), (2, .int a2), (3, .int a3), (4, .int a4), (5, .int a5)]) C dX2_receiversOver_68 8 rfl rfl (by decide) rfl ?_
            refine z_goto (tgt := 6) C dX2_receiversOver_71 (by decide) ?_
            refine z_sub [(0, .ref (E.2.1 53)), (1, .ref (E.2.1 p1)), (2, .int a2), (3, .int a3), (4, .int a4), (5, .int a5), (6, .int v8), (7, .int (a7 + 1))] [3, 4, 5, 6, 7, 8, 1, 0] rfl ?_
            exact ih a2 a3 a4 a5 v8 (a7 + 1) r5.2 _ hf hx6
          · replace hf := ifp hf h7
            refine z_bipush (v := 6) C dX2_receiversOver_57 (by decide) ?_
            refine z_goto (tgt := 64) C dX2_receiversOver_59 (by decide) ?_
            refine z_ishl C dX2_receiversOver_64 ?_
            refine z_ior C dX2_receiversOver_65 ?_
            obtain ⟨v10, h11, hf⟩ := nm_some hf
            rw [← h11]
            refine z_istore (lv' := [(6, .int v10), (8, .int r5.1), (0, .ref (E.2.1 53)), (1, .ref (E.2.1 p1)), (2, .int a2), (3, .int a3), (4, .int a4), (5, .int a5), (7, .int a7)]) C dX2_receiversOver_66 (by decide) rfl ?_
            refine z_iinc (v := (a7 + 1)) (lv' := [(7, .int (a7 + 1)), (6, .int v10), (8, .int r5.1), (0, .ref (E.2.1 53)), (1, .ref (E.2.1 p1)), (2, .int a2), (3, .int a3), (4, .int a4), (5, .int a5)]) C dX2_receiversOver_68 8 rfl rfl (by decide) rfl ?_
            refine z_goto (tgt := 6) C dX2_receiversOver_71 (by decide) ?_
            refine z_sub [(0, .ref (E.2.1 53)), (1, .ref (E.2.1 p1)), (2, .int a2), (3, .int a3), (4, .int a4), (5, .int a5), (6, .int v10), (7, .int (a7 + 1))] [3, 4, 5, 6, 7, 8, 1, 0] rfl ?_
            exact ih a2 a3 a4 a5 v10 (a7 + 1) r5.2 _ hf hx6
  unfold f_X2_receiversOver at hf
  refine z_iconst (v := 0) C dX2_receiversOver_0 (by decide) ?_
  refine z_istore (lv' := [(6, .int 0), (0, .ref (E.2.1 53)), (1, .ref (E.2.1 p1)), (2, .int x2), (3, .int x3), (4, .int x4), (5, .int x5)]) C dX2_receiversOver_1 (by decide) rfl ?_
  refine z_iconst (v := 0) C dX2_receiversOver_3 (by decide) ?_
  refine z_istore (lv' := [(7, .int 0), (6, .int 0), (0, .ref (E.2.1 53)), (1, .ref (E.2.1 p1)), (2, .int x2), (3, .int x3), (4, .int x4), (5, .int x5)]) C dX2_receiversOver_4 (by decide) rfl ?_
  refine z_sub [(0, .ref (E.2.1 53)), (1, .ref (E.2.1 p1)), (2, .int x2), (3, .int x3), (4, .int x4), (5, .int x5), (6, .int 0), (7, .int 0)] [2, 3, 4, 5, 6, 7, 1, 0] rfl ?_
  obtain ⟨s12, h15, hf⟩ := bd_some hf
  refine hL6 N x2 x3 x4 x5 0 0 σ _ h15 ?_
  refine z_iload C dX2_receiversOver_74 0 rfl ?_
  obtain ⟨r13, h14, hf⟩ := bd_some hf
  refine z_callS (Y2 := YJ6_bitCount_0f7a4) (As := [.int s12.1]) C lk_J6_bitCount_0f7a4 t_691 t_692 (Nat.le_of_ble_eq_true rfl) (Nat.le_of_ble_eq_true rfl) dX2_receiversOver_76 (Nat.le_of_ble_eq_true rfl) rfl rfl (m_J6_bitCount_0f7a4 X.2.1 E N s12.1 s12.2 _ h14) ?_
  change Zz E X YX2_receiversOver (some (.int R.1), R.2) r13.2 _ _ [.int r13.1]
  exact z_iret C dX2_receiversOver_79 rfl (by rw [← Option.some.inj hf])
theorem lk_X2_receiversOver {Y : Yv} : Lk Y YX2_receiversOver 5 := ⟨t_734, t_6, ⟨by decide +kernel, by decide +kernel⟩, by decide +kernel⟩
abbrev YX2_mostTelling : Yv := (yX2_mostTelling, cX2_mostTelling, 10, some .int, 4, 107)
def f_X2_mostTelling_B17 (N : Nat) (p1 : Nat) (p2 : Nat) (rec : Int32 → Int32 → Int32 → Int32 → Int32 → Int32 → Sg → Option (Int32 × Sg)) (a3 a4 a5 a6 a7 a8 : Int32) (σ : Sg) : Option (Int32 × Sg) :=
  if 81 ≤ a8 then (some (a6, σ)) else (ga a8 81 ((f_X2_receiversOver N p2 a3 a4 a5 (twoL.getD (Int32.toNatClampNeg a8) 0) σ).bind (fun r5 => if r5.1 ≤ a7 then (rec a3 a4 a5 a6 a7 (a8 + 1) r5.2) else (ga a8 81 (nm (twoL.getD (Int32.toNatClampNeg a8) 0) (fun v9 => rec a3 a4 a5 v9 r5.1 (a8 + 1) r5.2))))))
def f_X2_mostTelling_L17 (N : Nat) (p1 : Nat) (p2 : Nat) : Nat → Int32 → Int32 → Int32 → Int32 → Int32 → Int32 → Sg → Option (Int32 × Sg)
  | 0 => fun _ _ _ _ _ _ _ => none
  | k + 1 => fun a3 a4 a5 a6 a7 a8 σ => f_X2_mostTelling_B17 N p1 p2 (f_X2_mostTelling_L17 N p1 p2 k) a3 a4 a5 a6 a7 a8 σ
def f_X2_mostTelling (N : Nat) (p1 : Nat) (p2 : Nat) (x3 x4 x5 : Int32) (σ : Sg) : Option (Int32 × Sg) :=
  (f_X5_takeFrom N 54 p1 σ).bind (fun r1 => (f_X2_mostTelling_L17 N p1 p2 N x3 x4 x5 0 0 0 r1).bind (fun s11 => some (s11.1, s11.2)))
set_option maxHeartbeats 4000000 in
set_option maxRecDepth 20000 in
theorem m_X2_mostTelling (l : Launch) (E : Ev) (N : Nat) (p1 : Nat) (p2 : Nat) (hp1 : isPe p1) (hp2 : isLa p2) (x3 x4 x5 : Int32) (σ : Sg) (R : Int32 × Sg) (hf : f_X2_mostTelling N p1 p2 x3 x4 x5 σ = some R) : Ct l E YX2_mostTelling [.ref (E.2.1 53), .ref (E.2.1 p1), .ref (E.2.1 p2), .int x3, .int x4, .int x5] σ (some (.int R.1), R.2) := by
  refine ct_of (by decide +kernel) (Nat.le_of_ble_eq_true rfl) [(0, .ref (E.2.1 53)), (1, .ref (E.2.1 p1)), (2, .ref (E.2.1 p2)), (3, .int x3), (4, .int x4), (5, .int x5)] rfl (fun X hX C => ?_)
  have hL17 : ∀ (k : Nat) (a3 a4 a5 a6 a7 a8 : Int32) (σ : Sg) (Q17 : Int32 × Sg), f_X2_mostTelling_L17 N p1 p2 k a3 a4 a5 a6 a7 a8 σ = some Q17 → (Zz E X YX2_mostTelling (some (.int R.1), R.2) Q17.2 69 [(6, .int Q17.1)] []) → Zz E X YX2_mostTelling (some (.int R.1), R.2) σ 17 [(0, .ref (E.2.1 53)), (2, .ref (E.2.1 p2)), (3, .int a3), (4, .int a4), (5, .int a5), (6, .int a6), (7, .int a7), (8, .int a8)] [] := by
    intro k
    induction k with
    | zero =>
      intro a3 a4 a5 a6 a7 a8 σ Q17 hf
      have hf : (none : Option (Int32 × Sg)) = some Q17 := hf
      cases hf
    | succ k ih =>
      intro a3 a4 a5 a6 a7 a8 σ Q17 hf hx17
      have hf : f_X2_mostTelling_B17 N p1 p2 (f_X2_mostTelling_L17 N p1 p2 k) a3 a4 a5 a6 a7 a8 σ = some Q17 := hf
      unfold f_X2_mostTelling_B17 at hf
      refine z_iload C dX2_mostTelling_17 7 rfl ?_
      refine z_gets2 C n_578 dX2_mostTelling_19 ?_
      refine z_alen2 C dX2_mostTelling_22 ?_
      refine z_icmp_ge (tgt := 69) C dX2_mostTelling_23 (by decide) (fun h3 => ?_) (fun h3 => ?_)
      · replace hf := ifp hf h3
        refine z_sub [(6, .int a6)] [5] rfl ?_
        obtain rfl := Option.some.inj hf
        exact hx17
      · replace hf := ifn hf h3
        refine z_aload_n C dX2_mostTelling_26 0 rfl ?_
        refine z_aload_n C dX2_mostTelling_27 1 rfl ?_
        refine z_iload_n C dX2_mostTelling_28 2 rfl ?_
        refine z_iload C dX2_mostTelling_29 3 rfl ?_
        refine z_iload C dX2_mostTelling_31 4 rfl ?_
        refine z_gets2 C n_578 dX2_mostTelling_33 ?_
        refine z_iload C dX2_mostTelling_36 7 rfl ?_
        obtain ⟨h4, hf⟩ := ga_some hf
        refine z_ald2 C h4 dX2_mostTelling_38 ?_
        obtain ⟨r5, h6, hf⟩ := bd_some hf
        refine z_callV (Y2 := YX2_receiversOver) (CC := RX2) (T := TX2) (N := 5) (ci := 1) (As := [.ref (E.2.1 p2), .int a3, .int a4, .int a5, .int (twoL.getD (Int32.toNatClampNeg a8) 0)]) C lk_X2_receiversOver (by decide) wc_mi rfl t_731 t_733 p_22 (Nat.le_of_ble_eq_true rfl) (Nat.le_of_ble_eq_true rfl) dX2_mostTelling_39 (Nat.le_of_ble_eq_true rfl) rfl rfl (m_X2_receiversOver X.2.1 E N p2 hp2 a3 a4 a5 (twoL.getD (Int32.toNatClampNeg a8) 0) σ _ h6) ?_
        change Zz E X YX2_mostTelling (some (.int R.1), R.2) r5.2 _ _ [.int r5.1]
        refine z_istore (lv' := [(9, .int r5.1), (0, .ref (E.2.1 53)), (2, .ref (E.2.1 p2)), (3, .int a3), (4, .int a4), (5, .int a5), (6, .int a6), (7, .int a7), (8, .int a8)]) C dX2_mostTelling_42 (by decide) rfl ?_
        refine z_iload C dX2_mostTelling_44 0 rfl ?_
        refine z_iload C dX2_mostTelling_46 7 rfl ?_
        refine z_icmp_le (tgt := 63) C dX2_mostTelling_48 (by decide) (fun h7 => ?_) (fun h7 => ?_)
        · replace hf := ifp hf h7
          refine z_iinc (v := (a8 + 1)) (lv' := [(8, .int (a8 + 1)), (9, .int r5.1), (0, .ref (E.2.1 53)), (2, .ref (E.2.1 p2)), (3, .int a3), (4, .int a4), (5, .int a5), (6, .int a6), (7, .int a7)]) C dX2_mostTelling_63 8 rfl rfl (by decide) rfl ?_
          refine z_goto (tgt := 17) C dX2_mostTelling_66 (by decide) ?_
          refine z_sub [(0, .ref (E.2.1 53)), (2, .ref (E.2.1 p2)), (3, .int a3), (4, .int a4), (5, .int a5), (6, .int a6), (7, .int a7), (8, .int (a8 + 1))] [2, 3, 4, 5, 6, 7, 8, 0] rfl ?_
          exact ih a3 a4 a5 a6 a7 (a8 + 1) r5.2 _ hf hx17
        · replace hf := ifn hf h7
          refine z_iload C dX2_mostTelling_51 0 rfl ?_
          refine z_istore (lv' := [(7, .int r5.1), (9, .int r5.1), (0, .ref (E.2.1 53)), (2, .ref (E.2.1 p2)), (3, .int a3), (4, .int a4), (5, .int a5), (6, .int a6), (8, .int a8)]) C dX2_mostTelling_53 (by decide) rfl ?_
          refine z_gets2 C n_578 dX2_mostTelling_55 ?_
          refine z_iload C dX2_mostTelling_58 8 rfl ?_
          obtain ⟨h8, hf⟩ := ga_some hf
          refine z_ald2 C h8 dX2_mostTelling_60 ?_
          obtain ⟨v9, h10, hf⟩ := nm_some hf
          rw [← h10]
          refine z_istore (lv' := [(6, .int v9), (7, .int r5.1), (9, .int r5.1), (0, .ref (E.2.1 53)), (2, .ref (E.2.1 p2)), (3, .int a3), (4, .int a4), (5, .int a5), (8, .int a8)]) C dX2_mostTelling_61 (by decide) rfl ?_
          refine z_iinc (v := (a8 + 1)) (lv' := [(8, .int (a8 + 1)), (6, .int v9), (7, .int r5.1), (9, .int r5.1), (0, .ref (E.2.1 53)), (2, .ref (E.2.1 p2)), (3, .int a3), (4, .int a4), (5, .int a5)]) C dX2_mostTelling_63 8 rfl rfl (by decide) rfl ?_
          refine z_goto (tgt := 17) C dX2_mostTelling_66 (by decide) ?_
          refine z_sub [(0, .ref (E.2.1 53)), (2, .ref (E.2.1 p2)), (3, .int a3), (4, .int a4), (5, .int a5), (6, .int v9), (7, .int r5.1), (8, .int (a8 + 1))] [4, 5, 6, 7, 8, 1, 2, 0] rfl ?_
          exact ih a3 a4 a5 v9 r5.1 (a8 + 1) r5.2 _ hf hx17
  unfold f_X2_mostTelling at hf
  refine z_aload_n C dX2_mostTelling_0 0 rfl ?_
  refine z_get (v := .ref (E.2.1 54)) (T := TX2) (N := 5) (ci := 1) C (by decide) wc_mi rfl in_X2 0 (by decide) t_167 rfl dX2_mostTelling_1 ?_
  refine z_aload_n C dX2_mostTelling_4 1 rfl ?_
  obtain ⟨r1, h2, hf⟩ := bd_some hf
  refine z_callV (Y2 := YX5_takeFrom) (CC := RX5) (T := TX5) (N := 3) (ci := 4) (As := [.ref (E.2.1 p1)]) C lk_X5_takeFrom (lt_pe pe_54) (wc_pe pe_54) rfl t_617 t_287 t_288 (Nat.le_of_ble_eq_true rfl) (Nat.le_of_ble_eq_true rfl) dX2_mostTelling_5 (Nat.le_of_ble_eq_true rfl) rfl rfl (m_X5_takeFrom X.2.1 E N 54 p1 pe_54 hp1 σ _ h2) ?_
  change Zz E X YX2_mostTelling (some (.int R.1), R.2) r1 _ _ []
  refine z_iconst (v := 0) C dX2_mostTelling_8 (by decide) ?_
  refine z_istore (lv' := [(6, .int 0), (0, .ref (E.2.1 53)), (1, .ref (E.2.1 p1)), (2, .ref (E.2.1 p2)), (3, .int x3), (4, .int x4), (5, .int x5)]) C dX2_mostTelling_9 (by decide) rfl ?_
  refine z_iconst (v := 0) C dX2_mostTelling_11 (by decide) ?_
  refine z_istore (lv' := [(7, .int 0), (6, .int 0), (0, .ref (E.2.1 53)), (1, .ref (E.2.1 p1)), (2, .ref (E.2.1 p2)), (3, .int x3), (4, .int x4), (5, .int x5)]) C dX2_mostTelling_12 (by decide) rfl ?_
  refine z_iconst (v := 0) C dX2_mostTelling_14 (by decide) ?_
  refine z_istore (lv' := [(8, .int 0), (7, .int 0), (6, .int 0), (0, .ref (E.2.1 53)), (1, .ref (E.2.1 p1)), (2, .ref (E.2.1 p2)), (3, .int x3), (4, .int x4), (5, .int x5)]) C dX2_mostTelling_15 (by decide) rfl ?_
  refine z_sub [(0, .ref (E.2.1 53)), (2, .ref (E.2.1 p2)), (3, .int x3), (4, .int x4), (5, .int x5), (6, .int 0), (7, .int 0), (8, .int 0)] [3, 5, 6, 7, 8, 2, 1, 0] rfl ?_
  obtain ⟨s11, h12, hf⟩ := bd_some hf
  refine hL17 N x3 x4 x5 0 0 0 r1 _ h12 ?_
  refine z_iload C dX2_mostTelling_69 0 rfl ?_
  exact z_iret C dX2_mostTelling_71 rfl (by rw [← Option.some.inj hf])
theorem lk_X2_mostTelling {Y : Yv} : Lk Y YX2_mostTelling 5 := ⟨t_730, t_6, ⟨by decide +kernel, by decide +kernel⟩, by decide +kernel⟩
abbrev YX2_surestTo : Yv := (yX2_surestTo, cX2_surestTo, 11, some .int, 3, 80)
def f_X2_surestTo_J76 (N : Nat) (p1 : Nat) (p2 : Nat) (rec : Int32 → Int32 → Int32 → Int32 → Int32 → Int32 → Sg → Option (Int32 × Sg)) (a3 a4 a8 a9 a10 : Int32) (σ : Sg) : Option (Int32 × Sg) :=
  ga a8 81 (nm (twoL.getD (Int32.toNatClampNeg a8) 0) (fun v10 => rec a3 a4 v10 a9 a10 (a8 + 1) σ))
def f_X2_surestTo_B14 (N : Nat) (p1 : Nat) (p2 : Nat) (rec : Int32 → Int32 → Int32 → Int32 → Int32 → Int32 → Sg → Option (Int32 × Sg)) (a3 a4 a5 a6 a7 a8 : Int32) (σ : Sg) : Option (Int32 × Sg) :=
  if 81 ≤ a8 then (some (a5, σ)) else (ga a8 81 ((f_X0_chance N p2 p1 a3 (twoL.getD (Int32.toNatClampNeg a8) 0) a4 σ).bind (fun r3 => ga a8 81 ((f_X11_costOf N (twoL.getD (Int32.toNatClampNeg a8) 0) r3.2).bind (fun r6 => if a6 < r3.1 then (f_X2_surestTo_J76 N p1 p2 rec a3 a4 a8 r3.1 r6.1 r6.2) else (if r3.1 = a6 then (if r3.1 ≤ 0 then (rec a3 a4 a5 a6 a7 (a8 + 1) r6.2) else (if a7 ≤ r6.1 then (rec a3 a4 a5 a6 a7 (a8 + 1) r6.2) else (f_X2_surestTo_J76 N p1 p2 rec a3 a4 a8 r3.1 r6.1 r6.2))) else (rec a3 a4 a5 a6 a7 (a8 + 1) r6.2)))))))
def f_X2_surestTo_L14 (N : Nat) (p1 : Nat) (p2 : Nat) : Nat → Int32 → Int32 → Int32 → Int32 → Int32 → Int32 → Sg → Option (Int32 × Sg)
  | 0 => fun _ _ _ _ _ _ _ => none
  | k + 1 => fun a3 a4 a5 a6 a7 a8 σ => f_X2_surestTo_B14 N p1 p2 (f_X2_surestTo_L14 N p1 p2 k) a3 a4 a5 a6 a7 a8 σ
def f_X2_surestTo (N : Nat) (p1 : Nat) (p2 : Nat) (x3 x4 : Int32) (σ : Sg) : Option (Int32 × Sg) :=
  (f_X2_surestTo_L14 N p1 p2 N x3 x4 (-9) 0 100 0 σ).bind (fun s15 => some (s15.1, s15.2))
set_option maxHeartbeats 4000000 in
set_option maxRecDepth 20000 in
theorem m_X2_surestTo (l : Launch) (E : Ev) (N : Nat) (p1 : Nat) (p2 : Nat) (hp1 : isPe p1) (hp2 : isLa p2) (x3 x4 : Int32) (σ : Sg) (R : Int32 × Sg) (hf : f_X2_surestTo N p1 p2 x3 x4 σ = some R) : Ct l E YX2_surestTo [.ref (E.2.1 53), .ref (E.2.1 p1), .ref (E.2.1 p2), .int x3, .int x4] σ (some (.int R.1), R.2) := by
  refine ct_of (by decide +kernel) (Nat.le_of_ble_eq_true rfl) [(0, .ref (E.2.1 53)), (1, .ref (E.2.1 p1)), (2, .ref (E.2.1 p2)), (3, .int x3), (4, .int x4)] rfl (fun X hX C => ?_)
  have hL14 : ∀ (k : Nat) (a3 a4 a5 a6 a7 a8 : Int32) (σ : Sg) (Q14 : Int32 × Sg), f_X2_surestTo_L14 N p1 p2 k a3 a4 a5 a6 a7 a8 σ = some Q14 → (Zz E X YX2_surestTo (some (.int R.1), R.2) Q14.2 98 [(5, .int Q14.1)] []) → Zz E X YX2_surestTo (some (.int R.1), R.2) σ 14 [(1, .ref (E.2.1 p1)), (2, .ref (E.2.1 p2)), (3, .int a3), (4, .int a4), (5, .int a5), (6, .int a6), (7, .int a7), (8, .int a8)] [] := by
    intro k
    induction k with
    | zero =>
      intro a3 a4 a5 a6 a7 a8 σ Q14 hf
      have hf : (none : Option (Int32 × Sg)) = some Q14 := hf
      cases hf
    | succ k ih =>
      intro a3 a4 a5 a6 a7 a8 σ Q14 hf hx14
      have hf : f_X2_surestTo_B14 N p1 p2 (f_X2_surestTo_L14 N p1 p2 k) a3 a4 a5 a6 a7 a8 σ = some Q14 := hf
      have hJ76 : ∀ (a3 a4 a8 a9 a10 : Int32) (σ : Sg), f_X2_surestTo_J76 N p1 p2 (f_X2_surestTo_L14 N p1 p2 k) a3 a4 a8 a9 a10 σ = some Q14 → Zz E X YX2_surestTo (some (.int R.1), R.2) σ 76 [(1, .ref (E.2.1 p1)), (2, .ref (E.2.1 p2)), (3, .int a3), (4, .int a4), (8, .int a8), (9, .int a9), (10, .int a10)] [] := by
        intro a3 a4 a8 a9 a10 σ hf
        unfold f_X2_surestTo_J76 at hf
        refine z_iload C dX2_surestTo_76 5 rfl ?_
        refine z_istore (lv' := [(6, .int a9), (1, .ref (E.2.1 p1)), (2, .ref (E.2.1 p2)), (3, .int a3), (4, .int a4), (8, .int a8), (9, .int a9), (10, .int a10)]) C dX2_surestTo_78 (by decide) rfl ?_
        refine z_iload C dX2_surestTo_80 7 rfl ?_
        refine z_istore (lv' := [(7, .int a10), (6, .int a9), (1, .ref (E.2.1 p1)), (2, .ref (E.2.1 p2)), (3, .int a3), (4, .int a4), (8, .int a8), (9, .int a9), (10, .int a10)]) C dX2_surestTo_82 (by decide) rfl ?_
        refine z_gets2 C n_578 dX2_surestTo_84 ?_
        refine z_iload C dX2_surestTo_87 6 rfl ?_
        obtain ⟨h9, hf⟩ := ga_some hf
        refine z_ald2 C h9 dX2_surestTo_89 ?_
        obtain ⟨v10, h11, hf⟩ := nm_some hf
        rw [← h11]
        refine z_istore (lv' := [(5, .int v10), (7, .int a10), (6, .int a9), (1, .ref (E.2.1 p1)), (2, .ref (E.2.1 p2)), (3, .int a3), (4, .int a4), (8, .int a8), (9, .int a9), (10, .int a10)]) C dX2_surestTo_90 (by decide) rfl ?_
        refine z_iinc (v := (a8 + 1)) (lv' := [(8, .int (a8 + 1)), (5, .int v10), (7, .int a10), (6, .int a9), (1, .ref (E.2.1 p1)), (2, .ref (E.2.1 p2)), (3, .int a3), (4, .int a4), (9, .int a9), (10, .int a10)]) C dX2_surestTo_92 7 rfl rfl (by decide) rfl ?_
        refine z_goto (tgt := 14) C dX2_surestTo_95 (by decide) ?_
        refine z_sub [(1, .ref (E.2.1 p1)), (2, .ref (E.2.1 p2)), (3, .int a3), (4, .int a4), (5, .int v10), (6, .int a9), (7, .int a10), (8, .int (a8 + 1))] [4, 5, 6, 7, 1, 3, 2, 0] rfl ?_
        exact ih a3 a4 v10 a9 a10 (a8 + 1) σ _ hf hx14
      unfold f_X2_surestTo_B14 at hf
      refine z_iload C dX2_surestTo_14 7 rfl ?_
      refine z_gets2 C n_578 dX2_surestTo_16 ?_
      refine z_alen2 C dX2_surestTo_19 ?_
      refine z_icmp_ge (tgt := 98) C dX2_surestTo_20 (by decide) (fun h1 => ?_) (fun h1 => ?_)
      · replace hf := ifp hf h1
        refine z_sub [(5, .int a5)] [4] rfl ?_
        obtain rfl := Option.some.inj hf
        exact hx14
      · replace hf := ifn hf h1
        refine z_aload_n C dX2_surestTo_23 1 rfl ?_
        refine z_aload_n C dX2_surestTo_24 0 rfl ?_
        refine z_iload_n C dX2_surestTo_25 2 rfl ?_
        refine z_gets2 C n_578 dX2_surestTo_26 ?_
        refine z_iload C dX2_surestTo_29 7 rfl ?_
        obtain ⟨h2, hf⟩ := ga_some hf
        refine z_ald2 C h2 dX2_surestTo_31 ?_
        refine z_iload C dX2_surestTo_32 3 rfl ?_
        obtain ⟨r3, h4, hf⟩ := bd_some hf
        refine z_law_X0_chance (As := [.ref (E.2.1 p1), .int a3, .int (twoL.getD (Int32.toNatClampNeg a8) 0), .int a4]) C hp2 t_763 (Nat.le_of_ble_eq_true rfl) (Nat.le_of_ble_eq_true rfl) dX2_surestTo_34 (Nat.le_of_ble_eq_true rfl) rfl rfl (m_X0_chance X.2.1 E N p2 p1 hp2 hp1 a3 (twoL.getD (Int32.toNatClampNeg a8) 0) a4 σ _ h4) ?_
        change Zz E X YX2_surestTo (some (.int R.1), R.2) r3.2 _ _ [.int r3.1]
        refine z_istore (lv' := [(9, .int r3.1), (1, .ref (E.2.1 p1)), (2, .ref (E.2.1 p2)), (3, .int a3), (4, .int a4), (5, .int a5), (6, .int a6), (7, .int a7), (8, .int a8)]) C dX2_surestTo_37 (by decide) rfl ?_
        refine z_gets2 C n_578 dX2_surestTo_39 ?_
        refine z_iload C dX2_surestTo_42 8 rfl ?_
        obtain ⟨h5, hf⟩ := ga_some hf
        refine z_ald2 C h5 dX2_surestTo_44 ?_
        obtain ⟨r6, h7, hf⟩ := bd_some hf
        refine z_callSN (Y2 := YX11_costOf) (As := [.int (twoL.getD (Int32.toNatClampNeg a8) 0)]) C lk_X11_costOf n_580 t_581 (Nat.le_of_ble_eq_true rfl) (Nat.le_of_ble_eq_true rfl) dX2_surestTo_45 (Nat.le_of_ble_eq_true rfl) rfl rfl (m_X11_costOf X.2.1 E N (twoL.getD (Int32.toNatClampNeg a8) 0) r3.2 _ h7) ?_
        change Zz E X YX2_surestTo (some (.int R.1), R.2) r6.2 _ _ [.int r6.1]
        refine z_istore (lv' := [(10, .int r6.1), (9, .int r3.1), (1, .ref (E.2.1 p1)), (2, .ref (E.2.1 p2)), (3, .int a3), (4, .int a4), (5, .int a5), (6, .int a6), (7, .int a7), (8, .int a8)]) C dX2_surestTo_48 (by decide) rfl ?_
        refine z_iload C dX2_surestTo_50 1 rfl ?_
        refine z_iload C dX2_surestTo_52 7 rfl ?_
        refine z_icmp_gt (tgt := 76) C dX2_surestTo_54 (by decide) (fun h8 => ?_) (fun h8 => ?_)
        · replace hf := ifp hf h8
          refine z_sub [(1, .ref (E.2.1 p1)), (2, .ref (E.2.1 p2)), (3, .int a3), (4, .int a4), (8, .int a8), (9, .int r3.1), (10, .int r6.1)] [2, 3, 4, 5, 9, 1, 0] rfl ?_
          exact hJ76 a3 a4 a8 r3.1 r6.1 r6.2 hf
        · replace hf := ifn hf h8
          refine z_iload C dX2_surestTo_57 1 rfl ?_
          refine z_iload C dX2_surestTo_59 7 rfl ?_
          refine z_icmp_ne (tgt := 92) C dX2_surestTo_61 (by decide) (fun h12 => ?_) (fun h12 => ?_)
          · replace hf := ifn hf h12
            refine z_iinc (v := (a8 + 1)) (lv' := [(8, .int (a8 + 1)), (10, .int r6.1), (9, .int r3.1), (1, .ref (E.2.1 p1)), (2, .ref (E.2.1 p2)), (3, .int a3), (4, .int a4), (5, .int a5), (6, .int a6), (7, .int a7)]) C dX2_surestTo_92 9 rfl rfl (by decide) rfl ?_
            refine z_goto (tgt := 14) C dX2_surestTo_95 (by decide) ?_
            refine z_sub [(1, .ref (E.2.1 p1)), (2, .ref (E.2.1 p2)), (3, .int a3), (4, .int a4), (5, .int a5), (6, .int a6), (7, .int a7), (8, .int (a8 + 1))] [3, 4, 5, 6, 7, 8, 9, 0] rfl ?_
            exact ih a3 a4 a5 a6 a7 (a8 + 1) r6.2 _ hf hx14
          · replace hf := ifp hf h12
            refine z_iload C dX2_surestTo_64 1 rfl ?_
            refine z_if_le (tgt := 92) C dX2_surestTo_66 (by decide) (fun h13 => ?_) (fun h13 => ?_)
            · replace hf := ifp hf h13
              refine z_iinc (v := (a8 + 1)) (lv' := [(8, .int (a8 + 1)), (10, .int r6.1), (9, .int r3.1), (1, .ref (E.2.1 p1)), (2, .ref (E.2.1 p2)), (3, .int a3), (4, .int a4), (5, .int a5), (6, .int a6), (7, .int a7)]) C dX2_surestTo_92 9 rfl rfl (by decide) rfl ?_
              refine z_goto (tgt := 14) C dX2_surestTo_95 (by decide) ?_
              refine z_sub [(1, .ref (E.2.1 p1)), (2, .ref (E.2.1 p2)), (3, .int a3), (4, .int a4), (5, .int a5), (6, .int a6), (7, .int a7), (8, .int (a8 + 1))] [3, 4, 5, 6, 7, 8, 9, 0] rfl ?_
              exact ih a3 a4 a5 a6 a7 (a8 + 1) r6.2 _ hf hx14
            · replace hf := ifn hf h13
              refine z_iload C dX2_surestTo_69 0 rfl ?_
              refine z_iload C dX2_surestTo_71 8 rfl ?_
              refine z_icmp_ge (tgt := 92) C dX2_surestTo_73 (by decide) (fun h14 => ?_) (fun h14 => ?_)
              · replace hf := ifp hf h14
                refine z_iinc (v := (a8 + 1)) (lv' := [(8, .int (a8 + 1)), (10, .int r6.1), (9, .int r3.1), (1, .ref (E.2.1 p1)), (2, .ref (E.2.1 p2)), (3, .int a3), (4, .int a4), (5, .int a5), (6, .int a6), (7, .int a7)]) C dX2_surestTo_92 9 rfl rfl (by decide) rfl ?_
                refine z_goto (tgt := 14) C dX2_surestTo_95 (by decide) ?_
                refine z_sub [(1, .ref (E.2.1 p1)), (2, .ref (E.2.1 p2)), (3, .int a3), (4, .int a4), (5, .int a5), (6, .int a6), (7, .int a7), (8, .int (a8 + 1))] [3, 4, 5, 6, 7, 8, 9, 0] rfl ?_
                exact ih a3 a4 a5 a6 a7 (a8 + 1) r6.2 _ hf hx14
              · replace hf := ifn hf h14
                refine z_sub [(1, .ref (E.2.1 p1)), (2, .ref (E.2.1 p2)), (3, .int a3), (4, .int a4), (8, .int a8), (9, .int r3.1), (10, .int r6.1)] [2, 3, 4, 5, 9, 1, 0] rfl ?_
                exact hJ76 a3 a4 a8 r3.1 r6.1 r6.2 hf
  unfold f_X2_surestTo at hf
  refine z_bipush (v := (-9)) C dX2_surestTo_0 (by decide) ?_
  refine z_istore (lv' := [(5, .int (-9)), (0, .ref (E.2.1 53)), (1, .ref (E.2.1 p1)), (2, .ref (E.2.1 p2)), (3, .int x3), (4, .int x4)]) C dX2_surestTo_2 (by decide) rfl ?_
  refine z_iconst (v := 0) C dX2_surestTo_4 (by decide) ?_
  refine z_istore (lv' := [(6, .int 0), (5, .int (-9)), (0, .ref (E.2.1 53)), (1, .ref (E.2.1 p1)), (2, .ref (E.2.1 p2)), (3, .int x3), (4, .int x4)]) C dX2_surestTo_5 (by decide) rfl ?_
  refine z_bipush (v := 100) C dX2_surestTo_7 (by decide) ?_
  refine z_istore (lv' := [(7, .int 100), (6, .int 0), (5, .int (-9)), (0, .ref (E.2.1 53)), (1, .ref (E.2.1 p1)), (2, .ref (E.2.1 p2)), (3, .int x3), (4, .int x4)]) C dX2_surestTo_9 (by decide) rfl ?_
  refine z_iconst (v := 0) C dX2_surestTo_11 (by decide) ?_
  refine z_istore (lv' := [(8, .int 0), (7, .int 100), (6, .int 0), (5, .int (-9)), (0, .ref (E.2.1 53)), (1, .ref (E.2.1 p1)), (2, .ref (E.2.1 p2)), (3, .int x3), (4, .int x4)]) C dX2_surestTo_12 (by decide) rfl ?_
  refine z_sub [(1, .ref (E.2.1 p1)), (2, .ref (E.2.1 p2)), (3, .int x3), (4, .int x4), (5, .int (-9)), (6, .int 0), (7, .int 100), (8, .int 0)] [5, 6, 7, 8, 3, 2, 1, 0] rfl ?_
  obtain ⟨s15, h16, hf⟩ := bd_some hf
  refine hL14 N x3 x4 (-9) 0 100 0 σ _ h16 ?_
  refine z_iload C dX2_surestTo_98 0 rfl ?_
  exact z_iret C dX2_surestTo_100 rfl (by rw [← Option.some.inj hf])
theorem lk_X2_surestTo {Y : Yv} : Lk Y YX2_surestTo 4 := ⟨t_762, t_6, ⟨by decide +kernel, by decide +kernel⟩, by decide +kernel⟩
abbrev YX2_meetingMost : Yv := (yX2_meetingMost, cX2_meetingMost, 9, some .int, 4, 102)
def f_X2_meetingMost_J90 (N : Nat) (p1 : Nat) (p2 : Nat) (rec : Int32 → Int32 → Int32 → Int32 → Sg → Option (Int32 × Sg)) (a6 a7 a8 : Int32) (σ : Sg) : Option (Int32 × Sg) :=
  ga a6 81 (nm (twoL.getD (Int32.toNatClampNeg a6) 0) (fun v16 => rec v16 a7 a8 (a6 + 1) σ))
def f_X2_meetingMost_B12 (N : Nat) (p1 : Nat) (p2 : Nat) (rec : Int32 → Int32 → Int32 → Int32 → Sg → Option (Int32 × Sg)) (a3 a4 a5 a6 : Int32) (σ : Sg) : Option (Int32 × Sg) :=
  if 81 ≤ a6 then (some (a3, σ)) else ((f_X5_takeFrom N 54 p1 σ).bind (fun r2 => ga a6 81 ((f_X0_deliver N p2 54 (twoL.getD (Int32.toNatClampNeg a6) 0) r2).bind (fun r5 => (f_X5_total N p1 r5.2).bind (fun r7 => (f_X5_total N 54 r7.2).bind (fun r9 => ga a6 81 ((f_X11_costOf N (twoL.getD (Int32.toNatClampNeg a6) 0) r9.2).bind (fun r12 => if a4 < (r7.1 - r9.1) then (f_X2_meetingMost_J90 N p1 p2 rec a6 (r7.1 - r9.1) r12.1 r12.2) else (if (r7.1 - r9.1) = a4 then (if a5 ≤ r12.1 then (rec a3 a4 a5 (a6 + 1) r12.2) else (f_X2_meetingMost_J90 N p1 p2 rec a6 (r7.1 - r9.1) r12.1 r12.2)) else (rec a3 a4 a5 (a6 + 1) r12.2))))))))))
def f_X2_meetingMost_L12 (N : Nat) (p1 : Nat) (p2 : Nat) : Nat → Int32 → Int32 → Int32 → Int32 → Sg → Option (Int32 × Sg)
  | 0 => fun _ _ _ _ _ => none
  | k + 1 => fun a3 a4 a5 a6 σ => f_X2_meetingMost_B12 N p1 p2 (f_X2_meetingMost_L12 N p1 p2 k) a3 a4 a5 a6 σ
def f_X2_meetingMost (N : Nat) (p1 : Nat) (p2 : Nat) (σ : Sg) : Option (Int32 × Sg) :=
  (f_X2_meetingMost_L12 N p1 p2 N 0 (-1) 100 0 σ).bind (fun s20 => some (s20.1, s20.2))
set_option maxHeartbeats 4000000 in
set_option maxRecDepth 20000 in
theorem m_X2_meetingMost (l : Launch) (E : Ev) (N : Nat) (p1 : Nat) (p2 : Nat) (hp1 : isPe p1) (hp2 : isLa p2) (σ : Sg) (R : Int32 × Sg) (hf : f_X2_meetingMost N p1 p2 σ = some R) : Ct l E YX2_meetingMost [.ref (E.2.1 53), .ref (E.2.1 p1), .ref (E.2.1 p2)] σ (some (.int R.1), R.2) := by
  refine ct_of (by decide +kernel) (Nat.le_of_ble_eq_true rfl) [(0, .ref (E.2.1 53)), (1, .ref (E.2.1 p1)), (2, .ref (E.2.1 p2))] rfl (fun X hX C => ?_)
  have hL12 : ∀ (k : Nat) (a3 a4 a5 a6 : Int32) (σ : Sg) (Q12 : Int32 × Sg), f_X2_meetingMost_L12 N p1 p2 k a3 a4 a5 a6 σ = some Q12 → (Zz E X YX2_meetingMost (some (.int R.1), R.2) Q12.2 111 [(3, .int Q12.1)] []) → Zz E X YX2_meetingMost (some (.int R.1), R.2) σ 12 [(0, .ref (E.2.1 53)), (1, .ref (E.2.1 p1)), (2, .ref (E.2.1 p2)), (3, .int a3), (4, .int a4), (5, .int a5), (6, .int a6)] [] := by
    intro k
    induction k with
    | zero =>
      intro a3 a4 a5 a6 σ Q12 hf
      have hf : (none : Option (Int32 × Sg)) = some Q12 := hf
      cases hf
    | succ k ih =>
      intro a3 a4 a5 a6 σ Q12 hf hx12
      have hf : f_X2_meetingMost_B12 N p1 p2 (f_X2_meetingMost_L12 N p1 p2 k) a3 a4 a5 a6 σ = some Q12 := hf
      have hJ90 : ∀ (a6 a7 a8 : Int32) (σ : Sg), f_X2_meetingMost_J90 N p1 p2 (f_X2_meetingMost_L12 N p1 p2 k) a6 a7 a8 σ = some Q12 → Zz E X YX2_meetingMost (some (.int R.1), R.2) σ 90 [(0, .ref (E.2.1 53)), (1, .ref (E.2.1 p1)), (2, .ref (E.2.1 p2)), (6, .int a6), (7, .int a7), (8, .int a8)] [] := by
        intro a6 a7 a8 σ hf
        unfold f_X2_meetingMost_J90 at hf
        refine z_iload C dX2_meetingMost_90 4 rfl ?_
        refine z_istore (lv' := [(4, .int a7), (0, .ref (E.2.1 53)), (1, .ref (E.2.1 p1)), (2, .ref (E.2.1 p2)), (6, .int a6), (7, .int a7), (8, .int a8)]) C dX2_meetingMost_92 (by decide) rfl ?_
        refine z_iload C dX2_meetingMost_94 6 rfl ?_
        refine z_istore (lv' := [(5, .int a8), (4, .int a7), (0, .ref (E.2.1 53)), (1, .ref (E.2.1 p1)), (2, .ref (E.2.1 p2)), (6, .int a6), (7, .int a7), (8, .int a8)]) C dX2_meetingMost_96 (by decide) rfl ?_
        refine z_gets2 C n_578 dX2_meetingMost_98 ?_
        refine z_iload C dX2_meetingMost_101 5 rfl ?_
        obtain ⟨h15, hf⟩ := ga_some hf
        refine z_ald2 C h15 dX2_meetingMost_103 ?_
        obtain ⟨v16, h17, hf⟩ := nm_some hf
        rw [← h17]
        refine z_istore_n (lv' := [(3, .int v16), (5, .int a8), (4, .int a7), (0, .ref (E.2.1 53)), (1, .ref (E.2.1 p1)), (2, .ref (E.2.1 p2)), (6, .int a6), (7, .int a7), (8, .int a8)]) C dX2_meetingMost_104 (by decide) rfl ?_
        refine z_iinc (v := (a6 + 1)) (lv' := [(6, .int (a6 + 1)), (3, .int v16), (5, .int a8), (4, .int a7), (0, .ref (E.2.1 53)), (1, .ref (E.2.1 p1)), (2, .ref (E.2.1 p2)), (7, .int a7), (8, .int a8)]) C dX2_meetingMost_105 6 rfl rfl (by decide) rfl ?_
        refine z_goto (tgt := 12) C dX2_meetingMost_108 (by decide) ?_
        refine z_sub [(0, .ref (E.2.1 53)), (1, .ref (E.2.1 p1)), (2, .ref (E.2.1 p2)), (3, .int v16), (4, .int a7), (5, .int a8), (6, .int (a6 + 1))] [4, 5, 6, 1, 3, 2, 0] rfl ?_
        exact ih v16 a7 a8 (a6 + 1) σ _ hf hx12
      unfold f_X2_meetingMost_B12 at hf
      refine z_iload C dX2_meetingMost_12 6 rfl ?_
      refine z_gets2 C n_578 dX2_meetingMost_14 ?_
      refine z_alen2 C dX2_meetingMost_17 ?_
      refine z_icmp_ge (tgt := 111) C dX2_meetingMost_18 (by decide) (fun h1 => ?_) (fun h1 => ?_)
      · replace hf := ifp hf h1
        refine z_sub [(3, .int a3)] [3] rfl ?_
        obtain rfl := Option.some.inj hf
        exact hx12
      · replace hf := ifn hf h1
        refine z_aload_n C dX2_meetingMost_21 0 rfl ?_
        refine z_get (v := .ref (E.2.1 54)) (T := TX2) (N := 5) (ci := 1) C (by decide) wc_mi rfl in_X2 0 (by decide) t_167 rfl dX2_meetingMost_22 ?_
        refine z_aload_n C dX2_meetingMost_25 1 rfl ?_
        obtain ⟨r2, h3, hf⟩ := bd_some hf
        refine z_callV (Y2 := YX5_takeFrom) (CC := RX5) (T := TX5) (N := 3) (ci := 4) (As := [.ref (E.2.1 p1)]) C lk_X5_takeFrom (lt_pe pe_54) (wc_pe pe_54) rfl t_617 t_287 t_288 (Nat.le_of_ble_eq_true rfl) (Nat.le_of_ble_eq_true rfl) dX2_meetingMost_26 (Nat.le_of_ble_eq_true rfl) rfl rfl (m_X5_takeFrom X.2.1 E N 54 p1 pe_54 hp1 σ _ h3) ?_
        change Zz E X YX2_meetingMost (some (.int R.1), R.2) r2 _ _ []
        refine z_aload_n C dX2_meetingMost_29 2 rfl ?_
        refine z_aload_n C dX2_meetingMost_30 0 rfl ?_
        refine z_get (v := .ref (E.2.1 54)) (T := TX2) (N := 5) (ci := 1) C (by decide) wc_mi rfl in_X2 0 (by decide) t_167 rfl dX2_meetingMost_31 ?_
        refine z_gets2 C n_578 dX2_meetingMost_34 ?_
        refine z_iload C dX2_meetingMost_37 6 rfl ?_
        obtain ⟨h4, hf⟩ := ga_some hf
        refine z_ald2 C h4 dX2_meetingMost_39 ?_
        obtain ⟨r5, h6, hf⟩ := bd_some hf
        refine z_law_X0_deliver (As := [.ref (E.2.1 54), .int (twoL.getD (Int32.toNatClampNeg a6) 0)]) C hp2 t_622 (Nat.le_of_ble_eq_true rfl) (Nat.le_of_ble_eq_true rfl) dX2_meetingMost_40 (Nat.le_of_ble_eq_true rfl) rfl rfl (m_X0_deliver X.2.1 E N p2 54 hp2 pe_54 (twoL.getD (Int32.toNatClampNeg a6) 0) r2 _ h6) ?_
        change Zz E X YX2_meetingMost (some (.int R.1), R.2) r5.2 _ _ [.int r5.1]
        refine z_pop C dX2_meetingMost_43 rfl ?_
        refine z_aload_n C dX2_meetingMost_44 1 rfl ?_
        obtain ⟨r7, h8, hf⟩ := bd_some hf
        refine z_callV (Y2 := YX5_total) (CC := RX5) (T := TX5) (N := 3) (ci := 4) (As := []) C lk_X5_total (lt_pe hp1) (wc_pe hp1) rfl t_651 t_563 t_564 (Nat.le_of_ble_eq_true rfl) (Nat.le_of_ble_eq_true rfl) dX2_meetingMost_45 (Nat.le_of_ble_eq_true rfl) rfl rfl (m_X5_total X.2.1 E N p1 hp1 r5.2 _ h8) ?_
        change Zz E X YX2_meetingMost (some (.int R.1), R.2) r7.2 _ _ [.int r7.1]
        refine z_aload_n C dX2_meetingMost_48 0 rfl ?_
        refine z_get (v := .ref (E.2.1 54)) (T := TX2) (N := 5) (ci := 1) C (by decide) wc_mi rfl in_X2 0 (by decide) t_167 rfl dX2_meetingMost_49 ?_
        obtain ⟨r9, h10, hf⟩ := bd_some hf
        refine z_callV (Y2 := YX5_total) (CC := RX5) (T := TX5) (N := 3) (ci := 4) (As := []) C lk_X5_total (lt_pe pe_54) (wc_pe pe_54) rfl t_651 t_563 t_564 (Nat.le_of_ble_eq_true rfl) (Nat.le_of_ble_eq_true rfl) dX2_meetingMost_52 (Nat.le_of_ble_eq_true rfl) rfl rfl (m_X5_total X.2.1 E N 54 pe_54 r7.2 _ h10) ?_
        change Zz E X YX2_meetingMost (some (.int R.1), R.2) r9.2 _ _ [.int r9.1, .int r7.1]
        refine z_isub C dX2_meetingMost_55 ?_
        refine z_istore (lv' := [(7, .int (r7.1 - r9.1)), (0, .ref (E.2.1 53)), (1, .ref (E.2.1 p1)), (2, .ref (E.2.1 p2)), (3, .int a3), (4, .int a4), (5, .int a5), (6, .int a6)]) C dX2_meetingMost_56 (by decide) rfl ?_
        refine z_gets2 C n_578 dX2_meetingMost_58 ?_
        refine z_iload C dX2_meetingMost_61 7 rfl ?_
        obtain ⟨h11, hf⟩ := ga_some hf
        refine z_ald2 C h11 dX2_meetingMost_63 ?_
        obtain ⟨r12, h13, hf⟩ := bd_some hf
        refine z_callSN (Y2 := YX11_costOf) (As := [.int (twoL.getD (Int32.toNatClampNeg a6) 0)]) C lk_X11_costOf n_580 t_581 (Nat.le_of_ble_eq_true rfl) (Nat.le_of_ble_eq_true rfl) dX2_meetingMost_64 (Nat.le_of_ble_eq_true rfl) rfl rfl (m_X11_costOf X.2.1 E N (twoL.getD (Int32.toNatClampNeg a6) 0) r9.2 _ h13) ?_
        change Zz E X YX2_meetingMost (some (.int R.1), R.2) r12.2 _ _ [.int r12.1]
        refine z_istore (lv' := [(8, .int r12.1), (7, .int (r7.1 - r9.1)), (0, .ref (E.2.1 53)), (1, .ref (E.2.1 p1)), (2, .ref (E.2.1 p2)), (3, .int a3), (4, .int a4), (5, .int a5), (6, .int a6)]) C dX2_meetingMost_67 (by decide) rfl ?_
        refine z_iload C dX2_meetingMost_69 1 rfl ?_
        refine z_iload C dX2_meetingMost_71 6 rfl ?_
        refine z_icmp_gt (tgt := 90) C dX2_meetingMost_73 (by decide) (fun h14 => ?_) (fun h14 => ?_)
        · replace hf := ifp hf h14
          refine z_sub [(0, .ref (E.2.1 53)), (1, .ref (E.2.1 p1)), (2, .ref (E.2.1 p2)), (6, .int a6), (7, .int (r7.1 - r9.1)), (8, .int r12.1)] [2, 3, 4, 8, 1, 0] rfl ?_
          exact hJ90 a6 (r7.1 - r9.1) r12.1 r12.2 hf
        · replace hf := ifn hf h14
          refine z_iload C dX2_meetingMost_76 1 rfl ?_
          refine z_iload C dX2_meetingMost_78 6 rfl ?_
          refine z_icmp_ne (tgt := 105) C dX2_meetingMost_80 (by decide) (fun h18 => ?_) (fun h18 => ?_)
          · replace hf := ifn hf h18
            refine z_iinc (v := (a6 + 1)) (lv' := [(6, .int (a6 + 1)), (8, .int r12.1), (7, .int (r7.1 - r9.1)), (0, .ref (E.2.1 53)), (1, .ref (E.2.1 p1)), (2, .ref (E.2.1 p2)), (3, .int a3), (4, .int a4), (5, .int a5)]) C dX2_meetingMost_105 8 rfl rfl (by decide) rfl ?_
            refine z_goto (tgt := 12) C dX2_meetingMost_108 (by decide) ?_
            refine z_sub [(0, .ref (E.2.1 53)), (1, .ref (E.2.1 p1)), (2, .ref (E.2.1 p2)), (3, .int a3), (4, .int a4), (5, .int a5), (6, .int (a6 + 1))] [3, 4, 5, 6, 7, 8, 0] rfl ?_
            exact ih a3 a4 a5 (a6 + 1) r12.2 _ hf hx12
          · replace hf := ifp hf h18
            refine z_iload C dX2_meetingMost_83 0 rfl ?_
            refine z_iload C dX2_meetingMost_85 7 rfl ?_
            refine z_icmp_ge (tgt := 105) C dX2_meetingMost_87 (by decide) (fun h19 => ?_) (fun h19 => ?_)
            · replace hf := ifp hf h19
              refine z_iinc (v := (a6 + 1)) (lv' := [(6, .int (a6 + 1)), (8, .int r12.1), (7, .int (r7.1 - r9.1)), (0, .ref (E.2.1 53)), (1, .ref (E.2.1 p1)), (2, .ref (E.2.1 p2)), (3, .int a3), (4, .int a4), (5, .int a5)]) C dX2_meetingMost_105 8 rfl rfl (by decide) rfl ?_
              refine z_goto (tgt := 12) C dX2_meetingMost_108 (by decide) ?_
              refine z_sub [(0, .ref (E.2.1 53)), (1, .ref (E.2.1 p1)), (2, .ref (E.2.1 p2)), (3, .int a3), (4, .int a4), (5, .int a5), (6, .int (a6 + 1))] [3, 4, 5, 6, 7, 8, 0] rfl ?_
              exact ih a3 a4 a5 (a6 + 1) r12.2 _ hf hx12
            · replace hf := ifn hf h19
              refine z_sub [(0, .ref (E.2.1 53)), (1, .ref (E.2.1 p1)), (2, .ref (E.2.1 p2)), (6, .int a6), (7, .int (r7.1 - r9.1)), (8, .int r12.1)] [2, 3, 4, 8, 1, 0] rfl ?_
              exact hJ90 a6 (r7.1 - r9.1) r12.1 r12.2 hf
  unfold f_X2_meetingMost at hf
  refine z_iconst (v := 0) C dX2_meetingMost_0 (by decide) ?_
  refine z_istore_n (lv' := [(3, .int 0), (0, .ref (E.2.1 53)), (1, .ref (E.2.1 p1)), (2, .ref (E.2.1 p2))]) C dX2_meetingMost_1 (by decide) rfl ?_
  refine z_iconst (v := (-1)) C dX2_meetingMost_2 (by decide) ?_
  refine z_istore (lv' := [(4, .int (-1)), (3, .int 0), (0, .ref (E.2.1 53)), (1, .ref (E.2.1 p1)), (2, .ref (E.2.1 p2))]) C dX2_meetingMost_3 (by decide) rfl ?_
  refine z_bipush (v := 100) C dX2_meetingMost_5 (by decide) ?_
  refine z_istore (lv' := [(5, .int 100), (4, .int (-1)), (3, .int 0), (0, .ref (E.2.1 53)), (1, .ref (E.2.1 p1)), (2, .ref (E.2.1 p2))]) C dX2_meetingMost_7 (by decide) rfl ?_
  refine z_iconst (v := 0) C dX2_meetingMost_9 (by decide) ?_
  refine z_istore (lv' := [(6, .int 0), (5, .int 100), (4, .int (-1)), (3, .int 0), (0, .ref (E.2.1 53)), (1, .ref (E.2.1 p1)), (2, .ref (E.2.1 p2))]) C dX2_meetingMost_10 (by decide) rfl ?_
  refine z_sub [(0, .ref (E.2.1 53)), (1, .ref (E.2.1 p1)), (2, .ref (E.2.1 p2)), (3, .int 0), (4, .int (-1)), (5, .int 100), (6, .int 0)] [4, 5, 6, 3, 2, 1, 0] rfl ?_
  obtain ⟨s20, h21, hf⟩ := bd_some hf
  refine hL12 N 0 (-1) 100 0 σ _ h21 ?_
  refine z_iload_n C dX2_meetingMost_111 0 rfl ?_
  exact z_iret C dX2_meetingMost_112 rfl (by rw [← Option.some.inj hf])
theorem lk_X2_meetingMost {Y : Yv} : Lk Y YX2_meetingMost 2 := ⟨t_776, t_6, ⟨by decide +kernel, by decide +kernel⟩, by decide +kernel⟩
abbrev YX2_easing : Yv := (yX2_easing, cX2_easing, 12, some .int, 4, 107)
def f_X2_easing_B53 (N : Nat) (p1 : Nat) (p2 : Nat) (rec : Int32 → Int32 → Int32 → Int32 → Int32 → Sg → Option (Int32 × Sg)) (a3 a6 a7 a8 a9 : Int32) (σ : Sg) : Option (Int32 × Sg) :=
  if 81 ≤ a9 then (some (a7, σ)) else (ga a9 81 ((f_X11_costOf N (twoL.getD (Int32.toNatClampNeg a9) 0) σ).bind (fun r9 => if a8 ≤ r9.1 then (rec a3 a6 a7 a8 (a9 + 1) r9.2) else ((f_X5_takeFrom N 54 p1 r9.2).bind (fun r12 => ga a9 81 ((f_X0_deliver N p2 54 (twoL.getD (Int32.toNatClampNeg a9) 0) r12).bind (fun r15 => (f_X2_cheapestTo N 54 p2 a3 (-9) r15.2).bind (fun r17 => if r17.1 = (-9) then (rec a3 a6 a7 a8 (a9 + 1) r17.2) else ((f_X11_costOf N r17.1 r17.2).bind (fun r20 => if a6 ≤ r20.1 then (rec a3 a6 a7 a8 (a9 + 1) r20.2) else (ga a9 81 (nm (twoL.getD (Int32.toNatClampNeg a9) 0) (fun v24 => rec a3 a6 v24 r9.1 (a9 + 1) r20.2)))))))))))))
def f_X2_easing_L53 (N : Nat) (p1 : Nat) (p2 : Nat) : Nat → Int32 → Int32 → Int32 → Int32 → Int32 → Sg → Option (Int32 × Sg)
  | 0 => fun _ _ _ _ _ _ => none
  | k + 1 => fun a3 a6 a7 a8 a9 σ => f_X2_easing_B53 N p1 p2 (f_X2_easing_L53 N p1 p2 k) a3 a6 a7 a8 a9 σ
def f_X2_easing_J44 (N : Nat) (p1 : Nat) (p2 : Nat) (a3 a6 b0 : Int32) (σ : Sg) : Option (Int32 × Sg) :=
  (f_X2_easing_L53 N p1 p2 N a3 a6 b0 100 0 σ).bind (fun s26 => some (s26.1, s26.2))
def f_X2_easing_J28 (N : Nat) (p1 : Nat) (p2 : Nat) (a3 a4 a5 b0 : Int32) (σ : Sg) : Option (Int32 × Sg) :=
  if a5 = (-9) then (f_X2_easing_J44 N p1 p2 a3 b0 a4 σ) else (f_X2_easing_J44 N p1 p2 a3 b0 a5 σ)
def f_X2_easing (N : Nat) (p1 : Nat) (p2 : Nat) (x3 x4 : Int32) (σ : Sg) : Option (Int32 × Sg) :=
  (f_X2_cheapestTo N p1 p2 x3 (-9) σ).bind (fun r1 => if r1.1 = (-9) then (f_X2_easing_J28 N p1 p2 x3 x4 r1.1 100 r1.2) else ((f_X11_costOf N r1.1 r1.2).bind (fun r4 => f_X2_easing_J28 N p1 p2 x3 x4 r1.1 r4.1 r4.2)))
set_option maxHeartbeats 4000000 in
set_option maxRecDepth 20000 in
theorem m_X2_easing (l : Launch) (E : Ev) (N : Nat) (p1 : Nat) (p2 : Nat) (hp1 : isPe p1) (hp2 : isLa p2) (x3 x4 : Int32) (σ : Sg) (R : Int32 × Sg) (hf : f_X2_easing N p1 p2 x3 x4 σ = some R) : Ct l E YX2_easing [.ref (E.2.1 53), .ref (E.2.1 p1), .ref (E.2.1 p2), .int x3, .int x4] σ (some (.int R.1), R.2) := by
  refine ct_of (by decide +kernel) (Nat.le_of_ble_eq_true rfl) [(0, .ref (E.2.1 53)), (1, .ref (E.2.1 p1)), (2, .ref (E.2.1 p2)), (3, .int x3), (4, .int x4)] rfl (fun X hX C => ?_)
  have hL53 : ∀ (k : Nat) (a3 a6 a7 a8 a9 : Int32) (σ : Sg) (Q53 : Int32 × Sg), f_X2_easing_L53 N p1 p2 k a3 a6 a7 a8 a9 σ = some Q53 → (Zz E X YX2_easing (some (.int R.1), R.2) Q53.2 152 [(7, .int Q53.1)] []) → Zz E X YX2_easing (some (.int R.1), R.2) σ 53 [(0, .ref (E.2.1 53)), (1, .ref (E.2.1 p1)), (2, .ref (E.2.1 p2)), (3, .int a3), (6, .int a6), (7, .int a7), (8, .int a8), (9, .int a9)] [] := by
    intro k
    induction k with
    | zero =>
      intro a3 a6 a7 a8 a9 σ Q53 hf
      have hf : (none : Option (Int32 × Sg)) = some Q53 := hf
      cases hf
    | succ k ih =>
      intro a3 a6 a7 a8 a9 σ Q53 hf hx53
      have hf : f_X2_easing_B53 N p1 p2 (f_X2_easing_L53 N p1 p2 k) a3 a6 a7 a8 a9 σ = some Q53 := hf
      unfold f_X2_easing_B53 at hf
      refine z_iload C dX2_easing_53 7 rfl ?_
      refine z_gets2 C n_578 dX2_easing_55 ?_
      refine z_alen2 C dX2_easing_58 ?_
      refine z_icmp_ge (tgt := 152) C dX2_easing_59 (by decide) (fun h7 => ?_) (fun h7 => ?_)
      · replace hf := ifp hf h7
        refine z_sub [(7, .int a7)] [5] rfl ?_
        obtain rfl := Option.some.inj hf
        exact hx53
      · replace hf := ifn hf h7
        refine z_gets2 C n_578 dX2_easing_62 ?_
        refine z_iload C dX2_easing_65 7 rfl ?_
        obtain ⟨h8, hf⟩ := ga_some hf
        refine z_ald2 C h8 dX2_easing_67 ?_
        obtain ⟨r9, h10, hf⟩ := bd_some hf
        refine z_callSN (Y2 := YX11_costOf) (As := [.int (twoL.getD (Int32.toNatClampNeg a9) 0)]) C lk_X11_costOf n_580 t_581 (Nat.le_of_ble_eq_true rfl) (Nat.le_of_ble_eq_true rfl) dX2_easing_68 (Nat.le_of_ble_eq_true rfl) rfl rfl (m_X11_costOf X.2.1 E N (twoL.getD (Int32.toNatClampNeg a9) 0) σ _ h10) ?_
        change Zz E X YX2_easing (some (.int R.1), R.2) r9.2 _ _ [.int r9.1]
        refine z_istore (lv' := [(10, .int r9.1), (0, .ref (E.2.1 53)), (1, .ref (E.2.1 p1)), (2, .ref (E.2.1 p2)), (3, .int a3), (6, .int a6), (7, .int a7), (8, .int a8), (9, .int a9)]) C dX2_easing_71 (by decide) rfl ?_
        refine z_iload C dX2_easing_73 0 rfl ?_
        refine z_iload C dX2_easing_75 7 rfl ?_
        refine z_icmp_ge (tgt := 146) C dX2_easing_77 (by decide) (fun h11 => ?_) (fun h11 => ?_)
        · replace hf := ifp hf h11
          refine z_iinc (v := (a9 + 1)) (lv' := [(9, .int (a9 + 1)), (10, .int r9.1), (0, .ref (E.2.1 53)), (1, .ref (E.2.1 p1)), (2, .ref (E.2.1 p2)), (3, .int a3), (6, .int a6), (7, .int a7), (8, .int a8)]) C dX2_easing_146 8 rfl rfl (by decide) rfl ?_
          refine z_goto (tgt := 53) C dX2_easing_149 (by decide) ?_
          refine z_sub [(0, .ref (E.2.1 53)), (1, .ref (E.2.1 p1)), (2, .ref (E.2.1 p2)), (3, .int a3), (6, .int a6), (7, .int a7), (8, .int a8), (9, .int (a9 + 1))] [2, 3, 4, 5, 6, 7, 8, 0] rfl ?_
          exact ih a3 a6 a7 a8 (a9 + 1) r9.2 _ hf hx53
        · replace hf := ifn hf h11
          refine z_aload_n C dX2_easing_80 1 rfl ?_
          refine z_get (v := .ref (E.2.1 54)) (T := TX2) (N := 5) (ci := 1) C (by decide) wc_mi rfl in_X2 0 (by decide) t_167 rfl dX2_easing_81 ?_
          refine z_aload_n C dX2_easing_84 2 rfl ?_
          obtain ⟨r12, h13, hf⟩ := bd_some hf
          refine z_callV (Y2 := YX5_takeFrom) (CC := RX5) (T := TX5) (N := 3) (ci := 4) (As := [.ref (E.2.1 p1)]) C lk_X5_takeFrom (lt_pe pe_54) (wc_pe pe_54) rfl t_617 t_287 t_288 (Nat.le_of_ble_eq_true rfl) (Nat.le_of_ble_eq_true rfl) dX2_easing_85 (Nat.le_of_ble_eq_true rfl) rfl rfl (m_X5_takeFrom X.2.1 E N 54 p1 pe_54 hp1 r9.2 _ h13) ?_
          change Zz E X YX2_easing (some (.int R.1), R.2) r12 _ _ []
          refine z_aload_n C dX2_easing_88 3 rfl ?_
          refine z_aload_n C dX2_easing_89 1 rfl ?_
          refine z_get (v := .ref (E.2.1 54)) (T := TX2) (N := 5) (ci := 1) C (by decide) wc_mi rfl in_X2 0 (by decide) t_167 rfl dX2_easing_90 ?_
          refine z_gets2 C n_578 dX2_easing_93 ?_
          refine z_iload C dX2_easing_96 8 rfl ?_
          obtain ⟨h14, hf⟩ := ga_some hf
          refine z_ald2 C h14 dX2_easing_98 ?_
          obtain ⟨r15, h16, hf⟩ := bd_some hf
          refine z_law_X0_deliver (As := [.ref (E.2.1 54), .int (twoL.getD (Int32.toNatClampNeg a9) 0)]) C hp2 t_622 (Nat.le_of_ble_eq_true rfl) (Nat.le_of_ble_eq_true rfl) dX2_easing_99 (Nat.le_of_ble_eq_true rfl) rfl rfl (m_X0_deliver X.2.1 E N p2 54 hp2 pe_54 (twoL.getD (Int32.toNatClampNeg a9) 0) r12 _ h16) ?_
          change Zz E X YX2_easing (some (.int R.1), R.2) r15.2 _ _ [.int r15.1]
          refine z_pop C dX2_easing_102 rfl ?_
          refine z_aload_n C dX2_easing_103 1 rfl ?_
          refine z_aload_n C dX2_easing_104 1 rfl ?_
          refine z_get (v := .ref (E.2.1 54)) (T := TX2) (N := 5) (ci := 1) C (by decide) wc_mi rfl in_X2 0 (by decide) t_167 rfl dX2_easing_105 ?_
          refine z_aload_n C dX2_easing_108 3 rfl ?_
          refine z_iload_n C dX2_easing_109 4 rfl ?_
          refine z_bipush (v := (-9)) C dX2_easing_110 (by decide) ?_
          obtain ⟨r17, h18, hf⟩ := bd_some hf
          refine z_callV (Y2 := YX2_cheapestTo) (CC := RX2) (T := TX2) (N := 5) (ci := 1) (As := [.ref (E.2.1 54), .ref (E.2.1 p2), .int a3, .int (-9)]) C lk_X2_cheapestTo (by decide) wc_mi rfl t_772 t_575 t_576 (Nat.le_of_ble_eq_true rfl) (Nat.le_of_ble_eq_true rfl) dX2_easing_112 (Nat.le_of_ble_eq_true rfl) rfl rfl (m_X2_cheapestTo X.2.1 E N 54 p2 pe_54 hp2 a3 (-9) r15.2 _ h18) ?_
          change Zz E X YX2_easing (some (.int R.1), R.2) r17.2 _ _ [.int r17.1]
          refine z_istore (lv' := [(11, .int r17.1), (10, .int r9.1), (0, .ref (E.2.1 53)), (1, .ref (E.2.1 p1)), (2, .ref (E.2.1 p2)), (3, .int a3), (6, .int a6), (7, .int a7), (8, .int a8), (9, .int a9)]) C dX2_easing_115 (by decide) rfl ?_
          refine z_iload C dX2_easing_117 0 rfl ?_
          refine z_bipush (v := (-9)) C dX2_easing_119 (by decide) ?_
          refine z_icmp_eq (tgt := 146) C dX2_easing_121 (by decide) (fun h19 => ?_) (fun h19 => ?_)
          · replace hf := ifp hf h19
            refine z_iinc (v := (a9 + 1)) (lv' := [(9, .int (a9 + 1)), (11, .int r17.1), (10, .int r9.1), (0, .ref (E.2.1 53)), (1, .ref (E.2.1 p1)), (2, .ref (E.2.1 p2)), (3, .int a3), (6, .int a6), (7, .int a7), (8, .int a8)]) C dX2_easing_146 9 rfl rfl (by decide) rfl ?_
            refine z_goto (tgt := 53) C dX2_easing_149 (by decide) ?_
            refine z_sub [(0, .ref (E.2.1 53)), (1, .ref (E.2.1 p1)), (2, .ref (E.2.1 p2)), (3, .int a3), (6, .int a6), (7, .int a7), (8, .int a8), (9, .int (a9 + 1))] [3, 4, 5, 6, 7, 8, 9, 0] rfl ?_
            exact ih a3 a6 a7 a8 (a9 + 1) r17.2 _ hf hx53
          · replace hf := ifn hf h19
            refine z_iload C dX2_easing_124 0 rfl ?_
            obtain ⟨r20, h21, hf⟩ := bd_some hf
            refine z_callSN (Y2 := YX11_costOf) (As := [.int r17.1]) C lk_X11_costOf n_580 t_581 (Nat.le_of_ble_eq_true rfl) (Nat.le_of_ble_eq_true rfl) dX2_easing_126 (Nat.le_of_ble_eq_true rfl) rfl rfl (m_X11_costOf X.2.1 E N r17.1 r17.2 _ h21) ?_
            change Zz E X YX2_easing (some (.int R.1), R.2) r20.2 _ _ [.int r20.1]
            refine z_iload C dX2_easing_129 6 rfl ?_
            refine z_icmp_ge (tgt := 146) C dX2_easing_131 (by decide) (fun h22 => ?_) (fun h22 => ?_)
            · replace hf := ifp hf h22
              refine z_iinc (v := (a9 + 1)) (lv' := [(9, .int (a9 + 1)), (11, .int r17.1), (10, .int r9.1), (0, .ref (E.2.1 53)), (1, .ref (E.2.1 p1)), (2, .ref (E.2.1 p2)), (3, .int a3), (6, .int a6), (7, .int a7), (8, .int a8)]) C dX2_easing_146 9 rfl rfl (by decide) rfl ?_
              refine z_goto (tgt := 53) C dX2_easing_149 (by decide) ?_
              refine z_sub [(0, .ref (E.2.1 53)), (1, .ref (E.2.1 p1)), (2, .ref (E.2.1 p2)), (3, .int a3), (6, .int a6), (7, .int a7), (8, .int a8), (9, .int (a9 + 1))] [3, 4, 5, 6, 7, 8, 9, 0] rfl ?_
              exact ih a3 a6 a7 a8 (a9 + 1) r20.2 _ hf hx53
            · replace hf := ifn hf h22
              refine z_iload C dX2_easing_134 1 rfl ?_
              refine z_istore (lv' := [(8, .int r9.1), (11, .int r17.1), (10, .int r9.1), (0, .ref (E.2.1 53)), (1, .ref (E.2.1 p1)), (2, .ref (E.2.1 p2)), (3, .int a3), (6, .int a6), (7, .int a7), (9, .int a9)]) C dX2_easing_136 (by decide) rfl ?_
              refine z_gets2 C n_578 dX2_easing_138 ?_
              refine z_iload C dX2_easing_141 9 rfl ?_
              obtain ⟨h23, hf⟩ := ga_some hf
              refine z_ald2 C h23 dX2_easing_143 ?_
              obtain ⟨v24, h25, hf⟩ := nm_some hf
              rw [← h25]
              refine z_istore (lv' := [(7, .int v24), (8, .int r9.1), (11, .int r17.1), (10, .int r9.1), (0, .ref (E.2.1 53)), (1, .ref (E.2.1 p1)), (2, .ref (E.2.1 p2)), (3, .int a3), (6, .int a6), (9, .int a9)]) C dX2_easing_144 (by decide) rfl ?_
              refine z_iinc (v := (a9 + 1)) (lv' := [(9, .int (a9 + 1)), (7, .int v24), (8, .int r9.1), (11, .int r17.1), (10, .int r9.1), (0, .ref (E.2.1 53)), (1, .ref (E.2.1 p1)), (2, .ref (E.2.1 p2)), (3, .int a3), (6, .int a6)]) C dX2_easing_146 9 rfl rfl (by decide) rfl ?_
              refine z_goto (tgt := 53) C dX2_easing_149 (by decide) ?_
              refine z_sub [(0, .ref (E.2.1 53)), (1, .ref (E.2.1 p1)), (2, .ref (E.2.1 p2)), (3, .int a3), (6, .int a6), (7, .int v24), (8, .int r9.1), (9, .int (a9 + 1))] [5, 6, 7, 8, 9, 1, 2, 0] rfl ?_
              exact ih a3 a6 v24 r9.1 (a9 + 1) r20.2 _ hf hx53
  have hJ44 : ∀ (a3 a6 b0 : Int32) (σ : Sg), f_X2_easing_J44 N p1 p2 a3 a6 b0 σ = some R → Zz E X YX2_easing (some (.int R.1), R.2) σ 44 [(0, .ref (E.2.1 53)), (1, .ref (E.2.1 p1)), (2, .ref (E.2.1 p2)), (3, .int a3), (6, .int a6)] [.int b0] := by
    intro a3 a6 b0 σ hf
    unfold f_X2_easing_J44 at hf
    refine z_istore (lv' := [(7, .int b0), (0, .ref (E.2.1 53)), (1, .ref (E.2.1 p1)), (2, .ref (E.2.1 p2)), (3, .int a3), (6, .int a6)]) C dX2_easing_44 (by decide) rfl ?_
    refine z_bipush (v := 100) C dX2_easing_46 (by decide) ?_
    refine z_istore (lv' := [(8, .int 100), (7, .int b0), (0, .ref (E.2.1 53)), (1, .ref (E.2.1 p1)), (2, .ref (E.2.1 p2)), (3, .int a3), (6, .int a6)]) C dX2_easing_48 (by decide) rfl ?_
    refine z_iconst (v := 0) C dX2_easing_50 (by decide) ?_
    refine z_istore (lv' := [(9, .int 0), (8, .int 100), (7, .int b0), (0, .ref (E.2.1 53)), (1, .ref (E.2.1 p1)), (2, .ref (E.2.1 p2)), (3, .int a3), (6, .int a6)]) C dX2_easing_51 (by decide) rfl ?_
    refine z_sub [(0, .ref (E.2.1 53)), (1, .ref (E.2.1 p1)), (2, .ref (E.2.1 p2)), (3, .int a3), (6, .int a6), (7, .int b0), (8, .int 100), (9, .int 0)] [3, 4, 5, 6, 7, 2, 1, 0] rfl ?_
    obtain ⟨s26, h27, hf⟩ := bd_some hf
    refine hL53 N a3 a6 b0 100 0 σ _ h27 ?_
    refine z_iload C dX2_easing_152 0 rfl ?_
    exact z_iret C dX2_easing_154 rfl (by rw [← Option.some.inj hf])
  have hJ28 : ∀ (a3 a4 a5 b0 : Int32) (σ : Sg), f_X2_easing_J28 N p1 p2 a3 a4 a5 b0 σ = some R → Zz E X YX2_easing (some (.int R.1), R.2) σ 28 [(0, .ref (E.2.1 53)), (1, .ref (E.2.1 p1)), (2, .ref (E.2.1 p2)), (3, .int a3), (4, .int a4), (5, .int a5)] [.int b0] := by
    intro a3 a4 a5 b0 σ hf
    unfold f_X2_easing_J28 at hf
    refine z_istore (lv' := [(6, .int b0), (0, .ref (E.2.1 53)), (1, .ref (E.2.1 p1)), (2, .ref (E.2.1 p2)), (3, .int a3), (4, .int a4), (5, .int a5)]) C dX2_easing_28 (by decide) rfl ?_
    refine z_iload C dX2_easing_30 6 rfl ?_
    refine z_bipush (v := (-9)) C dX2_easing_32 (by decide) ?_
    refine z_icmp_ne (tgt := 42) C dX2_easing_34 (by decide) (fun h6 => ?_) (fun h6 => ?_)
    · replace hf := ifn hf h6
      refine z_iload C dX2_easing_42 6 rfl ?_
      refine z_sub [(0, .ref (E.2.1 53)), (1, .ref (E.2.1 p1)), (2, .ref (E.2.1 p2)), (3, .int a3), (6, .int b0)] [1, 2, 3, 4, 0] rfl ?_
      exact hJ44 a3 b0 a5 σ hf
    · replace hf := ifp hf h6
      refine z_iload C dX2_easing_37 5 rfl ?_
      refine z_goto (tgt := 44) C dX2_easing_39 (by decide) ?_
      refine z_sub [(0, .ref (E.2.1 53)), (1, .ref (E.2.1 p1)), (2, .ref (E.2.1 p2)), (3, .int a3), (6, .int b0)] [1, 2, 3, 4, 0] rfl ?_
      exact hJ44 a3 b0 a4 σ hf
  unfold f_X2_easing at hf
  refine z_aload_n C dX2_easing_0 0 rfl ?_
  refine z_aload_n C dX2_easing_1 1 rfl ?_
  refine z_aload_n C dX2_easing_2 2 rfl ?_
  refine z_iload_n C dX2_easing_3 3 rfl ?_
  refine z_bipush (v := (-9)) C dX2_easing_4 (by decide) ?_
  obtain ⟨r1, h2, hf⟩ := bd_some hf
  refine z_callV (Y2 := YX2_cheapestTo) (CC := RX2) (T := TX2) (N := 5) (ci := 1) (As := [.ref (E.2.1 p1), .ref (E.2.1 p2), .int x3, .int (-9)]) C lk_X2_cheapestTo (by decide) wc_mi rfl t_772 t_575 t_576 (Nat.le_of_ble_eq_true rfl) (Nat.le_of_ble_eq_true rfl) dX2_easing_6 (Nat.le_of_ble_eq_true rfl) rfl rfl (m_X2_cheapestTo X.2.1 E N p1 p2 hp1 hp2 x3 (-9) σ _ h2) ?_
  change Zz E X YX2_easing (some (.int R.1), R.2) r1.2 _ _ [.int r1.1]
  refine z_istore (lv' := [(5, .int r1.1), (0, .ref (E.2.1 53)), (1, .ref (E.2.1 p1)), (2, .ref (E.2.1 p2)), (3, .int x3), (4, .int x4)]) C dX2_easing_9 (by decide) rfl ?_
  refine z_iload C dX2_easing_11 0 rfl ?_
  refine z_bipush (v := (-9)) C dX2_easing_13 (by decide) ?_
  refine z_icmp_ne (tgt := 23) C dX2_easing_15 (by decide) (fun h3 => ?_) (fun h3 => ?_)
  · replace hf := ifn hf h3
    refine z_iload C dX2_easing_23 0 rfl ?_
    obtain ⟨r4, h5, hf⟩ := bd_some hf
    refine z_callSN (Y2 := YX11_costOf) (As := [.int r1.1]) C lk_X11_costOf n_580 t_581 (Nat.le_of_ble_eq_true rfl) (Nat.le_of_ble_eq_true rfl) dX2_easing_25 (Nat.le_of_ble_eq_true rfl) rfl rfl (m_X11_costOf X.2.1 E N r1.1 r1.2 _ h5) ?_
    change Zz E X YX2_easing (some (.int R.1), R.2) r4.2 _ _ [.int r4.1]
    refine z_sub [(0, .ref (E.2.1 53)), (1, .ref (E.2.1 p1)), (2, .ref (E.2.1 p2)), (3, .int x3), (4, .int x4), (5, .int r1.1)] [1, 2, 3, 4, 5, 0] rfl ?_
    exact hJ28 x3 x4 r1.1 r4.1 r4.2 hf
  · replace hf := ifp hf h3
    refine z_bipush (v := 100) C dX2_easing_18 (by decide) ?_
    refine z_goto (tgt := 28) C dX2_easing_20 (by decide) ?_
    refine z_sub [(0, .ref (E.2.1 53)), (1, .ref (E.2.1 p1)), (2, .ref (E.2.1 p2)), (3, .int x3), (4, .int x4), (5, .int r1.1)] [1, 2, 3, 4, 5, 0] rfl ?_
    exact hJ28 x3 x4 r1.1 100 r1.2 hf
theorem lk_X2_easing {Y : Yv} : Lk Y YX2_easing 4 := ⟨t_780, t_6, ⟨by decide +kernel, by decide +kernel⟩, by decide +kernel⟩
abbrev YX2_written : Yv := (yX2_written, cX2_written, 6, some .int, 5, 138)
def f_X2_written (N : Nat) (p1 : Nat) (p2 : Nat) (x3 : Int32) (σ : Sg) : Option (Int32 × Sg) :=
  (f_X4_get N (p1 + 8) x3 σ).bind (fun r1 => (f_X4_get N (p1 + 6) x3 r1.2).bind (fun r3 => (f_X4_get N (p1 + 4) x3 r3.2).bind (fun r5 => if r5.1 = 1 then ((f_X2_cheapestTo N (p1 + 1) p2 r3.1 r1.1 r5.2).bind (fun r8 => some (r8.1, r8.2))) else (if r5.1 = 2 then ((f_X2_meetingMost N (p1 + 1) p2 r5.2).bind (fun r11 => some (r11.1, r11.2))) else (if r5.1 = 3 then (if (jrem (r5.2 p1 9) 2) = 1 then ((f_X2_cheapestTo N (p1 + 1) p2 r3.1 r1.1 r5.2).bind (fun r15 => some (r15.1, r15.2))) else (some (r1.1, r5.2))) else (if r5.1 = 4 then ((f_X2_easing N (p1 + 1) p2 r3.1 r1.1 r5.2).bind (fun r18 => some (r18.1, r18.2))) else (some (r1.1, r5.2))))))))
set_option maxHeartbeats 4000000 in
set_option maxRecDepth 20000 in
theorem m_X2_written (l : Launch) (E : Ev) (N : Nat) (p1 : Nat) (p2 : Nat) (hp1 : isSt p1) (hp2 : isLa p2) (x3 : Int32) (σ : Sg) (R : Int32 × Sg) (hf : f_X2_written N p1 p2 x3 σ = some R) : Ct l E YX2_written [.ref (E.2.1 53), .ref (E.2.1 p1), .ref (E.2.1 p2), .int x3] σ (some (.int R.1), R.2) := by
  refine ct_of (by decide +kernel) (Nat.le_of_ble_eq_true rfl) [(0, .ref (E.2.1 53)), (1, .ref (E.2.1 p1)), (2, .ref (E.2.1 p2)), (3, .int x3)] rfl (fun X hX C => ?_)
  unfold f_X2_written at hf
  refine z_aload_n C dX2_written_0 1 rfl ?_
  refine z_getN (v := .ref (E.2.1 (p1 + 8))) (T := TX9) (N := 11) (ci := 8) C (lt_st hp1) (wc_st hp1) rfl in_X9 3 (by decide) n_92 rfl dX2_written_1 ?_
  refine z_iload_n C dX2_written_4 3 rfl ?_
  obtain ⟨r1, h2, hf⟩ := bd_some hf
  refine z_callV (Y2 := YX4_get) (CC := RX4) (T := TX4) (N := 2) (ci := 3) (As := [.int x3]) C lk_X4_get (lt_nu (hp1).2.2.2.2.1) (wc_nu (hp1).2.2.2.2.1) rfl t_650 t_302 t_303 (Nat.le_of_ble_eq_true rfl) (Nat.le_of_ble_eq_true rfl) dX2_written_5 (Nat.le_of_ble_eq_true rfl) rfl rfl (m_X4_get X.2.1 E N (p1 + 8) (hp1).2.2.2.2.1 x3 σ _ h2) ?_
  change Zz E X YX2_written (some (.int R.1), R.2) r1.2 _ _ [.int r1.1]
  refine z_istore (lv' := [(4, .int r1.1), (0, .ref (E.2.1 53)), (1, .ref (E.2.1 p1)), (2, .ref (E.2.1 p2)), (3, .int x3)]) C dX2_written_8 (by decide) rfl ?_
  refine z_aload_n C dX2_written_10 2 rfl ?_
  refine z_getN (v := .ref (E.2.1 (p1 + 6))) (T := TX9) (N := 11) (ci := 8) C (lt_st hp1) (wc_st hp1) rfl in_X9 2 (by decide) n_88 rfl dX2_written_11 ?_
  refine z_iload_n C dX2_written_14 4 rfl ?_
  obtain ⟨r3, h4, hf⟩ := bd_some hf
  refine z_callV (Y2 := YX4_get) (CC := RX4) (T := TX4) (N := 2) (ci := 3) (As := [.int x3]) C lk_X4_get (lt_nu (hp1).2.2.2.1) (wc_nu (hp1).2.2.2.1) rfl t_650 t_302 t_303 (Nat.le_of_ble_eq_true rfl) (Nat.le_of_ble_eq_true rfl) dX2_written_15 (Nat.le_of_ble_eq_true rfl) rfl rfl (m_X4_get X.2.1 E N (p1 + 6) (hp1).2.2.2.1 x3 r1.2 _ h4) ?_
  change Zz E X YX2_written (some (.int R.1), R.2) r3.2 _ _ [.int r3.1]
  refine z_istore (lv' := [(5, .int r3.1), (4, .int r1.1), (0, .ref (E.2.1 53)), (1, .ref (E.2.1 p1)), (2, .ref (E.2.1 p2)), (3, .int x3)]) C dX2_written_18 (by decide) rfl ?_
  refine z_aload_n C dX2_written_20 3 rfl ?_
  refine z_getN (v := .ref (E.2.1 (p1 + 4))) (T := TX9) (N := 11) (ci := 8) C (lt_st hp1) (wc_st hp1) rfl in_X9 1 (by decide) n_84 rfl dX2_written_21 ?_
  refine z_iload_n C dX2_written_24 5 rfl ?_
  obtain ⟨r5, h6, hf⟩ := bd_some hf
  refine z_callV (Y2 := YX4_get) (CC := RX4) (T := TX4) (N := 2) (ci := 3) (As := [.int x3]) C lk_X4_get (lt_nu (hp1).2.2.1) (wc_nu (hp1).2.2.1) rfl t_650 t_302 t_303 (Nat.le_of_ble_eq_true rfl) (Nat.le_of_ble_eq_true rfl) dX2_written_25 (Nat.le_of_ble_eq_true rfl) rfl rfl (m_X4_get X.2.1 E N (p1 + 4) (hp1).2.2.1 x3 r3.2 _ h6) ?_
  change Zz E X YX2_written (some (.int R.1), R.2) r5.2 _ _ [.int r5.1]
  by_cases h7 : r5.1 = 1
  · replace hf := ifp hf h7
    refine z_tabIn (x := r5.1) (off := 32) (tgt := 60) C dX2_written_28 (by rw [h7]; decide) (by rw [h7]; decide) (by rw [h7]; decide) (by decide) ?_
    refine z_aload_n C dX2_written_60 2 rfl ?_
    refine z_aload_n C dX2_written_61 3 rfl ?_
    refine z_getN (v := .ref (E.2.1 (p1 + 1))) (T := TX9) (N := 11) (ci := 8) C (lt_st hp1) (wc_st hp1) rfl in_X9 0 (by decide) n_80 rfl dX2_written_62 ?_
    refine z_aload_n C dX2_written_65 4 rfl ?_
    refine z_iload C dX2_written_66 0 rfl ?_
    refine z_iload C dX2_written_68 1 rfl ?_
    obtain ⟨r8, h9, hf⟩ := bd_some hf
    refine z_callV (Y2 := YX2_cheapestTo) (CC := RX2) (T := TX2) (N := 5) (ci := 1) (As := [.ref (E.2.1 (p1 + 1)), .ref (E.2.1 p2), .int r3.1, .int r1.1]) C lk_X2_cheapestTo (by decide) wc_mi rfl t_772 t_575 t_576 (Nat.le_of_ble_eq_true rfl) (Nat.le_of_ble_eq_true rfl) dX2_written_70 (Nat.le_of_ble_eq_true rfl) rfl rfl (m_X2_cheapestTo X.2.1 E N (p1 + 1) p2 (hp1).2.1 hp2 r3.1 r1.1 r5.2 _ h9) ?_
    change Zz E X YX2_written (some (.int R.1), R.2) r8.2 _ _ [.int r8.1]
    exact z_iret C dX2_written_73 rfl (by rw [← Option.some.inj hf])
  · replace hf := ifn hf h7
    by_cases h10 : r5.1 = 2
    · replace hf := ifp hf h10
      refine z_tabIn (x := r5.1) (off := 46) (tgt := 74) C dX2_written_28 (by rw [h10]; decide) (by rw [h10]; decide) (by rw [h10]; decide) (by decide) ?_
      refine z_aload_n C dX2_written_74 2 rfl ?_
      refine z_aload_n C dX2_written_75 3 rfl ?_
      refine z_getN (v := .ref (E.2.1 (p1 + 1))) (T := TX9) (N := 11) (ci := 8) C (lt_st hp1) (wc_st hp1) rfl in_X9 0 (by decide) n_80 rfl dX2_written_76 ?_
      refine z_aload_n C dX2_written_79 4 rfl ?_
      obtain ⟨r11, h12, hf⟩ := bd_some hf
      refine z_callV (Y2 := YX2_meetingMost) (CC := RX2) (T := TX2) (N := 5) (ci := 1) (As := [.ref (E.2.1 (p1 + 1)), .ref (E.2.1 p2)]) C lk_X2_meetingMost (by decide) wc_mi rfl t_773 t_775 p_23 (Nat.le_of_ble_eq_true rfl) (Nat.le_of_ble_eq_true rfl) dX2_written_80 (Nat.le_of_ble_eq_true rfl) rfl rfl (m_X2_meetingMost X.2.1 E N (p1 + 1) p2 (hp1).2.1 hp2 r5.2 _ h12) ?_
      change Zz E X YX2_written (some (.int R.1), R.2) r11.2 _ _ [.int r11.1]
      exact z_iret C dX2_written_83 rfl (by rw [← Option.some.inj hf])
    · replace hf := ifn hf h10
      by_cases h13 : r5.1 = 3
      · replace hf := ifp hf h13
        refine z_tabIn (x := r5.1) (off := 56) (tgt := 84) C dX2_written_28 (by rw [h13]; decide) (by rw [h13]; decide) (by rw [h13]; decide) (by decide) ?_
        refine z_aload_n C dX2_written_84 3 rfl ?_
        refine z_getN (v := .int (r5.2 p1 9)) (T := TX9) (N := 11) (ci := 8) C (lt_st hp1) (wc_st hp1) rfl in_X9 9 (by decide) n_107 rfl dX2_written_85 ?_
        refine z_iconst (v := 2) C dX2_written_88 (by decide) ?_
        refine z_irem C dX2_written_89 (by decide) ?_
        refine z_iconst (v := 1) C dX2_written_90 (by decide) ?_
        refine z_icmp_ne (tgt := 110) C dX2_written_91 (by decide) (fun h14 => ?_) (fun h14 => ?_)
        · replace hf := ifn hf h14
          refine z_iload C dX2_written_110 1 rfl ?_
          exact z_iret C dX2_written_112 rfl (by rw [← Option.some.inj hf])
        · replace hf := ifp hf h14
          refine z_aload_n C dX2_written_94 2 rfl ?_
          refine z_aload_n C dX2_written_95 3 rfl ?_
          refine z_getN (v := .ref (E.2.1 (p1 + 1))) (T := TX9) (N := 11) (ci := 8) C (lt_st hp1) (wc_st hp1) rfl in_X9 0 (by decide) n_80 rfl dX2_written_96 ?_
          refine z_aload_n C dX2_written_99 4 rfl ?_
          refine z_iload C dX2_written_100 0 rfl ?_
          refine z_iload C dX2_written_102 1 rfl ?_
          obtain ⟨r15, h16, hf⟩ := bd_some hf
          refine z_callV (Y2 := YX2_cheapestTo) (CC := RX2) (T := TX2) (N := 5) (ci := 1) (As := [.ref (E.2.1 (p1 + 1)), .ref (E.2.1 p2), .int r3.1, .int r1.1]) C lk_X2_cheapestTo (by decide) wc_mi rfl t_772 t_575 t_576 (Nat.le_of_ble_eq_true rfl) (Nat.le_of_ble_eq_true rfl) dX2_written_104 (Nat.le_of_ble_eq_true rfl) rfl rfl (m_X2_cheapestTo X.2.1 E N (p1 + 1) p2 (hp1).2.1 hp2 r3.1 r1.1 r5.2 _ h16) ?_
          change Zz E X YX2_written (some (.int R.1), R.2) r15.2 _ _ [.int r15.1]
          refine z_goto (tgt := 112) C dX2_written_107 (by decide) ?_
          exact z_iret C dX2_written_112 rfl (by rw [← Option.some.inj hf])
      · replace hf := ifn hf h13
        by_cases h17 : r5.1 = 4
        · replace hf := ifp hf h17
          refine z_tabIn (x := r5.1) (off := 85) (tgt := 113) C dX2_written_28 (by rw [h17]; decide) (by rw [h17]; decide) (by rw [h17]; decide) (by decide) ?_
          refine z_aload_n C dX2_written_113 2 rfl ?_
          refine z_aload_n C dX2_written_114 3 rfl ?_
          refine z_getN (v := .ref (E.2.1 (p1 + 1))) (T := TX9) (N := 11) (ci := 8) C (lt_st hp1) (wc_st hp1) rfl in_X9 0 (by decide) n_80 rfl dX2_written_115 ?_
          refine z_aload_n C dX2_written_118 4 rfl ?_
          refine z_iload C dX2_written_119 0 rfl ?_
          refine z_iload C dX2_written_121 1 rfl ?_
          obtain ⟨r18, h19, hf⟩ := bd_some hf
          refine z_callV (Y2 := YX2_easing) (CC := RX2) (T := TX2) (N := 5) (ci := 1) (As := [.ref (E.2.1 (p1 + 1)), .ref (E.2.1 p2), .int r3.1, .int r1.1]) C lk_X2_easing (by decide) wc_mi rfl t_777 t_779 p_24 (Nat.le_of_ble_eq_true rfl) (Nat.le_of_ble_eq_true rfl) dX2_written_123 (Nat.le_of_ble_eq_true rfl) rfl rfl (m_X2_easing X.2.1 E N (p1 + 1) p2 (hp1).2.1 hp2 r3.1 r1.1 r5.2 _ h19) ?_
          change Zz E X YX2_written (some (.int R.1), R.2) r18.2 _ _ [.int r18.1]
          exact z_iret C dX2_written_126 rfl (by rw [← Option.some.inj hf])
        · replace hf := ifn hf h17
          refine z_tabOut (x := r5.1) (tgt := 127) C dX2_written_28 (by have eh7 := lv_neT (a := 1) h7 (by decide); have eh10 := lv_neT (a := 2) h10 (by decide); have eh13 := lv_neT (a := 3) h13 (by decide); have eh17 := lv_neT (a := 4) h17 (by decide); omega) (by decide) ?_
          refine z_iload C dX2_written_127 1 rfl ?_
          exact z_iret C dX2_written_129 rfl (by rw [← Option.some.inj hf])
theorem lk_X2_written {Y : Yv} : Lk Y YX2_written 3 := ⟨t_771, t_6, ⟨by decide +kernel, by decide +kernel⟩, by decide +kernel⟩
abbrev YX2_aimedBehind : Yv := (yX2_aimedBehind, cX2_aimedBehind, 5, some .int, 4, 107)
def f_X2_aimedBehind (N : Nat) (p1 : Nat) (p2 : Nat) (x3 x4 : Int32) (σ : Sg) : Option (Int32 × Sg) :=
  (f_X5_takeFrom N 54 (p1 + 1) σ).bind (fun r1 => (f_X0_deliver N p2 54 x4 r1).bind (fun r3 => (f_X4_get N (p1 + 6) x3 r3.2).bind (fun r5 => (f_X4_get N (p1 + 8) x3 r5.2).bind (fun r7 => (f_X2_cheapestTo N 54 p2 r5.1 r7.1 r7.2).bind (fun r9 => some (r9.1, r9.2))))))
set_option maxHeartbeats 4000000 in
set_option maxRecDepth 20000 in
theorem m_X2_aimedBehind (l : Launch) (E : Ev) (N : Nat) (p1 : Nat) (p2 : Nat) (hp1 : isSt p1) (hp2 : isLa p2) (x3 x4 : Int32) (σ : Sg) (R : Int32 × Sg) (hf : f_X2_aimedBehind N p1 p2 x3 x4 σ = some R) : Ct l E YX2_aimedBehind [.ref (E.2.1 53), .ref (E.2.1 p1), .ref (E.2.1 p2), .int x3, .int x4] σ (some (.int R.1), R.2) := by
  refine ct_of (by decide +kernel) (Nat.le_of_ble_eq_true rfl) [(0, .ref (E.2.1 53)), (1, .ref (E.2.1 p1)), (2, .ref (E.2.1 p2)), (3, .int x3), (4, .int x4)] rfl (fun X hX C => ?_)
  unfold f_X2_aimedBehind at hf
  refine z_aload_n C dX2_aimedBehind_0 0 rfl ?_
  refine z_get (v := .ref (E.2.1 54)) (T := TX2) (N := 5) (ci := 1) C (by decide) wc_mi rfl in_X2 0 (by decide) t_167 rfl dX2_aimedBehind_1 ?_
  refine z_aload_n C dX2_aimedBehind_4 1 rfl ?_
  refine z_getN (v := .ref (E.2.1 (p1 + 1))) (T := TX9) (N := 11) (ci := 8) C (lt_st hp1) (wc_st hp1) rfl in_X9 0 (by decide) n_80 rfl dX2_aimedBehind_5 ?_
  obtain ⟨r1, h2, hf⟩ := bd_some hf
  refine z_callV (Y2 := YX5_takeFrom) (CC := RX5) (T := TX5) (N := 3) (ci := 4) (As := [.ref (E.2.1 (p1 + 1))]) C lk_X5_takeFrom (lt_pe pe_54) (wc_pe pe_54) rfl t_617 t_287 t_288 (Nat.le_of_ble_eq_true rfl) (Nat.le_of_ble_eq_true rfl) dX2_aimedBehind_8 (Nat.le_of_ble_eq_true rfl) rfl rfl (m_X5_takeFrom X.2.1 E N 54 (p1 + 1) pe_54 (hp1).2.1 σ _ h2) ?_
  change Zz E X YX2_aimedBehind (some (.int R.1), R.2) r1 _ _ []
  refine z_aload_n C dX2_aimedBehind_11 2 rfl ?_
  refine z_aload_n C dX2_aimedBehind_12 0 rfl ?_
  refine z_get (v := .ref (E.2.1 54)) (T := TX2) (N := 5) (ci := 1) C (by decide) wc_mi rfl in_X2 0 (by decide) t_167 rfl dX2_aimedBehind_13 ?_
  refine z_iload C dX2_aimedBehind_16 4 rfl ?_
  obtain ⟨r3, h4, hf⟩ := bd_some hf
  refine z_law_X0_deliver (As := [.ref (E.2.1 54), .int x4]) C hp2 t_622 (Nat.le_of_ble_eq_true rfl) (Nat.le_of_ble_eq_true rfl) dX2_aimedBehind_18 (Nat.le_of_ble_eq_true rfl) rfl rfl (m_X0_deliver X.2.1 E N p2 54 hp2 pe_54 x4 r1 _ h4) ?_
  change Zz E X YX2_aimedBehind (some (.int R.1), R.2) r3.2 _ _ [.int r3.1]
  refine z_pop C dX2_aimedBehind_21 rfl ?_
  refine z_aload_n C dX2_aimedBehind_22 0 rfl ?_
  refine z_aload_n C dX2_aimedBehind_23 0 rfl ?_
  refine z_get (v := .ref (E.2.1 54)) (T := TX2) (N := 5) (ci := 1) C (by decide) wc_mi rfl in_X2 0 (by decide) t_167 rfl dX2_aimedBehind_24 ?_
  refine z_aload_n C dX2_aimedBehind_27 2 rfl ?_
  refine z_aload_n C dX2_aimedBehind_28 1 rfl ?_
  refine z_getN (v := .ref (E.2.1 (p1 + 6))) (T := TX9) (N := 11) (ci := 8) C (lt_st hp1) (wc_st hp1) rfl in_X9 2 (by decide) n_88 rfl dX2_aimedBehind_29 ?_
  refine z_iload_n C dX2_aimedBehind_32 3 rfl ?_
  obtain ⟨r5, h6, hf⟩ := bd_some hf
  refine z_callV (Y2 := YX4_get) (CC := RX4) (T := TX4) (N := 2) (ci := 3) (As := [.int x3]) C lk_X4_get (lt_nu (hp1).2.2.2.1) (wc_nu (hp1).2.2.2.1) rfl t_650 t_302 t_303 (Nat.le_of_ble_eq_true rfl) (Nat.le_of_ble_eq_true rfl) dX2_aimedBehind_33 (Nat.le_of_ble_eq_true rfl) rfl rfl (m_X4_get X.2.1 E N (p1 + 6) (hp1).2.2.2.1 x3 r3.2 _ h6) ?_
  change Zz E X YX2_aimedBehind (some (.int R.1), R.2) r5.2 _ _ [.int r5.1, .ref (E.2.1 p2), .ref (E.2.1 54), .ref (E.2.1 53)]
  refine z_aload_n C dX2_aimedBehind_36 1 rfl ?_
  refine z_getN (v := .ref (E.2.1 (p1 + 8))) (T := TX9) (N := 11) (ci := 8) C (lt_st hp1) (wc_st hp1) rfl in_X9 3 (by decide) n_92 rfl dX2_aimedBehind_37 ?_
  refine z_iload_n C dX2_aimedBehind_40 3 rfl ?_
  obtain ⟨r7, h8, hf⟩ := bd_some hf
  refine z_callV (Y2 := YX4_get) (CC := RX4) (T := TX4) (N := 2) (ci := 3) (As := [.int x3]) C lk_X4_get (lt_nu (hp1).2.2.2.2.1) (wc_nu (hp1).2.2.2.2.1) rfl t_650 t_302 t_303 (Nat.le_of_ble_eq_true rfl) (Nat.le_of_ble_eq_true rfl) dX2_aimedBehind_41 (Nat.le_of_ble_eq_true rfl) rfl rfl (m_X4_get X.2.1 E N (p1 + 8) (hp1).2.2.2.2.1 x3 r5.2 _ h8) ?_
  change Zz E X YX2_aimedBehind (some (.int R.1), R.2) r7.2 _ _ [.int r7.1, .int r5.1, .ref (E.2.1 p2), .ref (E.2.1 54), .ref (E.2.1 53)]
  obtain ⟨r9, h10, hf⟩ := bd_some hf
  refine z_callV (Y2 := YX2_cheapestTo) (CC := RX2) (T := TX2) (N := 5) (ci := 1) (As := [.ref (E.2.1 54), .ref (E.2.1 p2), .int r5.1, .int r7.1]) C lk_X2_cheapestTo (by decide) wc_mi rfl t_772 t_575 t_576 (Nat.le_of_ble_eq_true rfl) (Nat.le_of_ble_eq_true rfl) dX2_aimedBehind_44 (Nat.le_of_ble_eq_true rfl) rfl rfl (m_X2_cheapestTo X.2.1 E N 54 p2 pe_54 hp2 r5.1 r7.1 r7.2 _ h10) ?_
  change Zz E X YX2_aimedBehind (some (.int R.1), R.2) r9.2 _ _ [.int r9.1]
  exact z_iret C dX2_aimedBehind_47 rfl (by rw [← Option.some.inj hf])
theorem lk_X2_aimedBehind {Y : Yv} : Lk Y YX2_aimedBehind 4 := ⟨t_796, t_6, ⟨by decide +kernel, by decide +kernel⟩, by decide +kernel⟩
abbrev YX2_roundsOfTwo : Yv := (yX2_roundsOfTwo, cX2_roundsOfTwo, 10, some .int, 5, 131)
def f_X2_roundsOfTwo_B24 (N : Nat) (p1 : Nat) (p2 : Nat) (rec : Int32 → Int32 → Int32 → Int32 → Int32 → Sg → Option ((Sg) ⊕ (Int32 × Sg))) (a3 a4 a5 a6 a7 : Int32) (σ : Sg) : Option ((Sg) ⊕ (Int32 × Sg)) :=
  if 10 < a7 then (some (.inl σ)) else ((f_X2_aimedBehind N p1 p2 a3 a6 σ).bind (fun r6 => (f_X2_aimedBehind N p1 p2 a4 r6.1 r6.2).bind (fun r8 => if r6.1 = a5 then (if r8.1 = a6 then (some (.inr (a7, r8.2))) else (rec a3 a4 r6.1 r8.1 (a7 + 1) r8.2)) else (rec a3 a4 r6.1 r8.1 (a7 + 1) r8.2))))
def f_X2_roundsOfTwo_L24 (N : Nat) (p1 : Nat) (p2 : Nat) : Nat → Int32 → Int32 → Int32 → Int32 → Int32 → Sg → Option ((Sg) ⊕ (Int32 × Sg))
  | 0 => fun _ _ _ _ _ _ => none
  | k + 1 => fun a3 a4 a5 a6 a7 σ => f_X2_roundsOfTwo_B24 N p1 p2 (f_X2_roundsOfTwo_L24 N p1 p2 k) a3 a4 a5 a6 a7 σ
def f_X2_roundsOfTwo (N : Nat) (p1 : Nat) (p2 : Nat) (x3 x4 : Int32) (σ : Sg) : Option (Int32 × Sg) :=
  (f_X4_get N (p1 + 8) x3 σ).bind (fun r1 => (f_X4_get N (p1 + 8) x4 r1.2).bind (fun r3 => ex1 (f_X2_roundsOfTwo_L24 N p1 p2 N x3 x4 r1.1 r3.1 1 r3.2) (fun s12 => some ((-9), s12)) (fun r13 => some r13)))
set_option maxHeartbeats 4000000 in
set_option maxRecDepth 20000 in
theorem m_X2_roundsOfTwo (l : Launch) (E : Ev) (N : Nat) (p1 : Nat) (p2 : Nat) (hp1 : isSt p1) (hp2 : isLa p2) (x3 x4 : Int32) (σ : Sg) (R : Int32 × Sg) (hf : f_X2_roundsOfTwo N p1 p2 x3 x4 σ = some R) : Ct l E YX2_roundsOfTwo [.ref (E.2.1 53), .ref (E.2.1 p1), .ref (E.2.1 p2), .int x3, .int x4] σ (some (.int R.1), R.2) := by
  refine ct_of (by decide +kernel) (Nat.le_of_ble_eq_true rfl) [(0, .ref (E.2.1 53)), (1, .ref (E.2.1 p1)), (2, .ref (E.2.1 p2)), (3, .int x3), (4, .int x4)] rfl (fun X hX C => ?_)
  have hL24 : ∀ (k : Nat) (a3 a4 a5 a6 a7 : Int32) (σ : Sg) (Q24 : (Sg) ⊕ (Int32 × Sg)), f_X2_roundsOfTwo_L24 N p1 p2 k a3 a4 a5 a6 a7 σ = some Q24 → (∀ S, Q24 = .inl S → Zz E X YX2_roundsOfTwo (some (.int R.1), R.2) S 85 [] []) → (∀ r, Q24 = .inr r → ((some (.int R.1), R.2) : Pv) = (some (.int r.1), r.2)) → Zz E X YX2_roundsOfTwo (some (.int R.1), R.2) σ 24 [(0, .ref (E.2.1 53)), (1, .ref (E.2.1 p1)), (2, .ref (E.2.1 p2)), (3, .int a3), (4, .int a4), (5, .int a5), (6, .int a6), (7, .int a7)] [] := by
    intro k
    induction k with
    | zero =>
      intro a3 a4 a5 a6 a7 σ Q24 hf
      have hf : (none : Option ((Sg) ⊕ (Int32 × Sg))) = some Q24 := hf
      cases hf
    | succ k ih =>
      intro a3 a4 a5 a6 a7 σ Q24 hf hx24 hr24
      have hf : f_X2_roundsOfTwo_B24 N p1 p2 (f_X2_roundsOfTwo_L24 N p1 p2 k) a3 a4 a5 a6 a7 σ = some Q24 := hf
      unfold f_X2_roundsOfTwo_B24 at hf
      refine z_iload C dX2_roundsOfTwo_24 7 rfl ?_
      refine z_bipush (v := 10) C dX2_roundsOfTwo_26 (by decide) ?_
      refine z_icmp_gt (tgt := 85) C dX2_roundsOfTwo_28 (by decide) (fun h5 => ?_) (fun h5 => ?_)
      · replace hf := ifp hf h5
        refine z_sub [] [] rfl ?_
        exact hx24 _ (Option.some.inj hf).symm
      · replace hf := ifn hf h5
        refine z_aload_n C dX2_roundsOfTwo_31 0 rfl ?_
        refine z_aload_n C dX2_roundsOfTwo_32 1 rfl ?_
        refine z_aload_n C dX2_roundsOfTwo_33 2 rfl ?_
        refine z_iload_n C dX2_roundsOfTwo_34 3 rfl ?_
        refine z_iload C dX2_roundsOfTwo_35 6 rfl ?_
        obtain ⟨r6, h7, hf⟩ := bd_some hf
        refine z_callV (Y2 := YX2_aimedBehind) (CC := RX2) (T := TX2) (N := 5) (ci := 1) (As := [.ref (E.2.1 p1), .ref (E.2.1 p2), .int a3, .int a6]) C lk_X2_aimedBehind (by decide) wc_mi rfl t_793 t_795 p_25 (Nat.le_of_ble_eq_true rfl) (Nat.le_of_ble_eq_true rfl) dX2_roundsOfTwo_37 (Nat.le_of_ble_eq_true rfl) rfl rfl (m_X2_aimedBehind X.2.1 E N p1 p2 hp1 hp2 a3 a6 σ _ h7) ?_
        change Zz E X YX2_roundsOfTwo (some (.int R.1), R.2) r6.2 _ _ [.int r6.1]
        refine z_istore (lv' := [(8, .int r6.1), (0, .ref (E.2.1 53)), (1, .ref (E.2.1 p1)), (2, .ref (E.2.1 p2)), (3, .int a3), (4, .int a4), (5, .int a5), (6, .int a6), (7, .int a7)]) C dX2_roundsOfTwo_40 (by decide) rfl ?_
        refine z_aload_n C dX2_roundsOfTwo_42 1 rfl ?_
        refine z_aload_n C dX2_roundsOfTwo_43 2 rfl ?_
        refine z_aload_n C dX2_roundsOfTwo_44 3 rfl ?_
        refine z_iload C dX2_roundsOfTwo_45 5 rfl ?_
        refine z_iload C dX2_roundsOfTwo_47 0 rfl ?_
        obtain ⟨r8, h9, hf⟩ := bd_some hf
        refine z_callV (Y2 := YX2_aimedBehind) (CC := RX2) (T := TX2) (N := 5) (ci := 1) (As := [.ref (E.2.1 p1), .ref (E.2.1 p2), .int a4, .int r6.1]) C lk_X2_aimedBehind (by decide) wc_mi rfl t_793 t_795 p_25 (Nat.le_of_ble_eq_true rfl) (Nat.le_of_ble_eq_true rfl) dX2_roundsOfTwo_49 (Nat.le_of_ble_eq_true rfl) rfl rfl (m_X2_aimedBehind X.2.1 E N p1 p2 hp1 hp2 a4 r6.1 r6.2 _ h9) ?_
        change Zz E X YX2_roundsOfTwo (some (.int R.1), R.2) r8.2 _ _ [.int r8.1]
        refine z_istore (lv' := [(9, .int r8.1), (8, .int r6.1), (0, .ref (E.2.1 53)), (1, .ref (E.2.1 p1)), (2, .ref (E.2.1 p2)), (3, .int a3), (4, .int a4), (5, .int a5), (6, .int a6), (7, .int a7)]) C dX2_roundsOfTwo_52 (by decide) rfl ?_
        refine z_iload C dX2_roundsOfTwo_54 1 rfl ?_
        refine z_iload C dX2_roundsOfTwo_56 7 rfl ?_
        refine z_icmp_ne (tgt := 71) C dX2_roundsOfTwo_58 (by decide) (fun h10 => ?_) (fun h10 => ?_)
        · replace hf := ifn hf h10
          refine z_iload C dX2_roundsOfTwo_71 1 rfl ?_
          refine z_istore (lv' := [(5, .int r6.1), (9, .int r8.1), (8, .int r6.1), (0, .ref (E.2.1 53)), (1, .ref (E.2.1 p1)), (2, .ref (E.2.1 p2)), (3, .int a3), (4, .int a4), (6, .int a6), (7, .int a7)]) C dX2_roundsOfTwo_73 (by decide) rfl ?_
          refine z_iload C dX2_roundsOfTwo_75 1 rfl ?_
          refine z_istore (lv' := [(6, .int r8.1), (5, .int r6.1), (9, .int r8.1), (8, .int r6.1), (0, .ref (E.2.1 53)), (1, .ref (E.2.1 p1)), (2, .ref (E.2.1 p2)), (3, .int a3), (4, .int a4), (7, .int a7)]) C dX2_roundsOfTwo_77 (by decide) rfl ?_
          refine z_iinc (v := (a7 + 1)) (lv' := [(7, .int (a7 + 1)), (6, .int r8.1), (5, .int r6.1), (9, .int r8.1), (8, .int r6.1), (0, .ref (E.2.1 53)), (1, .ref (E.2.1 p1)), (2, .ref (E.2.1 p2)), (3, .int a3), (4, .int a4)]) C dX2_roundsOfTwo_79 9 rfl rfl (by decide) rfl ?_
          refine z_goto (tgt := 24) C dX2_roundsOfTwo_82 (by decide) ?_
          refine z_sub [(0, .ref (E.2.1 53)), (1, .ref (E.2.1 p1)), (2, .ref (E.2.1 p2)), (3, .int a3), (4, .int a4), (5, .int r6.1), (6, .int r8.1), (7, .int (a7 + 1))] [5, 6, 7, 8, 9, 2, 1, 0] rfl ?_
          exact ih a3 a4 r6.1 r8.1 (a7 + 1) r8.2 _ hf hx24 hr24
        · replace hf := ifp hf h10
          refine z_iload C dX2_roundsOfTwo_61 0 rfl ?_
          refine z_iload C dX2_roundsOfTwo_63 8 rfl ?_
          refine z_icmp_ne (tgt := 71) C dX2_roundsOfTwo_65 (by decide) (fun h11 => ?_) (fun h11 => ?_)
          · replace hf := ifn hf h11
            refine z_iload C dX2_roundsOfTwo_71 1 rfl ?_
            refine z_istore (lv' := [(5, .int r6.1), (9, .int r8.1), (8, .int r6.1), (0, .ref (E.2.1 53)), (1, .ref (E.2.1 p1)), (2, .ref (E.2.1 p2)), (3, .int a3), (4, .int a4), (6, .int a6), (7, .int a7)]) C dX2_roundsOfTwo_73 (by decide) rfl ?_
            refine z_iload C dX2_roundsOfTwo_75 1 rfl ?_
            refine z_istore (lv' := [(6, .int r8.1), (5, .int r6.1), (9, .int r8.1), (8, .int r6.1), (0, .ref (E.2.1 53)), (1, .ref (E.2.1 p1)), (2, .ref (E.2.1 p2)), (3, .int a3), (4, .int a4), (7, .int a7)]) C dX2_roundsOfTwo_77 (by decide) rfl ?_
            refine z_iinc (v := (a7 + 1)) (lv' := [(7, .int (a7 + 1)), (6, .int r8.1), (5, .int r6.1), (9, .int r8.1), (8, .int r6.1), (0, .ref (E.2.1 53)), (1, .ref (E.2.1 p1)), (2, .ref (E.2.1 p2)), (3, .int a3), (4, .int a4)]) C dX2_roundsOfTwo_79 9 rfl rfl (by decide) rfl ?_
            refine z_goto (tgt := 24) C dX2_roundsOfTwo_82 (by decide) ?_
            refine z_sub [(0, .ref (E.2.1 53)), (1, .ref (E.2.1 p1)), (2, .ref (E.2.1 p2)), (3, .int a3), (4, .int a4), (5, .int r6.1), (6, .int r8.1), (7, .int (a7 + 1))] [5, 6, 7, 8, 9, 2, 1, 0] rfl ?_
            exact ih a3 a4 r6.1 r8.1 (a7 + 1) r8.2 _ hf hx24 hr24
          · replace hf := ifp hf h11
            refine z_iload C dX2_roundsOfTwo_68 9 rfl ?_
            have hq := hr24 _ (Option.some.inj hf).symm
            exact z_iret C dX2_roundsOfTwo_70 rfl hq
  unfold f_X2_roundsOfTwo at hf
  refine z_aload_n C dX2_roundsOfTwo_0 1 rfl ?_
  refine z_getN (v := .ref (E.2.1 (p1 + 8))) (T := TX9) (N := 11) (ci := 8) C (lt_st hp1) (wc_st hp1) rfl in_X9 3 (by decide) n_92 rfl dX2_roundsOfTwo_1 ?_
  refine z_iload_n C dX2_roundsOfTwo_4 3 rfl ?_
  obtain ⟨r1, h2, hf⟩ := bd_some hf
  refine z_callV (Y2 := YX4_get) (CC := RX4) (T := TX4) (N := 2) (ci := 3) (As := [.int x3]) C lk_X4_get (lt_nu (hp1).2.2.2.2.1) (wc_nu (hp1).2.2.2.2.1) rfl t_650 t_302 t_303 (Nat.le_of_ble_eq_true rfl) (Nat.le_of_ble_eq_true rfl) dX2_roundsOfTwo_5 (Nat.le_of_ble_eq_true rfl) rfl rfl (m_X4_get X.2.1 E N (p1 + 8) (hp1).2.2.2.2.1 x3 σ _ h2) ?_
  change Zz E X YX2_roundsOfTwo (some (.int R.1), R.2) r1.2 _ _ [.int r1.1]
  refine z_istore (lv' := [(5, .int r1.1), (0, .ref (E.2.1 53)), (1, .ref (E.2.1 p1)), (2, .ref (E.2.1 p2)), (3, .int x3), (4, .int x4)]) C dX2_roundsOfTwo_8 (by decide) rfl ?_
  refine z_aload_n C dX2_roundsOfTwo_10 2 rfl ?_
  refine z_getN (v := .ref (E.2.1 (p1 + 8))) (T := TX9) (N := 11) (ci := 8) C (lt_st hp1) (wc_st hp1) rfl in_X9 3 (by decide) n_92 rfl dX2_roundsOfTwo_11 ?_
  refine z_iload C dX2_roundsOfTwo_14 5 rfl ?_
  obtain ⟨r3, h4, hf⟩ := bd_some hf
  refine z_callV (Y2 := YX4_get) (CC := RX4) (T := TX4) (N := 2) (ci := 3) (As := [.int x4]) C lk_X4_get (lt_nu (hp1).2.2.2.2.1) (wc_nu (hp1).2.2.2.2.1) rfl t_650 t_302 t_303 (Nat.le_of_ble_eq_true rfl) (Nat.le_of_ble_eq_true rfl) dX2_roundsOfTwo_16 (Nat.le_of_ble_eq_true rfl) rfl rfl (m_X4_get X.2.1 E N (p1 + 8) (hp1).2.2.2.2.1 x4 r1.2 _ h4) ?_
  change Zz E X YX2_roundsOfTwo (some (.int R.1), R.2) r3.2 _ _ [.int r3.1]
  refine z_istore (lv' := [(6, .int r3.1), (5, .int r1.1), (0, .ref (E.2.1 53)), (1, .ref (E.2.1 p1)), (2, .ref (E.2.1 p2)), (3, .int x3), (4, .int x4)]) C dX2_roundsOfTwo_19 (by decide) rfl ?_
  refine z_iconst (v := 1) C dX2_roundsOfTwo_21 (by decide) ?_
  refine z_istore (lv' := [(7, .int 1), (6, .int r3.1), (5, .int r1.1), (0, .ref (E.2.1 53)), (1, .ref (E.2.1 p1)), (2, .ref (E.2.1 p2)), (3, .int x3), (4, .int x4)]) C dX2_roundsOfTwo_22 (by decide) rfl ?_
  refine z_sub [(0, .ref (E.2.1 53)), (1, .ref (E.2.1 p1)), (2, .ref (E.2.1 p2)), (3, .int x3), (4, .int x4), (5, .int r1.1), (6, .int r3.1), (7, .int 1)] [3, 4, 5, 6, 7, 2, 1, 0] rfl ?_
  rcases ex1_some hf with ⟨s12, h14, hf⟩ | ⟨r13, h14, hf⟩
  · refine hL24 N x3 x4 r1.1 r3.1 1 r3.2 _ h14 (fun S e => ?_) (fun _ e => nomatch e)
    cases e
    refine z_bipush (v := (-9)) C dX2_roundsOfTwo_85 (by decide) ?_
    exact z_iret C dX2_roundsOfTwo_87 rfl (by rw [← Option.some.inj hf])
  · refine hL24 N x3 x4 r1.1 r3.1 1 r3.2 _ h14 (fun _ e => nomatch e) (fun r e => ?_)
    cases e
    exact (by rw [← Option.some.inj hf])
theorem lk_X2_roundsOfTwo {Y : Yv} : Lk Y YX2_roundsOfTwo 4 := ⟨t_792, t_6, ⟨by decide +kernel, by decide +kernel⟩, by decide +kernel⟩
abbrev YX2_drawBelow : Yv := (yX2_drawBelow, cX2_drawBelow, 2, some .int, 0, 0)
def f_X2_drawBelow (N : Nat) (x1 : Int32) (σ : Sg) : Option (Int32 × Sg) :=
  nm (sgs σ 53 4 (((σ 53 4) * 1664525) + 1013904223)) (fun σ1 => if x1 ≤ 0 then (some (0, σ1)) else (gd x1 (some ((jrem (((σ1 53 4) &&& 2147483647) / 256) x1), σ1))))
set_option maxHeartbeats 4000000 in
set_option maxRecDepth 20000 in
theorem m_X2_drawBelow (l : Launch) (E : Ev) (N : Nat) (x1 : Int32) (σ : Sg) (R : Int32 × Sg) (hf : f_X2_drawBelow N x1 σ = some R) : Ct l E YX2_drawBelow [.ref (E.2.1 53), .int x1] σ (some (.int R.1), R.2) := by
  refine ct_of (by decide +kernel) (Nat.le_of_ble_eq_true rfl) [(0, .ref (E.2.1 53)), (1, .int x1)] rfl (fun X hX C => ?_)
  unfold f_X2_drawBelow at hf
  refine z_aload_n C dX2_drawBelow_0 0 rfl ?_
  refine z_aload_n C dX2_drawBelow_1 0 rfl ?_
  refine z_get (v := .int (σ 53 4)) (T := TX2) (N := 5) (ci := 1) C (by decide) wc_mi rfl in_X2 4 (by decide) t_172 rfl dX2_drawBelow_2 ?_
  refine z_ldc (v := 1664525) C dX2_drawBelow_5 t_809 ?_
  refine z_imul C dX2_drawBelow_7 ?_
  refine z_ldc (v := 1013904223) C dX2_drawBelow_8 t_810 ?_
  refine z_iadd C dX2_drawBelow_10 ?_
  obtain ⟨σ1, h2, hf⟩ := nm_some hf
  refine z_put (T := TX2) (N := 5) (ci := 1) (ty := .int) C tyX2 tyX2_ok nmX2 (by decide) wc_mi rfl in_X2 4 (by decide) t_172 rfl rfl rfl rfl (Nat.le_of_ble_eq_true rfl) (pw_X2_4) dX2_drawBelow_11 ?_
  rw [← h2]
  refine z_iload_n C dX2_drawBelow_14 1 rfl ?_
  refine z_if_le (tgt := 34) C dX2_drawBelow_15 (by decide) (fun h3 => ?_) (fun h3 => ?_)
  · replace hf := ifp hf h3
    refine z_iconst (v := 0) C dX2_drawBelow_34 (by decide) ?_
    exact z_iret C dX2_drawBelow_35 rfl (by rw [← Option.some.inj hf])
  · replace hf := ifn hf h3
    refine z_aload_n C dX2_drawBelow_18 0 rfl ?_
    refine z_get (v := .int (σ1 53 4)) (T := TX2) (N := 5) (ci := 1) C (by decide) wc_mi rfl in_X2 4 (by decide) t_172 rfl dX2_drawBelow_19 ?_
    refine z_ldc (v := 2147483647) C dX2_drawBelow_22 t_811 ?_
    refine z_iand C dX2_drawBelow_24 ?_
    refine z_sipush (v := 256) C dX2_drawBelow_25 (by decide) ?_
    refine z_idiv C dX2_drawBelow_28 (by decide) ?_
    refine z_iload_n C dX2_drawBelow_29 1 rfl ?_
    obtain ⟨h4, hf⟩ := gd_some hf
    refine z_irem C dX2_drawBelow_30 h4 ?_
    refine z_goto (tgt := 35) C dX2_drawBelow_31 (by decide) ?_
    exact z_iret C dX2_drawBelow_35 rfl (by rw [← Option.some.inj hf])
theorem lk_X2_drawBelow {Y : Yv} : Lk Y YX2_drawBelow 1 := ⟨t_808, t_6, ⟨by decide +kernel, by decide +kernel⟩, by decide +kernel⟩
abbrev YX2_needBehindDays : Yv := (yX2_needBehindDays, cX2_needBehindDays, 8, some .int, 4, 102)
def f_X2_needBehindDays_B29 (N : Nat) (p1 : Nat) (p2 : Nat) (rec : Int32 → Int32 → Int32 → Int32 → Sg → Option (Int32 × Int32 × Int32 × Sg)) (a3 a5 a6 a7 : Int32) (σ : Sg) : Option (Int32 × Int32 × Int32 × Sg) :=
  if 4 ≤ a7 then (some (a3, a5, a6, σ)) else ((f_X2_drawBelow N 3 σ).bind (fun r7 => ga a7 4 (nm (a6 + (r7.1 * (digL.getD (Int32.toNatClampNeg a7) 0))) (fun v10 => rec a3 a5 v10 (a7 + 1) r7.2))))
def f_X2_needBehindDays_L29 (N : Nat) (p1 : Nat) (p2 : Nat) : Nat → Int32 → Int32 → Int32 → Int32 → Sg → Option (Int32 × Int32 × Int32 × Sg)
  | 0 => fun _ _ _ _ _ => none
  | k + 1 => fun a3 a5 a6 a7 σ => f_X2_needBehindDays_B29 N p1 p2 (f_X2_needBehindDays_L29 N p1 p2 k) a3 a5 a6 a7 σ
def f_X2_needBehindDays_B17 (N : Nat) (p1 : Nat) (p2 : Nat) (rec : Int32 → Int32 → Sg → Option (Sg)) (a3 a5 : Int32) (σ : Sg) : Option (Sg) :=
  if a3 ≤ a5 then (some σ) else ((f_X2_needBehindDays_L29 N p1 p2 N a3 a5 0 0 σ).bind (fun s12 => (f_X0_deliver N p2 54 s12.2.2.1 s12.2.2.2).bind (fun r13 => (f_X5_grow N 54 r13.2).bind (fun r15 => rec s12.1 (s12.2.1 + 1) r15))))
def f_X2_needBehindDays_L17 (N : Nat) (p1 : Nat) (p2 : Nat) : Nat → Int32 → Int32 → Sg → Option (Sg)
  | 0 => fun _ _ _ => none
  | k + 1 => fun a3 a5 σ => f_X2_needBehindDays_B17 N p1 p2 (f_X2_needBehindDays_L17 N p1 p2 k) a3 a5 σ
def f_X2_needBehindDays (N : Nat) (p1 : Nat) (p2 : Nat) (x3 x4 : Int32) (σ : Sg) : Option (Int32 × Sg) :=
  (f_X5_takeFrom N 54 p1 σ).bind (fun r1 => nm (sgs r1 53 4 x4) (fun σ3 => (f_X2_needBehindDays_L17 N p1 p2 N x3 0 σ3).bind (fun s18 => (f_X5_total N 54 s18).bind (fun r19 => some (r19.1, r19.2)))))
set_option maxHeartbeats 4000000 in
set_option maxRecDepth 20000 in
theorem m_X2_needBehindDays (l : Launch) (E : Ev) (N : Nat) (p1 : Nat) (p2 : Nat) (hp1 : isPe p1) (hp2 : isLa p2) (x3 x4 : Int32) (σ : Sg) (R : Int32 × Sg) (hf : f_X2_needBehindDays N p1 p2 x3 x4 σ = some R) : Ct l E YX2_needBehindDays [.ref (E.2.1 53), .ref (E.2.1 p1), .ref (E.2.1 p2), .int x3, .int x4] σ (some (.int R.1), R.2) := by
  refine ct_of (by decide +kernel) (Nat.le_of_ble_eq_true rfl) [(0, .ref (E.2.1 53)), (1, .ref (E.2.1 p1)), (2, .ref (E.2.1 p2)), (3, .int x3), (4, .int x4)] rfl (fun X hX C => ?_)
  have hL29 : ∀ (k : Nat) (a3 a5 a6 a7 : Int32) (σ : Sg) (Q29 : Int32 × Int32 × Int32 × Sg), f_X2_needBehindDays_L29 N p1 p2 k a3 a5 a6 a7 σ = some Q29 → (Zz E X YX2_needBehindDays (some (.int R.1), R.2) Q29.2.2.2 58 [(0, .ref (E.2.1 53)), (2, .ref (E.2.1 p2)), (3, .int Q29.1), (5, .int Q29.2.1), (6, .int Q29.2.2.1)] []) → Zz E X YX2_needBehindDays (some (.int R.1), R.2) σ 29 [(0, .ref (E.2.1 53)), (2, .ref (E.2.1 p2)), (3, .int a3), (5, .int a5), (6, .int a6), (7, .int a7)] [] := by
    intro k
    induction k with
    | zero =>
      intro a3 a5 a6 a7 σ Q29 hf
      have hf : (none : Option (Int32 × Int32 × Int32 × Sg)) = some Q29 := hf
      cases hf
    | succ k ih =>
      intro a3 a5 a6 a7 σ Q29 hf hx29
      have hf : f_X2_needBehindDays_B29 N p1 p2 (f_X2_needBehindDays_L29 N p1 p2 k) a3 a5 a6 a7 σ = some Q29 := hf
      unfold f_X2_needBehindDays_B29 at hf
      refine z_iload C dX2_needBehindDays_29 5 rfl ?_
      refine z_iconst (v := 4) C dX2_needBehindDays_31 (by decide) ?_
      refine z_icmp_ge (tgt := 58) C dX2_needBehindDays_32 (by decide) (fun h6 => ?_) (fun h6 => ?_)
      · replace hf := ifp hf h6
        refine z_sub [(0, .ref (E.2.1 53)), (2, .ref (E.2.1 p2)), (3, .int a3), (5, .int a5), (6, .int a6)] [0, 1, 2, 3, 4] rfl ?_
        obtain rfl := Option.some.inj hf
        exact hx29
      · replace hf := ifn hf h6
        refine z_iload C dX2_needBehindDays_35 4 rfl ?_
        refine z_aload_n C dX2_needBehindDays_37 0 rfl ?_
        refine z_iconst (v := 3) C dX2_needBehindDays_38 (by decide) ?_
        obtain ⟨r7, h8, hf⟩ := bd_some hf
        refine z_callV (Y2 := YX2_drawBelow) (CC := RX2) (T := TX2) (N := 5) (ci := 1) (As := [.int 3]) C lk_X2_drawBelow (by decide) wc_mi rfl t_805 t_807 p_26 (Nat.le_of_ble_eq_true rfl) (Nat.le_of_ble_eq_true rfl) dX2_needBehindDays_39 (Nat.le_of_ble_eq_true rfl) rfl rfl (m_X2_drawBelow X.2.1 E N 3 σ _ h8) ?_
        change Zz E X YX2_needBehindDays (some (.int R.1), R.2) r7.2 _ _ [.int r7.1, .int a6]
        refine z_getsD C n_812 dX2_needBehindDays_42 ?_
        refine z_iload C dX2_needBehindDays_45 5 rfl ?_
        obtain ⟨h9, hf⟩ := ga_some hf
        refine z_aldD C h9 dX2_needBehindDays_47 ?_
        refine z_imul C dX2_needBehindDays_48 ?_
        refine z_iadd C dX2_needBehindDays_49 ?_
        obtain ⟨v10, h11, hf⟩ := nm_some hf
        rw [← h11]
        refine z_istore (lv' := [(6, .int v10), (0, .ref (E.2.1 53)), (2, .ref (E.2.1 p2)), (3, .int a3), (5, .int a5), (7, .int a7)]) C dX2_needBehindDays_50 (by decide) rfl ?_
        refine z_iinc (v := (a7 + 1)) (lv' := [(7, .int (a7 + 1)), (6, .int v10), (0, .ref (E.2.1 53)), (2, .ref (E.2.1 p2)), (3, .int a3), (5, .int a5)]) C dX2_needBehindDays_52 5 rfl rfl (by decide) rfl ?_
        refine z_goto (tgt := 29) C dX2_needBehindDays_55 (by decide) ?_
        refine z_sub [(0, .ref (E.2.1 53)), (2, .ref (E.2.1 p2)), (3, .int a3), (5, .int a5), (6, .int v10), (7, .int (a7 + 1))] [2, 3, 4, 5, 1, 0] rfl ?_
        exact ih a3 a5 v10 (a7 + 1) r7.2 _ hf hx29
  have hL17 : ∀ (k : Nat) (a3 a5 : Int32) (σ : Sg) (Q17 : Sg), f_X2_needBehindDays_L17 N p1 p2 k a3 a5 σ = some Q17 → (Zz E X YX2_needBehindDays (some (.int R.1), R.2) Q17 82 [(0, .ref (E.2.1 53))] []) → Zz E X YX2_needBehindDays (some (.int R.1), R.2) σ 17 [(0, .ref (E.2.1 53)), (2, .ref (E.2.1 p2)), (3, .int a3), (5, .int a5)] [] := by
    intro k
    induction k with
    | zero =>
      intro a3 a5 σ Q17 hf
      have hf : (none : Option (Sg)) = some Q17 := hf
      cases hf
    | succ k ih =>
      intro a3 a5 σ Q17 hf hx17
      have hf : f_X2_needBehindDays_B17 N p1 p2 (f_X2_needBehindDays_L17 N p1 p2 k) a3 a5 σ = some Q17 := hf
      unfold f_X2_needBehindDays_B17 at hf
      refine z_iload C dX2_needBehindDays_17 3 rfl ?_
      refine z_iload_n C dX2_needBehindDays_19 2 rfl ?_
      refine z_icmp_ge (tgt := 82) C dX2_needBehindDays_20 (by decide) (fun h5 => ?_) (fun h5 => ?_)
      · replace hf := ifp hf h5
        refine z_sub [(0, .ref (E.2.1 53))] [0] rfl ?_
        obtain rfl := Option.some.inj hf
        exact hx17
      · replace hf := ifn hf h5
        refine z_iconst (v := 0) C dX2_needBehindDays_23 (by decide) ?_
        refine z_istore (lv' := [(6, .int 0), (0, .ref (E.2.1 53)), (2, .ref (E.2.1 p2)), (3, .int a3), (5, .int a5)]) C dX2_needBehindDays_24 (by decide) rfl ?_
        refine z_iconst (v := 0) C dX2_needBehindDays_26 (by decide) ?_
        refine z_istore (lv' := [(7, .int 0), (6, .int 0), (0, .ref (E.2.1 53)), (2, .ref (E.2.1 p2)), (3, .int a3), (5, .int a5)]) C dX2_needBehindDays_27 (by decide) rfl ?_
        refine z_sub [(0, .ref (E.2.1 53)), (2, .ref (E.2.1 p2)), (3, .int a3), (5, .int a5), (6, .int 0), (7, .int 0)] [2, 3, 4, 5, 1, 0] rfl ?_
        obtain ⟨s12, h17, hf⟩ := bd_some hf
        refine hL29 N a3 a5 0 0 σ _ h17 ?_
        refine z_aload_n C dX2_needBehindDays_58 1 rfl ?_
        refine z_aload_n C dX2_needBehindDays_59 0 rfl ?_
        refine z_get (v := .ref (E.2.1 54)) (T := TX2) (N := 5) (ci := 1) C (by decide) wc_mi rfl in_X2 0 (by decide) t_167 rfl dX2_needBehindDays_60 ?_
        refine z_iload C dX2_needBehindDays_63 4 rfl ?_
        obtain ⟨r13, h14, hf⟩ := bd_some hf
        refine z_law_X0_deliver (As := [.ref (E.2.1 54), .int s12.2.2.1]) C hp2 t_622 (Nat.le_of_ble_eq_true rfl) (Nat.le_of_ble_eq_true rfl) dX2_needBehindDays_65 (Nat.le_of_ble_eq_true rfl) rfl rfl (m_X0_deliver X.2.1 E N p2 54 hp2 pe_54 s12.2.2.1 s12.2.2.2 _ h14) ?_
        change Zz E X YX2_needBehindDays (some (.int R.1), R.2) r13.2 _ _ [.int r13.1]
        refine z_pop C dX2_needBehindDays_68 rfl ?_
        refine z_aload_n C dX2_needBehindDays_69 0 rfl ?_
        refine z_get (v := .ref (E.2.1 54)) (T := TX2) (N := 5) (ci := 1) C (by decide) wc_mi rfl in_X2 0 (by decide) t_167 rfl dX2_needBehindDays_70 ?_
        obtain ⟨r15, h16, hf⟩ := bd_some hf
        refine z_callV (Y2 := YX5_grow) (CC := RX5) (T := TX5) (N := 3) (ci := 4) (As := []) C lk_X5_grow (lt_pe pe_54) (wc_pe pe_54) rfl t_813 t_559 t_560 (Nat.le_of_ble_eq_true rfl) (Nat.le_of_ble_eq_true rfl) dX2_needBehindDays_73 (Nat.le_of_ble_eq_true rfl) rfl rfl (m_X5_grow X.2.1 E N 54 pe_54 r13.2 _ h16) ?_
        change Zz E X YX2_needBehindDays (some (.int R.1), R.2) r15 _ _ []
        refine z_iinc (v := (s12.2.1 + 1)) (lv' := [(5, .int (s12.2.1 + 1)), (0, .ref (E.2.1 53)), (2, .ref (E.2.1 p2)), (3, .int s12.1), (6, .int s12.2.2.1)]) C dX2_needBehindDays_76 3 rfl rfl (by decide) rfl ?_
        refine z_goto (tgt := 17) C dX2_needBehindDays_79 (by decide) ?_
        refine z_sub [(0, .ref (E.2.1 53)), (2, .ref (E.2.1 p2)), (3, .int s12.1), (5, .int (s12.2.1 + 1))] [1, 2, 3, 0] rfl ?_
        exact ih s12.1 (s12.2.1 + 1) r15 _ hf hx17
  unfold f_X2_needBehindDays at hf
  refine z_aload_n C dX2_needBehindDays_0 0 rfl ?_
  refine z_get (v := .ref (E.2.1 54)) (T := TX2) (N := 5) (ci := 1) C (by decide) wc_mi rfl in_X2 0 (by decide) t_167 rfl dX2_needBehindDays_1 ?_
  refine z_aload_n C dX2_needBehindDays_4 1 rfl ?_
  obtain ⟨r1, h2, hf⟩ := bd_some hf
  refine z_callV (Y2 := YX5_takeFrom) (CC := RX5) (T := TX5) (N := 3) (ci := 4) (As := [.ref (E.2.1 p1)]) C lk_X5_takeFrom (lt_pe pe_54) (wc_pe pe_54) rfl t_617 t_287 t_288 (Nat.le_of_ble_eq_true rfl) (Nat.le_of_ble_eq_true rfl) dX2_needBehindDays_5 (Nat.le_of_ble_eq_true rfl) rfl rfl (m_X5_takeFrom X.2.1 E N 54 p1 pe_54 hp1 σ _ h2) ?_
  change Zz E X YX2_needBehindDays (some (.int R.1), R.2) r1 _ _ []
  refine z_aload_n C dX2_needBehindDays_8 0 rfl ?_
  refine z_iload C dX2_needBehindDays_9 4 rfl ?_
  obtain ⟨σ3, h4, hf⟩ := nm_some hf
  refine z_put (T := TX2) (N := 5) (ci := 1) (ty := .int) C tyX2 tyX2_ok nmX2 (by decide) wc_mi rfl in_X2 4 (by decide) t_172 rfl rfl rfl rfl (Nat.le_of_ble_eq_true rfl) (pw_X2_4) dX2_needBehindDays_11 ?_
  rw [← h4]
  refine z_iconst (v := 0) C dX2_needBehindDays_14 (by decide) ?_
  refine z_istore (lv' := [(5, .int 0), (0, .ref (E.2.1 53)), (1, .ref (E.2.1 p1)), (2, .ref (E.2.1 p2)), (3, .int x3), (4, .int x4)]) C dX2_needBehindDays_15 (by decide) rfl ?_
  refine z_sub [(0, .ref (E.2.1 53)), (2, .ref (E.2.1 p2)), (3, .int x3), (5, .int 0)] [1, 3, 4, 0] rfl ?_
  obtain ⟨s18, h21, hf⟩ := bd_some hf
  refine hL17 N x3 0 σ3 _ h21 ?_
  refine z_aload_n C dX2_needBehindDays_82 0 rfl ?_
  refine z_get (v := .ref (E.2.1 54)) (T := TX2) (N := 5) (ci := 1) C (by decide) wc_mi rfl in_X2 0 (by decide) t_167 rfl dX2_needBehindDays_83 ?_
  obtain ⟨r19, h20, hf⟩ := bd_some hf
  refine z_callV (Y2 := YX5_total) (CC := RX5) (T := TX5) (N := 3) (ci := 4) (As := []) C lk_X5_total (lt_pe pe_54) (wc_pe pe_54) rfl t_651 t_563 t_564 (Nat.le_of_ble_eq_true rfl) (Nat.le_of_ble_eq_true rfl) dX2_needBehindDays_86 (Nat.le_of_ble_eq_true rfl) rfl rfl (m_X5_total X.2.1 E N 54 pe_54 s18 _ h20) ?_
  change Zz E X YX2_needBehindDays (some (.int R.1), R.2) r19.2 _ _ [.int r19.1]
  exact z_iret C dX2_needBehindDays_89 rfl (by rw [← Option.some.inj hf])
theorem lk_X2_needBehindDays {Y : Yv} : Lk Y YX2_needBehindDays 4 := ⟨t_804, t_6, ⟨by decide +kernel, by decide +kernel⟩, by decide +kernel⟩
abbrev YX2_firstNotSo : Yv := (yX2_firstNotSo, cX2_firstNotSo, 7, some .int, 4, 102)
def f_X2_firstNotSo_J57 (N : Nat) (p1 : Nat) (p2 : Nat) (p3 : Nat) (p4 : Nat) (rec : Int32 → Sg → Option ((Sg) ⊕ (Int32 × Sg))) (a5 b0 b1 : Int32) (σ : Sg) : Option ((Sg) ⊕ (Int32 × Sg)) :=
  if b1 = b0 then (rec (a5 + 1) σ) else (some (.inr (a5, σ)))
def f_X2_firstNotSo_B11 (N : Nat) (p1 : Nat) (p2 : Nat) (p3 : Nat) (p4 : Nat) (rec : Int32 → Sg → Option ((Sg) ⊕ (Int32 × Sg))) (a5 : Int32) (σ : Sg) : Option ((Sg) ⊕ (Int32 × Sg)) :=
  if (σ p3 1) ≤ a5 then (some (.inl σ)) else ((f_X4_get N p3 a5 σ).bind (fun r4 => (f_X0_deliver N p2 54 r4.1 r4.2).bind (fun r6 => (f_X4_get N p4 a5 r6.2).bind (fun r8 => if r6.1 = (-9) then (f_X2_firstNotSo_J57 N p1 p2 p3 p4 rec a5 9 r8.1 r8.2) else (f_X2_firstNotSo_J57 N p1 p2 p3 p4 rec a5 r6.1 r8.1 r8.2)))))
def f_X2_firstNotSo_L11 (N : Nat) (p1 : Nat) (p2 : Nat) (p3 : Nat) (p4 : Nat) : Nat → Int32 → Sg → Option ((Sg) ⊕ (Int32 × Sg))
  | 0 => fun _ _ => none
  | k + 1 => fun a5 σ => f_X2_firstNotSo_B11 N p1 p2 p3 p4 (f_X2_firstNotSo_L11 N p1 p2 p3 p4 k) a5 σ
def f_X2_firstNotSo (N : Nat) (p1 : Nat) (p2 : Nat) (p3 : Nat) (p4 : Nat) (σ : Sg) : Option (Int32 × Sg) :=
  (f_X5_takeFrom N 54 p1 σ).bind (fun r1 => ex1 (f_X2_firstNotSo_L11 N p1 p2 p3 p4 N 0 r1) (fun s12 => if (s12 p4 1) ≤ (s12 p3 1) then (some ((-9), s12)) else (some ((s12 p3 1), s12))) (fun r14 => some r14))
set_option maxHeartbeats 4000000 in
set_option maxRecDepth 20000 in
theorem m_X2_firstNotSo (l : Launch) (E : Ev) (N : Nat) (p1 : Nat) (p2 : Nat) (p3 : Nat) (p4 : Nat) (hp1 : isPe p1) (hp2 : isLa p2) (hp3 : isNu p3) (hp4 : isNu p4) (σ : Sg) (R : Int32 × Sg) (hf : f_X2_firstNotSo N p1 p2 p3 p4 σ = some R) : Ct l E YX2_firstNotSo [.ref (E.2.1 53), .ref (E.2.1 p1), .ref (E.2.1 p2), .ref (E.2.1 p3), .ref (E.2.1 p4)] σ (some (.int R.1), R.2) := by
  refine ct_of (by decide +kernel) (Nat.le_of_ble_eq_true rfl) [(0, .ref (E.2.1 53)), (1, .ref (E.2.1 p1)), (2, .ref (E.2.1 p2)), (3, .ref (E.2.1 p3)), (4, .ref (E.2.1 p4))] rfl (fun X hX C => ?_)
  have hL11 : ∀ (k : Nat) (a5 : Int32) (σ : Sg) (Q11 : (Sg) ⊕ (Int32 × Sg)), f_X2_firstNotSo_L11 N p1 p2 p3 p4 k a5 σ = some Q11 → (∀ S, Q11 = .inl S → Zz E X YX2_firstNotSo (some (.int R.1), R.2) S 69 [(3, .ref (E.2.1 p3)), (4, .ref (E.2.1 p4))] []) → (∀ r, Q11 = .inr r → ((some (.int R.1), R.2) : Pv) = (some (.int r.1), r.2)) → Zz E X YX2_firstNotSo (some (.int R.1), R.2) σ 11 [(0, .ref (E.2.1 53)), (2, .ref (E.2.1 p2)), (3, .ref (E.2.1 p3)), (4, .ref (E.2.1 p4)), (5, .int a5)] [] := by
    intro k
    induction k with
    | zero =>
      intro a5 σ Q11 hf
      have hf : (none : Option ((Sg) ⊕ (Int32 × Sg))) = some Q11 := hf
      cases hf
    | succ k ih =>
      intro a5 σ Q11 hf hx11 hr11
      have hf : f_X2_firstNotSo_B11 N p1 p2 p3 p4 (f_X2_firstNotSo_L11 N p1 p2 p3 p4 k) a5 σ = some Q11 := hf
      have hJ57 : ∀ (a5 b0 b1 : Int32) (σ : Sg), f_X2_firstNotSo_J57 N p1 p2 p3 p4 (f_X2_firstNotSo_L11 N p1 p2 p3 p4 k) a5 b0 b1 σ = some Q11 → Zz E X YX2_firstNotSo (some (.int R.1), R.2) σ 57 [(0, .ref (E.2.1 53)), (2, .ref (E.2.1 p2)), (3, .ref (E.2.1 p3)), (4, .ref (E.2.1 p4)), (5, .int a5)] [.int b0, .int b1] := by
        intro a5 b0 b1 σ hf
        unfold f_X2_firstNotSo_J57 at hf
        refine z_icmp_eq (tgt := 63) C dX2_firstNotSo_57 (by decide) (fun h11 => ?_) (fun h11 => ?_)
        · replace hf := ifp hf h11
          refine z_iinc (v := (a5 + 1)) (lv' := [(5, .int (a5 + 1)), (0, .ref (E.2.1 53)), (2, .ref (E.2.1 p2)), (3, .ref (E.2.1 p3)), (4, .ref (E.2.1 p4))]) C dX2_firstNotSo_63 4 rfl rfl (by decide) rfl ?_
          refine z_goto (tgt := 11) C dX2_firstNotSo_66 (by decide) ?_
          refine z_sub [(0, .ref (E.2.1 53)), (2, .ref (E.2.1 p2)), (3, .ref (E.2.1 p3)), (4, .ref (E.2.1 p4)), (5, .int (a5 + 1))] [1, 2, 3, 4, 0] rfl ?_
          exact ih (a5 + 1) σ _ hf hx11 hr11
        · replace hf := ifn hf h11
          refine z_iload C dX2_firstNotSo_60 4 rfl ?_
          have hq := hr11 _ (Option.some.inj hf).symm
          exact z_iret C dX2_firstNotSo_62 rfl hq
      unfold f_X2_firstNotSo_B11 at hf
      refine z_iload C dX2_firstNotSo_11 4 rfl ?_
      refine z_aload_n C dX2_firstNotSo_13 2 rfl ?_
      refine z_getN (v := .int (σ p3 1)) (T := TX4) (N := 2) (ci := 3) C (lt_nu hp3) (wc_nu hp3) rfl in_X4 1 (by decide) n_71 rfl dX2_firstNotSo_14 ?_
      refine z_icmp_ge (tgt := 69) C dX2_firstNotSo_17 (by decide) (fun h3 => ?_) (fun h3 => ?_)
      · replace hf := ifp hf h3
        refine z_sub [(3, .ref (E.2.1 p3)), (4, .ref (E.2.1 p4))] [2, 3] rfl ?_
        exact hx11 _ (Option.some.inj hf).symm
      · replace hf := ifn hf h3
        refine z_aload_n C dX2_firstNotSo_20 1 rfl ?_
        refine z_aload_n C dX2_firstNotSo_21 0 rfl ?_
        refine z_get (v := .ref (E.2.1 54)) (T := TX2) (N := 5) (ci := 1) C (by decide) wc_mi rfl in_X2 0 (by decide) t_167 rfl dX2_firstNotSo_22 ?_
        refine z_aload_n C dX2_firstNotSo_25 2 rfl ?_
        refine z_iload C dX2_firstNotSo_26 4 rfl ?_
        obtain ⟨r4, h5, hf⟩ := bd_some hf
        refine z_callV (Y2 := YX4_get) (CC := RX4) (T := TX4) (N := 2) (ci := 3) (As := [.int a5]) C lk_X4_get (lt_nu hp3) (wc_nu hp3) rfl t_650 t_302 t_303 (Nat.le_of_ble_eq_true rfl) (Nat.le_of_ble_eq_true rfl) dX2_firstNotSo_28 (Nat.le_of_ble_eq_true rfl) rfl rfl (m_X4_get X.2.1 E N p3 hp3 a5 σ _ h5) ?_
        change Zz E X YX2_firstNotSo (some (.int R.1), R.2) r4.2 _ _ [.int r4.1, .ref (E.2.1 54), .ref (E.2.1 p2)]
        obtain ⟨r6, h7, hf⟩ := bd_some hf
        refine z_law_X0_deliver (As := [.ref (E.2.1 54), .int r4.1]) C hp2 t_622 (Nat.le_of_ble_eq_true rfl) (Nat.le_of_ble_eq_true rfl) dX2_firstNotSo_31 (Nat.le_of_ble_eq_true rfl) rfl rfl (m_X0_deliver X.2.1 E N p2 54 hp2 pe_54 r4.1 r4.2 _ h7) ?_
        change Zz E X YX2_firstNotSo (some (.int R.1), R.2) r6.2 _ _ [.int r6.1]
        refine z_istore (lv' := [(6, .int r6.1), (0, .ref (E.2.1 53)), (2, .ref (E.2.1 p2)), (3, .ref (E.2.1 p3)), (4, .ref (E.2.1 p4)), (5, .int a5)]) C dX2_firstNotSo_34 (by decide) rfl ?_
        refine z_aload C dX2_firstNotSo_36 4 rfl ?_
        refine z_iload C dX2_firstNotSo_38 5 rfl ?_
        obtain ⟨r8, h9, hf⟩ := bd_some hf
        refine z_callV (Y2 := YX4_get) (CC := RX4) (T := TX4) (N := 2) (ci := 3) (As := [.int a5]) C lk_X4_get (lt_nu hp4) (wc_nu hp4) rfl t_650 t_302 t_303 (Nat.le_of_ble_eq_true rfl) (Nat.le_of_ble_eq_true rfl) dX2_firstNotSo_40 (Nat.le_of_ble_eq_true rfl) rfl rfl (m_X4_get X.2.1 E N p4 hp4 a5 r6.2 _ h9) ?_
        change Zz E X YX2_firstNotSo (some (.int R.1), R.2) r8.2 _ _ [.int r8.1]
        refine z_iload C dX2_firstNotSo_43 0 rfl ?_
        refine z_bipush (v := (-9)) C dX2_firstNotSo_45 (by decide) ?_
        refine z_icmp_ne (tgt := 55) C dX2_firstNotSo_47 (by decide) (fun h10 => ?_) (fun h10 => ?_)
        · replace hf := ifn hf h10
          refine z_iload C dX2_firstNotSo_55 0 rfl ?_
          refine z_sub [(0, .ref (E.2.1 53)), (2, .ref (E.2.1 p2)), (3, .ref (E.2.1 p3)), (4, .ref (E.2.1 p4)), (5, .int a5)] [1, 2, 3, 4, 5] rfl ?_
          exact hJ57 a5 r6.1 r8.1 r8.2 hf
        · replace hf := ifp hf h10
          refine z_bipush (v := 9) C dX2_firstNotSo_50 (by decide) ?_
          refine z_goto (tgt := 57) C dX2_firstNotSo_52 (by decide) ?_
          refine z_sub [(0, .ref (E.2.1 53)), (2, .ref (E.2.1 p2)), (3, .ref (E.2.1 p3)), (4, .ref (E.2.1 p4)), (5, .int a5)] [1, 2, 3, 4, 5] rfl ?_
          exact hJ57 a5 9 r8.1 r8.2 hf
  unfold f_X2_firstNotSo at hf
  refine z_aload_n C dX2_firstNotSo_0 0 rfl ?_
  refine z_get (v := .ref (E.2.1 54)) (T := TX2) (N := 5) (ci := 1) C (by decide) wc_mi rfl in_X2 0 (by decide) t_167 rfl dX2_firstNotSo_1 ?_
  refine z_aload_n C dX2_firstNotSo_4 1 rfl ?_
  obtain ⟨r1, h2, hf⟩ := bd_some hf
  refine z_callV (Y2 := YX5_takeFrom) (CC := RX5) (T := TX5) (N := 3) (ci := 4) (As := [.ref (E.2.1 p1)]) C lk_X5_takeFrom (lt_pe pe_54) (wc_pe pe_54) rfl t_617 t_287 t_288 (Nat.le_of_ble_eq_true rfl) (Nat.le_of_ble_eq_true rfl) dX2_firstNotSo_5 (Nat.le_of_ble_eq_true rfl) rfl rfl (m_X5_takeFrom X.2.1 E N 54 p1 pe_54 hp1 σ _ h2) ?_
  change Zz E X YX2_firstNotSo (some (.int R.1), R.2) r1 _ _ []
  refine z_iconst (v := 0) C dX2_firstNotSo_8 (by decide) ?_
  refine z_istore (lv' := [(5, .int 0), (0, .ref (E.2.1 53)), (1, .ref (E.2.1 p1)), (2, .ref (E.2.1 p2)), (3, .ref (E.2.1 p3)), (4, .ref (E.2.1 p4))]) C dX2_firstNotSo_9 (by decide) rfl ?_
  refine z_sub [(0, .ref (E.2.1 53)), (2, .ref (E.2.1 p2)), (3, .ref (E.2.1 p3)), (4, .ref (E.2.1 p4)), (5, .int 0)] [1, 3, 4, 5, 0] rfl ?_
  rcases ex1_some hf with ⟨s12, h15, hf⟩ | ⟨r14, h15, hf⟩
  · refine hL11 N 0 r1 _ h15 (fun S e => ?_) (fun _ e => nomatch e)
    cases e
    refine z_aload C dX2_firstNotSo_69 1 rfl ?_
    refine z_getN (v := .int (s12 p4 1)) (T := TX4) (N := 2) (ci := 3) C (lt_nu hp4) (wc_nu hp4) rfl in_X4 1 (by decide) n_71 rfl dX2_firstNotSo_71 ?_
    refine z_aload_n C dX2_firstNotSo_74 0 rfl ?_
    refine z_getN (v := .int (s12 p3 1)) (T := TX4) (N := 2) (ci := 3) C (lt_nu hp3) (wc_nu hp3) rfl in_X4 1 (by decide) n_71 rfl dX2_firstNotSo_75 ?_
    refine z_icmp_le (tgt := 88) C dX2_firstNotSo_78 (by decide) (fun h13 => ?_) (fun h13 => ?_)
    · replace hf := ifp hf h13
      refine z_bipush (v := (-9)) C dX2_firstNotSo_88 (by decide) ?_
      exact z_iret C dX2_firstNotSo_90 rfl (by rw [← Option.some.inj hf])
    · replace hf := ifn hf h13
      refine z_aload_n C dX2_firstNotSo_81 0 rfl ?_
      refine z_getN (v := .int (s12 p3 1)) (T := TX4) (N := 2) (ci := 3) C (lt_nu hp3) (wc_nu hp3) rfl in_X4 1 (by decide) n_71 rfl dX2_firstNotSo_82 ?_
      refine z_goto (tgt := 90) C dX2_firstNotSo_85 (by decide) ?_
      exact z_iret C dX2_firstNotSo_90 rfl (by rw [← Option.some.inj hf])
  · refine hL11 N 0 r1 _ h15 (fun _ e => nomatch e) (fun r e => ?_)
    cases e
    exact (by rw [← Option.some.inj hf])
theorem lk_X2_firstNotSo {Y : Yv} : Lk Y YX2_firstNotSo 4 := ⟨t_825, t_6, ⟨by decide +kernel, by decide +kernel⟩, by decide +kernel⟩
