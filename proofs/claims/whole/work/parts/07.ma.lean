abbrev YX5_has : Yv := (yX5_has, cX5_has, 2, some .boolean, 0, 0)
def f_X5_has (N : Nat) (o : Nat) (x1 : Int32) (σ : Sg) : Option (Int32 × Sg) :=
  if x1 < 0 then (some (0, σ)) else (if (σ o 2) ≤ x1 then (some (0, σ)) else (some (1, σ)))
set_option maxHeartbeats 4000000 in
set_option maxRecDepth 20000 in
theorem m_X5_has (l : Launch) (E : Ev) (N : Nat) (o : Nat) (ho : isPe o) (x1 : Int32) (σ : Sg) (R : Int32 × Sg) (hf : f_X5_has N o x1 σ = some R) : Ct l E YX5_has [.ref (E.2.1 o), .int x1] σ (some (.int R.1), R.2) := by
  refine ct_of (by decide +kernel) (Nat.le_of_ble_eq_true rfl) [(0, .ref (E.2.1 o)), (1, .int x1)] rfl (fun X hX C => ?_)
  unfold f_X5_has at hf
  refine z_iload_n C dX5_has_0 1 rfl ?_
  refine z_if_lt (tgt := 16) C dX5_has_1 (by decide) (fun h1 => ?_) (fun h1 => ?_)
  · replace hf := ifp hf h1
    refine z_iconst (v := 0) C dX5_has_16 (by decide) ?_
    exact z_zret C dX5_has_17 rfl rfl (by rw [← Option.some.inj hf])
  · replace hf := ifn hf h1
    refine z_iload_n C dX5_has_4 1 rfl ?_
    refine z_aload_n C dX5_has_5 0 rfl ?_
    refine z_get (v := .int (σ o 2)) (T := TX5) (N := 3) (ci := 4) C (lt_pe ho) (wc_pe ho) rfl in_X5 2 (by decide) t_46 rfl dX5_has_6 ?_
    refine z_icmp_ge (tgt := 16) C dX5_has_9 (by decide) (fun h2 => ?_) (fun h2 => ?_)
    · replace hf := ifp hf h2
      refine z_iconst (v := 0) C dX5_has_16 (by decide) ?_
      exact z_zret C dX5_has_17 rfl rfl (by rw [← Option.some.inj hf])
    · replace hf := ifn hf h2
      refine z_iconst (v := 1) C dX5_has_12 (by decide) ?_
      refine z_goto (tgt := 17) C dX5_has_13 (by decide) ?_
      exact z_zret C dX5_has_17 rfl rfl (by rw [← Option.some.inj hf])
theorem lk_X5_has {Y : Yv} : Lk Y YX5_has 1 := ⟨t_426, t_3, ⟨by decide +kernel, by decide +kernel⟩, by decide +kernel⟩
abbrev YX0_havers : Yv := (yX0_havers, cX0_havers, 4, some .int, 1, 21)
def f_X0_havers (N : Nat) (o : Nat) (p1 : Nat) (x2 x3 : Int32) (σ : Sg) : Option (Int32 × Sg) :=
  (f_X5_has N p1 x3 σ).bind (fun r1 => if r1.1 = 0 then (some (0, r1.2)) else (some (((1 : Int32) <<< (x3 &&& 31)), r1.2)))
set_option maxHeartbeats 4000000 in
set_option maxRecDepth 20000 in
theorem m_X0_havers (l : Launch) (E : Ev) (N : Nat) (o : Nat) (p1 : Nat) (ho : isLa o) (hp1 : isPe p1) (x2 x3 : Int32) (σ : Sg) (R : Int32 × Sg) (hf : f_X0_havers N o p1 x2 x3 σ = some R) : Ct l E YX0_havers [.ref (E.2.1 o), .ref (E.2.1 p1), .int x2, .int x3] σ (some (.int R.1), R.2) := by
  refine ct_of (by decide +kernel) (Nat.le_of_ble_eq_true rfl) [(0, .ref (E.2.1 o)), (1, .ref (E.2.1 p1)), (2, .int x2), (3, .int x3)] rfl (fun X hX C => ?_)
  unfold f_X0_havers at hf
  refine z_aload_n C dX0_havers_0 1 rfl ?_
  refine z_iload_n C dX0_havers_1 3 rfl ?_
  obtain ⟨r1, h2, hf⟩ := bd_some hf
  refine z_callV (Y2 := YX5_has) (CC := RX5) (T := TX5) (N := 3) (ci := 4) (As := [.int x3]) C lk_X5_has (lt_pe hp1) (wc_pe hp1) rfl t_547 t_424 t_425 (Nat.le_of_ble_eq_true rfl) (Nat.le_of_ble_eq_true rfl) dX0_havers_2 (Nat.le_of_ble_eq_true rfl) rfl rfl (m_X5_has X.2.1 E N p1 hp1 x3 σ _ h2) ?_
  change Zz E X YX0_havers (some (.int R.1), R.2) r1.2 _ _ [.int r1.1]
  refine z_if_eq (tgt := 14) C dX0_havers_5 (by decide) (fun h3 => ?_) (fun h3 => ?_)
  · replace hf := ifp hf h3
    refine z_iconst (v := 0) C dX0_havers_14 (by decide) ?_
    exact z_iret C dX0_havers_15 rfl (by rw [← Option.some.inj hf])
  · replace hf := ifn hf h3
    refine z_iconst (v := 1) C dX0_havers_8 (by decide) ?_
    refine z_iload_n C dX0_havers_9 3 rfl ?_
    refine z_ishl C dX0_havers_10 ?_
    refine z_goto (tgt := 15) C dX0_havers_11 (by decide) ?_
    exact z_iret C dX0_havers_15 rfl (by rw [← Option.some.inj hf])
theorem lk_X0_havers {Y : Yv} : Lk Y YX0_havers 3 := ⟨t_546, t_7, ⟨by decide +kernel, by decide +kernel⟩, by decide +kernel⟩
abbrev YX10_scoreOf : Yv := (yX10_scoreOf, cX10_scoreOf, 7, some .int, 0, 0)
def f_X10_scoreOf_B11 (N : Nat) (o : Nat) (p1 : Nat) (rec : Int32 → Int32 → Int32 → Sg → Option (Int32 × Sg)) (a4 a5 a6 : Int32) (σ : Sg) : Option (Int32 × Sg) :=
  if a6 ≤ 0 then (some (a4, σ)) else (if a5 < 0 then (some (a4, σ)) else (if 24 ≤ a5 then (some (a4, σ)) else (ga a5 24 (nm (a4 + ((jrem a6 10) * (σ (p1 + 1) (Int32.toNatClampNeg a5)))) (fun v5 => rec v5 (a5 + 1) (a6 / 10) σ)))))
def f_X10_scoreOf_L11 (N : Nat) (o : Nat) (p1 : Nat) : Nat → Int32 → Int32 → Int32 → Sg → Option (Int32 × Sg)
  | 0 => fun _ _ _ _ => none
  | k + 1 => fun a4 a5 a6 σ => f_X10_scoreOf_B11 N o p1 (f_X10_scoreOf_L11 N o p1 k) a4 a5 a6 σ
def f_X10_scoreOf (N : Nat) (o : Nat) (p1 : Nat) (x2 x3 : Int32) (σ : Sg) : Option (Int32 × Sg) :=
  (f_X10_scoreOf_L11 N o p1 N 0 (x2 * 4) x3 σ).bind (fun s7 => some (s7.1, s7.2))
set_option maxHeartbeats 4000000 in
set_option maxRecDepth 20000 in
theorem m_X10_scoreOf (l : Launch) (E : Ev) (N : Nat) (o : Nat) (p1 : Nat) (ho : isLa o) (hp1 : isPe p1) (x2 x3 : Int32) (σ : Sg) (R : Int32 × Sg) (hf : f_X10_scoreOf N o p1 x2 x3 σ = some R) : Ct l E YX10_scoreOf [.ref (E.2.1 o), .ref (E.2.1 p1), .int x2, .int x3] σ (some (.int R.1), R.2) := by
  refine ct_of (by decide +kernel) (Nat.le_of_ble_eq_true rfl) [(0, .ref (E.2.1 o)), (1, .ref (E.2.1 p1)), (2, .int x2), (3, .int x3)] rfl (fun X hX C => ?_)
  have hL11 : ∀ (k : Nat) (a4 a5 a6 : Int32) (σ : Sg) (Q11 : Int32 × Sg), f_X10_scoreOf_L11 N o p1 k a4 a5 a6 σ = some Q11 → (Zz E X YX10_scoreOf (some (.int R.1), R.2) Q11.2 62 [(4, .int Q11.1)] []) → Zz E X YX10_scoreOf (some (.int R.1), R.2) σ 11 [(1, .ref (E.2.1 p1)), (4, .int a4), (5, .int a5), (6, .int a6)] [] := by
    intro k
    induction k with
    | zero =>
      intro a4 a5 a6 σ Q11 hf
      have hf : (none : Option (Int32 × Sg)) = some Q11 := hf
      cases hf
    | succ k ih =>
      intro a4 a5 a6 σ Q11 hf hx11
      have hf : f_X10_scoreOf_B11 N o p1 (f_X10_scoreOf_L11 N o p1 k) a4 a5 a6 σ = some Q11 := hf
      unfold f_X10_scoreOf_B11 at hf
      refine z_iload C dX10_scoreOf_11 3 rfl ?_
      refine z_if_le (tgt := 62) C dX10_scoreOf_13 (by decide) (fun h1 => ?_) (fun h1 => ?_)
      · replace hf := ifp hf h1
        refine z_sub [(4, .int a4)] [1] rfl ?_
        obtain rfl := Option.some.inj hf
        exact hx11
      · replace hf := ifn hf h1
        refine z_iload C dX10_scoreOf_16 2 rfl ?_
        refine z_if_lt (tgt := 62) C dX10_scoreOf_18 (by decide) (fun h2 => ?_) (fun h2 => ?_)
        · replace hf := ifp hf h2
          refine z_sub [(4, .int a4)] [1] rfl ?_
          obtain rfl := Option.some.inj hf
          exact hx11
        · replace hf := ifn hf h2
          refine z_iload C dX10_scoreOf_21 2 rfl ?_
          refine z_aload_n C dX10_scoreOf_23 0 rfl ?_
          refine z_getN (v := .ref (E.2.1 (p1 + 1))) (T := TX5) (N := 3) (ci := 4) C (lt_pe hp1) (wc_pe hp1) rfl in_X5 0 (by decide) n_44 rfl dX10_scoreOf_24 ?_
          refine z_alen (v := 24) C (hp1).2.1 rfl dX10_scoreOf_27 ?_
          refine z_icmp_ge (tgt := 62) C dX10_scoreOf_28 (by decide) (fun h3 => ?_) (fun h3 => ?_)
          · replace hf := ifp hf h3
            refine z_sub [(4, .int a4)] [1] rfl ?_
            obtain rfl := Option.some.inj hf
            exact hx11
          · replace hf := ifn hf h3
            refine z_iload C dX10_scoreOf_31 1 rfl ?_
            refine z_iload C dX10_scoreOf_33 3 rfl ?_
            refine z_bipush (v := 10) C dX10_scoreOf_35 (by decide) ?_
            refine z_irem C dX10_scoreOf_37 (by decide) ?_
            refine z_aload_n C dX10_scoreOf_38 0 rfl ?_
            refine z_getN (v := .ref (E.2.1 (p1 + 1))) (T := TX5) (N := 3) (ci := 4) C (lt_pe hp1) (wc_pe hp1) rfl in_X5 0 (by decide) n_44 rfl dX10_scoreOf_39 ?_
            refine z_iload C dX10_scoreOf_42 2 rfl ?_
            obtain ⟨h4, hf⟩ := ga_some hf
            refine z_iald C (hp1).2.1 h4 dX10_scoreOf_44 ?_
            refine z_imul C dX10_scoreOf_45 ?_
            refine z_iadd C dX10_scoreOf_46 ?_
            obtain ⟨v5, h6, hf⟩ := nm_some hf
            rw [← h6]
            refine z_istore (lv' := [(4, .int v5), (1, .ref (E.2.1 p1)), (5, .int a5), (6, .int a6)]) C dX10_scoreOf_47 (by decide) rfl ?_
            refine z_iinc (v := (a5 + 1)) (lv' := [(5, .int (a5 + 1)), (4, .int v5), (1, .ref (E.2.1 p1)), (6, .int a6)]) C dX10_scoreOf_49 2 rfl rfl (by decide) rfl ?_
            refine z_iload C dX10_scoreOf_52 3 rfl ?_
            refine z_bipush (v := 10) C dX10_scoreOf_54 (by decide) ?_
            refine z_idiv C dX10_scoreOf_56 (by decide) ?_
            refine z_istore (lv' := [(6, .int (a6 / 10)), (5, .int (a5 + 1)), (4, .int v5), (1, .ref (E.2.1 p1))]) C dX10_scoreOf_57 (by decide) rfl ?_
            refine z_goto (tgt := 11) C dX10_scoreOf_59 (by decide) ?_
            refine z_sub [(1, .ref (E.2.1 p1)), (4, .int v5), (5, .int (a5 + 1)), (6, .int (a6 / 10))] [3, 2, 1, 0] rfl ?_
            exact ih v5 (a5 + 1) (a6 / 10) σ _ hf hx11
  unfold f_X10_scoreOf at hf
  refine z_iconst (v := 0) C dX10_scoreOf_0 (by decide) ?_
  refine z_istore (lv' := [(4, .int 0), (0, .ref (E.2.1 o)), (1, .ref (E.2.1 p1)), (2, .int x2), (3, .int x3)]) C dX10_scoreOf_1 (by decide) rfl ?_
  refine z_iload_n C dX10_scoreOf_3 3 rfl ?_
  refine z_iconst (v := 4) C dX10_scoreOf_4 (by decide) ?_
  refine z_imul C dX10_scoreOf_5 ?_
  refine z_istore (lv' := [(5, .int (x2 * 4)), (4, .int 0), (0, .ref (E.2.1 o)), (1, .ref (E.2.1 p1)), (2, .int x2), (3, .int x3)]) C dX10_scoreOf_6 (by decide) rfl ?_
  refine z_iload_n C dX10_scoreOf_8 5 rfl ?_
  refine z_istore (lv' := [(6, .int x3), (5, .int (x2 * 4)), (4, .int 0), (0, .ref (E.2.1 o)), (1, .ref (E.2.1 p1)), (2, .int x2), (3, .int x3)]) C dX10_scoreOf_9 (by decide) rfl ?_
  refine z_sub [(1, .ref (E.2.1 p1)), (4, .int 0), (5, .int (x2 * 4)), (6, .int x3)] [4, 2, 1, 0] rfl ?_
  obtain ⟨s7, h8, hf⟩ := bd_some hf
  refine hL11 N 0 (x2 * 4) x3 σ _ h8 ?_
  refine z_iload C dX10_scoreOf_62 0 rfl ?_
  exact z_iret C dX10_scoreOf_64 rfl (by rw [← Option.some.inj hf])
theorem lk_X10_scoreOf {Y : Yv} : Lk Y YX10_scoreOf 3 := ⟨t_493, t_8, ⟨by decide +kernel, by decide +kernel⟩, by decide +kernel⟩
abbrev YX1_scoreOf : Yv := (yX1_scoreOf, cX1_scoreOf, 8, some .int, 0, 0)
def f_X1_scoreOf_J64 (N : Nat) (o : Nat) (p1 : Nat) (rec : Int32 → Int32 → Int32 → Sg → Option (Int32 × Sg)) (a5 a6 b0 b1 : Int32) (σ : Sg) : Option (Int32 × Sg) :=
  rec (b1 + b0) (a5 + 1) (a6 / 10) σ
def f_X1_scoreOf_B11 (N : Nat) (o : Nat) (p1 : Nat) (rec : Int32 → Int32 → Int32 → Sg → Option (Int32 × Sg)) (a4 a5 a6 : Int32) (σ : Sg) : Option (Int32 × Sg) :=
  if a6 ≤ 0 then (some (a4, σ)) else (if a5 < 0 then (some (a4, σ)) else (if 24 ≤ a5 then (some (a4, σ)) else (ga a5 24 (if (σ (p1 + 1) (Int32.toNatClampNeg a5)) ≤ (jrem a6 10) then (ga a5 24 (f_X1_scoreOf_J64 N o p1 rec a5 a6 (σ (p1 + 1) (Int32.toNatClampNeg a5)) a4 σ)) else (f_X1_scoreOf_J64 N o p1 rec a5 a6 (jrem a6 10) a4 σ)))))
def f_X1_scoreOf_L11 (N : Nat) (o : Nat) (p1 : Nat) : Nat → Int32 → Int32 → Int32 → Sg → Option (Int32 × Sg)
  | 0 => fun _ _ _ _ => none
  | k + 1 => fun a4 a5 a6 σ => f_X1_scoreOf_B11 N o p1 (f_X1_scoreOf_L11 N o p1 k) a4 a5 a6 σ
def f_X1_scoreOf (N : Nat) (o : Nat) (p1 : Nat) (x2 x3 : Int32) (σ : Sg) : Option (Int32 × Sg) :=
  (f_X1_scoreOf_L11 N o p1 N 0 (x2 * 4) x3 σ).bind (fun s7 => some (s7.1, s7.2))
set_option maxHeartbeats 4000000 in
set_option maxRecDepth 20000 in
theorem m_X1_scoreOf (l : Launch) (E : Ev) (N : Nat) (o : Nat) (p1 : Nat) (ho : isLa o) (hp1 : isPe p1) (x2 x3 : Int32) (σ : Sg) (R : Int32 × Sg) (hf : f_X1_scoreOf N o p1 x2 x3 σ = some R) : Ct l E YX1_scoreOf [.ref (E.2.1 o), .ref (E.2.1 p1), .int x2, .int x3] σ (some (.int R.1), R.2) := by
  refine ct_of (by decide +kernel) (Nat.le_of_ble_eq_true rfl) [(0, .ref (E.2.1 o)), (1, .ref (E.2.1 p1)), (2, .int x2), (3, .int x3)] rfl (fun X hX C => ?_)
  have hL11 : ∀ (k : Nat) (a4 a5 a6 : Int32) (σ : Sg) (Q11 : Int32 × Sg), f_X1_scoreOf_L11 N o p1 k a4 a5 a6 σ = some Q11 → (Zz E X YX1_scoreOf (some (.int R.1), R.2) Q11.2 80 [(4, .int Q11.1)] []) → Zz E X YX1_scoreOf (some (.int R.1), R.2) σ 11 [(1, .ref (E.2.1 p1)), (4, .int a4), (5, .int a5), (6, .int a6)] [] := by
    intro k
    induction k with
    | zero =>
      intro a4 a5 a6 σ Q11 hf
      have hf : (none : Option (Int32 × Sg)) = some Q11 := hf
      cases hf
    | succ k ih =>
      intro a4 a5 a6 σ Q11 hf hx11
      have hf : f_X1_scoreOf_B11 N o p1 (f_X1_scoreOf_L11 N o p1 k) a4 a5 a6 σ = some Q11 := hf
      have hJ64 : ∀ (a5 a6 b0 b1 : Int32) (σ : Sg), f_X1_scoreOf_J64 N o p1 (f_X1_scoreOf_L11 N o p1 k) a5 a6 b0 b1 σ = some Q11 → Zz E X YX1_scoreOf (some (.int R.1), R.2) σ 64 [(1, .ref (E.2.1 p1)), (5, .int a5), (6, .int a6)] [.int b0, .int b1] := by
        intro a5 a6 b0 b1 σ hf
        unfold f_X1_scoreOf_J64 at hf
        refine z_iadd C dX1_scoreOf_64 ?_
        refine z_istore (lv' := [(4, .int (b1 + b0)), (1, .ref (E.2.1 p1)), (5, .int a5), (6, .int a6)]) C dX1_scoreOf_65 (by decide) rfl ?_
        refine z_iinc (v := (a5 + 1)) (lv' := [(5, .int (a5 + 1)), (4, .int (b1 + b0)), (1, .ref (E.2.1 p1)), (6, .int a6)]) C dX1_scoreOf_67 2 rfl rfl (by decide) rfl ?_
        refine z_iload C dX1_scoreOf_70 3 rfl ?_
        refine z_bipush (v := 10) C dX1_scoreOf_72 (by decide) ?_
        refine z_idiv C dX1_scoreOf_74 (by decide) ?_
        refine z_istore (lv' := [(6, .int (a6 / 10)), (5, .int (a5 + 1)), (4, .int (b1 + b0)), (1, .ref (E.2.1 p1))]) C dX1_scoreOf_75 (by decide) rfl ?_
        refine z_goto (tgt := 11) C dX1_scoreOf_77 (by decide) ?_
        refine z_sub [(1, .ref (E.2.1 p1)), (4, .int (b1 + b0)), (5, .int (a5 + 1)), (6, .int (a6 / 10))] [3, 2, 1, 0] rfl ?_
        exact ih (b1 + b0) (a5 + 1) (a6 / 10) σ _ hf hx11
      unfold f_X1_scoreOf_B11 at hf
      refine z_iload C dX1_scoreOf_11 3 rfl ?_
      refine z_if_le (tgt := 80) C dX1_scoreOf_13 (by decide) (fun h1 => ?_) (fun h1 => ?_)
      · replace hf := ifp hf h1
        refine z_sub [(4, .int a4)] [1] rfl ?_
        obtain rfl := Option.some.inj hf
        exact hx11
      · replace hf := ifn hf h1
        refine z_iload C dX1_scoreOf_16 2 rfl ?_
        refine z_if_lt (tgt := 80) C dX1_scoreOf_18 (by decide) (fun h2 => ?_) (fun h2 => ?_)
        · replace hf := ifp hf h2
          refine z_sub [(4, .int a4)] [1] rfl ?_
          obtain rfl := Option.some.inj hf
          exact hx11
        · replace hf := ifn hf h2
          refine z_iload C dX1_scoreOf_21 2 rfl ?_
          refine z_aload_n C dX1_scoreOf_23 0 rfl ?_
          refine z_getN (v := .ref (E.2.1 (p1 + 1))) (T := TX5) (N := 3) (ci := 4) C (lt_pe hp1) (wc_pe hp1) rfl in_X5 0 (by decide) n_42 rfl dX1_scoreOf_24 ?_
          refine z_alen (v := 24) C (hp1).2.1 rfl dX1_scoreOf_27 ?_
          refine z_icmp_ge (tgt := 80) C dX1_scoreOf_28 (by decide) (fun h3 => ?_) (fun h3 => ?_)
          · replace hf := ifp hf h3
            refine z_sub [(4, .int a4)] [1] rfl ?_
            obtain rfl := Option.some.inj hf
            exact hx11
          · replace hf := ifn hf h3
            refine z_iload C dX1_scoreOf_31 3 rfl ?_
            refine z_bipush (v := 10) C dX1_scoreOf_33 (by decide) ?_
            refine z_irem C dX1_scoreOf_35 (by decide) ?_
            refine z_istore (lv' := [(7, .int (jrem a6 10)), (1, .ref (E.2.1 p1)), (4, .int a4), (5, .int a5), (6, .int a6)]) C dX1_scoreOf_36 (by decide) rfl ?_
            refine z_iload C dX1_scoreOf_38 2 rfl ?_
            refine z_iload C dX1_scoreOf_40 0 rfl ?_
            refine z_aload_n C dX1_scoreOf_42 1 rfl ?_
            refine z_getN (v := .ref (E.2.1 (p1 + 1))) (T := TX5) (N := 3) (ci := 4) C (lt_pe hp1) (wc_pe hp1) rfl in_X5 0 (by decide) n_42 rfl dX1_scoreOf_43 ?_
            refine z_iload C dX1_scoreOf_46 3 rfl ?_
            obtain ⟨h4, hf⟩ := ga_some hf
            refine z_iald C (hp1).2.1 h4 dX1_scoreOf_48 ?_
            refine z_icmp_ge (tgt := 57) C dX1_scoreOf_49 (by decide) (fun h5 => ?_) (fun h5 => ?_)
            · replace hf := ifp hf h5
              refine z_aload_n C dX1_scoreOf_57 1 rfl ?_
              refine z_getN (v := .ref (E.2.1 (p1 + 1))) (T := TX5) (N := 3) (ci := 4) C (lt_pe hp1) (wc_pe hp1) rfl in_X5 0 (by decide) n_42 rfl dX1_scoreOf_58 ?_
              refine z_iload C dX1_scoreOf_61 3 rfl ?_
              obtain ⟨h6, hf⟩ := ga_some hf
              refine z_iald C (hp1).2.1 h6 dX1_scoreOf_63 ?_
              refine z_sub [(1, .ref (E.2.1 p1)), (5, .int a5), (6, .int a6)] [1, 3, 4] rfl ?_
              exact hJ64 a5 a6 (σ (p1 + 1) (Int32.toNatClampNeg a5)) a4 σ hf
            · replace hf := ifn hf h5
              refine z_iload C dX1_scoreOf_52 0 rfl ?_
              refine z_goto (tgt := 64) C dX1_scoreOf_54 (by decide) ?_
              refine z_sub [(1, .ref (E.2.1 p1)), (5, .int a5), (6, .int a6)] [1, 3, 4] rfl ?_
              exact hJ64 a5 a6 (jrem a6 10) a4 σ hf
  unfold f_X1_scoreOf at hf
  refine z_iconst (v := 0) C dX1_scoreOf_0 (by decide) ?_
  refine z_istore (lv' := [(4, .int 0), (0, .ref (E.2.1 o)), (1, .ref (E.2.1 p1)), (2, .int x2), (3, .int x3)]) C dX1_scoreOf_1 (by decide) rfl ?_
  refine z_iload_n C dX1_scoreOf_3 3 rfl ?_
  refine z_iconst (v := 4) C dX1_scoreOf_4 (by decide) ?_
  refine z_imul C dX1_scoreOf_5 ?_
  refine z_istore (lv' := [(5, .int (x2 * 4)), (4, .int 0), (0, .ref (E.2.1 o)), (1, .ref (E.2.1 p1)), (2, .int x2), (3, .int x3)]) C dX1_scoreOf_6 (by decide) rfl ?_
  refine z_iload_n C dX1_scoreOf_8 5 rfl ?_
  refine z_istore (lv' := [(6, .int x3), (5, .int (x2 * 4)), (4, .int 0), (0, .ref (E.2.1 o)), (1, .ref (E.2.1 p1)), (2, .int x2), (3, .int x3)]) C dX1_scoreOf_9 (by decide) rfl ?_
  refine z_sub [(1, .ref (E.2.1 p1)), (4, .int 0), (5, .int (x2 * 4)), (6, .int x3)] [4, 2, 1, 0] rfl ?_
  obtain ⟨s7, h8, hf⟩ := bd_some hf
  refine hL11 N 0 (x2 * 4) x3 σ _ h8 ?_
  refine z_iload C dX1_scoreOf_80 0 rfl ?_
  exact z_iret C dX1_scoreOf_82 rfl (by rw [← Option.some.inj hf])
theorem lk_X1_scoreOf {Y : Yv} : Lk Y YX1_scoreOf 3 := ⟨t_486, t_9, ⟨by decide +kernel, by decide +kernel⟩, by decide +kernel⟩
abbrev YX3_scoreOf : Yv := (yX3_scoreOf, cX3_scoreOf, 7, some .int, 0, 0)
def f_X3_scoreOf_B11 (N : Nat) (o : Nat) (p1 : Nat) (rec : Int32 → Int32 → Int32 → Sg → Option (Int32 × Sg)) (a4 a5 a6 : Int32) (σ : Sg) : Option (Int32 × Sg) :=
  if a6 ≤ 0 then (some (a4, σ)) else (if a5 < 0 then (some (a4, σ)) else (if 24 ≤ a5 then (some (a4, σ)) else (if (jrem a6 10) ≤ 0 then (rec a4 (a5 + 1) (a6 / 10) σ) else (ga a5 24 (if (σ (p1 + 1) (Int32.toNatClampNeg a5)) ≤ a4 then (rec a4 (a5 + 1) (a6 / 10) σ) else (ga a5 24 (nm (σ (p1 + 1) (Int32.toNatClampNeg a5)) (fun v8 => rec v8 (a5 + 1) (a6 / 10) σ))))))))
def f_X3_scoreOf_L11 (N : Nat) (o : Nat) (p1 : Nat) : Nat → Int32 → Int32 → Int32 → Sg → Option (Int32 × Sg)
  | 0 => fun _ _ _ _ => none
  | k + 1 => fun a4 a5 a6 σ => f_X3_scoreOf_B11 N o p1 (f_X3_scoreOf_L11 N o p1 k) a4 a5 a6 σ
def f_X3_scoreOf (N : Nat) (o : Nat) (p1 : Nat) (x2 x3 : Int32) (σ : Sg) : Option (Int32 × Sg) :=
  (f_X3_scoreOf_L11 N o p1 N 0 (x2 * 4) x3 σ).bind (fun s10 => some (s10.1, s10.2))
set_option maxHeartbeats 4000000 in
set_option maxRecDepth 20000 in
theorem m_X3_scoreOf (l : Launch) (E : Ev) (N : Nat) (o : Nat) (p1 : Nat) (ho : isLa o) (hp1 : isPe p1) (x2 x3 : Int32) (σ : Sg) (R : Int32 × Sg) (hf : f_X3_scoreOf N o p1 x2 x3 σ = some R) : Ct l E YX3_scoreOf [.ref (E.2.1 o), .ref (E.2.1 p1), .int x2, .int x3] σ (some (.int R.1), R.2) := by
  refine ct_of (by decide +kernel) (Nat.le_of_ble_eq_true rfl) [(0, .ref (E.2.1 o)), (1, .ref (E.2.1 p1)), (2, .int x2), (3, .int x3)] rfl (fun X hX C => ?_)
  have hL11 : ∀ (k : Nat) (a4 a5 a6 : Int32) (σ : Sg) (Q11 : Int32 × Sg), f_X3_scoreOf_L11 N o p1 k a4 a5 a6 σ = some Q11 → (Zz E X YX3_scoreOf (some (.int R.1), R.2) Q11.2 73 [(4, .int Q11.1)] []) → Zz E X YX3_scoreOf (some (.int R.1), R.2) σ 11 [(1, .ref (E.2.1 p1)), (4, .int a4), (5, .int a5), (6, .int a6)] [] := by
    intro k
    induction k with
    | zero =>
      intro a4 a5 a6 σ Q11 hf
      have hf : (none : Option (Int32 × Sg)) = some Q11 := hf
      cases hf
    | succ k ih =>
      intro a4 a5 a6 σ Q11 hf hx11
      have hf : f_X3_scoreOf_B11 N o p1 (f_X3_scoreOf_L11 N o p1 k) a4 a5 a6 σ = some Q11 := hf
      unfold f_X3_scoreOf_B11 at hf
      refine z_iload C dX3_scoreOf_11 3 rfl ?_
      refine z_if_le (tgt := 73) C dX3_scoreOf_13 (by decide) (fun h1 => ?_) (fun h1 => ?_)
      · replace hf := ifp hf h1
        refine z_sub [(4, .int a4)] [1] rfl ?_
        obtain rfl := Option.some.inj hf
        exact hx11
      · replace hf := ifn hf h1
        refine z_iload C dX3_scoreOf_16 2 rfl ?_
        refine z_if_lt (tgt := 73) C dX3_scoreOf_18 (by decide) (fun h2 => ?_) (fun h2 => ?_)
        · replace hf := ifp hf h2
          refine z_sub [(4, .int a4)] [1] rfl ?_
          obtain rfl := Option.some.inj hf
          exact hx11
        · replace hf := ifn hf h2
          refine z_iload C dX3_scoreOf_21 2 rfl ?_
          refine z_aload_n C dX3_scoreOf_23 0 rfl ?_
          refine z_getN (v := .ref (E.2.1 (p1 + 1))) (T := TX5) (N := 3) (ci := 4) C (lt_pe hp1) (wc_pe hp1) rfl in_X5 0 (by decide) n_43 rfl dX3_scoreOf_24 ?_
          refine z_alen (v := 24) C (hp1).2.1 rfl dX3_scoreOf_27 ?_
          refine z_icmp_ge (tgt := 73) C dX3_scoreOf_28 (by decide) (fun h3 => ?_) (fun h3 => ?_)
          · replace hf := ifp hf h3
            refine z_sub [(4, .int a4)] [1] rfl ?_
            obtain rfl := Option.some.inj hf
            exact hx11
          · replace hf := ifn hf h3
            refine z_iload C dX3_scoreOf_31 3 rfl ?_
            refine z_bipush (v := 10) C dX3_scoreOf_33 (by decide) ?_
            refine z_irem C dX3_scoreOf_35 (by decide) ?_
            refine z_if_le (tgt := 60) C dX3_scoreOf_36 (by decide) (fun h4 => ?_) (fun h4 => ?_)
            · replace hf := ifp hf h4
              refine z_iinc (v := (a5 + 1)) (lv' := [(5, .int (a5 + 1)), (1, .ref (E.2.1 p1)), (4, .int a4), (6, .int a6)]) C dX3_scoreOf_60 2 rfl rfl (by decide) rfl ?_
              refine z_iload C dX3_scoreOf_63 3 rfl ?_
              refine z_bipush (v := 10) C dX3_scoreOf_65 (by decide) ?_
              refine z_idiv C dX3_scoreOf_67 (by decide) ?_
              refine z_istore (lv' := [(6, .int (a6 / 10)), (5, .int (a5 + 1)), (1, .ref (E.2.1 p1)), (4, .int a4)]) C dX3_scoreOf_68 (by decide) rfl ?_
              refine z_goto (tgt := 11) C dX3_scoreOf_70 (by decide) ?_
              refine z_sub [(1, .ref (E.2.1 p1)), (4, .int a4), (5, .int (a5 + 1)), (6, .int (a6 / 10))] [2, 3, 1, 0] rfl ?_
              exact ih a4 (a5 + 1) (a6 / 10) σ _ hf hx11
            · replace hf := ifn hf h4
              refine z_aload_n C dX3_scoreOf_39 0 rfl ?_
              refine z_getN (v := .ref (E.2.1 (p1 + 1))) (T := TX5) (N := 3) (ci := 4) C (lt_pe hp1) (wc_pe hp1) rfl in_X5 0 (by decide) n_43 rfl dX3_scoreOf_40 ?_
              refine z_iload C dX3_scoreOf_43 2 rfl ?_
              obtain ⟨h5, hf⟩ := ga_some hf
              refine z_iald C (hp1).2.1 h5 dX3_scoreOf_45 ?_
              refine z_iload C dX3_scoreOf_46 1 rfl ?_
              refine z_icmp_le (tgt := 60) C dX3_scoreOf_48 (by decide) (fun h6 => ?_) (fun h6 => ?_)
              · replace hf := ifp hf h6
                refine z_iinc (v := (a5 + 1)) (lv' := [(5, .int (a5 + 1)), (1, .ref (E.2.1 p1)), (4, .int a4), (6, .int a6)]) C dX3_scoreOf_60 2 rfl rfl (by decide) rfl ?_
                refine z_iload C dX3_scoreOf_63 3 rfl ?_
                refine z_bipush (v := 10) C dX3_scoreOf_65 (by decide) ?_
                refine z_idiv C dX3_scoreOf_67 (by decide) ?_
                refine z_istore (lv' := [(6, .int (a6 / 10)), (5, .int (a5 + 1)), (1, .ref (E.2.1 p1)), (4, .int a4)]) C dX3_scoreOf_68 (by decide) rfl ?_
                refine z_goto (tgt := 11) C dX3_scoreOf_70 (by decide) ?_
                refine z_sub [(1, .ref (E.2.1 p1)), (4, .int a4), (5, .int (a5 + 1)), (6, .int (a6 / 10))] [2, 3, 1, 0] rfl ?_
                exact ih a4 (a5 + 1) (a6 / 10) σ _ hf hx11
              · replace hf := ifn hf h6
                refine z_aload_n C dX3_scoreOf_51 0 rfl ?_
                refine z_getN (v := .ref (E.2.1 (p1 + 1))) (T := TX5) (N := 3) (ci := 4) C (lt_pe hp1) (wc_pe hp1) rfl in_X5 0 (by decide) n_43 rfl dX3_scoreOf_52 ?_
                refine z_iload C dX3_scoreOf_55 2 rfl ?_
                obtain ⟨h7, hf⟩ := ga_some hf
                refine z_iald C (hp1).2.1 h7 dX3_scoreOf_57 ?_
                obtain ⟨v8, h9, hf⟩ := nm_some hf
                rw [← h9]
                refine z_istore (lv' := [(4, .int v8), (1, .ref (E.2.1 p1)), (5, .int a5), (6, .int a6)]) C dX3_scoreOf_58 (by decide) rfl ?_
                refine z_iinc (v := (a5 + 1)) (lv' := [(5, .int (a5 + 1)), (4, .int v8), (1, .ref (E.2.1 p1)), (6, .int a6)]) C dX3_scoreOf_60 2 rfl rfl (by decide) rfl ?_
                refine z_iload C dX3_scoreOf_63 3 rfl ?_
                refine z_bipush (v := 10) C dX3_scoreOf_65 (by decide) ?_
                refine z_idiv C dX3_scoreOf_67 (by decide) ?_
                refine z_istore (lv' := [(6, .int (a6 / 10)), (5, .int (a5 + 1)), (4, .int v8), (1, .ref (E.2.1 p1))]) C dX3_scoreOf_68 (by decide) rfl ?_
                refine z_goto (tgt := 11) C dX3_scoreOf_70 (by decide) ?_
                refine z_sub [(1, .ref (E.2.1 p1)), (4, .int v8), (5, .int (a5 + 1)), (6, .int (a6 / 10))] [3, 2, 1, 0] rfl ?_
                exact ih v8 (a5 + 1) (a6 / 10) σ _ hf hx11
  unfold f_X3_scoreOf at hf
  refine z_iconst (v := 0) C dX3_scoreOf_0 (by decide) ?_
  refine z_istore (lv' := [(4, .int 0), (0, .ref (E.2.1 o)), (1, .ref (E.2.1 p1)), (2, .int x2), (3, .int x3)]) C dX3_scoreOf_1 (by decide) rfl ?_
  refine z_iload_n C dX3_scoreOf_3 3 rfl ?_
  refine z_iconst (v := 4) C dX3_scoreOf_4 (by decide) ?_
  refine z_imul C dX3_scoreOf_5 ?_
  refine z_istore (lv' := [(5, .int (x2 * 4)), (4, .int 0), (0, .ref (E.2.1 o)), (1, .ref (E.2.1 p1)), (2, .int x2), (3, .int x3)]) C dX3_scoreOf_6 (by decide) rfl ?_
  refine z_iload_n C dX3_scoreOf_8 5 rfl ?_
  refine z_istore (lv' := [(6, .int x3), (5, .int (x2 * 4)), (4, .int 0), (0, .ref (E.2.1 o)), (1, .ref (E.2.1 p1)), (2, .int x2), (3, .int x3)]) C dX3_scoreOf_9 (by decide) rfl ?_
  refine z_sub [(1, .ref (E.2.1 p1)), (4, .int 0), (5, .int (x2 * 4)), (6, .int x3)] [4, 2, 1, 0] rfl ?_
  obtain ⟨s10, h11, hf⟩ := bd_some hf
  refine hL11 N 0 (x2 * 4) x3 σ _ h11 ?_
  refine z_iload C dX3_scoreOf_73 0 rfl ?_
  exact z_iret C dX3_scoreOf_75 rfl (by rw [← Option.some.inj hf])
theorem lk_X3_scoreOf {Y : Yv} : Lk Y YX3_scoreOf 3 := ⟨t_489, t_10, ⟨by decide +kernel, by decide +kernel⟩, by decide +kernel⟩
def scY (q : Nat) : Yv := if q = 67 then YX3_scoreOf else if q = 66 ∨ q = 69 then YX1_scoreOf else YX10_scoreOf
def f_sc (N q p : Nat) (x1 x2 : Int32) (σ : Sg) : Option (Int32 × Sg) := if q = 67 then f_X3_scoreOf N q p x1 x2 σ else if q = 66 ∨ q = 69 then f_X1_scoreOf N q p x1 x2 σ else f_X10_scoreOf N q p x1 x2 σ
theorem m_sc (l : Launch) (E : Ev) (N q p : Nat) (hq : isLa q) (hp : isPe p) (x1 x2 : Int32) (σ : Sg) (R : Int32 × Sg) (hf : f_sc N q p x1 x2 σ = some R) : Ct l E (scY q) [.ref (E.2.1 q), .ref (E.2.1 p), .int x1, .int x2] σ (some (.int R.1), R.2) := by
  rcases hq with rfl | rfl | rfl | rfl | rfl
  · exact m_X10_scoreOf l E N 65 p la_65 hp x1 x2 σ R hf
  · exact m_X1_scoreOf l E N 66 p la_66 hp x1 x2 σ R hf
  · exact m_X3_scoreOf l E N 67 p la_67 hp x1 x2 σ R hf
  · exact m_X10_scoreOf l E N 68 p la_68 hp x1 x2 σ R hf
  · exact m_X1_scoreOf l E N 69 p la_69 hp x1 x2 σ R hf
set_option maxRecDepth 20000 in
theorem z_sc {E : Ev} {X : Xv} {Y : Yv} {P : Pv} {σ : Sg} {pc i q : Nat} {lv : List (Nat × Value)} {As st stk : List Value} {P2 : Pv} (C : Cx E X Y) (hl : isLa q) (hw1 : Cond.methodLink Y.1.cls i ⟨RX0, "scoreOf", "(LToWhoNeeds$People;II)I"⟩ ∈ WT) (hfr : 1 ≤ Y.2.2.2.2.1) (hlo : 27 ≤ Y.2.2.2.2.2) (d : decode Y.2.1 pc = .ok (.invokevirtual i, 3)) (hst : (st.map fun v => v.category).sum ≤ 8) (hn : As.length = 3) (hs : stk = As.reverse ++ .ref (E.2.1 q) :: st) (hM : Ct X.2.1 E (scY q) (.ref (E.2.1 q) :: As) σ P2) (k : Zz E X Y P P2.2 (pc + 3) lv (P2.1.toList ++ st)) : Zz E X Y P σ pc lv stk := by
  have hdc : va_Decl X.2.2.2.1 ⟨RX0, "scoreOf", "(LToWhoNeeds$People;II)I"⟩ := va_Decl.abs (C.2.2.2.2.2.2.2.2.1 _ n_482)
  rcases hl with rfl | rfl | rfl | rfl | rfl
  · exact z_callU (Y2 := YX10_scoreOf) (x := ⟨RX0, "scoreOf", "(LToWhoNeeds$People;II)I"⟩) (owner := RX0) (CC := RX10) (T := TX10) (N := 1) (ci := 9) C lk_X10_scoreOf (by decide) rfl rfl hw1 t_492 t_494 t_483 hdc ⟨by decide +kernel, by decide +kernel⟩ (by decide +kernel) (Nat.le_trans (Nat.le_of_ble_eq_true rfl) hfr) (Nat.le_trans (Nat.le_of_ble_eq_true rfl) hlo) d hst hn hs hM k
  · exact z_callU (Y2 := YX1_scoreOf) (x := ⟨RX0, "scoreOf", "(LToWhoNeeds$People;II)I"⟩) (owner := RX0) (CC := RX1) (T := TX1) (N := 1) (ci := 0) C lk_X1_scoreOf (by decide) rfl rfl hw1 t_485 t_484 t_483 hdc ⟨by decide +kernel, by decide +kernel⟩ (by decide +kernel) (Nat.le_trans (Nat.le_of_ble_eq_true rfl) hfr) (Nat.le_trans (Nat.le_of_ble_eq_true rfl) hlo) d hst hn hs hM k
  · exact z_callU (Y2 := YX3_scoreOf) (x := ⟨RX0, "scoreOf", "(LToWhoNeeds$People;II)I"⟩) (owner := RX0) (CC := RX3) (T := TX3) (N := 1) (ci := 2) C lk_X3_scoreOf (by decide) rfl rfl hw1 t_488 t_487 t_483 hdc ⟨by decide +kernel, by decide +kernel⟩ (by decide +kernel) (Nat.le_trans (Nat.le_of_ble_eq_true rfl) hfr) (Nat.le_trans (Nat.le_of_ble_eq_true rfl) hlo) d hst hn hs hM k
  · exact z_callU (Y2 := YX10_scoreOf) (x := ⟨RX0, "scoreOf", "(LToWhoNeeds$People;II)I"⟩) (owner := RX0) (CC := RX8) (T := TX8) (N := 1) (ci := 7) C lk_X10_scoreOf (by decide) rfl rfl hw1 t_492 t_491 t_483 hdc ⟨by decide +kernel, by decide +kernel⟩ (by decide +kernel) (Nat.le_trans (Nat.le_of_ble_eq_true rfl) hfr) (Nat.le_trans (Nat.le_of_ble_eq_true rfl) hlo) d hst hn hs hM k
  · exact z_callU (Y2 := YX1_scoreOf) (x := ⟨RX0, "scoreOf", "(LToWhoNeeds$People;II)I"⟩) (owner := RX0) (CC := RX6) (T := TX6) (N := 1) (ci := 5) C lk_X1_scoreOf (by decide) rfl rfl hw1 t_485 t_490 t_483 hdc ⟨by decide +kernel, by decide +kernel⟩ (by decide +kernel) (Nat.le_trans (Nat.le_of_ble_eq_true rfl) hfr) (Nat.le_trans (Nat.le_of_ble_eq_true rfl) hlo) d hst hn hs hM k
set_option maxRecDepth 20000 in
theorem z_scRO {E : Ev} {X : Xv} {Y : Yv} {P : Pv} {σ : Sg} {pc i : Nat} {lv : List (Nat × Value)} {As st stk : List Value} {P2 : Pv} (C : Cx E X Y) (_ : isLa 69) (hw1 : Cond.methodLink Y.1.cls i ⟨RX6, "scoreOf", "(LToWhoNeeds$People;II)I"⟩ ∈ WT) (hfr : 1 ≤ Y.2.2.2.2.1) (hlo : 27 ≤ Y.2.2.2.2.2) (d : decode Y.2.1 pc = .ok (.invokevirtual i, 3)) (hst : (st.map fun v => v.category).sum ≤ 8) (hn : As.length = 3) (hs : stk = As.reverse ++ .ref (E.2.1 69) :: st) (hM : Ct X.2.1 E (scY 69) (.ref (E.2.1 69) :: As) σ P2) (k : Zz E X Y P P2.2 (pc + 3) lv (P2.1.toList ++ st)) : Zz E X Y P σ pc lv stk := by
  have hdc : va_Decl X.2.2.2.1 ⟨RX1, "scoreOf", "(LToWhoNeeds$People;II)I"⟩ := va_Decl.of (C.2.2.2.2.2.1 _ t_485) (C.2.2.2.2.2.1 _ t_486)
  exact z_callU (Y2 := YX1_scoreOf) (x := ⟨RX6, "scoreOf", "(LToWhoNeeds$People;II)I"⟩) (owner := RX1) (CC := RX6) (T := TX6) (N := 1) (ci := 5) C lk_X1_scoreOf (by decide) rfl rfl hw1 t_485 t_543 t_541 hdc ⟨by decide +kernel, by decide +kernel⟩ (by decide +kernel) hfr hlo d hst hn hs hM k
abbrev YX0_rank : Yv := (yX0_rank, cX0_rank, 9, some .int, 1, 27)
def f_X0_rank_J75 (N : Nat) (o : Nat) (p1 : Nat) (rec : Int32 → Int32 → Int32 → Int32 → Int32 → Int32 → Sg → Option (Int32 × Int32 × Sg)) (a2 a3 a4 a5 a7 a8 b0 : Int32) (σ : Sg) : Option (Int32 × Int32 × Sg) :=
  if a4 < a8 then (rec a2 a3 a4 (a5 + 1) b0 (a7 + 1) σ) else (if a8 = a4 then (if a2 ≤ a7 then (rec a2 a3 a4 a5 b0 (a7 + 1) σ) else (rec a2 a3 a4 (a5 + 1) b0 (a7 + 1) σ)) else (rec a2 a3 a4 a5 b0 (a7 + 1) σ))
def f_X0_rank_J74 (N : Nat) (o : Nat) (p1 : Nat) (rec : Int32 → Int32 → Int32 → Int32 → Int32 → Int32 → Sg → Option (Int32 × Int32 × Sg)) (a2 a3 a4 a5 a7 a8 : Int32) (σ : Sg) : Option (Int32 × Int32 × Sg) :=
  f_X0_rank_J75 N o p1 rec a2 a3 a4 a5 a7 a8 0 σ
def f_X0_rank_J58 (N : Nat) (o : Nat) (p1 : Nat) (rec : Int32 → Int32 → Int32 → Int32 → Int32 → Int32 → Sg → Option (Int32 × Int32 × Sg)) (a2 a3 a4 a5 a6 a7 b0 : Int32) (σ : Sg) : Option (Int32 × Int32 × Sg) :=
  if a6 = 0 then (f_X0_rank_J74 N o p1 rec a2 a3 a4 a5 a7 b0 σ) else (if 0 < b0 then (f_X0_rank_J74 N o p1 rec a2 a3 a4 a5 a7 b0 σ) else (f_X0_rank_J75 N o p1 rec a2 a3 a4 a5 a7 b0 1 σ))
def f_X0_rank_B25 (N : Nat) (o : Nat) (p1 : Nat) (rec : Int32 → Int32 → Int32 → Int32 → Int32 → Int32 → Sg → Option (Int32 × Int32 × Sg)) (a2 a3 a4 a5 a6 a7 : Int32) (σ : Sg) : Option (Int32 × Int32 × Sg) :=
  if (σ p1 2) ≤ a7 then (some (a5, a6, σ)) else (if 2 ≤ a5 then (some (a5, a6, σ)) else (if a7 = a2 then (f_X0_rank_J58 N o p1 rec a2 a3 a4 a5 a6 a7 0 σ) else ((f_sc N o p1 a7 a3 σ).bind (fun r7 => f_X0_rank_J58 N o p1 rec a2 a3 a4 a5 a6 a7 r7.1 r7.2))))
def f_X0_rank_L25 (N : Nat) (o : Nat) (p1 : Nat) : Nat → Int32 → Int32 → Int32 → Int32 → Int32 → Int32 → Sg → Option (Int32 × Int32 × Sg)
  | 0 => fun _ _ _ _ _ _ _ => none
  | k + 1 => fun a2 a3 a4 a5 a6 a7 σ => f_X0_rank_B25 N o p1 (f_X0_rank_L25 N o p1 k) a2 a3 a4 a5 a6 a7 σ
def f_X0_rank (N : Nat) (o : Nat) (p1 : Nat) (x2 x3 : Int32) (σ : Sg) : Option (Int32 × Sg) :=
  (f_sc N o p1 x2 x3 σ).bind (fun r1 => if 0 < r1.1 then ((f_X0_rank_L25 N o p1 N x2 x3 r1.1 0 1 0 r1.2).bind (fun s14 => if s14.2.1 = 0 then (some (s14.1, s14.2.2)) else (some ((-1), s14.2.2)))) else (some (2, r1.2)))
set_option maxHeartbeats 4000000 in
set_option maxRecDepth 20000 in
theorem m_X0_rank (l : Launch) (E : Ev) (N : Nat) (o : Nat) (p1 : Nat) (ho : isLa o) (hp1 : isPe p1) (x2 x3 : Int32) (σ : Sg) (R : Int32 × Sg) (hf : f_X0_rank N o p1 x2 x3 σ = some R) : Ct l E YX0_rank [.ref (E.2.1 o), .ref (E.2.1 p1), .int x2, .int x3] σ (some (.int R.1), R.2) := by
  refine ct_of (by decide +kernel) (Nat.le_of_ble_eq_true rfl) [(0, .ref (E.2.1 o)), (1, .ref (E.2.1 p1)), (2, .int x2), (3, .int x3)] rfl (fun X hX C => ?_)
  have hL25 : ∀ (k : Nat) (a2 a3 a4 a5 a6 a7 : Int32) (σ : Sg) (Q25 : Int32 × Int32 × Sg), f_X0_rank_L25 N o p1 k a2 a3 a4 a5 a6 a7 σ = some Q25 → (Zz E X YX0_rank (some (.int R.1), R.2) Q25.2.2 106 [(5, .int Q25.1), (6, .int Q25.2.1)] []) → Zz E X YX0_rank (some (.int R.1), R.2) σ 25 [(0, .ref (E.2.1 o)), (1, .ref (E.2.1 p1)), (2, .int a2), (3, .int a3), (4, .int a4), (5, .int a5), (6, .int a6), (7, .int a7)] [] := by
    intro k
    induction k with
    | zero =>
      intro a2 a3 a4 a5 a6 a7 σ Q25 hf
      have hf : (none : Option (Int32 × Int32 × Sg)) = some Q25 := hf
      cases hf
    | succ k ih =>
      intro a2 a3 a4 a5 a6 a7 σ Q25 hf hx25
      have hf : f_X0_rank_B25 N o p1 (f_X0_rank_L25 N o p1 k) a2 a3 a4 a5 a6 a7 σ = some Q25 := hf
      have hJ75 : ∀ (a2 a3 a4 a5 a7 a8 b0 : Int32) (σ : Sg), f_X0_rank_J75 N o p1 (f_X0_rank_L25 N o p1 k) a2 a3 a4 a5 a7 a8 b0 σ = some Q25 → Zz E X YX0_rank (some (.int R.1), R.2) σ 75 [(0, .ref (E.2.1 o)), (1, .ref (E.2.1 p1)), (2, .int a2), (3, .int a3), (4, .int a4), (5, .int a5), (7, .int a7), (8, .int a8)] [.int b0] := by
        intro a2 a3 a4 a5 a7 a8 b0 σ hf
        unfold f_X0_rank_J75 at hf
        refine z_istore (lv' := [(6, .int b0), (0, .ref (E.2.1 o)), (1, .ref (E.2.1 p1)), (2, .int a2), (3, .int a3), (4, .int a4), (5, .int a5), (7, .int a7), (8, .int a8)]) C dX0_rank_75 (by decide) rfl ?_
        refine z_iload C dX0_rank_77 8 rfl ?_
        refine z_iload C dX0_rank_79 5 rfl ?_
        refine z_icmp_gt (tgt := 97) C dX0_rank_81 (by decide) (fun h10 => ?_) (fun h10 => ?_)
        · replace hf := ifp hf h10
          refine z_iinc (v := (a5 + 1)) (lv' := [(5, .int (a5 + 1)), (6, .int b0), (0, .ref (E.2.1 o)), (1, .ref (E.2.1 p1)), (2, .int a2), (3, .int a3), (4, .int a4), (7, .int a7), (8, .int a8)]) C dX0_rank_97 6 rfl rfl (by decide) rfl ?_
          refine z_iinc (v := (a7 + 1)) (lv' := [(7, .int (a7 + 1)), (5, .int (a5 + 1)), (6, .int b0), (0, .ref (E.2.1 o)), (1, .ref (E.2.1 p1)), (2, .int a2), (3, .int a3), (4, .int a4), (8, .int a8)]) C dX0_rank_100 7 rfl rfl (by decide) rfl ?_
          refine z_goto (tgt := 25) C dX0_rank_103 (by decide) ?_
          refine z_sub [(0, .ref (E.2.1 o)), (1, .ref (E.2.1 p1)), (2, .int a2), (3, .int a3), (4, .int a4), (5, .int (a5 + 1)), (6, .int b0), (7, .int (a7 + 1))] [3, 4, 5, 6, 7, 1, 2, 0] rfl ?_
          exact ih a2 a3 a4 (a5 + 1) b0 (a7 + 1) σ _ hf hx25
        · replace hf := ifn hf h10
          refine z_iload C dX0_rank_84 8 rfl ?_
          refine z_iload C dX0_rank_86 5 rfl ?_
          refine z_icmp_ne (tgt := 100) C dX0_rank_88 (by decide) (fun h11 => ?_) (fun h11 => ?_)
          · replace hf := ifn hf h11
            refine z_iinc (v := (a7 + 1)) (lv' := [(7, .int (a7 + 1)), (6, .int b0), (0, .ref (E.2.1 o)), (1, .ref (E.2.1 p1)), (2, .int a2), (3, .int a3), (4, .int a4), (5, .int a5), (8, .int a8)]) C dX0_rank_100 7 rfl rfl (by decide) rfl ?_
            refine z_goto (tgt := 25) C dX0_rank_103 (by decide) ?_
            refine z_sub [(0, .ref (E.2.1 o)), (1, .ref (E.2.1 p1)), (2, .int a2), (3, .int a3), (4, .int a4), (5, .int a5), (6, .int b0), (7, .int (a7 + 1))] [2, 3, 4, 5, 6, 7, 1, 0] rfl ?_
            exact ih a2 a3 a4 a5 b0 (a7 + 1) σ _ hf hx25
          · replace hf := ifp hf h11
            refine z_iload C dX0_rank_91 7 rfl ?_
            refine z_iload_n C dX0_rank_93 3 rfl ?_
            refine z_icmp_ge (tgt := 100) C dX0_rank_94 (by decide) (fun h12 => ?_) (fun h12 => ?_)
            · replace hf := ifp hf h12
              refine z_iinc (v := (a7 + 1)) (lv' := [(7, .int (a7 + 1)), (6, .int b0), (0, .ref (E.2.1 o)), (1, .ref (E.2.1 p1)), (2, .int a2), (3, .int a3), (4, .int a4), (5, .int a5), (8, .int a8)]) C dX0_rank_100 7 rfl rfl (by decide) rfl ?_
              refine z_goto (tgt := 25) C dX0_rank_103 (by decide) ?_
              refine z_sub [(0, .ref (E.2.1 o)), (1, .ref (E.2.1 p1)), (2, .int a2), (3, .int a3), (4, .int a4), (5, .int a5), (6, .int b0), (7, .int (a7 + 1))] [2, 3, 4, 5, 6, 7, 1, 0] rfl ?_
              exact ih a2 a3 a4 a5 b0 (a7 + 1) σ _ hf hx25
            · replace hf := ifn hf h12
              refine z_iinc (v := (a5 + 1)) (lv' := [(5, .int (a5 + 1)), (6, .int b0), (0, .ref (E.2.1 o)), (1, .ref (E.2.1 p1)), (2, .int a2), (3, .int a3), (4, .int a4), (7, .int a7), (8, .int a8)]) C dX0_rank_97 6 rfl rfl (by decide) rfl ?_
              refine z_iinc (v := (a7 + 1)) (lv' := [(7, .int (a7 + 1)), (5, .int (a5 + 1)), (6, .int b0), (0, .ref (E.2.1 o)), (1, .ref (E.2.1 p1)), (2, .int a2), (3, .int a3), (4, .int a4), (8, .int a8)]) C dX0_rank_100 7 rfl rfl (by decide) rfl ?_
              refine z_goto (tgt := 25) C dX0_rank_103 (by decide) ?_
              refine z_sub [(0, .ref (E.2.1 o)), (1, .ref (E.2.1 p1)), (2, .int a2), (3, .int a3), (4, .int a4), (5, .int (a5 + 1)), (6, .int b0), (7, .int (a7 + 1))] [3, 4, 5, 6, 7, 1, 2, 0] rfl ?_
              exact ih a2 a3 a4 (a5 + 1) b0 (a7 + 1) σ _ hf hx25
      have hJ74 : ∀ (a2 a3 a4 a5 a7 a8 : Int32) (σ : Sg), f_X0_rank_J74 N o p1 (f_X0_rank_L25 N o p1 k) a2 a3 a4 a5 a7 a8 σ = some Q25 → Zz E X YX0_rank (some (.int R.1), R.2) σ 74 [(0, .ref (E.2.1 o)), (1, .ref (E.2.1 p1)), (2, .int a2), (3, .int a3), (4, .int a4), (5, .int a5), (7, .int a7), (8, .int a8)] [] := by
        intro a2 a3 a4 a5 a7 a8 σ hf
        unfold f_X0_rank_J74 at hf
        refine z_iconst (v := 0) C dX0_rank_74 (by decide) ?_
        refine z_sub [(0, .ref (E.2.1 o)), (1, .ref (E.2.1 p1)), (2, .int a2), (3, .int a3), (4, .int a4), (5, .int a5), (7, .int a7), (8, .int a8)] [0, 1, 2, 3, 4, 5, 6, 7] rfl ?_
        exact hJ75 a2 a3 a4 a5 a7 a8 0 σ hf
      have hJ58 : ∀ (a2 a3 a4 a5 a6 a7 b0 : Int32) (σ : Sg), f_X0_rank_J58 N o p1 (f_X0_rank_L25 N o p1 k) a2 a3 a4 a5 a6 a7 b0 σ = some Q25 → Zz E X YX0_rank (some (.int R.1), R.2) σ 58 [(0, .ref (E.2.1 o)), (1, .ref (E.2.1 p1)), (2, .int a2), (3, .int a3), (4, .int a4), (5, .int a5), (6, .int a6), (7, .int a7)] [.int b0] := by
        intro a2 a3 a4 a5 a6 a7 b0 σ hf
        unfold f_X0_rank_J58 at hf
        refine z_istore (lv' := [(8, .int b0), (0, .ref (E.2.1 o)), (1, .ref (E.2.1 p1)), (2, .int a2), (3, .int a3), (4, .int a4), (5, .int a5), (6, .int a6), (7, .int a7)]) C dX0_rank_58 (by decide) rfl ?_
        refine z_iload C dX0_rank_60 7 rfl ?_
        refine z_if_eq (tgt := 74) C dX0_rank_62 (by decide) (fun h9 => ?_) (fun h9 => ?_)
        · replace hf := ifp hf h9
          refine z_sub [(0, .ref (E.2.1 o)), (1, .ref (E.2.1 p1)), (2, .int a2), (3, .int a3), (4, .int a4), (5, .int a5), (7, .int a7), (8, .int b0)] [1, 2, 3, 4, 5, 6, 8, 0] rfl ?_
          exact hJ74 a2 a3 a4 a5 a7 b0 σ hf
        · replace hf := ifn hf h9
          refine z_iload C dX0_rank_65 0 rfl ?_
          refine z_if_gt (tgt := 74) C dX0_rank_67 (by decide) (fun h13 => ?_) (fun h13 => ?_)
          · replace hf := ifp hf h13
            refine z_sub [(0, .ref (E.2.1 o)), (1, .ref (E.2.1 p1)), (2, .int a2), (3, .int a3), (4, .int a4), (5, .int a5), (7, .int a7), (8, .int b0)] [1, 2, 3, 4, 5, 6, 8, 0] rfl ?_
            exact hJ74 a2 a3 a4 a5 a7 b0 σ hf
          · replace hf := ifn hf h13
            refine z_iconst (v := 1) C dX0_rank_70 (by decide) ?_
            refine z_goto (tgt := 75) C dX0_rank_71 (by decide) ?_
            refine z_sub [(0, .ref (E.2.1 o)), (1, .ref (E.2.1 p1)), (2, .int a2), (3, .int a3), (4, .int a4), (5, .int a5), (7, .int a7), (8, .int b0)] [1, 2, 3, 4, 5, 6, 8, 0] rfl ?_
            exact hJ75 a2 a3 a4 a5 a7 b0 1 σ hf
      unfold f_X0_rank_B25 at hf
      refine z_iload C dX0_rank_25 7 rfl ?_
      refine z_aload_n C dX0_rank_27 1 rfl ?_
      refine z_getN (v := .int (σ p1 2)) (T := TX5) (N := 3) (ci := 4) C (lt_pe hp1) (wc_pe hp1) rfl in_X5 2 (by decide) n_49 rfl dX0_rank_28 ?_
      refine z_icmp_ge (tgt := 106) C dX0_rank_31 (by decide) (fun h4 => ?_) (fun h4 => ?_)
      · replace hf := ifp hf h4
        refine z_sub [(5, .int a5), (6, .int a6)] [5, 6] rfl ?_
        obtain rfl := Option.some.inj hf
        exact hx25
      · replace hf := ifn hf h4
        refine z_iload C dX0_rank_34 5 rfl ?_
        refine z_iconst (v := 2) C dX0_rank_36 (by decide) ?_
        refine z_icmp_ge (tgt := 106) C dX0_rank_37 (by decide) (fun h5 => ?_) (fun h5 => ?_)
        · replace hf := ifp hf h5
          refine z_sub [(5, .int a5), (6, .int a6)] [5, 6] rfl ?_
          obtain rfl := Option.some.inj hf
          exact hx25
        · replace hf := ifn hf h5
          refine z_iload C dX0_rank_40 7 rfl ?_
          refine z_iload_n C dX0_rank_42 2 rfl ?_
          refine z_icmp_ne (tgt := 50) C dX0_rank_43 (by decide) (fun h6 => ?_) (fun h6 => ?_)
          · replace hf := ifn hf h6
            refine z_aload_n C dX0_rank_50 0 rfl ?_
            refine z_aload_n C dX0_rank_51 1 rfl ?_
            refine z_iload C dX0_rank_52 7 rfl ?_
            refine z_iload_n C dX0_rank_54 3 rfl ?_
            obtain ⟨r7, h8, hf⟩ := bd_some hf
            refine z_sc (As := [.ref (E.2.1 p1), .int a7, .int a3]) C ho t_517 (Nat.le_of_ble_eq_true rfl) (Nat.le_of_ble_eq_true rfl) dX0_rank_55 (Nat.le_of_ble_eq_true rfl) rfl rfl (m_sc X.2.1 E N o p1 ho hp1 a7 a3 σ _ h8) ?_
            change Zz E X YX0_rank (some (.int R.1), R.2) r7.2 _ _ [.int r7.1]
            refine z_sub [(0, .ref (E.2.1 o)), (1, .ref (E.2.1 p1)), (2, .int a2), (3, .int a3), (4, .int a4), (5, .int a5), (6, .int a6), (7, .int a7)] [0, 1, 2, 3, 4, 5, 6, 7] rfl ?_
            exact hJ58 a2 a3 a4 a5 a6 a7 r7.1 r7.2 hf
          · replace hf := ifp hf h6
            refine z_iconst (v := 0) C dX0_rank_46 (by decide) ?_
            refine z_goto (tgt := 58) C dX0_rank_47 (by decide) ?_
            refine z_sub [(0, .ref (E.2.1 o)), (1, .ref (E.2.1 p1)), (2, .int a2), (3, .int a3), (4, .int a4), (5, .int a5), (6, .int a6), (7, .int a7)] [0, 1, 2, 3, 4, 5, 6, 7] rfl ?_
            exact hJ58 a2 a3 a4 a5 a6 a7 0 σ hf
  unfold f_X0_rank at hf
  refine z_aload_n C dX0_rank_0 0 rfl ?_
  refine z_aload_n C dX0_rank_1 1 rfl ?_
  refine z_iload_n C dX0_rank_2 2 rfl ?_
  refine z_iload_n C dX0_rank_3 3 rfl ?_
  obtain ⟨r1, h2, hf⟩ := bd_some hf
  refine z_sc (As := [.ref (E.2.1 p1), .int x2, .int x3]) C ho t_517 (Nat.le_of_ble_eq_true rfl) (Nat.le_of_ble_eq_true rfl) dX0_rank_4 (Nat.le_of_ble_eq_true rfl) rfl rfl (m_sc X.2.1 E N o p1 ho hp1 x2 x3 σ _ h2) ?_
  change Zz E X YX0_rank (some (.int R.1), R.2) r1.2 _ _ [.int r1.1]
  refine z_istore (lv' := [(4, .int r1.1), (0, .ref (E.2.1 o)), (1, .ref (E.2.1 p1)), (2, .int x2), (3, .int x3)]) C dX0_rank_7 (by decide) rfl ?_
  refine z_iload C dX0_rank_9 0 rfl ?_
  refine z_if_gt (tgt := 16) C dX0_rank_11 (by decide) (fun h3 => ?_) (fun h3 => ?_)
  · replace hf := ifp hf h3
    refine z_iconst (v := 0) C dX0_rank_16 (by decide) ?_
    refine z_istore (lv' := [(5, .int 0), (4, .int r1.1), (0, .ref (E.2.1 o)), (1, .ref (E.2.1 p1)), (2, .int x2), (3, .int x3)]) C dX0_rank_17 (by decide) rfl ?_
    refine z_iconst (v := 1) C dX0_rank_19 (by decide) ?_
    refine z_istore (lv' := [(6, .int 1), (5, .int 0), (4, .int r1.1), (0, .ref (E.2.1 o)), (1, .ref (E.2.1 p1)), (2, .int x2), (3, .int x3)]) C dX0_rank_20 (by decide) rfl ?_
    refine z_iconst (v := 0) C dX0_rank_22 (by decide) ?_
    refine z_istore (lv' := [(7, .int 0), (6, .int 1), (5, .int 0), (4, .int r1.1), (0, .ref (E.2.1 o)), (1, .ref (E.2.1 p1)), (2, .int x2), (3, .int x3)]) C dX0_rank_23 (by decide) rfl ?_
    refine z_sub [(0, .ref (E.2.1 o)), (1, .ref (E.2.1 p1)), (2, .int x2), (3, .int x3), (4, .int r1.1), (5, .int 0), (6, .int 1), (7, .int 0)] [4, 5, 6, 7, 3, 2, 1, 0] rfl ?_
    obtain ⟨s14, h16, hf⟩ := bd_some hf
    refine hL25 N x2 x3 r1.1 0 1 0 r1.2 _ h16 ?_
    refine z_iload C dX0_rank_106 1 rfl ?_
    refine z_if_eq (tgt := 115) C dX0_rank_108 (by decide) (fun h15 => ?_) (fun h15 => ?_)
    · replace hf := ifp hf h15
      refine z_iload C dX0_rank_115 0 rfl ?_
      exact z_iret C dX0_rank_117 rfl (by rw [← Option.some.inj hf])
    · replace hf := ifn hf h15
      refine z_iconst (v := (-1)) C dX0_rank_111 (by decide) ?_
      refine z_goto (tgt := 117) C dX0_rank_112 (by decide) ?_
      exact z_iret C dX0_rank_117 rfl (by rw [← Option.some.inj hf])
  · replace hf := ifn hf h3
    refine z_iconst (v := 2) C dX0_rank_14 (by decide) ?_
    exact z_iret C dX0_rank_15 rfl (by rw [← Option.some.inj hf])
theorem lk_X0_rank {Y : Yv} : Lk Y YX0_rank 3 := ⟨t_516, t_7, ⟨by decide +kernel, by decide +kernel⟩, by decide +kernel⟩
set_option maxRecDepth 20000 in
theorem z_law_X0_rank {E : Ev} {X : Xv} {Y : Yv} {P : Pv} {σ : Sg} {pc i q : Nat} {lv : List (Nat × Value)} {As st stk : List Value} {P2 : Pv} (C : Cx E X Y) (hl : isLa q) (hw1 : Cond.methodLink Y.1.cls i yX0_rank ∈ WT) (hfr : YX0_rank.2.2.2.2.1 + 1 ≤ Y.2.2.2.2.1) (hlo : 8 + (YX0_rank.2.2.1 + 11) + YX0_rank.2.2.2.2.2 ≤ Y.2.2.2.2.2) (d : decode Y.2.1 pc = .ok (.invokevirtual i, 3)) (hst : (st.map fun v => v.category).sum ≤ 8) (hn : As.length = 3) (hs : stk = As.reverse ++ .ref (E.2.1 q) :: st) (hM : Ct X.2.1 E YX0_rank (.ref (E.2.1 q) :: As) σ P2) (k : Zz E X Y P P2.2 (pc + 3) lv (P2.1.toList ++ st)) : Zz E X Y P σ pc lv stk := by
  have hdc : va_Decl X.2.2.2.1 ⟨RX0, "rank", "(LToWhoNeeds$People;II)I"⟩ := va_Decl.of (C.2.2.2.2.2.1 _ t_509) (C.2.2.2.2.2.1 _ t_516)
  rcases hl with rfl | rfl | rfl | rfl | rfl
  · exact z_callU (Y2 := YX0_rank) (x := yX0_rank) (owner := RX0) (CC := RX10) (T := TX10) (N := 1) (ci := 9) C lk_X0_rank (by decide) rfl rfl hw1 t_509 t_515 t_510 hdc ⟨by decide +kernel, by decide +kernel⟩ (by decide +kernel) hfr hlo d hst hn hs hM k
  · exact z_callU (Y2 := YX0_rank) (x := yX0_rank) (owner := RX0) (CC := RX1) (T := TX1) (N := 1) (ci := 0) C lk_X0_rank (by decide) rfl rfl hw1 t_509 t_511 t_510 hdc ⟨by decide +kernel, by decide +kernel⟩ (by decide +kernel) hfr hlo d hst hn hs hM k
  · exact z_callU (Y2 := YX0_rank) (x := yX0_rank) (owner := RX0) (CC := RX3) (T := TX3) (N := 1) (ci := 2) C lk_X0_rank (by decide) rfl rfl hw1 t_509 t_512 t_510 hdc ⟨by decide +kernel, by decide +kernel⟩ (by decide +kernel) hfr hlo d hst hn hs hM k
  · exact z_callU (Y2 := YX0_rank) (x := yX0_rank) (owner := RX0) (CC := RX8) (T := TX8) (N := 1) (ci := 7) C lk_X0_rank (by decide) rfl rfl hw1 t_509 t_514 t_510 hdc ⟨by decide +kernel, by decide +kernel⟩ (by decide +kernel) hfr hlo d hst hn hs hM k
  · exact z_callU (Y2 := YX0_rank) (x := yX0_rank) (owner := RX0) (CC := RX6) (T := TX6) (N := 1) (ci := 5) C lk_X0_rank (by decide) rfl rfl hw1 t_509 t_513 t_510 hdc ⟨by decide +kernel, by decide +kernel⟩ (by decide +kernel) hfr hlo d hst hn hs hM k
abbrev YX0_reaches : Yv := (yX0_reaches, cX0_reaches, 5, some .boolean, 2, 55)
def f_X0_reaches (N : Nat) (o : Nat) (p1 : Nat) (x2 x3 : Int32) (σ : Sg) : Option (Int32 × Sg) :=
  (f_X0_rank N o p1 x2 x3 σ).bind (fun r1 => if r1.1 = (r1.2 o 0) then (some (1, r1.2)) else (if r1.1 = (-1) then (some (1, r1.2)) else (some (0, r1.2))))
set_option maxHeartbeats 4000000 in
set_option maxRecDepth 20000 in
theorem m_X0_reaches (l : Launch) (E : Ev) (N : Nat) (o : Nat) (p1 : Nat) (ho : isLa o) (hp1 : isPe p1) (x2 x3 : Int32) (σ : Sg) (R : Int32 × Sg) (hf : f_X0_reaches N o p1 x2 x3 σ = some R) : Ct l E YX0_reaches [.ref (E.2.1 o), .ref (E.2.1 p1), .int x2, .int x3] σ (some (.int R.1), R.2) := by
  refine ct_of (by decide +kernel) (Nat.le_of_ble_eq_true rfl) [(0, .ref (E.2.1 o)), (1, .ref (E.2.1 p1)), (2, .int x2), (3, .int x3)] rfl (fun X hX C => ?_)
  unfold f_X0_reaches at hf
  refine z_aload_n C dX0_reaches_0 0 rfl ?_
  refine z_aload_n C dX0_reaches_1 1 rfl ?_
  refine z_iload_n C dX0_reaches_2 2 rfl ?_
  refine z_iload_n C dX0_reaches_3 3 rfl ?_
  obtain ⟨r1, h2, hf⟩ := bd_some hf
  refine z_law_X0_rank (As := [.ref (E.2.1 p1), .int x2, .int x3]) C ho t_508 (Nat.le_of_ble_eq_true rfl) (Nat.le_of_ble_eq_true rfl) dX0_reaches_4 (Nat.le_of_ble_eq_true rfl) rfl rfl (m_X0_rank X.2.1 E N o p1 ho hp1 x2 x3 σ _ h2) ?_
  change Zz E X YX0_reaches (some (.int R.1), R.2) r1.2 _ _ [.int r1.1]
  refine z_istore (lv' := [(4, .int r1.1), (0, .ref (E.2.1 o)), (1, .ref (E.2.1 p1)), (2, .int x2), (3, .int x3)]) C dX0_reaches_7 (by decide) rfl ?_
  refine z_iload C dX0_reaches_9 0 rfl ?_
  refine z_aload_n C dX0_reaches_11 1 rfl ?_
  refine z_getLa C ho t_195 dX0_reaches_12 ?_
  refine z_icmp_eq (tgt := 24) C dX0_reaches_15 (by decide) (fun h3 => ?_) (fun h3 => ?_)
  · replace hf := ifp hf h3
    refine z_iconst (v := 1) C dX0_reaches_24 (by decide) ?_
    refine z_goto (tgt := 29) C dX0_reaches_25 (by decide) ?_
    exact z_zret C dX0_reaches_29 rfl rfl (by rw [← Option.some.inj hf])
  · replace hf := ifn hf h3
    refine z_iload C dX0_reaches_18 0 rfl ?_
    refine z_iconst (v := (-1)) C dX0_reaches_20 (by decide) ?_
    refine z_icmp_ne (tgt := 28) C dX0_reaches_21 (by decide) (fun h4 => ?_) (fun h4 => ?_)
    · replace hf := ifn hf h4
      refine z_iconst (v := 0) C dX0_reaches_28 (by decide) ?_
      exact z_zret C dX0_reaches_29 rfl rfl (by rw [← Option.some.inj hf])
    · replace hf := ifp hf h4
      refine z_iconst (v := 1) C dX0_reaches_24 (by decide) ?_
      refine z_goto (tgt := 29) C dX0_reaches_25 (by decide) ?_
      exact z_zret C dX0_reaches_29 rfl rfl (by rw [← Option.some.inj hf])
theorem lk_X0_reaches {Y : Yv} : Lk Y YX0_reaches 3 := ⟨t_591, t_7, ⟨by decide +kernel, by decide +kernel⟩, by decide +kernel⟩
set_option maxRecDepth 20000 in
theorem z_law_X0_reaches {E : Ev} {X : Xv} {Y : Yv} {P : Pv} {σ : Sg} {pc i q : Nat} {lv : List (Nat × Value)} {As st stk : List Value} {P2 : Pv} (C : Cx E X Y) (hl : isLa q) (hw1 : Cond.methodLink Y.1.cls i yX0_reaches ∈ WT) (hfr : YX0_reaches.2.2.2.2.1 + 1 ≤ Y.2.2.2.2.1) (hlo : 8 + (YX0_reaches.2.2.1 + 11) + YX0_reaches.2.2.2.2.2 ≤ Y.2.2.2.2.2) (d : decode Y.2.1 pc = .ok (.invokevirtual i, 3)) (hst : (st.map fun v => v.category).sum ≤ 8) (hn : As.length = 3) (hs : stk = As.reverse ++ .ref (E.2.1 q) :: st) (hM : Ct X.2.1 E YX0_reaches (.ref (E.2.1 q) :: As) σ P2) (k : Zz E X Y P P2.2 (pc + 3) lv (P2.1.toList ++ st)) : Zz E X Y P σ pc lv stk := by
  have hdc : va_Decl X.2.2.2.1 ⟨RX0, "reaches", "(LToWhoNeeds$People;II)Z"⟩ := va_Decl.of (C.2.2.2.2.2.1 _ t_584) (C.2.2.2.2.2.1 _ t_591)
  rcases hl with rfl | rfl | rfl | rfl | rfl
  · exact z_callU (Y2 := YX0_reaches) (x := yX0_reaches) (owner := RX0) (CC := RX10) (T := TX10) (N := 1) (ci := 9) C lk_X0_reaches (by decide) rfl rfl hw1 t_584 t_590 t_585 hdc ⟨by decide +kernel, by decide +kernel⟩ (by decide +kernel) hfr hlo d hst hn hs hM k
  · exact z_callU (Y2 := YX0_reaches) (x := yX0_reaches) (owner := RX0) (CC := RX1) (T := TX1) (N := 1) (ci := 0) C lk_X0_reaches (by decide) rfl rfl hw1 t_584 t_586 t_585 hdc ⟨by decide +kernel, by decide +kernel⟩ (by decide +kernel) hfr hlo d hst hn hs hM k
  · exact z_callU (Y2 := YX0_reaches) (x := yX0_reaches) (owner := RX0) (CC := RX3) (T := TX3) (N := 1) (ci := 2) C lk_X0_reaches (by decide) rfl rfl hw1 t_584 t_587 t_585 hdc ⟨by decide +kernel, by decide +kernel⟩ (by decide +kernel) hfr hlo d hst hn hs hM k
  · exact z_callU (Y2 := YX0_reaches) (x := yX0_reaches) (owner := RX0) (CC := RX8) (T := TX8) (N := 1) (ci := 7) C lk_X0_reaches (by decide) rfl rfl hw1 t_584 t_589 t_585 hdc ⟨by decide +kernel, by decide +kernel⟩ (by decide +kernel) hfr hlo d hst hn hs hM k
  · exact z_callU (Y2 := YX0_reaches) (x := yX0_reaches) (owner := RX0) (CC := RX6) (T := TX6) (N := 1) (ci := 5) C lk_X0_reaches (by decide) rfl rfl hw1 t_584 t_588 t_585 hdc ⟨by decide +kernel, by decide +kernel⟩ (by decide +kernel) hfr hlo d hst hn hs hM k
abbrev YX0_receiver : Yv := (yX0_receiver, cX0_receiver, 5, some .int, 2, 55)
def f_X0_receiver_B2 (N : Nat) (o : Nat) (p1 : Nat) (rec : Int32 → Int32 → Sg → Option ((Sg) ⊕ (Int32 × Sg))) (a2 a3 : Int32) (σ : Sg) : Option ((Sg) ⊕ (Int32 × Sg)) :=
  if (σ p1 2) ≤ a3 then (some (.inl σ)) else ((f_X0_rank N o p1 a3 a2 σ).bind (fun r2 => if r2.1 = (r2.2 o 0) then (some (.inr (a3, r2.2))) else (if r2.1 = (-1) then (some (.inr (a3, r2.2))) else (rec a2 (a3 + 1) r2.2))))
def f_X0_receiver_L2 (N : Nat) (o : Nat) (p1 : Nat) : Nat → Int32 → Int32 → Sg → Option ((Sg) ⊕ (Int32 × Sg))
  | 0 => fun _ _ _ => none
  | k + 1 => fun a2 a3 σ => f_X0_receiver_B2 N o p1 (f_X0_receiver_L2 N o p1 k) a2 a3 σ
def f_X0_receiver (N : Nat) (o : Nat) (p1 : Nat) (x2 : Int32) (σ : Sg) : Option (Int32 × Sg) :=
  ex1 (f_X0_receiver_L2 N o p1 N x2 0 σ) (fun s6 => some ((-9), s6)) (fun r7 => some r7)
set_option maxHeartbeats 4000000 in
set_option maxRecDepth 20000 in
theorem m_X0_receiver (l : Launch) (E : Ev) (N : Nat) (o : Nat) (p1 : Nat) (ho : isLa o) (hp1 : isPe p1) (x2 : Int32) (σ : Sg) (R : Int32 × Sg) (hf : f_X0_receiver N o p1 x2 σ = some R) : Ct l E YX0_receiver [.ref (E.2.1 o), .ref (E.2.1 p1), .int x2] σ (some (.int R.1), R.2) := by
  refine ct_of (by decide +kernel) (Nat.le_of_ble_eq_true rfl) [(0, .ref (E.2.1 o)), (1, .ref (E.2.1 p1)), (2, .int x2)] rfl (fun X hX C => ?_)
  have hL2 : ∀ (k : Nat) (a2 a3 : Int32) (σ : Sg) (Q2 : (Sg) ⊕ (Int32 × Sg)), f_X0_receiver_L2 N o p1 k a2 a3 σ = some Q2 → (∀ S, Q2 = .inl S → Zz E X YX0_receiver (some (.int R.1), R.2) S 42 [] []) → (∀ r, Q2 = .inr r → ((some (.int R.1), R.2) : Pv) = (some (.int r.1), r.2)) → Zz E X YX0_receiver (some (.int R.1), R.2) σ 2 [(0, .ref (E.2.1 o)), (1, .ref (E.2.1 p1)), (2, .int a2), (3, .int a3)] [] := by
    intro k
    induction k with
    | zero =>
      intro a2 a3 σ Q2 hf
      have hf : (none : Option ((Sg) ⊕ (Int32 × Sg))) = some Q2 := hf
      cases hf
    | succ k ih =>
      intro a2 a3 σ Q2 hf hx2 hr2
      have hf : f_X0_receiver_B2 N o p1 (f_X0_receiver_L2 N o p1 k) a2 a3 σ = some Q2 := hf
      unfold f_X0_receiver_B2 at hf
      refine z_iload_n C dX0_receiver_2 3 rfl ?_
      refine z_aload_n C dX0_receiver_3 1 rfl ?_
      refine z_getN (v := .int (σ p1 2)) (T := TX5) (N := 3) (ci := 4) C (lt_pe hp1) (wc_pe hp1) rfl in_X5 2 (by decide) n_49 rfl dX0_receiver_4 ?_
      refine z_icmp_ge (tgt := 42) C dX0_receiver_7 (by decide) (fun h1 => ?_) (fun h1 => ?_)
      · replace hf := ifp hf h1
        refine z_sub [] [] rfl ?_
        exact hx2 _ (Option.some.inj hf).symm
      · replace hf := ifn hf h1
        refine z_aload_n C dX0_receiver_10 0 rfl ?_
        refine z_aload_n C dX0_receiver_11 1 rfl ?_
        refine z_iload_n C dX0_receiver_12 3 rfl ?_
        refine z_iload_n C dX0_receiver_13 2 rfl ?_
        obtain ⟨r2, h3, hf⟩ := bd_some hf
        refine z_law_X0_rank (As := [.ref (E.2.1 p1), .int a3, .int a2]) C ho t_508 (Nat.le_of_ble_eq_true rfl) (Nat.le_of_ble_eq_true rfl) dX0_receiver_14 (Nat.le_of_ble_eq_true rfl) rfl rfl (m_X0_rank X.2.1 E N o p1 ho hp1 a3 a2 σ _ h3) ?_
        change Zz E X YX0_receiver (some (.int R.1), R.2) r2.2 _ _ [.int r2.1]
        refine z_istore (lv' := [(4, .int r2.1), (0, .ref (E.2.1 o)), (1, .ref (E.2.1 p1)), (2, .int a2), (3, .int a3)]) C dX0_receiver_17 (by decide) rfl ?_
        refine z_iload C dX0_receiver_19 0 rfl ?_
        refine z_aload_n C dX0_receiver_21 1 rfl ?_
        refine z_getLa C ho t_195 dX0_receiver_22 ?_
        refine z_icmp_eq (tgt := 34) C dX0_receiver_25 (by decide) (fun h4 => ?_) (fun h4 => ?_)
        · replace hf := ifp hf h4
          refine z_iload_n C dX0_receiver_34 4 rfl ?_
          have hq := hr2 _ (Option.some.inj hf).symm
          exact z_iret C dX0_receiver_35 rfl hq
        · replace hf := ifn hf h4
          refine z_iload C dX0_receiver_28 0 rfl ?_
          refine z_iconst (v := (-1)) C dX0_receiver_30 (by decide) ?_
          refine z_icmp_ne (tgt := 36) C dX0_receiver_31 (by decide) (fun h5 => ?_) (fun h5 => ?_)
          · replace hf := ifn hf h5
            refine z_iinc (v := (a3 + 1)) (lv' := [(3, .int (a3 + 1)), (4, .int r2.1), (0, .ref (E.2.1 o)), (1, .ref (E.2.1 p1)), (2, .int a2)]) C dX0_receiver_36 4 rfl rfl (by decide) rfl ?_
            refine z_goto (tgt := 2) C dX0_receiver_39 (by decide) ?_
            refine z_sub [(0, .ref (E.2.1 o)), (1, .ref (E.2.1 p1)), (2, .int a2), (3, .int (a3 + 1))] [2, 3, 4, 0] rfl ?_
            exact ih a2 (a3 + 1) r2.2 _ hf hx2 hr2
          · replace hf := ifp hf h5
            refine z_iload_n C dX0_receiver_34 4 rfl ?_
            have hq := hr2 _ (Option.some.inj hf).symm
            exact z_iret C dX0_receiver_35 rfl hq
  unfold f_X0_receiver at hf
  refine z_iconst (v := 0) C dX0_receiver_0 (by decide) ?_
  refine z_istore_n (lv' := [(3, .int 0), (0, .ref (E.2.1 o)), (1, .ref (E.2.1 p1)), (2, .int x2)]) C dX0_receiver_1 (by decide) rfl ?_
  refine z_sub [(0, .ref (E.2.1 o)), (1, .ref (E.2.1 p1)), (2, .int x2), (3, .int 0)] [1, 2, 3, 0] rfl ?_
  rcases ex1_some hf with ⟨s6, h8, hf⟩ | ⟨r7, h8, hf⟩
  · refine hL2 N x2 0 σ _ h8 (fun S e => ?_) (fun _ e => nomatch e)
    cases e
    refine z_bipush (v := (-9)) C dX0_receiver_42 (by decide) ?_
    exact z_iret C dX0_receiver_44 rfl (by rw [← Option.some.inj hf])
  · refine hL2 N x2 0 σ _ h8 (fun _ e => nomatch e) (fun r e => ?_)
    cases e
    exact (by rw [← Option.some.inj hf])
theorem lk_X0_receiver {Y : Yv} : Lk Y YX0_receiver 2 := ⟨t_507, t_7, ⟨by decide +kernel, by decide +kernel⟩, by decide +kernel⟩
set_option maxRecDepth 20000 in
theorem z_law_X0_receiver {E : Ev} {X : Xv} {Y : Yv} {P : Pv} {σ : Sg} {pc i q : Nat} {lv : List (Nat × Value)} {As st stk : List Value} {P2 : Pv} (C : Cx E X Y) (hl : isLa q) (hw1 : Cond.methodLink Y.1.cls i yX0_receiver ∈ WT) (hfr : YX0_receiver.2.2.2.2.1 + 1 ≤ Y.2.2.2.2.1) (hlo : 8 + (YX0_receiver.2.2.1 + 11) + YX0_receiver.2.2.2.2.2 ≤ Y.2.2.2.2.2) (d : decode Y.2.1 pc = .ok (.invokevirtual i, 3)) (hst : (st.map fun v => v.category).sum ≤ 8) (hn : As.length = 2) (hs : stk = As.reverse ++ .ref (E.2.1 q) :: st) (hM : Ct X.2.1 E YX0_receiver (.ref (E.2.1 q) :: As) σ P2) (k : Zz E X Y P P2.2 (pc + 3) lv (P2.1.toList ++ st)) : Zz E X Y P σ pc lv stk := by
  have hdc : va_Decl X.2.2.2.1 ⟨RX0, "receiver", "(LToWhoNeeds$People;I)I"⟩ := va_Decl.of (C.2.2.2.2.2.1 _ t_500) (C.2.2.2.2.2.1 _ t_507)
  rcases hl with rfl | rfl | rfl | rfl | rfl
  · exact z_callU (Y2 := YX0_receiver) (x := yX0_receiver) (owner := RX0) (CC := RX10) (T := TX10) (N := 1) (ci := 9) C lk_X0_receiver (by decide) rfl rfl hw1 t_500 t_506 t_501 hdc ⟨by decide +kernel, by decide +kernel⟩ (by decide +kernel) hfr hlo d hst hn hs hM k
  · exact z_callU (Y2 := YX0_receiver) (x := yX0_receiver) (owner := RX0) (CC := RX1) (T := TX1) (N := 1) (ci := 0) C lk_X0_receiver (by decide) rfl rfl hw1 t_500 t_502 t_501 hdc ⟨by decide +kernel, by decide +kernel⟩ (by decide +kernel) hfr hlo d hst hn hs hM k
  · exact z_callU (Y2 := YX0_receiver) (x := yX0_receiver) (owner := RX0) (CC := RX3) (T := TX3) (N := 1) (ci := 2) C lk_X0_receiver (by decide) rfl rfl hw1 t_500 t_503 t_501 hdc ⟨by decide +kernel, by decide +kernel⟩ (by decide +kernel) hfr hlo d hst hn hs hM k
  · exact z_callU (Y2 := YX0_receiver) (x := yX0_receiver) (owner := RX0) (CC := RX8) (T := TX8) (N := 1) (ci := 7) C lk_X0_receiver (by decide) rfl rfl hw1 t_500 t_505 t_501 hdc ⟨by decide +kernel, by decide +kernel⟩ (by decide +kernel) hfr hlo d hst hn hs hM k
  · exact z_callU (Y2 := YX0_receiver) (x := yX0_receiver) (owner := RX0) (CC := RX6) (T := TX6) (N := 1) (ci := 5) C lk_X0_receiver (by decide) rfl rfl hw1 t_500 t_504 t_501 hdc ⟨by decide +kernel, by decide +kernel⟩ (by decide +kernel) hfr hlo d hst hn hs hM k
abbrev YX6_havers : Yv := (yX6_havers, cX6_havers, 6, some .int, 1, 27)
def f_X6_havers_B6 (N : Nat) (p1 : Nat) (rec : Int32 → Int32 → Int32 → Sg → Option (Int32 × Sg)) (a2 a4 a5 : Int32) (σ : Sg) : Option (Int32 × Sg) :=
  if (σ p1 2) ≤ a5 then (some (a4, σ)) else ((f_sc N 69 p1 a5 a2 σ).bind (fun r2 => if r2.1 ≤ 0 then (rec a2 a4 (a5 + 1) r2.2) else (nm (a4 ||| ((1 : Int32) <<< (a5 &&& 31))) (fun v5 => rec a2 v5 (a5 + 1) r2.2))))
def f_X6_havers_L6 (N : Nat) (p1 : Nat) : Nat → Int32 → Int32 → Int32 → Sg → Option (Int32 × Sg)
  | 0 => fun _ _ _ _ => none
  | k + 1 => fun a2 a4 a5 σ => f_X6_havers_B6 N p1 (f_X6_havers_L6 N p1 k) a2 a4 a5 σ
def f_X6_havers (N : Nat) (p1 : Nat) (x2 x3 : Int32) (σ : Sg) : Option (Int32 × Sg) :=
  (f_X6_havers_L6 N p1 N x2 0 0 σ).bind (fun s7 => some (s7.1, s7.2))
set_option maxHeartbeats 4000000 in
set_option maxRecDepth 20000 in
theorem m_X6_havers (l : Launch) (E : Ev) (N : Nat) (p1 : Nat) (hp1 : isPe p1) (x2 x3 : Int32) (σ : Sg) (R : Int32 × Sg) (hf : f_X6_havers N p1 x2 x3 σ = some R) : Ct l E YX6_havers [.ref (E.2.1 69), .ref (E.2.1 p1), .int x2, .int x3] σ (some (.int R.1), R.2) := by
  refine ct_of (by decide +kernel) (Nat.le_of_ble_eq_true rfl) [(0, .ref (E.2.1 69)), (1, .ref (E.2.1 p1)), (2, .int x2), (3, .int x3)] rfl (fun X hX C => ?_)
  have hL6 : ∀ (k : Nat) (a2 a4 a5 : Int32) (σ : Sg) (Q6 : Int32 × Sg), f_X6_havers_L6 N p1 k a2 a4 a5 σ = some Q6 → (Zz E X YX6_havers (some (.int R.1), R.2) Q6.2 41 [(4, .int Q6.1)] []) → Zz E X YX6_havers (some (.int R.1), R.2) σ 6 [(0, .ref (E.2.1 69)), (1, .ref (E.2.1 p1)), (2, .int a2), (4, .int a4), (5, .int a5)] [] := by
    intro k
    induction k with
    | zero =>
      intro a2 a4 a5 σ Q6 hf
      have hf : (none : Option (Int32 × Sg)) = some Q6 := hf
      cases hf
    | succ k ih =>
      intro a2 a4 a5 σ Q6 hf hx6
      have hf : f_X6_havers_B6 N p1 (f_X6_havers_L6 N p1 k) a2 a4 a5 σ = some Q6 := hf
      unfold f_X6_havers_B6 at hf
      refine z_iload C dX6_havers_6 4 rfl ?_
      refine z_aload_n C dX6_havers_8 1 rfl ?_
      refine z_getN (v := .int (σ p1 2)) (T := TX5) (N := 3) (ci := 4) C (lt_pe hp1) (wc_pe hp1) rfl in_X5 2 (by decide) n_47 rfl dX6_havers_9 ?_
      refine z_icmp_ge (tgt := 41) C dX6_havers_12 (by decide) (fun h1 => ?_) (fun h1 => ?_)
      · replace hf := ifp hf h1
        refine z_sub [(4, .int a4)] [3] rfl ?_
        obtain rfl := Option.some.inj hf
        exact hx6
      · replace hf := ifn hf h1
        refine z_aload_n C dX6_havers_15 0 rfl ?_
        refine z_aload_n C dX6_havers_16 1 rfl ?_
        refine z_iload C dX6_havers_17 4 rfl ?_
        refine z_iload_n C dX6_havers_19 2 rfl ?_
        obtain ⟨r2, h3, hf⟩ := bd_some hf
        refine z_scRO (As := [.ref (E.2.1 p1), .int a5, .int a2]) C la_69 t_540 (Nat.le_of_ble_eq_true rfl) (Nat.le_of_ble_eq_true rfl) dX6_havers_20 (Nat.le_of_ble_eq_true rfl) rfl rfl (m_sc X.2.1 E N 69 p1 la_69 hp1 a5 a2 σ _ h3) ?_
        change Zz E X YX6_havers (some (.int R.1), R.2) r2.2 _ _ [.int r2.1]
        refine z_if_le (tgt := 35) C dX6_havers_23 (by decide) (fun h4 => ?_) (fun h4 => ?_)
        · replace hf := ifp hf h4
          refine z_iinc (v := (a5 + 1)) (lv' := [(5, .int (a5 + 1)), (0, .ref (E.2.1 69)), (1, .ref (E.2.1 p1)), (2, .int a2), (4, .int a4)]) C dX6_havers_35 4 rfl rfl (by decide) rfl ?_
          refine z_goto (tgt := 6) C dX6_havers_38 (by decide) ?_
          refine z_sub [(0, .ref (E.2.1 69)), (1, .ref (E.2.1 p1)), (2, .int a2), (4, .int a4), (5, .int (a5 + 1))] [1, 2, 3, 4, 0] rfl ?_
          exact ih a2 a4 (a5 + 1) r2.2 _ hf hx6
        · replace hf := ifn hf h4
          refine z_iload C dX6_havers_26 3 rfl ?_
          refine z_iconst (v := 1) C dX6_havers_28 (by decide) ?_
          refine z_iload C dX6_havers_29 4 rfl ?_
          refine z_ishl C dX6_havers_31 ?_
          refine z_ior C dX6_havers_32 ?_
          obtain ⟨v5, h6, hf⟩ := nm_some hf
          rw [← h6]
          refine z_istore (lv' := [(4, .int v5), (0, .ref (E.2.1 69)), (1, .ref (E.2.1 p1)), (2, .int a2), (5, .int a5)]) C dX6_havers_33 (by decide) rfl ?_
          refine z_iinc (v := (a5 + 1)) (lv' := [(5, .int (a5 + 1)), (4, .int v5), (0, .ref (E.2.1 69)), (1, .ref (E.2.1 p1)), (2, .int a2)]) C dX6_havers_35 4 rfl rfl (by decide) rfl ?_
          refine z_goto (tgt := 6) C dX6_havers_38 (by decide) ?_
          refine z_sub [(0, .ref (E.2.1 69)), (1, .ref (E.2.1 p1)), (2, .int a2), (4, .int v5), (5, .int (a5 + 1))] [2, 3, 4, 1, 0] rfl ?_
          exact ih a2 v5 (a5 + 1) r2.2 _ hf hx6
  unfold f_X6_havers at hf
  refine z_iconst (v := 0) C dX6_havers_0 (by decide) ?_
  refine z_istore (lv' := [(4, .int 0), (0, .ref (E.2.1 69)), (1, .ref (E.2.1 p1)), (2, .int x2), (3, .int x3)]) C dX6_havers_1 (by decide) rfl ?_
  refine z_iconst (v := 0) C dX6_havers_3 (by decide) ?_
  refine z_istore (lv' := [(5, .int 0), (4, .int 0), (0, .ref (E.2.1 69)), (1, .ref (E.2.1 p1)), (2, .int x2), (3, .int x3)]) C dX6_havers_4 (by decide) rfl ?_
  refine z_sub [(0, .ref (E.2.1 69)), (1, .ref (E.2.1 p1)), (2, .int x2), (4, .int 0), (5, .int 0)] [2, 3, 4, 1, 0] rfl ?_
  obtain ⟨s7, h8, hf⟩ := bd_some hf
  refine hL6 N x2 0 0 σ _ h8 ?_
  refine z_iload C dX6_havers_41 0 rfl ?_
  exact z_iret C dX6_havers_43 rfl (by rw [← Option.some.inj hf])
theorem lk_X6_havers {Y : Yv} : Lk Y YX6_havers 3 := ⟨t_539, t_12, ⟨by decide +kernel, by decide +kernel⟩, by decide +kernel⟩
def hvY (q : Nat) : Yv := if q = 69 then YX6_havers else YX0_havers
def f_hv (N q p : Nat) (x1 x2 : Int32) (σ : Sg) : Option (Int32 × Sg) := if q = 69 then f_X6_havers N p x1 x2 σ else f_X0_havers N q p x1 x2 σ
theorem m_hv (l : Launch) (E : Ev) (N q p : Nat) (hq : isLa q) (hp : isPe p) (x1 x2 : Int32) (σ : Sg) (R : Int32 × Sg) (hf : f_hv N q p x1 x2 σ = some R) : Ct l E (hvY q) [.ref (E.2.1 q), .ref (E.2.1 p), .int x1, .int x2] σ (some (.int R.1), R.2) := by
  rcases hq with rfl | rfl | rfl | rfl | rfl
  · exact m_X0_havers l E N 65 p la_65 hp x1 x2 σ R hf
  · exact m_X0_havers l E N 66 p la_66 hp x1 x2 σ R hf
  · exact m_X0_havers l E N 67 p la_67 hp x1 x2 σ R hf
  · exact m_X0_havers l E N 68 p la_68 hp x1 x2 σ R hf
  · exact m_X6_havers l E N p hp x1 x2 σ R hf
set_option maxRecDepth 20000 in
theorem z_hv {E : Ev} {X : Xv} {Y : Yv} {P : Pv} {σ : Sg} {pc i q : Nat} {lv : List (Nat × Value)} {As st stk : List Value} {P2 : Pv} (C : Cx E X Y) (hl : isLa q) (hw1 : Cond.methodLink Y.1.cls i ⟨RX0, "havers", "(LToWhoNeeds$People;II)I"⟩ ∈ WT) (hfr : 2 ≤ Y.2.2.2.2.1) (hlo : 52 ≤ Y.2.2.2.2.2) (d : decode Y.2.1 pc = .ok (.invokevirtual i, 3)) (hst : (st.map fun v => v.category).sum ≤ 8) (hn : As.length = 3) (hs : stk = As.reverse ++ .ref (E.2.1 q) :: st) (hM : Ct X.2.1 E (hvY q) (.ref (E.2.1 q) :: As) σ P2) (k : Zz E X Y P P2.2 (pc + 3) lv (P2.1.toList ++ st)) : Zz E X Y P σ pc lv stk := by
  have hdc : va_Decl X.2.2.2.1 ⟨RX0, "havers", "(LToWhoNeeds$People;II)I"⟩ := va_Decl.of (C.2.2.2.2.2.1 _ t_533) (C.2.2.2.2.2.1 _ t_546)
  rcases hl with rfl | rfl | rfl | rfl | rfl
  · exact z_callU (Y2 := YX0_havers) (x := ⟨RX0, "havers", "(LToWhoNeeds$People;II)I"⟩) (owner := RX0) (CC := RX10) (T := TX10) (N := 1) (ci := 9) C lk_X0_havers (by decide) rfl rfl hw1 t_533 t_545 t_534 hdc ⟨by decide +kernel, by decide +kernel⟩ (by decide +kernel) (Nat.le_trans (Nat.le_of_ble_eq_true rfl) hfr) (Nat.le_trans (Nat.le_of_ble_eq_true rfl) hlo) d hst hn hs hM k
  · exact z_callU (Y2 := YX0_havers) (x := ⟨RX0, "havers", "(LToWhoNeeds$People;II)I"⟩) (owner := RX0) (CC := RX1) (T := TX1) (N := 1) (ci := 0) C lk_X0_havers (by decide) rfl rfl hw1 t_533 t_535 t_534 hdc ⟨by decide +kernel, by decide +kernel⟩ (by decide +kernel) (Nat.le_trans (Nat.le_of_ble_eq_true rfl) hfr) (Nat.le_trans (Nat.le_of_ble_eq_true rfl) hlo) d hst hn hs hM k
  · exact z_callU (Y2 := YX0_havers) (x := ⟨RX0, "havers", "(LToWhoNeeds$People;II)I"⟩) (owner := RX0) (CC := RX3) (T := TX3) (N := 1) (ci := 2) C lk_X0_havers (by decide) rfl rfl hw1 t_533 t_536 t_534 hdc ⟨by decide +kernel, by decide +kernel⟩ (by decide +kernel) (Nat.le_trans (Nat.le_of_ble_eq_true rfl) hfr) (Nat.le_trans (Nat.le_of_ble_eq_true rfl) hlo) d hst hn hs hM k
  · exact z_callU (Y2 := YX0_havers) (x := ⟨RX0, "havers", "(LToWhoNeeds$People;II)I"⟩) (owner := RX0) (CC := RX8) (T := TX8) (N := 1) (ci := 7) C lk_X0_havers (by decide) rfl rfl hw1 t_533 t_544 t_534 hdc ⟨by decide +kernel, by decide +kernel⟩ (by decide +kernel) (Nat.le_trans (Nat.le_of_ble_eq_true rfl) hfr) (Nat.le_trans (Nat.le_of_ble_eq_true rfl) hlo) d hst hn hs hM k
  · exact z_callU (Y2 := YX6_havers) (x := ⟨RX0, "havers", "(LToWhoNeeds$People;II)I"⟩) (owner := RX0) (CC := RX6) (T := TX6) (N := 1) (ci := 5) C lk_X6_havers (by decide) rfl rfl hw1 t_538 t_537 t_534 hdc ⟨by decide +kernel, by decide +kernel⟩ (by decide +kernel) (Nat.le_trans (Nat.le_of_ble_eq_true rfl) hfr) (Nat.le_trans (Nat.le_of_ble_eq_true rfl) hlo) d hst hn hs hM k
abbrev YX5_lack : Yv := (yX5_lack, cX5_lack, 4, some .int, 0, 0)
def f_X5_lack (N : Nat) (o : Nat) (x1 x2 : Int32) (σ : Sg) : Option (Int32 × Sg) :=
  if ((x1 * 4) + x2) < 0 then (some (0, σ)) else (if 24 ≤ ((x1 * 4) + x2) then (some (0, σ)) else (ga ((x1 * 4) + x2) 24 (some ((σ (o + 1) (Int32.toNatClampNeg ((x1 * 4) + x2))), σ))))
set_option maxHeartbeats 4000000 in
set_option maxRecDepth 20000 in
theorem m_X5_lack (l : Launch) (E : Ev) (N : Nat) (o : Nat) (ho : isPe o) (x1 x2 : Int32) (σ : Sg) (R : Int32 × Sg) (hf : f_X5_lack N o x1 x2 σ = some R) : Ct l E YX5_lack [.ref (E.2.1 o), .int x1, .int x2] σ (some (.int R.1), R.2) := by
  refine ct_of (by decide +kernel) (Nat.le_of_ble_eq_true rfl) [(0, .ref (E.2.1 o)), (1, .int x1), (2, .int x2)] rfl (fun X hX C => ?_)
  unfold f_X5_lack at hf
  refine z_iload_n C dX5_lack_0 1 rfl ?_
  refine z_iconst (v := 4) C dX5_lack_1 (by decide) ?_
  refine z_imul C dX5_lack_2 ?_
  refine z_iload_n C dX5_lack_3 2 rfl ?_
  refine z_iadd C dX5_lack_4 ?_
  refine z_istore_n (lv' := [(3, .int ((x1 * 4) + x2)), (0, .ref (E.2.1 o)), (1, .int x1), (2, .int x2)]) C dX5_lack_5 (by decide) rfl ?_
  refine z_iload_n C dX5_lack_6 0 rfl ?_
  refine z_if_lt (tgt := 28) C dX5_lack_7 (by decide) (fun h1 => ?_) (fun h1 => ?_)
  · replace hf := ifp hf h1
    refine z_iconst (v := 0) C dX5_lack_28 (by decide) ?_
    exact z_iret C dX5_lack_29 rfl (by rw [← Option.some.inj hf])
  · replace hf := ifn hf h1
    refine z_iload_n C dX5_lack_10 0 rfl ?_
    refine z_aload_n C dX5_lack_11 1 rfl ?_
    refine z_get (v := .ref (E.2.1 (o + 1))) (T := TX5) (N := 3) (ci := 4) C (lt_pe ho) (wc_pe ho) rfl in_X5 0 (by decide) t_41 rfl dX5_lack_12 ?_
    refine z_alen (v := 24) C (ho).2.1 rfl dX5_lack_15 ?_
    refine z_icmp_ge (tgt := 28) C dX5_lack_16 (by decide) (fun h2 => ?_) (fun h2 => ?_)
    · replace hf := ifp hf h2
      refine z_iconst (v := 0) C dX5_lack_28 (by decide) ?_
      exact z_iret C dX5_lack_29 rfl (by rw [← Option.some.inj hf])
    · replace hf := ifn hf h2
      refine z_aload_n C dX5_lack_19 1 rfl ?_
      refine z_get (v := .ref (E.2.1 (o + 1))) (T := TX5) (N := 3) (ci := 4) C (lt_pe ho) (wc_pe ho) rfl in_X5 0 (by decide) t_41 rfl dX5_lack_20 ?_
      refine z_iload_n C dX5_lack_23 0 rfl ?_
      obtain ⟨h3, hf⟩ := ga_some hf
      refine z_iald C (ho).2.1 h3 dX5_lack_24 ?_
      refine z_goto (tgt := 29) C dX5_lack_25 (by decide) ?_
      exact z_iret C dX5_lack_29 rfl (by rw [← Option.some.inj hf])
theorem lk_X5_lack {Y : Yv} : Lk Y YX5_lack 2 := ⟨t_452, t_3, ⟨by decide +kernel, by decide +kernel⟩, by decide +kernel⟩
abbrev YX5_setLack : Yv := (yX5_setLack, cX5_setLack, 5, none, 1, 16)
def f_X5_setLack (N : Nat) (o : Nat) (x1 x2 x3 : Int32) (σ : Sg) : Option (Sg) :=
  if ((x1 * 4) + x2) < 0 then (some σ) else (if 24 ≤ ((x1 * 4) + x2) then (some σ) else (ga ((x1 * 4) + x2) 24 (nm (sgs σ (o + 1) (Int32.toNatClampNeg ((x1 * 4) + x2)) (if 0 < (if 30 < x3 then 30 else x3) then (if 30 < x3 then 30 else x3) else 0)) (fun σ4 => some σ4))))
set_option maxHeartbeats 4000000 in
set_option maxRecDepth 20000 in
theorem m_X5_setLack (l : Launch) (E : Ev) (N : Nat) (o : Nat) (ho : isPe o) (x1 x2 x3 : Int32) (σ : Sg) (R : Sg) (hf : f_X5_setLack N o x1 x2 x3 σ = some R) : Ct l E YX5_setLack [.ref (E.2.1 o), .int x1, .int x2, .int x3] σ (none, R) := by
  refine ct_of (by decide +kernel) (Nat.le_of_ble_eq_true rfl) [(0, .ref (E.2.1 o)), (1, .int x1), (2, .int x2), (3, .int x3)] rfl (fun X hX C => ?_)
  unfold f_X5_setLack at hf
  refine z_iload_n C dX5_setLack_0 1 rfl ?_
  refine z_iconst (v := 4) C dX5_setLack_1 (by decide) ?_
  refine z_imul C dX5_setLack_2 ?_
  refine z_iload_n C dX5_setLack_3 2 rfl ?_
  refine z_iadd C dX5_setLack_4 ?_
  refine z_istore (lv' := [(4, .int ((x1 * 4) + x2)), (0, .ref (E.2.1 o)), (1, .int x1), (2, .int x2), (3, .int x3)]) C dX5_setLack_5 (by decide) rfl ?_
  refine z_iload C dX5_setLack_7 0 rfl ?_
  refine z_if_lt (tgt := 39) C dX5_setLack_9 (by decide) (fun h1 => ?_) (fun h1 => ?_)
  · replace hf := ifp hf h1
    exact z_vret C dX5_setLack_39 rfl (by rw [← Option.some.inj hf])
  · replace hf := ifn hf h1
    refine z_iload C dX5_setLack_12 0 rfl ?_
    refine z_aload_n C dX5_setLack_14 1 rfl ?_
    refine z_get (v := .ref (E.2.1 (o + 1))) (T := TX5) (N := 3) (ci := 4) C (lt_pe ho) (wc_pe ho) rfl in_X5 0 (by decide) t_41 rfl dX5_setLack_15 ?_
    refine z_alen (v := 24) C (ho).2.1 rfl dX5_setLack_18 ?_
    refine z_icmp_ge (tgt := 39) C dX5_setLack_19 (by decide) (fun h2 => ?_) (fun h2 => ?_)
    · replace hf := ifp hf h2
      exact z_vret C dX5_setLack_39 rfl (by rw [← Option.some.inj hf])
    · replace hf := ifn hf h2
      refine z_aload_n C dX5_setLack_22 1 rfl ?_
      refine z_get (v := .ref (E.2.1 (o + 1))) (T := TX5) (N := 3) (ci := 4) C (lt_pe ho) (wc_pe ho) rfl in_X5 0 (by decide) t_41 rfl dX5_setLack_23 ?_
      refine z_iload C dX5_setLack_26 0 rfl ?_
      refine z_iconst (v := 0) C dX5_setLack_28 (by decide) ?_
      refine z_iload_n C dX5_setLack_29 4 rfl ?_
      refine z_bipush (v := 30) C dX5_setLack_30 (by decide) ?_
      refine z_mmin C t_412 t_413 t_19 t_414 (Nat.le_of_ble_eq_true rfl) (Nat.le_of_ble_eq_true rfl) dX5_setLack_32 ?_
      refine z_mmax C t_415 t_416 t_19 t_417 (Nat.le_of_ble_eq_true rfl) (Nat.le_of_ble_eq_true rfl) dX5_setLack_35 ?_
      obtain ⟨h3, hf⟩ := ga_some hf
      obtain ⟨σ4, h5, hf⟩ := nm_some hf
      refine z_iast C (ho).2.1 h3 dX5_setLack_38 ?_
      rw [← h5]
      exact z_vret C dX5_setLack_39 rfl (by rw [← Option.some.inj hf])
theorem lk_X5_setLack {Y : Yv} : Lk Y YX5_setLack 3 := ⟨t_411, t_3, ⟨by decide +kernel, by decide +kernel⟩, by decide +kernel⟩
abbrev YX5_handTo : Yv := (yX5_handTo, cX5_handTo, 6, none, 2, 40)
def f_X5_handTo_B16 (N : Nat) (o : Nat) (rec : Int32 → Int32 → Int32 → Int32 → Int32 → Sg → Option (Int32 × Int32 × Int32 × Sg)) (a1 a2 a3 a4 a5 : Int32) (σ : Sg) : Option (Int32 × Int32 × Int32 × Sg) :=
  if 4 ≤ a5 then (some (a1, a2, a3, σ)) else (if ((a1 >>> (a3 &&& 31)) &&& 1) = 1 then ((f_X5_lack N o a3 a5 σ).bind (fun r4 => (f_X5_setLack N o a3 a5 (r4.1 - (jrem a4 10)) r4.2).bind (fun r6 => rec a1 a2 a3 (a4 / 10) (a5 + 1) r6))) else (some (a1, a2, a3, σ)))
def f_X5_handTo_L16 (N : Nat) (o : Nat) : Nat → Int32 → Int32 → Int32 → Int32 → Int32 → Sg → Option (Int32 × Int32 × Int32 × Sg)
  | 0 => fun _ _ _ _ _ _ => none
  | k + 1 => fun a1 a2 a3 a4 a5 σ => f_X5_handTo_B16 N o (f_X5_handTo_L16 N o k) a1 a2 a3 a4 a5 σ
def f_X5_handTo_B2 (N : Nat) (o : Nat) (rec : Int32 → Int32 → Int32 → Sg → Option (Sg)) (a1 a2 a3 : Int32) (σ : Sg) : Option (Sg) :=
  if (σ o 2) ≤ a3 then (some σ) else ((f_X5_handTo_L16 N o N a1 a2 a3 a2 0 σ).bind (fun s8 => rec s8.1 s8.2.1 (s8.2.2.1 + 1) s8.2.2.2))
def f_X5_handTo_L2 (N : Nat) (o : Nat) : Nat → Int32 → Int32 → Int32 → Sg → Option (Sg)
  | 0 => fun _ _ _ _ => none
  | k + 1 => fun a1 a2 a3 σ => f_X5_handTo_B2 N o (f_X5_handTo_L2 N o k) a1 a2 a3 σ
def f_X5_handTo (N : Nat) (o : Nat) (x1 x2 : Int32) (σ : Sg) : Option (Sg) :=
  (f_X5_handTo_L2 N o N x1 x2 0 σ).bind (fun s10 => some s10)
set_option maxHeartbeats 4000000 in
set_option maxRecDepth 20000 in
theorem m_X5_handTo (l : Launch) (E : Ev) (N : Nat) (o : Nat) (ho : isPe o) (x1 x2 : Int32) (σ : Sg) (R : Sg) (hf : f_X5_handTo N o x1 x2 σ = some R) : Ct l E YX5_handTo [.ref (E.2.1 o), .int x1, .int x2] σ (none, R) := by
  refine ct_of (by decide +kernel) (Nat.le_of_ble_eq_true rfl) [(0, .ref (E.2.1 o)), (1, .int x1), (2, .int x2)] rfl (fun X hX C => ?_)
  have hL16 : ∀ (k : Nat) (a1 a2 a3 a4 a5 : Int32) (σ : Sg) (Q16 : Int32 × Int32 × Int32 × Sg), f_X5_handTo_L16 N o k a1 a2 a3 a4 a5 σ = some Q16 → (Zz E X YX5_handTo (none, R) Q16.2.2.2 64 [(0, .ref (E.2.1 o)), (1, .int Q16.1), (2, .int Q16.2.1), (3, .int Q16.2.2.1)] []) → Zz E X YX5_handTo (none, R) σ 16 [(0, .ref (E.2.1 o)), (1, .int a1), (2, .int a2), (3, .int a3), (4, .int a4), (5, .int a5)] [] := by
    intro k
    induction k with
    | zero =>
      intro a1 a2 a3 a4 a5 σ Q16 hf
      have hf : (none : Option (Int32 × Int32 × Int32 × Sg)) = some Q16 := hf
      cases hf
    | succ k ih =>
      intro a1 a2 a3 a4 a5 σ Q16 hf hx16
      have hf : f_X5_handTo_B16 N o (f_X5_handTo_L16 N o k) a1 a2 a3 a4 a5 σ = some Q16 := hf
      unfold f_X5_handTo_B16 at hf
      refine z_iload C dX5_handTo_16 5 rfl ?_
      refine z_iconst (v := 4) C dX5_handTo_18 (by decide) ?_
      refine z_icmp_ge (tgt := 64) C dX5_handTo_19 (by decide) (fun h2 => ?_) (fun h2 => ?_)
      · replace hf := ifp hf h2
        refine z_sub [(0, .ref (E.2.1 o)), (1, .int a1), (2, .int a2), (3, .int a3)] [0, 1, 2, 3] rfl ?_
        obtain rfl := Option.some.inj hf
        exact hx16
      · replace hf := ifn hf h2
        refine z_iload_n C dX5_handTo_22 1 rfl ?_
        refine z_iload_n C dX5_handTo_23 3 rfl ?_
        refine z_ishr C dX5_handTo_24 ?_
        refine z_iconst (v := 1) C dX5_handTo_25 (by decide) ?_
        refine z_iand C dX5_handTo_26 ?_
        refine z_iconst (v := 1) C dX5_handTo_27 (by decide) ?_
        refine z_icmp_ne (tgt := 64) C dX5_handTo_28 (by decide) (fun h3 => ?_) (fun h3 => ?_)
        · replace hf := ifn hf h3
          refine z_sub [(0, .ref (E.2.1 o)), (1, .int a1), (2, .int a2), (3, .int a3)] [0, 1, 2, 3] rfl ?_
          obtain rfl := Option.some.inj hf
          exact hx16
        · replace hf := ifp hf h3
          refine z_aload_n C dX5_handTo_31 0 rfl ?_
          refine z_iload_n C dX5_handTo_32 3 rfl ?_
          refine z_iload C dX5_handTo_33 5 rfl ?_
          refine z_aload_n C dX5_handTo_35 0 rfl ?_
          refine z_iload_n C dX5_handTo_36 3 rfl ?_
          refine z_iload C dX5_handTo_37 5 rfl ?_
          obtain ⟨r4, h5, hf⟩ := bd_some hf
          refine z_callV (Y2 := YX5_lack) (CC := RX5) (T := TX5) (N := 3) (ci := 4) (As := [.int a3, .int a5]) C lk_X5_lack (lt_pe ho) (wc_pe ho) rfl t_552 t_450 t_451 (Nat.le_of_ble_eq_true rfl) (Nat.le_of_ble_eq_true rfl) dX5_handTo_39 (Nat.le_of_ble_eq_true rfl) rfl rfl (m_X5_lack X.2.1 E N o ho a3 a5 σ _ h5) ?_
          change Zz E X YX5_handTo (none, R) r4.2 _ _ [.int r4.1, .int a5, .int a3, .ref (E.2.1 o)]
          refine z_iload C dX5_handTo_42 4 rfl ?_
          refine z_bipush (v := 10) C dX5_handTo_44 (by decide) ?_
          refine z_irem C dX5_handTo_46 (by decide) ?_
          refine z_isub C dX5_handTo_47 ?_
          obtain ⟨r6, h7, hf⟩ := bd_some hf
          refine z_callV (Y2 := YX5_setLack) (CC := RX5) (T := TX5) (N := 3) (ci := 4) (As := [.int a3, .int a5, .int (r4.1 - (jrem a4 10))]) C lk_X5_setLack (lt_pe ho) (wc_pe ho) rfl t_553 t_409 t_410 (Nat.le_of_ble_eq_true rfl) (Nat.le_of_ble_eq_true rfl) dX5_handTo_48 (Nat.le_of_ble_eq_true rfl) rfl rfl (m_X5_setLack X.2.1 E N o ho a3 a5 (r4.1 - (jrem a4 10)) r4.2 _ h7) ?_
          change Zz E X YX5_handTo (none, R) r6 _ _ []
          refine z_iload C dX5_handTo_51 4 rfl ?_
          refine z_bipush (v := 10) C dX5_handTo_53 (by decide) ?_
          refine z_idiv C dX5_handTo_55 (by decide) ?_
          refine z_istore (lv' := [(4, .int (a4 / 10)), (0, .ref (E.2.1 o)), (1, .int a1), (2, .int a2), (3, .int a3), (5, .int a5)]) C dX5_handTo_56 (by decide) rfl ?_
          refine z_iinc (v := (a5 + 1)) (lv' := [(5, .int (a5 + 1)), (4, .int (a4 / 10)), (0, .ref (E.2.1 o)), (1, .int a1), (2, .int a2), (3, .int a3)]) C dX5_handTo_58 5 rfl rfl (by decide) rfl ?_
          refine z_goto (tgt := 16) C dX5_handTo_61 (by decide) ?_
          refine z_sub [(0, .ref (E.2.1 o)), (1, .int a1), (2, .int a2), (3, .int a3), (4, .int (a4 / 10)), (5, .int (a5 + 1))] [2, 3, 4, 5, 1, 0] rfl ?_
          exact ih a1 a2 a3 (a4 / 10) (a5 + 1) r6 _ hf hx16
  have hL2 : ∀ (k : Nat) (a1 a2 a3 : Int32) (σ : Sg) (Q2 : Sg), f_X5_handTo_L2 N o k a1 a2 a3 σ = some Q2 → (Zz E X YX5_handTo (none, R) Q2 70 [] []) → Zz E X YX5_handTo (none, R) σ 2 [(0, .ref (E.2.1 o)), (1, .int a1), (2, .int a2), (3, .int a3)] [] := by
    intro k
    induction k with
    | zero =>
      intro a1 a2 a3 σ Q2 hf
      have hf : (none : Option (Sg)) = some Q2 := hf
      cases hf
    | succ k ih =>
      intro a1 a2 a3 σ Q2 hf hx2
      have hf : f_X5_handTo_B2 N o (f_X5_handTo_L2 N o k) a1 a2 a3 σ = some Q2 := hf
      unfold f_X5_handTo_B2 at hf
      refine z_iload_n C dX5_handTo_2 3 rfl ?_
      refine z_aload_n C dX5_handTo_3 0 rfl ?_
      refine z_get (v := .int (σ o 2)) (T := TX5) (N := 3) (ci := 4) C (lt_pe ho) (wc_pe ho) rfl in_X5 2 (by decide) t_46 rfl dX5_handTo_4 ?_
      refine z_icmp_ge (tgt := 70) C dX5_handTo_7 (by decide) (fun h1 => ?_) (fun h1 => ?_)
      · replace hf := ifp hf h1
        refine z_sub [] [] rfl ?_
        obtain rfl := Option.some.inj hf
        exact hx2
      · replace hf := ifn hf h1
        refine z_iload_n C dX5_handTo_10 2 rfl ?_
        refine z_istore (lv' := [(4, .int a2), (0, .ref (E.2.1 o)), (1, .int a1), (2, .int a2), (3, .int a3)]) C dX5_handTo_11 (by decide) rfl ?_
        refine z_iconst (v := 0) C dX5_handTo_13 (by decide) ?_
        refine z_istore (lv' := [(5, .int 0), (4, .int a2), (0, .ref (E.2.1 o)), (1, .int a1), (2, .int a2), (3, .int a3)]) C dX5_handTo_14 (by decide) rfl ?_
        refine z_sub [(0, .ref (E.2.1 o)), (1, .int a1), (2, .int a2), (3, .int a3), (4, .int a2), (5, .int 0)] [2, 3, 4, 5, 1, 0] rfl ?_
        obtain ⟨s8, h9, hf⟩ := bd_some hf
        refine hL16 N a1 a2 a3 a2 0 σ _ h9 ?_
        refine z_iinc (v := (s8.2.2.1 + 1)) (lv' := [(3, .int (s8.2.2.1 + 1)), (0, .ref (E.2.1 o)), (1, .int s8.1), (2, .int s8.2.1)]) C dX5_handTo_64 3 rfl rfl (by decide) rfl ?_
        refine z_goto (tgt := 2) C dX5_handTo_67 (by decide) ?_
        refine z_sub [(0, .ref (E.2.1 o)), (1, .int s8.1), (2, .int s8.2.1), (3, .int (s8.2.2.1 + 1))] [1, 2, 3, 0] rfl ?_
        exact ih s8.1 s8.2.1 (s8.2.2.1 + 1) s8.2.2.2 _ hf hx2
  unfold f_X5_handTo at hf
  refine z_iconst (v := 0) C dX5_handTo_0 (by decide) ?_
  refine z_istore_n (lv' := [(3, .int 0), (0, .ref (E.2.1 o)), (1, .int x1), (2, .int x2)]) C dX5_handTo_1 (by decide) rfl ?_
  refine z_sub [(0, .ref (E.2.1 o)), (1, .int x1), (2, .int x2), (3, .int 0)] [1, 2, 3, 0] rfl ?_
  obtain ⟨s10, h11, hf⟩ := bd_some hf
  refine hL2 N x1 x2 0 σ _ h11 ?_
  exact z_vret C dX5_handTo_70 rfl (by rw [← Option.some.inj hf])
theorem lk_X5_handTo {Y : Yv} : Lk Y YX5_handTo 2 := ⟨t_551, t_3, ⟨by decide +kernel, by decide +kernel⟩, by decide +kernel⟩
abbrev YX0_deliver : Yv := (yX0_deliver, cX0_deliver, 4, some .int, 3, 79)
def f_X0_deliver (N : Nat) (o : Nat) (p1 : Nat) (x2 : Int32) (σ : Sg) : Option (Int32 × Sg) :=
  (f_X0_receiver N o p1 x2 σ).bind (fun r1 => (f_hv N o p1 x2 r1.1 r1.2).bind (fun r3 => (f_X5_handTo N p1 r3.1 x2 r3.2).bind (fun r5 => some (r1.1, r5))))
set_option maxHeartbeats 4000000 in
set_option maxRecDepth 20000 in
theorem m_X0_deliver (l : Launch) (E : Ev) (N : Nat) (o : Nat) (p1 : Nat) (ho : isLa o) (hp1 : isPe p1) (x2 : Int32) (σ : Sg) (R : Int32 × Sg) (hf : f_X0_deliver N o p1 x2 σ = some R) : Ct l E YX0_deliver [.ref (E.2.1 o), .ref (E.2.1 p1), .int x2] σ (some (.int R.1), R.2) := by
  refine ct_of (by decide +kernel) (Nat.le_of_ble_eq_true rfl) [(0, .ref (E.2.1 o)), (1, .ref (E.2.1 p1)), (2, .int x2)] rfl (fun X hX C => ?_)
  unfold f_X0_deliver at hf
  refine z_aload_n C dX0_deliver_0 0 rfl ?_
  refine z_aload_n C dX0_deliver_1 1 rfl ?_
  refine z_iload_n C dX0_deliver_2 2 rfl ?_
  obtain ⟨r1, h2, hf⟩ := bd_some hf
  refine z_law_X0_receiver (As := [.ref (E.2.1 p1), .int x2]) C ho t_531 (Nat.le_of_ble_eq_true rfl) (Nat.le_of_ble_eq_true rfl) dX0_deliver_3 (Nat.le_of_ble_eq_true rfl) rfl rfl (m_X0_receiver X.2.1 E N o p1 ho hp1 x2 σ _ h2) ?_
  change Zz E X YX0_deliver (some (.int R.1), R.2) r1.2 _ _ [.int r1.1]
  refine z_istore_n (lv' := [(3, .int r1.1), (0, .ref (E.2.1 o)), (1, .ref (E.2.1 p1)), (2, .int x2)]) C dX0_deliver_6 (by decide) rfl ?_
  refine z_aload_n C dX0_deliver_7 2 rfl ?_
  refine z_aload_n C dX0_deliver_8 1 rfl ?_
  refine z_aload_n C dX0_deliver_9 2 rfl ?_
  refine z_iload_n C dX0_deliver_10 3 rfl ?_
  refine z_iload_n C dX0_deliver_11 0 rfl ?_
  obtain ⟨r3, h4, hf⟩ := bd_some hf
  refine z_hv (As := [.ref (E.2.1 p1), .int x2, .int r1.1]) C ho t_532 (Nat.le_of_ble_eq_true rfl) (Nat.le_of_ble_eq_true rfl) dX0_deliver_12 (Nat.le_of_ble_eq_true rfl) rfl rfl (m_hv X.2.1 E N o p1 ho hp1 x2 r1.1 r1.2 _ h4) ?_
  change Zz E X YX0_deliver (some (.int R.1), R.2) r3.2 _ _ [.int r3.1, .ref (E.2.1 p1)]
  refine z_iload_n C dX0_deliver_15 3 rfl ?_
  obtain ⟨r5, h6, hf⟩ := bd_some hf
  refine z_callV (Y2 := YX5_handTo) (CC := RX5) (T := TX5) (N := 3) (ci := 4) (As := [.int r3.1, .int x2]) C lk_X5_handTo (lt_pe hp1) (wc_pe hp1) rfl t_548 t_549 t_550 (Nat.le_of_ble_eq_true rfl) (Nat.le_of_ble_eq_true rfl) dX0_deliver_16 (Nat.le_of_ble_eq_true rfl) rfl rfl (m_X5_handTo X.2.1 E N p1 hp1 r3.1 x2 r3.2 _ h6) ?_
  change Zz E X YX0_deliver (some (.int R.1), R.2) r5 _ _ []
  refine z_iload_n C dX0_deliver_19 0 rfl ?_
  exact z_iret C dX0_deliver_20 rfl (by rw [← Option.some.inj hf])
theorem lk_X0_deliver {Y : Yv} : Lk Y YX0_deliver 2 := ⟨t_530, t_7, ⟨by decide +kernel, by decide +kernel⟩, by decide +kernel⟩
set_option maxRecDepth 20000 in
theorem z_law_X0_deliver {E : Ev} {X : Xv} {Y : Yv} {P : Pv} {σ : Sg} {pc i q : Nat} {lv : List (Nat × Value)} {As st stk : List Value} {P2 : Pv} (C : Cx E X Y) (hl : isLa q) (hw1 : Cond.methodLink Y.1.cls i yX0_deliver ∈ WT) (hfr : YX0_deliver.2.2.2.2.1 + 1 ≤ Y.2.2.2.2.1) (hlo : 8 + (YX0_deliver.2.2.1 + 11) + YX0_deliver.2.2.2.2.2 ≤ Y.2.2.2.2.2) (d : decode Y.2.1 pc = .ok (.invokevirtual i, 3)) (hst : (st.map fun v => v.category).sum ≤ 8) (hn : As.length = 2) (hs : stk = As.reverse ++ .ref (E.2.1 q) :: st) (hM : Ct X.2.1 E YX0_deliver (.ref (E.2.1 q) :: As) σ P2) (k : Zz E X Y P P2.2 (pc + 3) lv (P2.1.toList ++ st)) : Zz E X Y P σ pc lv stk := by
  have hdc : va_Decl X.2.2.2.1 ⟨RX0, "deliver", "(LToWhoNeeds$People;I)I"⟩ := va_Decl.of (C.2.2.2.2.2.1 _ t_523) (C.2.2.2.2.2.1 _ t_530)
  rcases hl with rfl | rfl | rfl | rfl | rfl
  · exact z_callU (Y2 := YX0_deliver) (x := yX0_deliver) (owner := RX0) (CC := RX10) (T := TX10) (N := 1) (ci := 9) C lk_X0_deliver (by decide) rfl rfl hw1 t_523 t_529 t_524 hdc ⟨by decide +kernel, by decide +kernel⟩ (by decide +kernel) hfr hlo d hst hn hs hM k
  · exact z_callU (Y2 := YX0_deliver) (x := yX0_deliver) (owner := RX0) (CC := RX1) (T := TX1) (N := 1) (ci := 0) C lk_X0_deliver (by decide) rfl rfl hw1 t_523 t_525 t_524 hdc ⟨by decide +kernel, by decide +kernel⟩ (by decide +kernel) hfr hlo d hst hn hs hM k
  · exact z_callU (Y2 := YX0_deliver) (x := yX0_deliver) (owner := RX0) (CC := RX3) (T := TX3) (N := 1) (ci := 2) C lk_X0_deliver (by decide) rfl rfl hw1 t_523 t_526 t_524 hdc ⟨by decide +kernel, by decide +kernel⟩ (by decide +kernel) hfr hlo d hst hn hs hM k
  · exact z_callU (Y2 := YX0_deliver) (x := yX0_deliver) (owner := RX0) (CC := RX8) (T := TX8) (N := 1) (ci := 7) C lk_X0_deliver (by decide) rfl rfl hw1 t_523 t_528 t_524 hdc ⟨by decide +kernel, by decide +kernel⟩ (by decide +kernel) hfr hlo d hst hn hs hM k
  · exact z_callU (Y2 := YX0_deliver) (x := yX0_deliver) (owner := RX0) (CC := RX6) (T := TX6) (N := 1) (ci := 5) C lk_X0_deliver (by decide) rfl rfl hw1 t_523 t_527 t_524 hdc ⟨by decide +kernel, by decide +kernel⟩ (by decide +kernel) hfr hlo d hst hn hs hM k
abbrev YX0_chance : Yv := (yX0_chance, cX0_chance, 6, some .int, 2, 55)
def f_X0_chance (N : Nat) (o : Nat) (p1 : Nat) (x2 x3 x4 : Int32) (σ : Sg) : Option (Int32 × Sg) :=
  (f_X0_rank N o p1 x2 x3 σ).bind (fun r1 => if r1.1 = (-1) then (some (100, r1.2)) else (if r1.1 = (r1.2 o 0) then (some (((100 : Int32) - x4), r1.2)) else (if r1.1 = ((1 : Int32) - (r1.2 o 0)) then (some (x4, r1.2)) else (some (0, r1.2)))))
set_option maxHeartbeats 4000000 in
set_option maxRecDepth 20000 in
theorem m_X0_chance (l : Launch) (E : Ev) (N : Nat) (o : Nat) (p1 : Nat) (ho : isLa o) (hp1 : isPe p1) (x2 x3 x4 : Int32) (σ : Sg) (R : Int32 × Sg) (hf : f_X0_chance N o p1 x2 x3 x4 σ = some R) : Ct l E YX0_chance [.ref (E.2.1 o), .ref (E.2.1 p1), .int x2, .int x3, .int x4] σ (some (.int R.1), R.2) := by
  refine ct_of (by decide +kernel) (Nat.le_of_ble_eq_true rfl) [(0, .ref (E.2.1 o)), (1, .ref (E.2.1 p1)), (2, .int x2), (3, .int x3), (4, .int x4)] rfl (fun X hX C => ?_)
  unfold f_X0_chance at hf
  refine z_aload_n C dX0_chance_0 0 rfl ?_
  refine z_aload_n C dX0_chance_1 1 rfl ?_
  refine z_iload_n C dX0_chance_2 2 rfl ?_
  refine z_iload_n C dX0_chance_3 3 rfl ?_
  obtain ⟨r1, h2, hf⟩ := bd_some hf
  refine z_law_X0_rank (As := [.ref (E.2.1 p1), .int x2, .int x3]) C ho t_508 (Nat.le_of_ble_eq_true rfl) (Nat.le_of_ble_eq_true rfl) dX0_chance_4 (Nat.le_of_ble_eq_true rfl) rfl rfl (m_X0_rank X.2.1 E N o p1 ho hp1 x2 x3 σ _ h2) ?_
  change Zz E X YX0_chance (some (.int R.1), R.2) r1.2 _ _ [.int r1.1]
  refine z_istore (lv' := [(5, .int r1.1), (0, .ref (E.2.1 o)), (1, .ref (E.2.1 p1)), (2, .int x2), (3, .int x3), (4, .int x4)]) C dX0_chance_7 (by decide) rfl ?_
  refine z_iload C dX0_chance_9 0 rfl ?_
  refine z_iconst (v := (-1)) C dX0_chance_11 (by decide) ?_
  refine z_icmp_ne (tgt := 18) C dX0_chance_12 (by decide) (fun h3 => ?_) (fun h3 => ?_)
  · replace hf := ifn hf h3
    refine z_iload C dX0_chance_18 0 rfl ?_
    refine z_aload_n C dX0_chance_20 1 rfl ?_
    refine z_getLa C ho t_195 dX0_chance_21 ?_
    refine z_icmp_ne (tgt := 33) C dX0_chance_24 (by decide) (fun h4 => ?_) (fun h4 => ?_)
    · replace hf := ifn hf h4
      refine z_iload C dX0_chance_33 0 rfl ?_
      refine z_iconst (v := 1) C dX0_chance_35 (by decide) ?_
      refine z_aload_n C dX0_chance_36 1 rfl ?_
      refine z_getLa C ho t_195 dX0_chance_37 ?_
      refine z_isub C dX0_chance_40 ?_
      refine z_icmp_ne (tgt := 49) C dX0_chance_41 (by decide) (fun h5 => ?_) (fun h5 => ?_)
      · replace hf := ifn hf h5
        refine z_iconst (v := 0) C dX0_chance_49 (by decide) ?_
        exact z_iret C dX0_chance_50 rfl (by rw [← Option.some.inj hf])
      · replace hf := ifp hf h5
        refine z_iload C dX0_chance_44 5 rfl ?_
        refine z_goto (tgt := 50) C dX0_chance_46 (by decide) ?_
        exact z_iret C dX0_chance_50 rfl (by rw [← Option.some.inj hf])
    · replace hf := ifp hf h4
      refine z_bipush (v := 100) C dX0_chance_27 (by decide) ?_
      refine z_iload C dX0_chance_29 5 rfl ?_
      refine z_isub C dX0_chance_31 ?_
      exact z_iret C dX0_chance_32 rfl (by rw [← Option.some.inj hf])
  · replace hf := ifp hf h3
    refine z_bipush (v := 100) C dX0_chance_15 (by decide) ?_
    exact z_iret C dX0_chance_17 rfl (by rw [← Option.some.inj hf])
theorem lk_X0_chance {Y : Yv} : Lk Y YX0_chance 4 := ⟨t_751, t_7, ⟨by decide +kernel, by decide +kernel⟩, by decide +kernel⟩
set_option maxRecDepth 20000 in
theorem z_law_X0_chance {E : Ev} {X : Xv} {Y : Yv} {P : Pv} {σ : Sg} {pc i q : Nat} {lv : List (Nat × Value)} {As st stk : List Value} {P2 : Pv} (C : Cx E X Y) (hl : isLa q) (hw1 : Cond.methodLink Y.1.cls i yX0_chance ∈ WT) (hfr : YX0_chance.2.2.2.2.1 + 1 ≤ Y.2.2.2.2.1) (hlo : 8 + (YX0_chance.2.2.1 + 11) + YX0_chance.2.2.2.2.2 ≤ Y.2.2.2.2.2) (d : decode Y.2.1 pc = .ok (.invokevirtual i, 3)) (hst : (st.map fun v => v.category).sum ≤ 8) (hn : As.length = 4) (hs : stk = As.reverse ++ .ref (E.2.1 q) :: st) (hM : Ct X.2.1 E YX0_chance (.ref (E.2.1 q) :: As) σ P2) (k : Zz E X Y P P2.2 (pc + 3) lv (P2.1.toList ++ st)) : Zz E X Y P σ pc lv stk := by
  have hdc : va_Decl X.2.2.2.1 ⟨RX0, "chance", "(LToWhoNeeds$People;III)I"⟩ := va_Decl.of (C.2.2.2.2.2.1 _ t_744) (C.2.2.2.2.2.1 _ t_751)
  rcases hl with rfl | rfl | rfl | rfl | rfl
  · exact z_callU (Y2 := YX0_chance) (x := yX0_chance) (owner := RX0) (CC := RX10) (T := TX10) (N := 1) (ci := 9) C lk_X0_chance (by decide) rfl rfl hw1 t_744 t_750 t_745 hdc ⟨by decide +kernel, by decide +kernel⟩ (by decide +kernel) hfr hlo d hst hn hs hM k
  · exact z_callU (Y2 := YX0_chance) (x := yX0_chance) (owner := RX0) (CC := RX1) (T := TX1) (N := 1) (ci := 0) C lk_X0_chance (by decide) rfl rfl hw1 t_744 t_746 t_745 hdc ⟨by decide +kernel, by decide +kernel⟩ (by decide +kernel) hfr hlo d hst hn hs hM k
  · exact z_callU (Y2 := YX0_chance) (x := yX0_chance) (owner := RX0) (CC := RX3) (T := TX3) (N := 1) (ci := 2) C lk_X0_chance (by decide) rfl rfl hw1 t_744 t_747 t_745 hdc ⟨by decide +kernel, by decide +kernel⟩ (by decide +kernel) hfr hlo d hst hn hs hM k
  · exact z_callU (Y2 := YX0_chance) (x := yX0_chance) (owner := RX0) (CC := RX8) (T := TX8) (N := 1) (ci := 7) C lk_X0_chance (by decide) rfl rfl hw1 t_744 t_749 t_745 hdc ⟨by decide +kernel, by decide +kernel⟩ (by decide +kernel) hfr hlo d hst hn hs hM k
  · exact z_callU (Y2 := YX0_chance) (x := yX0_chance) (owner := RX0) (CC := RX6) (T := TX6) (N := 1) (ci := 5) C lk_X0_chance (by decide) rfl rfl hw1 t_744 t_748 t_745 hdc ⟨by decide +kernel, by decide +kernel⟩ (by decide +kernel) hfr hlo d hst hn hs hM k
abbrev YX5_takeFrom : Yv := (yX5_takeFrom, cX5_takeFrom, 2, none, 1, 18)
def f_X5_takeFrom (N : Nat) (o : Nat) (p1 : Nat) (σ : Sg) : Option (Sg) :=
  nm (sgs σ o 2 (σ p1 2)) (fun σ1 => nm (sgr σ1 (o + 1) (va_cpy (σ1 (p1 + 1)) (σ1 (o + 1)) 0 0 24)) (fun σ3 => nm (sgr σ3 (o + 2) (va_cpy (σ3 (p1 + 2)) (σ3 (o + 2)) 0 0 6)) (fun σ5 => some σ5)))
set_option maxHeartbeats 4000000 in
set_option maxRecDepth 20000 in
theorem m_X5_takeFrom (l : Launch) (E : Ev) (N : Nat) (o : Nat) (p1 : Nat) (ho : isPe o) (hp1 : isPe p1) (σ : Sg) (R : Sg) (hf : f_X5_takeFrom N o p1 σ = some R) : Ct l E YX5_takeFrom [.ref (E.2.1 o), .ref (E.2.1 p1)] σ (none, R) := by
  refine ct_of (by decide +kernel) (Nat.le_of_ble_eq_true rfl) [(0, .ref (E.2.1 o)), (1, .ref (E.2.1 p1))] rfl (fun X hX C => ?_)
  unfold f_X5_takeFrom at hf
  refine z_aload_n C dX5_takeFrom_0 0 rfl ?_
  refine z_aload_n C dX5_takeFrom_1 1 rfl ?_
  refine z_get (v := .int (σ p1 2)) (T := TX5) (N := 3) (ci := 4) C (lt_pe hp1) (wc_pe hp1) rfl in_X5 2 (by decide) t_46 rfl dX5_takeFrom_2 ?_
  obtain ⟨σ1, h2, hf⟩ := nm_some hf
  refine z_put (T := TX5) (N := 3) (ci := 4) (ty := .int) C tyX5 tyX5_ok nmX5 (lt_pe ho) (wc_pe ho) rfl in_X5 2 (by decide) t_46 rfl rfl rfl rfl (Nat.le_of_ble_eq_true rfl) (pw_X5_2 ho) dX5_takeFrom_5 ?_
  rw [← h2]
  refine z_aload_n C dX5_takeFrom_8 1 rfl ?_
  refine z_get (v := .ref (E.2.1 (p1 + 1))) (T := TX5) (N := 3) (ci := 4) C (lt_pe hp1) (wc_pe hp1) rfl in_X5 0 (by decide) t_41 rfl dX5_takeFrom_9 ?_
  refine z_iconst (v := 0) C dX5_takeFrom_12 (by decide) ?_
  refine z_aload_n C dX5_takeFrom_13 0 rfl ?_
  refine z_get (v := .ref (E.2.1 (o + 1))) (T := TX5) (N := 3) (ci := 4) C (lt_pe ho) (wc_pe ho) rfl in_X5 0 (by decide) t_41 rfl dX5_takeFrom_14 ?_
  refine z_iconst (v := 0) C dX5_takeFrom_17 (by decide) ?_
  refine z_aload_n C dX5_takeFrom_18 0 rfl ?_
  refine z_get (v := .ref (E.2.1 (o + 1))) (T := TX5) (N := 3) (ci := 4) C (lt_pe ho) (wc_pe ho) rfl in_X5 0 (by decide) t_41 rfl dX5_takeFrom_19 ?_
  refine z_alen (v := 24) C (ho).2.1 rfl dX5_takeFrom_22 ?_
  obtain ⟨σ3, h4, hf⟩ := nm_some hf
  refine z_copy (n := 24) C t_290 (hp1).2.1 (ho).2.1 (by decide) (by decide) (by decide) (Nat.le_of_ble_eq_true rfl) (Nat.le_of_ble_eq_true rfl) t_292 t_291 t_14 dX5_takeFrom_23 ?_
  change Zz E X YX5_takeFrom (none, R) (sgr σ1 (o + 1) (va_cpy (σ1 (p1 + 1)) (σ1 (o + 1)) 0 0 24)) _ _ _
  rw [← h4]
  refine z_aload_n C dX5_takeFrom_26 1 rfl ?_
  refine z_get (v := .ref (E.2.1 (p1 + 2))) (T := TX5) (N := 3) (ci := 4) C (lt_pe hp1) (wc_pe hp1) rfl in_X5 1 (by decide) t_45 rfl dX5_takeFrom_27 ?_
  refine z_iconst (v := 0) C dX5_takeFrom_30 (by decide) ?_
  refine z_aload_n C dX5_takeFrom_31 0 rfl ?_
  refine z_get (v := .ref (E.2.1 (o + 2))) (T := TX5) (N := 3) (ci := 4) C (lt_pe ho) (wc_pe ho) rfl in_X5 1 (by decide) t_45 rfl dX5_takeFrom_32 ?_
  refine z_iconst (v := 0) C dX5_takeFrom_35 (by decide) ?_
  refine z_aload_n C dX5_takeFrom_36 0 rfl ?_
  refine z_get (v := .ref (E.2.1 (o + 2))) (T := TX5) (N := 3) (ci := 4) C (lt_pe ho) (wc_pe ho) rfl in_X5 1 (by decide) t_45 rfl dX5_takeFrom_37 ?_
  refine z_alen (v := 6) C (ho).2.2 rfl dX5_takeFrom_40 ?_
  obtain ⟨σ5, h6, hf⟩ := nm_some hf
  refine z_copy (n := 6) C t_290 (hp1).2.2 (ho).2.2 (by decide) (by decide) (by decide) (Nat.le_of_ble_eq_true rfl) (Nat.le_of_ble_eq_true rfl) t_292 t_291 t_14 dX5_takeFrom_41 ?_
  change Zz E X YX5_takeFrom (none, R) (sgr σ3 (o + 2) (va_cpy (σ3 (p1 + 2)) (σ3 (o + 2)) 0 0 6)) _ _ _
  rw [← h6]
  exact z_vret C dX5_takeFrom_44 rfl (by rw [← Option.some.inj hf])
theorem lk_X5_takeFrom {Y : Yv} : Lk Y YX5_takeFrom 1 := ⟨t_289, t_3, ⟨by decide +kernel, by decide +kernel⟩, by decide +kernel⟩
abbrev YX4_clear : Yv := (yX4_clear, cX4_clear, 1, none, 0, 0)
def f_X4_clear (N : Nat) (o : Nat) (σ : Sg) : Option (Sg) :=
  nm (sgs σ o 1 0) (fun σ1 => some σ1)
set_option maxHeartbeats 4000000 in
set_option maxRecDepth 20000 in
theorem m_X4_clear (l : Launch) (E : Ev) (N : Nat) (o : Nat) (ho : isNu o) (σ : Sg) (R : Sg) (hf : f_X4_clear N o σ = some R) : Ct l E YX4_clear [.ref (E.2.1 o)] σ (none, R) := by
  refine ct_of (by decide +kernel) (Nat.le_of_ble_eq_true rfl) [(0, .ref (E.2.1 o))] rfl (fun X hX C => ?_)
  unfold f_X4_clear at hf
  refine z_aload_n C dX4_clear_0 0 rfl ?_
  refine z_iconst (v := 0) C dX4_clear_1 (by decide) ?_
  obtain ⟨σ1, h2, hf⟩ := nm_some hf
  refine z_put (T := TX4) (N := 2) (ci := 3) (ty := .int) C tyX4 tyX4_ok nmX4 (lt_nu ho) (wc_nu ho) rfl in_X4 1 (by decide) t_67 rfl rfl rfl rfl (Nat.le_of_ble_eq_true rfl) (pw_X4_1 ho) dX4_clear_2 ?_
  rw [← h2]
  exact z_vret C dX4_clear_5 rfl (by rw [← Option.some.inj hf])
theorem lk_X4_clear {Y : Yv} : Lk Y YX4_clear 0 := ⟨t_300, t_4, ⟨by decide +kernel, by decide +kernel⟩, by decide +kernel⟩
abbrev YX4_add : Yv := (yX4_add, cX4_add, 2, none, 0, 0)
def f_X4_add (N : Nat) (o : Nat) (x1 : Int32) (σ : Sg) : Option (Sg) :=
  if (σ o 1) < 0 then (some σ) else (if (Int32.ofNat (nln o)) ≤ (σ o 1) then (some σ) else (ga (σ o 1) (nln o) (nm (sgs σ (o + 1) (Int32.toNatClampNeg (σ o 1)) x1) (fun σ4 => nm (sgs σ4 o 1 ((σ4 o 1) + 1)) (fun σ6 => some σ6)))))
set_option maxHeartbeats 4000000 in
set_option maxRecDepth 20000 in
theorem m_X4_add (l : Launch) (E : Ev) (N : Nat) (o : Nat) (ho : isNu o) (x1 : Int32) (σ : Sg) (R : Sg) (hf : f_X4_add N o x1 σ = some R) : Ct l E YX4_add [.ref (E.2.1 o), .int x1] σ (none, R) := by
  refine ct_of (by decide +kernel) (Nat.le_of_ble_eq_true rfl) [(0, .ref (E.2.1 o)), (1, .int x1)] rfl (fun X hX C => ?_)
  unfold f_X4_add at hf
  refine z_aload_n C dX4_add_0 0 rfl ?_
  refine z_get (v := .int (σ o 1)) (T := TX4) (N := 2) (ci := 3) C (lt_nu ho) (wc_nu ho) rfl in_X4 1 (by decide) t_67 rfl dX4_add_1 ?_
  refine z_if_lt (tgt := 39) C dX4_add_4 (by decide) (fun h1 => ?_) (fun h1 => ?_)
  · replace hf := ifp hf h1
    exact z_vret C dX4_add_39 rfl (by rw [← Option.some.inj hf])
  · replace hf := ifn hf h1
    refine z_aload_n C dX4_add_7 0 rfl ?_
    refine z_get (v := .int (σ o 1)) (T := TX4) (N := 2) (ci := 3) C (lt_nu ho) (wc_nu ho) rfl in_X4 1 (by decide) t_67 rfl dX4_add_8 ?_
    refine z_aload_n C dX4_add_11 0 rfl ?_
    refine z_get (v := .ref (E.2.1 (o + 1))) (T := TX4) (N := 2) (ci := 3) C (lt_nu ho) (wc_nu ho) rfl in_X4 0 (by decide) t_66 rfl dX4_add_12 ?_
    refine z_alen (v := (Int32.ofNat (nln o))) C (ho).2 rfl dX4_add_15 ?_
    refine z_icmp_ge (tgt := 39) C dX4_add_16 (by decide) (fun h2 => ?_) (fun h2 => ?_)
    · replace hf := ifp hf h2
      exact z_vret C dX4_add_39 rfl (by rw [← Option.some.inj hf])
    · replace hf := ifn hf h2
      refine z_aload_n C dX4_add_19 0 rfl ?_
      refine z_get (v := .ref (E.2.1 (o + 1))) (T := TX4) (N := 2) (ci := 3) C (lt_nu ho) (wc_nu ho) rfl in_X4 0 (by decide) t_66 rfl dX4_add_20 ?_
      refine z_aload_n C dX4_add_23 0 rfl ?_
      refine z_get (v := .int (σ o 1)) (T := TX4) (N := 2) (ci := 3) C (lt_nu ho) (wc_nu ho) rfl in_X4 1 (by decide) t_67 rfl dX4_add_24 ?_
      refine z_iload_n C dX4_add_27 1 rfl ?_
      obtain ⟨h3, hf⟩ := ga_some hf
      obtain ⟨σ4, h5, hf⟩ := nm_some hf
      refine z_iast C (ho).2 h3 dX4_add_28 ?_
      rw [← h5]
      refine z_aload_n C dX4_add_29 0 rfl ?_
      refine z_dup C dX4_add_30 rfl ?_
      refine z_get (v := .int (σ4 o 1)) (T := TX4) (N := 2) (ci := 3) C (lt_nu ho) (wc_nu ho) rfl in_X4 1 (by decide) t_67 rfl dX4_add_31 ?_
      refine z_iconst (v := 1) C dX4_add_34 (by decide) ?_
      refine z_iadd C dX4_add_35 ?_
      obtain ⟨σ6, h7, hf⟩ := nm_some hf
      refine z_put (T := TX4) (N := 2) (ci := 3) (ty := .int) C tyX4 tyX4_ok nmX4 (lt_nu ho) (wc_nu ho) rfl in_X4 1 (by decide) t_67 rfl rfl rfl rfl (Nat.le_of_ble_eq_true rfl) (pw_X4_1 ho) dX4_add_36 ?_
      rw [← h7]
      exact z_vret C dX4_add_39 rfl (by rw [← Option.some.inj hf])
theorem lk_X4_add {Y : Yv} : Lk Y YX4_add 1 := ⟨t_273, t_4, ⟨by decide +kernel, by decide +kernel⟩, by decide +kernel⟩
abbrev YX4_get : Yv := (yX4_get, cX4_get, 2, some .int, 0, 0)
def f_X4_get (N : Nat) (o : Nat) (x1 : Int32) (σ : Sg) : Option (Int32 × Sg) :=
  if x1 < 0 then (some ((-1), σ)) else (if (σ o 1) ≤ x1 then (some ((-1), σ)) else (if (Int32.ofNat (nln o)) ≤ x1 then (some ((-1), σ)) else (ga x1 (nln o) (some ((σ (o + 1) (Int32.toNatClampNeg x1)), σ)))))
set_option maxHeartbeats 4000000 in
set_option maxRecDepth 20000 in
theorem m_X4_get (l : Launch) (E : Ev) (N : Nat) (o : Nat) (ho : isNu o) (x1 : Int32) (σ : Sg) (R : Int32 × Sg) (hf : f_X4_get N o x1 σ = some R) : Ct l E YX4_get [.ref (E.2.1 o), .int x1] σ (some (.int R.1), R.2) := by
  refine ct_of (by decide +kernel) (Nat.le_of_ble_eq_true rfl) [(0, .ref (E.2.1 o)), (1, .int x1)] rfl (fun X hX C => ?_)
  unfold f_X4_get at hf
  refine z_iload_n C dX4_get_0 1 rfl ?_
  refine z_if_lt (tgt := 30) C dX4_get_1 (by decide) (fun h1 => ?_) (fun h1 => ?_)
  · replace hf := ifp hf h1
    refine z_iconst (v := (-1)) C dX4_get_30 (by decide) ?_
    exact z_iret C dX4_get_31 rfl (by rw [← Option.some.inj hf])
  · replace hf := ifn hf h1
    refine z_iload_n C dX4_get_4 1 rfl ?_
    refine z_aload_n C dX4_get_5 0 rfl ?_
    refine z_get (v := .int (σ o 1)) (T := TX4) (N := 2) (ci := 3) C (lt_nu ho) (wc_nu ho) rfl in_X4 1 (by decide) t_67 rfl dX4_get_6 ?_
    refine z_icmp_ge (tgt := 30) C dX4_get_9 (by decide) (fun h2 => ?_) (fun h2 => ?_)
    · replace hf := ifp hf h2
      refine z_iconst (v := (-1)) C dX4_get_30 (by decide) ?_
      exact z_iret C dX4_get_31 rfl (by rw [← Option.some.inj hf])
    · replace hf := ifn hf h2
      refine z_iload_n C dX4_get_12 1 rfl ?_
      refine z_aload_n C dX4_get_13 0 rfl ?_
      refine z_get (v := .ref (E.2.1 (o + 1))) (T := TX4) (N := 2) (ci := 3) C (lt_nu ho) (wc_nu ho) rfl in_X4 0 (by decide) t_66 rfl dX4_get_14 ?_
      refine z_alen (v := (Int32.ofNat (nln o))) C (ho).2 rfl dX4_get_17 ?_
      refine z_icmp_ge (tgt := 30) C dX4_get_18 (by decide) (fun h3 => ?_) (fun h3 => ?_)
      · replace hf := ifp hf h3
        refine z_iconst (v := (-1)) C dX4_get_30 (by decide) ?_
        exact z_iret C dX4_get_31 rfl (by rw [← Option.some.inj hf])
      · replace hf := ifn hf h3
        refine z_aload_n C dX4_get_21 0 rfl ?_
        refine z_get (v := .ref (E.2.1 (o + 1))) (T := TX4) (N := 2) (ci := 3) C (lt_nu ho) (wc_nu ho) rfl in_X4 0 (by decide) t_66 rfl dX4_get_22 ?_
        refine z_iload_n C dX4_get_25 1 rfl ?_
        obtain ⟨h4, hf⟩ := ga_some hf
        refine z_iald C (ho).2 h4 dX4_get_26 ?_
        refine z_goto (tgt := 31) C dX4_get_27 (by decide) ?_
        exact z_iret C dX4_get_31 rfl (by rw [← Option.some.inj hf])
theorem lk_X4_get {Y : Yv} : Lk Y YX4_get 1 := ⟨t_304, t_4, ⟨by decide +kernel, by decide +kernel⟩, by decide +kernel⟩
abbrev YX5_total : Yv := (yX5_total, cX5_total, 3, some .int, 0, 0)
def f_X5_total_B4 (N : Nat) (o : Nat) (rec : Int32 → Int32 → Sg → Option (Int32 × Sg)) (a1 a2 : Int32) (σ : Sg) : Option (Int32 × Sg) :=
  if 24 ≤ a2 then (some (a1, σ)) else (ga a2 24 (nm (a1 + (σ (o + 1) (Int32.toNatClampNeg a2))) (fun v3 => rec v3 (a2 + 1) σ)))
def f_X5_total_L4 (N : Nat) (o : Nat) : Nat → Int32 → Int32 → Sg → Option (Int32 × Sg)
  | 0 => fun _ _ _ => none
  | k + 1 => fun a1 a2 σ => f_X5_total_B4 N o (f_X5_total_L4 N o k) a1 a2 σ
def f_X5_total (N : Nat) (o : Nat) (σ : Sg) : Option (Int32 × Sg) :=
  (f_X5_total_L4 N o N 0 0 σ).bind (fun s5 => some (s5.1, s5.2))
set_option maxHeartbeats 4000000 in
set_option maxRecDepth 20000 in
theorem m_X5_total (l : Launch) (E : Ev) (N : Nat) (o : Nat) (ho : isPe o) (σ : Sg) (R : Int32 × Sg) (hf : f_X5_total N o σ = some R) : Ct l E YX5_total [.ref (E.2.1 o)] σ (some (.int R.1), R.2) := by
  refine ct_of (by decide +kernel) (Nat.le_of_ble_eq_true rfl) [(0, .ref (E.2.1 o))] rfl (fun X hX C => ?_)
  have hL4 : ∀ (k : Nat) (a1 a2 : Int32) (σ : Sg) (Q4 : Int32 × Sg), f_X5_total_L4 N o k a1 a2 σ = some Q4 → (Zz E X YX5_total (some (.int R.1), R.2) Q4.2 28 [(1, .int Q4.1)] []) → Zz E X YX5_total (some (.int R.1), R.2) σ 4 [(0, .ref (E.2.1 o)), (1, .int a1), (2, .int a2)] [] := by
    intro k
    induction k with
    | zero =>
      intro a1 a2 σ Q4 hf
      have hf : (none : Option (Int32 × Sg)) = some Q4 := hf
      cases hf
    | succ k ih =>
      intro a1 a2 σ Q4 hf hx4
      have hf : f_X5_total_B4 N o (f_X5_total_L4 N o k) a1 a2 σ = some Q4 := hf
      unfold f_X5_total_B4 at hf
      refine z_iload_n C dX5_total_4 2 rfl ?_
      refine z_aload_n C dX5_total_5 0 rfl ?_
      refine z_get (v := .ref (E.2.1 (o + 1))) (T := TX5) (N := 3) (ci := 4) C (lt_pe ho) (wc_pe ho) rfl in_X5 0 (by decide) t_41 rfl dX5_total_6 ?_
      refine z_alen (v := 24) C (ho).2.1 rfl dX5_total_9 ?_
      refine z_icmp_ge (tgt := 28) C dX5_total_10 (by decide) (fun h1 => ?_) (fun h1 => ?_)
      · replace hf := ifp hf h1
        refine z_sub [(1, .int a1)] [1] rfl ?_
        obtain rfl := Option.some.inj hf
        exact hx4
      · replace hf := ifn hf h1
        refine z_iload_n C dX5_total_13 1 rfl ?_
        refine z_aload_n C dX5_total_14 0 rfl ?_
        refine z_get (v := .ref (E.2.1 (o + 1))) (T := TX5) (N := 3) (ci := 4) C (lt_pe ho) (wc_pe ho) rfl in_X5 0 (by decide) t_41 rfl dX5_total_15 ?_
        refine z_iload_n C dX5_total_18 2 rfl ?_
        obtain ⟨h2, hf⟩ := ga_some hf
        refine z_iald C (ho).2.1 h2 dX5_total_19 ?_
        refine z_iadd C dX5_total_20 ?_
        obtain ⟨v3, h4, hf⟩ := nm_some hf
        rw [← h4]
        refine z_istore_n (lv' := [(1, .int v3), (0, .ref (E.2.1 o)), (2, .int a2)]) C dX5_total_21 (by decide) rfl ?_
        refine z_iinc (v := (a2 + 1)) (lv' := [(2, .int (a2 + 1)), (1, .int v3), (0, .ref (E.2.1 o))]) C dX5_total_22 2 rfl rfl (by decide) rfl ?_
        refine z_goto (tgt := 4) C dX5_total_25 (by decide) ?_
        refine z_sub [(0, .ref (E.2.1 o)), (1, .int v3), (2, .int (a2 + 1))] [2, 1, 0] rfl ?_
        exact ih v3 (a2 + 1) σ _ hf hx4
  unfold f_X5_total at hf
  refine z_iconst (v := 0) C dX5_total_0 (by decide) ?_
  refine z_istore_n (lv' := [(1, .int 0), (0, .ref (E.2.1 o))]) C dX5_total_1 (by decide) rfl ?_
  refine z_iconst (v := 0) C dX5_total_2 (by decide) ?_
  refine z_istore_n (lv' := [(2, .int 0), (1, .int 0), (0, .ref (E.2.1 o))]) C dX5_total_3 (by decide) rfl ?_
  refine z_sub [(0, .ref (E.2.1 o)), (1, .int 0), (2, .int 0)] [2, 1, 0] rfl ?_
  obtain ⟨s5, h6, hf⟩ := bd_some hf
  refine hL4 N 0 0 σ _ h6 ?_
  refine z_iload_n C dX5_total_28 0 rfl ?_
  exact z_iret C dX5_total_29 rfl (by rw [← Option.some.inj hf])
theorem lk_X5_total {Y : Yv} : Lk Y YX5_total 0 := ⟨t_565, t_3, ⟨by decide +kernel, by decide +kernel⟩, by decide +kernel⟩
abbrev YX4_set : Yv := (yX4_set, cX4_set, 3, none, 0, 0)
def f_X4_set (N : Nat) (o : Nat) (x1 x2 : Int32) (σ : Sg) : Option (Sg) :=
  if x1 < 0 then (some σ) else (if (σ o 1) ≤ x1 then (some σ) else (if (Int32.ofNat (nln o)) ≤ x1 then (some σ) else (ga x1 (nln o) (nm (sgs σ (o + 1) (Int32.toNatClampNeg x1) x2) (fun σ5 => some σ5)))))
set_option maxHeartbeats 4000000 in
set_option maxRecDepth 20000 in
theorem m_X4_set (l : Launch) (E : Ev) (N : Nat) (o : Nat) (ho : isNu o) (x1 x2 : Int32) (σ : Sg) (R : Sg) (hf : f_X4_set N o x1 x2 σ = some R) : Ct l E YX4_set [.ref (E.2.1 o), .int x1, .int x2] σ (none, R) := by
  refine ct_of (by decide +kernel) (Nat.le_of_ble_eq_true rfl) [(0, .ref (E.2.1 o)), (1, .int x1), (2, .int x2)] rfl (fun X hX C => ?_)
  unfold f_X4_set at hf
  refine z_iload_n C dX4_set_0 1 rfl ?_
  refine z_if_lt (tgt := 28) C dX4_set_1 (by decide) (fun h1 => ?_) (fun h1 => ?_)
  · replace hf := ifp hf h1
    exact z_vret C dX4_set_28 rfl (by rw [← Option.some.inj hf])
  · replace hf := ifn hf h1
    refine z_iload_n C dX4_set_4 1 rfl ?_
    refine z_aload_n C dX4_set_5 0 rfl ?_
    refine z_get (v := .int (σ o 1)) (T := TX4) (N := 2) (ci := 3) C (lt_nu ho) (wc_nu ho) rfl in_X4 1 (by decide) t_67 rfl dX4_set_6 ?_
    refine z_icmp_ge (tgt := 28) C dX4_set_9 (by decide) (fun h2 => ?_) (fun h2 => ?_)
    · replace hf := ifp hf h2
      exact z_vret C dX4_set_28 rfl (by rw [← Option.some.inj hf])
    · replace hf := ifn hf h2
      refine z_iload_n C dX4_set_12 1 rfl ?_
      refine z_aload_n C dX4_set_13 0 rfl ?_
      refine z_get (v := .ref (E.2.1 (o + 1))) (T := TX4) (N := 2) (ci := 3) C (lt_nu ho) (wc_nu ho) rfl in_X4 0 (by decide) t_66 rfl dX4_set_14 ?_
      refine z_alen (v := (Int32.ofNat (nln o))) C (ho).2 rfl dX4_set_17 ?_
      refine z_icmp_ge (tgt := 28) C dX4_set_18 (by decide) (fun h3 => ?_) (fun h3 => ?_)
      · replace hf := ifp hf h3
        exact z_vret C dX4_set_28 rfl (by rw [← Option.some.inj hf])
      · replace hf := ifn hf h3
        refine z_aload_n C dX4_set_21 0 rfl ?_
        refine z_get (v := .ref (E.2.1 (o + 1))) (T := TX4) (N := 2) (ci := 3) C (lt_nu ho) (wc_nu ho) rfl in_X4 0 (by decide) t_66 rfl dX4_set_22 ?_
        refine z_iload_n C dX4_set_25 1 rfl ?_
        refine z_iload_n C dX4_set_26 2 rfl ?_
        obtain ⟨h4, hf⟩ := ga_some hf
        obtain ⟨σ5, h6, hf⟩ := nm_some hf
        refine z_iast C (ho).2 h4 dX4_set_27 ?_
        rw [← h6]
        exact z_vret C dX4_set_28 rfl (by rw [← Option.some.inj hf])
theorem lk_X4_set {Y : Yv} : Lk Y YX4_set 2 := ⟨t_437, t_4, ⟨by decide +kernel, by decide +kernel⟩, by decide +kernel⟩
abbrev YX4_takeFrom : Yv := (yX4_takeFrom, cX4_takeFrom, 3, none, 1, 21)
def f_X4_takeFrom_B6 (N : Nat) (o : Nat) (p1 : Nat) (rec : Int32 → Sg → Option (Sg)) (a2 : Int32) (σ : Sg) : Option (Sg) :=
  if (σ p1 1) ≤ a2 then (some σ) else ((f_X4_get N p1 a2 σ).bind (fun r4 => (f_X4_add N o r4.1 r4.2).bind (fun r6 => rec (a2 + 1) r6)))
def f_X4_takeFrom_L6 (N : Nat) (o : Nat) (p1 : Nat) : Nat → Int32 → Sg → Option (Sg)
  | 0 => fun _ _ => none
  | k + 1 => fun a2 σ => f_X4_takeFrom_B6 N o p1 (f_X4_takeFrom_L6 N o p1 k) a2 σ
def f_X4_takeFrom (N : Nat) (o : Nat) (p1 : Nat) (σ : Sg) : Option (Sg) :=
  (f_X4_clear N o σ).bind (fun r1 => (f_X4_takeFrom_L6 N o p1 N 0 r1).bind (fun s8 => some s8))
set_option maxHeartbeats 4000000 in
set_option maxRecDepth 20000 in
theorem m_X4_takeFrom (l : Launch) (E : Ev) (N : Nat) (o : Nat) (p1 : Nat) (ho : isNu o) (hp1 : isNu p1) (σ : Sg) (R : Sg) (hf : f_X4_takeFrom N o p1 σ = some R) : Ct l E YX4_takeFrom [.ref (E.2.1 o), .ref (E.2.1 p1)] σ (none, R) := by
  refine ct_of (by decide +kernel) (Nat.le_of_ble_eq_true rfl) [(0, .ref (E.2.1 o)), (1, .ref (E.2.1 p1))] rfl (fun X hX C => ?_)
  have hL6 : ∀ (k : Nat) (a2 : Int32) (σ : Sg) (Q6 : Sg), f_X4_takeFrom_L6 N o p1 k a2 σ = some Q6 → (Zz E X YX4_takeFrom (none, R) Q6 29 [] []) → Zz E X YX4_takeFrom (none, R) σ 6 [(0, .ref (E.2.1 o)), (1, .ref (E.2.1 p1)), (2, .int a2)] [] := by
    intro k
    induction k with
    | zero =>
      intro a2 σ Q6 hf
      have hf : (none : Option (Sg)) = some Q6 := hf
      cases hf
    | succ k ih =>
      intro a2 σ Q6 hf hx6
      have hf : f_X4_takeFrom_B6 N o p1 (f_X4_takeFrom_L6 N o p1 k) a2 σ = some Q6 := hf
      unfold f_X4_takeFrom_B6 at hf
      refine z_iload_n C dX4_takeFrom_6 2 rfl ?_
      refine z_aload_n C dX4_takeFrom_7 1 rfl ?_
      refine z_get (v := .int (σ p1 1)) (T := TX4) (N := 2) (ci := 3) C (lt_nu hp1) (wc_nu hp1) rfl in_X4 1 (by decide) t_67 rfl dX4_takeFrom_8 ?_
      refine z_icmp_ge (tgt := 29) C dX4_takeFrom_11 (by decide) (fun h3 => ?_) (fun h3 => ?_)
      · replace hf := ifp hf h3
        refine z_sub [] [] rfl ?_
        obtain rfl := Option.some.inj hf
        exact hx6
      · replace hf := ifn hf h3
        refine z_aload_n C dX4_takeFrom_14 0 rfl ?_
        refine z_aload_n C dX4_takeFrom_15 1 rfl ?_
        refine z_iload_n C dX4_takeFrom_16 2 rfl ?_
        obtain ⟨r4, h5, hf⟩ := bd_some hf
        refine z_callV (Y2 := YX4_get) (CC := RX4) (T := TX4) (N := 2) (ci := 3) (As := [.int a2]) C lk_X4_get (lt_nu hp1) (wc_nu hp1) rfl t_301 t_302 t_303 (Nat.le_of_ble_eq_true rfl) (Nat.le_of_ble_eq_true rfl) dX4_takeFrom_17 (Nat.le_of_ble_eq_true rfl) rfl rfl (m_X4_get X.2.1 E N p1 hp1 a2 σ _ h5) ?_
        change Zz E X YX4_takeFrom (none, R) r4.2 _ _ [.int r4.1, .ref (E.2.1 o)]
        obtain ⟨r6, h7, hf⟩ := bd_some hf
        refine z_callV (Y2 := YX4_add) (CC := RX4) (T := TX4) (N := 2) (ci := 3) (As := [.int r4.1]) C lk_X4_add (lt_nu ho) (wc_nu ho) rfl t_305 t_271 t_272 (Nat.le_of_ble_eq_true rfl) (Nat.le_of_ble_eq_true rfl) dX4_takeFrom_20 (Nat.le_of_ble_eq_true rfl) rfl rfl (m_X4_add X.2.1 E N o ho r4.1 r4.2 _ h7) ?_
        change Zz E X YX4_takeFrom (none, R) r6 _ _ []
        refine z_iinc (v := (a2 + 1)) (lv' := [(2, .int (a2 + 1)), (0, .ref (E.2.1 o)), (1, .ref (E.2.1 p1))]) C dX4_takeFrom_23 2 rfl rfl (by decide) rfl ?_
        refine z_goto (tgt := 6) C dX4_takeFrom_26 (by decide) ?_
        refine z_sub [(0, .ref (E.2.1 o)), (1, .ref (E.2.1 p1)), (2, .int (a2 + 1))] [1, 2, 0] rfl ?_
        exact ih (a2 + 1) r6 _ hf hx6
  unfold f_X4_takeFrom at hf
  refine z_aload_n C dX4_takeFrom_0 0 rfl ?_
  obtain ⟨r1, h2, hf⟩ := bd_some hf
  refine z_callV (Y2 := YX4_clear) (CC := RX4) (T := TX4) (N := 2) (ci := 3) (As := []) C lk_X4_clear (lt_nu ho) (wc_nu ho) rfl t_297 t_298 t_299 (Nat.le_of_ble_eq_true rfl) (Nat.le_of_ble_eq_true rfl) dX4_takeFrom_1 (Nat.le_of_ble_eq_true rfl) rfl rfl (m_X4_clear X.2.1 E N o ho σ _ h2) ?_
  change Zz E X YX4_takeFrom (none, R) r1 _ _ []
  refine z_iconst (v := 0) C dX4_takeFrom_4 (by decide) ?_
  refine z_istore_n (lv' := [(2, .int 0), (0, .ref (E.2.1 o)), (1, .ref (E.2.1 p1))]) C dX4_takeFrom_5 (by decide) rfl ?_
  refine z_sub [(0, .ref (E.2.1 o)), (1, .ref (E.2.1 p1)), (2, .int 0)] [1, 2, 0] rfl ?_
  obtain ⟨s8, h9, hf⟩ := bd_some hf
  refine hL6 N 0 r1 _ h9 ?_
  exact z_vret C dX4_takeFrom_29 rfl (by rw [← Option.some.inj hf])
theorem lk_X4_takeFrom {Y : Yv} : Lk Y YX4_takeFrom 1 := ⟨t_296, t_4, ⟨by decide +kernel, by decide +kernel⟩, by decide +kernel⟩
abbrev YJ6_bitCount_0f7a4 : Yv := (yJ6_bitCount_0f7a4, cJ6_bitCount_0f7a4, 1, some .int, 0, 0)
def f_J6_bitCount_0f7a4 (N : Nat) (x1 : Int32) (σ : Sg) : Option (Int32 × Sg) :=
  nm (x1 - ((jushr x1 1) &&& 1431655765)) (fun v1 => nm ((v1 &&& 858993459) + ((jushr v1 2) &&& 858993459)) (fun v3 => nm ((v3 + (jushr v3 4)) &&& 252645135) (fun v5 => nm ((v5 + (jushr v5 8)) + (jushr (v5 + (jushr v5 8)) 16)) (fun v7 => some ((v7 &&& 63), σ)))))
set_option maxHeartbeats 4000000 in
set_option maxRecDepth 20000 in
theorem m_J6_bitCount_0f7a4 (l : Launch) (E : Ev) (N : Nat) (x1 : Int32) (σ : Sg) (R : Int32 × Sg) (hf : f_J6_bitCount_0f7a4 N x1 σ = some R) : Ct l E YJ6_bitCount_0f7a4 [.int x1] σ (some (.int R.1), R.2) := by
  refine ct_of (by decide +kernel) (Nat.le_of_ble_eq_true rfl) [(0, .int x1)] rfl (fun X hX C => ?_)
  unfold f_J6_bitCount_0f7a4 at hf
  refine z_iload_n C dJ6_bitCount_0f7a4_0 0 rfl ?_
  refine z_iload_n C dJ6_bitCount_0f7a4_1 0 rfl ?_
  refine z_iconst (v := 1) C dJ6_bitCount_0f7a4_2 (by decide) ?_
  refine z_iushr C dJ6_bitCount_0f7a4_3 ?_
  refine z_ldcw (v := 1431655765) C dJ6_bitCount_0f7a4_4 t_694 ?_
  refine z_iand C dJ6_bitCount_0f7a4_7 ?_
  refine z_isub C dJ6_bitCount_0f7a4_8 ?_
  obtain ⟨v1, h2, hf⟩ := nm_some hf
  rw [← h2]
  refine z_istore_n (lv' := [(0, .int v1)]) C dJ6_bitCount_0f7a4_9 (by decide) rfl ?_
  refine z_iload_n C dJ6_bitCount_0f7a4_10 0 rfl ?_
  refine z_ldcw (v := 858993459) C dJ6_bitCount_0f7a4_11 t_695 ?_
  refine z_iand C dJ6_bitCount_0f7a4_14 ?_
  refine z_iload_n C dJ6_bitCount_0f7a4_15 0 rfl ?_
  refine z_iconst (v := 2) C dJ6_bitCount_0f7a4_16 (by decide) ?_
  refine z_iushr C dJ6_bitCount_0f7a4_17 ?_
  refine z_ldcw (v := 858993459) C dJ6_bitCount_0f7a4_18 t_695 ?_
  refine z_iand C dJ6_bitCount_0f7a4_21 ?_
  refine z_iadd C dJ6_bitCount_0f7a4_22 ?_
  obtain ⟨v3, h4, hf⟩ := nm_some hf
  rw [← h4]
  refine z_istore_n (lv' := [(0, .int v3)]) C dJ6_bitCount_0f7a4_23 (by decide) rfl ?_
  refine z_iload_n C dJ6_bitCount_0f7a4_24 0 rfl ?_
  refine z_iload_n C dJ6_bitCount_0f7a4_25 0 rfl ?_
  refine z_iconst (v := 4) C dJ6_bitCount_0f7a4_26 (by decide) ?_
  refine z_iushr C dJ6_bitCount_0f7a4_27 ?_
  refine z_iadd C dJ6_bitCount_0f7a4_28 ?_
  refine z_ldcw (v := 252645135) C dJ6_bitCount_0f7a4_29 t_696 ?_
  refine z_iand C dJ6_bitCount_0f7a4_32 ?_
  obtain ⟨v5, h6, hf⟩ := nm_some hf
  rw [← h6]
  refine z_istore_n (lv' := [(0, .int v5)]) C dJ6_bitCount_0f7a4_33 (by decide) rfl ?_
  refine z_iload_n C dJ6_bitCount_0f7a4_34 0 rfl ?_
  refine z_iload_n C dJ6_bitCount_0f7a4_35 0 rfl ?_
  refine z_bipush (v := 8) C dJ6_bitCount_0f7a4_36 (by decide) ?_
  refine z_iushr C dJ6_bitCount_0f7a4_38 ?_
  refine z_iadd C dJ6_bitCount_0f7a4_39 ?_
  refine z_istore_n (lv' := [(0, .int (v5 + (jushr v5 8)))]) C dJ6_bitCount_0f7a4_40 (by decide) rfl ?_
  refine z_iload_n C dJ6_bitCount_0f7a4_41 0 rfl ?_
  refine z_iload_n C dJ6_bitCount_0f7a4_42 0 rfl ?_
  refine z_bipush (v := 16) C dJ6_bitCount_0f7a4_43 (by decide) ?_
  refine z_iushr C dJ6_bitCount_0f7a4_45 ?_
  refine z_iadd C dJ6_bitCount_0f7a4_46 ?_
  obtain ⟨v7, h8, hf⟩ := nm_some hf
  rw [← h8]
  refine z_istore_n (lv' := [(0, .int v7)]) C dJ6_bitCount_0f7a4_47 (by decide) rfl ?_
  refine z_iload_n C dJ6_bitCount_0f7a4_48 0 rfl ?_
  refine z_bipush (v := 63) C dJ6_bitCount_0f7a4_49 (by decide) ?_
  refine z_iand C dJ6_bitCount_0f7a4_51 ?_
  exact z_iret C dJ6_bitCount_0f7a4_52 rfl (by rw [← Option.some.inj hf])
theorem lk_J6_bitCount_0f7a4 {Y : Yv} : Lk Y YJ6_bitCount_0f7a4 1 := ⟨t_693, t_20, ⟨by decide +kernel, by decide +kernel⟩, by decide +kernel⟩
abbrev YX5_grow : Yv := (yX5_grow, cX5_grow, 3, none, 2, 40)
def f_X5_grow_B21 (N : Nat) (o : Nat) (rec : Int32 → Int32 → Sg → Option (Int32 × Sg)) (a1 a2 : Int32) (σ : Sg) : Option (Int32 × Sg) :=
  if 4 ≤ a2 then (some (a1, σ)) else ((f_X5_lack N o a1 a2 σ).bind (fun r4 => ga a1 6 ((f_X5_setLack N o a1 a2 (r4.1 + (r4.2 (o + 2) (Int32.toNatClampNeg a1))) r4.2).bind (fun r7 => rec a1 (a2 + 1) r7))))
def f_X5_grow_L21 (N : Nat) (o : Nat) : Nat → Int32 → Int32 → Sg → Option (Int32 × Sg)
  | 0 => fun _ _ _ => none
  | k + 1 => fun a1 a2 σ => f_X5_grow_B21 N o (f_X5_grow_L21 N o k) a1 a2 σ
def f_X5_grow_B2 (N : Nat) (o : Nat) (rec : Int32 → Sg → Option (Sg)) (a1 : Int32) (σ : Sg) : Option (Sg) :=
  if (σ o 2) ≤ a1 then (some σ) else (if 6 ≤ a1 then (some σ) else ((f_X5_grow_L21 N o N a1 0 σ).bind (fun s9 => rec (s9.1 + 1) s9.2)))
def f_X5_grow_L2 (N : Nat) (o : Nat) : Nat → Int32 → Sg → Option (Sg)
  | 0 => fun _ _ => none
  | k + 1 => fun a1 σ => f_X5_grow_B2 N o (f_X5_grow_L2 N o k) a1 σ
def f_X5_grow (N : Nat) (o : Nat) (σ : Sg) : Option (Sg) :=
  (f_X5_grow_L2 N o N 0 σ).bind (fun s11 => some s11)
set_option maxHeartbeats 4000000 in
set_option maxRecDepth 20000 in
theorem m_X5_grow (l : Launch) (E : Ev) (N : Nat) (o : Nat) (ho : isPe o) (σ : Sg) (R : Sg) (hf : f_X5_grow N o σ = some R) : Ct l E YX5_grow [.ref (E.2.1 o)] σ (none, R) := by
  refine ct_of (by decide +kernel) (Nat.le_of_ble_eq_true rfl) [(0, .ref (E.2.1 o))] rfl (fun X hX C => ?_)
  have hL21 : ∀ (k : Nat) (a1 a2 : Int32) (σ : Sg) (Q21 : Int32 × Sg), f_X5_grow_L21 N o k a1 a2 σ = some Q21 → (Zz E X YX5_grow (none, R) Q21.2 51 [(0, .ref (E.2.1 o)), (1, .int Q21.1)] []) → Zz E X YX5_grow (none, R) σ 21 [(0, .ref (E.2.1 o)), (1, .int a1), (2, .int a2)] [] := by
    intro k
    induction k with
    | zero =>
      intro a1 a2 σ Q21 hf
      have hf : (none : Option (Int32 × Sg)) = some Q21 := hf
      cases hf
    | succ k ih =>
      intro a1 a2 σ Q21 hf hx21
      have hf : f_X5_grow_B21 N o (f_X5_grow_L21 N o k) a1 a2 σ = some Q21 := hf
      unfold f_X5_grow_B21 at hf
      refine z_iload_n C dX5_grow_21 2 rfl ?_
      refine z_iconst (v := 4) C dX5_grow_22 (by decide) ?_
      refine z_icmp_ge (tgt := 51) C dX5_grow_23 (by decide) (fun h3 => ?_) (fun h3 => ?_)
      · replace hf := ifp hf h3
        refine z_sub [(0, .ref (E.2.1 o)), (1, .int a1)] [0, 1] rfl ?_
        obtain rfl := Option.some.inj hf
        exact hx21
      · replace hf := ifn hf h3
        refine z_aload_n C dX5_grow_26 0 rfl ?_
        refine z_iload_n C dX5_grow_27 1 rfl ?_
        refine z_iload_n C dX5_grow_28 2 rfl ?_
        refine z_aload_n C dX5_grow_29 0 rfl ?_
        refine z_iload_n C dX5_grow_30 1 rfl ?_
        refine z_iload_n C dX5_grow_31 2 rfl ?_
        obtain ⟨r4, h5, hf⟩ := bd_some hf
        refine z_callV (Y2 := YX5_lack) (CC := RX5) (T := TX5) (N := 3) (ci := 4) (As := [.int a1, .int a2]) C lk_X5_lack (lt_pe ho) (wc_pe ho) rfl t_552 t_450 t_451 (Nat.le_of_ble_eq_true rfl) (Nat.le_of_ble_eq_true rfl) dX5_grow_32 (Nat.le_of_ble_eq_true rfl) rfl rfl (m_X5_lack X.2.1 E N o ho a1 a2 σ _ h5) ?_
        change Zz E X YX5_grow (none, R) r4.2 _ _ [.int r4.1, .int a2, .int a1, .ref (E.2.1 o)]
        refine z_aload_n C dX5_grow_35 0 rfl ?_
        refine z_get (v := .ref (E.2.1 (o + 2))) (T := TX5) (N := 3) (ci := 4) C (lt_pe ho) (wc_pe ho) rfl in_X5 1 (by decide) t_45 rfl dX5_grow_36 ?_
        refine z_iload_n C dX5_grow_39 1 rfl ?_
        obtain ⟨h6, hf⟩ := ga_some hf
        refine z_iald C (ho).2.2 h6 dX5_grow_40 ?_
        refine z_iadd C dX5_grow_41 ?_
        obtain ⟨r7, h8, hf⟩ := bd_some hf
        refine z_callV (Y2 := YX5_setLack) (CC := RX5) (T := TX5) (N := 3) (ci := 4) (As := [.int a1, .int a2, .int (r4.1 + (r4.2 (o + 2) (Int32.toNatClampNeg a1)))]) C lk_X5_setLack (lt_pe ho) (wc_pe ho) rfl t_553 t_409 t_410 (Nat.le_of_ble_eq_true rfl) (Nat.le_of_ble_eq_true rfl) dX5_grow_42 (Nat.le_of_ble_eq_true rfl) rfl rfl (m_X5_setLack X.2.1 E N o ho a1 a2 (r4.1 + (r4.2 (o + 2) (Int32.toNatClampNeg a1))) r4.2 _ h8) ?_
        change Zz E X YX5_grow (none, R) r7 _ _ []
        refine z_iinc (v := (a2 + 1)) (lv' := [(2, .int (a2 + 1)), (0, .ref (E.2.1 o)), (1, .int a1)]) C dX5_grow_45 2 rfl rfl (by decide) rfl ?_
        refine z_goto (tgt := 21) C dX5_grow_48 (by decide) ?_
        refine z_sub [(0, .ref (E.2.1 o)), (1, .int a1), (2, .int (a2 + 1))] [1, 2, 0] rfl ?_
        exact ih a1 (a2 + 1) r7 _ hf hx21
  have hL2 : ∀ (k : Nat) (a1 : Int32) (σ : Sg) (Q2 : Sg), f_X5_grow_L2 N o k a1 σ = some Q2 → (Zz E X YX5_grow (none, R) Q2 57 [] []) → Zz E X YX5_grow (none, R) σ 2 [(0, .ref (E.2.1 o)), (1, .int a1)] [] := by
    intro k
    induction k with
    | zero =>
      intro a1 σ Q2 hf
      have hf : (none : Option (Sg)) = some Q2 := hf
      cases hf
    | succ k ih =>
      intro a1 σ Q2 hf hx2
      have hf : f_X5_grow_B2 N o (f_X5_grow_L2 N o k) a1 σ = some Q2 := hf
      unfold f_X5_grow_B2 at hf
      refine z_iload_n C dX5_grow_2 1 rfl ?_
      refine z_aload_n C dX5_grow_3 0 rfl ?_
      refine z_get (v := .int (σ o 2)) (T := TX5) (N := 3) (ci := 4) C (lt_pe ho) (wc_pe ho) rfl in_X5 2 (by decide) t_46 rfl dX5_grow_4 ?_
      refine z_icmp_ge (tgt := 57) C dX5_grow_7 (by decide) (fun h1 => ?_) (fun h1 => ?_)
      · replace hf := ifp hf h1
        refine z_sub [] [] rfl ?_
        obtain rfl := Option.some.inj hf
        exact hx2
      · replace hf := ifn hf h1
        refine z_iload_n C dX5_grow_10 1 rfl ?_
        refine z_aload_n C dX5_grow_11 0 rfl ?_
        refine z_get (v := .ref (E.2.1 (o + 2))) (T := TX5) (N := 3) (ci := 4) C (lt_pe ho) (wc_pe ho) rfl in_X5 1 (by decide) t_45 rfl dX5_grow_12 ?_
        refine z_alen (v := 6) C (ho).2.2 rfl dX5_grow_15 ?_
        refine z_icmp_ge (tgt := 57) C dX5_grow_16 (by decide) (fun h2 => ?_) (fun h2 => ?_)
        · replace hf := ifp hf h2
          refine z_sub [] [] rfl ?_
          obtain rfl := Option.some.inj hf
          exact hx2
        · replace hf := ifn hf h2
          refine z_iconst (v := 0) C dX5_grow_19 (by decide) ?_
          refine z_istore_n (lv' := [(2, .int 0), (0, .ref (E.2.1 o)), (1, .int a1)]) C dX5_grow_20 (by decide) rfl ?_
          refine z_sub [(0, .ref (E.2.1 o)), (1, .int a1), (2, .int 0)] [1, 2, 0] rfl ?_
          obtain ⟨s9, h10, hf⟩ := bd_some hf
          refine hL21 N a1 0 σ _ h10 ?_
          refine z_iinc (v := (s9.1 + 1)) (lv' := [(1, .int (s9.1 + 1)), (0, .ref (E.2.1 o))]) C dX5_grow_51 1 rfl rfl (by decide) rfl ?_
          refine z_goto (tgt := 2) C dX5_grow_54 (by decide) ?_
          refine z_sub [(0, .ref (E.2.1 o)), (1, .int (s9.1 + 1))] [1, 0] rfl ?_
          exact ih (s9.1 + 1) s9.2 _ hf hx2
  unfold f_X5_grow at hf
  refine z_iconst (v := 0) C dX5_grow_0 (by decide) ?_
  refine z_istore_n (lv' := [(1, .int 0), (0, .ref (E.2.1 o))]) C dX5_grow_1 (by decide) rfl ?_
  refine z_sub [(0, .ref (E.2.1 o)), (1, .int 0)] [1, 0] rfl ?_
  obtain ⟨s11, h12, hf⟩ := bd_some hf
  refine hL2 N 0 σ _ h12 ?_
  exact z_vret C dX5_grow_57 rfl (by rw [← Option.some.inj hf])
theorem lk_X5_grow {Y : Yv} : Lk Y YX5_grow 0 := ⟨t_561, t_3, ⟨by decide +kernel, by decide +kernel⟩, by decide +kernel⟩
abbrev YX4_isFull : Yv := (yX4_isFull, cX4_isFull, 1, some .boolean, 0, 0)
def f_X4_isFull (N : Nat) (o : Nat) (σ : Sg) : Option (Int32 × Sg) :=
  if (σ o 1) < (Int32.ofNat (nln o)) then (some (0, σ)) else (some (1, σ))
set_option maxHeartbeats 4000000 in
set_option maxRecDepth 20000 in
theorem m_X4_isFull (l : Launch) (E : Ev) (N : Nat) (o : Nat) (ho : isNu o) (σ : Sg) (R : Int32 × Sg) (hf : f_X4_isFull N o σ = some R) : Ct l E YX4_isFull [.ref (E.2.1 o)] σ (some (.int R.1), R.2) := by
  refine ct_of (by decide +kernel) (Nat.le_of_ble_eq_true rfl) [(0, .ref (E.2.1 o))] rfl (fun X hX C => ?_)
  unfold f_X4_isFull at hf
  refine z_aload_n C dX4_isFull_0 0 rfl ?_
  refine z_get (v := .int (σ o 1)) (T := TX4) (N := 2) (ci := 3) C (lt_nu ho) (wc_nu ho) rfl in_X4 1 (by decide) t_67 rfl dX4_isFull_1 ?_
  refine z_aload_n C dX4_isFull_4 0 rfl ?_
  refine z_get (v := .ref (E.2.1 (o + 1))) (T := TX4) (N := 2) (ci := 3) C (lt_nu ho) (wc_nu ho) rfl in_X4 0 (by decide) t_66 rfl dX4_isFull_5 ?_
  refine z_alen (v := (Int32.ofNat (nln o))) C (ho).2 rfl dX4_isFull_8 ?_
  refine z_icmp_lt (tgt := 16) C dX4_isFull_9 (by decide) (fun h1 => ?_) (fun h1 => ?_)
  · replace hf := ifp hf h1
    refine z_iconst (v := 0) C dX4_isFull_16 (by decide) ?_
    exact z_zret C dX4_isFull_17 rfl rfl (by rw [← Option.some.inj hf])
  · replace hf := ifn hf h1
    refine z_iconst (v := 1) C dX4_isFull_12 (by decide) ?_
    refine z_goto (tgt := 17) C dX4_isFull_13 (by decide) ?_
    exact z_zret C dX4_isFull_17 rfl rfl (by rw [← Option.some.inj hf])
theorem lk_X4_isFull {Y : Yv} : Lk Y YX4_isFull 0 := ⟨t_269, t_4, ⟨by decide +kernel, by decide +kernel⟩, by decide +kernel⟩
abbrev YX5_enter : Yv := (yX5_enter, cX5_enter, 2, some .boolean, 0, 0)
def f_X5_enter (N : Nat) (o : Nat) (x1 : Int32) (σ : Sg) : Option (Int32 × Sg) :=
  if (σ o 2) < 0 then (some (0, σ)) else (if (σ o 2) < 6 then (ga (σ o 2) 6 (nm (sgs σ (o + 2) (Int32.toNatClampNeg (σ o 2)) x1) (fun σ4 => nm (sgs σ4 o 2 ((σ4 o 2) + 1)) (fun σ6 => some (1, σ6))))) else (some (0, σ)))
set_option maxHeartbeats 4000000 in
set_option maxRecDepth 20000 in
theorem m_X5_enter (l : Launch) (E : Ev) (N : Nat) (o : Nat) (ho : isPe o) (x1 : Int32) (σ : Sg) (R : Int32 × Sg) (hf : f_X5_enter N o x1 σ = some R) : Ct l E YX5_enter [.ref (E.2.1 o), .int x1] σ (some (.int R.1), R.2) := by
  refine ct_of (by decide +kernel) (Nat.le_of_ble_eq_true rfl) [(0, .ref (E.2.1 o)), (1, .int x1)] rfl (fun X hX C => ?_)
  unfold f_X5_enter at hf
  refine z_aload_n C dX5_enter_0 0 rfl ?_
  refine z_get (v := .int (σ o 2)) (T := TX5) (N := 3) (ci := 4) C (lt_pe ho) (wc_pe ho) rfl in_X5 2 (by decide) t_46 rfl dX5_enter_1 ?_
  refine z_if_lt (tgt := 19) C dX5_enter_4 (by decide) (fun h1 => ?_) (fun h1 => ?_)
  · replace hf := ifp hf h1
    refine z_iconst (v := 0) C dX5_enter_19 (by decide) ?_
    exact z_zret C dX5_enter_20 rfl rfl (by rw [← Option.some.inj hf])
  · replace hf := ifn hf h1
    refine z_aload_n C dX5_enter_7 0 rfl ?_
    refine z_get (v := .int (σ o 2)) (T := TX5) (N := 3) (ci := 4) C (lt_pe ho) (wc_pe ho) rfl in_X5 2 (by decide) t_46 rfl dX5_enter_8 ?_
    refine z_aload_n C dX5_enter_11 0 rfl ?_
    refine z_get (v := .ref (E.2.1 (o + 2))) (T := TX5) (N := 3) (ci := 4) C (lt_pe ho) (wc_pe ho) rfl in_X5 1 (by decide) t_45 rfl dX5_enter_12 ?_
    refine z_alen (v := 6) C (ho).2.2 rfl dX5_enter_15 ?_
    refine z_icmp_lt (tgt := 21) C dX5_enter_16 (by decide) (fun h2 => ?_) (fun h2 => ?_)
    · replace hf := ifp hf h2
      refine z_aload_n C dX5_enter_21 0 rfl ?_
      refine z_get (v := .ref (E.2.1 (o + 2))) (T := TX5) (N := 3) (ci := 4) C (lt_pe ho) (wc_pe ho) rfl in_X5 1 (by decide) t_45 rfl dX5_enter_22 ?_
      refine z_aload_n C dX5_enter_25 0 rfl ?_
      refine z_get (v := .int (σ o 2)) (T := TX5) (N := 3) (ci := 4) C (lt_pe ho) (wc_pe ho) rfl in_X5 2 (by decide) t_46 rfl dX5_enter_26 ?_
      refine z_iload_n C dX5_enter_29 1 rfl ?_
      obtain ⟨h3, hf⟩ := ga_some hf
      obtain ⟨σ4, h5, hf⟩ := nm_some hf
      refine z_iast C (ho).2.2 h3 dX5_enter_30 ?_
      rw [← h5]
      refine z_aload_n C dX5_enter_31 0 rfl ?_
      refine z_dup C dX5_enter_32 rfl ?_
      refine z_get (v := .int (σ4 o 2)) (T := TX5) (N := 3) (ci := 4) C (lt_pe ho) (wc_pe ho) rfl in_X5 2 (by decide) t_46 rfl dX5_enter_33 ?_
      refine z_iconst (v := 1) C dX5_enter_36 (by decide) ?_
      refine z_iadd C dX5_enter_37 ?_
      obtain ⟨σ6, h7, hf⟩ := nm_some hf
      refine z_put (T := TX5) (N := 3) (ci := 4) (ty := .int) C tyX5 tyX5_ok nmX5 (lt_pe ho) (wc_pe ho) rfl in_X5 2 (by decide) t_46 rfl rfl rfl rfl (Nat.le_of_ble_eq_true rfl) (pw_X5_2 ho) dX5_enter_38 ?_
      rw [← h7]
      refine z_iconst (v := 1) C dX5_enter_41 (by decide) ?_
      exact z_zret C dX5_enter_42 rfl rfl (by rw [← Option.some.inj hf])
    · replace hf := ifn hf h2
      refine z_iconst (v := 0) C dX5_enter_19 (by decide) ?_
      exact z_zret C dX5_enter_20 rfl rfl (by rw [← Option.some.inj hf])
theorem lk_X5_enter {Y : Yv} : Lk Y YX5_enter 1 := ⟨t_407, t_3, ⟨by decide +kernel, by decide +kernel⟩, by decide +kernel⟩
abbrev YX9_takeFrom : Yv := (yX9_takeFrom, cX9_takeFrom, 2, none, 2, 43)
def f_X9_takeFrom (N : Nat) (o : Nat) (p1 : Nat) (σ : Sg) : Option (Sg) :=
  (f_X5_takeFrom N (o + 1) (p1 + 1) σ).bind (fun r1 => (f_X4_takeFrom N (o + 4) (p1 + 4) r1).bind (fun r3 => (f_X4_takeFrom N (o + 6) (p1 + 6) r3).bind (fun r5 => (f_X4_takeFrom N (o + 8) (p1 + 8) r5).bind (fun r7 => (f_X4_takeFrom N (o + 10) (p1 + 10) r7).bind (fun r9 => (f_X4_takeFrom N (o + 12) (p1 + 12) r9).bind (fun r11 => (f_X4_takeFrom N (o + 14) (p1 + 14) r11).bind (fun r13 => nm (sgs r13 o 7 (r13 p1 7)) (fun σ15 => nm (sgs σ15 o 8 (σ15 p1 8)) (fun σ17 => nm (sgs σ17 o 9 (σ17 p1 9)) (fun σ19 => nm (sgs σ19 o 10 (σ19 p1 10)) (fun σ21 => some σ21)))))))))))
set_option maxHeartbeats 4000000 in
set_option maxRecDepth 20000 in
theorem m_X9_takeFrom (l : Launch) (E : Ev) (N : Nat) (o : Nat) (p1 : Nat) (ho : isSt o) (hp1 : isSt p1) (σ : Sg) (R : Sg) (hf : f_X9_takeFrom N o p1 σ = some R) : Ct l E YX9_takeFrom [.ref (E.2.1 o), .ref (E.2.1 p1)] σ (none, R) := by
  refine ct_of (by decide +kernel) (Nat.le_of_ble_eq_true rfl) [(0, .ref (E.2.1 o)), (1, .ref (E.2.1 p1))] rfl (fun X hX C => ?_)
  unfold f_X9_takeFrom at hf
  refine z_aload_n C dX9_takeFrom_0 0 rfl ?_
  refine z_get (v := .ref (E.2.1 (o + 1))) (T := TX9) (N := 11) (ci := 8) C (lt_st ho) (wc_st ho) rfl in_X9 0 (by decide) t_77 rfl dX9_takeFrom_1 ?_
  refine z_aload_n C dX9_takeFrom_4 1 rfl ?_
  refine z_get (v := .ref (E.2.1 (p1 + 1))) (T := TX9) (N := 11) (ci := 8) C (lt_st hp1) (wc_st hp1) rfl in_X9 0 (by decide) t_77 rfl dX9_takeFrom_5 ?_
  obtain ⟨r1, h2, hf⟩ := bd_some hf
  refine z_callV (Y2 := YX5_takeFrom) (CC := RX5) (T := TX5) (N := 3) (ci := 4) (As := [.ref (E.2.1 (p1 + 1))]) C lk_X5_takeFrom (lt_pe (ho).2.1) (wc_pe (ho).2.1) rfl t_286 t_287 t_288 (Nat.le_of_ble_eq_true rfl) (Nat.le_of_ble_eq_true rfl) dX9_takeFrom_8 (Nat.le_of_ble_eq_true rfl) rfl rfl (m_X5_takeFrom X.2.1 E N (o + 1) (p1 + 1) (ho).2.1 (hp1).2.1 σ _ h2) ?_
  change Zz E X YX9_takeFrom (none, R) r1 _ _ []
  refine z_aload_n C dX9_takeFrom_11 0 rfl ?_
  refine z_get (v := .ref (E.2.1 (o + 4))) (T := TX9) (N := 11) (ci := 8) C (lt_st ho) (wc_st ho) rfl in_X9 1 (by decide) t_81 rfl dX9_takeFrom_12 ?_
  refine z_aload_n C dX9_takeFrom_15 1 rfl ?_
  refine z_get (v := .ref (E.2.1 (p1 + 4))) (T := TX9) (N := 11) (ci := 8) C (lt_st hp1) (wc_st hp1) rfl in_X9 1 (by decide) t_81 rfl dX9_takeFrom_16 ?_
  obtain ⟨r3, h4, hf⟩ := bd_some hf
  refine z_callV (Y2 := YX4_takeFrom) (CC := RX4) (T := TX4) (N := 2) (ci := 3) (As := [.ref (E.2.1 (p1 + 4))]) C lk_X4_takeFrom (lt_nu (ho).2.2.1) (wc_nu (ho).2.2.1) rfl t_293 t_294 t_295 (Nat.le_of_ble_eq_true rfl) (Nat.le_of_ble_eq_true rfl) dX9_takeFrom_19 (Nat.le_of_ble_eq_true rfl) rfl rfl (m_X4_takeFrom X.2.1 E N (o + 4) (p1 + 4) (ho).2.2.1 (hp1).2.2.1 r1 _ h4) ?_
  change Zz E X YX9_takeFrom (none, R) r3 _ _ []
  refine z_aload_n C dX9_takeFrom_22 0 rfl ?_
  refine z_get (v := .ref (E.2.1 (o + 6))) (T := TX9) (N := 11) (ci := 8) C (lt_st ho) (wc_st ho) rfl in_X9 2 (by decide) t_85 rfl dX9_takeFrom_23 ?_
  refine z_aload_n C dX9_takeFrom_26 1 rfl ?_
  refine z_get (v := .ref (E.2.1 (p1 + 6))) (T := TX9) (N := 11) (ci := 8) C (lt_st hp1) (wc_st hp1) rfl in_X9 2 (by decide) t_85 rfl dX9_takeFrom_27 ?_
  obtain ⟨r5, h6, hf⟩ := bd_some hf
  refine z_callV (Y2 := YX4_takeFrom) (CC := RX4) (T := TX4) (N := 2) (ci := 3) (As := [.ref (E.2.1 (p1 + 6))]) C lk_X4_takeFrom (lt_nu (ho).2.2.2.1) (wc_nu (ho).2.2.2.1) rfl t_293 t_294 t_295 (Nat.le_of_ble_eq_true rfl) (Nat.le_of_ble_eq_true rfl) dX9_takeFrom_30 (Nat.le_of_ble_eq_true rfl) rfl rfl (m_X4_takeFrom X.2.1 E N (o + 6) (p1 + 6) (ho).2.2.2.1 (hp1).2.2.2.1 r3 _ h6) ?_
  change Zz E X YX9_takeFrom (none, R) r5 _ _ []
  refine z_aload_n C dX9_takeFrom_33 0 rfl ?_
  refine z_get (v := .ref (E.2.1 (o + 8))) (T := TX9) (N := 11) (ci := 8) C (lt_st ho) (wc_st ho) rfl in_X9 3 (by decide) t_89 rfl dX9_takeFrom_34 ?_
  refine z_aload_n C dX9_takeFrom_37 1 rfl ?_
  refine z_get (v := .ref (E.2.1 (p1 + 8))) (T := TX9) (N := 11) (ci := 8) C (lt_st hp1) (wc_st hp1) rfl in_X9 3 (by decide) t_89 rfl dX9_takeFrom_38 ?_
  obtain ⟨r7, h8, hf⟩ := bd_some hf
  refine z_callV (Y2 := YX4_takeFrom) (CC := RX4) (T := TX4) (N := 2) (ci := 3) (As := [.ref (E.2.1 (p1 + 8))]) C lk_X4_takeFrom (lt_nu (ho).2.2.2.2.1) (wc_nu (ho).2.2.2.2.1) rfl t_293 t_294 t_295 (Nat.le_of_ble_eq_true rfl) (Nat.le_of_ble_eq_true rfl) dX9_takeFrom_41 (Nat.le_of_ble_eq_true rfl) rfl rfl (m_X4_takeFrom X.2.1 E N (o + 8) (p1 + 8) (ho).2.2.2.2.1 (hp1).2.2.2.2.1 r5 _ h8) ?_
  change Zz E X YX9_takeFrom (none, R) r7 _ _ []
  refine z_aload_n C dX9_takeFrom_44 0 rfl ?_
  refine z_get (v := .ref (E.2.1 (o + 10))) (T := TX9) (N := 11) (ci := 8) C (lt_st ho) (wc_st ho) rfl in_X9 4 (by decide) t_93 rfl dX9_takeFrom_45 ?_
  refine z_aload_n C dX9_takeFrom_48 1 rfl ?_
  refine z_get (v := .ref (E.2.1 (p1 + 10))) (T := TX9) (N := 11) (ci := 8) C (lt_st hp1) (wc_st hp1) rfl in_X9 4 (by decide) t_93 rfl dX9_takeFrom_49 ?_
  obtain ⟨r9, h10, hf⟩ := bd_some hf
  refine z_callV (Y2 := YX4_takeFrom) (CC := RX4) (T := TX4) (N := 2) (ci := 3) (As := [.ref (E.2.1 (p1 + 10))]) C lk_X4_takeFrom (lt_nu (ho).2.2.2.2.2.1) (wc_nu (ho).2.2.2.2.2.1) rfl t_293 t_294 t_295 (Nat.le_of_ble_eq_true rfl) (Nat.le_of_ble_eq_true rfl) dX9_takeFrom_52 (Nat.le_of_ble_eq_true rfl) rfl rfl (m_X4_takeFrom X.2.1 E N (o + 10) (p1 + 10) (ho).2.2.2.2.2.1 (hp1).2.2.2.2.2.1 r7 _ h10) ?_
  change Zz E X YX9_takeFrom (none, R) r9 _ _ []
  refine z_aload_n C dX9_takeFrom_55 0 rfl ?_
  refine z_get (v := .ref (E.2.1 (o + 12))) (T := TX9) (N := 11) (ci := 8) C (lt_st ho) (wc_st ho) rfl in_X9 5 (by decide) t_95 rfl dX9_takeFrom_56 ?_
  refine z_aload_n C dX9_takeFrom_59 1 rfl ?_
  refine z_get (v := .ref (E.2.1 (p1 + 12))) (T := TX9) (N := 11) (ci := 8) C (lt_st hp1) (wc_st hp1) rfl in_X9 5 (by decide) t_95 rfl dX9_takeFrom_60 ?_
  obtain ⟨r11, h12, hf⟩ := bd_some hf
  refine z_callV (Y2 := YX4_takeFrom) (CC := RX4) (T := TX4) (N := 2) (ci := 3) (As := [.ref (E.2.1 (p1 + 12))]) C lk_X4_takeFrom (lt_nu (ho).2.2.2.2.2.2.1) (wc_nu (ho).2.2.2.2.2.2.1) rfl t_293 t_294 t_295 (Nat.le_of_ble_eq_true rfl) (Nat.le_of_ble_eq_true rfl) dX9_takeFrom_63 (Nat.le_of_ble_eq_true rfl) rfl rfl (m_X4_takeFrom X.2.1 E N (o + 12) (p1 + 12) (ho).2.2.2.2.2.2.1 (hp1).2.2.2.2.2.2.1 r9 _ h12) ?_
  change Zz E X YX9_takeFrom (none, R) r11 _ _ []
  refine z_aload_n C dX9_takeFrom_66 0 rfl ?_
  refine z_get (v := .ref (E.2.1 (o + 14))) (T := TX9) (N := 11) (ci := 8) C (lt_st ho) (wc_st ho) rfl in_X9 6 (by decide) t_98 rfl dX9_takeFrom_67 ?_
  refine z_aload_n C dX9_takeFrom_70 1 rfl ?_
  refine z_get (v := .ref (E.2.1 (p1 + 14))) (T := TX9) (N := 11) (ci := 8) C (lt_st hp1) (wc_st hp1) rfl in_X9 6 (by decide) t_98 rfl dX9_takeFrom_71 ?_
  obtain ⟨r13, h14, hf⟩ := bd_some hf
  refine z_callV (Y2 := YX4_takeFrom) (CC := RX4) (T := TX4) (N := 2) (ci := 3) (As := [.ref (E.2.1 (p1 + 14))]) C lk_X4_takeFrom (lt_nu (ho).2.2.2.2.2.2.2) (wc_nu (ho).2.2.2.2.2.2.2) rfl t_293 t_294 t_295 (Nat.le_of_ble_eq_true rfl) (Nat.le_of_ble_eq_true rfl) dX9_takeFrom_74 (Nat.le_of_ble_eq_true rfl) rfl rfl (m_X4_takeFrom X.2.1 E N (o + 14) (p1 + 14) (ho).2.2.2.2.2.2.2 (hp1).2.2.2.2.2.2.2 r11 _ h14) ?_
  change Zz E X YX9_takeFrom (none, R) r13 _ _ []
  refine z_aload_n C dX9_takeFrom_77 0 rfl ?_
  refine z_aload_n C dX9_takeFrom_78 1 rfl ?_
  refine z_get (v := .int (r13 p1 7)) (T := TX9) (N := 11) (ci := 8) C (lt_st hp1) (wc_st hp1) rfl in_X9 7 (by decide) t_101 rfl dX9_takeFrom_79 ?_
  obtain ⟨σ15, h16, hf⟩ := nm_some hf
  refine z_put (T := TX9) (N := 11) (ci := 8) (ty := .int) C tyX9 tyX9_ok nmX9 (lt_st ho) (wc_st ho) rfl in_X9 7 (by decide) t_101 rfl rfl rfl rfl (Nat.le_of_ble_eq_true rfl) (pw_X9_7 ho) dX9_takeFrom_82 ?_
  rw [← h16]
  refine z_aload_n C dX9_takeFrom_85 0 rfl ?_
  refine z_aload_n C dX9_takeFrom_86 1 rfl ?_
  refine z_get (v := .int (σ15 p1 8)) (T := TX9) (N := 11) (ci := 8) C (lt_st hp1) (wc_st hp1) rfl in_X9 8 (by decide) t_103 rfl dX9_takeFrom_87 ?_
  obtain ⟨σ17, h18, hf⟩ := nm_some hf
  refine z_put (T := TX9) (N := 11) (ci := 8) (ty := .int) C tyX9 tyX9_ok nmX9 (lt_st ho) (wc_st ho) rfl in_X9 8 (by decide) t_103 rfl rfl rfl rfl (Nat.le_of_ble_eq_true rfl) (pw_X9_8 ho) dX9_takeFrom_90 ?_
  rw [← h18]
  refine z_aload_n C dX9_takeFrom_93 0 rfl ?_
  refine z_aload_n C dX9_takeFrom_94 1 rfl ?_
  refine z_get (v := .int (σ17 p1 9)) (T := TX9) (N := 11) (ci := 8) C (lt_st hp1) (wc_st hp1) rfl in_X9 9 (by decide) t_105 rfl dX9_takeFrom_95 ?_
  obtain ⟨σ19, h20, hf⟩ := nm_some hf
  refine z_put (T := TX9) (N := 11) (ci := 8) (ty := .int) C tyX9 tyX9_ok nmX9 (lt_st ho) (wc_st ho) rfl in_X9 9 (by decide) t_105 rfl rfl rfl rfl (Nat.le_of_ble_eq_true rfl) (pw_X9_9 ho) dX9_takeFrom_98 ?_
  rw [← h20]
  refine z_aload_n C dX9_takeFrom_101 0 rfl ?_
  refine z_aload_n C dX9_takeFrom_102 1 rfl ?_
  refine z_get (v := .int (σ19 p1 10)) (T := TX9) (N := 11) (ci := 8) C (lt_st hp1) (wc_st hp1) rfl in_X9 10 (by decide) t_108 rfl dX9_takeFrom_103 ?_
  obtain ⟨σ21, h22, hf⟩ := nm_some hf
  refine z_put (T := TX9) (N := 11) (ci := 8) (ty := .int) C tyX9 tyX9_ok nmX9 (lt_st ho) (wc_st ho) rfl in_X9 10 (by decide) t_108 rfl rfl rfl rfl (Nat.le_of_ble_eq_true rfl) (pw_X9_10 ho) dX9_takeFrom_106 ?_
  rw [← h22]
  exact z_vret C dX9_takeFrom_109 rfl (by rw [← Option.some.inj hf])
theorem lk_X9_takeFrom {Y : Yv} : Lk Y YX9_takeFrom 1 := ⟨t_285, t_2, ⟨by decide +kernel, by decide +kernel⟩, by decide +kernel⟩
abbrev YX9_isWriter : Yv := (yX9_isWriter, cX9_isWriter, 2, some .boolean, 0, 0)
def f_X9_isWriter (N : Nat) (o : Nat) (x1 : Int32) (σ : Sg) : Option (Int32 × Sg) :=
  if x1 < 0 then (some (0, σ)) else (if (σ (o + 4) 1) ≤ x1 then (some (0, σ)) else (some (1, σ)))
set_option maxHeartbeats 4000000 in
set_option maxRecDepth 20000 in
theorem m_X9_isWriter (l : Launch) (E : Ev) (N : Nat) (o : Nat) (ho : isSt o) (x1 : Int32) (σ : Sg) (R : Int32 × Sg) (hf : f_X9_isWriter N o x1 σ = some R) : Ct l E YX9_isWriter [.ref (E.2.1 o), .int x1] σ (some (.int R.1), R.2) := by
  refine ct_of (by decide +kernel) (Nat.le_of_ble_eq_true rfl) [(0, .ref (E.2.1 o)), (1, .int x1)] rfl (fun X hX C => ?_)
  unfold f_X9_isWriter at hf
  refine z_iload_n C dX9_isWriter_0 1 rfl ?_
  refine z_if_lt (tgt := 19) C dX9_isWriter_1 (by decide) (fun h1 => ?_) (fun h1 => ?_)
  · replace hf := ifp hf h1
    refine z_iconst (v := 0) C dX9_isWriter_19 (by decide) ?_
    exact z_zret C dX9_isWriter_20 rfl rfl (by rw [← Option.some.inj hf])
  · replace hf := ifn hf h1
    refine z_iload_n C dX9_isWriter_4 1 rfl ?_
    refine z_aload_n C dX9_isWriter_5 0 rfl ?_
    refine z_get (v := .ref (E.2.1 (o + 4))) (T := TX9) (N := 11) (ci := 8) C (lt_st ho) (wc_st ho) rfl in_X9 1 (by decide) t_81 rfl dX9_isWriter_6 ?_
    refine z_getN (v := .int (σ (o + 4) 1)) (T := TX4) (N := 2) (ci := 3) C (lt_nu (ho).2.2.1) (wc_nu (ho).2.2.1) rfl in_X4 1 (by decide) n_68 rfl dX9_isWriter_9 ?_
    refine z_icmp_ge (tgt := 19) C dX9_isWriter_12 (by decide) (fun h2 => ?_) (fun h2 => ?_)
    · replace hf := ifp hf h2
      refine z_iconst (v := 0) C dX9_isWriter_19 (by decide) ?_
      exact z_zret C dX9_isWriter_20 rfl rfl (by rw [← Option.some.inj hf])
    · replace hf := ifn hf h2
      refine z_iconst (v := 1) C dX9_isWriter_15 (by decide) ?_
      refine z_goto (tgt := 20) C dX9_isWriter_16 (by decide) ?_
      exact z_zret C dX9_isWriter_20 rfl rfl (by rw [← Option.some.inj hf])
theorem lk_X9_isWriter {Y : Yv} : Lk Y YX9_isWriter 1 := ⟨t_460, t_2, ⟨by decide +kernel, by decide +kernel⟩, by decide +kernel⟩
