abbrev YX7_pass : Yv := (yX7_pass, cX7_pass, 2, some .boolean, 1, 21)
def f_X7_pass (N : Nat) (x1 : Int32) (σ : Sg) : Option (Int32 × Sg) :=
  (f_X4_get N 34 (σ 33 3) σ).bind (fun r1 => if r1.1 = x1 then (nm (sgs r1.2 33 3 ((r1.2 33 3) + 1)) (fun σ4 => some (1, σ4))) else (some (0, r1.2)))
set_option maxHeartbeats 4000000 in
set_option maxRecDepth 20000 in
theorem m_X7_pass (l : Launch) (E : Ev) (N : Nat) (x1 : Int32) (σ : Sg) (R : Int32 × Sg) (hf : f_X7_pass N x1 σ = some R) : Ct l E YX7_pass [.ref (E.2.1 33), .int x1] σ (some (.int R.1), R.2) := by
  refine ct_of (by decide +kernel) (Nat.le_of_ble_eq_true rfl) [(0, .ref (E.2.1 33)), (1, .int x1)] rfl (fun X hX C => ?_)
  unfold f_X7_pass at hf
  refine z_aload_n C dX7_pass_0 0 rfl ?_
  refine z_get (v := .ref (E.2.1 34)) (T := TX7) (N := 4) (ci := 6) C (by decide) wc_rd rfl in_X7 0 (by decide) t_143 rfl dX7_pass_1 ?_
  refine z_aload_n C dX7_pass_4 0 rfl ?_
  refine z_get (v := .int (σ 33 3)) (T := TX7) (N := 4) (ci := 6) C (by decide) wc_rd rfl in_X7 3 (by decide) t_147 rfl dX7_pass_5 ?_
  obtain ⟨r1, h2, hf⟩ := bd_some hf
  refine z_callV (Y2 := YX4_get) (CC := RX4) (T := TX4) (N := 2) (ci := 3) (As := [.int (σ 33 3)]) C lk_X4_get (lt_nu nu_34) (wc_nu nu_34) rfl t_318 t_302 t_303 (Nat.le_of_ble_eq_true rfl) (Nat.le_of_ble_eq_true rfl) dX7_pass_8 (Nat.le_of_ble_eq_true rfl) rfl rfl (m_X4_get X.2.1 E N 34 nu_34 (σ 33 3) σ _ h2) ?_
  change Zz E X YX7_pass (some (.int R.1), R.2) r1.2 _ _ [.int r1.1]
  refine z_iload_n C dX7_pass_11 1 rfl ?_
  refine z_icmp_eq (tgt := 17) C dX7_pass_12 (by decide) (fun h3 => ?_) (fun h3 => ?_)
  · replace hf := ifp hf h3
    refine z_aload_n C dX7_pass_17 0 rfl ?_
    refine z_dup C dX7_pass_18 rfl ?_
    refine z_get (v := .int (r1.2 33 3)) (T := TX7) (N := 4) (ci := 6) C (by decide) wc_rd rfl in_X7 3 (by decide) t_147 rfl dX7_pass_19 ?_
    refine z_iconst (v := 1) C dX7_pass_22 (by decide) ?_
    refine z_iadd C dX7_pass_23 ?_
    obtain ⟨σ4, h5, hf⟩ := nm_some hf
    refine z_put (T := TX7) (N := 4) (ci := 6) (ty := .int) C tyX7 tyX7_ok nmX7 (by decide) wc_rd rfl in_X7 3 (by decide) t_147 rfl rfl rfl rfl (Nat.le_of_ble_eq_true rfl) (pw_X7_3) dX7_pass_24 ?_
    rw [← h5]
    refine z_iconst (v := 1) C dX7_pass_27 (by decide) ?_
    exact z_zret C dX7_pass_28 rfl rfl (by rw [← Option.some.inj hf])
  · replace hf := ifn hf h3
    refine z_iconst (v := 0) C dX7_pass_15 (by decide) ?_
    exact z_zret C dX7_pass_16 rfl rfl (by rw [← Option.some.inj hf])
theorem lk_X7_pass {Y : Yv} : Lk Y YX7_pass 1 := ⟨t_317, t_5, ⟨by decide +kernel, by decide +kernel⟩, by decide +kernel⟩
abbrev YX7_scanDigit : Yv := (yX7_scanDigit, cX7_scanDigit, 3, some .boolean, 1, 21)
def f_X7_scanDigit (N : Nat) (x1 : Int32) (σ : Sg) : Option (Int32 × Sg) :=
  (f_X4_get N 34 (σ 33 3) σ).bind (fun r1 => if r1.1 < 48 then (some (0, r1.2)) else (if 57 < r1.1 then (some (0, r1.2)) else (if x1 < 0 then (some (0, r1.2)) else (if x1 < 5 then (ga x1 5 (nm (sgs r1.2 52 (Int32.toNatClampNeg x1) (r1.1 - 48)) (fun σ8 => nm (sgs σ8 33 3 ((σ8 33 3) + 1)) (fun σ10 => some (1, σ10))))) else (some (0, r1.2))))))
set_option maxHeartbeats 4000000 in
set_option maxRecDepth 20000 in
theorem m_X7_scanDigit (l : Launch) (E : Ev) (N : Nat) (x1 : Int32) (σ : Sg) (R : Int32 × Sg) (hf : f_X7_scanDigit N x1 σ = some R) : Ct l E YX7_scanDigit [.ref (E.2.1 33), .int x1] σ (some (.int R.1), R.2) := by
  refine ct_of (by decide +kernel) (Nat.le_of_ble_eq_true rfl) [(0, .ref (E.2.1 33)), (1, .int x1)] rfl (fun X hX C => ?_)
  unfold f_X7_scanDigit at hf
  refine z_aload_n C dX7_scanDigit_0 0 rfl ?_
  refine z_get (v := .ref (E.2.1 34)) (T := TX7) (N := 4) (ci := 6) C (by decide) wc_rd rfl in_X7 0 (by decide) t_143 rfl dX7_scanDigit_1 ?_
  refine z_aload_n C dX7_scanDigit_4 0 rfl ?_
  refine z_get (v := .int (σ 33 3)) (T := TX7) (N := 4) (ci := 6) C (by decide) wc_rd rfl in_X7 3 (by decide) t_147 rfl dX7_scanDigit_5 ?_
  obtain ⟨r1, h2, hf⟩ := bd_some hf
  refine z_callV (Y2 := YX4_get) (CC := RX4) (T := TX4) (N := 2) (ci := 3) (As := [.int (σ 33 3)]) C lk_X4_get (lt_nu nu_34) (wc_nu nu_34) rfl t_318 t_302 t_303 (Nat.le_of_ble_eq_true rfl) (Nat.le_of_ble_eq_true rfl) dX7_scanDigit_8 (Nat.le_of_ble_eq_true rfl) rfl rfl (m_X4_get X.2.1 E N 34 nu_34 (σ 33 3) σ _ h2) ?_
  change Zz E X YX7_scanDigit (some (.int R.1), R.2) r1.2 _ _ [.int r1.1]
  refine z_istore_n (lv' := [(2, .int r1.1), (0, .ref (E.2.1 33)), (1, .int x1)]) C dX7_scanDigit_11 (by decide) rfl ?_
  refine z_iload_n C dX7_scanDigit_12 0 rfl ?_
  refine z_bipush (v := 48) C dX7_scanDigit_13 (by decide) ?_
  refine z_icmp_lt (tgt := 37) C dX7_scanDigit_15 (by decide) (fun h3 => ?_) (fun h3 => ?_)
  · replace hf := ifp hf h3
    refine z_iconst (v := 0) C dX7_scanDigit_37 (by decide) ?_
    exact z_zret C dX7_scanDigit_38 rfl rfl (by rw [← Option.some.inj hf])
  · replace hf := ifn hf h3
    refine z_iload_n C dX7_scanDigit_18 0 rfl ?_
    refine z_bipush (v := 57) C dX7_scanDigit_19 (by decide) ?_
    refine z_icmp_gt (tgt := 37) C dX7_scanDigit_21 (by decide) (fun h4 => ?_) (fun h4 => ?_)
    · replace hf := ifp hf h4
      refine z_iconst (v := 0) C dX7_scanDigit_37 (by decide) ?_
      exact z_zret C dX7_scanDigit_38 rfl rfl (by rw [← Option.some.inj hf])
    · replace hf := ifn hf h4
      refine z_iload_n C dX7_scanDigit_24 2 rfl ?_
      refine z_if_lt (tgt := 37) C dX7_scanDigit_25 (by decide) (fun h5 => ?_) (fun h5 => ?_)
      · replace hf := ifp hf h5
        refine z_iconst (v := 0) C dX7_scanDigit_37 (by decide) ?_
        exact z_zret C dX7_scanDigit_38 rfl rfl (by rw [← Option.some.inj hf])
      · replace hf := ifn hf h5
        refine z_iload_n C dX7_scanDigit_28 2 rfl ?_
        refine z_aload_n C dX7_scanDigit_29 1 rfl ?_
        refine z_get (v := .ref (E.2.1 52)) (T := TX7) (N := 4) (ci := 6) C (by decide) wc_rd rfl in_X7 2 (by decide) t_146 rfl dX7_scanDigit_30 ?_
        refine z_alen (v := 5) C ka_52 rfl dX7_scanDigit_33 ?_
        refine z_icmp_lt (tgt := 39) C dX7_scanDigit_34 (by decide) (fun h6 => ?_) (fun h6 => ?_)
        · replace hf := ifp hf h6
          refine z_aload_n C dX7_scanDigit_39 1 rfl ?_
          refine z_get (v := .ref (E.2.1 52)) (T := TX7) (N := 4) (ci := 6) C (by decide) wc_rd rfl in_X7 2 (by decide) t_146 rfl dX7_scanDigit_40 ?_
          refine z_iload_n C dX7_scanDigit_43 2 rfl ?_
          refine z_iload_n C dX7_scanDigit_44 0 rfl ?_
          refine z_bipush (v := 48) C dX7_scanDigit_45 (by decide) ?_
          refine z_isub C dX7_scanDigit_47 ?_
          obtain ⟨h7, hf⟩ := ga_some hf
          obtain ⟨σ8, h9, hf⟩ := nm_some hf
          refine z_iast C ka_52 h7 dX7_scanDigit_48 ?_
          rw [← h9]
          refine z_aload_n C dX7_scanDigit_49 1 rfl ?_
          refine z_dup C dX7_scanDigit_50 rfl ?_
          refine z_get (v := .int (σ8 33 3)) (T := TX7) (N := 4) (ci := 6) C (by decide) wc_rd rfl in_X7 3 (by decide) t_147 rfl dX7_scanDigit_51 ?_
          refine z_iconst (v := 1) C dX7_scanDigit_54 (by decide) ?_
          refine z_iadd C dX7_scanDigit_55 ?_
          obtain ⟨σ10, h11, hf⟩ := nm_some hf
          refine z_put (T := TX7) (N := 4) (ci := 6) (ty := .int) C tyX7 tyX7_ok nmX7 (by decide) wc_rd rfl in_X7 3 (by decide) t_147 rfl rfl rfl rfl (Nat.le_of_ble_eq_true rfl) (pw_X7_3) dX7_scanDigit_56 ?_
          rw [← h11]
          refine z_iconst (v := 1) C dX7_scanDigit_59 (by decide) ?_
          exact z_zret C dX7_scanDigit_60 rfl rfl (by rw [← Option.some.inj hf])
        · replace hf := ifn hf h6
          refine z_iconst (v := 0) C dX7_scanDigit_37 (by decide) ?_
          exact z_zret C dX7_scanDigit_38 rfl rfl (by rw [← Option.some.inj hf])
theorem lk_X7_scanDigit {Y : Yv} : Lk Y YX7_scanDigit 1 := ⟨t_330, t_5, ⟨by decide +kernel, by decide +kernel⟩, by decide +kernel⟩
abbrev YX7_scanNeed : Yv := (yX7_scanNeed, cX7_scanNeed, 3, some .boolean, 2, 43)
def f_X7_scanNeed (N : Nat) (x1 : Int32) (σ : Sg) : Option (Int32 × Sg) :=
  (f_X7_scanDigit N x1 σ).bind (fun r1 => if r1.1 = 0 then (some (0, r1.2)) else (ga x1 5 (nm (r1.2 52 (Int32.toNatClampNeg x1)) (fun v5 => (f_X7_scanDigit N x1 r1.2).bind (fun r7 => if r7.1 = 0 then (some (1, r7.2)) else (ga x1 5 (ga x1 5 (nm (sgs r7.2 52 (Int32.toNatClampNeg x1) ((r7.2 52 (Int32.toNatClampNeg x1)) + (v5 * 10))) (fun σ12 => some (1, σ12))))))))))
set_option maxHeartbeats 4000000 in
set_option maxRecDepth 20000 in
theorem m_X7_scanNeed (l : Launch) (E : Ev) (N : Nat) (x1 : Int32) (σ : Sg) (R : Int32 × Sg) (hf : f_X7_scanNeed N x1 σ = some R) : Ct l E YX7_scanNeed [.ref (E.2.1 33), .int x1] σ (some (.int R.1), R.2) := by
  refine ct_of (by decide +kernel) (Nat.le_of_ble_eq_true rfl) [(0, .ref (E.2.1 33)), (1, .int x1)] rfl (fun X hX C => ?_)
  unfold f_X7_scanNeed at hf
  refine z_aload_n C dX7_scanNeed_0 0 rfl ?_
  refine z_iload_n C dX7_scanNeed_1 1 rfl ?_
  obtain ⟨r1, h2, hf⟩ := bd_some hf
  refine z_callV (Y2 := YX7_scanDigit) (CC := RX7) (T := TX7) (N := 4) (ci := 6) (As := [.int x1]) C lk_X7_scanDigit (by decide) wc_rd rfl t_327 t_329 p_6 (Nat.le_of_ble_eq_true rfl) (Nat.le_of_ble_eq_true rfl) dX7_scanNeed_2 (Nat.le_of_ble_eq_true rfl) rfl rfl (m_X7_scanDigit X.2.1 E N x1 σ _ h2) ?_
  change Zz E X YX7_scanNeed (some (.int R.1), R.2) r1.2 _ _ [.int r1.1]
  refine z_if_ne (tgt := 10) C dX7_scanNeed_5 (by decide) (fun h3 => ?_) (fun h3 => ?_)
  · replace hf := ifn hf h3
    refine z_aload_n C dX7_scanNeed_10 0 rfl ?_
    refine z_get (v := .ref (E.2.1 52)) (T := TX7) (N := 4) (ci := 6) C (by decide) wc_rd rfl in_X7 2 (by decide) t_146 rfl dX7_scanNeed_11 ?_
    refine z_iload_n C dX7_scanNeed_14 1 rfl ?_
    obtain ⟨h4, hf⟩ := ga_some hf
    refine z_iald C ka_52 h4 dX7_scanNeed_15 ?_
    obtain ⟨v5, h6, hf⟩ := nm_some hf
    rw [← h6]
    refine z_istore_n (lv' := [(2, .int v5), (0, .ref (E.2.1 33)), (1, .int x1)]) C dX7_scanNeed_16 (by decide) rfl ?_
    refine z_aload_n C dX7_scanNeed_17 1 rfl ?_
    refine z_iload_n C dX7_scanNeed_18 2 rfl ?_
    obtain ⟨r7, h8, hf⟩ := bd_some hf
    refine z_callV (Y2 := YX7_scanDigit) (CC := RX7) (T := TX7) (N := 4) (ci := 6) (As := [.int x1]) C lk_X7_scanDigit (by decide) wc_rd rfl t_327 t_329 p_6 (Nat.le_of_ble_eq_true rfl) (Nat.le_of_ble_eq_true rfl) dX7_scanNeed_19 (Nat.le_of_ble_eq_true rfl) rfl rfl (m_X7_scanDigit X.2.1 E N x1 r1.2 _ h8) ?_
    change Zz E X YX7_scanNeed (some (.int R.1), R.2) r7.2 _ _ [.int r7.1]
    refine z_if_eq (tgt := 38) C dX7_scanNeed_22 (by decide) (fun h9 => ?_) (fun h9 => ?_)
    · replace hf := ifp hf h9
      refine z_iconst (v := 1) C dX7_scanNeed_38 (by decide) ?_
      exact z_zret C dX7_scanNeed_39 rfl rfl (by rw [← Option.some.inj hf])
    · replace hf := ifn hf h9
      refine z_aload_n C dX7_scanNeed_25 1 rfl ?_
      refine z_get (v := .ref (E.2.1 52)) (T := TX7) (N := 4) (ci := 6) C (by decide) wc_rd rfl in_X7 2 (by decide) t_146 rfl dX7_scanNeed_26 ?_
      refine z_iload_n C dX7_scanNeed_29 2 rfl ?_
      refine z_dup2 C dX7_scanNeed_30 rfl rfl ?_
      obtain ⟨h10, hf⟩ := ga_some hf
      refine z_iald C ka_52 h10 dX7_scanNeed_31 ?_
      refine z_iload_n C dX7_scanNeed_32 0 rfl ?_
      refine z_bipush (v := 10) C dX7_scanNeed_33 (by decide) ?_
      refine z_imul C dX7_scanNeed_35 ?_
      refine z_iadd C dX7_scanNeed_36 ?_
      obtain ⟨h11, hf⟩ := ga_some hf
      obtain ⟨σ12, h13, hf⟩ := nm_some hf
      refine z_iast C ka_52 h11 dX7_scanNeed_37 ?_
      rw [← h13]
      refine z_iconst (v := 1) C dX7_scanNeed_38 (by decide) ?_
      exact z_zret C dX7_scanNeed_39 rfl rfl (by rw [← Option.some.inj hf])
  · replace hf := ifp hf h3
    refine z_iconst (v := 0) C dX7_scanNeed_8 (by decide) ?_
    exact z_zret C dX7_scanNeed_9 rfl rfl (by rw [← Option.some.inj hf])
theorem lk_X7_scanNeed {Y : Yv} : Lk Y YX7_scanNeed 1 := ⟨t_326, t_5, ⟨by decide +kernel, by decide +kernel⟩, by decide +kernel⟩
abbrev YX7_scanPerson : Yv := (yX7_scanPerson, cX7_scanPerson, 3, some .boolean, 3, 65)
def f_X7_scanPerson_J34 (N : Nat) (rec : Int32 → Int32 → Sg → Option (Int32 × Sg)) (a2 b0 : Int32) (σ : Sg) : Option (Int32 × Sg) :=
  (f_X7_pass N b0 σ).bind (fun r7 => if r7.1 = 0 then (rec 0 (a2 + 1) r7.2) else (rec 1 (a2 + 1) r7.2))
def f_X7_scanPerson_B4 (N : Nat) (rec : Int32 → Int32 → Sg → Option (Int32 × Sg)) (a1 a2 : Int32) (σ : Sg) : Option (Int32 × Sg) :=
  if 4 ≤ a2 then (some (a1, σ)) else (if a1 = 0 then (some (a1, σ)) else ((f_X7_scanNeed N a2 σ).bind (fun r3 => if r3.1 = 0 then (rec 0 (a2 + 1) r3.2) else (if 3 ≤ a2 then (f_X7_scanPerson_J34 N rec a2 43 r3.2) else (f_X7_scanPerson_J34 N rec a2 44 r3.2)))))
def f_X7_scanPerson_L4 (N : Nat) : Nat → Int32 → Int32 → Sg → Option (Int32 × Sg)
  | 0 => fun _ _ _ => none
  | k + 1 => fun a1 a2 σ => f_X7_scanPerson_B4 N (f_X7_scanPerson_L4 N k) a1 a2 σ
def f_X7_scanPerson (N : Nat) (σ : Sg) : Option (Int32 × Sg) :=
  (f_X7_scanPerson_L4 N N 1 0 σ).bind (fun s10 => if s10.1 = 0 then (some (0, s10.2)) else ((f_X7_scanDigit N 4 s10.2).bind (fun r12 => if r12.1 = 0 then (some (0, r12.2)) else ((f_X7_pass N 59 r12.2).bind (fun r15 => if r15.1 = 0 then (some (0, r15.2)) else (some (1, r15.2)))))))
set_option maxHeartbeats 4000000 in
set_option maxRecDepth 20000 in
theorem m_X7_scanPerson (l : Launch) (E : Ev) (N : Nat) (σ : Sg) (R : Int32 × Sg) (hf : f_X7_scanPerson N σ = some R) : Ct l E YX7_scanPerson [.ref (E.2.1 33)] σ (some (.int R.1), R.2) := by
  refine ct_of (by decide +kernel) (Nat.le_of_ble_eq_true rfl) [(0, .ref (E.2.1 33))] rfl (fun X hX C => ?_)
  have hL4 : ∀ (k : Nat) (a1 a2 : Int32) (σ : Sg) (Q4 : Int32 × Sg), f_X7_scanPerson_L4 N k a1 a2 σ = some Q4 → (Zz E X YX7_scanPerson (some (.int R.1), R.2) Q4.2 52 [(0, .ref (E.2.1 33)), (1, .int Q4.1)] []) → Zz E X YX7_scanPerson (some (.int R.1), R.2) σ 4 [(0, .ref (E.2.1 33)), (1, .int a1), (2, .int a2)] [] := by
    intro k
    induction k with
    | zero =>
      intro a1 a2 σ Q4 hf
      have hf : (none : Option (Int32 × Sg)) = some Q4 := hf
      cases hf
    | succ k ih =>
      intro a1 a2 σ Q4 hf hx4
      have hf : f_X7_scanPerson_B4 N (f_X7_scanPerson_L4 N k) a1 a2 σ = some Q4 := hf
      have hJ34 : ∀ (a2 b0 : Int32) (σ : Sg), f_X7_scanPerson_J34 N (f_X7_scanPerson_L4 N k) a2 b0 σ = some Q4 → Zz E X YX7_scanPerson (some (.int R.1), R.2) σ 34 [(0, .ref (E.2.1 33)), (2, .int a2)] [.int b0, .ref (E.2.1 33)] := by
        intro a2 b0 σ hf
        unfold f_X7_scanPerson_J34 at hf
        obtain ⟨r7, h8, hf⟩ := bd_some hf
        refine z_callV (Y2 := YX7_pass) (CC := RX7) (T := TX7) (N := 4) (ci := 6) (As := [.int b0]) C lk_X7_pass (by decide) wc_rd rfl t_314 t_316 p_3 (Nat.le_of_ble_eq_true rfl) (Nat.le_of_ble_eq_true rfl) dX7_scanPerson_34 (Nat.le_of_ble_eq_true rfl) rfl rfl (m_X7_pass X.2.1 E N b0 σ _ h8) ?_
        change Zz E X YX7_scanPerson (some (.int R.1), R.2) r7.2 _ _ [.int r7.1]
        refine z_if_eq (tgt := 44) C dX7_scanPerson_37 (by decide) (fun h9 => ?_) (fun h9 => ?_)
        · replace hf := ifp hf h9
          refine z_iconst (v := 0) C dX7_scanPerson_44 (by decide) ?_
          refine z_istore_n (lv' := [(1, .int 0), (0, .ref (E.2.1 33)), (2, .int a2)]) C dX7_scanPerson_45 (by decide) rfl ?_
          refine z_iinc (v := (a2 + 1)) (lv' := [(2, .int (a2 + 1)), (1, .int 0), (0, .ref (E.2.1 33))]) C dX7_scanPerson_46 2 rfl rfl (by decide) rfl ?_
          refine z_goto (tgt := 4) C dX7_scanPerson_49 (by decide) ?_
          refine z_sub [(0, .ref (E.2.1 33)), (1, .int 0), (2, .int (a2 + 1))] [2, 1, 0] rfl ?_
          exact ih 0 (a2 + 1) r7.2 _ hf hx4
        · replace hf := ifn hf h9
          refine z_iconst (v := 1) C dX7_scanPerson_40 (by decide) ?_
          refine z_goto (tgt := 45) C dX7_scanPerson_41 (by decide) ?_
          refine z_istore_n (lv' := [(1, .int 1), (0, .ref (E.2.1 33)), (2, .int a2)]) C dX7_scanPerson_45 (by decide) rfl ?_
          refine z_iinc (v := (a2 + 1)) (lv' := [(2, .int (a2 + 1)), (1, .int 1), (0, .ref (E.2.1 33))]) C dX7_scanPerson_46 2 rfl rfl (by decide) rfl ?_
          refine z_goto (tgt := 4) C dX7_scanPerson_49 (by decide) ?_
          refine z_sub [(0, .ref (E.2.1 33)), (1, .int 1), (2, .int (a2 + 1))] [2, 1, 0] rfl ?_
          exact ih 1 (a2 + 1) r7.2 _ hf hx4
      unfold f_X7_scanPerson_B4 at hf
      refine z_iload_n C dX7_scanPerson_4 2 rfl ?_
      refine z_iconst (v := 4) C dX7_scanPerson_5 (by decide) ?_
      refine z_icmp_ge (tgt := 52) C dX7_scanPerson_6 (by decide) (fun h1 => ?_) (fun h1 => ?_)
      · replace hf := ifp hf h1
        refine z_sub [(0, .ref (E.2.1 33)), (1, .int a1)] [0, 1] rfl ?_
        obtain rfl := Option.some.inj hf
        exact hx4
      · replace hf := ifn hf h1
        refine z_iload_n C dX7_scanPerson_9 1 rfl ?_
        refine z_if_eq (tgt := 52) C dX7_scanPerson_10 (by decide) (fun h2 => ?_) (fun h2 => ?_)
        · replace hf := ifp hf h2
          refine z_sub [(0, .ref (E.2.1 33)), (1, .int a1)] [0, 1] rfl ?_
          obtain rfl := Option.some.inj hf
          exact hx4
        · replace hf := ifn hf h2
          refine z_aload_n C dX7_scanPerson_13 0 rfl ?_
          refine z_iload_n C dX7_scanPerson_14 2 rfl ?_
          obtain ⟨r3, h4, hf⟩ := bd_some hf
          refine z_callV (Y2 := YX7_scanNeed) (CC := RX7) (T := TX7) (N := 4) (ci := 6) (As := [.int a2]) C lk_X7_scanNeed (by decide) wc_rd rfl t_323 t_325 p_5 (Nat.le_of_ble_eq_true rfl) (Nat.le_of_ble_eq_true rfl) dX7_scanPerson_15 (Nat.le_of_ble_eq_true rfl) rfl rfl (m_X7_scanNeed X.2.1 E N a2 σ _ h4) ?_
          change Zz E X YX7_scanPerson (some (.int R.1), R.2) r3.2 _ _ [.int r3.1]
          refine z_if_eq (tgt := 44) C dX7_scanPerson_18 (by decide) (fun h5 => ?_) (fun h5 => ?_)
          · replace hf := ifp hf h5
            refine z_iconst (v := 0) C dX7_scanPerson_44 (by decide) ?_
            refine z_istore_n (lv' := [(1, .int 0), (0, .ref (E.2.1 33)), (2, .int a2)]) C dX7_scanPerson_45 (by decide) rfl ?_
            refine z_iinc (v := (a2 + 1)) (lv' := [(2, .int (a2 + 1)), (1, .int 0), (0, .ref (E.2.1 33))]) C dX7_scanPerson_46 2 rfl rfl (by decide) rfl ?_
            refine z_goto (tgt := 4) C dX7_scanPerson_49 (by decide) ?_
            refine z_sub [(0, .ref (E.2.1 33)), (1, .int 0), (2, .int (a2 + 1))] [2, 1, 0] rfl ?_
            exact ih 0 (a2 + 1) r3.2 _ hf hx4
          · replace hf := ifn hf h5
            refine z_aload_n C dX7_scanPerson_21 0 rfl ?_
            refine z_iload_n C dX7_scanPerson_22 2 rfl ?_
            refine z_iconst (v := 3) C dX7_scanPerson_23 (by decide) ?_
            refine z_icmp_ge (tgt := 32) C dX7_scanPerson_24 (by decide) (fun h6 => ?_) (fun h6 => ?_)
            · replace hf := ifp hf h6
              refine z_bipush (v := 43) C dX7_scanPerson_32 (by decide) ?_
              refine z_sub [(0, .ref (E.2.1 33)), (2, .int a2)] [0, 2] rfl ?_
              exact hJ34 a2 43 r3.2 hf
            · replace hf := ifn hf h6
              refine z_bipush (v := 44) C dX7_scanPerson_27 (by decide) ?_
              refine z_goto (tgt := 34) C dX7_scanPerson_29 (by decide) ?_
              refine z_sub [(0, .ref (E.2.1 33)), (2, .int a2)] [0, 2] rfl ?_
              exact hJ34 a2 44 r3.2 hf
  unfold f_X7_scanPerson at hf
  refine z_iconst (v := 1) C dX7_scanPerson_0 (by decide) ?_
  refine z_istore_n (lv' := [(1, .int 1), (0, .ref (E.2.1 33))]) C dX7_scanPerson_1 (by decide) rfl ?_
  refine z_iconst (v := 0) C dX7_scanPerson_2 (by decide) ?_
  refine z_istore_n (lv' := [(2, .int 0), (1, .int 1), (0, .ref (E.2.1 33))]) C dX7_scanPerson_3 (by decide) rfl ?_
  refine z_sub [(0, .ref (E.2.1 33)), (1, .int 1), (2, .int 0)] [2, 1, 0] rfl ?_
  obtain ⟨s10, h18, hf⟩ := bd_some hf
  refine hL4 N 1 0 σ _ h18 ?_
  refine z_iload_n C dX7_scanPerson_52 1 rfl ?_
  refine z_if_eq (tgt := 77) C dX7_scanPerson_53 (by decide) (fun h11 => ?_) (fun h11 => ?_)
  · replace hf := ifp hf h11
    refine z_iconst (v := 0) C dX7_scanPerson_77 (by decide) ?_
    exact z_zret C dX7_scanPerson_78 rfl rfl (by rw [← Option.some.inj hf])
  · replace hf := ifn hf h11
    refine z_aload_n C dX7_scanPerson_56 0 rfl ?_
    refine z_iconst (v := 4) C dX7_scanPerson_57 (by decide) ?_
    obtain ⟨r12, h13, hf⟩ := bd_some hf
    refine z_callV (Y2 := YX7_scanDigit) (CC := RX7) (T := TX7) (N := 4) (ci := 6) (As := [.int 4]) C lk_X7_scanDigit (by decide) wc_rd rfl t_327 t_329 p_6 (Nat.le_of_ble_eq_true rfl) (Nat.le_of_ble_eq_true rfl) dX7_scanPerson_58 (Nat.le_of_ble_eq_true rfl) rfl rfl (m_X7_scanDigit X.2.1 E N 4 s10.2 _ h13) ?_
    change Zz E X YX7_scanPerson (some (.int R.1), R.2) r12.2 _ _ [.int r12.1]
    refine z_if_eq (tgt := 77) C dX7_scanPerson_61 (by decide) (fun h14 => ?_) (fun h14 => ?_)
    · replace hf := ifp hf h14
      refine z_iconst (v := 0) C dX7_scanPerson_77 (by decide) ?_
      exact z_zret C dX7_scanPerson_78 rfl rfl (by rw [← Option.some.inj hf])
    · replace hf := ifn hf h14
      refine z_aload_n C dX7_scanPerson_64 0 rfl ?_
      refine z_bipush (v := 59) C dX7_scanPerson_65 (by decide) ?_
      obtain ⟨r15, h16, hf⟩ := bd_some hf
      refine z_callV (Y2 := YX7_pass) (CC := RX7) (T := TX7) (N := 4) (ci := 6) (As := [.int 59]) C lk_X7_pass (by decide) wc_rd rfl t_314 t_316 p_3 (Nat.le_of_ble_eq_true rfl) (Nat.le_of_ble_eq_true rfl) dX7_scanPerson_67 (Nat.le_of_ble_eq_true rfl) rfl rfl (m_X7_pass X.2.1 E N 59 r12.2 _ h16) ?_
      change Zz E X YX7_scanPerson (some (.int R.1), R.2) r15.2 _ _ [.int r15.1]
      refine z_if_eq (tgt := 77) C dX7_scanPerson_70 (by decide) (fun h17 => ?_) (fun h17 => ?_)
      · replace hf := ifp hf h17
        refine z_iconst (v := 0) C dX7_scanPerson_77 (by decide) ?_
        exact z_zret C dX7_scanPerson_78 rfl rfl (by rw [← Option.some.inj hf])
      · replace hf := ifn hf h17
        refine z_iconst (v := 1) C dX7_scanPerson_73 (by decide) ?_
        refine z_goto (tgt := 78) C dX7_scanPerson_74 (by decide) ?_
        exact z_zret C dX7_scanPerson_78 rfl rfl (by rw [← Option.some.inj hf])
theorem lk_X7_scanPerson {Y : Yv} : Lk Y YX7_scanPerson 0 := ⟨t_322, t_5, ⟨by decide +kernel, by decide +kernel⟩, by decide +kernel⟩
abbrev YX7_scanKind : Yv := (yX7_scanKind, cX7_scanKind, 2, some .boolean, 4, 85)
def f_X7_scanKind_B2 (N : Nat) (rec : Int32 → Sg → Option ((Sg) ⊕ (Int32 × Sg))) (a1 : Int32) (σ : Sg) : Option ((Sg) ⊕ (Int32 × Sg)) :=
  if 5 ≤ a1 then (some (.inl σ)) else (ga a1 5 ((f_X7_pass N (kch a1) σ).bind (fun r3 => if r3.1 = 0 then (rec (a1 + 1) r3.2) else (ga 0 5 (nm (sgs r3.2 52 (Int32.toNatClampNeg 0) a1) (fun σ7 => some (.inr (1, σ7))))))))
def f_X7_scanKind_L2 (N : Nat) : Nat → Int32 → Sg → Option ((Sg) ⊕ (Int32 × Sg))
  | 0 => fun _ _ => none
  | k + 1 => fun a1 σ => f_X7_scanKind_B2 N (f_X7_scanKind_L2 N k) a1 σ
def f_X7_scanKind (N : Nat) (σ : Sg) : Option (Int32 × Sg) :=
  ex1 (f_X7_scanKind_L2 N N 0 σ) (fun s9 => some (0, s9)) (fun r10 => some r10)
set_option maxHeartbeats 4000000 in
set_option maxRecDepth 20000 in
theorem m_X7_scanKind (l : Launch) (E : Ev) (N : Nat) (σ : Sg) (R : Int32 × Sg) (hf : f_X7_scanKind N σ = some R) : Ct l E YX7_scanKind [.ref (E.2.1 33)] σ (some (.int R.1), R.2) := by
  refine ct_of (by decide +kernel) (Nat.le_of_ble_eq_true rfl) [(0, .ref (E.2.1 33))] rfl (fun X hX C => ?_)
  have hL2 : ∀ (k : Nat) (a1 : Int32) (σ : Sg) (Q2 : (Sg) ⊕ (Int32 × Sg)), f_X7_scanKind_L2 N k a1 σ = some Q2 → (∀ S, Q2 = .inl S → Zz E X YX7_scanKind (some (.int R.1), R.2) S 39 [] []) → (∀ r, Q2 = .inr r → ((some (.int R.1), R.2) : Pv) = (some (.int r.1), r.2)) → Zz E X YX7_scanKind (some (.int R.1), R.2) σ 2 [(0, .ref (E.2.1 33)), (1, .int a1)] [] := by
    intro k
    induction k with
    | zero =>
      intro a1 σ Q2 hf
      have hf : (none : Option ((Sg) ⊕ (Int32 × Sg))) = some Q2 := hf
      cases hf
    | succ k ih =>
      intro a1 σ Q2 hf hx2 hr2
      have hf : f_X7_scanKind_B2 N (f_X7_scanKind_L2 N k) a1 σ = some Q2 := hf
      unfold f_X7_scanKind_B2 at hf
      refine z_iload_n C dX7_scanKind_2 1 rfl ?_
      refine z_ldcS C rfl dX7_scanKind_3 ?_
      refine z_callT (Y2 := YJ0_length_8abf5) (As := []) C lk_J0_length_8abf5 t_336 t_337 t_338 (Nat.le_of_ble_eq_true rfl) (Nat.le_of_ble_eq_true rfl) dX7_scanKind_5 (Nat.le_of_ble_eq_true rfl) rfl rfl (m_J0_length_8abf5 X.2.1 E σ) ?_
      change Zz E X YX7_scanKind (some (.int R.1), R.2) σ _ _ [.int 5, .int a1]
      refine z_icmp_ge (tgt := 39) C dX7_scanKind_8 (by decide) (fun h1 => ?_) (fun h1 => ?_)
      · replace hf := ifp hf h1
        refine z_sub [] [] rfl ?_
        exact hx2 _ (Option.some.inj hf).symm
      · replace hf := ifn hf h1
        refine z_aload_n C dX7_scanKind_11 0 rfl ?_
        refine z_ldcS C rfl dX7_scanKind_12 ?_
        refine z_iload_n C dX7_scanKind_14 1 rfl ?_
        obtain ⟨h2, hf⟩ := ga_some hf
        refine z_callT (Y2 := YJ0_charAt_5068e) (As := [.int a1]) C lk_J0_charAt_5068e t_346 t_347 t_348 (Nat.le_of_ble_eq_true rfl) (Nat.le_of_ble_eq_true rfl) dX7_scanKind_15 (Nat.le_of_ble_eq_true rfl) rfl rfl (m_J0_charAt_5068e X.2.1 E σ a1 h2) ?_
        change Zz E X YX7_scanKind (some (.int R.1), R.2) σ _ _ [.int (kch a1), .ref (E.2.1 33)]
        obtain ⟨r3, h4, hf⟩ := bd_some hf
        refine z_callV (Y2 := YX7_pass) (CC := RX7) (T := TX7) (N := 4) (ci := 6) (As := [.int (kch a1)]) C lk_X7_pass (by decide) wc_rd rfl t_314 t_316 p_3 (Nat.le_of_ble_eq_true rfl) (Nat.le_of_ble_eq_true rfl) dX7_scanKind_18 (Nat.le_of_ble_eq_true rfl) rfl rfl (m_X7_pass X.2.1 E N (kch a1) σ _ h4) ?_
        change Zz E X YX7_scanKind (some (.int R.1), R.2) r3.2 _ _ [.int r3.1]
        refine z_if_eq (tgt := 33) C dX7_scanKind_21 (by decide) (fun h5 => ?_) (fun h5 => ?_)
        · replace hf := ifp hf h5
          refine z_iinc (v := (a1 + 1)) (lv' := [(1, .int (a1 + 1)), (0, .ref (E.2.1 33))]) C dX7_scanKind_33 1 rfl rfl (by decide) rfl ?_
          refine z_goto (tgt := 2) C dX7_scanKind_36 (by decide) ?_
          refine z_sub [(0, .ref (E.2.1 33)), (1, .int (a1 + 1))] [1, 0] rfl ?_
          exact ih (a1 + 1) r3.2 _ hf hx2 hr2
        · replace hf := ifn hf h5
          refine z_aload_n C dX7_scanKind_24 0 rfl ?_
          refine z_get (v := .ref (E.2.1 52)) (T := TX7) (N := 4) (ci := 6) C (by decide) wc_rd rfl in_X7 2 (by decide) t_146 rfl dX7_scanKind_25 ?_
          refine z_iconst (v := 0) C dX7_scanKind_28 (by decide) ?_
          refine z_iload_n C dX7_scanKind_29 1 rfl ?_
          obtain ⟨h6, hf⟩ := ga_some hf
          obtain ⟨σ7, h8, hf⟩ := nm_some hf
          refine z_iast C ka_52 h6 dX7_scanKind_30 ?_
          rw [← h8]
          refine z_iconst (v := 1) C dX7_scanKind_31 (by decide) ?_
          have hq := hr2 _ (Option.some.inj hf).symm
          exact z_zret C dX7_scanKind_32 rfl rfl hq
  unfold f_X7_scanKind at hf
  refine z_iconst (v := 0) C dX7_scanKind_0 (by decide) ?_
  refine z_istore_n (lv' := [(1, .int 0), (0, .ref (E.2.1 33))]) C dX7_scanKind_1 (by decide) rfl ?_
  refine z_sub [(0, .ref (E.2.1 33)), (1, .int 0)] [1, 0] rfl ?_
  rcases ex1_some hf with ⟨s9, h11, hf⟩ | ⟨r10, h11, hf⟩
  · refine hL2 N 0 σ _ h11 (fun S e => ?_) (fun _ e => nomatch e)
    cases e
    refine z_iconst (v := 0) C dX7_scanKind_39 (by decide) ?_
    exact z_zret C dX7_scanKind_40 rfl rfl (by rw [← Option.some.inj hf])
  · refine hL2 N 0 σ _ h11 (fun _ e => nomatch e) (fun r e => ?_)
    cases e
    exact (by rw [← Option.some.inj hf])
theorem lk_X7_scanKind {Y : Yv} : Lk Y YX7_scanKind 0 := ⟨t_334, t_5, ⟨by decide +kernel, by decide +kernel⟩, by decide +kernel⟩
abbrev YX7_scanAmounts : Yv := (yX7_scanAmounts, cX7_scanAmounts, 3, some .boolean, 2, 43)
def f_X7_scanAmounts_B4 (N : Nat) (rec : Int32 → Int32 → Sg → Option (Int32 × Sg)) (a1 a2 : Int32) (σ : Sg) : Option (Int32 × Sg) :=
  if 4 ≤ a2 then (some (a1, σ)) else (if a1 = 0 then (some (a1, σ)) else ((f_X7_scanDigit N a2 σ).bind (fun r3 => rec r3.1 (a2 + 1) r3.2)))
def f_X7_scanAmounts_L4 (N : Nat) : Nat → Int32 → Int32 → Sg → Option (Int32 × Sg)
  | 0 => fun _ _ _ => none
  | k + 1 => fun a1 a2 σ => f_X7_scanAmounts_B4 N (f_X7_scanAmounts_L4 N k) a1 a2 σ
def f_X7_scanAmounts (N : Nat) (σ : Sg) : Option (Int32 × Sg) :=
  (f_X7_scanAmounts_L4 N N 1 0 σ).bind (fun s5 => if s5.1 = 0 then (some (0, s5.2)) else ((f_X7_pass N 59 s5.2).bind (fun r7 => if r7.1 = 0 then (some (0, r7.2)) else (some (1, r7.2)))))
set_option maxHeartbeats 4000000 in
set_option maxRecDepth 20000 in
theorem m_X7_scanAmounts (l : Launch) (E : Ev) (N : Nat) (σ : Sg) (R : Int32 × Sg) (hf : f_X7_scanAmounts N σ = some R) : Ct l E YX7_scanAmounts [.ref (E.2.1 33)] σ (some (.int R.1), R.2) := by
  refine ct_of (by decide +kernel) (Nat.le_of_ble_eq_true rfl) [(0, .ref (E.2.1 33))] rfl (fun X hX C => ?_)
  have hL4 : ∀ (k : Nat) (a1 a2 : Int32) (σ : Sg) (Q4 : Int32 × Sg), f_X7_scanAmounts_L4 N k a1 a2 σ = some Q4 → (Zz E X YX7_scanAmounts (some (.int R.1), R.2) Q4.2 25 [(0, .ref (E.2.1 33)), (1, .int Q4.1)] []) → Zz E X YX7_scanAmounts (some (.int R.1), R.2) σ 4 [(0, .ref (E.2.1 33)), (1, .int a1), (2, .int a2)] [] := by
    intro k
    induction k with
    | zero =>
      intro a1 a2 σ Q4 hf
      have hf : (none : Option (Int32 × Sg)) = some Q4 := hf
      cases hf
    | succ k ih =>
      intro a1 a2 σ Q4 hf hx4
      have hf : f_X7_scanAmounts_B4 N (f_X7_scanAmounts_L4 N k) a1 a2 σ = some Q4 := hf
      unfold f_X7_scanAmounts_B4 at hf
      refine z_iload_n C dX7_scanAmounts_4 2 rfl ?_
      refine z_iconst (v := 4) C dX7_scanAmounts_5 (by decide) ?_
      refine z_icmp_ge (tgt := 25) C dX7_scanAmounts_6 (by decide) (fun h1 => ?_) (fun h1 => ?_)
      · replace hf := ifp hf h1
        refine z_sub [(0, .ref (E.2.1 33)), (1, .int a1)] [0, 1] rfl ?_
        obtain rfl := Option.some.inj hf
        exact hx4
      · replace hf := ifn hf h1
        refine z_iload_n C dX7_scanAmounts_9 1 rfl ?_
        refine z_if_eq (tgt := 25) C dX7_scanAmounts_10 (by decide) (fun h2 => ?_) (fun h2 => ?_)
        · replace hf := ifp hf h2
          refine z_sub [(0, .ref (E.2.1 33)), (1, .int a1)] [0, 1] rfl ?_
          obtain rfl := Option.some.inj hf
          exact hx4
        · replace hf := ifn hf h2
          refine z_aload_n C dX7_scanAmounts_13 0 rfl ?_
          refine z_iload_n C dX7_scanAmounts_14 2 rfl ?_
          obtain ⟨r3, h4, hf⟩ := bd_some hf
          refine z_callV (Y2 := YX7_scanDigit) (CC := RX7) (T := TX7) (N := 4) (ci := 6) (As := [.int a2]) C lk_X7_scanDigit (by decide) wc_rd rfl t_327 t_329 p_6 (Nat.le_of_ble_eq_true rfl) (Nat.le_of_ble_eq_true rfl) dX7_scanAmounts_15 (Nat.le_of_ble_eq_true rfl) rfl rfl (m_X7_scanDigit X.2.1 E N a2 σ _ h4) ?_
          change Zz E X YX7_scanAmounts (some (.int R.1), R.2) r3.2 _ _ [.int r3.1]
          refine z_istore_n (lv' := [(1, .int r3.1), (0, .ref (E.2.1 33)), (2, .int a2)]) C dX7_scanAmounts_18 (by decide) rfl ?_
          refine z_iinc (v := (a2 + 1)) (lv' := [(2, .int (a2 + 1)), (1, .int r3.1), (0, .ref (E.2.1 33))]) C dX7_scanAmounts_19 2 rfl rfl (by decide) rfl ?_
          refine z_goto (tgt := 4) C dX7_scanAmounts_22 (by decide) ?_
          refine z_sub [(0, .ref (E.2.1 33)), (1, .int r3.1), (2, .int (a2 + 1))] [2, 1, 0] rfl ?_
          exact ih r3.1 (a2 + 1) r3.2 _ hf hx4
  unfold f_X7_scanAmounts at hf
  refine z_iconst (v := 1) C dX7_scanAmounts_0 (by decide) ?_
  refine z_istore_n (lv' := [(1, .int 1), (0, .ref (E.2.1 33))]) C dX7_scanAmounts_1 (by decide) rfl ?_
  refine z_iconst (v := 0) C dX7_scanAmounts_2 (by decide) ?_
  refine z_istore_n (lv' := [(2, .int 0), (1, .int 1), (0, .ref (E.2.1 33))]) C dX7_scanAmounts_3 (by decide) rfl ?_
  refine z_sub [(0, .ref (E.2.1 33)), (1, .int 1), (2, .int 0)] [2, 1, 0] rfl ?_
  obtain ⟨s5, h10, hf⟩ := bd_some hf
  refine hL4 N 1 0 σ _ h10 ?_
  refine z_iload_n C dX7_scanAmounts_25 1 rfl ?_
  refine z_if_eq (tgt := 42) C dX7_scanAmounts_26 (by decide) (fun h6 => ?_) (fun h6 => ?_)
  · replace hf := ifp hf h6
    refine z_iconst (v := 0) C dX7_scanAmounts_42 (by decide) ?_
    exact z_zret C dX7_scanAmounts_43 rfl rfl (by rw [← Option.some.inj hf])
  · replace hf := ifn hf h6
    refine z_aload_n C dX7_scanAmounts_29 0 rfl ?_
    refine z_bipush (v := 59) C dX7_scanAmounts_30 (by decide) ?_
    obtain ⟨r7, h8, hf⟩ := bd_some hf
    refine z_callV (Y2 := YX7_pass) (CC := RX7) (T := TX7) (N := 4) (ci := 6) (As := [.int 59]) C lk_X7_pass (by decide) wc_rd rfl t_314 t_316 p_3 (Nat.le_of_ble_eq_true rfl) (Nat.le_of_ble_eq_true rfl) dX7_scanAmounts_32 (Nat.le_of_ble_eq_true rfl) rfl rfl (m_X7_pass X.2.1 E N 59 s5.2 _ h8) ?_
    change Zz E X YX7_scanAmounts (some (.int R.1), R.2) r7.2 _ _ [.int r7.1]
    refine z_if_eq (tgt := 42) C dX7_scanAmounts_35 (by decide) (fun h9 => ?_) (fun h9 => ?_)
    · replace hf := ifp hf h9
      refine z_iconst (v := 0) C dX7_scanAmounts_42 (by decide) ?_
      exact z_zret C dX7_scanAmounts_43 rfl rfl (by rw [← Option.some.inj hf])
    · replace hf := ifn hf h9
      refine z_iconst (v := 1) C dX7_scanAmounts_38 (by decide) ?_
      refine z_goto (tgt := 43) C dX7_scanAmounts_39 (by decide) ?_
      exact z_zret C dX7_scanAmounts_43 rfl rfl (by rw [← Option.some.inj hf])
theorem lk_X7_scanAmounts {Y : Yv} : Lk Y YX7_scanAmounts 0 := ⟨t_387, t_5, ⟨by decide +kernel, by decide +kernel⟩, by decide +kernel⟩
abbrev YX7_scanStatement : Yv := (yX7_scanStatement, cX7_scanStatement, 1, some .boolean, 5, 106)
def f_X7_scanStatement (N : Nat) (σ : Sg) : Option (Int32 × Sg) :=
  (f_X7_pass N 112 σ).bind (fun r1 => if r1.1 = 0 then ((f_X7_pass N 119 r1.2).bind (fun r4 => if r4.1 = 0 then ((f_X7_pass N 108 r4.2).bind (fun r7 => if r7.1 = 0 then (some (0, r7.2)) else ((f_X7_scanAmounts N r7.2).bind (fun r10 => if r10.1 = 0 then (some (0, r10.2)) else (some (1, r10.2)))))) else ((f_X7_scanKind N r4.2).bind (fun r13 => if r13.1 = 0 then (some (0, r13.2)) else ((f_X7_scanDigit N 1 r13.2).bind (fun r16 => if r16.1 = 0 then (some (0, r16.2)) else ((f_X7_pass N 59 r16.2).bind (fun r19 => if r19.1 = 0 then (some (0, r19.2)) else (some (1, r19.2)))))))))) else ((f_X7_scanPerson N r1.2).bind (fun r22 => gb r22.1 (some (r22.1, r22.2)))))
set_option maxHeartbeats 4000000 in
set_option maxRecDepth 20000 in
theorem m_X7_scanStatement (l : Launch) (E : Ev) (N : Nat) (σ : Sg) (R : Int32 × Sg) (hf : f_X7_scanStatement N σ = some R) : Ct l E YX7_scanStatement [.ref (E.2.1 33)] σ (some (.int R.1), R.2) := by
  refine ct_of (by decide +kernel) (Nat.le_of_ble_eq_true rfl) [(0, .ref (E.2.1 33))] rfl (fun X hX C => ?_)
  unfold f_X7_scanStatement at hf
  refine z_aload_n C dX7_scanStatement_0 0 rfl ?_
  refine z_bipush (v := 112) C dX7_scanStatement_1 (by decide) ?_
  obtain ⟨r1, h2, hf⟩ := bd_some hf
  refine z_callV (Y2 := YX7_pass) (CC := RX7) (T := TX7) (N := 4) (ci := 6) (As := [.int 112]) C lk_X7_pass (by decide) wc_rd rfl t_314 t_316 p_3 (Nat.le_of_ble_eq_true rfl) (Nat.le_of_ble_eq_true rfl) dX7_scanStatement_3 (Nat.le_of_ble_eq_true rfl) rfl rfl (m_X7_pass X.2.1 E N 112 σ _ h2) ?_
  change Zz E X YX7_scanStatement (some (.int R.1), R.2) r1.2 _ _ [.int r1.1]
  refine z_if_eq (tgt := 14) C dX7_scanStatement_6 (by decide) (fun h3 => ?_) (fun h3 => ?_)
  · replace hf := ifp hf h3
    refine z_aload_n C dX7_scanStatement_14 0 rfl ?_
    refine z_bipush (v := 119) C dX7_scanStatement_15 (by decide) ?_
    obtain ⟨r4, h5, hf⟩ := bd_some hf
    refine z_callV (Y2 := YX7_pass) (CC := RX7) (T := TX7) (N := 4) (ci := 6) (As := [.int 119]) C lk_X7_pass (by decide) wc_rd rfl t_314 t_316 p_3 (Nat.le_of_ble_eq_true rfl) (Nat.le_of_ble_eq_true rfl) dX7_scanStatement_17 (Nat.le_of_ble_eq_true rfl) rfl rfl (m_X7_pass X.2.1 E N 119 r1.2 _ h5) ?_
    change Zz E X YX7_scanStatement (some (.int R.1), R.2) r4.2 _ _ [.int r4.1]
    refine z_if_eq (tgt := 53) C dX7_scanStatement_20 (by decide) (fun h6 => ?_) (fun h6 => ?_)
    · replace hf := ifp hf h6
      refine z_aload_n C dX7_scanStatement_53 0 rfl ?_
      refine z_bipush (v := 108) C dX7_scanStatement_54 (by decide) ?_
      obtain ⟨r7, h8, hf⟩ := bd_some hf
      refine z_callV (Y2 := YX7_pass) (CC := RX7) (T := TX7) (N := 4) (ci := 6) (As := [.int 108]) C lk_X7_pass (by decide) wc_rd rfl t_314 t_316 p_3 (Nat.le_of_ble_eq_true rfl) (Nat.le_of_ble_eq_true rfl) dX7_scanStatement_56 (Nat.le_of_ble_eq_true rfl) rfl rfl (m_X7_pass X.2.1 E N 108 r4.2 _ h8) ?_
      change Zz E X YX7_scanStatement (some (.int R.1), R.2) r7.2 _ _ [.int r7.1]
      refine z_if_eq (tgt := 73) C dX7_scanStatement_59 (by decide) (fun h9 => ?_) (fun h9 => ?_)
      · replace hf := ifp hf h9
        refine z_iconst (v := 0) C dX7_scanStatement_73 (by decide) ?_
        exact z_zret C dX7_scanStatement_74 rfl rfl (by rw [← Option.some.inj hf])
      · replace hf := ifn hf h9
        refine z_aload_n C dX7_scanStatement_62 0 rfl ?_
        obtain ⟨r10, h11, hf⟩ := bd_some hf
        refine z_callV (Y2 := YX7_scanAmounts) (CC := RX7) (T := TX7) (N := 4) (ci := 6) (As := []) C lk_X7_scanAmounts (by decide) wc_rd rfl t_384 t_386 p_8 (Nat.le_of_ble_eq_true rfl) (Nat.le_of_ble_eq_true rfl) dX7_scanStatement_63 (Nat.le_of_ble_eq_true rfl) rfl rfl (m_X7_scanAmounts X.2.1 E N r7.2 _ h11) ?_
        change Zz E X YX7_scanStatement (some (.int R.1), R.2) r10.2 _ _ [.int r10.1]
        refine z_if_eq (tgt := 73) C dX7_scanStatement_66 (by decide) (fun h12 => ?_) (fun h12 => ?_)
        · replace hf := ifp hf h12
          refine z_iconst (v := 0) C dX7_scanStatement_73 (by decide) ?_
          exact z_zret C dX7_scanStatement_74 rfl rfl (by rw [← Option.some.inj hf])
        · replace hf := ifn hf h12
          refine z_iconst (v := 1) C dX7_scanStatement_69 (by decide) ?_
          refine z_goto (tgt := 74) C dX7_scanStatement_70 (by decide) ?_
          exact z_zret C dX7_scanStatement_74 rfl rfl (by rw [← Option.some.inj hf])
    · replace hf := ifn hf h6
      refine z_aload_n C dX7_scanStatement_23 0 rfl ?_
      obtain ⟨r13, h14, hf⟩ := bd_some hf
      refine z_callV (Y2 := YX7_scanKind) (CC := RX7) (T := TX7) (N := 4) (ci := 6) (As := []) C lk_X7_scanKind (by decide) wc_rd rfl t_331 t_333 p_7 (Nat.le_of_ble_eq_true rfl) (Nat.le_of_ble_eq_true rfl) dX7_scanStatement_24 (Nat.le_of_ble_eq_true rfl) rfl rfl (m_X7_scanKind X.2.1 E N r4.2 _ h14) ?_
      change Zz E X YX7_scanStatement (some (.int R.1), R.2) r13.2 _ _ [.int r13.1]
      refine z_if_eq (tgt := 51) C dX7_scanStatement_27 (by decide) (fun h15 => ?_) (fun h15 => ?_)
      · replace hf := ifp hf h15
        refine z_iconst (v := 0) C dX7_scanStatement_51 (by decide) ?_
        exact z_zret C dX7_scanStatement_52 rfl rfl (by rw [← Option.some.inj hf])
      · replace hf := ifn hf h15
        refine z_aload_n C dX7_scanStatement_30 0 rfl ?_
        refine z_iconst (v := 1) C dX7_scanStatement_31 (by decide) ?_
        obtain ⟨r16, h17, hf⟩ := bd_some hf
        refine z_callV (Y2 := YX7_scanDigit) (CC := RX7) (T := TX7) (N := 4) (ci := 6) (As := [.int 1]) C lk_X7_scanDigit (by decide) wc_rd rfl t_327 t_329 p_6 (Nat.le_of_ble_eq_true rfl) (Nat.le_of_ble_eq_true rfl) dX7_scanStatement_32 (Nat.le_of_ble_eq_true rfl) rfl rfl (m_X7_scanDigit X.2.1 E N 1 r13.2 _ h17) ?_
        change Zz E X YX7_scanStatement (some (.int R.1), R.2) r16.2 _ _ [.int r16.1]
        refine z_if_eq (tgt := 51) C dX7_scanStatement_35 (by decide) (fun h18 => ?_) (fun h18 => ?_)
        · replace hf := ifp hf h18
          refine z_iconst (v := 0) C dX7_scanStatement_51 (by decide) ?_
          exact z_zret C dX7_scanStatement_52 rfl rfl (by rw [← Option.some.inj hf])
        · replace hf := ifn hf h18
          refine z_aload_n C dX7_scanStatement_38 0 rfl ?_
          refine z_bipush (v := 59) C dX7_scanStatement_39 (by decide) ?_
          obtain ⟨r19, h20, hf⟩ := bd_some hf
          refine z_callV (Y2 := YX7_pass) (CC := RX7) (T := TX7) (N := 4) (ci := 6) (As := [.int 59]) C lk_X7_pass (by decide) wc_rd rfl t_314 t_316 p_3 (Nat.le_of_ble_eq_true rfl) (Nat.le_of_ble_eq_true rfl) dX7_scanStatement_41 (Nat.le_of_ble_eq_true rfl) rfl rfl (m_X7_pass X.2.1 E N 59 r16.2 _ h20) ?_
          change Zz E X YX7_scanStatement (some (.int R.1), R.2) r19.2 _ _ [.int r19.1]
          refine z_if_eq (tgt := 51) C dX7_scanStatement_44 (by decide) (fun h21 => ?_) (fun h21 => ?_)
          · replace hf := ifp hf h21
            refine z_iconst (v := 0) C dX7_scanStatement_51 (by decide) ?_
            exact z_zret C dX7_scanStatement_52 rfl rfl (by rw [← Option.some.inj hf])
          · replace hf := ifn hf h21
            refine z_iconst (v := 1) C dX7_scanStatement_47 (by decide) ?_
            refine z_goto (tgt := 52) C dX7_scanStatement_48 (by decide) ?_
            exact z_zret C dX7_scanStatement_52 rfl rfl (by rw [← Option.some.inj hf])
  · replace hf := ifn hf h3
    refine z_aload_n C dX7_scanStatement_9 0 rfl ?_
    obtain ⟨r22, h23, hf⟩ := bd_some hf
    refine z_callV (Y2 := YX7_scanPerson) (CC := RX7) (T := TX7) (N := 4) (ci := 6) (As := []) C lk_X7_scanPerson (by decide) wc_rd rfl t_319 t_321 p_4 (Nat.le_of_ble_eq_true rfl) (Nat.le_of_ble_eq_true rfl) dX7_scanStatement_10 (Nat.le_of_ble_eq_true rfl) rfl rfl (m_X7_scanPerson X.2.1 E N r1.2 _ h23) ?_
    change Zz E X YX7_scanStatement (some (.int R.1), R.2) r22.2 _ _ [.int r22.1]
    obtain ⟨h24, hf⟩ := gb_some hf
    exact z_zret C dX7_scanStatement_13 rfl h24 (by rw [← Option.some.inj hf])
theorem lk_X7_scanStatement {Y : Yv} : Lk Y YX7_scanStatement 0 := ⟨t_313, t_5, ⟨by decide +kernel, by decide +kernel⟩, by decide +kernel⟩
abbrev YX7_isShaped : Yv := (yX7_isShaped, cX7_isShaped, 3, some .boolean, 6, 126)
def f_X7_isShaped_B12 (N : Nat) (rec : Int32 → Int32 → Sg → Option (Int32 × Sg)) (a1 a2 : Int32) (σ : Sg) : Option (Int32 × Sg) :=
  if 64 ≤ a2 then (some (a1, σ)) else (if a1 = 0 then (some (a1, σ)) else (if (σ 34 1) ≤ (σ 33 3) then (some (a1, σ)) else ((f_X7_scanStatement N σ).bind (fun r8 => rec r8.1 (a2 + 1) r8.2))))
def f_X7_isShaped_L12 (N : Nat) : Nat → Int32 → Int32 → Sg → Option (Int32 × Sg)
  | 0 => fun _ _ _ => none
  | k + 1 => fun a1 a2 σ => f_X7_isShaped_B12 N (f_X7_isShaped_L12 N k) a1 a2 σ
def f_X7_isShaped (N : Nat) (σ : Sg) : Option (Int32 × Sg) :=
  nm (sgs σ 33 3 0) (fun σ1 => (f_X7_scanStatement N σ1).bind (fun r3 => (f_X7_isShaped_L12 N N r3.1 0 r3.2).bind (fun s10 => gb s10.1 (some (s10.1, s10.2)))))
set_option maxHeartbeats 4000000 in
set_option maxRecDepth 20000 in
theorem m_X7_isShaped (l : Launch) (E : Ev) (N : Nat) (σ : Sg) (R : Int32 × Sg) (hf : f_X7_isShaped N σ = some R) : Ct l E YX7_isShaped [.ref (E.2.1 33)] σ (some (.int R.1), R.2) := by
  refine ct_of (by decide +kernel) (Nat.le_of_ble_eq_true rfl) [(0, .ref (E.2.1 33))] rfl (fun X hX C => ?_)
  have hL12 : ∀ (k : Nat) (a1 a2 : Int32) (σ : Sg) (Q12 : Int32 × Sg), f_X7_isShaped_L12 N k a1 a2 σ = some Q12 → (Zz E X YX7_isShaped (some (.int R.1), R.2) Q12.2 47 [(1, .int Q12.1)] []) → Zz E X YX7_isShaped (some (.int R.1), R.2) σ 12 [(0, .ref (E.2.1 33)), (1, .int a1), (2, .int a2)] [] := by
    intro k
    induction k with
    | zero =>
      intro a1 a2 σ Q12 hf
      have hf : (none : Option (Int32 × Sg)) = some Q12 := hf
      cases hf
    | succ k ih =>
      intro a1 a2 σ Q12 hf hx12
      have hf : f_X7_isShaped_B12 N (f_X7_isShaped_L12 N k) a1 a2 σ = some Q12 := hf
      unfold f_X7_isShaped_B12 at hf
      refine z_iload_n C dX7_isShaped_12 2 rfl ?_
      refine z_bipush (v := 64) C dX7_isShaped_13 (by decide) ?_
      refine z_icmp_ge (tgt := 47) C dX7_isShaped_15 (by decide) (fun h5 => ?_) (fun h5 => ?_)
      · replace hf := ifp hf h5
        refine z_sub [(1, .int a1)] [1] rfl ?_
        obtain rfl := Option.some.inj hf
        exact hx12
      · replace hf := ifn hf h5
        refine z_iload_n C dX7_isShaped_18 1 rfl ?_
        refine z_if_eq (tgt := 47) C dX7_isShaped_19 (by decide) (fun h6 => ?_) (fun h6 => ?_)
        · replace hf := ifp hf h6
          refine z_sub [(1, .int a1)] [1] rfl ?_
          obtain rfl := Option.some.inj hf
          exact hx12
        · replace hf := ifn hf h6
          refine z_aload_n C dX7_isShaped_22 0 rfl ?_
          refine z_get (v := .int (σ 33 3)) (T := TX7) (N := 4) (ci := 6) C (by decide) wc_rd rfl in_X7 3 (by decide) t_147 rfl dX7_isShaped_23 ?_
          refine z_aload_n C dX7_isShaped_26 0 rfl ?_
          refine z_get (v := .ref (E.2.1 34)) (T := TX7) (N := 4) (ci := 6) C (by decide) wc_rd rfl in_X7 0 (by decide) t_143 rfl dX7_isShaped_27 ?_
          refine z_getN (v := .int (σ 34 1)) (T := TX4) (N := 2) (ci := 3) C (lt_nu nu_34) (wc_nu nu_34) rfl in_X4 1 (by decide) n_70 rfl dX7_isShaped_30 ?_
          refine z_icmp_ge (tgt := 47) C dX7_isShaped_33 (by decide) (fun h7 => ?_) (fun h7 => ?_)
          · replace hf := ifp hf h7
            refine z_sub [(1, .int a1)] [1] rfl ?_
            obtain rfl := Option.some.inj hf
            exact hx12
          · replace hf := ifn hf h7
            refine z_aload_n C dX7_isShaped_36 0 rfl ?_
            obtain ⟨r8, h9, hf⟩ := bd_some hf
            refine z_callV (Y2 := YX7_scanStatement) (CC := RX7) (T := TX7) (N := 4) (ci := 6) (As := []) C lk_X7_scanStatement (by decide) wc_rd rfl t_310 t_312 p_2 (Nat.le_of_ble_eq_true rfl) (Nat.le_of_ble_eq_true rfl) dX7_isShaped_37 (Nat.le_of_ble_eq_true rfl) rfl rfl (m_X7_scanStatement X.2.1 E N σ _ h9) ?_
            change Zz E X YX7_isShaped (some (.int R.1), R.2) r8.2 _ _ [.int r8.1]
            refine z_istore_n (lv' := [(1, .int r8.1), (0, .ref (E.2.1 33)), (2, .int a2)]) C dX7_isShaped_40 (by decide) rfl ?_
            refine z_iinc (v := (a2 + 1)) (lv' := [(2, .int (a2 + 1)), (1, .int r8.1), (0, .ref (E.2.1 33))]) C dX7_isShaped_41 2 rfl rfl (by decide) rfl ?_
            refine z_goto (tgt := 12) C dX7_isShaped_44 (by decide) ?_
            refine z_sub [(0, .ref (E.2.1 33)), (1, .int r8.1), (2, .int (a2 + 1))] [2, 1, 0] rfl ?_
            exact ih r8.1 (a2 + 1) r8.2 _ hf hx12
  unfold f_X7_isShaped at hf
  refine z_aload_n C dX7_isShaped_0 0 rfl ?_
  refine z_iconst (v := 0) C dX7_isShaped_1 (by decide) ?_
  obtain ⟨σ1, h2, hf⟩ := nm_some hf
  refine z_put (T := TX7) (N := 4) (ci := 6) (ty := .int) C tyX7 tyX7_ok nmX7 (by decide) wc_rd rfl in_X7 3 (by decide) t_147 rfl rfl rfl rfl (Nat.le_of_ble_eq_true rfl) (pw_X7_3) dX7_isShaped_2 ?_
  rw [← h2]
  refine z_aload_n C dX7_isShaped_5 0 rfl ?_
  obtain ⟨r3, h4, hf⟩ := bd_some hf
  refine z_callV (Y2 := YX7_scanStatement) (CC := RX7) (T := TX7) (N := 4) (ci := 6) (As := []) C lk_X7_scanStatement (by decide) wc_rd rfl t_310 t_312 p_2 (Nat.le_of_ble_eq_true rfl) (Nat.le_of_ble_eq_true rfl) dX7_isShaped_6 (Nat.le_of_ble_eq_true rfl) rfl rfl (m_X7_scanStatement X.2.1 E N σ1 _ h4) ?_
  change Zz E X YX7_isShaped (some (.int R.1), R.2) r3.2 _ _ [.int r3.1]
  refine z_istore_n (lv' := [(1, .int r3.1), (0, .ref (E.2.1 33))]) C dX7_isShaped_9 (by decide) rfl ?_
  refine z_iconst (v := 0) C dX7_isShaped_10 (by decide) ?_
  refine z_istore_n (lv' := [(2, .int 0), (1, .int r3.1), (0, .ref (E.2.1 33))]) C dX7_isShaped_11 (by decide) rfl ?_
  refine z_sub [(0, .ref (E.2.1 33)), (1, .int r3.1), (2, .int 0)] [2, 1, 0] rfl ?_
  obtain ⟨s10, h12, hf⟩ := bd_some hf
  refine hL12 N r3.1 0 r3.2 _ h12 ?_
  refine z_iload_n C dX7_isShaped_47 0 rfl ?_
  obtain ⟨h11, hf⟩ := gb_some hf
  exact z_zret C dX7_isShaped_48 rfl h11 (by rw [← Option.some.inj hf])
theorem lk_X7_isShaped {Y : Yv} : Lk Y YX7_isShaped 0 := ⟨t_309, t_5, ⟨by decide +kernel, by decide +kernel⟩, by decide +kernel⟩
abbrev YX7_areAtMost : Yv := (yX7_areAtMost, cX7_areAtMost, 3, some .boolean, 0, 0)
def f_X7_areAtMost_B2 (N : Nat) (rec : Int32 → Int32 → Sg → Option ((Sg) ⊕ (Int32 × Sg))) (a1 a2 : Int32) (σ : Sg) : Option ((Sg) ⊕ (Int32 × Sg)) :=
  if 4 ≤ a2 then (some (.inl σ)) else (ga a2 5 (if (σ 52 (Int32.toNatClampNeg a2)) ≤ a1 then (rec a1 (a2 + 1) σ) else (some (.inr (0, σ)))))
def f_X7_areAtMost_L2 (N : Nat) : Nat → Int32 → Int32 → Sg → Option ((Sg) ⊕ (Int32 × Sg))
  | 0 => fun _ _ _ => none
  | k + 1 => fun a1 a2 σ => f_X7_areAtMost_B2 N (f_X7_areAtMost_L2 N k) a1 a2 σ
def f_X7_areAtMost (N : Nat) (x1 : Int32) (σ : Sg) : Option (Int32 × Sg) :=
  ex1 (f_X7_areAtMost_L2 N N x1 0 σ) (fun s4 => some (1, s4)) (fun r5 => some r5)
set_option maxHeartbeats 4000000 in
set_option maxRecDepth 20000 in
theorem m_X7_areAtMost (l : Launch) (E : Ev) (N : Nat) (x1 : Int32) (σ : Sg) (R : Int32 × Sg) (hf : f_X7_areAtMost N x1 σ = some R) : Ct l E YX7_areAtMost [.ref (E.2.1 33), .int x1] σ (some (.int R.1), R.2) := by
  refine ct_of (by decide +kernel) (Nat.le_of_ble_eq_true rfl) [(0, .ref (E.2.1 33)), (1, .int x1)] rfl (fun X hX C => ?_)
  have hL2 : ∀ (k : Nat) (a1 a2 : Int32) (σ : Sg) (Q2 : (Sg) ⊕ (Int32 × Sg)), f_X7_areAtMost_L2 N k a1 a2 σ = some Q2 → (∀ S, Q2 = .inl S → Zz E X YX7_areAtMost (some (.int R.1), R.2) S 25 [] []) → (∀ r, Q2 = .inr r → ((some (.int R.1), R.2) : Pv) = (some (.int r.1), r.2)) → Zz E X YX7_areAtMost (some (.int R.1), R.2) σ 2 [(0, .ref (E.2.1 33)), (1, .int a1), (2, .int a2)] [] := by
    intro k
    induction k with
    | zero =>
      intro a1 a2 σ Q2 hf
      have hf : (none : Option ((Sg) ⊕ (Int32 × Sg))) = some Q2 := hf
      cases hf
    | succ k ih =>
      intro a1 a2 σ Q2 hf hx2 hr2
      have hf : f_X7_areAtMost_B2 N (f_X7_areAtMost_L2 N k) a1 a2 σ = some Q2 := hf
      unfold f_X7_areAtMost_B2 at hf
      refine z_iload_n C dX7_areAtMost_2 2 rfl ?_
      refine z_iconst (v := 4) C dX7_areAtMost_3 (by decide) ?_
      refine z_icmp_ge (tgt := 25) C dX7_areAtMost_4 (by decide) (fun h1 => ?_) (fun h1 => ?_)
      · replace hf := ifp hf h1
        refine z_sub [] [] rfl ?_
        exact hx2 _ (Option.some.inj hf).symm
      · replace hf := ifn hf h1
        refine z_aload_n C dX7_areAtMost_7 0 rfl ?_
        refine z_get (v := .ref (E.2.1 52)) (T := TX7) (N := 4) (ci := 6) C (by decide) wc_rd rfl in_X7 2 (by decide) t_146 rfl dX7_areAtMost_8 ?_
        refine z_iload_n C dX7_areAtMost_11 2 rfl ?_
        obtain ⟨h2, hf⟩ := ga_some hf
        refine z_iald C ka_52 h2 dX7_areAtMost_12 ?_
        refine z_iload_n C dX7_areAtMost_13 1 rfl ?_
        refine z_icmp_le (tgt := 19) C dX7_areAtMost_14 (by decide) (fun h3 => ?_) (fun h3 => ?_)
        · replace hf := ifp hf h3
          refine z_iinc (v := (a2 + 1)) (lv' := [(2, .int (a2 + 1)), (0, .ref (E.2.1 33)), (1, .int a1)]) C dX7_areAtMost_19 2 rfl rfl (by decide) rfl ?_
          refine z_goto (tgt := 2) C dX7_areAtMost_22 (by decide) ?_
          refine z_sub [(0, .ref (E.2.1 33)), (1, .int a1), (2, .int (a2 + 1))] [1, 2, 0] rfl ?_
          exact ih a1 (a2 + 1) σ _ hf hx2 hr2
        · replace hf := ifn hf h3
          refine z_iconst (v := 0) C dX7_areAtMost_17 (by decide) ?_
          have hq := hr2 _ (Option.some.inj hf).symm
          exact z_zret C dX7_areAtMost_18 rfl rfl hq
  unfold f_X7_areAtMost at hf
  refine z_iconst (v := 0) C dX7_areAtMost_0 (by decide) ?_
  refine z_istore_n (lv' := [(2, .int 0), (0, .ref (E.2.1 33)), (1, .int x1)]) C dX7_areAtMost_1 (by decide) rfl ?_
  refine z_sub [(0, .ref (E.2.1 33)), (1, .int x1), (2, .int 0)] [1, 2, 0] rfl ?_
  rcases ex1_some hf with ⟨s4, h6, hf⟩ | ⟨r5, h6, hf⟩
  · refine hL2 N x1 0 σ _ h6 (fun S e => ?_) (fun _ e => nomatch e)
    cases e
    refine z_iconst (v := 1) C dX7_areAtMost_25 (by decide) ?_
    exact z_zret C dX7_areAtMost_26 rfl rfl (by rw [← Option.some.inj hf])
  · refine hL2 N x1 0 σ _ h6 (fun _ e => nomatch e) (fun r e => ?_)
    cases e
    exact (by rw [← Option.some.inj hf])
theorem lk_X7_areAtMost {Y : Yv} : Lk Y YX7_areAtMost 1 := ⟨t_403, t_5, ⟨by decide +kernel, by decide +kernel⟩, by decide +kernel⟩
abbrev YX7_enterPerson : Yv := (yX7_enterPerson, cX7_enterPerson, 3, some .boolean, 2, 40)
def f_X7_enterPerson_B43 (N : Nat) (rec : Int32 → Int32 → Sg → Option (Sg)) (a1 a2 : Int32) (σ : Sg) : Option (Sg) :=
  if 4 ≤ a2 then (some σ) else (ga a2 5 ((f_X5_setLack N 37 a1 a2 (σ 52 (Int32.toNatClampNeg a2)) σ).bind (fun r10 => rec a1 (a2 + 1) r10)))
def f_X7_enterPerson_L43 (N : Nat) : Nat → Int32 → Int32 → Sg → Option (Sg)
  | 0 => fun _ _ _ => none
  | k + 1 => fun a1 a2 σ => f_X7_enterPerson_B43 N (f_X7_enterPerson_L43 N k) a1 a2 σ
def f_X7_enterPerson (N : Nat) (σ : Sg) : Option (Int32 × Sg) :=
  (f_X7_areAtMost N 30 σ).bind (fun r1 => if r1.1 = 0 then (some (0, r1.2)) else (ga 4 5 ((f_X5_enter N 37 (r1.2 52 (Int32.toNatClampNeg 4)) r1.2).bind (fun r5 => if r5.1 = 0 then (some (0, r5.2)) else ((f_X7_enterPerson_L43 N N (σ 37 2) 0 r5.2).bind (fun s12 => some (1, s12)))))))
set_option maxHeartbeats 4000000 in
set_option maxRecDepth 20000 in
theorem m_X7_enterPerson (l : Launch) (E : Ev) (N : Nat) (σ : Sg) (R : Int32 × Sg) (hf : f_X7_enterPerson N σ = some R) : Ct l E YX7_enterPerson [.ref (E.2.1 33)] σ (some (.int R.1), R.2) := by
  refine ct_of (by decide +kernel) (Nat.le_of_ble_eq_true rfl) [(0, .ref (E.2.1 33))] rfl (fun X hX C => ?_)
  have hL43 : ∀ (k : Nat) (a1 a2 : Int32) (σ : Sg) (Q43 : Sg), f_X7_enterPerson_L43 N k a1 a2 σ = some Q43 → (Zz E X YX7_enterPerson (some (.int R.1), R.2) Q43 72 [] []) → Zz E X YX7_enterPerson (some (.int R.1), R.2) σ 43 [(0, .ref (E.2.1 33)), (1, .int a1), (2, .int a2)] [] := by
    intro k
    induction k with
    | zero =>
      intro a1 a2 σ Q43 hf
      have hf : (none : Option (Sg)) = some Q43 := hf
      cases hf
    | succ k ih =>
      intro a1 a2 σ Q43 hf hx43
      have hf : f_X7_enterPerson_B43 N (f_X7_enterPerson_L43 N k) a1 a2 σ = some Q43 := hf
      unfold f_X7_enterPerson_B43 at hf
      refine z_iload_n C dX7_enterPerson_43 2 rfl ?_
      refine z_iconst (v := 4) C dX7_enterPerson_44 (by decide) ?_
      refine z_icmp_ge (tgt := 72) C dX7_enterPerson_45 (by decide) (fun h8 => ?_) (fun h8 => ?_)
      · replace hf := ifp hf h8
        refine z_sub [] [] rfl ?_
        obtain rfl := Option.some.inj hf
        exact hx43
      · replace hf := ifn hf h8
        refine z_aload_n C dX7_enterPerson_48 0 rfl ?_
        refine z_get (v := .ref (E.2.1 36)) (T := TX7) (N := 4) (ci := 6) C (by decide) wc_rd rfl in_X7 1 (by decide) t_145 rfl dX7_enterPerson_49 ?_
        refine z_getN (v := .ref (E.2.1 37)) (T := TX9) (N := 11) (ci := 8) C (lt_st st_36) (wc_st st_36) rfl in_X9 0 (by decide) n_79 rfl dX7_enterPerson_52 ?_
        refine z_iload_n C dX7_enterPerson_55 1 rfl ?_
        refine z_iload_n C dX7_enterPerson_56 2 rfl ?_
        refine z_aload_n C dX7_enterPerson_57 0 rfl ?_
        refine z_get (v := .ref (E.2.1 52)) (T := TX7) (N := 4) (ci := 6) C (by decide) wc_rd rfl in_X7 2 (by decide) t_146 rfl dX7_enterPerson_58 ?_
        refine z_iload_n C dX7_enterPerson_61 2 rfl ?_
        obtain ⟨h9, hf⟩ := ga_some hf
        refine z_iald C ka_52 h9 dX7_enterPerson_62 ?_
        obtain ⟨r10, h11, hf⟩ := bd_some hf
        refine z_callV (Y2 := YX5_setLack) (CC := RX5) (T := TX5) (N := 3) (ci := 4) (As := [.int a1, .int a2, .int (σ 52 (Int32.toNatClampNeg a2))]) C lk_X5_setLack (lt_pe pe_37) (wc_pe pe_37) rfl t_408 t_409 t_410 (Nat.le_of_ble_eq_true rfl) (Nat.le_of_ble_eq_true rfl) dX7_enterPerson_63 (Nat.le_of_ble_eq_true rfl) rfl rfl (m_X5_setLack X.2.1 E N 37 pe_37 a1 a2 (σ 52 (Int32.toNatClampNeg a2)) σ _ h11) ?_
        change Zz E X YX7_enterPerson (some (.int R.1), R.2) r10 _ _ []
        refine z_iinc (v := (a2 + 1)) (lv' := [(2, .int (a2 + 1)), (0, .ref (E.2.1 33)), (1, .int a1)]) C dX7_enterPerson_66 2 rfl rfl (by decide) rfl ?_
        refine z_goto (tgt := 43) C dX7_enterPerson_69 (by decide) ?_
        refine z_sub [(0, .ref (E.2.1 33)), (1, .int a1), (2, .int (a2 + 1))] [1, 2, 0] rfl ?_
        exact ih a1 (a2 + 1) r10 _ hf hx43
  unfold f_X7_enterPerson at hf
  refine z_aload_n C dX7_enterPerson_0 0 rfl ?_
  refine z_get (v := .ref (E.2.1 36)) (T := TX7) (N := 4) (ci := 6) C (by decide) wc_rd rfl in_X7 1 (by decide) t_145 rfl dX7_enterPerson_1 ?_
  refine z_getN (v := .ref (E.2.1 37)) (T := TX9) (N := 11) (ci := 8) C (lt_st st_36) (wc_st st_36) rfl in_X9 0 (by decide) n_79 rfl dX7_enterPerson_4 ?_
  refine z_getN (v := .int (σ 37 2)) (T := TX5) (N := 3) (ci := 4) C (lt_pe pe_37) (wc_pe pe_37) rfl in_X5 2 (by decide) n_50 rfl dX7_enterPerson_7 ?_
  refine z_istore_n (lv' := [(1, .int (σ 37 2)), (0, .ref (E.2.1 33))]) C dX7_enterPerson_10 (by decide) rfl ?_
  refine z_aload_n C dX7_enterPerson_11 1 rfl ?_
  refine z_bipush (v := 30) C dX7_enterPerson_12 (by decide) ?_
  obtain ⟨r1, h2, hf⟩ := bd_some hf
  refine z_callV (Y2 := YX7_areAtMost) (CC := RX7) (T := TX7) (N := 4) (ci := 6) (As := [.int 30]) C lk_X7_areAtMost (by decide) wc_rd rfl t_400 t_402 p_12 (Nat.le_of_ble_eq_true rfl) (Nat.le_of_ble_eq_true rfl) dX7_enterPerson_14 (Nat.le_of_ble_eq_true rfl) rfl rfl (m_X7_areAtMost X.2.1 E N 30 σ _ h2) ?_
  change Zz E X YX7_enterPerson (some (.int R.1), R.2) r1.2 _ _ [.int r1.1]
  refine z_if_eq (tgt := 39) C dX7_enterPerson_17 (by decide) (fun h3 => ?_) (fun h3 => ?_)
  · replace hf := ifp hf h3
    refine z_iconst (v := 0) C dX7_enterPerson_39 (by decide) ?_
    exact z_zret C dX7_enterPerson_40 rfl rfl (by rw [← Option.some.inj hf])
  · replace hf := ifn hf h3
    refine z_aload_n C dX7_enterPerson_20 1 rfl ?_
    refine z_get (v := .ref (E.2.1 36)) (T := TX7) (N := 4) (ci := 6) C (by decide) wc_rd rfl in_X7 1 (by decide) t_145 rfl dX7_enterPerson_21 ?_
    refine z_getN (v := .ref (E.2.1 37)) (T := TX9) (N := 11) (ci := 8) C (lt_st st_36) (wc_st st_36) rfl in_X9 0 (by decide) n_79 rfl dX7_enterPerson_24 ?_
    refine z_aload_n C dX7_enterPerson_27 1 rfl ?_
    refine z_get (v := .ref (E.2.1 52)) (T := TX7) (N := 4) (ci := 6) C (by decide) wc_rd rfl in_X7 2 (by decide) t_146 rfl dX7_enterPerson_28 ?_
    refine z_iconst (v := 4) C dX7_enterPerson_31 (by decide) ?_
    obtain ⟨h4, hf⟩ := ga_some hf
    refine z_iald C ka_52 h4 dX7_enterPerson_32 ?_
    obtain ⟨r5, h6, hf⟩ := bd_some hf
    refine z_callV (Y2 := YX5_enter) (CC := RX5) (T := TX5) (N := 3) (ci := 4) (As := [.int (r1.2 52 (Int32.toNatClampNeg 4))]) C lk_X5_enter (lt_pe pe_37) (wc_pe pe_37) rfl t_404 t_405 t_406 (Nat.le_of_ble_eq_true rfl) (Nat.le_of_ble_eq_true rfl) dX7_enterPerson_33 (Nat.le_of_ble_eq_true rfl) rfl rfl (m_X5_enter X.2.1 E N 37 pe_37 (r1.2 52 (Int32.toNatClampNeg 4)) r1.2 _ h6) ?_
    change Zz E X YX7_enterPerson (some (.int R.1), R.2) r5.2 _ _ [.int r5.1]
    refine z_if_ne (tgt := 41) C dX7_enterPerson_36 (by decide) (fun h7 => ?_) (fun h7 => ?_)
    · replace hf := ifn hf h7
      refine z_iconst (v := 0) C dX7_enterPerson_41 (by decide) ?_
      refine z_istore_n (lv' := [(2, .int 0), (1, .int (σ 37 2)), (0, .ref (E.2.1 33))]) C dX7_enterPerson_42 (by decide) rfl ?_
      refine z_sub [(0, .ref (E.2.1 33)), (1, .int (σ 37 2)), (2, .int 0)] [2, 1, 0] rfl ?_
      obtain ⟨s12, h13, hf⟩ := bd_some hf
      refine hL43 N (σ 37 2) 0 r5.2 _ h13 ?_
      refine z_iconst (v := 1) C dX7_enterPerson_72 (by decide) ?_
      exact z_zret C dX7_enterPerson_73 rfl rfl (by rw [← Option.some.inj hf])
    · replace hf := ifp hf h7
      refine z_iconst (v := 0) C dX7_enterPerson_39 (by decide) ?_
      exact z_zret C dX7_enterPerson_40 rfl rfl (by rw [← Option.some.inj hf])
theorem lk_X7_enterPerson {Y : Yv} : Lk Y YX7_enterPerson 0 := ⟨t_399, t_5, ⟨by decide +kernel, by decide +kernel⟩, by decide +kernel⟩
abbrev YX7_enterWriter : Yv := (yX7_enterWriter, cX7_enterWriter, 1, some .boolean, 1, 21)
def f_X7_enterWriter (N : Nat) (σ : Sg) : Option (Int32 × Sg) :=
  (f_X4_isFull N 40 σ).bind (fun r1 => if r1.1 = 0 then (ga 1 5 ((f_X5_has N 37 (r1.2 52 (Int32.toNatClampNeg 1)) r1.2).bind (fun r5 => if r5.1 = 0 then (some (0, r5.2)) else (ga 0 5 ((f_X4_add N 40 (r5.2 52 (Int32.toNatClampNeg 0)) r5.2).bind (fun r9 => ga 1 5 ((f_X4_add N 42 (r9 52 (Int32.toNatClampNeg 1)) r9).bind (fun r12 => (f_X4_add N 44 0 r12).bind (fun r14 => some (1, r14)))))))))) else (some (0, r1.2)))
set_option maxHeartbeats 4000000 in
set_option maxRecDepth 20000 in
theorem m_X7_enterWriter (l : Launch) (E : Ev) (N : Nat) (σ : Sg) (R : Int32 × Sg) (hf : f_X7_enterWriter N σ = some R) : Ct l E YX7_enterWriter [.ref (E.2.1 33)] σ (some (.int R.1), R.2) := by
  refine ct_of (by decide +kernel) (Nat.le_of_ble_eq_true rfl) [(0, .ref (E.2.1 33))] rfl (fun X hX C => ?_)
  unfold f_X7_enterWriter at hf
  refine z_aload_n C dX7_enterWriter_0 0 rfl ?_
  refine z_get (v := .ref (E.2.1 36)) (T := TX7) (N := 4) (ci := 6) C (by decide) wc_rd rfl in_X7 1 (by decide) t_145 rfl dX7_enterWriter_1 ?_
  refine z_getN (v := .ref (E.2.1 40)) (T := TX9) (N := 11) (ci := 8) C (lt_st st_36) (wc_st st_36) rfl in_X9 1 (by decide) n_83 rfl dX7_enterWriter_4 ?_
  obtain ⟨r1, h2, hf⟩ := bd_some hf
  refine z_callV (Y2 := YX4_isFull) (CC := RX4) (T := TX4) (N := 2) (ci := 3) (As := []) C lk_X4_isFull (lt_nu nu_40) (wc_nu nu_40) rfl t_422 t_267 t_268 (Nat.le_of_ble_eq_true rfl) (Nat.le_of_ble_eq_true rfl) dX7_enterWriter_7 (Nat.le_of_ble_eq_true rfl) rfl rfl (m_X4_isFull X.2.1 E N 40 nu_40 σ _ h2) ?_
  change Zz E X YX7_enterWriter (some (.int R.1), R.2) r1.2 _ _ [.int r1.1]
  refine z_if_ne (tgt := 32) C dX7_enterWriter_10 (by decide) (fun h3 => ?_) (fun h3 => ?_)
  · replace hf := ifn hf h3
    refine z_iconst (v := 0) C dX7_enterWriter_32 (by decide) ?_
    exact z_zret C dX7_enterWriter_33 rfl rfl (by rw [← Option.some.inj hf])
  · replace hf := ifp hf h3
    refine z_aload_n C dX7_enterWriter_13 0 rfl ?_
    refine z_get (v := .ref (E.2.1 36)) (T := TX7) (N := 4) (ci := 6) C (by decide) wc_rd rfl in_X7 1 (by decide) t_145 rfl dX7_enterWriter_14 ?_
    refine z_getN (v := .ref (E.2.1 37)) (T := TX9) (N := 11) (ci := 8) C (lt_st st_36) (wc_st st_36) rfl in_X9 0 (by decide) n_79 rfl dX7_enterWriter_17 ?_
    refine z_aload_n C dX7_enterWriter_20 0 rfl ?_
    refine z_get (v := .ref (E.2.1 52)) (T := TX7) (N := 4) (ci := 6) C (by decide) wc_rd rfl in_X7 2 (by decide) t_146 rfl dX7_enterWriter_21 ?_
    refine z_iconst (v := 1) C dX7_enterWriter_24 (by decide) ?_
    obtain ⟨h4, hf⟩ := ga_some hf
    refine z_iald C ka_52 h4 dX7_enterWriter_25 ?_
    obtain ⟨r5, h6, hf⟩ := bd_some hf
    refine z_callV (Y2 := YX5_has) (CC := RX5) (T := TX5) (N := 3) (ci := 4) (As := [.int (r1.2 52 (Int32.toNatClampNeg 1))]) C lk_X5_has (lt_pe pe_37) (wc_pe pe_37) rfl t_423 t_424 t_425 (Nat.le_of_ble_eq_true rfl) (Nat.le_of_ble_eq_true rfl) dX7_enterWriter_26 (Nat.le_of_ble_eq_true rfl) rfl rfl (m_X5_has X.2.1 E N 37 pe_37 (r1.2 52 (Int32.toNatClampNeg 1)) r1.2 _ h6) ?_
    change Zz E X YX7_enterWriter (some (.int R.1), R.2) r5.2 _ _ [.int r5.1]
    refine z_if_ne (tgt := 34) C dX7_enterWriter_29 (by decide) (fun h7 => ?_) (fun h7 => ?_)
    · replace hf := ifn hf h7
      refine z_aload_n C dX7_enterWriter_34 0 rfl ?_
      refine z_get (v := .ref (E.2.1 36)) (T := TX7) (N := 4) (ci := 6) C (by decide) wc_rd rfl in_X7 1 (by decide) t_145 rfl dX7_enterWriter_35 ?_
      refine z_getN (v := .ref (E.2.1 40)) (T := TX9) (N := 11) (ci := 8) C (lt_st st_36) (wc_st st_36) rfl in_X9 1 (by decide) n_83 rfl dX7_enterWriter_38 ?_
      refine z_aload_n C dX7_enterWriter_41 0 rfl ?_
      refine z_get (v := .ref (E.2.1 52)) (T := TX7) (N := 4) (ci := 6) C (by decide) wc_rd rfl in_X7 2 (by decide) t_146 rfl dX7_enterWriter_42 ?_
      refine z_iconst (v := 0) C dX7_enterWriter_45 (by decide) ?_
      obtain ⟨h8, hf⟩ := ga_some hf
      refine z_iald C ka_52 h8 dX7_enterWriter_46 ?_
      obtain ⟨r9, h10, hf⟩ := bd_some hf
      refine z_callV (Y2 := YX4_add) (CC := RX4) (T := TX4) (N := 2) (ci := 3) (As := [.int (r5.2 52 (Int32.toNatClampNeg 0))]) C lk_X4_add (lt_nu nu_40) (wc_nu nu_40) rfl t_427 t_271 t_272 (Nat.le_of_ble_eq_true rfl) (Nat.le_of_ble_eq_true rfl) dX7_enterWriter_47 (Nat.le_of_ble_eq_true rfl) rfl rfl (m_X4_add X.2.1 E N 40 nu_40 (r5.2 52 (Int32.toNatClampNeg 0)) r5.2 _ h10) ?_
      change Zz E X YX7_enterWriter (some (.int R.1), R.2) r9 _ _ []
      refine z_aload_n C dX7_enterWriter_50 0 rfl ?_
      refine z_get (v := .ref (E.2.1 36)) (T := TX7) (N := 4) (ci := 6) C (by decide) wc_rd rfl in_X7 1 (by decide) t_145 rfl dX7_enterWriter_51 ?_
      refine z_getN (v := .ref (E.2.1 42)) (T := TX9) (N := 11) (ci := 8) C (lt_st st_36) (wc_st st_36) rfl in_X9 2 (by decide) n_87 rfl dX7_enterWriter_54 ?_
      refine z_aload_n C dX7_enterWriter_57 0 rfl ?_
      refine z_get (v := .ref (E.2.1 52)) (T := TX7) (N := 4) (ci := 6) C (by decide) wc_rd rfl in_X7 2 (by decide) t_146 rfl dX7_enterWriter_58 ?_
      refine z_iconst (v := 1) C dX7_enterWriter_61 (by decide) ?_
      obtain ⟨h11, hf⟩ := ga_some hf
      refine z_iald C ka_52 h11 dX7_enterWriter_62 ?_
      obtain ⟨r12, h13, hf⟩ := bd_some hf
      refine z_callV (Y2 := YX4_add) (CC := RX4) (T := TX4) (N := 2) (ci := 3) (As := [.int (r9 52 (Int32.toNatClampNeg 1))]) C lk_X4_add (lt_nu nu_42) (wc_nu nu_42) rfl t_427 t_271 t_272 (Nat.le_of_ble_eq_true rfl) (Nat.le_of_ble_eq_true rfl) dX7_enterWriter_63 (Nat.le_of_ble_eq_true rfl) rfl rfl (m_X4_add X.2.1 E N 42 nu_42 (r9 52 (Int32.toNatClampNeg 1)) r9 _ h13) ?_
      change Zz E X YX7_enterWriter (some (.int R.1), R.2) r12 _ _ []
      refine z_aload_n C dX7_enterWriter_66 0 rfl ?_
      refine z_get (v := .ref (E.2.1 36)) (T := TX7) (N := 4) (ci := 6) C (by decide) wc_rd rfl in_X7 1 (by decide) t_145 rfl dX7_enterWriter_67 ?_
      refine z_getN (v := .ref (E.2.1 44)) (T := TX9) (N := 11) (ci := 8) C (lt_st st_36) (wc_st st_36) rfl in_X9 3 (by decide) n_91 rfl dX7_enterWriter_70 ?_
      refine z_iconst (v := 0) C dX7_enterWriter_73 (by decide) ?_
      obtain ⟨r14, h15, hf⟩ := bd_some hf
      refine z_callV (Y2 := YX4_add) (CC := RX4) (T := TX4) (N := 2) (ci := 3) (As := [.int 0]) C lk_X4_add (lt_nu nu_44) (wc_nu nu_44) rfl t_427 t_271 t_272 (Nat.le_of_ble_eq_true rfl) (Nat.le_of_ble_eq_true rfl) dX7_enterWriter_74 (Nat.le_of_ble_eq_true rfl) rfl rfl (m_X4_add X.2.1 E N 44 nu_44 0 r12 _ h15) ?_
      change Zz E X YX7_enterWriter (some (.int R.1), R.2) r14 _ _ []
      refine z_iconst (v := 1) C dX7_enterWriter_77 (by decide) ?_
      exact z_zret C dX7_enterWriter_78 rfl rfl (by rw [← Option.some.inj hf])
    · replace hf := ifp hf h7
      refine z_iconst (v := 0) C dX7_enterWriter_32 (by decide) ?_
      exact z_zret C dX7_enterWriter_33 rfl rfl (by rw [← Option.some.inj hf])
theorem lk_X7_enterWriter {Y : Yv} : Lk Y YX7_enterWriter 0 := ⟨t_421, t_5, ⟨by decide +kernel, by decide +kernel⟩, by decide +kernel⟩
abbrev YX7_enterAmounts : Yv := (yX7_enterAmounts, cX7_enterAmounts, 3, some .boolean, 1, 22)
def f_X7_enterAmounts_B27 (N : Nat) (rec : Int32 → Int32 → Sg → Option (Int32 × Sg)) (a1 a2 : Int32) (σ : Sg) : Option (Int32 × Sg) :=
  if 4 ≤ a2 then (some (a1, σ)) else (ga a2 5 (ga a2 4 (nm (a1 + ((σ 52 (Int32.toNatClampNeg a2)) * (digL.getD (Int32.toNatClampNeg a2) 0))) (fun v8 => rec v8 (a2 + 1) σ))))
def f_X7_enterAmounts_L27 (N : Nat) : Nat → Int32 → Int32 → Sg → Option (Int32 × Sg)
  | 0 => fun _ _ _ => none
  | k + 1 => fun a1 a2 σ => f_X7_enterAmounts_B27 N (f_X7_enterAmounts_L27 N k) a1 a2 σ
def f_X7_enterAmounts (N : Nat) (σ : Sg) : Option (Int32 × Sg) :=
  if (σ 44 1) = 0 then (some (0, σ)) else ((f_X7_areAtMost N 5 σ).bind (fun r2 => if r2.1 = 0 then (some (0, r2.2)) else ((f_X7_enterAmounts_L27 N N 0 0 r2.2).bind (fun s10 => (f_X4_set N 44 ((s10.2 44 1) - 1) s10.1 s10.2).bind (fun r11 => some (1, r11))))))
set_option maxHeartbeats 4000000 in
set_option maxRecDepth 20000 in
theorem m_X7_enterAmounts (l : Launch) (E : Ev) (N : Nat) (σ : Sg) (R : Int32 × Sg) (hf : f_X7_enterAmounts N σ = some R) : Ct l E YX7_enterAmounts [.ref (E.2.1 33)] σ (some (.int R.1), R.2) := by
  refine ct_of (by decide +kernel) (Nat.le_of_ble_eq_true rfl) [(0, .ref (E.2.1 33))] rfl (fun X hX C => ?_)
  have hL27 : ∀ (k : Nat) (a1 a2 : Int32) (σ : Sg) (Q27 : Int32 × Sg), f_X7_enterAmounts_L27 N k a1 a2 σ = some Q27 → (Zz E X YX7_enterAmounts (some (.int R.1), R.2) Q27.2 53 [(0, .ref (E.2.1 33)), (1, .int Q27.1)] []) → Zz E X YX7_enterAmounts (some (.int R.1), R.2) σ 27 [(0, .ref (E.2.1 33)), (1, .int a1), (2, .int a2)] [] := by
    intro k
    induction k with
    | zero =>
      intro a1 a2 σ Q27 hf
      have hf : (none : Option (Int32 × Sg)) = some Q27 := hf
      cases hf
    | succ k ih =>
      intro a1 a2 σ Q27 hf hx27
      have hf : f_X7_enterAmounts_B27 N (f_X7_enterAmounts_L27 N k) a1 a2 σ = some Q27 := hf
      unfold f_X7_enterAmounts_B27 at hf
      refine z_iload_n C dX7_enterAmounts_27 2 rfl ?_
      refine z_iconst (v := 4) C dX7_enterAmounts_28 (by decide) ?_
      refine z_icmp_ge (tgt := 53) C dX7_enterAmounts_29 (by decide) (fun h5 => ?_) (fun h5 => ?_)
      · replace hf := ifp hf h5
        refine z_sub [(0, .ref (E.2.1 33)), (1, .int a1)] [0, 1] rfl ?_
        obtain rfl := Option.some.inj hf
        exact hx27
      · replace hf := ifn hf h5
        refine z_iload_n C dX7_enterAmounts_32 1 rfl ?_
        refine z_aload_n C dX7_enterAmounts_33 0 rfl ?_
        refine z_get (v := .ref (E.2.1 52)) (T := TX7) (N := 4) (ci := 6) C (by decide) wc_rd rfl in_X7 2 (by decide) t_146 rfl dX7_enterAmounts_34 ?_
        refine z_iload_n C dX7_enterAmounts_37 2 rfl ?_
        obtain ⟨h6, hf⟩ := ga_some hf
        refine z_iald C ka_52 h6 dX7_enterAmounts_38 ?_
        refine z_getsD C n_432 dX7_enterAmounts_39 ?_
        refine z_iload_n C dX7_enterAmounts_42 2 rfl ?_
        obtain ⟨h7, hf⟩ := ga_some hf
        refine z_aldD C h7 dX7_enterAmounts_43 ?_
        refine z_imul C dX7_enterAmounts_44 ?_
        refine z_iadd C dX7_enterAmounts_45 ?_
        obtain ⟨v8, h9, hf⟩ := nm_some hf
        rw [← h9]
        refine z_istore_n (lv' := [(1, .int v8), (0, .ref (E.2.1 33)), (2, .int a2)]) C dX7_enterAmounts_46 (by decide) rfl ?_
        refine z_iinc (v := (a2 + 1)) (lv' := [(2, .int (a2 + 1)), (1, .int v8), (0, .ref (E.2.1 33))]) C dX7_enterAmounts_47 2 rfl rfl (by decide) rfl ?_
        refine z_goto (tgt := 27) C dX7_enterAmounts_50 (by decide) ?_
        refine z_sub [(0, .ref (E.2.1 33)), (1, .int v8), (2, .int (a2 + 1))] [2, 1, 0] rfl ?_
        exact ih v8 (a2 + 1) σ _ hf hx27
  unfold f_X7_enterAmounts at hf
  refine z_aload_n C dX7_enterAmounts_0 0 rfl ?_
  refine z_get (v := .ref (E.2.1 36)) (T := TX7) (N := 4) (ci := 6) C (by decide) wc_rd rfl in_X7 1 (by decide) t_145 rfl dX7_enterAmounts_1 ?_
  refine z_getN (v := .ref (E.2.1 44)) (T := TX9) (N := 11) (ci := 8) C (lt_st st_36) (wc_st st_36) rfl in_X9 3 (by decide) n_91 rfl dX7_enterAmounts_4 ?_
  refine z_getN (v := .int (σ 44 1)) (T := TX4) (N := 2) (ci := 3) C (lt_nu nu_44) (wc_nu nu_44) rfl in_X4 1 (by decide) n_70 rfl dX7_enterAmounts_7 ?_
  refine z_if_eq (tgt := 21) C dX7_enterAmounts_10 (by decide) (fun h1 => ?_) (fun h1 => ?_)
  · replace hf := ifp hf h1
    refine z_iconst (v := 0) C dX7_enterAmounts_21 (by decide) ?_
    exact z_zret C dX7_enterAmounts_22 rfl rfl (by rw [← Option.some.inj hf])
  · replace hf := ifn hf h1
    refine z_aload_n C dX7_enterAmounts_13 0 rfl ?_
    refine z_iconst (v := 5) C dX7_enterAmounts_14 (by decide) ?_
    obtain ⟨r2, h3, hf⟩ := bd_some hf
    refine z_callV (Y2 := YX7_areAtMost) (CC := RX7) (T := TX7) (N := 4) (ci := 6) (As := [.int 5]) C lk_X7_areAtMost (by decide) wc_rd rfl t_400 t_402 p_12 (Nat.le_of_ble_eq_true rfl) (Nat.le_of_ble_eq_true rfl) dX7_enterAmounts_15 (Nat.le_of_ble_eq_true rfl) rfl rfl (m_X7_areAtMost X.2.1 E N 5 σ _ h3) ?_
    change Zz E X YX7_enterAmounts (some (.int R.1), R.2) r2.2 _ _ [.int r2.1]
    refine z_if_ne (tgt := 23) C dX7_enterAmounts_18 (by decide) (fun h4 => ?_) (fun h4 => ?_)
    · replace hf := ifn hf h4
      refine z_iconst (v := 0) C dX7_enterAmounts_23 (by decide) ?_
      refine z_istore_n (lv' := [(1, .int 0), (0, .ref (E.2.1 33))]) C dX7_enterAmounts_24 (by decide) rfl ?_
      refine z_iconst (v := 0) C dX7_enterAmounts_25 (by decide) ?_
      refine z_istore_n (lv' := [(2, .int 0), (1, .int 0), (0, .ref (E.2.1 33))]) C dX7_enterAmounts_26 (by decide) rfl ?_
      refine z_sub [(0, .ref (E.2.1 33)), (1, .int 0), (2, .int 0)] [2, 1, 0] rfl ?_
      obtain ⟨s10, h13, hf⟩ := bd_some hf
      refine hL27 N 0 0 r2.2 _ h13 ?_
      refine z_aload_n C dX7_enterAmounts_53 0 rfl ?_
      refine z_get (v := .ref (E.2.1 36)) (T := TX7) (N := 4) (ci := 6) C (by decide) wc_rd rfl in_X7 1 (by decide) t_145 rfl dX7_enterAmounts_54 ?_
      refine z_getN (v := .ref (E.2.1 44)) (T := TX9) (N := 11) (ci := 8) C (lt_st st_36) (wc_st st_36) rfl in_X9 3 (by decide) n_91 rfl dX7_enterAmounts_57 ?_
      refine z_aload_n C dX7_enterAmounts_60 0 rfl ?_
      refine z_get (v := .ref (E.2.1 36)) (T := TX7) (N := 4) (ci := 6) C (by decide) wc_rd rfl in_X7 1 (by decide) t_145 rfl dX7_enterAmounts_61 ?_
      refine z_getN (v := .ref (E.2.1 44)) (T := TX9) (N := 11) (ci := 8) C (lt_st st_36) (wc_st st_36) rfl in_X9 3 (by decide) n_91 rfl dX7_enterAmounts_64 ?_
      refine z_getN (v := .int (s10.2 44 1)) (T := TX4) (N := 2) (ci := 3) C (lt_nu nu_44) (wc_nu nu_44) rfl in_X4 1 (by decide) n_70 rfl dX7_enterAmounts_67 ?_
      refine z_iconst (v := 1) C dX7_enterAmounts_70 (by decide) ?_
      refine z_isub C dX7_enterAmounts_71 ?_
      refine z_iload_n C dX7_enterAmounts_72 1 rfl ?_
      obtain ⟨r11, h12, hf⟩ := bd_some hf
      refine z_callV (Y2 := YX4_set) (CC := RX4) (T := TX4) (N := 2) (ci := 3) (As := [.int ((s10.2 44 1) - 1), .int s10.1]) C lk_X4_set (lt_nu nu_44) (wc_nu nu_44) rfl t_434 t_435 t_436 (Nat.le_of_ble_eq_true rfl) (Nat.le_of_ble_eq_true rfl) dX7_enterAmounts_73 (Nat.le_of_ble_eq_true rfl) rfl rfl (m_X4_set X.2.1 E N 44 nu_44 ((s10.2 44 1) - 1) s10.1 s10.2 _ h12) ?_
      change Zz E X YX7_enterAmounts (some (.int R.1), R.2) r11 _ _ []
      refine z_iconst (v := 1) C dX7_enterAmounts_76 (by decide) ?_
      exact z_zret C dX7_enterAmounts_77 rfl rfl (by rw [← Option.some.inj hf])
    · replace hf := ifp hf h4
      refine z_iconst (v := 0) C dX7_enterAmounts_21 (by decide) ?_
      exact z_zret C dX7_enterAmounts_22 rfl rfl (by rw [← Option.some.inj hf])
theorem lk_X7_enterAmounts {Y : Yv} : Lk Y YX7_enterAmounts 0 := ⟨t_431, t_5, ⟨by decide +kernel, by decide +kernel⟩, by decide +kernel⟩
abbrev YX7_enter : Yv := (yX7_enter, cX7_enter, 2, some .boolean, 3, 62)
def f_X7_enter (N : Nat) (x1 : Int32) (σ : Sg) : Option (Int32 × Sg) :=
  if x1 = 112 then ((f_X7_enterPerson N σ).bind (fun r9 => gb r9.1 (some (r9.1, r9.2)))) else (if x1 = 119 then ((f_X7_enterWriter N σ).bind (fun r6 => gb r6.1 (some (r6.1, r6.2)))) else ((f_X7_enterAmounts N σ).bind (fun r3 => gb r3.1 (some (r3.1, r3.2)))))
set_option maxHeartbeats 4000000 in
set_option maxRecDepth 20000 in
theorem m_X7_enter (l : Launch) (E : Ev) (N : Nat) (x1 : Int32) (σ : Sg) (R : Int32 × Sg) (hf : f_X7_enter N x1 σ = some R) : Ct l E YX7_enter [.ref (E.2.1 33), .int x1] σ (some (.int R.1), R.2) := by
  refine ct_of (by decide +kernel) (Nat.le_of_ble_eq_true rfl) [(0, .ref (E.2.1 33)), (1, .int x1)] rfl (fun X hX C => ?_)
  unfold f_X7_enter at hf
  refine z_iload_n C dX7_enter_0 1 rfl ?_
  refine z_bipush (v := 112) C dX7_enter_1 (by decide) ?_
  refine z_icmp_ne (tgt := 11) C dX7_enter_3 (by decide) (fun h1 => ?_) (fun h1 => ?_)
  · replace hf := ifn hf h1
    refine z_iload_n C dX7_enter_11 1 rfl ?_
    refine z_bipush (v := 119) C dX7_enter_12 (by decide) ?_
    refine z_icmp_ne (tgt := 24) C dX7_enter_14 (by decide) (fun h2 => ?_) (fun h2 => ?_)
    · replace hf := ifn hf h2
      refine z_aload_n C dX7_enter_24 0 rfl ?_
      obtain ⟨r3, h4, hf⟩ := bd_some hf
      refine z_callV (Y2 := YX7_enterAmounts) (CC := RX7) (T := TX7) (N := 4) (ci := 6) (As := []) C lk_X7_enterAmounts (by decide) wc_rd rfl t_428 t_430 p_14 (Nat.le_of_ble_eq_true rfl) (Nat.le_of_ble_eq_true rfl) dX7_enter_25 (Nat.le_of_ble_eq_true rfl) rfl rfl (m_X7_enterAmounts X.2.1 E N σ _ h4) ?_
      change Zz E X YX7_enter (some (.int R.1), R.2) r3.2 _ _ [.int r3.1]
      obtain ⟨h5, hf⟩ := gb_some hf
      exact z_zret C dX7_enter_28 rfl h5 (by rw [← Option.some.inj hf])
    · replace hf := ifp hf h2
      refine z_aload_n C dX7_enter_17 0 rfl ?_
      obtain ⟨r6, h7, hf⟩ := bd_some hf
      refine z_callV (Y2 := YX7_enterWriter) (CC := RX7) (T := TX7) (N := 4) (ci := 6) (As := []) C lk_X7_enterWriter (by decide) wc_rd rfl t_418 t_420 p_13 (Nat.le_of_ble_eq_true rfl) (Nat.le_of_ble_eq_true rfl) dX7_enter_18 (Nat.le_of_ble_eq_true rfl) rfl rfl (m_X7_enterWriter X.2.1 E N σ _ h7) ?_
      change Zz E X YX7_enter (some (.int R.1), R.2) r6.2 _ _ [.int r6.1]
      refine z_goto (tgt := 28) C dX7_enter_21 (by decide) ?_
      obtain ⟨h8, hf⟩ := gb_some hf
      exact z_zret C dX7_enter_28 rfl h8 (by rw [← Option.some.inj hf])
  · replace hf := ifp hf h1
    refine z_aload_n C dX7_enter_6 0 rfl ?_
    obtain ⟨r9, h10, hf⟩ := bd_some hf
    refine z_callV (Y2 := YX7_enterPerson) (CC := RX7) (T := TX7) (N := 4) (ci := 6) (As := []) C lk_X7_enterPerson (by decide) wc_rd rfl t_396 t_398 p_11 (Nat.le_of_ble_eq_true rfl) (Nat.le_of_ble_eq_true rfl) dX7_enter_7 (Nat.le_of_ble_eq_true rfl) rfl rfl (m_X7_enterPerson X.2.1 E N σ _ h10) ?_
    change Zz E X YX7_enter (some (.int R.1), R.2) r9.2 _ _ [.int r9.1]
    obtain ⟨h11, hf⟩ := gb_some hf
    exact z_zret C dX7_enter_10 rfl h11 (by rw [← Option.some.inj hf])
theorem lk_X7_enter {Y : Yv} : Lk Y YX7_enter 1 := ⟨t_395, t_5, ⟨by decide +kernel, by decide +kernel⟩, by decide +kernel⟩
abbrev YX7_enterAll : Yv := (yX7_enterAll, cX7_enterAll, 4, some .int, 6, 126)
def f_X7_enterAll_B7 (N : Nat) (rec : Int32 → Sg → Option ((Int32 × Sg) ⊕ (Int32 × Sg))) (a1 : Int32) (σ : Sg) : Option ((Int32 × Sg) ⊕ (Int32 × Sg)) :=
  if 64 ≤ a1 then (some (.inl (a1, σ))) else (if (σ 34 1) ≤ (σ 33 3) then (some (.inl (a1, σ))) else ((f_X4_get N 34 (σ 33 3) σ).bind (fun r5 => (f_X7_scanStatement N r5.2).bind (fun r7 => if r7.1 = 0 then (some (.inr ((((-2000) : Int32) - (σ 33 3)), r7.2))) else ((f_X7_enter N r5.1 r7.2).bind (fun r10 => if r10.1 = 0 then (some (.inr ((((-2000) : Int32) - (σ 33 3)), r10.2))) else (rec (a1 + 1) r10.2)))))))
def f_X7_enterAll_L7 (N : Nat) : Nat → Int32 → Sg → Option ((Int32 × Sg) ⊕ (Int32 × Sg))
  | 0 => fun _ _ => none
  | k + 1 => fun a1 σ => f_X7_enterAll_B7 N (f_X7_enterAll_L7 N k) a1 σ
def f_X7_enterAll (N : Nat) (σ : Sg) : Option (Int32 × Sg) :=
  nm (sgs σ 33 3 0) (fun σ1 => ex1 (f_X7_enterAll_L7 N N 0 σ1) (fun s13 => some (s13.1, s13.2)) (fun r14 => some r14))
set_option maxHeartbeats 4000000 in
set_option maxRecDepth 20000 in
theorem m_X7_enterAll (l : Launch) (E : Ev) (N : Nat) (σ : Sg) (R : Int32 × Sg) (hf : f_X7_enterAll N σ = some R) : Ct l E YX7_enterAll [.ref (E.2.1 33)] σ (some (.int R.1), R.2) := by
  refine ct_of (by decide +kernel) (Nat.le_of_ble_eq_true rfl) [(0, .ref (E.2.1 33))] rfl (fun X hX C => ?_)
  have hL7 : ∀ (k : Nat) (a1 : Int32) (σ : Sg) (Q7 : (Int32 × Sg) ⊕ (Int32 × Sg)), f_X7_enterAll_L7 N k a1 σ = some Q7 → (∀ S, Q7 = .inl S → Zz E X YX7_enterAll (some (.int R.1), R.2) S.2 71 [(1, .int S.1)] []) → (∀ r, Q7 = .inr r → ((some (.int R.1), R.2) : Pv) = (some (.int r.1), r.2)) → Zz E X YX7_enterAll (some (.int R.1), R.2) σ 7 [(0, .ref (E.2.1 33)), (1, .int a1)] [] := by
    intro k
    induction k with
    | zero =>
      intro a1 σ Q7 hf
      have hf : (none : Option ((Int32 × Sg) ⊕ (Int32 × Sg))) = some Q7 := hf
      cases hf
    | succ k ih =>
      intro a1 σ Q7 hf hx7 hr7
      have hf : f_X7_enterAll_B7 N (f_X7_enterAll_L7 N k) a1 σ = some Q7 := hf
      unfold f_X7_enterAll_B7 at hf
      refine z_iload_n C dX7_enterAll_7 1 rfl ?_
      refine z_bipush (v := 64) C dX7_enterAll_8 (by decide) ?_
      refine z_icmp_ge (tgt := 71) C dX7_enterAll_10 (by decide) (fun h3 => ?_) (fun h3 => ?_)
      · replace hf := ifp hf h3
        refine z_sub [(1, .int a1)] [1] rfl ?_
        exact hx7 _ (Option.some.inj hf).symm
      · replace hf := ifn hf h3
        refine z_aload_n C dX7_enterAll_13 0 rfl ?_
        refine z_get (v := .int (σ 33 3)) (T := TX7) (N := 4) (ci := 6) C (by decide) wc_rd rfl in_X7 3 (by decide) t_147 rfl dX7_enterAll_14 ?_
        refine z_aload_n C dX7_enterAll_17 0 rfl ?_
        refine z_get (v := .ref (E.2.1 34)) (T := TX7) (N := 4) (ci := 6) C (by decide) wc_rd rfl in_X7 0 (by decide) t_143 rfl dX7_enterAll_18 ?_
        refine z_getN (v := .int (σ 34 1)) (T := TX4) (N := 2) (ci := 3) C (lt_nu nu_34) (wc_nu nu_34) rfl in_X4 1 (by decide) n_70 rfl dX7_enterAll_21 ?_
        refine z_icmp_ge (tgt := 71) C dX7_enterAll_24 (by decide) (fun h4 => ?_) (fun h4 => ?_)
        · replace hf := ifp hf h4
          refine z_sub [(1, .int a1)] [1] rfl ?_
          exact hx7 _ (Option.some.inj hf).symm
        · replace hf := ifn hf h4
          refine z_aload_n C dX7_enterAll_27 0 rfl ?_
          refine z_get (v := .int (σ 33 3)) (T := TX7) (N := 4) (ci := 6) C (by decide) wc_rd rfl in_X7 3 (by decide) t_147 rfl dX7_enterAll_28 ?_
          refine z_istore_n (lv' := [(2, .int (σ 33 3)), (0, .ref (E.2.1 33)), (1, .int a1)]) C dX7_enterAll_31 (by decide) rfl ?_
          refine z_aload_n C dX7_enterAll_32 1 rfl ?_
          refine z_get (v := .ref (E.2.1 34)) (T := TX7) (N := 4) (ci := 6) C (by decide) wc_rd rfl in_X7 0 (by decide) t_143 rfl dX7_enterAll_33 ?_
          refine z_aload_n C dX7_enterAll_36 1 rfl ?_
          refine z_get (v := .int (σ 33 3)) (T := TX7) (N := 4) (ci := 6) C (by decide) wc_rd rfl in_X7 3 (by decide) t_147 rfl dX7_enterAll_37 ?_
          obtain ⟨r5, h6, hf⟩ := bd_some hf
          refine z_callV (Y2 := YX4_get) (CC := RX4) (T := TX4) (N := 2) (ci := 3) (As := [.int (σ 33 3)]) C lk_X4_get (lt_nu nu_34) (wc_nu nu_34) rfl t_318 t_302 t_303 (Nat.le_of_ble_eq_true rfl) (Nat.le_of_ble_eq_true rfl) dX7_enterAll_40 (Nat.le_of_ble_eq_true rfl) rfl rfl (m_X4_get X.2.1 E N 34 nu_34 (σ 33 3) σ _ h6) ?_
          change Zz E X YX7_enterAll (some (.int R.1), R.2) r5.2 _ _ [.int r5.1]
          refine z_istore_n (lv' := [(3, .int r5.1), (2, .int (σ 33 3)), (0, .ref (E.2.1 33)), (1, .int a1)]) C dX7_enterAll_43 (by decide) rfl ?_
          refine z_aload_n C dX7_enterAll_44 2 rfl ?_
          obtain ⟨r7, h8, hf⟩ := bd_some hf
          refine z_callV (Y2 := YX7_scanStatement) (CC := RX7) (T := TX7) (N := 4) (ci := 6) (As := []) C lk_X7_scanStatement (by decide) wc_rd rfl t_310 t_312 p_2 (Nat.le_of_ble_eq_true rfl) (Nat.le_of_ble_eq_true rfl) dX7_enterAll_45 (Nat.le_of_ble_eq_true rfl) rfl rfl (m_X7_scanStatement X.2.1 E N r5.2 _ h8) ?_
          change Zz E X YX7_enterAll (some (.int R.1), R.2) r7.2 _ _ [.int r7.1]
          refine z_if_eq (tgt := 59) C dX7_enterAll_48 (by decide) (fun h9 => ?_) (fun h9 => ?_)
          · replace hf := ifp hf h9
            refine z_sipush (v := (-2000)) C dX7_enterAll_59 (by decide) ?_
            refine z_iload_n C dX7_enterAll_62 1 rfl ?_
            refine z_isub C dX7_enterAll_63 ?_
            have hq := hr7 _ (Option.some.inj hf).symm
            exact z_iret C dX7_enterAll_64 rfl hq
          · replace hf := ifn hf h9
            refine z_aload_n C dX7_enterAll_51 2 rfl ?_
            refine z_iload_n C dX7_enterAll_52 0 rfl ?_
            obtain ⟨r10, h11, hf⟩ := bd_some hf
            refine z_callV (Y2 := YX7_enter) (CC := RX7) (T := TX7) (N := 4) (ci := 6) (As := [.int r5.1]) C lk_X7_enter (by decide) wc_rd rfl t_392 t_394 p_10 (Nat.le_of_ble_eq_true rfl) (Nat.le_of_ble_eq_true rfl) dX7_enterAll_53 (Nat.le_of_ble_eq_true rfl) rfl rfl (m_X7_enter X.2.1 E N r5.1 r7.2 _ h11) ?_
            change Zz E X YX7_enterAll (some (.int R.1), R.2) r10.2 _ _ [.int r10.1]
            refine z_if_ne (tgt := 65) C dX7_enterAll_56 (by decide) (fun h12 => ?_) (fun h12 => ?_)
            · replace hf := ifn hf h12
              refine z_iinc (v := (a1 + 1)) (lv' := [(1, .int (a1 + 1)), (3, .int r5.1), (2, .int (σ 33 3)), (0, .ref (E.2.1 33))]) C dX7_enterAll_65 3 rfl rfl (by decide) rfl ?_
              refine z_goto (tgt := 7) C dX7_enterAll_68 (by decide) ?_
              refine z_sub [(0, .ref (E.2.1 33)), (1, .int (a1 + 1))] [3, 0] rfl ?_
              exact ih (a1 + 1) r10.2 _ hf hx7 hr7
            · replace hf := ifp hf h12
              refine z_sipush (v := (-2000)) C dX7_enterAll_59 (by decide) ?_
              refine z_iload_n C dX7_enterAll_62 1 rfl ?_
              refine z_isub C dX7_enterAll_63 ?_
              have hq := hr7 _ (Option.some.inj hf).symm
              exact z_iret C dX7_enterAll_64 rfl hq
  unfold f_X7_enterAll at hf
  refine z_aload_n C dX7_enterAll_0 0 rfl ?_
  refine z_iconst (v := 0) C dX7_enterAll_1 (by decide) ?_
  obtain ⟨σ1, h2, hf⟩ := nm_some hf
  refine z_put (T := TX7) (N := 4) (ci := 6) (ty := .int) C tyX7 tyX7_ok nmX7 (by decide) wc_rd rfl in_X7 3 (by decide) t_147 rfl rfl rfl rfl (Nat.le_of_ble_eq_true rfl) (pw_X7_3) dX7_enterAll_2 ?_
  rw [← h2]
  refine z_iconst (v := 0) C dX7_enterAll_5 (by decide) ?_
  refine z_istore_n (lv' := [(1, .int 0), (0, .ref (E.2.1 33))]) C dX7_enterAll_6 (by decide) rfl ?_
  refine z_sub [(0, .ref (E.2.1 33)), (1, .int 0)] [1, 0] rfl ?_
  rcases ex1_some hf with ⟨s13, h15, hf⟩ | ⟨r14, h15, hf⟩
  · refine hL7 N 0 σ1 _ h15 (fun S e => ?_) (fun _ e => nomatch e)
    cases e
    refine z_iload_n C dX7_enterAll_71 0 rfl ?_
    exact z_iret C dX7_enterAll_72 rfl (by rw [← Option.some.inj hf])
  · refine hL7 N 0 σ1 _ h15 (fun _ e => nomatch e) (fun r e => ?_)
    cases e
    exact (by rw [← Option.some.inj hf])
theorem lk_X7_enterAll {Y : Yv} : Lk Y YX7_enterAll 0 := ⟨t_391, t_5, ⟨by decide +kernel, by decide +kernel⟩, by decide +kernel⟩
abbrev YX7_read : Yv := (yX7_read, cX7_read, 3, some .int, 7, 149)
def f_X7_read (N : Nat) (p1 : Nat) (σ : Sg) : Option (Int32 × Sg) :=
  (f_X9_takeFrom N 36 p1 σ).bind (fun r1 => (f_X7_isShaped N r1).bind (fun r3 => if r3.1 = 0 then (some ((((-1000) : Int32) - (r3.2 33 3)), r3.2)) else ((f_X7_enterAll N r3.2).bind (fun r6 => if r6.1 < 0 then (some (r6.1, r6.2)) else ((f_X9_takeFrom N p1 36 r6.2).bind (fun r9 => some (r6.1, r9)))))))
set_option maxHeartbeats 4000000 in
set_option maxRecDepth 20000 in
theorem m_X7_read (l : Launch) (E : Ev) (N : Nat) (p1 : Nat) (hp1 : isSt p1) (σ : Sg) (R : Int32 × Sg) (hf : f_X7_read N p1 σ = some R) : Ct l E YX7_read [.ref (E.2.1 33), .ref (E.2.1 p1)] σ (some (.int R.1), R.2) := by
  refine ct_of (by decide +kernel) (Nat.le_of_ble_eq_true rfl) [(0, .ref (E.2.1 33)), (1, .ref (E.2.1 p1))] rfl (fun X hX C => ?_)
  unfold f_X7_read at hf
  refine z_aload_n C dX7_read_0 0 rfl ?_
  refine z_get (v := .ref (E.2.1 36)) (T := TX7) (N := 4) (ci := 6) C (by decide) wc_rd rfl in_X7 1 (by decide) t_145 rfl dX7_read_1 ?_
  refine z_aload_n C dX7_read_4 1 rfl ?_
  obtain ⟨r1, h2, hf⟩ := bd_some hf
  refine z_callV (Y2 := YX9_takeFrom) (CC := RX9) (T := TX9) (N := 11) (ci := 8) (As := [.ref (E.2.1 p1)]) C lk_X9_takeFrom (lt_st st_36) (wc_st st_36) rfl t_282 t_283 t_284 (Nat.le_of_ble_eq_true rfl) (Nat.le_of_ble_eq_true rfl) dX7_read_5 (Nat.le_of_ble_eq_true rfl) rfl rfl (m_X9_takeFrom X.2.1 E N 36 p1 st_36 hp1 σ _ h2) ?_
  change Zz E X YX7_read (some (.int R.1), R.2) r1 _ _ []
  refine z_aload_n C dX7_read_8 0 rfl ?_
  obtain ⟨r3, h4, hf⟩ := bd_some hf
  refine z_callV (Y2 := YX7_isShaped) (CC := RX7) (T := TX7) (N := 4) (ci := 6) (As := []) C lk_X7_isShaped (by decide) wc_rd rfl t_306 t_308 p_1 (Nat.le_of_ble_eq_true rfl) (Nat.le_of_ble_eq_true rfl) dX7_read_9 (Nat.le_of_ble_eq_true rfl) rfl rfl (m_X7_isShaped X.2.1 E N r1 _ h4) ?_
  change Zz E X YX7_read (some (.int R.1), R.2) r3.2 _ _ [.int r3.1]
  refine z_if_ne (tgt := 24) C dX7_read_12 (by decide) (fun h5 => ?_) (fun h5 => ?_)
  · replace hf := ifn hf h5
    refine z_aload_n C dX7_read_24 0 rfl ?_
    obtain ⟨r6, h7, hf⟩ := bd_some hf
    refine z_callV (Y2 := YX7_enterAll) (CC := RX7) (T := TX7) (N := 4) (ci := 6) (As := []) C lk_X7_enterAll (by decide) wc_rd rfl t_388 t_390 p_9 (Nat.le_of_ble_eq_true rfl) (Nat.le_of_ble_eq_true rfl) dX7_read_25 (Nat.le_of_ble_eq_true rfl) rfl rfl (m_X7_enterAll X.2.1 E N r3.2 _ h7) ?_
    change Zz E X YX7_read (some (.int R.1), R.2) r6.2 _ _ [.int r6.1]
    refine z_istore_n (lv' := [(2, .int r6.1), (0, .ref (E.2.1 33)), (1, .ref (E.2.1 p1))]) C dX7_read_28 (by decide) rfl ?_
    refine z_iload_n C dX7_read_29 0 rfl ?_
    refine z_if_lt (tgt := 41) C dX7_read_30 (by decide) (fun h8 => ?_) (fun h8 => ?_)
    · replace hf := ifp hf h8
      refine z_iload_n C dX7_read_41 0 rfl ?_
      exact z_iret C dX7_read_42 rfl (by rw [← Option.some.inj hf])
    · replace hf := ifn hf h8
      refine z_aload_n C dX7_read_33 2 rfl ?_
      refine z_aload_n C dX7_read_34 1 rfl ?_
      refine z_get (v := .ref (E.2.1 36)) (T := TX7) (N := 4) (ci := 6) C (by decide) wc_rd rfl in_X7 1 (by decide) t_145 rfl dX7_read_35 ?_
      obtain ⟨r9, h10, hf⟩ := bd_some hf
      refine z_callV (Y2 := YX9_takeFrom) (CC := RX9) (T := TX9) (N := 11) (ci := 8) (As := [.ref (E.2.1 36)]) C lk_X9_takeFrom (lt_st hp1) (wc_st hp1) rfl t_282 t_283 t_284 (Nat.le_of_ble_eq_true rfl) (Nat.le_of_ble_eq_true rfl) dX7_read_38 (Nat.le_of_ble_eq_true rfl) rfl rfl (m_X9_takeFrom X.2.1 E N p1 36 hp1 st_36 r6.2 _ h10) ?_
      change Zz E X YX7_read (some (.int R.1), R.2) r9 _ _ []
      refine z_iload_n C dX7_read_41 0 rfl ?_
      exact z_iret C dX7_read_42 rfl (by rw [← Option.some.inj hf])
  · replace hf := ifp hf h5
    refine z_sipush (v := (-1000)) C dX7_read_15 (by decide) ?_
    refine z_aload_n C dX7_read_18 0 rfl ?_
    refine z_get (v := .int (r3.2 33 3)) (T := TX7) (N := 4) (ci := 6) C (by decide) wc_rd rfl in_X7 3 (by decide) t_147 rfl dX7_read_19 ?_
    refine z_isub C dX7_read_22 ?_
    exact z_iret C dX7_read_23 rfl (by rw [← Option.some.inj hf])
theorem lk_X7_read {Y : Yv} : Lk Y YX7_read 1 := ⟨t_281, t_5, ⟨by decide +kernel, by decide +kernel⟩, by decide +kernel⟩
