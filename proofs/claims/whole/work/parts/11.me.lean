abbrev YX12_no : Yv := (yX12_no, cX12_no, 2, some .int, 0, 0)
def f_X12_no (N : Nat) (x1 : Int32) (σ : Sg) : Option (Int32 × Sg) :=
  ga (-x1) 7 (ga (-x1) 7 (nm (sgs σ 74 (Int32.toNatClampNeg (-x1)) ((σ 74 (Int32.toNatClampNeg (-x1))) + 1)) (fun σ3 => some (x1, σ3))))
set_option maxHeartbeats 4000000 in
set_option maxRecDepth 20000 in
theorem m_X12_no (l : Launch) (E : Ev) (N : Nat) (x1 : Int32) (σ : Sg) (R : Int32 × Sg) (hf : f_X12_no N x1 σ = some R) : Ct l E YX12_no [.ref (E.2.1 73), .int x1] σ (some (.int R.1), R.2) := by
  refine ct_of (by decide +kernel) (Nat.le_of_ble_eq_true rfl) [(0, .ref (E.2.1 73)), (1, .int x1)] rfl (fun X hX C => ?_)
  unfold f_X12_no at hf
  refine z_aload_n C dX12_no_0 0 rfl ?_
  refine z_get (v := .ref (E.2.1 74)) (T := TX12) (N := 39) (ci := 11) C (by decide) wc_mo rfl in_X12 0 (by decide) t_845 rfl dX12_no_1 ?_
  refine z_iload_n C dX12_no_4 1 rfl ?_
  refine z_ineg C dX12_no_5 ?_
  refine z_dup2 C dX12_no_6 rfl rfl ?_
  obtain ⟨h1, hf⟩ := ga_some hf
  refine z_iald C ka_74 h1 dX12_no_7 ?_
  refine z_iconst (v := 1) C dX12_no_8 (by decide) ?_
  refine z_iadd C dX12_no_9 ?_
  obtain ⟨h2, hf⟩ := ga_some hf
  obtain ⟨σ3, h4, hf⟩ := nm_some hf
  refine z_iast C ka_74 h2 dX12_no_10 ?_
  rw [← h4]
  refine z_iload_n C dX12_no_11 1 rfl ?_
  exact z_iret C dX12_no_12 rfl (by rw [← Option.some.inj hf])
theorem lk_X12_no {Y : Yv} : Lk Y YX12_no 1 := ⟨t_973, t_13, ⟨by decide +kernel, by decide +kernel⟩, by decide +kernel⟩
abbrev YX12_isIn : Yv := (yX12_isIn, cX12_isIn, 3, some .boolean, 0, 0)
def f_X12_isIn (N : Nat) (x1 x2 x3 : Int32) (σ : Sg) : Option (Int32 × Sg) :=
  if x1 < x2 then (some (0, σ)) else (if x3 < x1 then (some (0, σ)) else (some (1, σ)))
set_option maxHeartbeats 4000000 in
set_option maxRecDepth 20000 in
theorem m_X12_isIn (l : Launch) (E : Ev) (N : Nat) (x1 x2 x3 : Int32) (σ : Sg) (R : Int32 × Sg) (hf : f_X12_isIn N x1 x2 x3 σ = some R) : Ct l E YX12_isIn [.int x1, .int x2, .int x3] σ (some (.int R.1), R.2) := by
  refine ct_of (by decide +kernel) (Nat.le_of_ble_eq_true rfl) [(0, .int x1), (1, .int x2), (2, .int x3)] rfl (fun X hX C => ?_)
  unfold f_X12_isIn at hf
  refine z_iload_n C dX12_isIn_0 0 rfl ?_
  refine z_iload_n C dX12_isIn_1 1 rfl ?_
  refine z_icmp_lt (tgt := 14) C dX12_isIn_2 (by decide) (fun h1 => ?_) (fun h1 => ?_)
  · replace hf := ifp hf h1
    refine z_iconst (v := 0) C dX12_isIn_14 (by decide) ?_
    exact z_zret C dX12_isIn_15 rfl rfl (by rw [← Option.some.inj hf])
  · replace hf := ifn hf h1
    refine z_iload_n C dX12_isIn_5 0 rfl ?_
    refine z_iload_n C dX12_isIn_6 2 rfl ?_
    refine z_icmp_gt (tgt := 14) C dX12_isIn_7 (by decide) (fun h2 => ?_) (fun h2 => ?_)
    · replace hf := ifp hf h2
      refine z_iconst (v := 0) C dX12_isIn_14 (by decide) ?_
      exact z_zret C dX12_isIn_15 rfl rfl (by rw [← Option.some.inj hf])
    · replace hf := ifn hf h2
      refine z_iconst (v := 1) C dX12_isIn_10 (by decide) ?_
      refine z_goto (tgt := 15) C dX12_isIn_11 (by decide) ?_
      exact z_zret C dX12_isIn_15 rfl rfl (by rw [← Option.some.inj hf])
theorem lk_X12_isIn {Y : Yv} : Lk Y YX12_isIn 3 := ⟨t_996, t_13, ⟨by decide +kernel, by decide +kernel⟩, by decide +kernel⟩
abbrev YX12_bound : Yv := (yX12_bound, cX12_bound, 3, some .int, 0, 0)
def f_X12_bound (N : Nat) (x1 x2 x3 : Int32) (σ : Sg) : Option (Int32 × Sg) :=
  if x2 ≤ x1 then (if x1 ≤ x3 then (some (0, σ)) else (some ((-6), σ))) else (some ((-4), σ))
set_option maxHeartbeats 4000000 in
set_option maxRecDepth 20000 in
theorem m_X12_bound (l : Launch) (E : Ev) (N : Nat) (x1 x2 x3 : Int32) (σ : Sg) (R : Int32 × Sg) (hf : f_X12_bound N x1 x2 x3 σ = some R) : Ct l E YX12_bound [.int x1, .int x2, .int x3] σ (some (.int R.1), R.2) := by
  refine ct_of (by decide +kernel) (Nat.le_of_ble_eq_true rfl) [(0, .int x1), (1, .int x2), (2, .int x3)] rfl (fun X hX C => ?_)
  unfold f_X12_bound at hf
  refine z_iload_n C dX12_bound_0 0 rfl ?_
  refine z_iload_n C dX12_bound_1 1 rfl ?_
  refine z_icmp_ge (tgt := 10) C dX12_bound_2 (by decide) (fun h1 => ?_) (fun h1 => ?_)
  · replace hf := ifp hf h1
    refine z_iload_n C dX12_bound_10 0 rfl ?_
    refine z_iload_n C dX12_bound_11 2 rfl ?_
    refine z_icmp_le (tgt := 20) C dX12_bound_12 (by decide) (fun h2 => ?_) (fun h2 => ?_)
    · replace hf := ifp hf h2
      refine z_iconst (v := 0) C dX12_bound_20 (by decide) ?_
      exact z_iret C dX12_bound_21 rfl (by rw [← Option.some.inj hf])
    · replace hf := ifn hf h2
      refine z_bipush (v := (-6)) C dX12_bound_15 (by decide) ?_
      refine z_goto (tgt := 21) C dX12_bound_17 (by decide) ?_
      exact z_iret C dX12_bound_21 rfl (by rw [← Option.some.inj hf])
  · replace hf := ifn hf h1
    refine z_bipush (v := (-4)) C dX12_bound_5 (by decide) ?_
    refine z_goto (tgt := 21) C dX12_bound_7 (by decide) ?_
    exact z_iret C dX12_bound_21 rfl (by rw [← Option.some.inj hf])
theorem lk_X12_bound {Y : Yv} : Lk Y YX12_bound 3 := ⟨t_969, t_13, ⟨by decide +kernel, by decide +kernel⟩, by decide +kernel⟩
abbrev YX12_isPerson : Yv := (yX12_isPerson, cX12_isPerson, 2, some .boolean, 0, 0)
def f_X12_isPerson (N : Nat) (x1 : Int32) (σ : Sg) : Option (Int32 × Sg) :=
  if x1 < 0 then (some (0, σ)) else (if (σ 73 9) ≤ x1 then (some (0, σ)) else (some (1, σ)))
set_option maxHeartbeats 4000000 in
set_option maxRecDepth 20000 in
theorem m_X12_isPerson (l : Launch) (E : Ev) (N : Nat) (x1 : Int32) (σ : Sg) (R : Int32 × Sg) (hf : f_X12_isPerson N x1 σ = some R) : Ct l E YX12_isPerson [.ref (E.2.1 73), .int x1] σ (some (.int R.1), R.2) := by
  refine ct_of (by decide +kernel) (Nat.le_of_ble_eq_true rfl) [(0, .ref (E.2.1 73)), (1, .int x1)] rfl (fun X hX C => ?_)
  unfold f_X12_isPerson at hf
  refine z_iload_n C dX12_isPerson_0 1 rfl ?_
  refine z_if_lt (tgt := 16) C dX12_isPerson_1 (by decide) (fun h1 => ?_) (fun h1 => ?_)
  · replace hf := ifp hf h1
    refine z_iconst (v := 0) C dX12_isPerson_16 (by decide) ?_
    exact z_zret C dX12_isPerson_17 rfl rfl (by rw [← Option.some.inj hf])
  · replace hf := ifn hf h1
    refine z_iload_n C dX12_isPerson_4 1 rfl ?_
    refine z_aload_n C dX12_isPerson_5 0 rfl ?_
    refine z_get (v := .int (σ 73 9)) (T := TX12) (N := 39) (ci := 11) C (by decide) wc_mo rfl in_X12 9 (by decide) t_854 rfl dX12_isPerson_6 ?_
    refine z_icmp_ge (tgt := 16) C dX12_isPerson_9 (by decide) (fun h2 => ?_) (fun h2 => ?_)
    · replace hf := ifp hf h2
      refine z_iconst (v := 0) C dX12_isPerson_16 (by decide) ?_
      exact z_zret C dX12_isPerson_17 rfl rfl (by rw [← Option.some.inj hf])
    · replace hf := ifn hf h2
      refine z_iconst (v := 1) C dX12_isPerson_12 (by decide) ?_
      refine z_goto (tgt := 17) C dX12_isPerson_13 (by decide) ?_
      exact z_zret C dX12_isPerson_17 rfl rfl (by rw [← Option.some.inj hf])
theorem lk_X12_isPerson {Y : Yv} : Lk Y YX12_isPerson 1 := ⟨t_1027, t_13, ⟨by decide +kernel, by decide +kernel⟩, by decide +kernel⟩
abbrev YX12_isWriter : Yv := (yX12_isWriter, cX12_isWriter, 2, some .boolean, 0, 0)
def f_X12_isWriter (N : Nat) (x1 : Int32) (σ : Sg) : Option (Int32 × Sg) :=
  if x1 < 0 then (some (0, σ)) else (if (σ 73 10) ≤ x1 then (some (0, σ)) else (some (1, σ)))
set_option maxHeartbeats 4000000 in
set_option maxRecDepth 20000 in
theorem m_X12_isWriter (l : Launch) (E : Ev) (N : Nat) (x1 : Int32) (σ : Sg) (R : Int32 × Sg) (hf : f_X12_isWriter N x1 σ = some R) : Ct l E YX12_isWriter [.ref (E.2.1 73), .int x1] σ (some (.int R.1), R.2) := by
  refine ct_of (by decide +kernel) (Nat.le_of_ble_eq_true rfl) [(0, .ref (E.2.1 73)), (1, .int x1)] rfl (fun X hX C => ?_)
  unfold f_X12_isWriter at hf
  refine z_iload_n C dX12_isWriter_0 1 rfl ?_
  refine z_if_lt (tgt := 16) C dX12_isWriter_1 (by decide) (fun h1 => ?_) (fun h1 => ?_)
  · replace hf := ifp hf h1
    refine z_iconst (v := 0) C dX12_isWriter_16 (by decide) ?_
    exact z_zret C dX12_isWriter_17 rfl rfl (by rw [← Option.some.inj hf])
  · replace hf := ifn hf h1
    refine z_iload_n C dX12_isWriter_4 1 rfl ?_
    refine z_aload_n C dX12_isWriter_5 0 rfl ?_
    refine z_get (v := .int (σ 73 10)) (T := TX12) (N := 39) (ci := 11) C (by decide) wc_mo rfl in_X12 10 (by decide) t_855 rfl dX12_isWriter_6 ?_
    refine z_icmp_ge (tgt := 16) C dX12_isWriter_9 (by decide) (fun h2 => ?_) (fun h2 => ?_)
    · replace hf := ifp hf h2
      refine z_iconst (v := 0) C dX12_isWriter_16 (by decide) ?_
      exact z_zret C dX12_isWriter_17 rfl rfl (by rw [← Option.some.inj hf])
    · replace hf := ifn hf h2
      refine z_iconst (v := 1) C dX12_isWriter_12 (by decide) ?_
      refine z_goto (tgt := 17) C dX12_isWriter_13 (by decide) ?_
      exact z_zret C dX12_isWriter_17 rfl rfl (by rw [← Option.some.inj hf])
theorem lk_X12_isWriter {Y : Yv} : Lk Y YX12_isWriter 1 := ⟨t_1039, t_13, ⟨by decide +kernel, by decide +kernel⟩, by decide +kernel⟩
abbrev YX12_amount : Yv := (yX12_amount, cX12_amount, 4, some .int, 0, 0)
def f_X12_amount_B4 (N : Nat) (rec : Int32 → Int32 → Int32 → Sg → Option (Int32 × Sg)) (a1 a2 a3 : Int32) (σ : Sg) : Option (Int32 × Sg) :=
  if a1 ≤ a3 then (some (a2, σ)) else (rec a1 (a2 / 10) (a3 + 1) σ)
def f_X12_amount_L4 (N : Nat) : Nat → Int32 → Int32 → Int32 → Sg → Option (Int32 × Sg)
  | 0 => fun _ _ _ _ => none
  | k + 1 => fun a1 a2 a3 σ => f_X12_amount_B4 N (f_X12_amount_L4 N k) a1 a2 a3 σ
def f_X12_amount (N : Nat) (x1 x2 : Int32) (σ : Sg) : Option (Int32 × Sg) :=
  (f_X12_amount_L4 N N x2 x1 0 σ).bind (fun s2 => some ((jrem s2.1 10), s2.2))
set_option maxHeartbeats 4000000 in
set_option maxRecDepth 20000 in
theorem m_X12_amount (l : Launch) (E : Ev) (N : Nat) (x1 x2 : Int32) (σ : Sg) (R : Int32 × Sg) (hf : f_X12_amount N x1 x2 σ = some R) : Ct l E YX12_amount [.int x1, .int x2] σ (some (.int R.1), R.2) := by
  refine ct_of (by decide +kernel) (Nat.le_of_ble_eq_true rfl) [(0, .int x1), (1, .int x2)] rfl (fun X hX C => ?_)
  have hL4 : ∀ (k : Nat) (a1 a2 a3 : Int32) (σ : Sg) (Q4 : Int32 × Sg), f_X12_amount_L4 N k a1 a2 a3 σ = some Q4 → (Zz E X YX12_amount (some (.int R.1), R.2) Q4.2 20 [(2, .int Q4.1)] []) → Zz E X YX12_amount (some (.int R.1), R.2) σ 4 [(1, .int a1), (2, .int a2), (3, .int a3)] [] := by
    intro k
    induction k with
    | zero =>
      intro a1 a2 a3 σ Q4 hf
      have hf : (none : Option (Int32 × Sg)) = some Q4 := hf
      cases hf
    | succ k ih =>
      intro a1 a2 a3 σ Q4 hf hx4
      have hf : f_X12_amount_B4 N (f_X12_amount_L4 N k) a1 a2 a3 σ = some Q4 := hf
      unfold f_X12_amount_B4 at hf
      refine z_iload_n C dX12_amount_4 2 rfl ?_
      refine z_iload_n C dX12_amount_5 0 rfl ?_
      refine z_icmp_ge (tgt := 20) C dX12_amount_6 (by decide) (fun h1 => ?_) (fun h1 => ?_)
      · replace hf := ifp hf h1
        refine z_sub [(2, .int a2)] [1] rfl ?_
        obtain rfl := Option.some.inj hf
        exact hx4
      · replace hf := ifn hf h1
        refine z_iload_n C dX12_amount_9 1 rfl ?_
        refine z_bipush (v := 10) C dX12_amount_10 (by decide) ?_
        refine z_idiv C dX12_amount_12 (by decide) ?_
        refine z_istore_n (lv' := [(2, .int (a2 / 10)), (1, .int a1), (3, .int a3)]) C dX12_amount_13 (by decide) rfl ?_
        refine z_iinc (v := (a3 + 1)) (lv' := [(3, .int (a3 + 1)), (2, .int (a2 / 10)), (1, .int a1)]) C dX12_amount_14 2 rfl rfl (by decide) rfl ?_
        refine z_goto (tgt := 4) C dX12_amount_17 (by decide) ?_
        refine z_sub [(1, .int a1), (2, .int (a2 / 10)), (3, .int (a3 + 1))] [2, 1, 0] rfl ?_
        exact ih a1 (a2 / 10) (a3 + 1) σ _ hf hx4
  unfold f_X12_amount at hf
  refine z_iload_n C dX12_amount_0 0 rfl ?_
  refine z_istore_n (lv' := [(2, .int x1), (0, .int x1), (1, .int x2)]) C dX12_amount_1 (by decide) rfl ?_
  refine z_iconst (v := 0) C dX12_amount_2 (by decide) ?_
  refine z_istore_n (lv' := [(3, .int 0), (2, .int x1), (0, .int x1), (1, .int x2)]) C dX12_amount_3 (by decide) rfl ?_
  refine z_sub [(1, .int x2), (2, .int x1), (3, .int 0)] [3, 1, 0] rfl ?_
  obtain ⟨s2, h3, hf⟩ := bd_some hf
  refine hL4 N x2 x1 0 σ _ h3 ?_
  refine z_iload_n C dX12_amount_20 0 rfl ?_
  refine z_bipush (v := 10) C dX12_amount_21 (by decide) ?_
  refine z_irem C dX12_amount_23 (by decide) ?_
  exact z_iret C dX12_amount_24 rfl (by rw [← Option.some.inj hf])
theorem lk_X12_amount {Y : Yv} : Lk Y YX12_amount 2 := ⟨t_1057, t_13, ⟨by decide +kernel, by decide +kernel⟩, by decide +kernel⟩
abbrev YX12_isLetter : Yv := (yX12_isLetter, cX12_isLetter, 2, some .boolean, 1, 23)
def f_X12_isLetter_B15 (N : Nat) (rec : Int32 → Int32 → Sg → Option ((Sg) ⊕ (Int32 × Sg))) (a0 a1 : Int32) (σ : Sg) : Option ((Sg) ⊕ (Int32 × Sg)) :=
  if 4 ≤ a1 then (some (.inl σ)) else ((f_X12_amount N a0 a1 σ).bind (fun r5 => if r5.1 ≤ 5 then (rec a0 (a1 + 1) r5.2) else (some (.inr (0, r5.2)))))
def f_X12_isLetter_L15 (N : Nat) : Nat → Int32 → Int32 → Sg → Option ((Sg) ⊕ (Int32 × Sg))
  | 0 => fun _ _ _ => none
  | k + 1 => fun a0 a1 σ => f_X12_isLetter_B15 N (f_X12_isLetter_L15 N k) a0 a1 σ
def f_X12_isLetter (N : Nat) (x1 : Int32) (σ : Sg) : Option (Int32 × Sg) :=
  (f_X12_isIn N x1 0 5555 σ).bind (fun r1 => if r1.1 = 0 then (some (0, r1.2)) else (ex1 (f_X12_isLetter_L15 N N x1 0 r1.2) (fun s8 => some (1, s8)) (fun r9 => some r9)))
set_option maxHeartbeats 4000000 in
set_option maxRecDepth 20000 in
theorem m_X12_isLetter (l : Launch) (E : Ev) (N : Nat) (x1 : Int32) (σ : Sg) (R : Int32 × Sg) (hf : f_X12_isLetter N x1 σ = some R) : Ct l E YX12_isLetter [.int x1] σ (some (.int R.1), R.2) := by
  refine ct_of (by decide +kernel) (Nat.le_of_ble_eq_true rfl) [(0, .int x1)] rfl (fun X hX C => ?_)
  have hL15 : ∀ (k : Nat) (a0 a1 : Int32) (σ : Sg) (Q15 : (Sg) ⊕ (Int32 × Sg)), f_X12_isLetter_L15 N k a0 a1 σ = some Q15 → (∀ S, Q15 = .inl S → Zz E X YX12_isLetter (some (.int R.1), R.2) S 37 [] []) → (∀ r, Q15 = .inr r → ((some (.int R.1), R.2) : Pv) = (some (.int r.1), r.2)) → Zz E X YX12_isLetter (some (.int R.1), R.2) σ 15 [(0, .int a0), (1, .int a1)] [] := by
    intro k
    induction k with
    | zero =>
      intro a0 a1 σ Q15 hf
      have hf : (none : Option ((Sg) ⊕ (Int32 × Sg))) = some Q15 := hf
      cases hf
    | succ k ih =>
      intro a0 a1 σ Q15 hf hx15 hr15
      have hf : f_X12_isLetter_B15 N (f_X12_isLetter_L15 N k) a0 a1 σ = some Q15 := hf
      unfold f_X12_isLetter_B15 at hf
      refine z_iload_n C dX12_isLetter_15 1 rfl ?_
      refine z_iconst (v := 4) C dX12_isLetter_16 (by decide) ?_
      refine z_icmp_ge (tgt := 37) C dX12_isLetter_17 (by decide) (fun h4 => ?_) (fun h4 => ?_)
      · replace hf := ifp hf h4
        refine z_sub [] [] rfl ?_
        exact hx15 _ (Option.some.inj hf).symm
      · replace hf := ifn hf h4
        refine z_iload_n C dX12_isLetter_20 0 rfl ?_
        refine z_iload_n C dX12_isLetter_21 1 rfl ?_
        obtain ⟨r5, h6, hf⟩ := bd_some hf
        refine z_callS (Y2 := YX12_amount) (As := [.int a0, .int a1]) C lk_X12_amount t_1055 t_1056 (Nat.le_of_ble_eq_true rfl) (Nat.le_of_ble_eq_true rfl) dX12_isLetter_22 (Nat.le_of_ble_eq_true rfl) rfl rfl (m_X12_amount X.2.1 E N a0 a1 σ _ h6) ?_
        change Zz E X YX12_isLetter (some (.int R.1), R.2) r5.2 _ _ [.int r5.1]
        refine z_iconst (v := 5) C dX12_isLetter_25 (by decide) ?_
        refine z_icmp_le (tgt := 31) C dX12_isLetter_26 (by decide) (fun h7 => ?_) (fun h7 => ?_)
        · replace hf := ifp hf h7
          refine z_iinc (v := (a1 + 1)) (lv' := [(1, .int (a1 + 1)), (0, .int a0)]) C dX12_isLetter_31 1 rfl rfl (by decide) rfl ?_
          refine z_goto (tgt := 15) C dX12_isLetter_34 (by decide) ?_
          refine z_sub [(0, .int a0), (1, .int (a1 + 1))] [1, 0] rfl ?_
          exact ih a0 (a1 + 1) r5.2 _ hf hx15 hr15
        · replace hf := ifn hf h7
          refine z_iconst (v := 0) C dX12_isLetter_29 (by decide) ?_
          have hq := hr15 _ (Option.some.inj hf).symm
          exact z_zret C dX12_isLetter_30 rfl rfl hq
  unfold f_X12_isLetter at hf
  refine z_iload_n C dX12_isLetter_0 0 rfl ?_
  refine z_iconst (v := 0) C dX12_isLetter_1 (by decide) ?_
  refine z_sipush (v := 5555) C dX12_isLetter_2 (by decide) ?_
  obtain ⟨r1, h2, hf⟩ := bd_some hf
  refine z_callS (Y2 := YX12_isIn) (As := [.int x1, .int 0, .int 5555]) C lk_X12_isIn t_994 t_995 (Nat.le_of_ble_eq_true rfl) (Nat.le_of_ble_eq_true rfl) dX12_isLetter_5 (Nat.le_of_ble_eq_true rfl) rfl rfl (m_X12_isIn X.2.1 E N x1 0 5555 σ _ h2) ?_
  change Zz E X YX12_isLetter (some (.int R.1), R.2) r1.2 _ _ [.int r1.1]
  refine z_if_ne (tgt := 13) C dX12_isLetter_8 (by decide) (fun h3 => ?_) (fun h3 => ?_)
  · replace hf := ifn hf h3
    refine z_iconst (v := 0) C dX12_isLetter_13 (by decide) ?_
    refine z_istore_n (lv' := [(1, .int 0), (0, .int x1)]) C dX12_isLetter_14 (by decide) rfl ?_
    refine z_sub [(0, .int x1), (1, .int 0)] [1, 0] rfl ?_
    rcases ex1_some hf with ⟨s8, h10, hf⟩ | ⟨r9, h10, hf⟩
    · refine hL15 N x1 0 r1.2 _ h10 (fun S e => ?_) (fun _ e => nomatch e)
      cases e
      refine z_iconst (v := 1) C dX12_isLetter_37 (by decide) ?_
      exact z_zret C dX12_isLetter_38 rfl rfl (by rw [← Option.some.inj hf])
    · refine hL15 N x1 0 r1.2 _ h10 (fun _ e => nomatch e) (fun r e => ?_)
      cases e
      exact (by rw [← Option.some.inj hf])
  · replace hf := ifp hf h3
    refine z_iconst (v := 0) C dX12_isLetter_11 (by decide) ?_
    exact z_zret C dX12_isLetter_12 rfl rfl (by rw [← Option.some.inj hf])
theorem lk_X12_isLetter {Y : Yv} : Lk Y YX12_isLetter 1 := ⟨t_1054, t_13, ⟨by decide +kernel, by decide +kernel⟩, by decide +kernel⟩
abbrev YX12_cost : Yv := (yX12_cost, cX12_cost, 1, some .int, 1, 23)
def f_X12_cost (N : Nat) (x1 : Int32) (σ : Sg) : Option (Int32 × Sg) :=
  (f_X12_amount N x1 0 σ).bind (fun r1 => (f_X12_amount N x1 1 r1.2).bind (fun r3 => (f_X12_amount N x1 2 r3.2).bind (fun r5 => (f_X12_amount N x1 3 r5.2).bind (fun r7 => some ((((r1.1 + r3.1) + r5.1) + r7.1), r7.2)))))
set_option maxHeartbeats 4000000 in
set_option maxRecDepth 20000 in
theorem m_X12_cost (l : Launch) (E : Ev) (N : Nat) (x1 : Int32) (σ : Sg) (R : Int32 × Sg) (hf : f_X12_cost N x1 σ = some R) : Ct l E YX12_cost [.int x1] σ (some (.int R.1), R.2) := by
  refine ct_of (by decide +kernel) (Nat.le_of_ble_eq_true rfl) [(0, .int x1)] rfl (fun X hX C => ?_)
  unfold f_X12_cost at hf
  refine z_iload_n C dX12_cost_0 0 rfl ?_
  refine z_iconst (v := 0) C dX12_cost_1 (by decide) ?_
  obtain ⟨r1, h2, hf⟩ := bd_some hf
  refine z_callS (Y2 := YX12_amount) (As := [.int x1, .int 0]) C lk_X12_amount t_1055 t_1056 (Nat.le_of_ble_eq_true rfl) (Nat.le_of_ble_eq_true rfl) dX12_cost_2 (Nat.le_of_ble_eq_true rfl) rfl rfl (m_X12_amount X.2.1 E N x1 0 σ _ h2) ?_
  change Zz E X YX12_cost (some (.int R.1), R.2) r1.2 _ _ [.int r1.1]
  refine z_iload_n C dX12_cost_5 0 rfl ?_
  refine z_iconst (v := 1) C dX12_cost_6 (by decide) ?_
  obtain ⟨r3, h4, hf⟩ := bd_some hf
  refine z_callS (Y2 := YX12_amount) (As := [.int x1, .int 1]) C lk_X12_amount t_1055 t_1056 (Nat.le_of_ble_eq_true rfl) (Nat.le_of_ble_eq_true rfl) dX12_cost_7 (Nat.le_of_ble_eq_true rfl) rfl rfl (m_X12_amount X.2.1 E N x1 1 r1.2 _ h4) ?_
  change Zz E X YX12_cost (some (.int R.1), R.2) r3.2 _ _ [.int r3.1, .int r1.1]
  refine z_iadd C dX12_cost_10 ?_
  refine z_iload_n C dX12_cost_11 0 rfl ?_
  refine z_iconst (v := 2) C dX12_cost_12 (by decide) ?_
  obtain ⟨r5, h6, hf⟩ := bd_some hf
  refine z_callS (Y2 := YX12_amount) (As := [.int x1, .int 2]) C lk_X12_amount t_1055 t_1056 (Nat.le_of_ble_eq_true rfl) (Nat.le_of_ble_eq_true rfl) dX12_cost_13 (Nat.le_of_ble_eq_true rfl) rfl rfl (m_X12_amount X.2.1 E N x1 2 r3.2 _ h6) ?_
  change Zz E X YX12_cost (some (.int R.1), R.2) r5.2 _ _ [.int r5.1, .int (r1.1 + r3.1)]
  refine z_iadd C dX12_cost_16 ?_
  refine z_iload_n C dX12_cost_17 0 rfl ?_
  refine z_iconst (v := 3) C dX12_cost_18 (by decide) ?_
  obtain ⟨r7, h8, hf⟩ := bd_some hf
  refine z_callS (Y2 := YX12_amount) (As := [.int x1, .int 3]) C lk_X12_amount t_1055 t_1056 (Nat.le_of_ble_eq_true rfl) (Nat.le_of_ble_eq_true rfl) dX12_cost_19 (Nat.le_of_ble_eq_true rfl) rfl rfl (m_X12_amount X.2.1 E N x1 3 r5.2 _ h8) ?_
  change Zz E X YX12_cost (some (.int R.1), R.2) r7.2 _ _ [.int r7.1, .int ((r1.1 + r3.1) + r5.1)]
  refine z_iadd C dX12_cost_22 ?_
  exact z_iret C dX12_cost_23 rfl (by rw [← Option.some.inj hf])
theorem lk_X12_cost {Y : Yv} : Lk Y YX12_cost 1 := ⟨t_1115, t_13, ⟨by decide +kernel, by decide +kernel⟩, by decide +kernel⟩
abbrev YX12_two : Yv := (yX12_two, cX12_two, 1, some .int, 0, 0)
def f_X12_two (N : Nat) (x1 : Int32) (σ : Sg) : Option (Int32 × Sg) :=
  some (((((jrem x1 3) + ((10 : Int32) * (jrem (x1 / 3) 3))) + ((100 : Int32) * (jrem (x1 / 9) 3))) + ((1000 : Int32) * (x1 / 27))), σ)
set_option maxHeartbeats 4000000 in
set_option maxRecDepth 20000 in
theorem m_X12_two (l : Launch) (E : Ev) (N : Nat) (x1 : Int32) (σ : Sg) (R : Int32 × Sg) (hf : f_X12_two N x1 σ = some R) : Ct l E YX12_two [.int x1] σ (some (.int R.1), R.2) := by
  refine ct_of (by decide +kernel) (Nat.le_of_ble_eq_true rfl) [(0, .int x1)] rfl (fun X hX C => ?_)
  unfold f_X12_two at hf
  refine z_iload_n C dX12_two_0 0 rfl ?_
  refine z_iconst (v := 3) C dX12_two_1 (by decide) ?_
  refine z_irem C dX12_two_2 (by decide) ?_
  refine z_bipush (v := 10) C dX12_two_3 (by decide) ?_
  refine z_iload_n C dX12_two_5 0 rfl ?_
  refine z_iconst (v := 3) C dX12_two_6 (by decide) ?_
  refine z_idiv C dX12_two_7 (by decide) ?_
  refine z_iconst (v := 3) C dX12_two_8 (by decide) ?_
  refine z_irem C dX12_two_9 (by decide) ?_
  refine z_imul C dX12_two_10 ?_
  refine z_iadd C dX12_two_11 ?_
  refine z_bipush (v := 100) C dX12_two_12 (by decide) ?_
  refine z_iload_n C dX12_two_14 0 rfl ?_
  refine z_bipush (v := 9) C dX12_two_15 (by decide) ?_
  refine z_idiv C dX12_two_17 (by decide) ?_
  refine z_iconst (v := 3) C dX12_two_18 (by decide) ?_
  refine z_irem C dX12_two_19 (by decide) ?_
  refine z_imul C dX12_two_20 ?_
  refine z_iadd C dX12_two_21 ?_
  refine z_sipush (v := 1000) C dX12_two_22 (by decide) ?_
  refine z_iload_n C dX12_two_25 0 rfl ?_
  refine z_bipush (v := 27) C dX12_two_26 (by decide) ?_
  refine z_idiv C dX12_two_28 (by decide) ?_
  refine z_imul C dX12_two_29 ?_
  refine z_iadd C dX12_two_30 ?_
  exact z_iret C dX12_two_31 rfl (by rw [← Option.some.inj hf])
theorem lk_X12_two {Y : Yv} : Lk Y YX12_two 1 := ⟨t_1112, t_13, ⟨by decide +kernel, by decide +kernel⟩, by decide +kernel⟩
abbrev YX12_letter : Yv := (yX12_letter, cX12_letter, 3, some .int, 1, 22)
def f_X12_letter_J25 (N : Nat) (a1 a2 : Int32) (σ : Sg) : Option (Int32 × Sg) :=
  if a2 = 0 then (ga (σ 73 25) 64 (nm (sgs σ 83 (Int32.toNatClampNeg (σ 73 25)) a1) (fun σ6 => nm (sgs σ6 73 25 ((σ6 73 25) + 1)) (fun σ8 => some ((σ8 73 25), σ8))))) else ((f_X12_no N a2 σ).bind (fun r10 => some (r10.1, r10.2)))
def f_X12_letter (N : Nat) (x1 : Int32) (σ : Sg) : Option (Int32 × Sg) :=
  (f_X12_bound N x1 0 255 σ).bind (fun r1 => if r1.1 = 0 then (if (r1.2 73 25) = 64 then (f_X12_letter_J25 N x1 (-6) r1.2) else (f_X12_letter_J25 N x1 r1.1 r1.2)) else (f_X12_letter_J25 N x1 r1.1 r1.2))
set_option maxHeartbeats 4000000 in
set_option maxRecDepth 20000 in
theorem m_X12_letter (l : Launch) (E : Ev) (N : Nat) (x1 : Int32) (σ : Sg) (R : Int32 × Sg) (hf : f_X12_letter N x1 σ = some R) : Ct l E YX12_letter [.ref (E.2.1 73), .int x1] σ (some (.int R.1), R.2) := by
  refine ct_of (by decide +kernel) (Nat.le_of_ble_eq_true rfl) [(0, .ref (E.2.1 73)), (1, .int x1)] rfl (fun X hX C => ?_)
  have hJ25 : ∀ (a1 a2 : Int32) (σ : Sg), f_X12_letter_J25 N a1 a2 σ = some R → Zz E X YX12_letter (some (.int R.1), R.2) σ 25 [(0, .ref (E.2.1 73)), (1, .int a1), (2, .int a2)] [] := by
    intro a1 a2 σ hf
    unfold f_X12_letter_J25 at hf
    refine z_iload_n C dX12_letter_25 2 rfl ?_
    refine z_if_eq (tgt := 35) C dX12_letter_26 (by decide) (fun h4 => ?_) (fun h4 => ?_)
    · replace hf := ifp hf h4
      refine z_aload_n C dX12_letter_35 0 rfl ?_
      refine z_get (v := .ref (E.2.1 83)) (T := TX12) (N := 39) (ci := 11) C (by decide) wc_mo rfl in_X12 17 (by decide) t_862 rfl dX12_letter_36 ?_
      refine z_aload_n C dX12_letter_39 0 rfl ?_
      refine z_get (v := .int (σ 73 25)) (T := TX12) (N := 39) (ci := 11) C (by decide) wc_mo rfl in_X12 25 (by decide) t_870 rfl dX12_letter_40 ?_
      refine z_iload_n C dX12_letter_43 1 rfl ?_
      obtain ⟨h5, hf⟩ := ga_some hf
      obtain ⟨σ6, h7, hf⟩ := nm_some hf
      refine z_iast C ka_83 h5 dX12_letter_44 ?_
      rw [← h7]
      refine z_aload_n C dX12_letter_45 0 rfl ?_
      refine z_dup C dX12_letter_46 rfl ?_
      refine z_get (v := .int (σ6 73 25)) (T := TX12) (N := 39) (ci := 11) C (by decide) wc_mo rfl in_X12 25 (by decide) t_870 rfl dX12_letter_47 ?_
      refine z_iconst (v := 1) C dX12_letter_50 (by decide) ?_
      refine z_iadd C dX12_letter_51 ?_
      obtain ⟨σ8, h9, hf⟩ := nm_some hf
      refine z_put (T := TX12) (N := 39) (ci := 11) (ty := .int) C tyX12 tyX12_ok nmX12 (by decide) wc_mo rfl in_X12 25 (by decide) t_870 rfl rfl rfl rfl (Nat.le_of_ble_eq_true rfl) (pw_X12_25) dX12_letter_52 ?_
      rw [← h9]
      refine z_aload_n C dX12_letter_55 0 rfl ?_
      refine z_get (v := .int (σ8 73 25)) (T := TX12) (N := 39) (ci := 11) C (by decide) wc_mo rfl in_X12 25 (by decide) t_870 rfl dX12_letter_56 ?_
      exact z_iret C dX12_letter_59 rfl (by rw [← Option.some.inj hf])
    · replace hf := ifn hf h4
      refine z_aload_n C dX12_letter_29 0 rfl ?_
      refine z_iload_n C dX12_letter_30 2 rfl ?_
      obtain ⟨r10, h11, hf⟩ := bd_some hf
      refine z_callV (Y2 := YX12_no) (CC := RX12) (T := TX12) (N := 39) (ci := 11) (As := [.int a2]) C lk_X12_no (by decide) wc_mo rfl t_970 t_972 p_27 (Nat.le_of_ble_eq_true rfl) (Nat.le_of_ble_eq_true rfl) dX12_letter_31 (Nat.le_of_ble_eq_true rfl) rfl rfl (m_X12_no X.2.1 E N a2 σ _ h11) ?_
      change Zz E X YX12_letter (some (.int R.1), R.2) r10.2 _ _ [.int r10.1]
      exact z_iret C dX12_letter_34 rfl (by rw [← Option.some.inj hf])
  unfold f_X12_letter at hf
  refine z_iload_n C dX12_letter_0 1 rfl ?_
  refine z_iconst (v := 0) C dX12_letter_1 (by decide) ?_
  refine z_sipush (v := 255) C dX12_letter_2 (by decide) ?_
  obtain ⟨r1, h2, hf⟩ := bd_some hf
  refine z_callS (Y2 := YX12_bound) (As := [.int x1, .int 0, .int 255]) C lk_X12_bound t_967 t_968 (Nat.le_of_ble_eq_true rfl) (Nat.le_of_ble_eq_true rfl) dX12_letter_5 (Nat.le_of_ble_eq_true rfl) rfl rfl (m_X12_bound X.2.1 E N x1 0 255 σ _ h2) ?_
  change Zz E X YX12_letter (some (.int R.1), R.2) r1.2 _ _ [.int r1.1]
  refine z_istore_n (lv' := [(2, .int r1.1), (0, .ref (E.2.1 73)), (1, .int x1)]) C dX12_letter_8 (by decide) rfl ?_
  refine z_iload_n C dX12_letter_9 0 rfl ?_
  refine z_if_ne (tgt := 25) C dX12_letter_10 (by decide) (fun h3 => ?_) (fun h3 => ?_)
  · replace hf := ifn hf h3
    refine z_sub [(0, .ref (E.2.1 73)), (1, .int x1), (2, .int r1.1)] [1, 2, 0] rfl ?_
    exact hJ25 x1 r1.1 r1.2 hf
  · replace hf := ifp hf h3
    refine z_aload_n C dX12_letter_13 1 rfl ?_
    refine z_get (v := .int (r1.2 73 25)) (T := TX12) (N := 39) (ci := 11) C (by decide) wc_mo rfl in_X12 25 (by decide) t_870 rfl dX12_letter_14 ?_
    refine z_bipush (v := 64) C dX12_letter_17 (by decide) ?_
    refine z_icmp_ne (tgt := 25) C dX12_letter_19 (by decide) (fun h12 => ?_) (fun h12 => ?_)
    · replace hf := ifn hf h12
      refine z_sub [(0, .ref (E.2.1 73)), (1, .int x1), (2, .int r1.1)] [1, 2, 0] rfl ?_
      exact hJ25 x1 r1.1 r1.2 hf
    · replace hf := ifp hf h12
      refine z_bipush (v := (-6)) C dX12_letter_22 (by decide) ?_
      refine z_istore_n (lv' := [(2, .int (-6)), (0, .ref (E.2.1 73)), (1, .int x1)]) C dX12_letter_24 (by decide) rfl ?_
      refine z_sub [(0, .ref (E.2.1 73)), (1, .int x1), (2, .int (-6))] [1, 2, 0] rfl ?_
      exact hJ25 x1 (-6) r1.2 hf
theorem lk_X12_letter {Y : Yv} : Lk Y YX12_letter 1 := ⟨t_966, t_13, ⟨by decide +kernel, by decide +kernel⟩, by decide +kernel⟩
abbrev YX12_next : Yv := (yX12_next, cX12_next, 1, some .int, 0, 0)
def f_X12_next (N : Nat) (σ : Sg) : Option (Int32 × Sg) :=
  if (σ 73 25) ≤ (σ 73 26) then (some ((-1), σ)) else (ga (σ 73 26) 64 (some ((σ 83 (Int32.toNatClampNeg (σ 73 26))), σ)))
set_option maxHeartbeats 4000000 in
set_option maxRecDepth 20000 in
theorem m_X12_next (l : Launch) (E : Ev) (N : Nat) (σ : Sg) (R : Int32 × Sg) (hf : f_X12_next N σ = some R) : Ct l E YX12_next [.ref (E.2.1 73)] σ (some (.int R.1), R.2) := by
  refine ct_of (by decide +kernel) (Nat.le_of_ble_eq_true rfl) [(0, .ref (E.2.1 73))] rfl (fun X hX C => ?_)
  unfold f_X12_next at hf
  refine z_aload_n C dX12_next_0 0 rfl ?_
  refine z_get (v := .int (σ 73 26)) (T := TX12) (N := 39) (ci := 11) C (by decide) wc_mo rfl in_X12 26 (by decide) t_871 rfl dX12_next_1 ?_
  refine z_aload_n C dX12_next_4 0 rfl ?_
  refine z_get (v := .int (σ 73 25)) (T := TX12) (N := 39) (ci := 11) C (by decide) wc_mo rfl in_X12 25 (by decide) t_870 rfl dX12_next_5 ?_
  refine z_icmp_ge (tgt := 23) C dX12_next_8 (by decide) (fun h1 => ?_) (fun h1 => ?_)
  · replace hf := ifp hf h1
    refine z_iconst (v := (-1)) C dX12_next_23 (by decide) ?_
    exact z_iret C dX12_next_24 rfl (by rw [← Option.some.inj hf])
  · replace hf := ifn hf h1
    refine z_aload_n C dX12_next_11 0 rfl ?_
    refine z_get (v := .ref (E.2.1 83)) (T := TX12) (N := 39) (ci := 11) C (by decide) wc_mo rfl in_X12 17 (by decide) t_862 rfl dX12_next_12 ?_
    refine z_aload_n C dX12_next_15 0 rfl ?_
    refine z_get (v := .int (σ 73 26)) (T := TX12) (N := 39) (ci := 11) C (by decide) wc_mo rfl in_X12 26 (by decide) t_871 rfl dX12_next_16 ?_
    obtain ⟨h2, hf⟩ := ga_some hf
    refine z_iald C ka_83 h2 dX12_next_19 ?_
    refine z_goto (tgt := 24) C dX12_next_20 (by decide) ?_
    exact z_iret C dX12_next_24 rfl (by rw [← Option.some.inj hf])
theorem lk_X12_next {Y : Yv} : Lk Y YX12_next 0 := ⟨t_985, t_13, ⟨by decide +kernel, by decide +kernel⟩, by decide +kernel⟩
abbrev YX12_isNext : Yv := (yX12_isNext, cX12_isNext, 2, some .boolean, 1, 20)
def f_X12_isNext (N : Nat) (x1 : Int32) (σ : Sg) : Option (Int32 × Sg) :=
  (f_X12_next N σ).bind (fun r1 => if r1.1 = x1 then (nm (sgs r1.2 73 26 ((r1.2 73 26) + 1)) (fun σ4 => some (1, σ4))) else (some (0, r1.2)))
set_option maxHeartbeats 4000000 in
set_option maxRecDepth 20000 in
theorem m_X12_isNext (l : Launch) (E : Ev) (N : Nat) (x1 : Int32) (σ : Sg) (R : Int32 × Sg) (hf : f_X12_isNext N x1 σ = some R) : Ct l E YX12_isNext [.ref (E.2.1 73), .int x1] σ (some (.int R.1), R.2) := by
  refine ct_of (by decide +kernel) (Nat.le_of_ble_eq_true rfl) [(0, .ref (E.2.1 73)), (1, .int x1)] rfl (fun X hX C => ?_)
  unfold f_X12_isNext at hf
  refine z_aload_n C dX12_isNext_0 0 rfl ?_
  obtain ⟨r1, h2, hf⟩ := bd_some hf
  refine z_callV (Y2 := YX12_next) (CC := RX12) (T := TX12) (N := 39) (ci := 11) (As := []) C lk_X12_next (by decide) wc_mo rfl t_982 t_984 p_29 (Nat.le_of_ble_eq_true rfl) (Nat.le_of_ble_eq_true rfl) dX12_isNext_1 (Nat.le_of_ble_eq_true rfl) rfl rfl (m_X12_next X.2.1 E N σ _ h2) ?_
  change Zz E X YX12_isNext (some (.int R.1), R.2) r1.2 _ _ [.int r1.1]
  refine z_iload_n C dX12_isNext_4 1 rfl ?_
  refine z_icmp_eq (tgt := 10) C dX12_isNext_5 (by decide) (fun h3 => ?_) (fun h3 => ?_)
  · replace hf := ifp hf h3
    refine z_aload_n C dX12_isNext_10 0 rfl ?_
    refine z_dup C dX12_isNext_11 rfl ?_
    refine z_get (v := .int (r1.2 73 26)) (T := TX12) (N := 39) (ci := 11) C (by decide) wc_mo rfl in_X12 26 (by decide) t_871 rfl dX12_isNext_12 ?_
    refine z_iconst (v := 1) C dX12_isNext_15 (by decide) ?_
    refine z_iadd C dX12_isNext_16 ?_
    obtain ⟨σ4, h5, hf⟩ := nm_some hf
    refine z_put (T := TX12) (N := 39) (ci := 11) (ty := .int) C tyX12 tyX12_ok nmX12 (by decide) wc_mo rfl in_X12 26 (by decide) t_871 rfl rfl rfl rfl (Nat.le_of_ble_eq_true rfl) (pw_X12_26) dX12_isNext_17 ?_
    rw [← h5]
    refine z_iconst (v := 1) C dX12_isNext_20 (by decide) ?_
    exact z_zret C dX12_isNext_21 rfl rfl (by rw [← Option.some.inj hf])
  · replace hf := ifn hf h3
    refine z_iconst (v := 0) C dX12_isNext_8 (by decide) ?_
    exact z_zret C dX12_isNext_9 rfl rfl (by rw [← Option.some.inj hf])
theorem lk_X12_isNext {Y : Yv} : Lk Y YX12_isNext 1 := ⟨t_1000, t_13, ⟨by decide +kernel, by decide +kernel⟩, by decide +kernel⟩
abbrev YX12_number : Yv := (yX12_number, cX12_number, 4, some .int, 1, 22)
def f_X12_number_B20 (N : Nat) (rec : Int32 → Int32 → Int32 → Sg → Option (Int32 × Sg)) (a1 a2 a3 : Int32) (σ : Sg) : Option (Int32 × Sg) :=
  if a1 ≤ a3 then (some (a2, σ)) else ((f_X12_next N σ).bind (fun r7 => (f_X12_isIn N r7.1 48 57 r7.2).bind (fun r9 => if r9.1 = 0 then (some (a2, r9.2)) else ((f_X12_next N r9.2).bind (fun r12 => nm ((((10 : Int32) * a2) + r12.1) - 48) (fun v14 => nm (sgs r12.2 73 26 ((r12.2 73 26) + 1)) (fun σ16 => rec a1 v14 (a3 + 1) σ16)))))))
def f_X12_number_L20 (N : Nat) : Nat → Int32 → Int32 → Int32 → Sg → Option (Int32 × Sg)
  | 0 => fun _ _ _ _ => none
  | k + 1 => fun a1 a2 a3 σ => f_X12_number_B20 N (f_X12_number_L20 N k) a1 a2 a3 σ
def f_X12_number (N : Nat) (x1 : Int32) (σ : Sg) : Option (Int32 × Sg) :=
  (f_X12_next N σ).bind (fun r1 => (f_X12_isIn N r1.1 48 57 r1.2).bind (fun r3 => if r3.1 = 0 then (some ((-1), r3.2)) else ((f_X12_number_L20 N N x1 0 0 r3.2).bind (fun s18 => some (s18.1, s18.2)))))
set_option maxHeartbeats 4000000 in
set_option maxRecDepth 20000 in
theorem m_X12_number (l : Launch) (E : Ev) (N : Nat) (x1 : Int32) (σ : Sg) (R : Int32 × Sg) (hf : f_X12_number N x1 σ = some R) : Ct l E YX12_number [.ref (E.2.1 73), .int x1] σ (some (.int R.1), R.2) := by
  refine ct_of (by decide +kernel) (Nat.le_of_ble_eq_true rfl) [(0, .ref (E.2.1 73)), (1, .int x1)] rfl (fun X hX C => ?_)
  have hL20 : ∀ (k : Nat) (a1 a2 a3 : Int32) (σ : Sg) (Q20 : Int32 × Sg), f_X12_number_L20 N k a1 a2 a3 σ = some Q20 → (Zz E X YX12_number (some (.int R.1), R.2) Q20.2 68 [(2, .int Q20.1)] []) → Zz E X YX12_number (some (.int R.1), R.2) σ 20 [(0, .ref (E.2.1 73)), (1, .int a1), (2, .int a2), (3, .int a3)] [] := by
    intro k
    induction k with
    | zero =>
      intro a1 a2 a3 σ Q20 hf
      have hf : (none : Option (Int32 × Sg)) = some Q20 := hf
      cases hf
    | succ k ih =>
      intro a1 a2 a3 σ Q20 hf hx20
      have hf : f_X12_number_B20 N (f_X12_number_L20 N k) a1 a2 a3 σ = some Q20 := hf
      unfold f_X12_number_B20 at hf
      refine z_iload_n C dX12_number_20 3 rfl ?_
      refine z_iload_n C dX12_number_21 1 rfl ?_
      refine z_icmp_ge (tgt := 68) C dX12_number_22 (by decide) (fun h6 => ?_) (fun h6 => ?_)
      · replace hf := ifp hf h6
        refine z_sub [(2, .int a2)] [2] rfl ?_
        obtain rfl := Option.some.inj hf
        exact hx20
      · replace hf := ifn hf h6
        refine z_aload_n C dX12_number_25 0 rfl ?_
        obtain ⟨r7, h8, hf⟩ := bd_some hf
        refine z_callV (Y2 := YX12_next) (CC := RX12) (T := TX12) (N := 39) (ci := 11) (As := []) C lk_X12_next (by decide) wc_mo rfl t_982 t_984 p_29 (Nat.le_of_ble_eq_true rfl) (Nat.le_of_ble_eq_true rfl) dX12_number_26 (Nat.le_of_ble_eq_true rfl) rfl rfl (m_X12_next X.2.1 E N σ _ h8) ?_
        change Zz E X YX12_number (some (.int R.1), R.2) r7.2 _ _ [.int r7.1]
        refine z_bipush (v := 48) C dX12_number_29 (by decide) ?_
        refine z_bipush (v := 57) C dX12_number_31 (by decide) ?_
        obtain ⟨r9, h10, hf⟩ := bd_some hf
        refine z_callS (Y2 := YX12_isIn) (As := [.int r7.1, .int 48, .int 57]) C lk_X12_isIn t_994 t_995 (Nat.le_of_ble_eq_true rfl) (Nat.le_of_ble_eq_true rfl) dX12_number_33 (Nat.le_of_ble_eq_true rfl) rfl rfl (m_X12_isIn X.2.1 E N r7.1 48 57 r7.2 _ h10) ?_
        change Zz E X YX12_number (some (.int R.1), R.2) r9.2 _ _ [.int r9.1]
        refine z_if_eq (tgt := 68) C dX12_number_36 (by decide) (fun h11 => ?_) (fun h11 => ?_)
        · replace hf := ifp hf h11
          refine z_sub [(2, .int a2)] [2] rfl ?_
          obtain rfl := Option.some.inj hf
          exact hx20
        · replace hf := ifn hf h11
          refine z_bipush (v := 10) C dX12_number_39 (by decide) ?_
          refine z_iload_n C dX12_number_41 2 rfl ?_
          refine z_imul C dX12_number_42 ?_
          refine z_aload_n C dX12_number_43 0 rfl ?_
          obtain ⟨r12, h13, hf⟩ := bd_some hf
          refine z_callV (Y2 := YX12_next) (CC := RX12) (T := TX12) (N := 39) (ci := 11) (As := []) C lk_X12_next (by decide) wc_mo rfl t_982 t_984 p_29 (Nat.le_of_ble_eq_true rfl) (Nat.le_of_ble_eq_true rfl) dX12_number_44 (Nat.le_of_ble_eq_true rfl) rfl rfl (m_X12_next X.2.1 E N r9.2 _ h13) ?_
          change Zz E X YX12_number (some (.int R.1), R.2) r12.2 _ _ [.int r12.1, .int ((10 : Int32) * a2)]
          refine z_iadd C dX12_number_47 ?_
          refine z_bipush (v := 48) C dX12_number_48 (by decide) ?_
          refine z_isub C dX12_number_50 ?_
          obtain ⟨v14, h15, hf⟩ := nm_some hf
          rw [← h15]
          refine z_istore_n (lv' := [(2, .int v14), (0, .ref (E.2.1 73)), (1, .int a1), (3, .int a3)]) C dX12_number_51 (by decide) rfl ?_
          refine z_aload_n C dX12_number_52 1 rfl ?_
          refine z_dup C dX12_number_53 rfl ?_
          refine z_get (v := .int (r12.2 73 26)) (T := TX12) (N := 39) (ci := 11) C (by decide) wc_mo rfl in_X12 26 (by decide) t_871 rfl dX12_number_54 ?_
          refine z_iconst (v := 1) C dX12_number_57 (by decide) ?_
          refine z_iadd C dX12_number_58 ?_
          obtain ⟨σ16, h17, hf⟩ := nm_some hf
          refine z_put (T := TX12) (N := 39) (ci := 11) (ty := .int) C tyX12 tyX12_ok nmX12 (by decide) wc_mo rfl in_X12 26 (by decide) t_871 rfl rfl rfl rfl (Nat.le_of_ble_eq_true rfl) (pw_X12_26) dX12_number_59 ?_
          rw [← h17]
          refine z_iinc (v := (a3 + 1)) (lv' := [(3, .int (a3 + 1)), (2, .int v14), (0, .ref (E.2.1 73)), (1, .int a1)]) C dX12_number_62 3 rfl rfl (by decide) rfl ?_
          refine z_goto (tgt := 20) C dX12_number_65 (by decide) ?_
          refine z_sub [(0, .ref (E.2.1 73)), (1, .int a1), (2, .int v14), (3, .int (a3 + 1))] [2, 3, 1, 0] rfl ?_
          exact ih a1 v14 (a3 + 1) σ16 _ hf hx20
  unfold f_X12_number at hf
  refine z_aload_n C dX12_number_0 0 rfl ?_
  obtain ⟨r1, h2, hf⟩ := bd_some hf
  refine z_callV (Y2 := YX12_next) (CC := RX12) (T := TX12) (N := 39) (ci := 11) (As := []) C lk_X12_next (by decide) wc_mo rfl t_982 t_984 p_29 (Nat.le_of_ble_eq_true rfl) (Nat.le_of_ble_eq_true rfl) dX12_number_1 (Nat.le_of_ble_eq_true rfl) rfl rfl (m_X12_next X.2.1 E N σ _ h2) ?_
  change Zz E X YX12_number (some (.int R.1), R.2) r1.2 _ _ [.int r1.1]
  refine z_bipush (v := 48) C dX12_number_4 (by decide) ?_
  refine z_bipush (v := 57) C dX12_number_6 (by decide) ?_
  obtain ⟨r3, h4, hf⟩ := bd_some hf
  refine z_callS (Y2 := YX12_isIn) (As := [.int r1.1, .int 48, .int 57]) C lk_X12_isIn t_994 t_995 (Nat.le_of_ble_eq_true rfl) (Nat.le_of_ble_eq_true rfl) dX12_number_8 (Nat.le_of_ble_eq_true rfl) rfl rfl (m_X12_isIn X.2.1 E N r1.1 48 57 r1.2 _ h4) ?_
  change Zz E X YX12_number (some (.int R.1), R.2) r3.2 _ _ [.int r3.1]
  refine z_if_ne (tgt := 16) C dX12_number_11 (by decide) (fun h5 => ?_) (fun h5 => ?_)
  · replace hf := ifn hf h5
    refine z_iconst (v := 0) C dX12_number_16 (by decide) ?_
    refine z_istore_n (lv' := [(2, .int 0), (0, .ref (E.2.1 73)), (1, .int x1)]) C dX12_number_17 (by decide) rfl ?_
    refine z_iconst (v := 0) C dX12_number_18 (by decide) ?_
    refine z_istore_n (lv' := [(3, .int 0), (2, .int 0), (0, .ref (E.2.1 73)), (1, .int x1)]) C dX12_number_19 (by decide) rfl ?_
    refine z_sub [(0, .ref (E.2.1 73)), (1, .int x1), (2, .int 0), (3, .int 0)] [2, 3, 1, 0] rfl ?_
    obtain ⟨s18, h19, hf⟩ := bd_some hf
    refine hL20 N x1 0 0 r3.2 _ h19 ?_
    refine z_iload_n C dX12_number_68 0 rfl ?_
    exact z_iret C dX12_number_69 rfl (by rw [← Option.some.inj hf])
  · replace hf := ifp hf h5
    refine z_iconst (v := (-1)) C dX12_number_14 (by decide) ?_
    exact z_iret C dX12_number_15 rfl (by rw [← Option.some.inj hf])
theorem lk_X12_number {Y : Yv} : Lk Y YX12_number 1 := ⟨t_993, t_13, ⟨by decide +kernel, by decide +kernel⟩, by decide +kernel⟩
abbrev YX12_kindOf : Yv := (yX12_kindOf, cX12_kindOf, 1, some .int, 0, 0)
def f_X12_kindOf (N : Nat) (x1 : Int32) (σ : Sg) : Option (Int32 × Sg) :=
  if x1 = 97 then (some (1, σ)) else (if x1 = 104 then (some (4, σ)) else (if x1 = 109 then (some (2, σ)) else (if x1 = 112 then (some (0, σ)) else (if x1 = 116 then (some (3, σ)) else (some ((-1), σ))))))
set_option maxHeartbeats 4000000 in
set_option maxRecDepth 20000 in
theorem m_X12_kindOf (l : Launch) (E : Ev) (N : Nat) (x1 : Int32) (σ : Sg) (R : Int32 × Sg) (hf : f_X12_kindOf N x1 σ = some R) : Ct l E YX12_kindOf [.int x1] σ (some (.int R.1), R.2) := by
  refine ct_of (by decide +kernel) (Nat.le_of_ble_eq_true rfl) [(0, .int x1)] rfl (fun X hX C => ?_)
  unfold f_X12_kindOf at hf
  refine z_iload_n C dX12_kindOf_0 0 rfl ?_
  by_cases h1 : x1 = 97
  · replace hf := ifp hf h1
    refine z_look (x := x1) (off := 53) (tgt := 54) C dX12_kindOf_1 (by decide) (by rw [h1]; decide) (by decide) ?_
    refine z_iconst (v := 1) C dX12_kindOf_54 (by decide) ?_
    exact z_iret C dX12_kindOf_55 rfl (by rw [← Option.some.inj hf])
  · replace hf := ifn hf h1
    by_cases h2 : x1 = 104
    · replace hf := ifp hf h2
      refine z_look (x := x1) (off := 59) (tgt := 60) C dX12_kindOf_1 (by decide) (by rw [h2]; decide) (by decide) ?_
      refine z_iconst (v := 4) C dX12_kindOf_60 (by decide) ?_
      exact z_iret C dX12_kindOf_61 rfl (by rw [← Option.some.inj hf])
    · replace hf := ifn hf h2
      by_cases h3 : x1 = 109
      · replace hf := ifp hf h3
        refine z_look (x := x1) (off := 55) (tgt := 56) C dX12_kindOf_1 (by decide) (by rw [h3]; decide) (by decide) ?_
        refine z_iconst (v := 2) C dX12_kindOf_56 (by decide) ?_
        exact z_iret C dX12_kindOf_57 rfl (by rw [← Option.some.inj hf])
      · replace hf := ifn hf h3
        by_cases h4 : x1 = 112
        · replace hf := ifp hf h4
          refine z_look (x := x1) (off := 51) (tgt := 52) C dX12_kindOf_1 (by decide) (by rw [h4]; decide) (by decide) ?_
          refine z_iconst (v := 0) C dX12_kindOf_52 (by decide) ?_
          exact z_iret C dX12_kindOf_53 rfl (by rw [← Option.some.inj hf])
        · replace hf := ifn hf h4
          by_cases h5 : x1 = 116
          · replace hf := ifp hf h5
            refine z_look (x := x1) (off := 57) (tgt := 58) C dX12_kindOf_1 (by decide) (by rw [h5]; decide) (by decide) ?_
            refine z_iconst (v := 3) C dX12_kindOf_58 (by decide) ?_
            exact z_iret C dX12_kindOf_59 rfl (by rw [← Option.some.inj hf])
          · replace hf := ifn hf h5
            refine z_look (x := x1) (off := 61) (tgt := 62) C dX12_kindOf_1 (by decide) (by rw [lv_osw h1 (by decide)]; rw [lv_osw h2 (by decide)]; rw [lv_osw h3 (by decide)]; rw [lv_osw h4 (by decide)]; rw [lv_osw h5 (by decide)]; rfl) (by decide) ?_
            refine z_iconst (v := (-1)) C dX12_kindOf_62 (by decide) ?_
            exact z_iret C dX12_kindOf_63 rfl (by rw [← Option.some.inj hf])
theorem lk_X12_kindOf {Y : Yv} : Lk Y YX12_kindOf 1 := ⟨t_1007, t_13, ⟨by decide +kernel, by decide +kernel⟩, by decide +kernel⟩
abbrev YX12_readsPerson : Yv := (yX12_readsPerson, cX12_readsPerson, 2, some .boolean, 2, 45)
def f_X12_readsPerson (N : Nat) (x1 : Int32) (σ : Sg) : Option (Int32 × Sg) :=
  (f_X12_number N 2 σ).bind (fun r1 => ga x1 32 (nm (sgs r1.2 86 (Int32.toNatClampNeg x1) r1.1) (fun σ4 => ga x1 32 (if (σ4 86 (Int32.toNatClampNeg x1)) < 0 then (some (0, σ4)) else ((f_X12_isNext N 44 σ4).bind (fun r8 => if r8.1 = 0 then (some (0, r8.2)) else ((f_X12_number N 2 r8.2).bind (fun r11 => ga x1 32 (nm (sgs r11.2 87 (Int32.toNatClampNeg x1) r11.1) (fun σ14 => ga x1 32 (if (σ14 87 (Int32.toNatClampNeg x1)) < 0 then (some (0, σ14)) else ((f_X12_isNext N 44 σ14).bind (fun r18 => if r18.1 = 0 then (some (0, r18.2)) else ((f_X12_number N 2 r18.2).bind (fun r21 => ga x1 32 (nm (sgs r21.2 88 (Int32.toNatClampNeg x1) r21.1) (fun σ24 => ga x1 32 (if (σ24 88 (Int32.toNatClampNeg x1)) < 0 then (some (0, σ24)) else ((f_X12_isNext N 44 σ24).bind (fun r28 => if r28.1 = 0 then (some (0, r28.2)) else ((f_X12_number N 2 r28.2).bind (fun r31 => ga x1 32 (nm (sgs r31.2 89 (Int32.toNatClampNeg x1) r31.1) (fun σ34 => ga x1 32 (if (σ34 89 (Int32.toNatClampNeg x1)) < 0 then (some (0, σ34)) else ((f_X12_isNext N 43 σ34).bind (fun r38 => if r38.1 = 0 then (some (0, r38.2)) else ((f_X12_number N 1 r38.2).bind (fun r41 => ga x1 32 (nm (sgs r41.2 90 (Int32.toNatClampNeg x1) r41.1) (fun σ44 => ga x1 32 (if (σ44 90 (Int32.toNatClampNeg x1)) < 0 then (some (0, σ44)) else ((f_X12_isNext N 59 σ44).bind (fun r48 => if r48.1 = 0 then (some (0, r48.2)) else (some (1, r48.2))))))))))))))))))))))))))))))))))))
set_option maxHeartbeats 4000000 in
set_option maxRecDepth 20000 in
theorem m_X12_readsPerson (l : Launch) (E : Ev) (N : Nat) (x1 : Int32) (σ : Sg) (R : Int32 × Sg) (hf : f_X12_readsPerson N x1 σ = some R) : Ct l E YX12_readsPerson [.ref (E.2.1 73), .int x1] σ (some (.int R.1), R.2) := by
  refine ct_of (by decide +kernel) (Nat.le_of_ble_eq_true rfl) [(0, .ref (E.2.1 73)), (1, .int x1)] rfl (fun X hX C => ?_)
  unfold f_X12_readsPerson at hf
  refine z_aload_n C dX12_readsPerson_0 0 rfl ?_
  refine z_get (v := .ref (E.2.1 86)) (T := TX12) (N := 39) (ci := 11) C (by decide) wc_mo rfl in_X12 20 (by decide) t_865 rfl dX12_readsPerson_1 ?_
  refine z_iload_n C dX12_readsPerson_4 1 rfl ?_
  refine z_aload_n C dX12_readsPerson_5 0 rfl ?_
  refine z_iconst (v := 2) C dX12_readsPerson_6 (by decide) ?_
  obtain ⟨r1, h2, hf⟩ := bd_some hf
  refine z_callV (Y2 := YX12_number) (CC := RX12) (T := TX12) (N := 39) (ci := 11) (As := [.int 2]) C lk_X12_number (by decide) wc_mo rfl t_990 t_992 p_31 (Nat.le_of_ble_eq_true rfl) (Nat.le_of_ble_eq_true rfl) dX12_readsPerson_7 (Nat.le_of_ble_eq_true rfl) rfl rfl (m_X12_number X.2.1 E N 2 σ _ h2) ?_
  change Zz E X YX12_readsPerson (some (.int R.1), R.2) r1.2 _ _ [.int r1.1, .int x1, .ref (E.2.1 86)]
  obtain ⟨h3, hf⟩ := ga_some hf
  obtain ⟨σ4, h5, hf⟩ := nm_some hf
  refine z_iast C ka_86 h3 dX12_readsPerson_10 ?_
  rw [← h5]
  refine z_aload_n C dX12_readsPerson_11 0 rfl ?_
  refine z_get (v := .ref (E.2.1 86)) (T := TX12) (N := 39) (ci := 11) C (by decide) wc_mo rfl in_X12 20 (by decide) t_865 rfl dX12_readsPerson_12 ?_
  refine z_iload_n C dX12_readsPerson_15 1 rfl ?_
  obtain ⟨h6, hf⟩ := ga_some hf
  refine z_iald C ka_86 h6 dX12_readsPerson_16 ?_
  refine z_if_lt (tgt := 29) C dX12_readsPerson_17 (by decide) (fun h7 => ?_) (fun h7 => ?_)
  · replace hf := ifp hf h7
    refine z_iconst (v := 0) C dX12_readsPerson_29 (by decide) ?_
    exact z_zret C dX12_readsPerson_30 rfl rfl (by rw [← Option.some.inj hf])
  · replace hf := ifn hf h7
    refine z_aload_n C dX12_readsPerson_20 0 rfl ?_
    refine z_bipush (v := 44) C dX12_readsPerson_21 (by decide) ?_
    obtain ⟨r8, h9, hf⟩ := bd_some hf
    refine z_callV (Y2 := YX12_isNext) (CC := RX12) (T := TX12) (N := 39) (ci := 11) (As := [.int 44]) C lk_X12_isNext (by decide) wc_mo rfl t_997 t_999 p_32 (Nat.le_of_ble_eq_true rfl) (Nat.le_of_ble_eq_true rfl) dX12_readsPerson_23 (Nat.le_of_ble_eq_true rfl) rfl rfl (m_X12_isNext X.2.1 E N 44 σ4 _ h9) ?_
    change Zz E X YX12_readsPerson (some (.int R.1), R.2) r8.2 _ _ [.int r8.1]
    refine z_if_ne (tgt := 31) C dX12_readsPerson_26 (by decide) (fun h10 => ?_) (fun h10 => ?_)
    · replace hf := ifn hf h10
      refine z_aload_n C dX12_readsPerson_31 0 rfl ?_
      refine z_get (v := .ref (E.2.1 87)) (T := TX12) (N := 39) (ci := 11) C (by decide) wc_mo rfl in_X12 21 (by decide) t_866 rfl dX12_readsPerson_32 ?_
      refine z_iload_n C dX12_readsPerson_35 1 rfl ?_
      refine z_aload_n C dX12_readsPerson_36 0 rfl ?_
      refine z_iconst (v := 2) C dX12_readsPerson_37 (by decide) ?_
      obtain ⟨r11, h12, hf⟩ := bd_some hf
      refine z_callV (Y2 := YX12_number) (CC := RX12) (T := TX12) (N := 39) (ci := 11) (As := [.int 2]) C lk_X12_number (by decide) wc_mo rfl t_990 t_992 p_31 (Nat.le_of_ble_eq_true rfl) (Nat.le_of_ble_eq_true rfl) dX12_readsPerson_38 (Nat.le_of_ble_eq_true rfl) rfl rfl (m_X12_number X.2.1 E N 2 r8.2 _ h12) ?_
      change Zz E X YX12_readsPerson (some (.int R.1), R.2) r11.2 _ _ [.int r11.1, .int x1, .ref (E.2.1 87)]
      obtain ⟨h13, hf⟩ := ga_some hf
      obtain ⟨σ14, h15, hf⟩ := nm_some hf
      refine z_iast C ka_87 h13 dX12_readsPerson_41 ?_
      rw [← h15]
      refine z_aload_n C dX12_readsPerson_42 0 rfl ?_
      refine z_get (v := .ref (E.2.1 87)) (T := TX12) (N := 39) (ci := 11) C (by decide) wc_mo rfl in_X12 21 (by decide) t_866 rfl dX12_readsPerson_43 ?_
      refine z_iload_n C dX12_readsPerson_46 1 rfl ?_
      obtain ⟨h16, hf⟩ := ga_some hf
      refine z_iald C ka_87 h16 dX12_readsPerson_47 ?_
      refine z_if_lt (tgt := 60) C dX12_readsPerson_48 (by decide) (fun h17 => ?_) (fun h17 => ?_)
      · replace hf := ifp hf h17
        refine z_iconst (v := 0) C dX12_readsPerson_60 (by decide) ?_
        exact z_zret C dX12_readsPerson_61 rfl rfl (by rw [← Option.some.inj hf])
      · replace hf := ifn hf h17
        refine z_aload_n C dX12_readsPerson_51 0 rfl ?_
        refine z_bipush (v := 44) C dX12_readsPerson_52 (by decide) ?_
        obtain ⟨r18, h19, hf⟩ := bd_some hf
        refine z_callV (Y2 := YX12_isNext) (CC := RX12) (T := TX12) (N := 39) (ci := 11) (As := [.int 44]) C lk_X12_isNext (by decide) wc_mo rfl t_997 t_999 p_32 (Nat.le_of_ble_eq_true rfl) (Nat.le_of_ble_eq_true rfl) dX12_readsPerson_54 (Nat.le_of_ble_eq_true rfl) rfl rfl (m_X12_isNext X.2.1 E N 44 σ14 _ h19) ?_
        change Zz E X YX12_readsPerson (some (.int R.1), R.2) r18.2 _ _ [.int r18.1]
        refine z_if_ne (tgt := 62) C dX12_readsPerson_57 (by decide) (fun h20 => ?_) (fun h20 => ?_)
        · replace hf := ifn hf h20
          refine z_aload_n C dX12_readsPerson_62 0 rfl ?_
          refine z_get (v := .ref (E.2.1 88)) (T := TX12) (N := 39) (ci := 11) C (by decide) wc_mo rfl in_X12 22 (by decide) t_867 rfl dX12_readsPerson_63 ?_
          refine z_iload_n C dX12_readsPerson_66 1 rfl ?_
          refine z_aload_n C dX12_readsPerson_67 0 rfl ?_
          refine z_iconst (v := 2) C dX12_readsPerson_68 (by decide) ?_
          obtain ⟨r21, h22, hf⟩ := bd_some hf
          refine z_callV (Y2 := YX12_number) (CC := RX12) (T := TX12) (N := 39) (ci := 11) (As := [.int 2]) C lk_X12_number (by decide) wc_mo rfl t_990 t_992 p_31 (Nat.le_of_ble_eq_true rfl) (Nat.le_of_ble_eq_true rfl) dX12_readsPerson_69 (Nat.le_of_ble_eq_true rfl) rfl rfl (m_X12_number X.2.1 E N 2 r18.2 _ h22) ?_
          change Zz E X YX12_readsPerson (some (.int R.1), R.2) r21.2 _ _ [.int r21.1, .int x1, .ref (E.2.1 88)]
          obtain ⟨h23, hf⟩ := ga_some hf
          obtain ⟨σ24, h25, hf⟩ := nm_some hf
          refine z_iast C ka_88 h23 dX12_readsPerson_72 ?_
          rw [← h25]
          refine z_aload_n C dX12_readsPerson_73 0 rfl ?_
          refine z_get (v := .ref (E.2.1 88)) (T := TX12) (N := 39) (ci := 11) C (by decide) wc_mo rfl in_X12 22 (by decide) t_867 rfl dX12_readsPerson_74 ?_
          refine z_iload_n C dX12_readsPerson_77 1 rfl ?_
          obtain ⟨h26, hf⟩ := ga_some hf
          refine z_iald C ka_88 h26 dX12_readsPerson_78 ?_
          refine z_if_lt (tgt := 91) C dX12_readsPerson_79 (by decide) (fun h27 => ?_) (fun h27 => ?_)
          · replace hf := ifp hf h27
            refine z_iconst (v := 0) C dX12_readsPerson_91 (by decide) ?_
            exact z_zret C dX12_readsPerson_92 rfl rfl (by rw [← Option.some.inj hf])
          · replace hf := ifn hf h27
            refine z_aload_n C dX12_readsPerson_82 0 rfl ?_
            refine z_bipush (v := 44) C dX12_readsPerson_83 (by decide) ?_
            obtain ⟨r28, h29, hf⟩ := bd_some hf
            refine z_callV (Y2 := YX12_isNext) (CC := RX12) (T := TX12) (N := 39) (ci := 11) (As := [.int 44]) C lk_X12_isNext (by decide) wc_mo rfl t_997 t_999 p_32 (Nat.le_of_ble_eq_true rfl) (Nat.le_of_ble_eq_true rfl) dX12_readsPerson_85 (Nat.le_of_ble_eq_true rfl) rfl rfl (m_X12_isNext X.2.1 E N 44 σ24 _ h29) ?_
            change Zz E X YX12_readsPerson (some (.int R.1), R.2) r28.2 _ _ [.int r28.1]
            refine z_if_ne (tgt := 93) C dX12_readsPerson_88 (by decide) (fun h30 => ?_) (fun h30 => ?_)
            · replace hf := ifn hf h30
              refine z_aload_n C dX12_readsPerson_93 0 rfl ?_
              refine z_get (v := .ref (E.2.1 89)) (T := TX12) (N := 39) (ci := 11) C (by decide) wc_mo rfl in_X12 23 (by decide) t_868 rfl dX12_readsPerson_94 ?_
              refine z_iload_n C dX12_readsPerson_97 1 rfl ?_
              refine z_aload_n C dX12_readsPerson_98 0 rfl ?_
              refine z_iconst (v := 2) C dX12_readsPerson_99 (by decide) ?_
              obtain ⟨r31, h32, hf⟩ := bd_some hf
              refine z_callV (Y2 := YX12_number) (CC := RX12) (T := TX12) (N := 39) (ci := 11) (As := [.int 2]) C lk_X12_number (by decide) wc_mo rfl t_990 t_992 p_31 (Nat.le_of_ble_eq_true rfl) (Nat.le_of_ble_eq_true rfl) dX12_readsPerson_100 (Nat.le_of_ble_eq_true rfl) rfl rfl (m_X12_number X.2.1 E N 2 r28.2 _ h32) ?_
              change Zz E X YX12_readsPerson (some (.int R.1), R.2) r31.2 _ _ [.int r31.1, .int x1, .ref (E.2.1 89)]
              obtain ⟨h33, hf⟩ := ga_some hf
              obtain ⟨σ34, h35, hf⟩ := nm_some hf
              refine z_iast C ka_89 h33 dX12_readsPerson_103 ?_
              rw [← h35]
              refine z_aload_n C dX12_readsPerson_104 0 rfl ?_
              refine z_get (v := .ref (E.2.1 89)) (T := TX12) (N := 39) (ci := 11) C (by decide) wc_mo rfl in_X12 23 (by decide) t_868 rfl dX12_readsPerson_105 ?_
              refine z_iload_n C dX12_readsPerson_108 1 rfl ?_
              obtain ⟨h36, hf⟩ := ga_some hf
              refine z_iald C ka_89 h36 dX12_readsPerson_109 ?_
              refine z_if_lt (tgt := 122) C dX12_readsPerson_110 (by decide) (fun h37 => ?_) (fun h37 => ?_)
              · replace hf := ifp hf h37
                refine z_iconst (v := 0) C dX12_readsPerson_122 (by decide) ?_
                exact z_zret C dX12_readsPerson_123 rfl rfl (by rw [← Option.some.inj hf])
              · replace hf := ifn hf h37
                refine z_aload_n C dX12_readsPerson_113 0 rfl ?_
                refine z_bipush (v := 43) C dX12_readsPerson_114 (by decide) ?_
                obtain ⟨r38, h39, hf⟩ := bd_some hf
                refine z_callV (Y2 := YX12_isNext) (CC := RX12) (T := TX12) (N := 39) (ci := 11) (As := [.int 43]) C lk_X12_isNext (by decide) wc_mo rfl t_997 t_999 p_32 (Nat.le_of_ble_eq_true rfl) (Nat.le_of_ble_eq_true rfl) dX12_readsPerson_116 (Nat.le_of_ble_eq_true rfl) rfl rfl (m_X12_isNext X.2.1 E N 43 σ34 _ h39) ?_
                change Zz E X YX12_readsPerson (some (.int R.1), R.2) r38.2 _ _ [.int r38.1]
                refine z_if_ne (tgt := 124) C dX12_readsPerson_119 (by decide) (fun h40 => ?_) (fun h40 => ?_)
                · replace hf := ifn hf h40
                  refine z_aload_n C dX12_readsPerson_124 0 rfl ?_
                  refine z_get (v := .ref (E.2.1 90)) (T := TX12) (N := 39) (ci := 11) C (by decide) wc_mo rfl in_X12 24 (by decide) t_869 rfl dX12_readsPerson_125 ?_
                  refine z_iload_n C dX12_readsPerson_128 1 rfl ?_
                  refine z_aload_n C dX12_readsPerson_129 0 rfl ?_
                  refine z_iconst (v := 1) C dX12_readsPerson_130 (by decide) ?_
                  obtain ⟨r41, h42, hf⟩ := bd_some hf
                  refine z_callV (Y2 := YX12_number) (CC := RX12) (T := TX12) (N := 39) (ci := 11) (As := [.int 1]) C lk_X12_number (by decide) wc_mo rfl t_990 t_992 p_31 (Nat.le_of_ble_eq_true rfl) (Nat.le_of_ble_eq_true rfl) dX12_readsPerson_131 (Nat.le_of_ble_eq_true rfl) rfl rfl (m_X12_number X.2.1 E N 1 r38.2 _ h42) ?_
                  change Zz E X YX12_readsPerson (some (.int R.1), R.2) r41.2 _ _ [.int r41.1, .int x1, .ref (E.2.1 90)]
                  obtain ⟨h43, hf⟩ := ga_some hf
                  obtain ⟨σ44, h45, hf⟩ := nm_some hf
                  refine z_iast C ka_90 h43 dX12_readsPerson_134 ?_
                  rw [← h45]
                  refine z_aload_n C dX12_readsPerson_135 0 rfl ?_
                  refine z_get (v := .ref (E.2.1 90)) (T := TX12) (N := 39) (ci := 11) C (by decide) wc_mo rfl in_X12 24 (by decide) t_869 rfl dX12_readsPerson_136 ?_
                  refine z_iload_n C dX12_readsPerson_139 1 rfl ?_
                  obtain ⟨h46, hf⟩ := ga_some hf
                  refine z_iald C ka_90 h46 dX12_readsPerson_140 ?_
                  refine z_if_lt (tgt := 157) C dX12_readsPerson_141 (by decide) (fun h47 => ?_) (fun h47 => ?_)
                  · replace hf := ifp hf h47
                    refine z_iconst (v := 0) C dX12_readsPerson_157 (by decide) ?_
                    exact z_zret C dX12_readsPerson_158 rfl rfl (by rw [← Option.some.inj hf])
                  · replace hf := ifn hf h47
                    refine z_aload_n C dX12_readsPerson_144 0 rfl ?_
                    refine z_bipush (v := 59) C dX12_readsPerson_145 (by decide) ?_
                    obtain ⟨r48, h49, hf⟩ := bd_some hf
                    refine z_callV (Y2 := YX12_isNext) (CC := RX12) (T := TX12) (N := 39) (ci := 11) (As := [.int 59]) C lk_X12_isNext (by decide) wc_mo rfl t_997 t_999 p_32 (Nat.le_of_ble_eq_true rfl) (Nat.le_of_ble_eq_true rfl) dX12_readsPerson_147 (Nat.le_of_ble_eq_true rfl) rfl rfl (m_X12_isNext X.2.1 E N 59 σ44 _ h49) ?_
                    change Zz E X YX12_readsPerson (some (.int R.1), R.2) r48.2 _ _ [.int r48.1]
                    refine z_if_eq (tgt := 157) C dX12_readsPerson_150 (by decide) (fun h50 => ?_) (fun h50 => ?_)
                    · replace hf := ifp hf h50
                      refine z_iconst (v := 0) C dX12_readsPerson_157 (by decide) ?_
                      exact z_zret C dX12_readsPerson_158 rfl rfl (by rw [← Option.some.inj hf])
                    · replace hf := ifn hf h50
                      refine z_iconst (v := 1) C dX12_readsPerson_153 (by decide) ?_
                      refine z_goto (tgt := 158) C dX12_readsPerson_154 (by decide) ?_
                      exact z_zret C dX12_readsPerson_158 rfl rfl (by rw [← Option.some.inj hf])
                · replace hf := ifp hf h40
                  refine z_iconst (v := 0) C dX12_readsPerson_122 (by decide) ?_
                  exact z_zret C dX12_readsPerson_123 rfl rfl (by rw [← Option.some.inj hf])
            · replace hf := ifp hf h30
              refine z_iconst (v := 0) C dX12_readsPerson_91 (by decide) ?_
              exact z_zret C dX12_readsPerson_92 rfl rfl (by rw [← Option.some.inj hf])
        · replace hf := ifp hf h20
          refine z_iconst (v := 0) C dX12_readsPerson_60 (by decide) ?_
          exact z_zret C dX12_readsPerson_61 rfl rfl (by rw [← Option.some.inj hf])
    · replace hf := ifp hf h10
      refine z_iconst (v := 0) C dX12_readsPerson_29 (by decide) ?_
      exact z_zret C dX12_readsPerson_30 rfl rfl (by rw [← Option.some.inj hf])
theorem lk_X12_readsPerson {Y : Yv} : Lk Y YX12_readsPerson 1 := ⟨t_989, t_13, ⟨by decide +kernel, by decide +kernel⟩, by decide +kernel⟩
abbrev YX12_readsLetter : Yv := (yX12_readsLetter, cX12_readsLetter, 2, some .boolean, 2, 45)
def f_X12_readsLetter (N : Nat) (x1 : Int32) (σ : Sg) : Option (Int32 × Sg) :=
  (f_X12_number N 1 σ).bind (fun r1 => ga x1 32 (nm (sgs r1.2 86 (Int32.toNatClampNeg x1) r1.1) (fun σ4 => ga x1 32 (if 0 ≤ (σ4 86 (Int32.toNatClampNeg x1)) then ((f_X12_number N 1 σ4).bind (fun r8 => ga x1 32 (nm (sgs r8.2 87 (Int32.toNatClampNeg x1) r8.1) (fun σ11 => ga x1 32 (if 0 ≤ (σ11 87 (Int32.toNatClampNeg x1)) then ((f_X12_number N 1 σ11).bind (fun r15 => ga x1 32 (nm (sgs r15.2 88 (Int32.toNatClampNeg x1) r15.1) (fun σ18 => ga x1 32 (if 0 ≤ (σ18 88 (Int32.toNatClampNeg x1)) then ((f_X12_number N 1 σ18).bind (fun r22 => ga x1 32 (nm (sgs r22.2 89 (Int32.toNatClampNeg x1) r22.1) (fun σ25 => ga x1 32 (if (σ25 89 (Int32.toNatClampNeg x1)) < 0 then (some (0, σ25)) else ((f_X12_isNext N 59 σ25).bind (fun r29 => if r29.1 = 0 then (some (0, r29.2)) else (some (1, r29.2))))))))) else (some (0, σ18))))))) else (some (0, σ11))))))) else (some (0, σ4))))))
set_option maxHeartbeats 4000000 in
set_option maxRecDepth 20000 in
theorem m_X12_readsLetter (l : Launch) (E : Ev) (N : Nat) (x1 : Int32) (σ : Sg) (R : Int32 × Sg) (hf : f_X12_readsLetter N x1 σ = some R) : Ct l E YX12_readsLetter [.ref (E.2.1 73), .int x1] σ (some (.int R.1), R.2) := by
  refine ct_of (by decide +kernel) (Nat.le_of_ble_eq_true rfl) [(0, .ref (E.2.1 73)), (1, .int x1)] rfl (fun X hX C => ?_)
  unfold f_X12_readsLetter at hf
  refine z_aload_n C dX12_readsLetter_0 0 rfl ?_
  refine z_get (v := .ref (E.2.1 86)) (T := TX12) (N := 39) (ci := 11) C (by decide) wc_mo rfl in_X12 20 (by decide) t_865 rfl dX12_readsLetter_1 ?_
  refine z_iload_n C dX12_readsLetter_4 1 rfl ?_
  refine z_aload_n C dX12_readsLetter_5 0 rfl ?_
  refine z_iconst (v := 1) C dX12_readsLetter_6 (by decide) ?_
  obtain ⟨r1, h2, hf⟩ := bd_some hf
  refine z_callV (Y2 := YX12_number) (CC := RX12) (T := TX12) (N := 39) (ci := 11) (As := [.int 1]) C lk_X12_number (by decide) wc_mo rfl t_990 t_992 p_31 (Nat.le_of_ble_eq_true rfl) (Nat.le_of_ble_eq_true rfl) dX12_readsLetter_7 (Nat.le_of_ble_eq_true rfl) rfl rfl (m_X12_number X.2.1 E N 1 σ _ h2) ?_
  change Zz E X YX12_readsLetter (some (.int R.1), R.2) r1.2 _ _ [.int r1.1, .int x1, .ref (E.2.1 86)]
  obtain ⟨h3, hf⟩ := ga_some hf
  obtain ⟨σ4, h5, hf⟩ := nm_some hf
  refine z_iast C ka_86 h3 dX12_readsLetter_10 ?_
  rw [← h5]
  refine z_aload_n C dX12_readsLetter_11 0 rfl ?_
  refine z_get (v := .ref (E.2.1 86)) (T := TX12) (N := 39) (ci := 11) C (by decide) wc_mo rfl in_X12 20 (by decide) t_865 rfl dX12_readsLetter_12 ?_
  refine z_iload_n C dX12_readsLetter_15 1 rfl ?_
  obtain ⟨h6, hf⟩ := ga_some hf
  refine z_iald C ka_86 h6 dX12_readsLetter_16 ?_
  refine z_if_ge (tgt := 22) C dX12_readsLetter_17 (by decide) (fun h7 => ?_) (fun h7 => ?_)
  · replace hf := ifp hf h7
    refine z_aload_n C dX12_readsLetter_22 0 rfl ?_
    refine z_get (v := .ref (E.2.1 87)) (T := TX12) (N := 39) (ci := 11) C (by decide) wc_mo rfl in_X12 21 (by decide) t_866 rfl dX12_readsLetter_23 ?_
    refine z_iload_n C dX12_readsLetter_26 1 rfl ?_
    refine z_aload_n C dX12_readsLetter_27 0 rfl ?_
    refine z_iconst (v := 1) C dX12_readsLetter_28 (by decide) ?_
    obtain ⟨r8, h9, hf⟩ := bd_some hf
    refine z_callV (Y2 := YX12_number) (CC := RX12) (T := TX12) (N := 39) (ci := 11) (As := [.int 1]) C lk_X12_number (by decide) wc_mo rfl t_990 t_992 p_31 (Nat.le_of_ble_eq_true rfl) (Nat.le_of_ble_eq_true rfl) dX12_readsLetter_29 (Nat.le_of_ble_eq_true rfl) rfl rfl (m_X12_number X.2.1 E N 1 σ4 _ h9) ?_
    change Zz E X YX12_readsLetter (some (.int R.1), R.2) r8.2 _ _ [.int r8.1, .int x1, .ref (E.2.1 87)]
    obtain ⟨h10, hf⟩ := ga_some hf
    obtain ⟨σ11, h12, hf⟩ := nm_some hf
    refine z_iast C ka_87 h10 dX12_readsLetter_32 ?_
    rw [← h12]
    refine z_aload_n C dX12_readsLetter_33 0 rfl ?_
    refine z_get (v := .ref (E.2.1 87)) (T := TX12) (N := 39) (ci := 11) C (by decide) wc_mo rfl in_X12 21 (by decide) t_866 rfl dX12_readsLetter_34 ?_
    refine z_iload_n C dX12_readsLetter_37 1 rfl ?_
    obtain ⟨h13, hf⟩ := ga_some hf
    refine z_iald C ka_87 h13 dX12_readsLetter_38 ?_
    refine z_if_ge (tgt := 44) C dX12_readsLetter_39 (by decide) (fun h14 => ?_) (fun h14 => ?_)
    · replace hf := ifp hf h14
      refine z_aload_n C dX12_readsLetter_44 0 rfl ?_
      refine z_get (v := .ref (E.2.1 88)) (T := TX12) (N := 39) (ci := 11) C (by decide) wc_mo rfl in_X12 22 (by decide) t_867 rfl dX12_readsLetter_45 ?_
      refine z_iload_n C dX12_readsLetter_48 1 rfl ?_
      refine z_aload_n C dX12_readsLetter_49 0 rfl ?_
      refine z_iconst (v := 1) C dX12_readsLetter_50 (by decide) ?_
      obtain ⟨r15, h16, hf⟩ := bd_some hf
      refine z_callV (Y2 := YX12_number) (CC := RX12) (T := TX12) (N := 39) (ci := 11) (As := [.int 1]) C lk_X12_number (by decide) wc_mo rfl t_990 t_992 p_31 (Nat.le_of_ble_eq_true rfl) (Nat.le_of_ble_eq_true rfl) dX12_readsLetter_51 (Nat.le_of_ble_eq_true rfl) rfl rfl (m_X12_number X.2.1 E N 1 σ11 _ h16) ?_
      change Zz E X YX12_readsLetter (some (.int R.1), R.2) r15.2 _ _ [.int r15.1, .int x1, .ref (E.2.1 88)]
      obtain ⟨h17, hf⟩ := ga_some hf
      obtain ⟨σ18, h19, hf⟩ := nm_some hf
      refine z_iast C ka_88 h17 dX12_readsLetter_54 ?_
      rw [← h19]
      refine z_aload_n C dX12_readsLetter_55 0 rfl ?_
      refine z_get (v := .ref (E.2.1 88)) (T := TX12) (N := 39) (ci := 11) C (by decide) wc_mo rfl in_X12 22 (by decide) t_867 rfl dX12_readsLetter_56 ?_
      refine z_iload_n C dX12_readsLetter_59 1 rfl ?_
      obtain ⟨h20, hf⟩ := ga_some hf
      refine z_iald C ka_88 h20 dX12_readsLetter_60 ?_
      refine z_if_ge (tgt := 66) C dX12_readsLetter_61 (by decide) (fun h21 => ?_) (fun h21 => ?_)
      · replace hf := ifp hf h21
        refine z_aload_n C dX12_readsLetter_66 0 rfl ?_
        refine z_get (v := .ref (E.2.1 89)) (T := TX12) (N := 39) (ci := 11) C (by decide) wc_mo rfl in_X12 23 (by decide) t_868 rfl dX12_readsLetter_67 ?_
        refine z_iload_n C dX12_readsLetter_70 1 rfl ?_
        refine z_aload_n C dX12_readsLetter_71 0 rfl ?_
        refine z_iconst (v := 1) C dX12_readsLetter_72 (by decide) ?_
        obtain ⟨r22, h23, hf⟩ := bd_some hf
        refine z_callV (Y2 := YX12_number) (CC := RX12) (T := TX12) (N := 39) (ci := 11) (As := [.int 1]) C lk_X12_number (by decide) wc_mo rfl t_990 t_992 p_31 (Nat.le_of_ble_eq_true rfl) (Nat.le_of_ble_eq_true rfl) dX12_readsLetter_73 (Nat.le_of_ble_eq_true rfl) rfl rfl (m_X12_number X.2.1 E N 1 σ18 _ h23) ?_
        change Zz E X YX12_readsLetter (some (.int R.1), R.2) r22.2 _ _ [.int r22.1, .int x1, .ref (E.2.1 89)]
        obtain ⟨h24, hf⟩ := ga_some hf
        obtain ⟨σ25, h26, hf⟩ := nm_some hf
        refine z_iast C ka_89 h24 dX12_readsLetter_76 ?_
        rw [← h26]
        refine z_aload_n C dX12_readsLetter_77 0 rfl ?_
        refine z_get (v := .ref (E.2.1 89)) (T := TX12) (N := 39) (ci := 11) C (by decide) wc_mo rfl in_X12 23 (by decide) t_868 rfl dX12_readsLetter_78 ?_
        refine z_iload_n C dX12_readsLetter_81 1 rfl ?_
        obtain ⟨h27, hf⟩ := ga_some hf
        refine z_iald C ka_89 h27 dX12_readsLetter_82 ?_
        refine z_if_lt (tgt := 99) C dX12_readsLetter_83 (by decide) (fun h28 => ?_) (fun h28 => ?_)
        · replace hf := ifp hf h28
          refine z_iconst (v := 0) C dX12_readsLetter_99 (by decide) ?_
          exact z_zret C dX12_readsLetter_100 rfl rfl (by rw [← Option.some.inj hf])
        · replace hf := ifn hf h28
          refine z_aload_n C dX12_readsLetter_86 0 rfl ?_
          refine z_bipush (v := 59) C dX12_readsLetter_87 (by decide) ?_
          obtain ⟨r29, h30, hf⟩ := bd_some hf
          refine z_callV (Y2 := YX12_isNext) (CC := RX12) (T := TX12) (N := 39) (ci := 11) (As := [.int 59]) C lk_X12_isNext (by decide) wc_mo rfl t_997 t_999 p_32 (Nat.le_of_ble_eq_true rfl) (Nat.le_of_ble_eq_true rfl) dX12_readsLetter_89 (Nat.le_of_ble_eq_true rfl) rfl rfl (m_X12_isNext X.2.1 E N 59 σ25 _ h30) ?_
          change Zz E X YX12_readsLetter (some (.int R.1), R.2) r29.2 _ _ [.int r29.1]
          refine z_if_eq (tgt := 99) C dX12_readsLetter_92 (by decide) (fun h31 => ?_) (fun h31 => ?_)
          · replace hf := ifp hf h31
            refine z_iconst (v := 0) C dX12_readsLetter_99 (by decide) ?_
            exact z_zret C dX12_readsLetter_100 rfl rfl (by rw [← Option.some.inj hf])
          · replace hf := ifn hf h31
            refine z_iconst (v := 1) C dX12_readsLetter_95 (by decide) ?_
            refine z_goto (tgt := 100) C dX12_readsLetter_96 (by decide) ?_
            exact z_zret C dX12_readsLetter_100 rfl rfl (by rw [← Option.some.inj hf])
      · replace hf := ifn hf h21
        refine z_iconst (v := 0) C dX12_readsLetter_64 (by decide) ?_
        exact z_zret C dX12_readsLetter_65 rfl rfl (by rw [← Option.some.inj hf])
    · replace hf := ifn hf h14
      refine z_iconst (v := 0) C dX12_readsLetter_42 (by decide) ?_
      exact z_zret C dX12_readsLetter_43 rfl rfl (by rw [← Option.some.inj hf])
  · replace hf := ifn hf h7
    refine z_iconst (v := 0) C dX12_readsLetter_20 (by decide) ?_
    exact z_zret C dX12_readsLetter_21 rfl rfl (by rw [← Option.some.inj hf])
theorem lk_X12_readsLetter {Y : Yv} : Lk Y YX12_readsLetter 1 := ⟨t_1004, t_13, ⟨by decide +kernel, by decide +kernel⟩, by decide +kernel⟩
abbrev YX12_statement : Yv := (yX12_statement, cX12_statement, 3, some .boolean, 3, 66)
def f_X12_statement_J30 (N : Nat) (a1 a2 : Int32) (σ : Sg) : Option (Int32 × Sg) :=
  ga a1 32 (nm (sgs σ 84 (Int32.toNatClampNeg a1) a2) (fun σ5 => ga a1 32 (nm (sgs σ5 85 (Int32.toNatClampNeg a1) (σ5 73 26)) (fun σ8 => nm (sgs σ8 73 26 ((σ8 73 26) + 1)) (fun σ10 => if a2 = 112 then ((f_X12_readsPerson N a1 σ10).bind (fun r38 => gb r38.1 (some (r38.1, r38.2)))) else (if a2 = 108 then ((f_X12_readsLetter N a1 σ10).bind (fun r35 => gb r35.1 (some (r35.1, r35.2)))) else ((f_X12_next N σ10).bind (fun r14 => (f_X12_kindOf N r14.1 r14.2).bind (fun r16 => ga a1 32 (nm (sgs r16.2 86 (Int32.toNatClampNeg a1) r16.1) (fun σ19 => ga a1 32 (if 0 ≤ (σ19 86 (Int32.toNatClampNeg a1)) then (nm (sgs σ19 73 26 ((σ19 73 26) + 1)) (fun σ23 => (f_X12_number N 1 σ23).bind (fun r25 => ga a1 32 (nm (sgs r25.2 87 (Int32.toNatClampNeg a1) r25.1) (fun σ28 => ga a1 32 (if (σ28 87 (Int32.toNatClampNeg a1)) < 0 then (some (0, σ28)) else ((f_X12_isNext N 59 σ28).bind (fun r32 => if r32.1 = 0 then (some (0, r32.2)) else (some (1, r32.2)))))))))) else (some (0, σ19))))))))))))))
def f_X12_statement (N : Nat) (σ : Sg) : Option (Int32 × Sg) :=
  (f_X12_next N σ).bind (fun r1 => if r1.1 = 112 then (f_X12_statement_J30 N (σ 73 27) r1.1 r1.2) else (if r1.1 = 119 then (f_X12_statement_J30 N (σ 73 27) r1.1 r1.2) else (if r1.1 = 108 then (f_X12_statement_J30 N (σ 73 27) r1.1 r1.2) else (some (0, r1.2)))))
set_option maxHeartbeats 4000000 in
set_option maxRecDepth 20000 in
theorem m_X12_statement (l : Launch) (E : Ev) (N : Nat) (σ : Sg) (R : Int32 × Sg) (hf : f_X12_statement N σ = some R) : Ct l E YX12_statement [.ref (E.2.1 73)] σ (some (.int R.1), R.2) := by
  refine ct_of (by decide +kernel) (Nat.le_of_ble_eq_true rfl) [(0, .ref (E.2.1 73))] rfl (fun X hX C => ?_)
  have hJ30 : ∀ (a1 a2 : Int32) (σ : Sg), f_X12_statement_J30 N a1 a2 σ = some R → Zz E X YX12_statement (some (.int R.1), R.2) σ 30 [(0, .ref (E.2.1 73)), (1, .int a1), (2, .int a2)] [] := by
    intro a1 a2 σ hf
    unfold f_X12_statement_J30 at hf
    refine z_aload_n C dX12_statement_30 0 rfl ?_
    refine z_get (v := .ref (E.2.1 84)) (T := TX12) (N := 39) (ci := 11) C (by decide) wc_mo rfl in_X12 18 (by decide) t_863 rfl dX12_statement_31 ?_
    refine z_iload_n C dX12_statement_34 1 rfl ?_
    refine z_iload_n C dX12_statement_35 2 rfl ?_
    obtain ⟨h4, hf⟩ := ga_some hf
    obtain ⟨σ5, h6, hf⟩ := nm_some hf
    refine z_iast C ka_84 h4 dX12_statement_36 ?_
    rw [← h6]
    refine z_aload_n C dX12_statement_37 0 rfl ?_
    refine z_get (v := .ref (E.2.1 85)) (T := TX12) (N := 39) (ci := 11) C (by decide) wc_mo rfl in_X12 19 (by decide) t_864 rfl dX12_statement_38 ?_
    refine z_iload_n C dX12_statement_41 1 rfl ?_
    refine z_aload_n C dX12_statement_42 0 rfl ?_
    refine z_get (v := .int (σ5 73 26)) (T := TX12) (N := 39) (ci := 11) C (by decide) wc_mo rfl in_X12 26 (by decide) t_871 rfl dX12_statement_43 ?_
    obtain ⟨h7, hf⟩ := ga_some hf
    obtain ⟨σ8, h9, hf⟩ := nm_some hf
    refine z_iast C ka_85 h7 dX12_statement_46 ?_
    rw [← h9]
    refine z_aload_n C dX12_statement_47 0 rfl ?_
    refine z_dup C dX12_statement_48 rfl ?_
    refine z_get (v := .int (σ8 73 26)) (T := TX12) (N := 39) (ci := 11) C (by decide) wc_mo rfl in_X12 26 (by decide) t_871 rfl dX12_statement_49 ?_
    refine z_iconst (v := 1) C dX12_statement_52 (by decide) ?_
    refine z_iadd C dX12_statement_53 ?_
    obtain ⟨σ10, h11, hf⟩ := nm_some hf
    refine z_put (T := TX12) (N := 39) (ci := 11) (ty := .int) C tyX12 tyX12_ok nmX12 (by decide) wc_mo rfl in_X12 26 (by decide) t_871 rfl rfl rfl rfl (Nat.le_of_ble_eq_true rfl) (pw_X12_26) dX12_statement_54 ?_
    rw [← h11]
    refine z_iload_n C dX12_statement_57 2 rfl ?_
    refine z_bipush (v := 112) C dX12_statement_58 (by decide) ?_
    refine z_icmp_ne (tgt := 69) C dX12_statement_60 (by decide) (fun h12 => ?_) (fun h12 => ?_)
    · replace hf := ifn hf h12
      refine z_iload_n C dX12_statement_69 2 rfl ?_
      refine z_bipush (v := 108) C dX12_statement_70 (by decide) ?_
      refine z_icmp_ne (tgt := 81) C dX12_statement_72 (by decide) (fun h13 => ?_) (fun h13 => ?_)
      · replace hf := ifn hf h13
        refine z_aload_n C dX12_statement_81 0 rfl ?_
        refine z_get (v := .ref (E.2.1 86)) (T := TX12) (N := 39) (ci := 11) C (by decide) wc_mo rfl in_X12 20 (by decide) t_865 rfl dX12_statement_82 ?_
        refine z_iload_n C dX12_statement_85 1 rfl ?_
        refine z_aload_n C dX12_statement_86 0 rfl ?_
        obtain ⟨r14, h15, hf⟩ := bd_some hf
        refine z_callV (Y2 := YX12_next) (CC := RX12) (T := TX12) (N := 39) (ci := 11) (As := []) C lk_X12_next (by decide) wc_mo rfl t_982 t_984 p_29 (Nat.le_of_ble_eq_true rfl) (Nat.le_of_ble_eq_true rfl) dX12_statement_87 (Nat.le_of_ble_eq_true rfl) rfl rfl (m_X12_next X.2.1 E N σ10 _ h15) ?_
        change Zz E X YX12_statement (some (.int R.1), R.2) r14.2 _ _ [.int r14.1, .int a1, .ref (E.2.1 86)]
        obtain ⟨r16, h17, hf⟩ := bd_some hf
        refine z_callS (Y2 := YX12_kindOf) (As := [.int r14.1]) C lk_X12_kindOf t_1005 t_1006 (Nat.le_of_ble_eq_true rfl) (Nat.le_of_ble_eq_true rfl) dX12_statement_90 (Nat.le_of_ble_eq_true rfl) rfl rfl (m_X12_kindOf X.2.1 E N r14.1 r14.2 _ h17) ?_
        change Zz E X YX12_statement (some (.int R.1), R.2) r16.2 _ _ [.int r16.1, .int a1, .ref (E.2.1 86)]
        obtain ⟨h18, hf⟩ := ga_some hf
        obtain ⟨σ19, h20, hf⟩ := nm_some hf
        refine z_iast C ka_86 h18 dX12_statement_93 ?_
        rw [← h20]
        refine z_aload_n C dX12_statement_94 0 rfl ?_
        refine z_get (v := .ref (E.2.1 86)) (T := TX12) (N := 39) (ci := 11) C (by decide) wc_mo rfl in_X12 20 (by decide) t_865 rfl dX12_statement_95 ?_
        refine z_iload_n C dX12_statement_98 1 rfl ?_
        obtain ⟨h21, hf⟩ := ga_some hf
        refine z_iald C ka_86 h21 dX12_statement_99 ?_
        refine z_if_ge (tgt := 105) C dX12_statement_100 (by decide) (fun h22 => ?_) (fun h22 => ?_)
        · replace hf := ifp hf h22
          refine z_aload_n C dX12_statement_105 0 rfl ?_
          refine z_dup C dX12_statement_106 rfl ?_
          refine z_get (v := .int (σ19 73 26)) (T := TX12) (N := 39) (ci := 11) C (by decide) wc_mo rfl in_X12 26 (by decide) t_871 rfl dX12_statement_107 ?_
          refine z_iconst (v := 1) C dX12_statement_110 (by decide) ?_
          refine z_iadd C dX12_statement_111 ?_
          obtain ⟨σ23, h24, hf⟩ := nm_some hf
          refine z_put (T := TX12) (N := 39) (ci := 11) (ty := .int) C tyX12 tyX12_ok nmX12 (by decide) wc_mo rfl in_X12 26 (by decide) t_871 rfl rfl rfl rfl (Nat.le_of_ble_eq_true rfl) (pw_X12_26) dX12_statement_112 ?_
          rw [← h24]
          refine z_aload_n C dX12_statement_115 0 rfl ?_
          refine z_get (v := .ref (E.2.1 87)) (T := TX12) (N := 39) (ci := 11) C (by decide) wc_mo rfl in_X12 21 (by decide) t_866 rfl dX12_statement_116 ?_
          refine z_iload_n C dX12_statement_119 1 rfl ?_
          refine z_aload_n C dX12_statement_120 0 rfl ?_
          refine z_iconst (v := 1) C dX12_statement_121 (by decide) ?_
          obtain ⟨r25, h26, hf⟩ := bd_some hf
          refine z_callV (Y2 := YX12_number) (CC := RX12) (T := TX12) (N := 39) (ci := 11) (As := [.int 1]) C lk_X12_number (by decide) wc_mo rfl t_990 t_992 p_31 (Nat.le_of_ble_eq_true rfl) (Nat.le_of_ble_eq_true rfl) dX12_statement_122 (Nat.le_of_ble_eq_true rfl) rfl rfl (m_X12_number X.2.1 E N 1 σ23 _ h26) ?_
          change Zz E X YX12_statement (some (.int R.1), R.2) r25.2 _ _ [.int r25.1, .int a1, .ref (E.2.1 87)]
          obtain ⟨h27, hf⟩ := ga_some hf
          obtain ⟨σ28, h29, hf⟩ := nm_some hf
          refine z_iast C ka_87 h27 dX12_statement_125 ?_
          rw [← h29]
          refine z_aload_n C dX12_statement_126 0 rfl ?_
          refine z_get (v := .ref (E.2.1 87)) (T := TX12) (N := 39) (ci := 11) C (by decide) wc_mo rfl in_X12 21 (by decide) t_866 rfl dX12_statement_127 ?_
          refine z_iload_n C dX12_statement_130 1 rfl ?_
          obtain ⟨h30, hf⟩ := ga_some hf
          refine z_iald C ka_87 h30 dX12_statement_131 ?_
          refine z_if_lt (tgt := 148) C dX12_statement_132 (by decide) (fun h31 => ?_) (fun h31 => ?_)
          · replace hf := ifp hf h31
            refine z_iconst (v := 0) C dX12_statement_148 (by decide) ?_
            exact z_zret C dX12_statement_149 rfl rfl (by rw [← Option.some.inj hf])
          · replace hf := ifn hf h31
            refine z_aload_n C dX12_statement_135 0 rfl ?_
            refine z_bipush (v := 59) C dX12_statement_136 (by decide) ?_
            obtain ⟨r32, h33, hf⟩ := bd_some hf
            refine z_callV (Y2 := YX12_isNext) (CC := RX12) (T := TX12) (N := 39) (ci := 11) (As := [.int 59]) C lk_X12_isNext (by decide) wc_mo rfl t_997 t_999 p_32 (Nat.le_of_ble_eq_true rfl) (Nat.le_of_ble_eq_true rfl) dX12_statement_138 (Nat.le_of_ble_eq_true rfl) rfl rfl (m_X12_isNext X.2.1 E N 59 σ28 _ h33) ?_
            change Zz E X YX12_statement (some (.int R.1), R.2) r32.2 _ _ [.int r32.1]
            refine z_if_eq (tgt := 148) C dX12_statement_141 (by decide) (fun h34 => ?_) (fun h34 => ?_)
            · replace hf := ifp hf h34
              refine z_iconst (v := 0) C dX12_statement_148 (by decide) ?_
              exact z_zret C dX12_statement_149 rfl rfl (by rw [← Option.some.inj hf])
            · replace hf := ifn hf h34
              refine z_iconst (v := 1) C dX12_statement_144 (by decide) ?_
              refine z_goto (tgt := 149) C dX12_statement_145 (by decide) ?_
              exact z_zret C dX12_statement_149 rfl rfl (by rw [← Option.some.inj hf])
        · replace hf := ifn hf h22
          refine z_iconst (v := 0) C dX12_statement_103 (by decide) ?_
          exact z_zret C dX12_statement_104 rfl rfl (by rw [← Option.some.inj hf])
      · replace hf := ifp hf h13
        refine z_aload_n C dX12_statement_75 0 rfl ?_
        refine z_iload_n C dX12_statement_76 1 rfl ?_
        obtain ⟨r35, h36, hf⟩ := bd_some hf
        refine z_callV (Y2 := YX12_readsLetter) (CC := RX12) (T := TX12) (N := 39) (ci := 11) (As := [.int a1]) C lk_X12_readsLetter (by decide) wc_mo rfl t_1001 t_1003 p_33 (Nat.le_of_ble_eq_true rfl) (Nat.le_of_ble_eq_true rfl) dX12_statement_77 (Nat.le_of_ble_eq_true rfl) rfl rfl (m_X12_readsLetter X.2.1 E N a1 σ10 _ h36) ?_
        change Zz E X YX12_statement (some (.int R.1), R.2) r35.2 _ _ [.int r35.1]
        obtain ⟨h37, hf⟩ := gb_some hf
        exact z_zret C dX12_statement_80 rfl h37 (by rw [← Option.some.inj hf])
    · replace hf := ifp hf h12
      refine z_aload_n C dX12_statement_63 0 rfl ?_
      refine z_iload_n C dX12_statement_64 1 rfl ?_
      obtain ⟨r38, h39, hf⟩ := bd_some hf
      refine z_callV (Y2 := YX12_readsPerson) (CC := RX12) (T := TX12) (N := 39) (ci := 11) (As := [.int a1]) C lk_X12_readsPerson (by decide) wc_mo rfl t_986 t_988 p_30 (Nat.le_of_ble_eq_true rfl) (Nat.le_of_ble_eq_true rfl) dX12_statement_65 (Nat.le_of_ble_eq_true rfl) rfl rfl (m_X12_readsPerson X.2.1 E N a1 σ10 _ h39) ?_
      change Zz E X YX12_statement (some (.int R.1), R.2) r38.2 _ _ [.int r38.1]
      obtain ⟨h40, hf⟩ := gb_some hf
      exact z_zret C dX12_statement_68 rfl h40 (by rw [← Option.some.inj hf])
  unfold f_X12_statement at hf
  refine z_aload_n C dX12_statement_0 0 rfl ?_
  refine z_get (v := .int (σ 73 27)) (T := TX12) (N := 39) (ci := 11) C (by decide) wc_mo rfl in_X12 27 (by decide) t_872 rfl dX12_statement_1 ?_
  refine z_istore_n (lv' := [(1, .int (σ 73 27)), (0, .ref (E.2.1 73))]) C dX12_statement_4 (by decide) rfl ?_
  refine z_aload_n C dX12_statement_5 1 rfl ?_
  obtain ⟨r1, h2, hf⟩ := bd_some hf
  refine z_callV (Y2 := YX12_next) (CC := RX12) (T := TX12) (N := 39) (ci := 11) (As := []) C lk_X12_next (by decide) wc_mo rfl t_982 t_984 p_29 (Nat.le_of_ble_eq_true rfl) (Nat.le_of_ble_eq_true rfl) dX12_statement_6 (Nat.le_of_ble_eq_true rfl) rfl rfl (m_X12_next X.2.1 E N σ _ h2) ?_
  change Zz E X YX12_statement (some (.int R.1), R.2) r1.2 _ _ [.int r1.1]
  refine z_istore_n (lv' := [(2, .int r1.1), (1, .int (σ 73 27)), (0, .ref (E.2.1 73))]) C dX12_statement_9 (by decide) rfl ?_
  refine z_iload_n C dX12_statement_10 0 rfl ?_
  refine z_bipush (v := 112) C dX12_statement_11 (by decide) ?_
  refine z_icmp_eq (tgt := 30) C dX12_statement_13 (by decide) (fun h3 => ?_) (fun h3 => ?_)
  · replace hf := ifp hf h3
    refine z_sub [(0, .ref (E.2.1 73)), (1, .int (σ 73 27)), (2, .int r1.1)] [2, 1, 0] rfl ?_
    exact hJ30 (σ 73 27) r1.1 r1.2 hf
  · replace hf := ifn hf h3
    refine z_iload_n C dX12_statement_16 0 rfl ?_
    refine z_bipush (v := 119) C dX12_statement_17 (by decide) ?_
    refine z_icmp_eq (tgt := 30) C dX12_statement_19 (by decide) (fun h41 => ?_) (fun h41 => ?_)
    · replace hf := ifp hf h41
      refine z_sub [(0, .ref (E.2.1 73)), (1, .int (σ 73 27)), (2, .int r1.1)] [2, 1, 0] rfl ?_
      exact hJ30 (σ 73 27) r1.1 r1.2 hf
    · replace hf := ifn hf h41
      refine z_iload_n C dX12_statement_22 0 rfl ?_
      refine z_bipush (v := 108) C dX12_statement_23 (by decide) ?_
      refine z_icmp_eq (tgt := 30) C dX12_statement_25 (by decide) (fun h42 => ?_) (fun h42 => ?_)
      · replace hf := ifp hf h42
        refine z_sub [(0, .ref (E.2.1 73)), (1, .int (σ 73 27)), (2, .int r1.1)] [2, 1, 0] rfl ?_
        exact hJ30 (σ 73 27) r1.1 r1.2 hf
      · replace hf := ifn hf h42
        refine z_iconst (v := 0) C dX12_statement_28 (by decide) ?_
        exact z_zret C dX12_statement_29 rfl rfl (by rw [← Option.some.inj hf])
theorem lk_X12_statement {Y : Yv} : Lk Y YX12_statement 0 := ⟨t_981, t_13, ⟨by decide +kernel, by decide +kernel⟩, by decide +kernel⟩
abbrev YX12_comes : Yv := (yX12_comes, cX12_comes, 2, some .boolean, 1, 21)
def f_X12_comes (N : Nat) (x1 : Int32) (σ : Sg) : Option (Int32 × Sg) :=
  ga x1 32 (if (σ 84 (Int32.toNatClampNeg x1)) = 112 then (ga x1 32 (if 30 < (σ 86 (Int32.toNatClampNeg x1)) then (some (0, σ)) else (ga x1 32 (if 30 < (σ 87 (Int32.toNatClampNeg x1)) then (some (0, σ)) else (ga x1 32 (if 30 < (σ 88 (Int32.toNatClampNeg x1)) then (some (0, σ)) else (ga x1 32 (if 30 < (σ 89 (Int32.toNatClampNeg x1)) then (some (0, σ)) else (if (σ 73 9) = 6 then (some (0, σ)) else (ga x1 32 (ga ((4 : Int32) * (σ 73 9)) 24 (nm (sgs σ 75 (Int32.toNatClampNeg ((4 : Int32) * (σ 73 9))) (σ 86 (Int32.toNatClampNeg x1))) (fun σ14 => ga x1 32 (ga (((4 : Int32) * (σ14 73 9)) + 1) 24 (nm (sgs σ14 75 (Int32.toNatClampNeg (((4 : Int32) * (σ14 73 9)) + 1)) (σ14 87 (Int32.toNatClampNeg x1))) (fun σ18 => ga x1 32 (ga (((4 : Int32) * (σ18 73 9)) + 2) 24 (nm (sgs σ18 75 (Int32.toNatClampNeg (((4 : Int32) * (σ18 73 9)) + 2)) (σ18 88 (Int32.toNatClampNeg x1))) (fun σ22 => ga x1 32 (ga (((4 : Int32) * (σ22 73 9)) + 3) 24 (nm (sgs σ22 75 (Int32.toNatClampNeg (((4 : Int32) * (σ22 73 9)) + 3)) (σ22 89 (Int32.toNatClampNeg x1))) (fun σ26 => ga x1 32 (ga (σ26 73 9) 6 (nm (sgs σ26 76 (Int32.toNatClampNeg (σ26 73 9)) (σ26 90 (Int32.toNatClampNeg x1))) (fun σ30 => nm (sgs σ30 73 9 ((σ30 73 9) + 1)) (fun σ32 => some (1, σ32))))))))))))))))))))))))))) else (if (σ 84 (Int32.toNatClampNeg x1)) = 119 then (ga x1 32 ((f_X12_isPerson N (σ 87 (Int32.toNatClampNeg x1)) σ).bind (fun r36 => if r36.1 = 0 then (some (0, r36.2)) else (if (r36.2 73 10) = 4 then (some (0, r36.2)) else (ga x1 32 (ga (r36.2 73 10) 4 (nm (sgs r36.2 77 (Int32.toNatClampNeg (r36.2 73 10)) (r36.2 86 (Int32.toNatClampNeg x1))) (fun σ42 => ga x1 32 (ga (σ42 73 10) 4 (nm (sgs σ42 78 (Int32.toNatClampNeg (σ42 73 10)) (σ42 87 (Int32.toNatClampNeg x1))) (fun σ46 => ga (σ46 73 10) 4 (nm (sgs σ46 79 (Int32.toNatClampNeg (σ46 73 10)) 0) (fun σ49 => nm (sgs σ49 73 10 ((σ49 73 10) + 1)) (fun σ51 => some (1, σ51))))))))))))))) else (if (σ 73 10) = 0 then (some (0, σ)) else (ga x1 32 (if 5 < (σ 86 (Int32.toNatClampNeg x1)) then (some (0, σ)) else (ga x1 32 (if 5 < (σ 87 (Int32.toNatClampNeg x1)) then (some (0, σ)) else (ga x1 32 (if 5 < (σ 88 (Int32.toNatClampNeg x1)) then (some (0, σ)) else (ga x1 32 (if (σ 89 (Int32.toNatClampNeg x1)) ≤ 5 then (ga x1 32 (ga x1 32 (ga x1 32 (ga x1 32 (ga ((σ 73 10) - 1) 4 (nm (sgs σ 79 (Int32.toNatClampNeg ((σ 73 10) - 1)) ((((σ 86 (Int32.toNatClampNeg x1)) + ((10 : Int32) * (σ 87 (Int32.toNatClampNeg x1)))) + ((100 : Int32) * (σ 88 (Int32.toNatClampNeg x1)))) + ((1000 : Int32) * (σ 89 (Int32.toNatClampNeg x1))))) (fun σ67 => some (1, σ67)))))))) else (some (0, σ)))))))))))))
set_option maxHeartbeats 4000000 in
set_option maxRecDepth 20000 in
theorem m_X12_comes (l : Launch) (E : Ev) (N : Nat) (x1 : Int32) (σ : Sg) (R : Int32 × Sg) (hf : f_X12_comes N x1 σ = some R) : Ct l E YX12_comes [.ref (E.2.1 73), .int x1] σ (some (.int R.1), R.2) := by
  refine ct_of (by decide +kernel) (Nat.le_of_ble_eq_true rfl) [(0, .ref (E.2.1 73)), (1, .int x1)] rfl (fun X hX C => ?_)
  unfold f_X12_comes at hf
  refine z_aload_n C dX12_comes_0 0 rfl ?_
  refine z_get (v := .ref (E.2.1 84)) (T := TX12) (N := 39) (ci := 11) C (by decide) wc_mo rfl in_X12 18 (by decide) t_863 rfl dX12_comes_1 ?_
  refine z_iload_n C dX12_comes_4 1 rfl ?_
  obtain ⟨h1, hf⟩ := ga_some hf
  refine z_iald C ka_84 h1 dX12_comes_5 ?_
  by_cases h2 : (σ 84 (Int32.toNatClampNeg x1)) = 112
  · replace hf := ifp hf h2
    refine z_look (x := (σ 84 (Int32.toNatClampNeg x1))) (off := 26) (tgt := 32) C dX12_comes_6 (by decide) (by rw [h2]; decide) (by decide) ?_
    refine z_aload_n C dX12_comes_32 0 rfl ?_
    refine z_get (v := .ref (E.2.1 86)) (T := TX12) (N := 39) (ci := 11) C (by decide) wc_mo rfl in_X12 20 (by decide) t_865 rfl dX12_comes_33 ?_
    refine z_iload_n C dX12_comes_36 1 rfl ?_
    obtain ⟨h3, hf⟩ := ga_some hf
    refine z_iald C ka_86 h3 dX12_comes_37 ?_
    refine z_bipush (v := 30) C dX12_comes_38 (by decide) ?_
    refine z_icmp_gt (tgt := 85) C dX12_comes_40 (by decide) (fun h4 => ?_) (fun h4 => ?_)
    · replace hf := ifp hf h4
      refine z_iconst (v := 0) C dX12_comes_85 (by decide) ?_
      exact z_zret C dX12_comes_86 rfl rfl (by rw [← Option.some.inj hf])
    · replace hf := ifn hf h4
      refine z_aload_n C dX12_comes_43 0 rfl ?_
      refine z_get (v := .ref (E.2.1 87)) (T := TX12) (N := 39) (ci := 11) C (by decide) wc_mo rfl in_X12 21 (by decide) t_866 rfl dX12_comes_44 ?_
      refine z_iload_n C dX12_comes_47 1 rfl ?_
      obtain ⟨h5, hf⟩ := ga_some hf
      refine z_iald C ka_87 h5 dX12_comes_48 ?_
      refine z_bipush (v := 30) C dX12_comes_49 (by decide) ?_
      refine z_icmp_gt (tgt := 85) C dX12_comes_51 (by decide) (fun h6 => ?_) (fun h6 => ?_)
      · replace hf := ifp hf h6
        refine z_iconst (v := 0) C dX12_comes_85 (by decide) ?_
        exact z_zret C dX12_comes_86 rfl rfl (by rw [← Option.some.inj hf])
      · replace hf := ifn hf h6
        refine z_aload_n C dX12_comes_54 0 rfl ?_
        refine z_get (v := .ref (E.2.1 88)) (T := TX12) (N := 39) (ci := 11) C (by decide) wc_mo rfl in_X12 22 (by decide) t_867 rfl dX12_comes_55 ?_
        refine z_iload_n C dX12_comes_58 1 rfl ?_
        obtain ⟨h7, hf⟩ := ga_some hf
        refine z_iald C ka_88 h7 dX12_comes_59 ?_
        refine z_bipush (v := 30) C dX12_comes_60 (by decide) ?_
        refine z_icmp_gt (tgt := 85) C dX12_comes_62 (by decide) (fun h8 => ?_) (fun h8 => ?_)
        · replace hf := ifp hf h8
          refine z_iconst (v := 0) C dX12_comes_85 (by decide) ?_
          exact z_zret C dX12_comes_86 rfl rfl (by rw [← Option.some.inj hf])
        · replace hf := ifn hf h8
          refine z_aload_n C dX12_comes_65 0 rfl ?_
          refine z_get (v := .ref (E.2.1 89)) (T := TX12) (N := 39) (ci := 11) C (by decide) wc_mo rfl in_X12 23 (by decide) t_868 rfl dX12_comes_66 ?_
          refine z_iload_n C dX12_comes_69 1 rfl ?_
          obtain ⟨h9, hf⟩ := ga_some hf
          refine z_iald C ka_89 h9 dX12_comes_70 ?_
          refine z_bipush (v := 30) C dX12_comes_71 (by decide) ?_
          refine z_icmp_gt (tgt := 85) C dX12_comes_73 (by decide) (fun h10 => ?_) (fun h10 => ?_)
          · replace hf := ifp hf h10
            refine z_iconst (v := 0) C dX12_comes_85 (by decide) ?_
            exact z_zret C dX12_comes_86 rfl rfl (by rw [← Option.some.inj hf])
          · replace hf := ifn hf h10
            refine z_aload_n C dX12_comes_76 0 rfl ?_
            refine z_get (v := .int (σ 73 9)) (T := TX12) (N := 39) (ci := 11) C (by decide) wc_mo rfl in_X12 9 (by decide) t_854 rfl dX12_comes_77 ?_
            refine z_bipush (v := 6) C dX12_comes_80 (by decide) ?_
            refine z_icmp_ne (tgt := 87) C dX12_comes_82 (by decide) (fun h11 => ?_) (fun h11 => ?_)
            · replace hf := ifn hf h11
              refine z_aload_n C dX12_comes_87 0 rfl ?_
              refine z_get (v := .ref (E.2.1 75)) (T := TX12) (N := 39) (ci := 11) C (by decide) wc_mo rfl in_X12 1 (by decide) t_846 rfl dX12_comes_88 ?_
              refine z_iconst (v := 4) C dX12_comes_91 (by decide) ?_
              refine z_aload_n C dX12_comes_92 0 rfl ?_
              refine z_get (v := .int (σ 73 9)) (T := TX12) (N := 39) (ci := 11) C (by decide) wc_mo rfl in_X12 9 (by decide) t_854 rfl dX12_comes_93 ?_
              refine z_imul C dX12_comes_96 ?_
              refine z_aload_n C dX12_comes_97 0 rfl ?_
              refine z_get (v := .ref (E.2.1 86)) (T := TX12) (N := 39) (ci := 11) C (by decide) wc_mo rfl in_X12 20 (by decide) t_865 rfl dX12_comes_98 ?_
              refine z_iload_n C dX12_comes_101 1 rfl ?_
              obtain ⟨h12, hf⟩ := ga_some hf
              refine z_iald C ka_86 h12 dX12_comes_102 ?_
              obtain ⟨h13, hf⟩ := ga_some hf
              obtain ⟨σ14, h15, hf⟩ := nm_some hf
              refine z_iast C ka_75 h13 dX12_comes_103 ?_
              rw [← h15]
              refine z_aload_n C dX12_comes_104 0 rfl ?_
              refine z_get (v := .ref (E.2.1 75)) (T := TX12) (N := 39) (ci := 11) C (by decide) wc_mo rfl in_X12 1 (by decide) t_846 rfl dX12_comes_105 ?_
              refine z_iconst (v := 4) C dX12_comes_108 (by decide) ?_
              refine z_aload_n C dX12_comes_109 0 rfl ?_
              refine z_get (v := .int (σ14 73 9)) (T := TX12) (N := 39) (ci := 11) C (by decide) wc_mo rfl in_X12 9 (by decide) t_854 rfl dX12_comes_110 ?_
              refine z_imul C dX12_comes_113 ?_
              refine z_iconst (v := 1) C dX12_comes_114 (by decide) ?_
              refine z_iadd C dX12_comes_115 ?_
              refine z_aload_n C dX12_comes_116 0 rfl ?_
              refine z_get (v := .ref (E.2.1 87)) (T := TX12) (N := 39) (ci := 11) C (by decide) wc_mo rfl in_X12 21 (by decide) t_866 rfl dX12_comes_117 ?_
              refine z_iload_n C dX12_comes_120 1 rfl ?_
              obtain ⟨h16, hf⟩ := ga_some hf
              refine z_iald C ka_87 h16 dX12_comes_121 ?_
              obtain ⟨h17, hf⟩ := ga_some hf
              obtain ⟨σ18, h19, hf⟩ := nm_some hf
              refine z_iast C ka_75 h17 dX12_comes_122 ?_
              rw [← h19]
              refine z_aload_n C dX12_comes_123 0 rfl ?_
              refine z_get (v := .ref (E.2.1 75)) (T := TX12) (N := 39) (ci := 11) C (by decide) wc_mo rfl in_X12 1 (by decide) t_846 rfl dX12_comes_124 ?_
              refine z_iconst (v := 4) C dX12_comes_127 (by decide) ?_
              refine z_aload_n C dX12_comes_128 0 rfl ?_
              refine z_get (v := .int (σ18 73 9)) (T := TX12) (N := 39) (ci := 11) C (by decide) wc_mo rfl in_X12 9 (by decide) t_854 rfl dX12_comes_129 ?_
              refine z_imul C dX12_comes_132 ?_
              refine z_iconst (v := 2) C dX12_comes_133 (by decide) ?_
              refine z_iadd C dX12_comes_134 ?_
              refine z_aload_n C dX12_comes_135 0 rfl ?_
              refine z_get (v := .ref (E.2.1 88)) (T := TX12) (N := 39) (ci := 11) C (by decide) wc_mo rfl in_X12 22 (by decide) t_867 rfl dX12_comes_136 ?_
              refine z_iload_n C dX12_comes_139 1 rfl ?_
              obtain ⟨h20, hf⟩ := ga_some hf
              refine z_iald C ka_88 h20 dX12_comes_140 ?_
              obtain ⟨h21, hf⟩ := ga_some hf
              obtain ⟨σ22, h23, hf⟩ := nm_some hf
              refine z_iast C ka_75 h21 dX12_comes_141 ?_
              rw [← h23]
              refine z_aload_n C dX12_comes_142 0 rfl ?_
              refine z_get (v := .ref (E.2.1 75)) (T := TX12) (N := 39) (ci := 11) C (by decide) wc_mo rfl in_X12 1 (by decide) t_846 rfl dX12_comes_143 ?_
              refine z_iconst (v := 4) C dX12_comes_146 (by decide) ?_
              refine z_aload_n C dX12_comes_147 0 rfl ?_
              refine z_get (v := .int (σ22 73 9)) (T := TX12) (N := 39) (ci := 11) C (by decide) wc_mo rfl in_X12 9 (by decide) t_854 rfl dX12_comes_148 ?_
              refine z_imul C dX12_comes_151 ?_
              refine z_iconst (v := 3) C dX12_comes_152 (by decide) ?_
              refine z_iadd C dX12_comes_153 ?_
              refine z_aload_n C dX12_comes_154 0 rfl ?_
              refine z_get (v := .ref (E.2.1 89)) (T := TX12) (N := 39) (ci := 11) C (by decide) wc_mo rfl in_X12 23 (by decide) t_868 rfl dX12_comes_155 ?_
              refine z_iload_n C dX12_comes_158 1 rfl ?_
              obtain ⟨h24, hf⟩ := ga_some hf
              refine z_iald C ka_89 h24 dX12_comes_159 ?_
              obtain ⟨h25, hf⟩ := ga_some hf
              obtain ⟨σ26, h27, hf⟩ := nm_some hf
              refine z_iast C ka_75 h25 dX12_comes_160 ?_
              rw [← h27]
              refine z_aload_n C dX12_comes_161 0 rfl ?_
              refine z_get (v := .ref (E.2.1 76)) (T := TX12) (N := 39) (ci := 11) C (by decide) wc_mo rfl in_X12 2 (by decide) t_847 rfl dX12_comes_162 ?_
              refine z_aload_n C dX12_comes_165 0 rfl ?_
              refine z_get (v := .int (σ26 73 9)) (T := TX12) (N := 39) (ci := 11) C (by decide) wc_mo rfl in_X12 9 (by decide) t_854 rfl dX12_comes_166 ?_
              refine z_aload_n C dX12_comes_169 0 rfl ?_
              refine z_get (v := .ref (E.2.1 90)) (T := TX12) (N := 39) (ci := 11) C (by decide) wc_mo rfl in_X12 24 (by decide) t_869 rfl dX12_comes_170 ?_
              refine z_iload_n C dX12_comes_173 1 rfl ?_
              obtain ⟨h28, hf⟩ := ga_some hf
              refine z_iald C ka_90 h28 dX12_comes_174 ?_
              obtain ⟨h29, hf⟩ := ga_some hf
              obtain ⟨σ30, h31, hf⟩ := nm_some hf
              refine z_iast C ka_76 h29 dX12_comes_175 ?_
              rw [← h31]
              refine z_aload_n C dX12_comes_176 0 rfl ?_
              refine z_dup C dX12_comes_177 rfl ?_
              refine z_get (v := .int (σ30 73 9)) (T := TX12) (N := 39) (ci := 11) C (by decide) wc_mo rfl in_X12 9 (by decide) t_854 rfl dX12_comes_178 ?_
              refine z_iconst (v := 1) C dX12_comes_181 (by decide) ?_
              refine z_iadd C dX12_comes_182 ?_
              obtain ⟨σ32, h33, hf⟩ := nm_some hf
              refine z_put (T := TX12) (N := 39) (ci := 11) (ty := .int) C tyX12 tyX12_ok nmX12 (by decide) wc_mo rfl in_X12 9 (by decide) t_854 rfl rfl rfl rfl (Nat.le_of_ble_eq_true rfl) (pw_X12_9) dX12_comes_183 ?_
              rw [← h33]
              refine z_iconst (v := 1) C dX12_comes_186 (by decide) ?_
              exact z_zret C dX12_comes_187 rfl rfl (by rw [← Option.some.inj hf])
            · replace hf := ifp hf h11
              refine z_iconst (v := 0) C dX12_comes_85 (by decide) ?_
              exact z_zret C dX12_comes_86 rfl rfl (by rw [← Option.some.inj hf])
  · replace hf := ifn hf h2
    by_cases h34 : (σ 84 (Int32.toNatClampNeg x1)) = 119
    · replace hf := ifp hf h34
      refine z_look (x := (σ 84 (Int32.toNatClampNeg x1))) (off := 182) (tgt := 188) C dX12_comes_6 (by decide) (by rw [h34]; decide) (by decide) ?_
      refine z_aload_n C dX12_comes_188 0 rfl ?_
      refine z_aload_n C dX12_comes_189 0 rfl ?_
      refine z_get (v := .ref (E.2.1 87)) (T := TX12) (N := 39) (ci := 11) C (by decide) wc_mo rfl in_X12 21 (by decide) t_866 rfl dX12_comes_190 ?_
      refine z_iload_n C dX12_comes_193 1 rfl ?_
      obtain ⟨h35, hf⟩ := ga_some hf
      refine z_iald C ka_87 h35 dX12_comes_194 ?_
      obtain ⟨r36, h37, hf⟩ := bd_some hf
      refine z_callV (Y2 := YX12_isPerson) (CC := RX12) (T := TX12) (N := 39) (ci := 11) (As := [.int (σ 87 (Int32.toNatClampNeg x1))]) C lk_X12_isPerson (by decide) wc_mo rfl t_1024 t_1026 p_38 (Nat.le_of_ble_eq_true rfl) (Nat.le_of_ble_eq_true rfl) dX12_comes_195 (Nat.le_of_ble_eq_true rfl) rfl rfl (m_X12_isPerson X.2.1 E N (σ 87 (Int32.toNatClampNeg x1)) σ _ h37) ?_
      change Zz E X YX12_comes (some (.int R.1), R.2) r36.2 _ _ [.int r36.1]
      refine z_if_eq (tgt := 209) C dX12_comes_198 (by decide) (fun h38 => ?_) (fun h38 => ?_)
      · replace hf := ifp hf h38
        refine z_iconst (v := 0) C dX12_comes_209 (by decide) ?_
        exact z_zret C dX12_comes_210 rfl rfl (by rw [← Option.some.inj hf])
      · replace hf := ifn hf h38
        refine z_aload_n C dX12_comes_201 0 rfl ?_
        refine z_get (v := .int (r36.2 73 10)) (T := TX12) (N := 39) (ci := 11) C (by decide) wc_mo rfl in_X12 10 (by decide) t_855 rfl dX12_comes_202 ?_
        refine z_iconst (v := 4) C dX12_comes_205 (by decide) ?_
        refine z_icmp_ne (tgt := 211) C dX12_comes_206 (by decide) (fun h39 => ?_) (fun h39 => ?_)
        · replace hf := ifn hf h39
          refine z_aload_n C dX12_comes_211 0 rfl ?_
          refine z_get (v := .ref (E.2.1 77)) (T := TX12) (N := 39) (ci := 11) C (by decide) wc_mo rfl in_X12 3 (by decide) t_848 rfl dX12_comes_212 ?_
          refine z_aload_n C dX12_comes_215 0 rfl ?_
          refine z_get (v := .int (r36.2 73 10)) (T := TX12) (N := 39) (ci := 11) C (by decide) wc_mo rfl in_X12 10 (by decide) t_855 rfl dX12_comes_216 ?_
          refine z_aload_n C dX12_comes_219 0 rfl ?_
          refine z_get (v := .ref (E.2.1 86)) (T := TX12) (N := 39) (ci := 11) C (by decide) wc_mo rfl in_X12 20 (by decide) t_865 rfl dX12_comes_220 ?_
          refine z_iload_n C dX12_comes_223 1 rfl ?_
          obtain ⟨h40, hf⟩ := ga_some hf
          refine z_iald C ka_86 h40 dX12_comes_224 ?_
          obtain ⟨h41, hf⟩ := ga_some hf
          obtain ⟨σ42, h43, hf⟩ := nm_some hf
          refine z_iast C ka_77 h41 dX12_comes_225 ?_
          rw [← h43]
          refine z_aload_n C dX12_comes_226 0 rfl ?_
          refine z_get (v := .ref (E.2.1 78)) (T := TX12) (N := 39) (ci := 11) C (by decide) wc_mo rfl in_X12 4 (by decide) t_849 rfl dX12_comes_227 ?_
          refine z_aload_n C dX12_comes_230 0 rfl ?_
          refine z_get (v := .int (σ42 73 10)) (T := TX12) (N := 39) (ci := 11) C (by decide) wc_mo rfl in_X12 10 (by decide) t_855 rfl dX12_comes_231 ?_
          refine z_aload_n C dX12_comes_234 0 rfl ?_
          refine z_get (v := .ref (E.2.1 87)) (T := TX12) (N := 39) (ci := 11) C (by decide) wc_mo rfl in_X12 21 (by decide) t_866 rfl dX12_comes_235 ?_
          refine z_iload_n C dX12_comes_238 1 rfl ?_
          obtain ⟨h44, hf⟩ := ga_some hf
          refine z_iald C ka_87 h44 dX12_comes_239 ?_
          obtain ⟨h45, hf⟩ := ga_some hf
          obtain ⟨σ46, h47, hf⟩ := nm_some hf
          refine z_iast C ka_78 h45 dX12_comes_240 ?_
          rw [← h47]
          refine z_aload_n C dX12_comes_241 0 rfl ?_
          refine z_get (v := .ref (E.2.1 79)) (T := TX12) (N := 39) (ci := 11) C (by decide) wc_mo rfl in_X12 5 (by decide) t_850 rfl dX12_comes_242 ?_
          refine z_aload_n C dX12_comes_245 0 rfl ?_
          refine z_get (v := .int (σ46 73 10)) (T := TX12) (N := 39) (ci := 11) C (by decide) wc_mo rfl in_X12 10 (by decide) t_855 rfl dX12_comes_246 ?_
          refine z_iconst (v := 0) C dX12_comes_249 (by decide) ?_
          obtain ⟨h48, hf⟩ := ga_some hf
          obtain ⟨σ49, h50, hf⟩ := nm_some hf
          refine z_iast C ka_79 h48 dX12_comes_250 ?_
          rw [← h50]
          refine z_aload_n C dX12_comes_251 0 rfl ?_
          refine z_dup C dX12_comes_252 rfl ?_
          refine z_get (v := .int (σ49 73 10)) (T := TX12) (N := 39) (ci := 11) C (by decide) wc_mo rfl in_X12 10 (by decide) t_855 rfl dX12_comes_253 ?_
          refine z_iconst (v := 1) C dX12_comes_256 (by decide) ?_
          refine z_iadd C dX12_comes_257 ?_
          obtain ⟨σ51, h52, hf⟩ := nm_some hf
          refine z_put (T := TX12) (N := 39) (ci := 11) (ty := .int) C tyX12 tyX12_ok nmX12 (by decide) wc_mo rfl in_X12 10 (by decide) t_855 rfl rfl rfl rfl (Nat.le_of_ble_eq_true rfl) (pw_X12_10) dX12_comes_258 ?_
          rw [← h52]
          refine z_iconst (v := 1) C dX12_comes_261 (by decide) ?_
          exact z_zret C dX12_comes_262 rfl rfl (by rw [← Option.some.inj hf])
        · replace hf := ifp hf h39
          refine z_iconst (v := 0) C dX12_comes_209 (by decide) ?_
          exact z_zret C dX12_comes_210 rfl rfl (by rw [← Option.some.inj hf])
    · replace hf := ifn hf h34
      refine z_look (x := (σ 84 (Int32.toNatClampNeg x1))) (off := 257) (tgt := 263) C dX12_comes_6 (by decide) (by rw [lv_osw h2 (by decide)]; rw [lv_osw h34 (by decide)]; rfl) (by decide) ?_
      refine z_aload_n C dX12_comes_263 0 rfl ?_
      refine z_get (v := .int (σ 73 10)) (T := TX12) (N := 39) (ci := 11) C (by decide) wc_mo rfl in_X12 10 (by decide) t_855 rfl dX12_comes_264 ?_
      refine z_if_eq (tgt := 310) C dX12_comes_267 (by decide) (fun h53 => ?_) (fun h53 => ?_)
      · replace hf := ifp hf h53
        refine z_iconst (v := 0) C dX12_comes_310 (by decide) ?_
        exact z_zret C dX12_comes_311 rfl rfl (by rw [← Option.some.inj hf])
      · replace hf := ifn hf h53
        refine z_aload_n C dX12_comes_270 0 rfl ?_
        refine z_get (v := .ref (E.2.1 86)) (T := TX12) (N := 39) (ci := 11) C (by decide) wc_mo rfl in_X12 20 (by decide) t_865 rfl dX12_comes_271 ?_
        refine z_iload_n C dX12_comes_274 1 rfl ?_
        obtain ⟨h54, hf⟩ := ga_some hf
        refine z_iald C ka_86 h54 dX12_comes_275 ?_
        refine z_iconst (v := 5) C dX12_comes_276 (by decide) ?_
        refine z_icmp_gt (tgt := 310) C dX12_comes_277 (by decide) (fun h55 => ?_) (fun h55 => ?_)
        · replace hf := ifp hf h55
          refine z_iconst (v := 0) C dX12_comes_310 (by decide) ?_
          exact z_zret C dX12_comes_311 rfl rfl (by rw [← Option.some.inj hf])
        · replace hf := ifn hf h55
          refine z_aload_n C dX12_comes_280 0 rfl ?_
          refine z_get (v := .ref (E.2.1 87)) (T := TX12) (N := 39) (ci := 11) C (by decide) wc_mo rfl in_X12 21 (by decide) t_866 rfl dX12_comes_281 ?_
          refine z_iload_n C dX12_comes_284 1 rfl ?_
          obtain ⟨h56, hf⟩ := ga_some hf
          refine z_iald C ka_87 h56 dX12_comes_285 ?_
          refine z_iconst (v := 5) C dX12_comes_286 (by decide) ?_
          refine z_icmp_gt (tgt := 310) C dX12_comes_287 (by decide) (fun h57 => ?_) (fun h57 => ?_)
          · replace hf := ifp hf h57
            refine z_iconst (v := 0) C dX12_comes_310 (by decide) ?_
            exact z_zret C dX12_comes_311 rfl rfl (by rw [← Option.some.inj hf])
          · replace hf := ifn hf h57
            refine z_aload_n C dX12_comes_290 0 rfl ?_
            refine z_get (v := .ref (E.2.1 88)) (T := TX12) (N := 39) (ci := 11) C (by decide) wc_mo rfl in_X12 22 (by decide) t_867 rfl dX12_comes_291 ?_
            refine z_iload_n C dX12_comes_294 1 rfl ?_
            obtain ⟨h58, hf⟩ := ga_some hf
            refine z_iald C ka_88 h58 dX12_comes_295 ?_
            refine z_iconst (v := 5) C dX12_comes_296 (by decide) ?_
            refine z_icmp_gt (tgt := 310) C dX12_comes_297 (by decide) (fun h59 => ?_) (fun h59 => ?_)
            · replace hf := ifp hf h59
              refine z_iconst (v := 0) C dX12_comes_310 (by decide) ?_
              exact z_zret C dX12_comes_311 rfl rfl (by rw [← Option.some.inj hf])
            · replace hf := ifn hf h59
              refine z_aload_n C dX12_comes_300 0 rfl ?_
              refine z_get (v := .ref (E.2.1 89)) (T := TX12) (N := 39) (ci := 11) C (by decide) wc_mo rfl in_X12 23 (by decide) t_868 rfl dX12_comes_301 ?_
              refine z_iload_n C dX12_comes_304 1 rfl ?_
              obtain ⟨h60, hf⟩ := ga_some hf
              refine z_iald C ka_89 h60 dX12_comes_305 ?_
              refine z_iconst (v := 5) C dX12_comes_306 (by decide) ?_
              refine z_icmp_le (tgt := 312) C dX12_comes_307 (by decide) (fun h61 => ?_) (fun h61 => ?_)
              · replace hf := ifp hf h61
                refine z_aload_n C dX12_comes_312 0 rfl ?_
                refine z_get (v := .ref (E.2.1 79)) (T := TX12) (N := 39) (ci := 11) C (by decide) wc_mo rfl in_X12 5 (by decide) t_850 rfl dX12_comes_313 ?_
                refine z_aload_n C dX12_comes_316 0 rfl ?_
                refine z_get (v := .int (σ 73 10)) (T := TX12) (N := 39) (ci := 11) C (by decide) wc_mo rfl in_X12 10 (by decide) t_855 rfl dX12_comes_317 ?_
                refine z_iconst (v := 1) C dX12_comes_320 (by decide) ?_
                refine z_isub C dX12_comes_321 ?_
                refine z_aload_n C dX12_comes_322 0 rfl ?_
                refine z_get (v := .ref (E.2.1 86)) (T := TX12) (N := 39) (ci := 11) C (by decide) wc_mo rfl in_X12 20 (by decide) t_865 rfl dX12_comes_323 ?_
                refine z_iload_n C dX12_comes_326 1 rfl ?_
                obtain ⟨h62, hf⟩ := ga_some hf
                refine z_iald C ka_86 h62 dX12_comes_327 ?_
                refine z_bipush (v := 10) C dX12_comes_328 (by decide) ?_
                refine z_aload_n C dX12_comes_330 0 rfl ?_
                refine z_get (v := .ref (E.2.1 87)) (T := TX12) (N := 39) (ci := 11) C (by decide) wc_mo rfl in_X12 21 (by decide) t_866 rfl dX12_comes_331 ?_
                refine z_iload_n C dX12_comes_334 1 rfl ?_
                obtain ⟨h63, hf⟩ := ga_some hf
                refine z_iald C ka_87 h63 dX12_comes_335 ?_
                refine z_imul C dX12_comes_336 ?_
                refine z_iadd C dX12_comes_337 ?_
                refine z_bipush (v := 100) C dX12_comes_338 (by decide) ?_
                refine z_aload_n C dX12_comes_340 0 rfl ?_
                refine z_get (v := .ref (E.2.1 88)) (T := TX12) (N := 39) (ci := 11) C (by decide) wc_mo rfl in_X12 22 (by decide) t_867 rfl dX12_comes_341 ?_
                refine z_iload_n C dX12_comes_344 1 rfl ?_
                obtain ⟨h64, hf⟩ := ga_some hf
                refine z_iald C ka_88 h64 dX12_comes_345 ?_
                refine z_imul C dX12_comes_346 ?_
                refine z_iadd C dX12_comes_347 ?_
                refine z_sipush (v := 1000) C dX12_comes_348 (by decide) ?_
                refine z_aload_n C dX12_comes_351 0 rfl ?_
                refine z_get (v := .ref (E.2.1 89)) (T := TX12) (N := 39) (ci := 11) C (by decide) wc_mo rfl in_X12 23 (by decide) t_868 rfl dX12_comes_352 ?_
                refine z_iload_n C dX12_comes_355 1 rfl ?_
                obtain ⟨h65, hf⟩ := ga_some hf
                refine z_iald C ka_89 h65 dX12_comes_356 ?_
                refine z_imul C dX12_comes_357 ?_
                refine z_iadd C dX12_comes_358 ?_
                obtain ⟨h66, hf⟩ := ga_some hf
                obtain ⟨σ67, h68, hf⟩ := nm_some hf
                refine z_iast C ka_79 h66 dX12_comes_359 ?_
                rw [← h68]
                refine z_iconst (v := 1) C dX12_comes_360 (by decide) ?_
                exact z_zret C dX12_comes_361 rfl rfl (by rw [← Option.some.inj hf])
              · replace hf := ifn hf h61
                refine z_iconst (v := 0) C dX12_comes_310 (by decide) ?_
                exact z_zret C dX12_comes_311 rfl rfl (by rw [← Option.some.inj hf])
theorem lk_X12_comes {Y : Yv} : Lk Y YX12_comes 1 := ⟨t_1023, t_13, ⟨by decide +kernel, by decide +kernel⟩, by decide +kernel⟩
abbrev YX12_passes : Yv := (yX12_passes, cX12_passes, 3, none, 0, 0)
def f_X12_passes_J42 (N : Nat) (n1 q1 : Nat) (rec : Int32 → Sg → Option (Sg)) (a2 : Int32) (σ : Sg) : Option (Sg) :=
  nm (sgs σ 73 32 ((σ 73 32) + 1)) (fun σ7 => rec (a2 + 1) σ7)
def f_X12_passes_B2 (N : Nat) (n1 q1 : Nat) (rec : Int32 → Sg → Option (Sg)) (a2 : Int32) (σ : Sg) : Option (Sg) :=
  if (Int32.ofNat n1) ≤ a2 then (some σ) else (if (σ 73 31) = 0 then (ga (σ 73 32) 300 (ga a2 n1 (nm (sgs σ q1 (Int32.toNatClampNeg a2) (σ 91 (Int32.toNatClampNeg (σ 73 32)))) (fun σ5 => f_X12_passes_J42 N n1 q1 rec a2 σ5)))) else (ga a2 n1 (ga (σ 73 32) 300 (nm (sgs σ 91 (Int32.toNatClampNeg (σ 73 32)) (σ q1 (Int32.toNatClampNeg a2))) (fun σ11 => f_X12_passes_J42 N n1 q1 rec a2 σ11)))))
def f_X12_passes_L2 (N : Nat) (n1 q1 : Nat) : Nat → Int32 → Sg → Option (Sg)
  | 0 => fun _ _ => none
  | k + 1 => fun a2 σ => f_X12_passes_B2 N n1 q1 (f_X12_passes_L2 N n1 q1 k) a2 σ
def f_X12_passes (N : Nat) (n1 q1 : Nat) (σ : Sg) : Option (Sg) :=
  (f_X12_passes_L2 N n1 q1 N 0 σ).bind (fun s13 => some s13)
set_option maxHeartbeats 4000000 in
set_option maxRecDepth 20000 in
theorem m_X12_passes (l : Launch) (E : Ev) (N : Nat) (n1 q1 : Nat) (hq1 : kd q1 = (8, n1)) (σ : Sg) (R : Sg) (hf : f_X12_passes N n1 q1 σ = some R) : Ct l E YX12_passes [.ref (E.2.1 73), .ref (E.2.1 q1)] σ (none, R) := by
  refine ct_of (by decide +kernel) (Nat.le_of_ble_eq_true rfl) [(0, .ref (E.2.1 73)), (1, .ref (E.2.1 q1))] rfl (fun X hX C => ?_)
  have hL2 : ∀ (k : Nat) (a2 : Int32) (σ : Sg) (Q2 : Sg), f_X12_passes_L2 N n1 q1 k a2 σ = some Q2 → (Zz E X YX12_passes (none, R) Q2 58 [] []) → Zz E X YX12_passes (none, R) σ 2 [(0, .ref (E.2.1 73)), (1, .ref (E.2.1 q1)), (2, .int a2)] [] := by
    intro k
    induction k with
    | zero =>
      intro a2 σ Q2 hf
      have hf : (none : Option (Sg)) = some Q2 := hf
      cases hf
    | succ k ih =>
      intro a2 σ Q2 hf hx2
      have hf : f_X12_passes_B2 N n1 q1 (f_X12_passes_L2 N n1 q1 k) a2 σ = some Q2 := hf
      have hJ42 : ∀ (a2 : Int32) (σ : Sg), f_X12_passes_J42 N n1 q1 (f_X12_passes_L2 N n1 q1 k) a2 σ = some Q2 → Zz E X YX12_passes (none, R) σ 42 [(0, .ref (E.2.1 73)), (1, .ref (E.2.1 q1)), (2, .int a2)] [] := by
        intro a2 σ hf
        unfold f_X12_passes_J42 at hf
        refine z_aload_n C dX12_passes_42 0 rfl ?_
        refine z_dup C dX12_passes_43 rfl ?_
        refine z_get (v := .int (σ 73 32)) (T := TX12) (N := 39) (ci := 11) C (by decide) wc_mo rfl in_X12 32 (by decide) t_877 rfl dX12_passes_44 ?_
        refine z_iconst (v := 1) C dX12_passes_47 (by decide) ?_
        refine z_iadd C dX12_passes_48 ?_
        obtain ⟨σ7, h8, hf⟩ := nm_some hf
        refine z_put (T := TX12) (N := 39) (ci := 11) (ty := .int) C tyX12 tyX12_ok nmX12 (by decide) wc_mo rfl in_X12 32 (by decide) t_877 rfl rfl rfl rfl (Nat.le_of_ble_eq_true rfl) (pw_X12_32) dX12_passes_49 ?_
        rw [← h8]
        refine z_iinc (v := (a2 + 1)) (lv' := [(2, .int (a2 + 1)), (0, .ref (E.2.1 73)), (1, .ref (E.2.1 q1))]) C dX12_passes_52 2 rfl rfl (by decide) rfl ?_
        refine z_goto (tgt := 2) C dX12_passes_55 (by decide) ?_
        refine z_sub [(0, .ref (E.2.1 73)), (1, .ref (E.2.1 q1)), (2, .int (a2 + 1))] [1, 2, 0] rfl ?_
        exact ih (a2 + 1) σ7 _ hf hx2
      unfold f_X12_passes_B2 at hf
      refine z_iload_n C dX12_passes_2 2 rfl ?_
      refine z_aload_n C dX12_passes_3 1 rfl ?_
      refine z_alen (v := (Int32.ofNat n1)) C hq1 rfl dX12_passes_4 ?_
      refine z_icmp_ge (tgt := 58) C dX12_passes_5 (by decide) (fun h1 => ?_) (fun h1 => ?_)
      · replace hf := ifp hf h1
        refine z_sub [] [] rfl ?_
        obtain rfl := Option.some.inj hf
        exact hx2
      · replace hf := ifn hf h1
        refine z_aload_n C dX12_passes_8 0 rfl ?_
        refine z_get (v := .int (σ 73 31)) (T := TX12) (N := 39) (ci := 11) C (by decide) wc_mo rfl in_X12 31 (by decide) t_876 rfl dX12_passes_9 ?_
        refine z_if_eq (tgt := 30) C dX12_passes_12 (by decide) (fun h2 => ?_) (fun h2 => ?_)
        · replace hf := ifp hf h2
          refine z_aload_n C dX12_passes_30 1 rfl ?_
          refine z_iload_n C dX12_passes_31 2 rfl ?_
          refine z_aload_n C dX12_passes_32 0 rfl ?_
          refine z_get (v := .ref (E.2.1 91)) (T := TX12) (N := 39) (ci := 11) C (by decide) wc_mo rfl in_X12 28 (by decide) t_873 rfl dX12_passes_33 ?_
          refine z_aload_n C dX12_passes_36 0 rfl ?_
          refine z_get (v := .int (σ 73 32)) (T := TX12) (N := 39) (ci := 11) C (by decide) wc_mo rfl in_X12 32 (by decide) t_877 rfl dX12_passes_37 ?_
          obtain ⟨h3, hf⟩ := ga_some hf
          refine z_iald C ka_91 h3 dX12_passes_40 ?_
          obtain ⟨h4, hf⟩ := ga_some hf
          obtain ⟨σ5, h6, hf⟩ := nm_some hf
          refine z_iast C hq1 h4 dX12_passes_41 ?_
          rw [← h6]
          refine z_sub [(0, .ref (E.2.1 73)), (1, .ref (E.2.1 q1)), (2, .int a2)] [0, 1, 2] rfl ?_
          exact hJ42 a2 σ5 hf
        · replace hf := ifn hf h2
          refine z_aload_n C dX12_passes_15 0 rfl ?_
          refine z_get (v := .ref (E.2.1 91)) (T := TX12) (N := 39) (ci := 11) C (by decide) wc_mo rfl in_X12 28 (by decide) t_873 rfl dX12_passes_16 ?_
          refine z_aload_n C dX12_passes_19 0 rfl ?_
          refine z_get (v := .int (σ 73 32)) (T := TX12) (N := 39) (ci := 11) C (by decide) wc_mo rfl in_X12 32 (by decide) t_877 rfl dX12_passes_20 ?_
          refine z_aload_n C dX12_passes_23 1 rfl ?_
          refine z_iload_n C dX12_passes_24 2 rfl ?_
          obtain ⟨h9, hf⟩ := ga_some hf
          refine z_iald C hq1 h9 dX12_passes_25 ?_
          obtain ⟨h10, hf⟩ := ga_some hf
          obtain ⟨σ11, h12, hf⟩ := nm_some hf
          refine z_iast C ka_91 h10 dX12_passes_26 ?_
          rw [← h12]
          refine z_goto (tgt := 42) C dX12_passes_27 (by decide) ?_
          refine z_sub [(0, .ref (E.2.1 73)), (1, .ref (E.2.1 q1)), (2, .int a2)] [0, 1, 2] rfl ?_
          exact hJ42 a2 σ11 hf
  unfold f_X12_passes at hf
  refine z_iconst (v := 0) C dX12_passes_0 (by decide) ?_
  refine z_istore_n (lv' := [(2, .int 0), (0, .ref (E.2.1 73)), (1, .ref (E.2.1 q1))]) C dX12_passes_1 (by decide) rfl ?_
  refine z_sub [(0, .ref (E.2.1 73)), (1, .ref (E.2.1 q1)), (2, .int 0)] [1, 2, 0] rfl ?_
  obtain ⟨s13, h14, hf⟩ := bd_some hf
  refine hL2 N 0 σ _ h14 ?_
  exact z_vret C dX12_passes_58 rfl (by rw [← Option.some.inj hf])
theorem lk_X12_passes {Y : Yv} : Lk Y YX12_passes 1 := ⟨t_1015, t_13, ⟨by decide +kernel, by decide +kernel⟩, by decide +kernel⟩
abbrev YX12_passOne : Yv := (yX12_passOne, cX12_passOne, 3, some .int, 0, 0)
def f_X12_passOne_J38 (N : Nat) (a2 : Int32) (σ : Sg) : Option (Int32 × Sg) :=
  nm (sgs σ 73 32 ((σ 73 32) + 1)) (fun σ4 => some (a2, σ4))
def f_X12_passOne_J20 (N : Nat) (a1 b0 : Int32) (σ : Sg) : Option (Int32 × Sg) :=
  if (σ 73 31) = 0 then (f_X12_passOne_J38 N b0 σ) else (ga (σ 73 32) 300 (nm (sgs σ 91 (Int32.toNatClampNeg (σ 73 32)) a1) (fun σ7 => f_X12_passOne_J38 N b0 σ7)))
def f_X12_passOne (N : Nat) (x1 : Int32) (σ : Sg) : Option (Int32 × Sg) :=
  if (σ 73 31) = 0 then (ga (σ 73 32) 300 (f_X12_passOne_J20 N x1 (σ 91 (Int32.toNatClampNeg (σ 73 32))) σ)) else (f_X12_passOne_J20 N x1 x1 σ)
set_option maxHeartbeats 4000000 in
set_option maxRecDepth 20000 in
theorem m_X12_passOne (l : Launch) (E : Ev) (N : Nat) (x1 : Int32) (σ : Sg) (R : Int32 × Sg) (hf : f_X12_passOne N x1 σ = some R) : Ct l E YX12_passOne [.ref (E.2.1 73), .int x1] σ (some (.int R.1), R.2) := by
  refine ct_of (by decide +kernel) (Nat.le_of_ble_eq_true rfl) [(0, .ref (E.2.1 73)), (1, .int x1)] rfl (fun X hX C => ?_)
  have hJ38 : ∀ (a2 : Int32) (σ : Sg), f_X12_passOne_J38 N a2 σ = some R → Zz E X YX12_passOne (some (.int R.1), R.2) σ 38 [(0, .ref (E.2.1 73)), (2, .int a2)] [] := by
    intro a2 σ hf
    unfold f_X12_passOne_J38 at hf
    refine z_aload_n C dX12_passOne_38 0 rfl ?_
    refine z_dup C dX12_passOne_39 rfl ?_
    refine z_get (v := .int (σ 73 32)) (T := TX12) (N := 39) (ci := 11) C (by decide) wc_mo rfl in_X12 32 (by decide) t_877 rfl dX12_passOne_40 ?_
    refine z_iconst (v := 1) C dX12_passOne_43 (by decide) ?_
    refine z_iadd C dX12_passOne_44 ?_
    obtain ⟨σ4, h5, hf⟩ := nm_some hf
    refine z_put (T := TX12) (N := 39) (ci := 11) (ty := .int) C tyX12 tyX12_ok nmX12 (by decide) wc_mo rfl in_X12 32 (by decide) t_877 rfl rfl rfl rfl (Nat.le_of_ble_eq_true rfl) (pw_X12_32) dX12_passOne_45 ?_
    rw [← h5]
    refine z_iload_n C dX12_passOne_48 1 rfl ?_
    exact z_iret C dX12_passOne_49 rfl (by rw [← Option.some.inj hf])
  have hJ20 : ∀ (a1 b0 : Int32) (σ : Sg), f_X12_passOne_J20 N a1 b0 σ = some R → Zz E X YX12_passOne (some (.int R.1), R.2) σ 20 [(0, .ref (E.2.1 73)), (1, .int a1)] [.int b0] := by
    intro a1 b0 σ hf
    unfold f_X12_passOne_J20 at hf
    refine z_istore_n (lv' := [(2, .int b0), (0, .ref (E.2.1 73)), (1, .int a1)]) C dX12_passOne_20 (by decide) rfl ?_
    refine z_aload_n C dX12_passOne_21 1 rfl ?_
    refine z_get (v := .int (σ 73 31)) (T := TX12) (N := 39) (ci := 11) C (by decide) wc_mo rfl in_X12 31 (by decide) t_876 rfl dX12_passOne_22 ?_
    refine z_if_eq (tgt := 38) C dX12_passOne_25 (by decide) (fun h3 => ?_) (fun h3 => ?_)
    · replace hf := ifp hf h3
      refine z_sub [(0, .ref (E.2.1 73)), (2, .int b0)] [1, 0] rfl ?_
      exact hJ38 b0 σ hf
    · replace hf := ifn hf h3
      refine z_aload_n C dX12_passOne_28 1 rfl ?_
      refine z_get (v := .ref (E.2.1 91)) (T := TX12) (N := 39) (ci := 11) C (by decide) wc_mo rfl in_X12 28 (by decide) t_873 rfl dX12_passOne_29 ?_
      refine z_aload_n C dX12_passOne_32 1 rfl ?_
      refine z_get (v := .int (σ 73 32)) (T := TX12) (N := 39) (ci := 11) C (by decide) wc_mo rfl in_X12 32 (by decide) t_877 rfl dX12_passOne_33 ?_
      refine z_iload_n C dX12_passOne_36 2 rfl ?_
      obtain ⟨h6, hf⟩ := ga_some hf
      obtain ⟨σ7, h8, hf⟩ := nm_some hf
      refine z_iast C ka_91 h6 dX12_passOne_37 ?_
      rw [← h8]
      refine z_sub [(0, .ref (E.2.1 73)), (2, .int b0)] [1, 0] rfl ?_
      exact hJ38 b0 σ7 hf
  unfold f_X12_passOne at hf
  refine z_aload_n C dX12_passOne_0 0 rfl ?_
  refine z_get (v := .int (σ 73 31)) (T := TX12) (N := 39) (ci := 11) C (by decide) wc_mo rfl in_X12 31 (by decide) t_876 rfl dX12_passOne_1 ?_
  refine z_if_eq (tgt := 11) C dX12_passOne_4 (by decide) (fun h1 => ?_) (fun h1 => ?_)
  · replace hf := ifp hf h1
    refine z_aload_n C dX12_passOne_11 0 rfl ?_
    refine z_get (v := .ref (E.2.1 91)) (T := TX12) (N := 39) (ci := 11) C (by decide) wc_mo rfl in_X12 28 (by decide) t_873 rfl dX12_passOne_12 ?_
    refine z_aload_n C dX12_passOne_15 0 rfl ?_
    refine z_get (v := .int (σ 73 32)) (T := TX12) (N := 39) (ci := 11) C (by decide) wc_mo rfl in_X12 32 (by decide) t_877 rfl dX12_passOne_16 ?_
    obtain ⟨h2, hf⟩ := ga_some hf
    refine z_iald C ka_91 h2 dX12_passOne_19 ?_
    refine z_sub [(0, .ref (E.2.1 73)), (1, .int x1)] [0, 1] rfl ?_
    exact hJ20 x1 (σ 91 (Int32.toNatClampNeg (σ 73 32))) σ hf
  · replace hf := ifn hf h1
    refine z_iload_n C dX12_passOne_7 1 rfl ?_
    refine z_goto (tgt := 20) C dX12_passOne_8 (by decide) ?_
    refine z_sub [(0, .ref (E.2.1 73)), (1, .int x1)] [0, 1] rfl ?_
    exact hJ20 x1 x1 σ hf
theorem lk_X12_passOne {Y : Yv} : Lk Y YX12_passOne 1 := ⟨t_1019, t_13, ⟨by decide +kernel, by decide +kernel⟩, by decide +kernel⟩
abbrev YX12_passesAll : Yv := (yX12_passesAll, cX12_passesAll, 3, none, 1, 22)
def f_X12_passesAll (N : Nat) (x1 x2 : Int32) (σ : Sg) : Option (Sg) :=
  nm (sgs σ 73 32 ((150 : Int32) * x1)) (fun σ1 => gb x2 (nm (sgs σ1 73 31 x2) (fun σ4 => (f_X12_passes N 24 75 σ4).bind (fun r6 => (f_X12_passes N 6 76 r6).bind (fun r8 => (f_X12_passes N 4 77 r8).bind (fun r10 => (f_X12_passes N 4 78 r10).bind (fun r12 => (f_X12_passes N 4 79 r12).bind (fun r14 => (f_X12_passes N 5 80 r14).bind (fun r16 => (f_X12_passes N 6 81 r16).bind (fun r18 => (f_X12_passes N 6 82 r18).bind (fun r20 => (f_X12_passOne N (r20 73 9) r20).bind (fun r22 => nm (sgs r22.2 73 9 r22.1) (fun σ24 => (f_X12_passOne N (σ24 73 10) σ24).bind (fun r26 => nm (sgs r26.2 73 10 r26.1) (fun σ28 => (f_X12_passOne N (σ28 73 11) σ28).bind (fun r30 => nm (sgs r30.2 73 11 r30.1) (fun σ32 => (f_X12_passOne N (σ32 73 12) σ32).bind (fun r34 => nm (sgs r34.2 73 12 r34.1) (fun σ36 => (f_X12_passOne N (σ36 73 13) σ36).bind (fun r38 => nm (sgs r38.2 73 13 r38.1) (fun σ40 => (f_X12_passOne N (σ40 73 14) σ40).bind (fun r42 => nm (sgs r42.2 73 14 r42.1) (fun σ44 => (f_X12_passOne N (σ44 73 15) σ44).bind (fun r46 => nm (sgs r46.2 73 15 r46.1) (fun σ48 => (f_X12_passOne N (σ48 73 16) σ48).bind (fun r50 => nm (sgs r50.2 73 16 r50.1) (fun σ52 => some σ52)))))))))))))))))))))))))))
set_option maxHeartbeats 4000000 in
set_option maxRecDepth 20000 in
theorem m_X12_passesAll (l : Launch) (E : Ev) (N : Nat) (x1 x2 : Int32) (σ : Sg) (R : Sg) (hf : f_X12_passesAll N x1 x2 σ = some R) : Ct l E YX12_passesAll [.ref (E.2.1 73), .int x1, .int x2] σ (none, R) := by
  refine ct_of (by decide +kernel) (Nat.le_of_ble_eq_true rfl) [(0, .ref (E.2.1 73)), (1, .int x1), (2, .int x2)] rfl (fun X hX C => ?_)
  unfold f_X12_passesAll at hf
  refine z_aload_n C dX12_passesAll_0 0 rfl ?_
  refine z_sipush (v := 150) C dX12_passesAll_1 (by decide) ?_
  refine z_iload_n C dX12_passesAll_4 1 rfl ?_
  refine z_imul C dX12_passesAll_5 ?_
  obtain ⟨σ1, h2, hf⟩ := nm_some hf
  refine z_put (T := TX12) (N := 39) (ci := 11) (ty := .int) C tyX12 tyX12_ok nmX12 (by decide) wc_mo rfl in_X12 32 (by decide) t_877 rfl rfl rfl rfl (Nat.le_of_ble_eq_true rfl) (pw_X12_32) dX12_passesAll_6 ?_
  rw [← h2]
  refine z_aload_n C dX12_passesAll_9 0 rfl ?_
  refine z_iload_n C dX12_passesAll_10 2 rfl ?_
  have h3 := gb_fit hf
  replace hf := (gb_some hf).2
  obtain ⟨σ4, h5, hf⟩ := nm_some hf
  refine z_put (T := TX12) (N := 39) (ci := 11) (ty := .boolean) C tyX12 tyX12_ok nmX12 (by decide) wc_mo rfl in_X12 31 (by decide) t_876 rfl rfl h3.1 h3.2 (Nat.le_of_ble_eq_true rfl) (pw_X12_31) dX12_passesAll_11 ?_
  rw [← h5]
  refine z_aload_n C dX12_passesAll_14 0 rfl ?_
  refine z_aload_n C dX12_passesAll_15 0 rfl ?_
  refine z_get (v := .ref (E.2.1 75)) (T := TX12) (N := 39) (ci := 11) C (by decide) wc_mo rfl in_X12 1 (by decide) t_846 rfl dX12_passesAll_16 ?_
  obtain ⟨r6, h7, hf⟩ := bd_some hf
  refine z_callV (Y2 := YX12_passes) (CC := RX12) (T := TX12) (N := 39) (ci := 11) (As := [.ref (E.2.1 75)]) C lk_X12_passes (by decide) wc_mo rfl t_1012 t_1014 p_35 (Nat.le_of_ble_eq_true rfl) (Nat.le_of_ble_eq_true rfl) dX12_passesAll_19 (Nat.le_of_ble_eq_true rfl) rfl rfl (m_X12_passes X.2.1 E N 24 75 ka_75 σ4 _ h7) ?_
  change Zz E X YX12_passesAll (none, R) r6 _ _ []
  refine z_aload_n C dX12_passesAll_22 0 rfl ?_
  refine z_aload_n C dX12_passesAll_23 0 rfl ?_
  refine z_get (v := .ref (E.2.1 76)) (T := TX12) (N := 39) (ci := 11) C (by decide) wc_mo rfl in_X12 2 (by decide) t_847 rfl dX12_passesAll_24 ?_
  obtain ⟨r8, h9, hf⟩ := bd_some hf
  refine z_callV (Y2 := YX12_passes) (CC := RX12) (T := TX12) (N := 39) (ci := 11) (As := [.ref (E.2.1 76)]) C lk_X12_passes (by decide) wc_mo rfl t_1012 t_1014 p_35 (Nat.le_of_ble_eq_true rfl) (Nat.le_of_ble_eq_true rfl) dX12_passesAll_27 (Nat.le_of_ble_eq_true rfl) rfl rfl (m_X12_passes X.2.1 E N 6 76 ka_76 r6 _ h9) ?_
  change Zz E X YX12_passesAll (none, R) r8 _ _ []
  refine z_aload_n C dX12_passesAll_30 0 rfl ?_
  refine z_aload_n C dX12_passesAll_31 0 rfl ?_
  refine z_get (v := .ref (E.2.1 77)) (T := TX12) (N := 39) (ci := 11) C (by decide) wc_mo rfl in_X12 3 (by decide) t_848 rfl dX12_passesAll_32 ?_
  obtain ⟨r10, h11, hf⟩ := bd_some hf
  refine z_callV (Y2 := YX12_passes) (CC := RX12) (T := TX12) (N := 39) (ci := 11) (As := [.ref (E.2.1 77)]) C lk_X12_passes (by decide) wc_mo rfl t_1012 t_1014 p_35 (Nat.le_of_ble_eq_true rfl) (Nat.le_of_ble_eq_true rfl) dX12_passesAll_35 (Nat.le_of_ble_eq_true rfl) rfl rfl (m_X12_passes X.2.1 E N 4 77 ka_77 r8 _ h11) ?_
  change Zz E X YX12_passesAll (none, R) r10 _ _ []
  refine z_aload_n C dX12_passesAll_38 0 rfl ?_
  refine z_aload_n C dX12_passesAll_39 0 rfl ?_
  refine z_get (v := .ref (E.2.1 78)) (T := TX12) (N := 39) (ci := 11) C (by decide) wc_mo rfl in_X12 4 (by decide) t_849 rfl dX12_passesAll_40 ?_
  obtain ⟨r12, h13, hf⟩ := bd_some hf
  refine z_callV (Y2 := YX12_passes) (CC := RX12) (T := TX12) (N := 39) (ci := 11) (As := [.ref (E.2.1 78)]) C lk_X12_passes (by decide) wc_mo rfl t_1012 t_1014 p_35 (Nat.le_of_ble_eq_true rfl) (Nat.le_of_ble_eq_true rfl) dX12_passesAll_43 (Nat.le_of_ble_eq_true rfl) rfl rfl (m_X12_passes X.2.1 E N 4 78 ka_78 r10 _ h13) ?_
  change Zz E X YX12_passesAll (none, R) r12 _ _ []
  refine z_aload_n C dX12_passesAll_46 0 rfl ?_
  refine z_aload_n C dX12_passesAll_47 0 rfl ?_
  refine z_get (v := .ref (E.2.1 79)) (T := TX12) (N := 39) (ci := 11) C (by decide) wc_mo rfl in_X12 5 (by decide) t_850 rfl dX12_passesAll_48 ?_
  obtain ⟨r14, h15, hf⟩ := bd_some hf
  refine z_callV (Y2 := YX12_passes) (CC := RX12) (T := TX12) (N := 39) (ci := 11) (As := [.ref (E.2.1 79)]) C lk_X12_passes (by decide) wc_mo rfl t_1012 t_1014 p_35 (Nat.le_of_ble_eq_true rfl) (Nat.le_of_ble_eq_true rfl) dX12_passesAll_51 (Nat.le_of_ble_eq_true rfl) rfl rfl (m_X12_passes X.2.1 E N 4 79 ka_79 r12 _ h15) ?_
  change Zz E X YX12_passesAll (none, R) r14 _ _ []
  refine z_aload_n C dX12_passesAll_54 0 rfl ?_
  refine z_aload_n C dX12_passesAll_55 0 rfl ?_
  refine z_get (v := .ref (E.2.1 80)) (T := TX12) (N := 39) (ci := 11) C (by decide) wc_mo rfl in_X12 6 (by decide) t_851 rfl dX12_passesAll_56 ?_
  obtain ⟨r16, h17, hf⟩ := bd_some hf
  refine z_callV (Y2 := YX12_passes) (CC := RX12) (T := TX12) (N := 39) (ci := 11) (As := [.ref (E.2.1 80)]) C lk_X12_passes (by decide) wc_mo rfl t_1012 t_1014 p_35 (Nat.le_of_ble_eq_true rfl) (Nat.le_of_ble_eq_true rfl) dX12_passesAll_59 (Nat.le_of_ble_eq_true rfl) rfl rfl (m_X12_passes X.2.1 E N 5 80 ka_80 r14 _ h17) ?_
  change Zz E X YX12_passesAll (none, R) r16 _ _ []
  refine z_aload_n C dX12_passesAll_62 0 rfl ?_
  refine z_aload_n C dX12_passesAll_63 0 rfl ?_
  refine z_get (v := .ref (E.2.1 81)) (T := TX12) (N := 39) (ci := 11) C (by decide) wc_mo rfl in_X12 7 (by decide) t_852 rfl dX12_passesAll_64 ?_
  obtain ⟨r18, h19, hf⟩ := bd_some hf
  refine z_callV (Y2 := YX12_passes) (CC := RX12) (T := TX12) (N := 39) (ci := 11) (As := [.ref (E.2.1 81)]) C lk_X12_passes (by decide) wc_mo rfl t_1012 t_1014 p_35 (Nat.le_of_ble_eq_true rfl) (Nat.le_of_ble_eq_true rfl) dX12_passesAll_67 (Nat.le_of_ble_eq_true rfl) rfl rfl (m_X12_passes X.2.1 E N 6 81 ka_81 r16 _ h19) ?_
  change Zz E X YX12_passesAll (none, R) r18 _ _ []
  refine z_aload_n C dX12_passesAll_70 0 rfl ?_
  refine z_aload_n C dX12_passesAll_71 0 rfl ?_
  refine z_get (v := .ref (E.2.1 82)) (T := TX12) (N := 39) (ci := 11) C (by decide) wc_mo rfl in_X12 8 (by decide) t_853 rfl dX12_passesAll_72 ?_
  obtain ⟨r20, h21, hf⟩ := bd_some hf
  refine z_callV (Y2 := YX12_passes) (CC := RX12) (T := TX12) (N := 39) (ci := 11) (As := [.ref (E.2.1 82)]) C lk_X12_passes (by decide) wc_mo rfl t_1012 t_1014 p_35 (Nat.le_of_ble_eq_true rfl) (Nat.le_of_ble_eq_true rfl) dX12_passesAll_75 (Nat.le_of_ble_eq_true rfl) rfl rfl (m_X12_passes X.2.1 E N 6 82 ka_82 r18 _ h21) ?_
  change Zz E X YX12_passesAll (none, R) r20 _ _ []
  refine z_aload_n C dX12_passesAll_78 0 rfl ?_
  refine z_aload_n C dX12_passesAll_79 0 rfl ?_
  refine z_aload_n C dX12_passesAll_80 0 rfl ?_
  refine z_get (v := .int (r20 73 9)) (T := TX12) (N := 39) (ci := 11) C (by decide) wc_mo rfl in_X12 9 (by decide) t_854 rfl dX12_passesAll_81 ?_
  obtain ⟨r22, h23, hf⟩ := bd_some hf
  refine z_callV (Y2 := YX12_passOne) (CC := RX12) (T := TX12) (N := 39) (ci := 11) (As := [.int (r20 73 9)]) C lk_X12_passOne (by decide) wc_mo rfl t_1016 t_1018 p_36 (Nat.le_of_ble_eq_true rfl) (Nat.le_of_ble_eq_true rfl) dX12_passesAll_84 (Nat.le_of_ble_eq_true rfl) rfl rfl (m_X12_passOne X.2.1 E N (r20 73 9) r20 _ h23) ?_
  change Zz E X YX12_passesAll (none, R) r22.2 _ _ [.int r22.1, .ref (E.2.1 73)]
  obtain ⟨σ24, h25, hf⟩ := nm_some hf
  refine z_put (T := TX12) (N := 39) (ci := 11) (ty := .int) C tyX12 tyX12_ok nmX12 (by decide) wc_mo rfl in_X12 9 (by decide) t_854 rfl rfl rfl rfl (Nat.le_of_ble_eq_true rfl) (pw_X12_9) dX12_passesAll_87 ?_
  rw [← h25]
  refine z_aload_n C dX12_passesAll_90 0 rfl ?_
  refine z_aload_n C dX12_passesAll_91 0 rfl ?_
  refine z_aload_n C dX12_passesAll_92 0 rfl ?_
  refine z_get (v := .int (σ24 73 10)) (T := TX12) (N := 39) (ci := 11) C (by decide) wc_mo rfl in_X12 10 (by decide) t_855 rfl dX12_passesAll_93 ?_
  obtain ⟨r26, h27, hf⟩ := bd_some hf
  refine z_callV (Y2 := YX12_passOne) (CC := RX12) (T := TX12) (N := 39) (ci := 11) (As := [.int (σ24 73 10)]) C lk_X12_passOne (by decide) wc_mo rfl t_1016 t_1018 p_36 (Nat.le_of_ble_eq_true rfl) (Nat.le_of_ble_eq_true rfl) dX12_passesAll_96 (Nat.le_of_ble_eq_true rfl) rfl rfl (m_X12_passOne X.2.1 E N (σ24 73 10) σ24 _ h27) ?_
  change Zz E X YX12_passesAll (none, R) r26.2 _ _ [.int r26.1, .ref (E.2.1 73)]
  obtain ⟨σ28, h29, hf⟩ := nm_some hf
  refine z_put (T := TX12) (N := 39) (ci := 11) (ty := .int) C tyX12 tyX12_ok nmX12 (by decide) wc_mo rfl in_X12 10 (by decide) t_855 rfl rfl rfl rfl (Nat.le_of_ble_eq_true rfl) (pw_X12_10) dX12_passesAll_99 ?_
  rw [← h29]
  refine z_aload_n C dX12_passesAll_102 0 rfl ?_
  refine z_aload_n C dX12_passesAll_103 0 rfl ?_
  refine z_aload_n C dX12_passesAll_104 0 rfl ?_
  refine z_get (v := .int (σ28 73 11)) (T := TX12) (N := 39) (ci := 11) C (by decide) wc_mo rfl in_X12 11 (by decide) t_856 rfl dX12_passesAll_105 ?_
  obtain ⟨r30, h31, hf⟩ := bd_some hf
  refine z_callV (Y2 := YX12_passOne) (CC := RX12) (T := TX12) (N := 39) (ci := 11) (As := [.int (σ28 73 11)]) C lk_X12_passOne (by decide) wc_mo rfl t_1016 t_1018 p_36 (Nat.le_of_ble_eq_true rfl) (Nat.le_of_ble_eq_true rfl) dX12_passesAll_108 (Nat.le_of_ble_eq_true rfl) rfl rfl (m_X12_passOne X.2.1 E N (σ28 73 11) σ28 _ h31) ?_
  change Zz E X YX12_passesAll (none, R) r30.2 _ _ [.int r30.1, .ref (E.2.1 73)]
  obtain ⟨σ32, h33, hf⟩ := nm_some hf
  refine z_put (T := TX12) (N := 39) (ci := 11) (ty := .int) C tyX12 tyX12_ok nmX12 (by decide) wc_mo rfl in_X12 11 (by decide) t_856 rfl rfl rfl rfl (Nat.le_of_ble_eq_true rfl) (pw_X12_11) dX12_passesAll_111 ?_
  rw [← h33]
  refine z_aload_n C dX12_passesAll_114 0 rfl ?_
  refine z_aload_n C dX12_passesAll_115 0 rfl ?_
  refine z_aload_n C dX12_passesAll_116 0 rfl ?_
  refine z_get (v := .int (σ32 73 12)) (T := TX12) (N := 39) (ci := 11) C (by decide) wc_mo rfl in_X12 12 (by decide) t_857 rfl dX12_passesAll_117 ?_
  obtain ⟨r34, h35, hf⟩ := bd_some hf
  refine z_callV (Y2 := YX12_passOne) (CC := RX12) (T := TX12) (N := 39) (ci := 11) (As := [.int (σ32 73 12)]) C lk_X12_passOne (by decide) wc_mo rfl t_1016 t_1018 p_36 (Nat.le_of_ble_eq_true rfl) (Nat.le_of_ble_eq_true rfl) dX12_passesAll_120 (Nat.le_of_ble_eq_true rfl) rfl rfl (m_X12_passOne X.2.1 E N (σ32 73 12) σ32 _ h35) ?_
  change Zz E X YX12_passesAll (none, R) r34.2 _ _ [.int r34.1, .ref (E.2.1 73)]
  obtain ⟨σ36, h37, hf⟩ := nm_some hf
  refine z_put (T := TX12) (N := 39) (ci := 11) (ty := .int) C tyX12 tyX12_ok nmX12 (by decide) wc_mo rfl in_X12 12 (by decide) t_857 rfl rfl rfl rfl (Nat.le_of_ble_eq_true rfl) (pw_X12_12) dX12_passesAll_123 ?_
  rw [← h37]
  refine z_aload_n C dX12_passesAll_126 0 rfl ?_
  refine z_aload_n C dX12_passesAll_127 0 rfl ?_
  refine z_aload_n C dX12_passesAll_128 0 rfl ?_
  refine z_get (v := .int (σ36 73 13)) (T := TX12) (N := 39) (ci := 11) C (by decide) wc_mo rfl in_X12 13 (by decide) t_858 rfl dX12_passesAll_129 ?_
  obtain ⟨r38, h39, hf⟩ := bd_some hf
  refine z_callV (Y2 := YX12_passOne) (CC := RX12) (T := TX12) (N := 39) (ci := 11) (As := [.int (σ36 73 13)]) C lk_X12_passOne (by decide) wc_mo rfl t_1016 t_1018 p_36 (Nat.le_of_ble_eq_true rfl) (Nat.le_of_ble_eq_true rfl) dX12_passesAll_132 (Nat.le_of_ble_eq_true rfl) rfl rfl (m_X12_passOne X.2.1 E N (σ36 73 13) σ36 _ h39) ?_
  change Zz E X YX12_passesAll (none, R) r38.2 _ _ [.int r38.1, .ref (E.2.1 73)]
  obtain ⟨σ40, h41, hf⟩ := nm_some hf
  refine z_put (T := TX12) (N := 39) (ci := 11) (ty := .int) C tyX12 tyX12_ok nmX12 (by decide) wc_mo rfl in_X12 13 (by decide) t_858 rfl rfl rfl rfl (Nat.le_of_ble_eq_true rfl) (pw_X12_13) dX12_passesAll_135 ?_
  rw [← h41]
  refine z_aload_n C dX12_passesAll_138 0 rfl ?_
  refine z_aload_n C dX12_passesAll_139 0 rfl ?_
  refine z_aload_n C dX12_passesAll_140 0 rfl ?_
  refine z_get (v := .int (σ40 73 14)) (T := TX12) (N := 39) (ci := 11) C (by decide) wc_mo rfl in_X12 14 (by decide) t_859 rfl dX12_passesAll_141 ?_
  obtain ⟨r42, h43, hf⟩ := bd_some hf
  refine z_callV (Y2 := YX12_passOne) (CC := RX12) (T := TX12) (N := 39) (ci := 11) (As := [.int (σ40 73 14)]) C lk_X12_passOne (by decide) wc_mo rfl t_1016 t_1018 p_36 (Nat.le_of_ble_eq_true rfl) (Nat.le_of_ble_eq_true rfl) dX12_passesAll_144 (Nat.le_of_ble_eq_true rfl) rfl rfl (m_X12_passOne X.2.1 E N (σ40 73 14) σ40 _ h43) ?_
  change Zz E X YX12_passesAll (none, R) r42.2 _ _ [.int r42.1, .ref (E.2.1 73)]
  obtain ⟨σ44, h45, hf⟩ := nm_some hf
  refine z_put (T := TX12) (N := 39) (ci := 11) (ty := .int) C tyX12 tyX12_ok nmX12 (by decide) wc_mo rfl in_X12 14 (by decide) t_859 rfl rfl rfl rfl (Nat.le_of_ble_eq_true rfl) (pw_X12_14) dX12_passesAll_147 ?_
  rw [← h45]
  refine z_aload_n C dX12_passesAll_150 0 rfl ?_
  refine z_aload_n C dX12_passesAll_151 0 rfl ?_
  refine z_aload_n C dX12_passesAll_152 0 rfl ?_
  refine z_get (v := .int (σ44 73 15)) (T := TX12) (N := 39) (ci := 11) C (by decide) wc_mo rfl in_X12 15 (by decide) t_860 rfl dX12_passesAll_153 ?_
  obtain ⟨r46, h47, hf⟩ := bd_some hf
  refine z_callV (Y2 := YX12_passOne) (CC := RX12) (T := TX12) (N := 39) (ci := 11) (As := [.int (σ44 73 15)]) C lk_X12_passOne (by decide) wc_mo rfl t_1016 t_1018 p_36 (Nat.le_of_ble_eq_true rfl) (Nat.le_of_ble_eq_true rfl) dX12_passesAll_156 (Nat.le_of_ble_eq_true rfl) rfl rfl (m_X12_passOne X.2.1 E N (σ44 73 15) σ44 _ h47) ?_
  change Zz E X YX12_passesAll (none, R) r46.2 _ _ [.int r46.1, .ref (E.2.1 73)]
  obtain ⟨σ48, h49, hf⟩ := nm_some hf
  refine z_put (T := TX12) (N := 39) (ci := 11) (ty := .int) C tyX12 tyX12_ok nmX12 (by decide) wc_mo rfl in_X12 15 (by decide) t_860 rfl rfl rfl rfl (Nat.le_of_ble_eq_true rfl) (pw_X12_15) dX12_passesAll_159 ?_
  rw [← h49]
  refine z_aload_n C dX12_passesAll_162 0 rfl ?_
  refine z_aload_n C dX12_passesAll_163 0 rfl ?_
  refine z_aload_n C dX12_passesAll_164 0 rfl ?_
  refine z_get (v := .int (σ48 73 16)) (T := TX12) (N := 39) (ci := 11) C (by decide) wc_mo rfl in_X12 16 (by decide) t_861 rfl dX12_passesAll_165 ?_
  obtain ⟨r50, h51, hf⟩ := bd_some hf
  refine z_callV (Y2 := YX12_passOne) (CC := RX12) (T := TX12) (N := 39) (ci := 11) (As := [.int (σ48 73 16)]) C lk_X12_passOne (by decide) wc_mo rfl t_1016 t_1018 p_36 (Nat.le_of_ble_eq_true rfl) (Nat.le_of_ble_eq_true rfl) dX12_passesAll_168 (Nat.le_of_ble_eq_true rfl) rfl rfl (m_X12_passOne X.2.1 E N (σ48 73 16) σ48 _ h51) ?_
  change Zz E X YX12_passesAll (none, R) r50.2 _ _ [.int r50.1, .ref (E.2.1 73)]
  obtain ⟨σ52, h53, hf⟩ := nm_some hf
  refine z_put (T := TX12) (N := 39) (ci := 11) (ty := .int) C tyX12 tyX12_ok nmX12 (by decide) wc_mo rfl in_X12 16 (by decide) t_861 rfl rfl rfl rfl (Nat.le_of_ble_eq_true rfl) (pw_X12_16) dX12_passesAll_171 ?_
  rw [← h53]
  exact z_vret C dX12_passesAll_174 rfl (by rw [← Option.some.inj hf])
theorem lk_X12_passesAll {Y : Yv} : Lk Y YX12_passesAll 2 := ⟨t_1011, t_13, ⟨by decide +kernel, by decide +kernel⟩, by decide +kernel⟩
abbrev YX12_parish : Yv := (yX12_parish, cX12_parish, 3, some .int, 4, 88)
def f_X12_parish_J53 (N : Nat) (rec : Int32 → Sg → Option (Int32 × Sg)) (a1 b0 b1 : Int32) (σ : Sg) : Option (Int32 × Sg) :=
  nm (sgs σ 73 27 (b1 + b0)) (fun σ10 => rec a1 σ10)
def f_X12_parish_J34 (N : Nat) (rec : Int32 → Sg → Option (Int32 × Sg)) (σ : Sg) : Option (Int32 × Sg) :=
  (f_X12_statement N σ).bind (fun r7 => if r7.1 = 0 then (f_X12_parish_J53 N rec r7.1 0 (r7.2 73 27) r7.2) else (f_X12_parish_J53 N rec r7.1 1 (r7.2 73 27) r7.2))
def f_X12_parish_B12 (N : Nat) (rec : Int32 → Sg → Option (Int32 × Sg)) (a1 : Int32) (σ : Sg) : Option (Int32 × Sg) :=
  if a1 = 0 then (some (a1, σ)) else (if (σ 73 26) < (σ 73 25) then (f_X12_parish_J34 N rec σ) else (if (σ 73 27) = 0 then (f_X12_parish_J34 N rec σ) else (some (a1, σ))))
def f_X12_parish_L12 (N : Nat) : Nat → Int32 → Sg → Option (Int32 × Sg)
  | 0 => fun _ _ => none
  | k + 1 => fun a1 σ => f_X12_parish_B12 N (f_X12_parish_L12 N k) a1 σ
def f_X12_parish_B86 (N : Nat) (rec : Int32 → Sg → Option ((Sg) ⊕ (Int32 × Sg))) (a2 : Int32) (σ : Sg) : Option ((Sg) ⊕ (Int32 × Sg)) :=
  if (σ 73 27) ≤ a2 then (some (.inl σ)) else ((f_X12_comes N a2 σ).bind (fun r20 => if r20.1 = 0 then ((f_X12_passesAll N 1 0 r20.2).bind (fun r23 => ga a2 32 (some (.inr ((((-2000) : Int32) - (r23 85 (Int32.toNatClampNeg a2))), r23))))) else (rec (a2 + 1) r20.2)))
def f_X12_parish_L86 (N : Nat) : Nat → Int32 → Sg → Option ((Sg) ⊕ (Int32 × Sg))
  | 0 => fun _ _ => none
  | k + 1 => fun a2 σ => f_X12_parish_B86 N (f_X12_parish_L86 N k) a2 σ
def f_X12_parish (N : Nat) (σ : Sg) : Option (Int32 × Sg) :=
  nm (sgs σ 73 26 0) (fun σ1 => nm (sgs σ1 73 27 0) (fun σ3 => (f_X12_parish_L12 N N 1 σ3).bind (fun s13 => nm (sgs s13.2 73 25 0) (fun σ14 => if s13.1 = 0 then (some ((((-1000) : Int32) - (σ14 73 26)), σ14)) else ((f_X12_passesAll N 1 1 σ14).bind (fun r17 => ex1 (f_X12_parish_L86 N N 0 r17) (fun s26 => some ((s26 73 27), s26)) (fun r27 => some r27)))))))
set_option maxHeartbeats 4000000 in
set_option maxRecDepth 20000 in
theorem m_X12_parish (l : Launch) (E : Ev) (N : Nat) (σ : Sg) (R : Int32 × Sg) (hf : f_X12_parish N σ = some R) : Ct l E YX12_parish [.ref (E.2.1 73)] σ (some (.int R.1), R.2) := by
  refine ct_of (by decide +kernel) (Nat.le_of_ble_eq_true rfl) [(0, .ref (E.2.1 73))] rfl (fun X hX C => ?_)
  have hL12 : ∀ (k : Nat) (a1 : Int32) (σ : Sg) (Q12 : Int32 × Sg), f_X12_parish_L12 N k a1 σ = some Q12 → (Zz E X YX12_parish (some (.int R.1), R.2) Q12.2 60 [(0, .ref (E.2.1 73)), (1, .int Q12.1)] []) → Zz E X YX12_parish (some (.int R.1), R.2) σ 12 [(0, .ref (E.2.1 73)), (1, .int a1)] [] := by
    intro k
    induction k with
    | zero =>
      intro a1 σ Q12 hf
      have hf : (none : Option (Int32 × Sg)) = some Q12 := hf
      cases hf
    | succ k ih =>
      intro a1 σ Q12 hf hx12
      have hf : f_X12_parish_B12 N (f_X12_parish_L12 N k) a1 σ = some Q12 := hf
      have hJ53 : ∀ (a1 b0 b1 : Int32) (σ : Sg), f_X12_parish_J53 N (f_X12_parish_L12 N k) a1 b0 b1 σ = some Q12 → Zz E X YX12_parish (some (.int R.1), R.2) σ 53 [(0, .ref (E.2.1 73)), (1, .int a1)] [.int b0, .int b1, .ref (E.2.1 73)] := by
        intro a1 b0 b1 σ hf
        unfold f_X12_parish_J53 at hf
        refine z_iadd C dX12_parish_53 ?_
        obtain ⟨σ10, h11, hf⟩ := nm_some hf
        refine z_put (T := TX12) (N := 39) (ci := 11) (ty := .int) C tyX12 tyX12_ok nmX12 (by decide) wc_mo rfl in_X12 27 (by decide) t_872 rfl rfl rfl rfl (Nat.le_of_ble_eq_true rfl) (pw_X12_27) dX12_parish_54 ?_
        rw [← h11]
        refine z_goto (tgt := 12) C dX12_parish_57 (by decide) ?_
        refine z_sub [(0, .ref (E.2.1 73)), (1, .int a1)] [0, 1] rfl ?_
        exact ih a1 σ10 _ hf hx12
      have hJ34 : ∀ (σ : Sg), f_X12_parish_J34 N (f_X12_parish_L12 N k) σ = some Q12 → Zz E X YX12_parish (some (.int R.1), R.2) σ 34 [(0, .ref (E.2.1 73))] [] := by
        intro σ hf
        unfold f_X12_parish_J34 at hf
        refine z_aload_n C dX12_parish_34 0 rfl ?_
        obtain ⟨r7, h8, hf⟩ := bd_some hf
        refine z_callV (Y2 := YX12_statement) (CC := RX12) (T := TX12) (N := 39) (ci := 11) (As := []) C lk_X12_statement (by decide) wc_mo rfl t_978 t_980 p_28 (Nat.le_of_ble_eq_true rfl) (Nat.le_of_ble_eq_true rfl) dX12_parish_35 (Nat.le_of_ble_eq_true rfl) rfl rfl (m_X12_statement X.2.1 E N σ _ h8) ?_
        change Zz E X YX12_parish (some (.int R.1), R.2) r7.2 _ _ [.int r7.1]
        refine z_istore_n (lv' := [(1, .int r7.1), (0, .ref (E.2.1 73))]) C dX12_parish_38 (by decide) rfl ?_
        refine z_aload_n C dX12_parish_39 1 rfl ?_
        refine z_dup C dX12_parish_40 rfl ?_
        refine z_get (v := .int (r7.2 73 27)) (T := TX12) (N := 39) (ci := 11) C (by decide) wc_mo rfl in_X12 27 (by decide) t_872 rfl dX12_parish_41 ?_
        refine z_iload_n C dX12_parish_44 0 rfl ?_
        refine z_if_eq (tgt := 52) C dX12_parish_45 (by decide) (fun h9 => ?_) (fun h9 => ?_)
        · replace hf := ifp hf h9
          refine z_iconst (v := 0) C dX12_parish_52 (by decide) ?_
          refine z_sub [(0, .ref (E.2.1 73)), (1, .int r7.1)] [1, 0] rfl ?_
          exact hJ53 r7.1 0 (r7.2 73 27) r7.2 hf
        · replace hf := ifn hf h9
          refine z_iconst (v := 1) C dX12_parish_48 (by decide) ?_
          refine z_goto (tgt := 53) C dX12_parish_49 (by decide) ?_
          refine z_sub [(0, .ref (E.2.1 73)), (1, .int r7.1)] [1, 0] rfl ?_
          exact hJ53 r7.1 1 (r7.2 73 27) r7.2 hf
      unfold f_X12_parish_B12 at hf
      refine z_iload_n C dX12_parish_12 1 rfl ?_
      refine z_if_eq (tgt := 60) C dX12_parish_13 (by decide) (fun h5 => ?_) (fun h5 => ?_)
      · replace hf := ifp hf h5
        refine z_sub [(0, .ref (E.2.1 73)), (1, .int a1)] [0, 1] rfl ?_
        obtain rfl := Option.some.inj hf
        exact hx12
      · replace hf := ifn hf h5
        refine z_aload_n C dX12_parish_16 0 rfl ?_
        refine z_get (v := .int (σ 73 26)) (T := TX12) (N := 39) (ci := 11) C (by decide) wc_mo rfl in_X12 26 (by decide) t_871 rfl dX12_parish_17 ?_
        refine z_aload_n C dX12_parish_20 0 rfl ?_
        refine z_get (v := .int (σ 73 25)) (T := TX12) (N := 39) (ci := 11) C (by decide) wc_mo rfl in_X12 25 (by decide) t_870 rfl dX12_parish_21 ?_
        refine z_icmp_lt (tgt := 34) C dX12_parish_24 (by decide) (fun h6 => ?_) (fun h6 => ?_)
        · replace hf := ifp hf h6
          refine z_sub [(0, .ref (E.2.1 73))] [0] rfl ?_
          exact hJ34 σ hf
        · replace hf := ifn hf h6
          refine z_aload_n C dX12_parish_27 0 rfl ?_
          refine z_get (v := .int (σ 73 27)) (T := TX12) (N := 39) (ci := 11) C (by decide) wc_mo rfl in_X12 27 (by decide) t_872 rfl dX12_parish_28 ?_
          refine z_if_ne (tgt := 60) C dX12_parish_31 (by decide) (fun h12 => ?_) (fun h12 => ?_)
          · replace hf := ifn hf h12
            refine z_sub [(0, .ref (E.2.1 73)), (1, .int a1)] [0, 1] rfl ?_
            obtain rfl := Option.some.inj hf
            exact hx12
          · replace hf := ifp hf h12
            refine z_sub [(0, .ref (E.2.1 73))] [0] rfl ?_
            exact hJ34 σ hf
  have hL86 : ∀ (k : Nat) (a2 : Int32) (σ : Sg) (Q86 : (Sg) ⊕ (Int32 × Sg)), f_X12_parish_L86 N k a2 σ = some Q86 → (∀ S, Q86 = .inl S → Zz E X YX12_parish (some (.int R.1), R.2) S 128 [(0, .ref (E.2.1 73))] []) → (∀ r, Q86 = .inr r → ((some (.int R.1), R.2) : Pv) = (some (.int r.1), r.2)) → Zz E X YX12_parish (some (.int R.1), R.2) σ 86 [(0, .ref (E.2.1 73)), (2, .int a2)] [] := by
    intro k
    induction k with
    | zero =>
      intro a2 σ Q86 hf
      have hf : (none : Option ((Sg) ⊕ (Int32 × Sg))) = some Q86 := hf
      cases hf
    | succ k ih =>
      intro a2 σ Q86 hf hx86 hr86
      have hf : f_X12_parish_B86 N (f_X12_parish_L86 N k) a2 σ = some Q86 := hf
      unfold f_X12_parish_B86 at hf
      refine z_iload_n C dX12_parish_86 1 rfl ?_
      refine z_aload_n C dX12_parish_87 0 rfl ?_
      refine z_get (v := .int (σ 73 27)) (T := TX12) (N := 39) (ci := 11) C (by decide) wc_mo rfl in_X12 27 (by decide) t_872 rfl dX12_parish_88 ?_
      refine z_icmp_ge (tgt := 128) C dX12_parish_91 (by decide) (fun h19 => ?_) (fun h19 => ?_)
      · replace hf := ifp hf h19
        refine z_sub [(0, .ref (E.2.1 73))] [0] rfl ?_
        exact hx86 _ (Option.some.inj hf).symm
      · replace hf := ifn hf h19
        refine z_aload_n C dX12_parish_94 0 rfl ?_
        refine z_iload_n C dX12_parish_95 1 rfl ?_
        obtain ⟨r20, h21, hf⟩ := bd_some hf
        refine z_callV (Y2 := YX12_comes) (CC := RX12) (T := TX12) (N := 39) (ci := 11) (As := [.int a2]) C lk_X12_comes (by decide) wc_mo rfl t_1020 t_1022 p_37 (Nat.le_of_ble_eq_true rfl) (Nat.le_of_ble_eq_true rfl) dX12_parish_96 (Nat.le_of_ble_eq_true rfl) rfl rfl (m_X12_comes X.2.1 E N a2 σ _ h21) ?_
        change Zz E X YX12_parish (some (.int R.1), R.2) r20.2 _ _ [.int r20.1]
        refine z_if_eq (tgt := 105) C dX12_parish_99 (by decide) (fun h22 => ?_) (fun h22 => ?_)
        · replace hf := ifp hf h22
          refine z_aload_n C dX12_parish_105 0 rfl ?_
          refine z_iconst (v := 1) C dX12_parish_106 (by decide) ?_
          refine z_iconst (v := 0) C dX12_parish_107 (by decide) ?_
          obtain ⟨r23, h24, hf⟩ := bd_some hf
          refine z_callV (Y2 := YX12_passesAll) (CC := RX12) (T := TX12) (N := 39) (ci := 11) (As := [.int 1, .int 0]) C lk_X12_passesAll (by decide) wc_mo rfl t_1008 t_1010 p_34 (Nat.le_of_ble_eq_true rfl) (Nat.le_of_ble_eq_true rfl) dX12_parish_108 (Nat.le_of_ble_eq_true rfl) rfl rfl (m_X12_passesAll X.2.1 E N 1 0 r20.2 _ h24) ?_
          change Zz E X YX12_parish (some (.int R.1), R.2) r23 _ _ []
          refine z_sipush (v := (-2000)) C dX12_parish_111 (by decide) ?_
          refine z_aload_n C dX12_parish_114 0 rfl ?_
          refine z_get (v := .ref (E.2.1 85)) (T := TX12) (N := 39) (ci := 11) C (by decide) wc_mo rfl in_X12 19 (by decide) t_864 rfl dX12_parish_115 ?_
          refine z_iload_n C dX12_parish_118 1 rfl ?_
          obtain ⟨h25, hf⟩ := ga_some hf
          refine z_iald C ka_85 h25 dX12_parish_119 ?_
          refine z_isub C dX12_parish_120 ?_
          have hq := hr86 _ (Option.some.inj hf).symm
          exact z_iret C dX12_parish_121 rfl hq
        · replace hf := ifn hf h22
          refine z_goto (tgt := 122) C dX12_parish_102 (by decide) ?_
          refine z_iinc (v := (a2 + 1)) (lv' := [(2, .int (a2 + 1)), (0, .ref (E.2.1 73))]) C dX12_parish_122 1 rfl rfl (by decide) rfl ?_
          refine z_goto (tgt := 86) C dX12_parish_125 (by decide) ?_
          refine z_sub [(0, .ref (E.2.1 73)), (2, .int (a2 + 1))] [1, 0] rfl ?_
          exact ih (a2 + 1) r20.2 _ hf hx86 hr86
  unfold f_X12_parish at hf
  refine z_aload_n C dX12_parish_0 0 rfl ?_
  refine z_iconst (v := 0) C dX12_parish_1 (by decide) ?_
  obtain ⟨σ1, h2, hf⟩ := nm_some hf
  refine z_put (T := TX12) (N := 39) (ci := 11) (ty := .int) C tyX12 tyX12_ok nmX12 (by decide) wc_mo rfl in_X12 26 (by decide) t_871 rfl rfl rfl rfl (Nat.le_of_ble_eq_true rfl) (pw_X12_26) dX12_parish_2 ?_
  rw [← h2]
  refine z_aload_n C dX12_parish_5 0 rfl ?_
  refine z_iconst (v := 0) C dX12_parish_6 (by decide) ?_
  obtain ⟨σ3, h4, hf⟩ := nm_some hf
  refine z_put (T := TX12) (N := 39) (ci := 11) (ty := .int) C tyX12 tyX12_ok nmX12 (by decide) wc_mo rfl in_X12 27 (by decide) t_872 rfl rfl rfl rfl (Nat.le_of_ble_eq_true rfl) (pw_X12_27) dX12_parish_7 ?_
  rw [← h4]
  refine z_iconst (v := 1) C dX12_parish_10 (by decide) ?_
  refine z_istore_n (lv' := [(1, .int 1), (0, .ref (E.2.1 73))]) C dX12_parish_11 (by decide) rfl ?_
  refine z_sub [(0, .ref (E.2.1 73)), (1, .int 1)] [1, 0] rfl ?_
  obtain ⟨s13, h29, hf⟩ := bd_some hf
  refine hL12 N 1 σ3 _ h29 ?_
  refine z_aload_n C dX12_parish_60 0 rfl ?_
  refine z_iconst (v := 0) C dX12_parish_61 (by decide) ?_
  obtain ⟨σ14, h15, hf⟩ := nm_some hf
  refine z_put (T := TX12) (N := 39) (ci := 11) (ty := .int) C tyX12 tyX12_ok nmX12 (by decide) wc_mo rfl in_X12 25 (by decide) t_870 rfl rfl rfl rfl (Nat.le_of_ble_eq_true rfl) (pw_X12_25) dX12_parish_62 ?_
  rw [← h15]
  refine z_iload_n C dX12_parish_65 1 rfl ?_
  refine z_if_ne (tgt := 78) C dX12_parish_66 (by decide) (fun h16 => ?_) (fun h16 => ?_)
  · replace hf := ifn hf h16
    refine z_aload_n C dX12_parish_78 0 rfl ?_
    refine z_iconst (v := 1) C dX12_parish_79 (by decide) ?_
    refine z_iconst (v := 1) C dX12_parish_80 (by decide) ?_
    obtain ⟨r17, h18, hf⟩ := bd_some hf
    refine z_callV (Y2 := YX12_passesAll) (CC := RX12) (T := TX12) (N := 39) (ci := 11) (As := [.int 1, .int 1]) C lk_X12_passesAll (by decide) wc_mo rfl t_1008 t_1010 p_34 (Nat.le_of_ble_eq_true rfl) (Nat.le_of_ble_eq_true rfl) dX12_parish_81 (Nat.le_of_ble_eq_true rfl) rfl rfl (m_X12_passesAll X.2.1 E N 1 1 σ14 _ h18) ?_
    change Zz E X YX12_parish (some (.int R.1), R.2) r17 _ _ []
    refine z_iconst (v := 0) C dX12_parish_84 (by decide) ?_
    refine z_istore_n (lv' := [(2, .int 0), (0, .ref (E.2.1 73)), (1, .int s13.1)]) C dX12_parish_85 (by decide) rfl ?_
    refine z_sub [(0, .ref (E.2.1 73)), (2, .int 0)] [1, 0] rfl ?_
    rcases ex1_some hf with ⟨s26, h28, hf⟩ | ⟨r27, h28, hf⟩
    · refine hL86 N 0 r17 _ h28 (fun S e => ?_) (fun _ e => nomatch e)
      cases e
      refine z_aload_n C dX12_parish_128 0 rfl ?_
      refine z_get (v := .int (s26 73 27)) (T := TX12) (N := 39) (ci := 11) C (by decide) wc_mo rfl in_X12 27 (by decide) t_872 rfl dX12_parish_129 ?_
      exact z_iret C dX12_parish_132 rfl (by rw [← Option.some.inj hf])
    · refine hL86 N 0 r17 _ h28 (fun _ e => nomatch e) (fun r e => ?_)
      cases e
      exact (by rw [← Option.some.inj hf])
  · replace hf := ifp hf h16
    refine z_sipush (v := (-1000)) C dX12_parish_69 (by decide) ?_
    refine z_aload_n C dX12_parish_72 0 rfl ?_
    refine z_get (v := .int (σ14 73 26)) (T := TX12) (N := 39) (ci := 11) C (by decide) wc_mo rfl in_X12 26 (by decide) t_871 rfl dX12_parish_73 ?_
    refine z_isub C dX12_parish_76 ?_
    exact z_iret C dX12_parish_77 rfl (by rw [← Option.some.inj hf])
theorem lk_X12_parish {Y : Yv} : Lk Y YX12_parish 0 := ⟨t_977, t_13, ⟨by decide +kernel, by decide +kernel⟩, by decide +kernel⟩
abbrev YX12_keeps : Yv := (yX12_keeps, cX12_keeps, 3, none, 0, 0)
def f_X12_keeps_B2 (N : Nat) (rec : Int32 → Int32 → Sg → Option (Sg)) (a1 a2 : Int32) (σ : Sg) : Option (Sg) :=
  if 24 ≤ a2 then (some σ) else (ga a2 24 (ga (((24 : Int32) * a1) + a2) 120 (nm (sgs σ 92 (Int32.toNatClampNeg (((24 : Int32) * a1) + a2)) (σ 75 (Int32.toNatClampNeg a2))) (fun σ4 => rec a1 (a2 + 1) σ4))))
def f_X12_keeps_L2 (N : Nat) : Nat → Int32 → Int32 → Sg → Option (Sg)
  | 0 => fun _ _ _ => none
  | k + 1 => fun a1 a2 σ => f_X12_keeps_B2 N (f_X12_keeps_L2 N k) a1 a2 σ
def f_X12_keeps (N : Nat) (x1 : Int32) (σ : Sg) : Option (Sg) :=
  (f_X12_keeps_L2 N N x1 0 σ).bind (fun s6 => some s6)
set_option maxHeartbeats 4000000 in
set_option maxRecDepth 20000 in
theorem m_X12_keeps (l : Launch) (E : Ev) (N : Nat) (x1 : Int32) (σ : Sg) (R : Sg) (hf : f_X12_keeps N x1 σ = some R) : Ct l E YX12_keeps [.ref (E.2.1 73), .int x1] σ (none, R) := by
  refine ct_of (by decide +kernel) (Nat.le_of_ble_eq_true rfl) [(0, .ref (E.2.1 73)), (1, .int x1)] rfl (fun X hX C => ?_)
  have hL2 : ∀ (k : Nat) (a1 a2 : Int32) (σ : Sg) (Q2 : Sg), f_X12_keeps_L2 N k a1 a2 σ = some Q2 → (Zz E X YX12_keeps (none, R) Q2 31 [] []) → Zz E X YX12_keeps (none, R) σ 2 [(0, .ref (E.2.1 73)), (1, .int a1), (2, .int a2)] [] := by
    intro k
    induction k with
    | zero =>
      intro a1 a2 σ Q2 hf
      have hf : (none : Option (Sg)) = some Q2 := hf
      cases hf
    | succ k ih =>
      intro a1 a2 σ Q2 hf hx2
      have hf : f_X12_keeps_B2 N (f_X12_keeps_L2 N k) a1 a2 σ = some Q2 := hf
      unfold f_X12_keeps_B2 at hf
      refine z_iload_n C dX12_keeps_2 2 rfl ?_
      refine z_bipush (v := 24) C dX12_keeps_3 (by decide) ?_
      refine z_icmp_ge (tgt := 31) C dX12_keeps_5 (by decide) (fun h1 => ?_) (fun h1 => ?_)
      · replace hf := ifp hf h1
        refine z_sub [] [] rfl ?_
        obtain rfl := Option.some.inj hf
        exact hx2
      · replace hf := ifn hf h1
        refine z_aload_n C dX12_keeps_8 0 rfl ?_
        refine z_get (v := .ref (E.2.1 92)) (T := TX12) (N := 39) (ci := 11) C (by decide) wc_mo rfl in_X12 29 (by decide) t_874 rfl dX12_keeps_9 ?_
        refine z_bipush (v := 24) C dX12_keeps_12 (by decide) ?_
        refine z_iload_n C dX12_keeps_14 1 rfl ?_
        refine z_imul C dX12_keeps_15 ?_
        refine z_iload_n C dX12_keeps_16 2 rfl ?_
        refine z_iadd C dX12_keeps_17 ?_
        refine z_aload_n C dX12_keeps_18 0 rfl ?_
        refine z_get (v := .ref (E.2.1 75)) (T := TX12) (N := 39) (ci := 11) C (by decide) wc_mo rfl in_X12 1 (by decide) t_846 rfl dX12_keeps_19 ?_
        refine z_iload_n C dX12_keeps_22 2 rfl ?_
        obtain ⟨h2, hf⟩ := ga_some hf
        refine z_iald C ka_75 h2 dX12_keeps_23 ?_
        obtain ⟨h3, hf⟩ := ga_some hf
        obtain ⟨σ4, h5, hf⟩ := nm_some hf
        refine z_iast C ka_92 h3 dX12_keeps_24 ?_
        rw [← h5]
        refine z_iinc (v := (a2 + 1)) (lv' := [(2, .int (a2 + 1)), (0, .ref (E.2.1 73)), (1, .int a1)]) C dX12_keeps_25 2 rfl rfl (by decide) rfl ?_
        refine z_goto (tgt := 2) C dX12_keeps_28 (by decide) ?_
        refine z_sub [(0, .ref (E.2.1 73)), (1, .int a1), (2, .int (a2 + 1))] [1, 2, 0] rfl ?_
        exact ih a1 (a2 + 1) σ4 _ hf hx2
  unfold f_X12_keeps at hf
  refine z_iconst (v := 0) C dX12_keeps_0 (by decide) ?_
  refine z_istore_n (lv' := [(2, .int 0), (0, .ref (E.2.1 73)), (1, .int x1)]) C dX12_keeps_1 (by decide) rfl ?_
  refine z_sub [(0, .ref (E.2.1 73)), (1, .int x1), (2, .int 0)] [1, 2, 0] rfl ?_
  obtain ⟨s6, h7, hf⟩ := bd_some hf
  refine hL2 N x1 0 σ _ h7 ?_
  exact z_vret C dX12_keeps_31 rfl (by rw [← Option.some.inj hf])
theorem lk_X12_keeps {Y : Yv} : Lk Y YX12_keeps 1 := ⟨t_1143, t_13, ⟨by decide +kernel, by decide +kernel⟩, by decide +kernel⟩
abbrev YX12_putsBack : Yv := (yX12_putsBack, cX12_putsBack, 3, none, 0, 0)
def f_X12_putsBack_B2 (N : Nat) (rec : Int32 → Int32 → Sg → Option (Sg)) (a1 a2 : Int32) (σ : Sg) : Option (Sg) :=
  if 24 ≤ a2 then (some σ) else (ga (((24 : Int32) * a1) + a2) 120 (ga a2 24 (nm (sgs σ 75 (Int32.toNatClampNeg a2) (σ 92 (Int32.toNatClampNeg (((24 : Int32) * a1) + a2)))) (fun σ4 => rec a1 (a2 + 1) σ4))))
def f_X12_putsBack_L2 (N : Nat) : Nat → Int32 → Int32 → Sg → Option (Sg)
  | 0 => fun _ _ _ => none
  | k + 1 => fun a1 a2 σ => f_X12_putsBack_B2 N (f_X12_putsBack_L2 N k) a1 a2 σ
def f_X12_putsBack (N : Nat) (x1 : Int32) (σ : Sg) : Option (Sg) :=
  (f_X12_putsBack_L2 N N x1 0 σ).bind (fun s6 => some s6)
set_option maxHeartbeats 4000000 in
set_option maxRecDepth 20000 in
theorem m_X12_putsBack (l : Launch) (E : Ev) (N : Nat) (x1 : Int32) (σ : Sg) (R : Sg) (hf : f_X12_putsBack N x1 σ = some R) : Ct l E YX12_putsBack [.ref (E.2.1 73), .int x1] σ (none, R) := by
  refine ct_of (by decide +kernel) (Nat.le_of_ble_eq_true rfl) [(0, .ref (E.2.1 73)), (1, .int x1)] rfl (fun X hX C => ?_)
  have hL2 : ∀ (k : Nat) (a1 a2 : Int32) (σ : Sg) (Q2 : Sg), f_X12_putsBack_L2 N k a1 a2 σ = some Q2 → (Zz E X YX12_putsBack (none, R) Q2 31 [] []) → Zz E X YX12_putsBack (none, R) σ 2 [(0, .ref (E.2.1 73)), (1, .int a1), (2, .int a2)] [] := by
    intro k
    induction k with
    | zero =>
      intro a1 a2 σ Q2 hf
      have hf : (none : Option (Sg)) = some Q2 := hf
      cases hf
    | succ k ih =>
      intro a1 a2 σ Q2 hf hx2
      have hf : f_X12_putsBack_B2 N (f_X12_putsBack_L2 N k) a1 a2 σ = some Q2 := hf
      unfold f_X12_putsBack_B2 at hf
      refine z_iload_n C dX12_putsBack_2 2 rfl ?_
      refine z_bipush (v := 24) C dX12_putsBack_3 (by decide) ?_
      refine z_icmp_ge (tgt := 31) C dX12_putsBack_5 (by decide) (fun h1 => ?_) (fun h1 => ?_)
      · replace hf := ifp hf h1
        refine z_sub [] [] rfl ?_
        obtain rfl := Option.some.inj hf
        exact hx2
      · replace hf := ifn hf h1
        refine z_aload_n C dX12_putsBack_8 0 rfl ?_
        refine z_get (v := .ref (E.2.1 75)) (T := TX12) (N := 39) (ci := 11) C (by decide) wc_mo rfl in_X12 1 (by decide) t_846 rfl dX12_putsBack_9 ?_
        refine z_iload_n C dX12_putsBack_12 2 rfl ?_
        refine z_aload_n C dX12_putsBack_13 0 rfl ?_
        refine z_get (v := .ref (E.2.1 92)) (T := TX12) (N := 39) (ci := 11) C (by decide) wc_mo rfl in_X12 29 (by decide) t_874 rfl dX12_putsBack_14 ?_
        refine z_bipush (v := 24) C dX12_putsBack_17 (by decide) ?_
        refine z_iload_n C dX12_putsBack_19 1 rfl ?_
        refine z_imul C dX12_putsBack_20 ?_
        refine z_iload_n C dX12_putsBack_21 2 rfl ?_
        refine z_iadd C dX12_putsBack_22 ?_
        obtain ⟨h2, hf⟩ := ga_some hf
        refine z_iald C ka_92 h2 dX12_putsBack_23 ?_
        obtain ⟨h3, hf⟩ := ga_some hf
        obtain ⟨σ4, h5, hf⟩ := nm_some hf
        refine z_iast C ka_75 h3 dX12_putsBack_24 ?_
        rw [← h5]
        refine z_iinc (v := (a2 + 1)) (lv' := [(2, .int (a2 + 1)), (0, .ref (E.2.1 73)), (1, .int a1)]) C dX12_putsBack_25 2 rfl rfl (by decide) rfl ?_
        refine z_goto (tgt := 2) C dX12_putsBack_28 (by decide) ?_
        refine z_sub [(0, .ref (E.2.1 73)), (1, .int a1), (2, .int (a2 + 1))] [1, 2, 0] rfl ?_
        exact ih a1 (a2 + 1) σ4 _ hf hx2
  unfold f_X12_putsBack at hf
  refine z_iconst (v := 0) C dX12_putsBack_0 (by decide) ?_
  refine z_istore_n (lv' := [(2, .int 0), (0, .ref (E.2.1 73)), (1, .int x1)]) C dX12_putsBack_1 (by decide) rfl ?_
  refine z_sub [(0, .ref (E.2.1 73)), (1, .int x1), (2, .int 0)] [1, 2, 0] rfl ?_
  obtain ⟨s6, h7, hf⟩ := bd_some hf
  refine hL2 N x1 0 σ _ h7 ?_
  exact z_vret C dX12_putsBack_31 rfl (by rw [← Option.some.inj hf])
theorem lk_X12_putsBack {Y : Yv} : Lk Y YX12_putsBack 1 := ⟨t_1151, t_13, ⟨by decide +kernel, by decide +kernel⟩, by decide +kernel⟩
abbrev YX12_scoreOf : Yv := (yX12_scoreOf, cX12_scoreOf, 7, some .int, 1, 23)
def f_X12_scoreOf_J47 (N : Nat) (rec : Int32 → Int32 → Int32 → Int32 → Sg → Option (Int32 × Sg)) (a1 a2 a3 a4 a5 a6 : Int32) (σ : Sg) : Option (Int32 × Sg) :=
  rec a1 a2 (a3 + (a5 * a6)) (a4 + 1) σ
def f_X12_scoreOf_B5 (N : Nat) (rec : Int32 → Int32 → Int32 → Int32 → Sg → Option (Int32 × Sg)) (a1 a2 a3 a4 : Int32) (σ : Sg) : Option (Int32 × Sg) :=
  if 4 ≤ a4 then (some (a3, σ)) else ((f_X12_amount N a2 a4 σ).bind (fun r2 => ga (((4 : Int32) * a1) + a4) 24 (nm (r2.2 75 (Int32.toNatClampNeg (((4 : Int32) * a1) + a4))) (fun v5 => if (r2.2 73 11) = 0 then (f_X12_scoreOf_J47 N rec a1 a2 a3 a4 r2.1 v5 r2.2) else (if (r2.2 73 11) = 3 then (f_X12_scoreOf_J47 N rec a1 a2 a3 a4 r2.1 v5 r2.2) else (if (r2.2 73 11) = 2 then (if r2.1 ≤ 0 then (rec a1 a2 a3 (a4 + 1) r2.2) else (if v5 ≤ a3 then (rec a1 a2 a3 (a4 + 1) r2.2) else (rec a1 a2 v5 (a4 + 1) r2.2))) else (if v5 ≤ r2.1 then (rec a1 a2 (a3 + v5) (a4 + 1) r2.2) else (rec a1 a2 (a3 + r2.1) (a4 + 1) r2.2))))))))
def f_X12_scoreOf_L5 (N : Nat) : Nat → Int32 → Int32 → Int32 → Int32 → Sg → Option (Int32 × Sg)
  | 0 => fun _ _ _ _ _ => none
  | k + 1 => fun a1 a2 a3 a4 σ => f_X12_scoreOf_B5 N (f_X12_scoreOf_L5 N k) a1 a2 a3 a4 σ
def f_X12_scoreOf (N : Nat) (x1 x2 : Int32) (σ : Sg) : Option (Int32 × Sg) :=
  (f_X12_scoreOf_L5 N N x1 x2 0 0 σ).bind (fun s13 => some (s13.1, s13.2))
set_option maxHeartbeats 4000000 in
set_option maxRecDepth 20000 in
theorem m_X12_scoreOf (l : Launch) (E : Ev) (N : Nat) (x1 x2 : Int32) (σ : Sg) (R : Int32 × Sg) (hf : f_X12_scoreOf N x1 x2 σ = some R) : Ct l E YX12_scoreOf [.ref (E.2.1 73), .int x1, .int x2] σ (some (.int R.1), R.2) := by
  refine ct_of (by decide +kernel) (Nat.le_of_ble_eq_true rfl) [(0, .ref (E.2.1 73)), (1, .int x1), (2, .int x2)] rfl (fun X hX C => ?_)
  have hL5 : ∀ (k : Nat) (a1 a2 a3 a4 : Int32) (σ : Sg) (Q5 : Int32 × Sg), f_X12_scoreOf_L5 N k a1 a2 a3 a4 σ = some Q5 → (Zz E X YX12_scoreOf (some (.int R.1), R.2) Q5.2 110 [(3, .int Q5.1)] []) → Zz E X YX12_scoreOf (some (.int R.1), R.2) σ 5 [(0, .ref (E.2.1 73)), (1, .int a1), (2, .int a2), (3, .int a3), (4, .int a4)] [] := by
    intro k
    induction k with
    | zero =>
      intro a1 a2 a3 a4 σ Q5 hf
      have hf : (none : Option (Int32 × Sg)) = some Q5 := hf
      cases hf
    | succ k ih =>
      intro a1 a2 a3 a4 σ Q5 hf hx5
      have hf : f_X12_scoreOf_B5 N (f_X12_scoreOf_L5 N k) a1 a2 a3 a4 σ = some Q5 := hf
      have hJ47 : ∀ (a1 a2 a3 a4 a5 a6 : Int32) (σ : Sg), f_X12_scoreOf_J47 N (f_X12_scoreOf_L5 N k) a1 a2 a3 a4 a5 a6 σ = some Q5 → Zz E X YX12_scoreOf (some (.int R.1), R.2) σ 47 [(0, .ref (E.2.1 73)), (1, .int a1), (2, .int a2), (3, .int a3), (4, .int a4), (5, .int a5), (6, .int a6)] [] := by
        intro a1 a2 a3 a4 a5 a6 σ hf
        unfold f_X12_scoreOf_J47 at hf
        refine z_iload_n C dX12_scoreOf_47 3 rfl ?_
        refine z_iload C dX12_scoreOf_48 5 rfl ?_
        refine z_iload C dX12_scoreOf_50 6 rfl ?_
        refine z_imul C dX12_scoreOf_52 ?_
        refine z_iadd C dX12_scoreOf_53 ?_
        refine z_istore_n (lv' := [(3, .int (a3 + (a5 * a6))), (0, .ref (E.2.1 73)), (1, .int a1), (2, .int a2), (4, .int a4), (5, .int a5), (6, .int a6)]) C dX12_scoreOf_54 (by decide) rfl ?_
        refine z_goto (tgt := 104) C dX12_scoreOf_55 (by decide) ?_
        refine z_iinc (v := (a4 + 1)) (lv' := [(4, .int (a4 + 1)), (3, .int (a3 + (a5 * a6))), (0, .ref (E.2.1 73)), (1, .int a1), (2, .int a2), (5, .int a5), (6, .int a6)]) C dX12_scoreOf_104 4 rfl rfl (by decide) rfl ?_
        refine z_goto (tgt := 5) C dX12_scoreOf_107 (by decide) ?_
        refine z_sub [(0, .ref (E.2.1 73)), (1, .int a1), (2, .int a2), (3, .int (a3 + (a5 * a6))), (4, .int (a4 + 1))] [2, 3, 4, 1, 0] rfl ?_
        exact ih a1 a2 (a3 + (a5 * a6)) (a4 + 1) σ _ hf hx5
      unfold f_X12_scoreOf_B5 at hf
      refine z_iload C dX12_scoreOf_5 4 rfl ?_
      refine z_iconst (v := 4) C dX12_scoreOf_7 (by decide) ?_
      refine z_icmp_ge (tgt := 110) C dX12_scoreOf_8 (by decide) (fun h1 => ?_) (fun h1 => ?_)
      · replace hf := ifp hf h1
        refine z_sub [(3, .int a3)] [3] rfl ?_
        obtain rfl := Option.some.inj hf
        exact hx5
      · replace hf := ifn hf h1
        refine z_iload_n C dX12_scoreOf_11 2 rfl ?_
        refine z_iload C dX12_scoreOf_12 4 rfl ?_
        obtain ⟨r2, h3, hf⟩ := bd_some hf
        refine z_callS (Y2 := YX12_amount) (As := [.int a2, .int a4]) C lk_X12_amount t_1055 t_1056 (Nat.le_of_ble_eq_true rfl) (Nat.le_of_ble_eq_true rfl) dX12_scoreOf_14 (Nat.le_of_ble_eq_true rfl) rfl rfl (m_X12_amount X.2.1 E N a2 a4 σ _ h3) ?_
        change Zz E X YX12_scoreOf (some (.int R.1), R.2) r2.2 _ _ [.int r2.1]
        refine z_istore (lv' := [(5, .int r2.1), (0, .ref (E.2.1 73)), (1, .int a1), (2, .int a2), (3, .int a3), (4, .int a4)]) C dX12_scoreOf_17 (by decide) rfl ?_
        refine z_aload_n C dX12_scoreOf_19 1 rfl ?_
        refine z_get (v := .ref (E.2.1 75)) (T := TX12) (N := 39) (ci := 11) C (by decide) wc_mo rfl in_X12 1 (by decide) t_846 rfl dX12_scoreOf_20 ?_
        refine z_iconst (v := 4) C dX12_scoreOf_23 (by decide) ?_
        refine z_iload_n C dX12_scoreOf_24 2 rfl ?_
        refine z_imul C dX12_scoreOf_25 ?_
        refine z_iload C dX12_scoreOf_26 5 rfl ?_
        refine z_iadd C dX12_scoreOf_28 ?_
        obtain ⟨h4, hf⟩ := ga_some hf
        refine z_iald C ka_75 h4 dX12_scoreOf_29 ?_
        obtain ⟨v5, h6, hf⟩ := nm_some hf
        rw [← h6]
        refine z_istore (lv' := [(6, .int v5), (5, .int r2.1), (0, .ref (E.2.1 73)), (1, .int a1), (2, .int a2), (3, .int a3), (4, .int a4)]) C dX12_scoreOf_30 (by decide) rfl ?_
        refine z_aload_n C dX12_scoreOf_32 2 rfl ?_
        refine z_get (v := .int (r2.2 73 11)) (T := TX12) (N := 39) (ci := 11) C (by decide) wc_mo rfl in_X12 11 (by decide) t_856 rfl dX12_scoreOf_33 ?_
        refine z_if_eq (tgt := 47) C dX12_scoreOf_36 (by decide) (fun h7 => ?_) (fun h7 => ?_)
        · replace hf := ifp hf h7
          refine z_sub [(0, .ref (E.2.1 73)), (1, .int a1), (2, .int a2), (3, .int a3), (4, .int a4), (5, .int r2.1), (6, .int v5)] [2, 3, 4, 5, 6, 1, 0] rfl ?_
          exact hJ47 a1 a2 a3 a4 r2.1 v5 r2.2 hf
        · replace hf := ifn hf h7
          refine z_aload_n C dX12_scoreOf_39 2 rfl ?_
          refine z_get (v := .int (r2.2 73 11)) (T := TX12) (N := 39) (ci := 11) C (by decide) wc_mo rfl in_X12 11 (by decide) t_856 rfl dX12_scoreOf_40 ?_
          refine z_iconst (v := 3) C dX12_scoreOf_43 (by decide) ?_
          refine z_icmp_ne (tgt := 58) C dX12_scoreOf_44 (by decide) (fun h8 => ?_) (fun h8 => ?_)
          · replace hf := ifn hf h8
            refine z_aload_n C dX12_scoreOf_58 2 rfl ?_
            refine z_get (v := .int (r2.2 73 11)) (T := TX12) (N := 39) (ci := 11) C (by decide) wc_mo rfl in_X12 11 (by decide) t_856 rfl dX12_scoreOf_59 ?_
            refine z_iconst (v := 2) C dX12_scoreOf_62 (by decide) ?_
            refine z_icmp_eq (tgt := 86) C dX12_scoreOf_63 (by decide) (fun h9 => ?_) (fun h9 => ?_)
            · replace hf := ifp hf h9
              refine z_iload C dX12_scoreOf_86 1 rfl ?_
              refine z_if_le (tgt := 102) C dX12_scoreOf_88 (by decide) (fun h10 => ?_) (fun h10 => ?_)
              · replace hf := ifp hf h10
                refine z_iload_n C dX12_scoreOf_102 5 rfl ?_
                refine z_istore_n (lv' := [(3, .int a3), (6, .int v5), (5, .int r2.1), (0, .ref (E.2.1 73)), (1, .int a1), (2, .int a2), (4, .int a4)]) C dX12_scoreOf_103 (by decide) rfl ?_
                refine z_iinc (v := (a4 + 1)) (lv' := [(4, .int (a4 + 1)), (3, .int a3), (6, .int v5), (5, .int r2.1), (0, .ref (E.2.1 73)), (1, .int a1), (2, .int a2)]) C dX12_scoreOf_104 6 rfl rfl (by decide) rfl ?_
                refine z_goto (tgt := 5) C dX12_scoreOf_107 (by decide) ?_
                refine z_sub [(0, .ref (E.2.1 73)), (1, .int a1), (2, .int a2), (3, .int a3), (4, .int (a4 + 1))] [4, 5, 6, 1, 0] rfl ?_
                exact ih a1 a2 a3 (a4 + 1) r2.2 _ hf hx5
              · replace hf := ifn hf h10
                refine z_iload C dX12_scoreOf_91 0 rfl ?_
                refine z_iload_n C dX12_scoreOf_93 5 rfl ?_
                refine z_icmp_le (tgt := 102) C dX12_scoreOf_94 (by decide) (fun h11 => ?_) (fun h11 => ?_)
                · replace hf := ifp hf h11
                  refine z_iload_n C dX12_scoreOf_102 5 rfl ?_
                  refine z_istore_n (lv' := [(3, .int a3), (6, .int v5), (5, .int r2.1), (0, .ref (E.2.1 73)), (1, .int a1), (2, .int a2), (4, .int a4)]) C dX12_scoreOf_103 (by decide) rfl ?_
                  refine z_iinc (v := (a4 + 1)) (lv' := [(4, .int (a4 + 1)), (3, .int a3), (6, .int v5), (5, .int r2.1), (0, .ref (E.2.1 73)), (1, .int a1), (2, .int a2)]) C dX12_scoreOf_104 6 rfl rfl (by decide) rfl ?_
                  refine z_goto (tgt := 5) C dX12_scoreOf_107 (by decide) ?_
                  refine z_sub [(0, .ref (E.2.1 73)), (1, .int a1), (2, .int a2), (3, .int a3), (4, .int (a4 + 1))] [4, 5, 6, 1, 0] rfl ?_
                  exact ih a1 a2 a3 (a4 + 1) r2.2 _ hf hx5
                · replace hf := ifn hf h11
                  refine z_iload C dX12_scoreOf_97 0 rfl ?_
                  refine z_goto (tgt := 103) C dX12_scoreOf_99 (by decide) ?_
                  refine z_istore_n (lv' := [(3, .int v5), (6, .int v5), (5, .int r2.1), (0, .ref (E.2.1 73)), (1, .int a1), (2, .int a2), (4, .int a4)]) C dX12_scoreOf_103 (by decide) rfl ?_
                  refine z_iinc (v := (a4 + 1)) (lv' := [(4, .int (a4 + 1)), (3, .int v5), (6, .int v5), (5, .int r2.1), (0, .ref (E.2.1 73)), (1, .int a1), (2, .int a2)]) C dX12_scoreOf_104 6 rfl rfl (by decide) rfl ?_
                  refine z_goto (tgt := 5) C dX12_scoreOf_107 (by decide) ?_
                  refine z_sub [(0, .ref (E.2.1 73)), (1, .int a1), (2, .int a2), (3, .int v5), (4, .int (a4 + 1))] [4, 5, 6, 1, 0] rfl ?_
                  exact ih a1 a2 v5 (a4 + 1) r2.2 _ hf hx5
            · replace hf := ifn hf h9
              refine z_iload_n C dX12_scoreOf_66 5 rfl ?_
              refine z_iload C dX12_scoreOf_67 1 rfl ?_
              refine z_iload C dX12_scoreOf_69 0 rfl ?_
              refine z_icmp_ge (tgt := 79) C dX12_scoreOf_71 (by decide) (fun h12 => ?_) (fun h12 => ?_)
              · replace hf := ifp hf h12
                refine z_iload C dX12_scoreOf_79 0 rfl ?_
                refine z_iadd C dX12_scoreOf_81 ?_
                refine z_istore_n (lv' := [(3, .int (a3 + v5)), (6, .int v5), (5, .int r2.1), (0, .ref (E.2.1 73)), (1, .int a1), (2, .int a2), (4, .int a4)]) C dX12_scoreOf_82 (by decide) rfl ?_
                refine z_goto (tgt := 104) C dX12_scoreOf_83 (by decide) ?_
                refine z_iinc (v := (a4 + 1)) (lv' := [(4, .int (a4 + 1)), (3, .int (a3 + v5)), (6, .int v5), (5, .int r2.1), (0, .ref (E.2.1 73)), (1, .int a1), (2, .int a2)]) C dX12_scoreOf_104 6 rfl rfl (by decide) rfl ?_
                refine z_goto (tgt := 5) C dX12_scoreOf_107 (by decide) ?_
                refine z_sub [(0, .ref (E.2.1 73)), (1, .int a1), (2, .int a2), (3, .int (a3 + v5)), (4, .int (a4 + 1))] [4, 5, 6, 1, 0] rfl ?_
                exact ih a1 a2 (a3 + v5) (a4 + 1) r2.2 _ hf hx5
              · replace hf := ifn hf h12
                refine z_iload C dX12_scoreOf_74 1 rfl ?_
                refine z_goto (tgt := 81) C dX12_scoreOf_76 (by decide) ?_
                refine z_iadd C dX12_scoreOf_81 ?_
                refine z_istore_n (lv' := [(3, .int (a3 + r2.1)), (6, .int v5), (5, .int r2.1), (0, .ref (E.2.1 73)), (1, .int a1), (2, .int a2), (4, .int a4)]) C dX12_scoreOf_82 (by decide) rfl ?_
                refine z_goto (tgt := 104) C dX12_scoreOf_83 (by decide) ?_
                refine z_iinc (v := (a4 + 1)) (lv' := [(4, .int (a4 + 1)), (3, .int (a3 + r2.1)), (6, .int v5), (5, .int r2.1), (0, .ref (E.2.1 73)), (1, .int a1), (2, .int a2)]) C dX12_scoreOf_104 6 rfl rfl (by decide) rfl ?_
                refine z_goto (tgt := 5) C dX12_scoreOf_107 (by decide) ?_
                refine z_sub [(0, .ref (E.2.1 73)), (1, .int a1), (2, .int a2), (3, .int (a3 + r2.1)), (4, .int (a4 + 1))] [4, 5, 6, 1, 0] rfl ?_
                exact ih a1 a2 (a3 + r2.1) (a4 + 1) r2.2 _ hf hx5
          · replace hf := ifp hf h8
            refine z_sub [(0, .ref (E.2.1 73)), (1, .int a1), (2, .int a2), (3, .int a3), (4, .int a4), (5, .int r2.1), (6, .int v5)] [2, 3, 4, 5, 6, 1, 0] rfl ?_
            exact hJ47 a1 a2 a3 a4 r2.1 v5 r2.2 hf
  unfold f_X12_scoreOf at hf
  refine z_iconst (v := 0) C dX12_scoreOf_0 (by decide) ?_
  refine z_istore_n (lv' := [(3, .int 0), (0, .ref (E.2.1 73)), (1, .int x1), (2, .int x2)]) C dX12_scoreOf_1 (by decide) rfl ?_
  refine z_iconst (v := 0) C dX12_scoreOf_2 (by decide) ?_
  refine z_istore (lv' := [(4, .int 0), (3, .int 0), (0, .ref (E.2.1 73)), (1, .int x1), (2, .int x2)]) C dX12_scoreOf_3 (by decide) rfl ?_
  refine z_sub [(0, .ref (E.2.1 73)), (1, .int x1), (2, .int x2), (3, .int 0), (4, .int 0)] [2, 3, 4, 1, 0] rfl ?_
  obtain ⟨s13, h14, hf⟩ := bd_some hf
  refine hL5 N x1 x2 0 0 σ _ h14 ?_
  refine z_iload_n C dX12_scoreOf_110 0 rfl ?_
  exact z_iret C dX12_scoreOf_111 rfl (by rw [← Option.some.inj hf])
theorem lk_X12_scoreOf {Y : Yv} : Lk Y YX12_scoreOf 2 := ⟨t_1061, t_13, ⟨by decide +kernel, by decide +kernel⟩, by decide +kernel⟩
abbrev YX12_firstBut : Yv := (yX12_firstBut, cX12_firstBut, 7, some .int, 2, 49)
def f_X12_firstBut_B9 (N : Nat) (rec : Int32 → Int32 → Int32 → Int32 → Int32 → Sg → Option (Int32 × Sg)) (a1 a2 a3 a4 a5 : Int32) (σ : Sg) : Option (Int32 × Sg) :=
  if (σ 73 9) ≤ a5 then (some (a3, σ)) else (if a5 = a2 then (rec a1 a2 a3 a4 (a5 + 1) σ) else (if (((σ 73 33) >>> (a5 &&& 31)) &&& 1) = 1 then (rec a1 a2 a3 a4 (a5 + 1) σ) else ((f_X12_scoreOf N a5 a1 σ).bind (fun r4 => if a4 < r4.1 then (rec a1 a2 a5 r4.1 (a5 + 1) r4.2) else (rec a1 a2 a3 a4 (a5 + 1) r4.2)))))
def f_X12_firstBut_L9 (N : Nat) : Nat → Int32 → Int32 → Int32 → Int32 → Int32 → Sg → Option (Int32 × Sg)
  | 0 => fun _ _ _ _ _ _ => none
  | k + 1 => fun a1 a2 a3 a4 a5 σ => f_X12_firstBut_B9 N (f_X12_firstBut_L9 N k) a1 a2 a3 a4 a5 σ
def f_X12_firstBut (N : Nat) (x1 x2 : Int32) (σ : Sg) : Option (Int32 × Sg) :=
  (f_X12_firstBut_L9 N N x1 x2 (-9) 0 0 σ).bind (fun s7 => some (s7.1, s7.2))
set_option maxHeartbeats 4000000 in
set_option maxRecDepth 20000 in
theorem m_X12_firstBut (l : Launch) (E : Ev) (N : Nat) (x1 x2 : Int32) (σ : Sg) (R : Int32 × Sg) (hf : f_X12_firstBut N x1 x2 σ = some R) : Ct l E YX12_firstBut [.ref (E.2.1 73), .int x1, .int x2] σ (some (.int R.1), R.2) := by
  refine ct_of (by decide +kernel) (Nat.le_of_ble_eq_true rfl) [(0, .ref (E.2.1 73)), (1, .int x1), (2, .int x2)] rfl (fun X hX C => ?_)
  have hL9 : ∀ (k : Nat) (a1 a2 a3 a4 a5 : Int32) (σ : Sg) (Q9 : Int32 × Sg), f_X12_firstBut_L9 N k a1 a2 a3 a4 a5 σ = some Q9 → (Zz E X YX12_firstBut (some (.int R.1), R.2) Q9.2 72 [(3, .int Q9.1)] []) → Zz E X YX12_firstBut (some (.int R.1), R.2) σ 9 [(0, .ref (E.2.1 73)), (1, .int a1), (2, .int a2), (3, .int a3), (4, .int a4), (5, .int a5)] [] := by
    intro k
    induction k with
    | zero =>
      intro a1 a2 a3 a4 a5 σ Q9 hf
      have hf : (none : Option (Int32 × Sg)) = some Q9 := hf
      cases hf
    | succ k ih =>
      intro a1 a2 a3 a4 a5 σ Q9 hf hx9
      have hf : f_X12_firstBut_B9 N (f_X12_firstBut_L9 N k) a1 a2 a3 a4 a5 σ = some Q9 := hf
      unfold f_X12_firstBut_B9 at hf
      refine z_iload C dX12_firstBut_9 5 rfl ?_
      refine z_aload_n C dX12_firstBut_11 0 rfl ?_
      refine z_get (v := .int (σ 73 9)) (T := TX12) (N := 39) (ci := 11) C (by decide) wc_mo rfl in_X12 9 (by decide) t_854 rfl dX12_firstBut_12 ?_
      refine z_icmp_ge (tgt := 72) C dX12_firstBut_15 (by decide) (fun h1 => ?_) (fun h1 => ?_)
      · replace hf := ifp hf h1
        refine z_sub [(3, .int a3)] [3] rfl ?_
        obtain rfl := Option.some.inj hf
        exact hx9
      · replace hf := ifn hf h1
        refine z_iload C dX12_firstBut_18 5 rfl ?_
        refine z_iload_n C dX12_firstBut_20 2 rfl ?_
        refine z_icmp_eq (tgt := 66) C dX12_firstBut_21 (by decide) (fun h2 => ?_) (fun h2 => ?_)
        · replace hf := ifp hf h2
          refine z_iinc (v := (a5 + 1)) (lv' := [(5, .int (a5 + 1)), (0, .ref (E.2.1 73)), (1, .int a1), (2, .int a2), (3, .int a3), (4, .int a4)]) C dX12_firstBut_66 5 rfl rfl (by decide) rfl ?_
          refine z_goto (tgt := 9) C dX12_firstBut_69 (by decide) ?_
          refine z_sub [(0, .ref (E.2.1 73)), (1, .int a1), (2, .int a2), (3, .int a3), (4, .int a4), (5, .int (a5 + 1))] [1, 2, 3, 4, 5, 0] rfl ?_
          exact ih a1 a2 a3 a4 (a5 + 1) σ _ hf hx9
        · replace hf := ifn hf h2
          refine z_aload_n C dX12_firstBut_24 0 rfl ?_
          refine z_get (v := .int (σ 73 33)) (T := TX12) (N := 39) (ci := 11) C (by decide) wc_mo rfl in_X12 33 (by decide) t_878 rfl dX12_firstBut_25 ?_
          refine z_iload C dX12_firstBut_28 5 rfl ?_
          refine z_ishr C dX12_firstBut_30 ?_
          refine z_iconst (v := 1) C dX12_firstBut_31 (by decide) ?_
          refine z_iand C dX12_firstBut_32 ?_
          refine z_iconst (v := 1) C dX12_firstBut_33 (by decide) ?_
          refine z_icmp_ne (tgt := 40) C dX12_firstBut_34 (by decide) (fun h3 => ?_) (fun h3 => ?_)
          · replace hf := ifn hf h3
            refine z_aload_n C dX12_firstBut_40 0 rfl ?_
            refine z_iload C dX12_firstBut_41 5 rfl ?_
            refine z_iload_n C dX12_firstBut_43 1 rfl ?_
            obtain ⟨r4, h5, hf⟩ := bd_some hf
            refine z_callV (Y2 := YX12_scoreOf) (CC := RX12) (T := TX12) (N := 39) (ci := 11) (As := [.int a5, .int a1]) C lk_X12_scoreOf (by decide) wc_mo rfl t_1058 t_1060 p_40 (Nat.le_of_ble_eq_true rfl) (Nat.le_of_ble_eq_true rfl) dX12_firstBut_44 (Nat.le_of_ble_eq_true rfl) rfl rfl (m_X12_scoreOf X.2.1 E N a5 a1 σ _ h5) ?_
            change Zz E X YX12_firstBut (some (.int R.1), R.2) r4.2 _ _ [.int r4.1]
            refine z_istore (lv' := [(6, .int r4.1), (0, .ref (E.2.1 73)), (1, .int a1), (2, .int a2), (3, .int a3), (4, .int a4), (5, .int a5)]) C dX12_firstBut_47 (by decide) rfl ?_
            refine z_iload C dX12_firstBut_49 0 rfl ?_
            refine z_iload C dX12_firstBut_51 5 rfl ?_
            refine z_icmp_gt (tgt := 59) C dX12_firstBut_53 (by decide) (fun h6 => ?_) (fun h6 => ?_)
            · replace hf := ifp hf h6
              refine z_iload C dX12_firstBut_59 6 rfl ?_
              refine z_istore_n (lv' := [(3, .int a5), (6, .int r4.1), (0, .ref (E.2.1 73)), (1, .int a1), (2, .int a2), (4, .int a4), (5, .int a5)]) C dX12_firstBut_61 (by decide) rfl ?_
              refine z_iload C dX12_firstBut_62 1 rfl ?_
              refine z_istore (lv' := [(4, .int r4.1), (3, .int a5), (6, .int r4.1), (0, .ref (E.2.1 73)), (1, .int a1), (2, .int a2), (5, .int a5)]) C dX12_firstBut_64 (by decide) rfl ?_
              refine z_iinc (v := (a5 + 1)) (lv' := [(5, .int (a5 + 1)), (4, .int r4.1), (3, .int a5), (6, .int r4.1), (0, .ref (E.2.1 73)), (1, .int a1), (2, .int a2)]) C dX12_firstBut_66 6 rfl rfl (by decide) rfl ?_
              refine z_goto (tgt := 9) C dX12_firstBut_69 (by decide) ?_
              refine z_sub [(0, .ref (E.2.1 73)), (1, .int a1), (2, .int a2), (3, .int a5), (4, .int r4.1), (5, .int (a5 + 1))] [4, 5, 6, 2, 1, 0] rfl ?_
              exact ih a1 a2 a5 r4.1 (a5 + 1) r4.2 _ hf hx9
            · replace hf := ifn hf h6
              refine z_goto (tgt := 66) C dX12_firstBut_56 (by decide) ?_
              refine z_iinc (v := (a5 + 1)) (lv' := [(5, .int (a5 + 1)), (6, .int r4.1), (0, .ref (E.2.1 73)), (1, .int a1), (2, .int a2), (3, .int a3), (4, .int a4)]) C dX12_firstBut_66 6 rfl rfl (by decide) rfl ?_
              refine z_goto (tgt := 9) C dX12_firstBut_69 (by decide) ?_
              refine z_sub [(0, .ref (E.2.1 73)), (1, .int a1), (2, .int a2), (3, .int a3), (4, .int a4), (5, .int (a5 + 1))] [2, 3, 4, 5, 6, 0] rfl ?_
              exact ih a1 a2 a3 a4 (a5 + 1) r4.2 _ hf hx9
          · replace hf := ifp hf h3
            refine z_goto (tgt := 66) C dX12_firstBut_37 (by decide) ?_
            refine z_iinc (v := (a5 + 1)) (lv' := [(5, .int (a5 + 1)), (0, .ref (E.2.1 73)), (1, .int a1), (2, .int a2), (3, .int a3), (4, .int a4)]) C dX12_firstBut_66 5 rfl rfl (by decide) rfl ?_
            refine z_goto (tgt := 9) C dX12_firstBut_69 (by decide) ?_
            refine z_sub [(0, .ref (E.2.1 73)), (1, .int a1), (2, .int a2), (3, .int a3), (4, .int a4), (5, .int (a5 + 1))] [1, 2, 3, 4, 5, 0] rfl ?_
            exact ih a1 a2 a3 a4 (a5 + 1) σ _ hf hx9
  unfold f_X12_firstBut at hf
  refine z_bipush (v := (-9)) C dX12_firstBut_0 (by decide) ?_
  refine z_istore_n (lv' := [(3, .int (-9)), (0, .ref (E.2.1 73)), (1, .int x1), (2, .int x2)]) C dX12_firstBut_2 (by decide) rfl ?_
  refine z_iconst (v := 0) C dX12_firstBut_3 (by decide) ?_
  refine z_istore (lv' := [(4, .int 0), (3, .int (-9)), (0, .ref (E.2.1 73)), (1, .int x1), (2, .int x2)]) C dX12_firstBut_4 (by decide) rfl ?_
  refine z_iconst (v := 0) C dX12_firstBut_6 (by decide) ?_
  refine z_istore (lv' := [(5, .int 0), (4, .int 0), (3, .int (-9)), (0, .ref (E.2.1 73)), (1, .int x1), (2, .int x2)]) C dX12_firstBut_7 (by decide) rfl ?_
  refine z_sub [(0, .ref (E.2.1 73)), (1, .int x1), (2, .int x2), (3, .int (-9)), (4, .int 0), (5, .int 0)] [3, 4, 5, 2, 1, 0] rfl ?_
  obtain ⟨s7, h8, hf⟩ := bd_some hf
  refine hL9 N x1 x2 (-9) 0 0 σ _ h8 ?_
  refine z_iload_n C dX12_firstBut_72 0 rfl ?_
  exact z_iret C dX12_firstBut_73 rfl (by rw [← Option.some.inj hf])
theorem lk_X12_firstBut {Y : Yv} : Lk Y YX12_firstBut 2 := ⟨t_1073, t_13, ⟨by decide +kernel, by decide +kernel⟩, by decide +kernel⟩
abbrev YX12_goesTo : Yv := (yX12_goesTo, cX12_goesTo, 4, some .int, 3, 75)
def f_X12_goesTo (N : Nat) (x1 : Int32) (σ : Sg) : Option (Int32 × Sg) :=
  nm (sgs σ 73 33 0) (fun σ1 => (f_X12_firstBut N x1 (-1) σ1).bind (fun r3 => if (r3.2 73 11) = 3 then (if 0 ≤ r3.1 then ((f_X12_firstBut N x1 r3.1 r3.2).bind (fun r7 => if 0 ≤ r7.1 then (some (r7.1, r7.2)) else (some (r3.1, r7.2)))) else (some (r3.1, r3.2))) else (some (r3.1, r3.2))))
set_option maxHeartbeats 4000000 in
set_option maxRecDepth 20000 in
theorem m_X12_goesTo (l : Launch) (E : Ev) (N : Nat) (x1 : Int32) (σ : Sg) (R : Int32 × Sg) (hf : f_X12_goesTo N x1 σ = some R) : Ct l E YX12_goesTo [.ref (E.2.1 73), .int x1] σ (some (.int R.1), R.2) := by
  refine ct_of (by decide +kernel) (Nat.le_of_ble_eq_true rfl) [(0, .ref (E.2.1 73)), (1, .int x1)] rfl (fun X hX C => ?_)
  unfold f_X12_goesTo at hf
  refine z_aload_n C dX12_goesTo_0 0 rfl ?_
  refine z_iconst (v := 0) C dX12_goesTo_1 (by decide) ?_
  obtain ⟨σ1, h2, hf⟩ := nm_some hf
  refine z_put (T := TX12) (N := 39) (ci := 11) (ty := .int) C tyX12 tyX12_ok nmX12 (by decide) wc_mo rfl in_X12 33 (by decide) t_878 rfl rfl rfl rfl (Nat.le_of_ble_eq_true rfl) (pw_X12_33) dX12_goesTo_2 ?_
  rw [← h2]
  refine z_aload_n C dX12_goesTo_5 0 rfl ?_
  refine z_iload_n C dX12_goesTo_6 1 rfl ?_
  refine z_iconst (v := (-1)) C dX12_goesTo_7 (by decide) ?_
  obtain ⟨r3, h4, hf⟩ := bd_some hf
  refine z_callV (Y2 := YX12_firstBut) (CC := RX12) (T := TX12) (N := 39) (ci := 11) (As := [.int x1, .int (-1)]) C lk_X12_firstBut (by decide) wc_mo rfl t_1070 t_1072 p_42 (Nat.le_of_ble_eq_true rfl) (Nat.le_of_ble_eq_true rfl) dX12_goesTo_8 (Nat.le_of_ble_eq_true rfl) rfl rfl (m_X12_firstBut X.2.1 E N x1 (-1) σ1 _ h4) ?_
  change Zz E X YX12_goesTo (some (.int R.1), R.2) r3.2 _ _ [.int r3.1]
  refine z_istore_n (lv' := [(2, .int r3.1), (0, .ref (E.2.1 73)), (1, .int x1)]) C dX12_goesTo_11 (by decide) rfl ?_
  refine z_aload_n C dX12_goesTo_12 1 rfl ?_
  refine z_get (v := .int (r3.2 73 11)) (T := TX12) (N := 39) (ci := 11) C (by decide) wc_mo rfl in_X12 11 (by decide) t_856 rfl dX12_goesTo_13 ?_
  refine z_iconst (v := 3) C dX12_goesTo_16 (by decide) ?_
  refine z_icmp_ne (tgt := 24) C dX12_goesTo_17 (by decide) (fun h5 => ?_) (fun h5 => ?_)
  · replace hf := ifn hf h5
    refine z_iload_n C dX12_goesTo_24 0 rfl ?_
    exact z_iret C dX12_goesTo_25 rfl (by rw [← Option.some.inj hf])
  · replace hf := ifp hf h5
    refine z_iload_n C dX12_goesTo_20 0 rfl ?_
    refine z_if_ge (tgt := 26) C dX12_goesTo_21 (by decide) (fun h6 => ?_) (fun h6 => ?_)
    · replace hf := ifp hf h6
      refine z_aload_n C dX12_goesTo_26 1 rfl ?_
      refine z_iload_n C dX12_goesTo_27 2 rfl ?_
      refine z_iload_n C dX12_goesTo_28 0 rfl ?_
      obtain ⟨r7, h8, hf⟩ := bd_some hf
      refine z_callV (Y2 := YX12_firstBut) (CC := RX12) (T := TX12) (N := 39) (ci := 11) (As := [.int x1, .int r3.1]) C lk_X12_firstBut (by decide) wc_mo rfl t_1070 t_1072 p_42 (Nat.le_of_ble_eq_true rfl) (Nat.le_of_ble_eq_true rfl) dX12_goesTo_29 (Nat.le_of_ble_eq_true rfl) rfl rfl (m_X12_firstBut X.2.1 E N x1 r3.1 r3.2 _ h8) ?_
      change Zz E X YX12_goesTo (some (.int R.1), R.2) r7.2 _ _ [.int r7.1]
      refine z_istore_n (lv' := [(3, .int r7.1), (2, .int r3.1), (0, .ref (E.2.1 73)), (1, .int x1)]) C dX12_goesTo_32 (by decide) rfl ?_
      refine z_iload_n C dX12_goesTo_33 0 rfl ?_
      refine z_if_ge (tgt := 41) C dX12_goesTo_34 (by decide) (fun h9 => ?_) (fun h9 => ?_)
      · replace hf := ifp hf h9
        refine z_iload_n C dX12_goesTo_41 0 rfl ?_
        exact z_iret C dX12_goesTo_42 rfl (by rw [← Option.some.inj hf])
      · replace hf := ifn hf h9
        refine z_iload_n C dX12_goesTo_37 1 rfl ?_
        refine z_goto (tgt := 42) C dX12_goesTo_38 (by decide) ?_
        exact z_iret C dX12_goesTo_42 rfl (by rw [← Option.some.inj hf])
    · replace hf := ifn hf h6
      refine z_iload_n C dX12_goesTo_24 0 rfl ?_
      exact z_iret C dX12_goesTo_25 rfl (by rw [← Option.some.inj hf])
theorem lk_X12_goesTo {Y : Yv} : Lk Y YX12_goesTo 1 := ⟨t_1069, t_13, ⟨by decide +kernel, by decide +kernel⟩, by decide +kernel⟩
abbrev YX12_has : Yv := (yX12_has, cX12_has, 5, none, 1, 23)
def f_X12_has_J45 (N : Nat) (rec : Int32 → Int32 → Int32 → Sg → Option (Int32 × Sg)) (a1 a2 a3 b0 b1 : Int32) (σ : Sg) : Option (Int32 × Sg) :=
  ga b1 24 (nm (sgs σ 75 (Int32.toNatClampNeg b1) b0) (fun σ9 => rec a1 a2 (a3 + 1) σ9))
def f_X12_has_B2 (N : Nat) (rec : Int32 → Int32 → Int32 → Sg → Option (Int32 × Sg)) (a1 a2 a3 : Int32) (σ : Sg) : Option (Int32 × Sg) :=
  if 4 ≤ a3 then (some (a1, σ)) else (ga (((4 : Int32) * a1) + a3) 24 ((f_X12_amount N a2 a3 σ).bind (fun r3 => nm ((σ 75 (Int32.toNatClampNeg (((4 : Int32) * a1) + a3))) - r3.1) (fun v5 => if 0 ≤ v5 then (f_X12_has_J45 N rec a1 a2 a3 v5 (((4 : Int32) * a1) + a3) r3.2) else (f_X12_has_J45 N rec a1 a2 a3 0 (((4 : Int32) * a1) + a3) r3.2)))))
def f_X12_has_L2 (N : Nat) : Nat → Int32 → Int32 → Int32 → Sg → Option (Int32 × Sg)
  | 0 => fun _ _ _ _ => none
  | k + 1 => fun a1 a2 a3 σ => f_X12_has_B2 N (f_X12_has_L2 N k) a1 a2 a3 σ
def f_X12_has (N : Nat) (x1 x2 : Int32) (σ : Sg) : Option (Sg) :=
  (f_X12_has_L2 N N x1 x2 0 σ).bind (fun s11 => nm (sgs s11.2 73 33 ((s11.2 73 33) ||| ((1 : Int32) <<< (s11.1 &&& 31)))) (fun σ12 => some σ12))
set_option maxHeartbeats 4000000 in
set_option maxRecDepth 20000 in
theorem m_X12_has (l : Launch) (E : Ev) (N : Nat) (x1 x2 : Int32) (σ : Sg) (R : Sg) (hf : f_X12_has N x1 x2 σ = some R) : Ct l E YX12_has [.ref (E.2.1 73), .int x1, .int x2] σ (none, R) := by
  refine ct_of (by decide +kernel) (Nat.le_of_ble_eq_true rfl) [(0, .ref (E.2.1 73)), (1, .int x1), (2, .int x2)] rfl (fun X hX C => ?_)
  have hL2 : ∀ (k : Nat) (a1 a2 a3 : Int32) (σ : Sg) (Q2 : Int32 × Sg), f_X12_has_L2 N k a1 a2 a3 σ = some Q2 → (Zz E X YX12_has (none, R) Q2.2 52 [(0, .ref (E.2.1 73)), (1, .int Q2.1)] []) → Zz E X YX12_has (none, R) σ 2 [(0, .ref (E.2.1 73)), (1, .int a1), (2, .int a2), (3, .int a3)] [] := by
    intro k
    induction k with
    | zero =>
      intro a1 a2 a3 σ Q2 hf
      have hf : (none : Option (Int32 × Sg)) = some Q2 := hf
      cases hf
    | succ k ih =>
      intro a1 a2 a3 σ Q2 hf hx2
      have hf : f_X12_has_B2 N (f_X12_has_L2 N k) a1 a2 a3 σ = some Q2 := hf
      have hJ45 : ∀ (a1 a2 a3 b0 b1 : Int32) (σ : Sg), f_X12_has_J45 N (f_X12_has_L2 N k) a1 a2 a3 b0 b1 σ = some Q2 → Zz E X YX12_has (none, R) σ 45 [(0, .ref (E.2.1 73)), (1, .int a1), (2, .int a2), (3, .int a3)] [.int b0, .int b1, .ref (E.2.1 75)] := by
        intro a1 a2 a3 b0 b1 σ hf
        unfold f_X12_has_J45 at hf
        obtain ⟨h8, hf⟩ := ga_some hf
        obtain ⟨σ9, h10, hf⟩ := nm_some hf
        refine z_iast C ka_75 h8 dX12_has_45 ?_
        rw [← h10]
        refine z_iinc (v := (a3 + 1)) (lv' := [(3, .int (a3 + 1)), (0, .ref (E.2.1 73)), (1, .int a1), (2, .int a2)]) C dX12_has_46 3 rfl rfl (by decide) rfl ?_
        refine z_goto (tgt := 2) C dX12_has_49 (by decide) ?_
        refine z_sub [(0, .ref (E.2.1 73)), (1, .int a1), (2, .int a2), (3, .int (a3 + 1))] [1, 2, 3, 0] rfl ?_
        exact ih a1 a2 (a3 + 1) σ9 _ hf hx2
      unfold f_X12_has_B2 at hf
      refine z_iload_n C dX12_has_2 3 rfl ?_
      refine z_iconst (v := 4) C dX12_has_3 (by decide) ?_
      refine z_icmp_ge (tgt := 52) C dX12_has_4 (by decide) (fun h1 => ?_) (fun h1 => ?_)
      · replace hf := ifp hf h1
        refine z_sub [(0, .ref (E.2.1 73)), (1, .int a1)] [0, 1] rfl ?_
        obtain rfl := Option.some.inj hf
        exact hx2
      · replace hf := ifn hf h1
        refine z_aload_n C dX12_has_7 0 rfl ?_
        refine z_get (v := .ref (E.2.1 75)) (T := TX12) (N := 39) (ci := 11) C (by decide) wc_mo rfl in_X12 1 (by decide) t_846 rfl dX12_has_8 ?_
        refine z_iconst (v := 4) C dX12_has_11 (by decide) ?_
        refine z_iload_n C dX12_has_12 1 rfl ?_
        refine z_imul C dX12_has_13 ?_
        refine z_iload_n C dX12_has_14 3 rfl ?_
        refine z_iadd C dX12_has_15 ?_
        obtain ⟨h2, hf⟩ := ga_some hf
        refine z_iald C ka_75 h2 dX12_has_16 ?_
        refine z_iload_n C dX12_has_17 2 rfl ?_
        refine z_iload_n C dX12_has_18 3 rfl ?_
        obtain ⟨r3, h4, hf⟩ := bd_some hf
        refine z_callS (Y2 := YX12_amount) (As := [.int a2, .int a3]) C lk_X12_amount t_1055 t_1056 (Nat.le_of_ble_eq_true rfl) (Nat.le_of_ble_eq_true rfl) dX12_has_19 (Nat.le_of_ble_eq_true rfl) rfl rfl (m_X12_amount X.2.1 E N a2 a3 σ _ h4) ?_
        change Zz E X YX12_has (none, R) r3.2 _ _ [.int r3.1, .int (σ 75 (Int32.toNatClampNeg (((4 : Int32) * a1) + a3)))]
        refine z_isub C dX12_has_22 ?_
        obtain ⟨v5, h6, hf⟩ := nm_some hf
        rw [← h6]
        refine z_istore (lv' := [(4, .int v5), (0, .ref (E.2.1 73)), (1, .int a1), (2, .int a2), (3, .int a3)]) C dX12_has_23 (by decide) rfl ?_
        refine z_aload_n C dX12_has_25 1 rfl ?_
        refine z_get (v := .ref (E.2.1 75)) (T := TX12) (N := 39) (ci := 11) C (by decide) wc_mo rfl in_X12 1 (by decide) t_846 rfl dX12_has_26 ?_
        refine z_iconst (v := 4) C dX12_has_29 (by decide) ?_
        refine z_iload_n C dX12_has_30 2 rfl ?_
        refine z_imul C dX12_has_31 ?_
        refine z_iload_n C dX12_has_32 4 rfl ?_
        refine z_iadd C dX12_has_33 ?_
        refine z_iload C dX12_has_34 0 rfl ?_
        refine z_if_ge (tgt := 43) C dX12_has_36 (by decide) (fun h7 => ?_) (fun h7 => ?_)
        · replace hf := ifp hf h7
          refine z_iload C dX12_has_43 0 rfl ?_
          refine z_sub [(0, .ref (E.2.1 73)), (1, .int a1), (2, .int a2), (3, .int a3)] [1, 2, 3, 4] rfl ?_
          exact hJ45 a1 a2 a3 v5 (((4 : Int32) * a1) + a3) r3.2 hf
        · replace hf := ifn hf h7
          refine z_iconst (v := 0) C dX12_has_39 (by decide) ?_
          refine z_goto (tgt := 45) C dX12_has_40 (by decide) ?_
          refine z_sub [(0, .ref (E.2.1 73)), (1, .int a1), (2, .int a2), (3, .int a3)] [1, 2, 3, 4] rfl ?_
          exact hJ45 a1 a2 a3 0 (((4 : Int32) * a1) + a3) r3.2 hf
  unfold f_X12_has at hf
  refine z_iconst (v := 0) C dX12_has_0 (by decide) ?_
  refine z_istore_n (lv' := [(3, .int 0), (0, .ref (E.2.1 73)), (1, .int x1), (2, .int x2)]) C dX12_has_1 (by decide) rfl ?_
  refine z_sub [(0, .ref (E.2.1 73)), (1, .int x1), (2, .int x2), (3, .int 0)] [1, 2, 3, 0] rfl ?_
  obtain ⟨s11, h14, hf⟩ := bd_some hf
  refine hL2 N x1 x2 0 σ _ h14 ?_
  refine z_aload_n C dX12_has_52 0 rfl ?_
  refine z_dup C dX12_has_53 rfl ?_
  refine z_get (v := .int (s11.2 73 33)) (T := TX12) (N := 39) (ci := 11) C (by decide) wc_mo rfl in_X12 33 (by decide) t_878 rfl dX12_has_54 ?_
  refine z_iconst (v := 1) C dX12_has_57 (by decide) ?_
  refine z_iload_n C dX12_has_58 1 rfl ?_
  refine z_ishl C dX12_has_59 ?_
  refine z_ior C dX12_has_60 ?_
  obtain ⟨σ12, h13, hf⟩ := nm_some hf
  refine z_put (T := TX12) (N := 39) (ci := 11) (ty := .int) C tyX12 tyX12_ok nmX12 (by decide) wc_mo rfl in_X12 33 (by decide) t_878 rfl rfl rfl rfl (Nat.le_of_ble_eq_true rfl) (pw_X12_33) dX12_has_61 ?_
  rw [← h13]
  exact z_vret C dX12_has_64 rfl (by rw [← Option.some.inj hf])
theorem lk_X12_has {Y : Yv} : Lk Y YX12_has 2 := ⟨t_1085, t_13, ⟨by decide +kernel, by decide +kernel⟩, by decide +kernel⟩
abbrev YX12_posts : Yv := (yX12_posts, cX12_posts, 4, some .int, 4, 98)
def f_X12_posts_B39 (N : Nat) (rec : Int32 → Int32 → Int32 → Sg → Option (Int32 × Sg)) (a1 a2 a3 : Int32) (σ : Sg) : Option (Int32 × Sg) :=
  if a3 < 0 then (some (a2, σ)) else ((f_X12_has N a3 a1 σ).bind (fun r8 => (f_X12_firstBut N a1 (-1) r8).bind (fun r10 => rec a1 a2 r10.1 r10.2)))
def f_X12_posts_L39 (N : Nat) : Nat → Int32 → Int32 → Int32 → Sg → Option (Int32 × Sg)
  | 0 => fun _ _ _ _ => none
  | k + 1 => fun a1 a2 a3 σ => f_X12_posts_B39 N (f_X12_posts_L39 N k) a1 a2 a3 σ
def f_X12_posts_J38 (N : Nat) (a1 a2 b0 : Int32) (σ : Sg) : Option (Int32 × Sg) :=
  (f_X12_posts_L39 N N a1 a2 b0 σ).bind (fun s12 => some (s12.1, s12.2))
def f_X12_posts (N : Nat) (x1 : Int32) (σ : Sg) : Option (Int32 × Sg) :=
  (f_X12_goesTo N x1 σ).bind (fun r1 => if 0 ≤ r1.1 then ((f_X12_has N r1.1 x1 r1.2).bind (fun r4 => if (r4 73 11) = 4 then ((f_X12_firstBut N x1 (-1) r4).bind (fun r14 => f_X12_posts_J38 N x1 r1.1 r14.1 r14.2)) else (f_X12_posts_J38 N x1 r1.1 (-9) r4))) else (some ((-9), r1.2)))
set_option maxHeartbeats 4000000 in
set_option maxRecDepth 20000 in
theorem m_X12_posts (l : Launch) (E : Ev) (N : Nat) (x1 : Int32) (σ : Sg) (R : Int32 × Sg) (hf : f_X12_posts N x1 σ = some R) : Ct l E YX12_posts [.ref (E.2.1 73), .int x1] σ (some (.int R.1), R.2) := by
  refine ct_of (by decide +kernel) (Nat.le_of_ble_eq_true rfl) [(0, .ref (E.2.1 73)), (1, .int x1)] rfl (fun X hX C => ?_)
  have hL39 : ∀ (k : Nat) (a1 a2 a3 : Int32) (σ : Sg) (Q39 : Int32 × Sg), f_X12_posts_L39 N k a1 a2 a3 σ = some Q39 → (Zz E X YX12_posts (some (.int R.1), R.2) Q39.2 59 [(2, .int Q39.1)] []) → Zz E X YX12_posts (some (.int R.1), R.2) σ 39 [(0, .ref (E.2.1 73)), (1, .int a1), (2, .int a2), (3, .int a3)] [] := by
    intro k
    induction k with
    | zero =>
      intro a1 a2 a3 σ Q39 hf
      have hf : (none : Option (Int32 × Sg)) = some Q39 := hf
      cases hf
    | succ k ih =>
      intro a1 a2 a3 σ Q39 hf hx39
      have hf : f_X12_posts_B39 N (f_X12_posts_L39 N k) a1 a2 a3 σ = some Q39 := hf
      unfold f_X12_posts_B39 at hf
      refine z_iload_n C dX12_posts_39 3 rfl ?_
      refine z_if_lt (tgt := 59) C dX12_posts_40 (by decide) (fun h7 => ?_) (fun h7 => ?_)
      · replace hf := ifp hf h7
        refine z_sub [(2, .int a2)] [2] rfl ?_
        obtain rfl := Option.some.inj hf
        exact hx39
      · replace hf := ifn hf h7
        refine z_aload_n C dX12_posts_43 0 rfl ?_
        refine z_iload_n C dX12_posts_44 3 rfl ?_
        refine z_iload_n C dX12_posts_45 1 rfl ?_
        obtain ⟨r8, h9, hf⟩ := bd_some hf
        refine z_callV (Y2 := YX12_has) (CC := RX12) (T := TX12) (N := 39) (ci := 11) (As := [.int a3, .int a1]) C lk_X12_has (by decide) wc_mo rfl t_1082 t_1084 p_44 (Nat.le_of_ble_eq_true rfl) (Nat.le_of_ble_eq_true rfl) dX12_posts_46 (Nat.le_of_ble_eq_true rfl) rfl rfl (m_X12_has X.2.1 E N a3 a1 σ _ h9) ?_
        change Zz E X YX12_posts (some (.int R.1), R.2) r8 _ _ []
        refine z_aload_n C dX12_posts_49 0 rfl ?_
        refine z_iload_n C dX12_posts_50 1 rfl ?_
        refine z_iconst (v := (-1)) C dX12_posts_51 (by decide) ?_
        obtain ⟨r10, h11, hf⟩ := bd_some hf
        refine z_callV (Y2 := YX12_firstBut) (CC := RX12) (T := TX12) (N := 39) (ci := 11) (As := [.int a1, .int (-1)]) C lk_X12_firstBut (by decide) wc_mo rfl t_1070 t_1072 p_42 (Nat.le_of_ble_eq_true rfl) (Nat.le_of_ble_eq_true rfl) dX12_posts_52 (Nat.le_of_ble_eq_true rfl) rfl rfl (m_X12_firstBut X.2.1 E N a1 (-1) r8 _ h11) ?_
        change Zz E X YX12_posts (some (.int R.1), R.2) r10.2 _ _ [.int r10.1]
        refine z_istore_n (lv' := [(3, .int r10.1), (0, .ref (E.2.1 73)), (1, .int a1), (2, .int a2)]) C dX12_posts_55 (by decide) rfl ?_
        refine z_goto (tgt := 39) C dX12_posts_56 (by decide) ?_
        refine z_sub [(0, .ref (E.2.1 73)), (1, .int a1), (2, .int a2), (3, .int r10.1)] [1, 2, 3, 0] rfl ?_
        exact ih a1 a2 r10.1 r10.2 _ hf hx39
  have hJ38 : ∀ (a1 a2 b0 : Int32) (σ : Sg), f_X12_posts_J38 N a1 a2 b0 σ = some R → Zz E X YX12_posts (some (.int R.1), R.2) σ 38 [(0, .ref (E.2.1 73)), (1, .int a1), (2, .int a2)] [.int b0] := by
    intro a1 a2 b0 σ hf
    unfold f_X12_posts_J38 at hf
    refine z_istore_n (lv' := [(3, .int b0), (0, .ref (E.2.1 73)), (1, .int a1), (2, .int a2)]) C dX12_posts_38 (by decide) rfl ?_
    refine z_sub [(0, .ref (E.2.1 73)), (1, .int a1), (2, .int a2), (3, .int b0)] [1, 2, 3, 0] rfl ?_
    obtain ⟨s12, h13, hf⟩ := bd_some hf
    refine hL39 N a1 a2 b0 σ _ h13 ?_
    refine z_iload_n C dX12_posts_59 0 rfl ?_
    exact z_iret C dX12_posts_60 rfl (by rw [← Option.some.inj hf])
  unfold f_X12_posts at hf
  refine z_aload_n C dX12_posts_0 0 rfl ?_
  refine z_iload_n C dX12_posts_1 1 rfl ?_
  obtain ⟨r1, h2, hf⟩ := bd_some hf
  refine z_callV (Y2 := YX12_goesTo) (CC := RX12) (T := TX12) (N := 39) (ci := 11) (As := [.int x1]) C lk_X12_goesTo (by decide) wc_mo rfl t_1066 t_1068 p_41 (Nat.le_of_ble_eq_true rfl) (Nat.le_of_ble_eq_true rfl) dX12_posts_2 (Nat.le_of_ble_eq_true rfl) rfl rfl (m_X12_goesTo X.2.1 E N x1 σ _ h2) ?_
  change Zz E X YX12_posts (some (.int R.1), R.2) r1.2 _ _ [.int r1.1]
  refine z_istore_n (lv' := [(2, .int r1.1), (0, .ref (E.2.1 73)), (1, .int x1)]) C dX12_posts_5 (by decide) rfl ?_
  refine z_iload_n C dX12_posts_6 0 rfl ?_
  refine z_if_ge (tgt := 13) C dX12_posts_7 (by decide) (fun h3 => ?_) (fun h3 => ?_)
  · replace hf := ifp hf h3
    refine z_aload_n C dX12_posts_13 1 rfl ?_
    refine z_iload_n C dX12_posts_14 0 rfl ?_
    refine z_iload_n C dX12_posts_15 2 rfl ?_
    obtain ⟨r4, h5, hf⟩ := bd_some hf
    refine z_callV (Y2 := YX12_has) (CC := RX12) (T := TX12) (N := 39) (ci := 11) (As := [.int r1.1, .int x1]) C lk_X12_has (by decide) wc_mo rfl t_1082 t_1084 p_44 (Nat.le_of_ble_eq_true rfl) (Nat.le_of_ble_eq_true rfl) dX12_posts_16 (Nat.le_of_ble_eq_true rfl) rfl rfl (m_X12_has X.2.1 E N r1.1 x1 r1.2 _ h5) ?_
    change Zz E X YX12_posts (some (.int R.1), R.2) r4 _ _ []
    refine z_aload_n C dX12_posts_19 1 rfl ?_
    refine z_get (v := .int (r4 73 11)) (T := TX12) (N := 39) (ci := 11) C (by decide) wc_mo rfl in_X12 11 (by decide) t_856 rfl dX12_posts_20 ?_
    refine z_iconst (v := 4) C dX12_posts_23 (by decide) ?_
    refine z_icmp_ne (tgt := 36) C dX12_posts_24 (by decide) (fun h6 => ?_) (fun h6 => ?_)
    · replace hf := ifn hf h6
      refine z_bipush (v := (-9)) C dX12_posts_36 (by decide) ?_
      refine z_sub [(0, .ref (E.2.1 73)), (1, .int x1), (2, .int r1.1)] [1, 2, 0] rfl ?_
      exact hJ38 x1 r1.1 (-9) r4 hf
    · replace hf := ifp hf h6
      refine z_aload_n C dX12_posts_27 1 rfl ?_
      refine z_iload_n C dX12_posts_28 2 rfl ?_
      refine z_iconst (v := (-1)) C dX12_posts_29 (by decide) ?_
      obtain ⟨r14, h15, hf⟩ := bd_some hf
      refine z_callV (Y2 := YX12_firstBut) (CC := RX12) (T := TX12) (N := 39) (ci := 11) (As := [.int x1, .int (-1)]) C lk_X12_firstBut (by decide) wc_mo rfl t_1070 t_1072 p_42 (Nat.le_of_ble_eq_true rfl) (Nat.le_of_ble_eq_true rfl) dX12_posts_30 (Nat.le_of_ble_eq_true rfl) rfl rfl (m_X12_firstBut X.2.1 E N x1 (-1) r4 _ h15) ?_
      change Zz E X YX12_posts (some (.int R.1), R.2) r14.2 _ _ [.int r14.1]
      refine z_goto (tgt := 38) C dX12_posts_33 (by decide) ?_
      refine z_sub [(0, .ref (E.2.1 73)), (1, .int x1), (2, .int r1.1)] [1, 2, 0] rfl ?_
      exact hJ38 x1 r1.1 r14.1 r14.2 hf
  · replace hf := ifn hf h3
    refine z_bipush (v := (-9)) C dX12_posts_10 (by decide) ?_
    exact z_iret C dX12_posts_12 rfl (by rw [← Option.some.inj hf])
theorem lk_X12_posts {Y : Yv} : Lk Y YX12_posts 1 := ⟨t_1081, t_13, ⟨by decide +kernel, by decide +kernel⟩, by decide +kernel⟩
abbrev YX12_sumOf : Yv := (yX12_sumOf, cX12_sumOf, 3, some .int, 0, 0)
def f_X12_sumOf_B4 (N : Nat) (rec : Int32 → Int32 → Sg → Option (Int32 × Sg)) (a1 a2 : Int32) (σ : Sg) : Option (Int32 × Sg) :=
  if ((4 : Int32) * (σ 73 9)) ≤ a2 then (some (a1, σ)) else (ga a2 24 (nm (a1 + (σ 75 (Int32.toNatClampNeg a2))) (fun v3 => rec v3 (a2 + 1) σ)))
def f_X12_sumOf_L4 (N : Nat) : Nat → Int32 → Int32 → Sg → Option (Int32 × Sg)
  | 0 => fun _ _ _ => none
  | k + 1 => fun a1 a2 σ => f_X12_sumOf_B4 N (f_X12_sumOf_L4 N k) a1 a2 σ
def f_X12_sumOf (N : Nat) (σ : Sg) : Option (Int32 × Sg) :=
  (f_X12_sumOf_L4 N N 0 0 σ).bind (fun s5 => some (s5.1, s5.2))
set_option maxHeartbeats 4000000 in
set_option maxRecDepth 20000 in
theorem m_X12_sumOf (l : Launch) (E : Ev) (N : Nat) (σ : Sg) (R : Int32 × Sg) (hf : f_X12_sumOf N σ = some R) : Ct l E YX12_sumOf [.ref (E.2.1 73)] σ (some (.int R.1), R.2) := by
  refine ct_of (by decide +kernel) (Nat.le_of_ble_eq_true rfl) [(0, .ref (E.2.1 73))] rfl (fun X hX C => ?_)
  have hL4 : ∀ (k : Nat) (a1 a2 : Int32) (σ : Sg) (Q4 : Int32 × Sg), f_X12_sumOf_L4 N k a1 a2 σ = some Q4 → (Zz E X YX12_sumOf (some (.int R.1), R.2) Q4.2 29 [(1, .int Q4.1)] []) → Zz E X YX12_sumOf (some (.int R.1), R.2) σ 4 [(0, .ref (E.2.1 73)), (1, .int a1), (2, .int a2)] [] := by
    intro k
    induction k with
    | zero =>
      intro a1 a2 σ Q4 hf
      have hf : (none : Option (Int32 × Sg)) = some Q4 := hf
      cases hf
    | succ k ih =>
      intro a1 a2 σ Q4 hf hx4
      have hf : f_X12_sumOf_B4 N (f_X12_sumOf_L4 N k) a1 a2 σ = some Q4 := hf
      unfold f_X12_sumOf_B4 at hf
      refine z_iload_n C dX12_sumOf_4 2 rfl ?_
      refine z_iconst (v := 4) C dX12_sumOf_5 (by decide) ?_
      refine z_aload_n C dX12_sumOf_6 0 rfl ?_
      refine z_get (v := .int (σ 73 9)) (T := TX12) (N := 39) (ci := 11) C (by decide) wc_mo rfl in_X12 9 (by decide) t_854 rfl dX12_sumOf_7 ?_
      refine z_imul C dX12_sumOf_10 ?_
      refine z_icmp_ge (tgt := 29) C dX12_sumOf_11 (by decide) (fun h1 => ?_) (fun h1 => ?_)
      · replace hf := ifp hf h1
        refine z_sub [(1, .int a1)] [1] rfl ?_
        obtain rfl := Option.some.inj hf
        exact hx4
      · replace hf := ifn hf h1
        refine z_iload_n C dX12_sumOf_14 1 rfl ?_
        refine z_aload_n C dX12_sumOf_15 0 rfl ?_
        refine z_get (v := .ref (E.2.1 75)) (T := TX12) (N := 39) (ci := 11) C (by decide) wc_mo rfl in_X12 1 (by decide) t_846 rfl dX12_sumOf_16 ?_
        refine z_iload_n C dX12_sumOf_19 2 rfl ?_
        obtain ⟨h2, hf⟩ := ga_some hf
        refine z_iald C ka_75 h2 dX12_sumOf_20 ?_
        refine z_iadd C dX12_sumOf_21 ?_
        obtain ⟨v3, h4, hf⟩ := nm_some hf
        rw [← h4]
        refine z_istore_n (lv' := [(1, .int v3), (0, .ref (E.2.1 73)), (2, .int a2)]) C dX12_sumOf_22 (by decide) rfl ?_
        refine z_iinc (v := (a2 + 1)) (lv' := [(2, .int (a2 + 1)), (1, .int v3), (0, .ref (E.2.1 73))]) C dX12_sumOf_23 2 rfl rfl (by decide) rfl ?_
        refine z_goto (tgt := 4) C dX12_sumOf_26 (by decide) ?_
        refine z_sub [(0, .ref (E.2.1 73)), (1, .int v3), (2, .int (a2 + 1))] [2, 1, 0] rfl ?_
        exact ih v3 (a2 + 1) σ _ hf hx4
  unfold f_X12_sumOf at hf
  refine z_iconst (v := 0) C dX12_sumOf_0 (by decide) ?_
  refine z_istore_n (lv' := [(1, .int 0), (0, .ref (E.2.1 73))]) C dX12_sumOf_1 (by decide) rfl ?_
  refine z_iconst (v := 0) C dX12_sumOf_2 (by decide) ?_
  refine z_istore_n (lv' := [(2, .int 0), (1, .int 0), (0, .ref (E.2.1 73))]) C dX12_sumOf_3 (by decide) rfl ?_
  refine z_sub [(0, .ref (E.2.1 73)), (1, .int 0), (2, .int 0)] [2, 1, 0] rfl ?_
  obtain ⟨s5, h6, hf⟩ := bd_some hf
  refine hL4 N 0 0 σ _ h6 ?_
  refine z_iload_n C dX12_sumOf_29 0 rfl ?_
  exact z_iret C dX12_sumOf_30 rfl (by rw [← Option.some.inj hf])
theorem lk_X12_sumOf {Y : Yv} : Lk Y YX12_sumOf 0 := ⟨t_1097, t_13, ⟨by decide +kernel, by decide +kernel⟩, by decide +kernel⟩
abbrev YX12_grows : Yv := (yX12_grows, cX12_grows, 3, none, 0, 0)
def f_X12_grows_J45 (N : Nat) (rec : Int32 → Sg → Option (Sg)) (a1 b0 b1 : Int32) (σ : Sg) : Option (Sg) :=
  ga b1 24 (nm (sgs σ 75 (Int32.toNatClampNeg b1) b0) (fun σ8 => rec (a1 + 1) σ8))
def f_X12_grows_B2 (N : Nat) (rec : Int32 → Sg → Option (Sg)) (a1 : Int32) (σ : Sg) : Option (Sg) :=
  if ((4 : Int32) * (σ 73 9)) ≤ a1 then (some σ) else (ga a1 24 (ga (a1 / 4) 6 (nm ((σ 75 (Int32.toNatClampNeg a1)) + (σ 76 (Int32.toNatClampNeg (a1 / 4)))) (fun v4 => if v4 ≤ 30 then (f_X12_grows_J45 N rec a1 v4 a1 σ) else (f_X12_grows_J45 N rec a1 30 a1 σ)))))
def f_X12_grows_L2 (N : Nat) : Nat → Int32 → Sg → Option (Sg)
  | 0 => fun _ _ => none
  | k + 1 => fun a1 σ => f_X12_grows_B2 N (f_X12_grows_L2 N k) a1 σ
def f_X12_grows (N : Nat) (σ : Sg) : Option (Sg) :=
  (f_X12_grows_L2 N N 0 σ).bind (fun s10 => some s10)
set_option maxHeartbeats 4000000 in
set_option maxRecDepth 20000 in
theorem m_X12_grows (l : Launch) (E : Ev) (N : Nat) (σ : Sg) (R : Sg) (hf : f_X12_grows N σ = some R) : Ct l E YX12_grows [.ref (E.2.1 73)] σ (none, R) := by
  refine ct_of (by decide +kernel) (Nat.le_of_ble_eq_true rfl) [(0, .ref (E.2.1 73))] rfl (fun X hX C => ?_)
  have hL2 : ∀ (k : Nat) (a1 : Int32) (σ : Sg) (Q2 : Sg), f_X12_grows_L2 N k a1 σ = some Q2 → (Zz E X YX12_grows (none, R) Q2 52 [] []) → Zz E X YX12_grows (none, R) σ 2 [(0, .ref (E.2.1 73)), (1, .int a1)] [] := by
    intro k
    induction k with
    | zero =>
      intro a1 σ Q2 hf
      have hf : (none : Option (Sg)) = some Q2 := hf
      cases hf
    | succ k ih =>
      intro a1 σ Q2 hf hx2
      have hf : f_X12_grows_B2 N (f_X12_grows_L2 N k) a1 σ = some Q2 := hf
      have hJ45 : ∀ (a1 b0 b1 : Int32) (σ : Sg), f_X12_grows_J45 N (f_X12_grows_L2 N k) a1 b0 b1 σ = some Q2 → Zz E X YX12_grows (none, R) σ 45 [(0, .ref (E.2.1 73)), (1, .int a1)] [.int b0, .int b1, .ref (E.2.1 75)] := by
        intro a1 b0 b1 σ hf
        unfold f_X12_grows_J45 at hf
        obtain ⟨h7, hf⟩ := ga_some hf
        obtain ⟨σ8, h9, hf⟩ := nm_some hf
        refine z_iast C ka_75 h7 dX12_grows_45 ?_
        rw [← h9]
        refine z_iinc (v := (a1 + 1)) (lv' := [(1, .int (a1 + 1)), (0, .ref (E.2.1 73))]) C dX12_grows_46 1 rfl rfl (by decide) rfl ?_
        refine z_goto (tgt := 2) C dX12_grows_49 (by decide) ?_
        refine z_sub [(0, .ref (E.2.1 73)), (1, .int (a1 + 1))] [1, 0] rfl ?_
        exact ih (a1 + 1) σ8 _ hf hx2
      unfold f_X12_grows_B2 at hf
      refine z_iload_n C dX12_grows_2 1 rfl ?_
      refine z_iconst (v := 4) C dX12_grows_3 (by decide) ?_
      refine z_aload_n C dX12_grows_4 0 rfl ?_
      refine z_get (v := .int (σ 73 9)) (T := TX12) (N := 39) (ci := 11) C (by decide) wc_mo rfl in_X12 9 (by decide) t_854 rfl dX12_grows_5 ?_
      refine z_imul C dX12_grows_8 ?_
      refine z_icmp_ge (tgt := 52) C dX12_grows_9 (by decide) (fun h1 => ?_) (fun h1 => ?_)
      · replace hf := ifp hf h1
        refine z_sub [] [] rfl ?_
        obtain rfl := Option.some.inj hf
        exact hx2
      · replace hf := ifn hf h1
        refine z_aload_n C dX12_grows_12 0 rfl ?_
        refine z_get (v := .ref (E.2.1 75)) (T := TX12) (N := 39) (ci := 11) C (by decide) wc_mo rfl in_X12 1 (by decide) t_846 rfl dX12_grows_13 ?_
        refine z_iload_n C dX12_grows_16 1 rfl ?_
        obtain ⟨h2, hf⟩ := ga_some hf
        refine z_iald C ka_75 h2 dX12_grows_17 ?_
        refine z_aload_n C dX12_grows_18 0 rfl ?_
        refine z_get (v := .ref (E.2.1 76)) (T := TX12) (N := 39) (ci := 11) C (by decide) wc_mo rfl in_X12 2 (by decide) t_847 rfl dX12_grows_19 ?_
        refine z_iload_n C dX12_grows_22 1 rfl ?_
        refine z_iconst (v := 4) C dX12_grows_23 (by decide) ?_
        refine z_idiv C dX12_grows_24 (by decide) ?_
        obtain ⟨h3, hf⟩ := ga_some hf
        refine z_iald C ka_76 h3 dX12_grows_25 ?_
        refine z_iadd C dX12_grows_26 ?_
        obtain ⟨v4, h5, hf⟩ := nm_some hf
        rw [← h5]
        refine z_istore_n (lv' := [(2, .int v4), (0, .ref (E.2.1 73)), (1, .int a1)]) C dX12_grows_27 (by decide) rfl ?_
        refine z_aload_n C dX12_grows_28 1 rfl ?_
        refine z_get (v := .ref (E.2.1 75)) (T := TX12) (N := 39) (ci := 11) C (by decide) wc_mo rfl in_X12 1 (by decide) t_846 rfl dX12_grows_29 ?_
        refine z_iload_n C dX12_grows_32 2 rfl ?_
        refine z_iload_n C dX12_grows_33 0 rfl ?_
        refine z_bipush (v := 30) C dX12_grows_34 (by decide) ?_
        refine z_icmp_le (tgt := 44) C dX12_grows_36 (by decide) (fun h6 => ?_) (fun h6 => ?_)
        · replace hf := ifp hf h6
          refine z_iload_n C dX12_grows_44 0 rfl ?_
          refine z_sub [(0, .ref (E.2.1 73)), (1, .int a1)] [1, 2] rfl ?_
          exact hJ45 a1 v4 a1 σ hf
        · replace hf := ifn hf h6
          refine z_bipush (v := 30) C dX12_grows_39 (by decide) ?_
          refine z_goto (tgt := 45) C dX12_grows_41 (by decide) ?_
          refine z_sub [(0, .ref (E.2.1 73)), (1, .int a1)] [1, 2] rfl ?_
          exact hJ45 a1 30 a1 σ hf
  unfold f_X12_grows at hf
  refine z_iconst (v := 0) C dX12_grows_0 (by decide) ?_
  refine z_istore_n (lv' := [(1, .int 0), (0, .ref (E.2.1 73))]) C dX12_grows_1 (by decide) rfl ?_
  refine z_sub [(0, .ref (E.2.1 73)), (1, .int 0)] [1, 0] rfl ?_
  obtain ⟨s10, h11, hf⟩ := bd_some hf
  refine hL2 N 0 σ _ h11 ?_
  exact z_vret C dX12_grows_52 rfl (by rw [← Option.some.inj hf])
theorem lk_X12_grows {Y : Yv} : Lk Y YX12_grows 0 := ⟨t_1093, t_13, ⟨by decide +kernel, by decide +kernel⟩, by decide +kernel⟩
abbrev YX12_need : Yv := (yX12_need, cX12_need, 3, some .int, 1, 22)
def f_X12_need_J30 (N : Nat) (σ : Sg) : Option (Int32 × Sg) :=
  (f_X12_no N (-1) σ).bind (fun r4 => some (r4.1, r4.2))
def f_X12_need (N : Nat) (x1 x2 : Int32) (σ : Sg) : Option (Int32 × Sg) :=
  (f_X12_isPerson N x1 σ).bind (fun r1 => if r1.1 = 0 then (f_X12_need_J30 N r1.2) else ((f_X12_isIn N x2 0 3 r1.2).bind (fun r6 => if r6.1 = 0 then (f_X12_need_J30 N r6.2) else (ga (((4 : Int32) * x1) + x2) 24 (some ((r6.2 75 (Int32.toNatClampNeg (((4 : Int32) * x1) + x2))), r6.2))))))
set_option maxHeartbeats 4000000 in
set_option maxRecDepth 20000 in
theorem m_X12_need (l : Launch) (E : Ev) (N : Nat) (x1 x2 : Int32) (σ : Sg) (R : Int32 × Sg) (hf : f_X12_need N x1 x2 σ = some R) : Ct l E YX12_need [.ref (E.2.1 73), .int x1, .int x2] σ (some (.int R.1), R.2) := by
  refine ct_of (by decide +kernel) (Nat.le_of_ble_eq_true rfl) [(0, .ref (E.2.1 73)), (1, .int x1), (2, .int x2)] rfl (fun X hX C => ?_)
  have hJ30 : ∀ (σ : Sg), f_X12_need_J30 N σ = some R → Zz E X YX12_need (some (.int R.1), R.2) σ 30 [(0, .ref (E.2.1 73))] [] := by
    intro σ hf
    unfold f_X12_need_J30 at hf
    refine z_aload_n C dX12_need_30 0 rfl ?_
    refine z_iconst (v := (-1)) C dX12_need_31 (by decide) ?_
    obtain ⟨r4, h5, hf⟩ := bd_some hf
    refine z_callV (Y2 := YX12_no) (CC := RX12) (T := TX12) (N := 39) (ci := 11) (As := [.int (-1)]) C lk_X12_no (by decide) wc_mo rfl t_970 t_972 p_27 (Nat.le_of_ble_eq_true rfl) (Nat.le_of_ble_eq_true rfl) dX12_need_32 (Nat.le_of_ble_eq_true rfl) rfl rfl (m_X12_no X.2.1 E N (-1) σ _ h5) ?_
    change Zz E X YX12_need (some (.int R.1), R.2) r4.2 _ _ [.int r4.1]
    exact z_iret C dX12_need_35 rfl (by rw [← Option.some.inj hf])
  unfold f_X12_need at hf
  refine z_aload_n C dX12_need_0 0 rfl ?_
  refine z_iload_n C dX12_need_1 1 rfl ?_
  obtain ⟨r1, h2, hf⟩ := bd_some hf
  refine z_callV (Y2 := YX12_isPerson) (CC := RX12) (T := TX12) (N := 39) (ci := 11) (As := [.int x1]) C lk_X12_isPerson (by decide) wc_mo rfl t_1024 t_1026 p_38 (Nat.le_of_ble_eq_true rfl) (Nat.le_of_ble_eq_true rfl) dX12_need_2 (Nat.le_of_ble_eq_true rfl) rfl rfl (m_X12_isPerson X.2.1 E N x1 σ _ h2) ?_
  change Zz E X YX12_need (some (.int R.1), R.2) r1.2 _ _ [.int r1.1]
  refine z_if_eq (tgt := 30) C dX12_need_5 (by decide) (fun h3 => ?_) (fun h3 => ?_)
  · replace hf := ifp hf h3
    refine z_sub [(0, .ref (E.2.1 73))] [0] rfl ?_
    exact hJ30 r1.2 hf
  · replace hf := ifn hf h3
    refine z_iload_n C dX12_need_8 2 rfl ?_
    refine z_iconst (v := 0) C dX12_need_9 (by decide) ?_
    refine z_iconst (v := 3) C dX12_need_10 (by decide) ?_
    obtain ⟨r6, h7, hf⟩ := bd_some hf
    refine z_callS (Y2 := YX12_isIn) (As := [.int x2, .int 0, .int 3]) C lk_X12_isIn t_994 t_995 (Nat.le_of_ble_eq_true rfl) (Nat.le_of_ble_eq_true rfl) dX12_need_11 (Nat.le_of_ble_eq_true rfl) rfl rfl (m_X12_isIn X.2.1 E N x2 0 3 r1.2 _ h7) ?_
    change Zz E X YX12_need (some (.int R.1), R.2) r6.2 _ _ [.int r6.1]
    refine z_if_eq (tgt := 30) C dX12_need_14 (by decide) (fun h8 => ?_) (fun h8 => ?_)
    · replace hf := ifp hf h8
      refine z_sub [(0, .ref (E.2.1 73))] [0] rfl ?_
      exact hJ30 r6.2 hf
    · replace hf := ifn hf h8
      refine z_aload_n C dX12_need_17 0 rfl ?_
      refine z_get (v := .ref (E.2.1 75)) (T := TX12) (N := 39) (ci := 11) C (by decide) wc_mo rfl in_X12 1 (by decide) t_846 rfl dX12_need_18 ?_
      refine z_iconst (v := 4) C dX12_need_21 (by decide) ?_
      refine z_iload_n C dX12_need_22 1 rfl ?_
      refine z_imul C dX12_need_23 ?_
      refine z_iload_n C dX12_need_24 2 rfl ?_
      refine z_iadd C dX12_need_25 ?_
      obtain ⟨h9, hf⟩ := ga_some hf
      refine z_iald C ka_75 h9 dX12_need_26 ?_
      refine z_goto (tgt := 35) C dX12_need_27 (by decide) ?_
      exact z_iret C dX12_need_35 rfl (by rw [← Option.some.inj hf])
theorem lk_X12_need {Y : Yv} : Lk Y YX12_need 2 := ⟨t_1031, t_13, ⟨by decide +kernel, by decide +kernel⟩, by decide +kernel⟩
abbrev YX12_writer : Yv := (yX12_writer, cX12_writer, 3, some .int, 1, 22)
def f_X12_writer (N : Nat) (x1 x2 : Int32) (σ : Sg) : Option (Int32 × Sg) :=
  (f_X12_isWriter N x1 σ).bind (fun r1 => if r1.1 = 0 then ((f_X12_no N (-1) r1.2).bind (fun r14 => some (r14.1, r14.2))) else ((f_X12_isIn N x2 0 2 r1.2).bind (fun r4 => if r4.1 = 0 then ((f_X12_no N (-2) r4.2).bind (fun r12 => some (r12.1, r12.2))) else (if x2 = 0 then (ga x1 4 (some ((r4.2 77 (Int32.toNatClampNeg x1)), r4.2))) else (if x2 = 1 then (ga x1 4 (some ((r4.2 78 (Int32.toNatClampNeg x1)), r4.2))) else (ga x1 4 (some ((r4.2 79 (Int32.toNatClampNeg x1)), r4.2))))))))
set_option maxHeartbeats 4000000 in
set_option maxRecDepth 20000 in
theorem m_X12_writer (l : Launch) (E : Ev) (N : Nat) (x1 x2 : Int32) (σ : Sg) (R : Int32 × Sg) (hf : f_X12_writer N x1 x2 σ = some R) : Ct l E YX12_writer [.ref (E.2.1 73), .int x1, .int x2] σ (some (.int R.1), R.2) := by
  refine ct_of (by decide +kernel) (Nat.le_of_ble_eq_true rfl) [(0, .ref (E.2.1 73)), (1, .int x1), (2, .int x2)] rfl (fun X hX C => ?_)
  unfold f_X12_writer at hf
  refine z_aload_n C dX12_writer_0 0 rfl ?_
  refine z_iload_n C dX12_writer_1 1 rfl ?_
  obtain ⟨r1, h2, hf⟩ := bd_some hf
  refine z_callV (Y2 := YX12_isWriter) (CC := RX12) (T := TX12) (N := 39) (ci := 11) (As := [.int x1]) C lk_X12_isWriter (by decide) wc_mo rfl t_1036 t_1038 p_39 (Nat.le_of_ble_eq_true rfl) (Nat.le_of_ble_eq_true rfl) dX12_writer_2 (Nat.le_of_ble_eq_true rfl) rfl rfl (m_X12_isWriter X.2.1 E N x1 σ _ h2) ?_
  change Zz E X YX12_writer (some (.int R.1), R.2) r1.2 _ _ [.int r1.1]
  refine z_if_ne (tgt := 14) C dX12_writer_5 (by decide) (fun h3 => ?_) (fun h3 => ?_)
  · replace hf := ifn hf h3
    refine z_iload_n C dX12_writer_14 2 rfl ?_
    refine z_iconst (v := 0) C dX12_writer_15 (by decide) ?_
    refine z_iconst (v := 2) C dX12_writer_16 (by decide) ?_
    obtain ⟨r4, h5, hf⟩ := bd_some hf
    refine z_callS (Y2 := YX12_isIn) (As := [.int x2, .int 0, .int 2]) C lk_X12_isIn t_994 t_995 (Nat.le_of_ble_eq_true rfl) (Nat.le_of_ble_eq_true rfl) dX12_writer_17 (Nat.le_of_ble_eq_true rfl) rfl rfl (m_X12_isIn X.2.1 E N x2 0 2 r1.2 _ h5) ?_
    change Zz E X YX12_writer (some (.int R.1), R.2) r4.2 _ _ [.int r4.1]
    refine z_if_ne (tgt := 30) C dX12_writer_20 (by decide) (fun h6 => ?_) (fun h6 => ?_)
    · replace hf := ifn hf h6
      refine z_iload_n C dX12_writer_30 2 rfl ?_
      refine z_if_ne (tgt := 43) C dX12_writer_31 (by decide) (fun h7 => ?_) (fun h7 => ?_)
      · replace hf := ifn hf h7
        refine z_iload_n C dX12_writer_43 2 rfl ?_
        refine z_iconst (v := 1) C dX12_writer_44 (by decide) ?_
        refine z_icmp_ne (tgt := 57) C dX12_writer_45 (by decide) (fun h8 => ?_) (fun h8 => ?_)
        · replace hf := ifn hf h8
          refine z_aload_n C dX12_writer_57 0 rfl ?_
          refine z_get (v := .ref (E.2.1 79)) (T := TX12) (N := 39) (ci := 11) C (by decide) wc_mo rfl in_X12 5 (by decide) t_850 rfl dX12_writer_58 ?_
          refine z_iload_n C dX12_writer_61 1 rfl ?_
          obtain ⟨h9, hf⟩ := ga_some hf
          refine z_iald C ka_79 h9 dX12_writer_62 ?_
          exact z_iret C dX12_writer_63 rfl (by rw [← Option.some.inj hf])
        · replace hf := ifp hf h8
          refine z_aload_n C dX12_writer_48 0 rfl ?_
          refine z_get (v := .ref (E.2.1 78)) (T := TX12) (N := 39) (ci := 11) C (by decide) wc_mo rfl in_X12 4 (by decide) t_849 rfl dX12_writer_49 ?_
          refine z_iload_n C dX12_writer_52 1 rfl ?_
          obtain ⟨h10, hf⟩ := ga_some hf
          refine z_iald C ka_78 h10 dX12_writer_53 ?_
          refine z_goto (tgt := 63) C dX12_writer_54 (by decide) ?_
          exact z_iret C dX12_writer_63 rfl (by rw [← Option.some.inj hf])
      · replace hf := ifp hf h7
        refine z_aload_n C dX12_writer_34 0 rfl ?_
        refine z_get (v := .ref (E.2.1 77)) (T := TX12) (N := 39) (ci := 11) C (by decide) wc_mo rfl in_X12 3 (by decide) t_848 rfl dX12_writer_35 ?_
        refine z_iload_n C dX12_writer_38 1 rfl ?_
        obtain ⟨h11, hf⟩ := ga_some hf
        refine z_iald C ka_77 h11 dX12_writer_39 ?_
        refine z_goto (tgt := 63) C dX12_writer_40 (by decide) ?_
        exact z_iret C dX12_writer_63 rfl (by rw [← Option.some.inj hf])
    · replace hf := ifp hf h6
      refine z_aload_n C dX12_writer_23 0 rfl ?_
      refine z_bipush (v := (-2)) C dX12_writer_24 (by decide) ?_
      obtain ⟨r12, h13, hf⟩ := bd_some hf
      refine z_callV (Y2 := YX12_no) (CC := RX12) (T := TX12) (N := 39) (ci := 11) (As := [.int (-2)]) C lk_X12_no (by decide) wc_mo rfl t_970 t_972 p_27 (Nat.le_of_ble_eq_true rfl) (Nat.le_of_ble_eq_true rfl) dX12_writer_26 (Nat.le_of_ble_eq_true rfl) rfl rfl (m_X12_no X.2.1 E N (-2) r4.2 _ h13) ?_
      change Zz E X YX12_writer (some (.int R.1), R.2) r12.2 _ _ [.int r12.1]
      exact z_iret C dX12_writer_29 rfl (by rw [← Option.some.inj hf])
  · replace hf := ifp hf h3
    refine z_aload_n C dX12_writer_8 0 rfl ?_
    refine z_iconst (v := (-1)) C dX12_writer_9 (by decide) ?_
    obtain ⟨r14, h15, hf⟩ := bd_some hf
    refine z_callV (Y2 := YX12_no) (CC := RX12) (T := TX12) (N := 39) (ci := 11) (As := [.int (-1)]) C lk_X12_no (by decide) wc_mo rfl t_970 t_972 p_27 (Nat.le_of_ble_eq_true rfl) (Nat.le_of_ble_eq_true rfl) dX12_writer_10 (Nat.le_of_ble_eq_true rfl) rfl rfl (m_X12_no X.2.1 E N (-1) r1.2 _ h15) ?_
    change Zz E X YX12_writer (some (.int R.1), R.2) r14.2 _ _ [.int r14.1]
    exact z_iret C dX12_writer_13 rfl (by rw [← Option.some.inj hf])
theorem lk_X12_writer {Y : Yv} : Lk Y YX12_writer 2 := ⟨t_1035, t_13, ⟨by decide +kernel, by decide +kernel⟩, by decide +kernel⟩
abbrev YX12_law : Yv := (yX12_law, cX12_law, 3, some .int, 1, 22)
def f_X12_law (N : Nat) (x1 : Int32) (σ : Sg) : Option (Int32 × Sg) :=
  (f_X12_isIn N x1 0 4 σ).bind (fun r1 => if r1.1 = 0 then ((f_X12_no N (-2) r1.2).bind (fun r6 => some (r6.1, r6.2))) else (nm (sgs r1.2 73 11 x1) (fun σ4 => some ((r1.2 73 11), σ4))))
set_option maxHeartbeats 4000000 in
set_option maxRecDepth 20000 in
theorem m_X12_law (l : Launch) (E : Ev) (N : Nat) (x1 : Int32) (σ : Sg) (R : Int32 × Sg) (hf : f_X12_law N x1 σ = some R) : Ct l E YX12_law [.ref (E.2.1 73), .int x1] σ (some (.int R.1), R.2) := by
  refine ct_of (by decide +kernel) (Nat.le_of_ble_eq_true rfl) [(0, .ref (E.2.1 73)), (1, .int x1)] rfl (fun X hX C => ?_)
  unfold f_X12_law at hf
  refine z_iload_n C dX12_law_0 1 rfl ?_
  refine z_iconst (v := 0) C dX12_law_1 (by decide) ?_
  refine z_iconst (v := 4) C dX12_law_2 (by decide) ?_
  obtain ⟨r1, h2, hf⟩ := bd_some hf
  refine z_callS (Y2 := YX12_isIn) (As := [.int x1, .int 0, .int 4]) C lk_X12_isIn t_994 t_995 (Nat.le_of_ble_eq_true rfl) (Nat.le_of_ble_eq_true rfl) dX12_law_3 (Nat.le_of_ble_eq_true rfl) rfl rfl (m_X12_isIn X.2.1 E N x1 0 4 σ _ h2) ?_
  change Zz E X YX12_law (some (.int R.1), R.2) r1.2 _ _ [.int r1.1]
  refine z_if_ne (tgt := 16) C dX12_law_6 (by decide) (fun h3 => ?_) (fun h3 => ?_)
  · replace hf := ifn hf h3
    refine z_aload_n C dX12_law_16 0 rfl ?_
    refine z_get (v := .int (r1.2 73 11)) (T := TX12) (N := 39) (ci := 11) C (by decide) wc_mo rfl in_X12 11 (by decide) t_856 rfl dX12_law_17 ?_
    refine z_istore_n (lv' := [(2, .int (r1.2 73 11)), (0, .ref (E.2.1 73)), (1, .int x1)]) C dX12_law_20 (by decide) rfl ?_
    refine z_aload_n C dX12_law_21 1 rfl ?_
    refine z_iload_n C dX12_law_22 2 rfl ?_
    obtain ⟨σ4, h5, hf⟩ := nm_some hf
    refine z_put (T := TX12) (N := 39) (ci := 11) (ty := .int) C tyX12 tyX12_ok nmX12 (by decide) wc_mo rfl in_X12 11 (by decide) t_856 rfl rfl rfl rfl (Nat.le_of_ble_eq_true rfl) (pw_X12_11) dX12_law_23 ?_
    rw [← h5]
    refine z_iload_n C dX12_law_26 0 rfl ?_
    exact z_iret C dX12_law_27 rfl (by rw [← Option.some.inj hf])
  · replace hf := ifp hf h3
    refine z_aload_n C dX12_law_9 0 rfl ?_
    refine z_bipush (v := (-2)) C dX12_law_10 (by decide) ?_
    obtain ⟨r6, h7, hf⟩ := bd_some hf
    refine z_callV (Y2 := YX12_no) (CC := RX12) (T := TX12) (N := 39) (ci := 11) (As := [.int (-2)]) C lk_X12_no (by decide) wc_mo rfl t_970 t_972 p_27 (Nat.le_of_ble_eq_true rfl) (Nat.le_of_ble_eq_true rfl) dX12_law_12 (Nat.le_of_ble_eq_true rfl) rfl rfl (m_X12_no X.2.1 E N (-2) r1.2 _ h7) ?_
    change Zz E X YX12_law (some (.int R.1), R.2) r6.2 _ _ [.int r6.1]
    exact z_iret C dX12_law_15 rfl (by rw [← Option.some.inj hf])
theorem lk_X12_law {Y : Yv} : Lk Y YX12_law 1 := ⟨t_1043, t_13, ⟨by decide +kernel, by decide +kernel⟩, by decide +kernel⟩
abbrev YX12_err : Yv := (yX12_err, cX12_err, 4, some .int, 1, 22)
def f_X12_err (N : Nat) (x1 : Int32) (σ : Sg) : Option (Int32 × Sg) :=
  (f_X12_bound N x1 0 50 σ).bind (fun r1 => if r1.1 = 0 then (nm (sgs r1.2 73 12 x1) (fun σ4 => some ((r1.2 73 12), σ4))) else ((f_X12_no N r1.1 r1.2).bind (fun r6 => some (r6.1, r6.2))))
set_option maxHeartbeats 4000000 in
set_option maxRecDepth 20000 in
theorem m_X12_err (l : Launch) (E : Ev) (N : Nat) (x1 : Int32) (σ : Sg) (R : Int32 × Sg) (hf : f_X12_err N x1 σ = some R) : Ct l E YX12_err [.ref (E.2.1 73), .int x1] σ (some (.int R.1), R.2) := by
  refine ct_of (by decide +kernel) (Nat.le_of_ble_eq_true rfl) [(0, .ref (E.2.1 73)), (1, .int x1)] rfl (fun X hX C => ?_)
  unfold f_X12_err at hf
  refine z_iload_n C dX12_err_0 1 rfl ?_
  refine z_iconst (v := 0) C dX12_err_1 (by decide) ?_
  refine z_bipush (v := 50) C dX12_err_2 (by decide) ?_
  obtain ⟨r1, h2, hf⟩ := bd_some hf
  refine z_callS (Y2 := YX12_bound) (As := [.int x1, .int 0, .int 50]) C lk_X12_bound t_967 t_968 (Nat.le_of_ble_eq_true rfl) (Nat.le_of_ble_eq_true rfl) dX12_err_4 (Nat.le_of_ble_eq_true rfl) rfl rfl (m_X12_bound X.2.1 E N x1 0 50 σ _ h2) ?_
  change Zz E X YX12_err (some (.int R.1), R.2) r1.2 _ _ [.int r1.1]
  refine z_istore_n (lv' := [(2, .int r1.1), (0, .ref (E.2.1 73)), (1, .int x1)]) C dX12_err_7 (by decide) rfl ?_
  refine z_iload_n C dX12_err_8 0 rfl ?_
  refine z_if_eq (tgt := 18) C dX12_err_9 (by decide) (fun h3 => ?_) (fun h3 => ?_)
  · replace hf := ifp hf h3
    refine z_aload_n C dX12_err_18 1 rfl ?_
    refine z_get (v := .int (r1.2 73 12)) (T := TX12) (N := 39) (ci := 11) C (by decide) wc_mo rfl in_X12 12 (by decide) t_857 rfl dX12_err_19 ?_
    refine z_istore_n (lv' := [(3, .int (r1.2 73 12)), (2, .int r1.1), (0, .ref (E.2.1 73)), (1, .int x1)]) C dX12_err_22 (by decide) rfl ?_
    refine z_aload_n C dX12_err_23 2 rfl ?_
    refine z_iload_n C dX12_err_24 3 rfl ?_
    obtain ⟨σ4, h5, hf⟩ := nm_some hf
    refine z_put (T := TX12) (N := 39) (ci := 11) (ty := .int) C tyX12 tyX12_ok nmX12 (by decide) wc_mo rfl in_X12 12 (by decide) t_857 rfl rfl rfl rfl (Nat.le_of_ble_eq_true rfl) (pw_X12_12) dX12_err_25 ?_
    rw [← h5]
    refine z_iload_n C dX12_err_28 0 rfl ?_
    exact z_iret C dX12_err_29 rfl (by rw [← Option.some.inj hf])
  · replace hf := ifn hf h3
    refine z_aload_n C dX12_err_12 1 rfl ?_
    refine z_iload_n C dX12_err_13 0 rfl ?_
    obtain ⟨r6, h7, hf⟩ := bd_some hf
    refine z_callV (Y2 := YX12_no) (CC := RX12) (T := TX12) (N := 39) (ci := 11) (As := [.int r1.1]) C lk_X12_no (by decide) wc_mo rfl t_970 t_972 p_27 (Nat.le_of_ble_eq_true rfl) (Nat.le_of_ble_eq_true rfl) dX12_err_14 (Nat.le_of_ble_eq_true rfl) rfl rfl (m_X12_no X.2.1 E N r1.1 r1.2 _ h7) ?_
    change Zz E X YX12_err (some (.int R.1), R.2) r6.2 _ _ [.int r6.1]
    exact z_iret C dX12_err_17 rfl (by rw [← Option.some.inj hf])
theorem lk_X12_err {Y : Yv} : Lk Y YX12_err 1 := ⟨t_1047, t_13, ⟨by decide +kernel, by decide +kernel⟩, by decide +kernel⟩
abbrev YX12_score : Yv := (yX12_score, cX12_score, 3, some .int, 2, 49)
def f_X12_score_J24 (N : Nat) (σ : Sg) : Option (Int32 × Sg) :=
  (f_X12_no N (-1) σ).bind (fun r4 => some (r4.1, r4.2))
def f_X12_score (N : Nat) (x1 x2 : Int32) (σ : Sg) : Option (Int32 × Sg) :=
  (f_X12_isPerson N x1 σ).bind (fun r1 => if r1.1 = 0 then (f_X12_score_J24 N r1.2) else ((f_X12_isLetter N x2 r1.2).bind (fun r6 => if r6.1 = 0 then (f_X12_score_J24 N r6.2) else ((f_X12_scoreOf N x1 x2 r6.2).bind (fun r9 => some (r9.1, r9.2))))))
set_option maxHeartbeats 4000000 in
set_option maxRecDepth 20000 in
theorem m_X12_score (l : Launch) (E : Ev) (N : Nat) (x1 x2 : Int32) (σ : Sg) (R : Int32 × Sg) (hf : f_X12_score N x1 x2 σ = some R) : Ct l E YX12_score [.ref (E.2.1 73), .int x1, .int x2] σ (some (.int R.1), R.2) := by
  refine ct_of (by decide +kernel) (Nat.le_of_ble_eq_true rfl) [(0, .ref (E.2.1 73)), (1, .int x1), (2, .int x2)] rfl (fun X hX C => ?_)
  have hJ24 : ∀ (σ : Sg), f_X12_score_J24 N σ = some R → Zz E X YX12_score (some (.int R.1), R.2) σ 24 [(0, .ref (E.2.1 73))] [] := by
    intro σ hf
    unfold f_X12_score_J24 at hf
    refine z_aload_n C dX12_score_24 0 rfl ?_
    refine z_iconst (v := (-1)) C dX12_score_25 (by decide) ?_
    obtain ⟨r4, h5, hf⟩ := bd_some hf
    refine z_callV (Y2 := YX12_no) (CC := RX12) (T := TX12) (N := 39) (ci := 11) (As := [.int (-1)]) C lk_X12_no (by decide) wc_mo rfl t_970 t_972 p_27 (Nat.le_of_ble_eq_true rfl) (Nat.le_of_ble_eq_true rfl) dX12_score_26 (Nat.le_of_ble_eq_true rfl) rfl rfl (m_X12_no X.2.1 E N (-1) σ _ h5) ?_
    change Zz E X YX12_score (some (.int R.1), R.2) r4.2 _ _ [.int r4.1]
    exact z_iret C dX12_score_29 rfl (by rw [← Option.some.inj hf])
  unfold f_X12_score at hf
  refine z_aload_n C dX12_score_0 0 rfl ?_
  refine z_iload_n C dX12_score_1 1 rfl ?_
  obtain ⟨r1, h2, hf⟩ := bd_some hf
  refine z_callV (Y2 := YX12_isPerson) (CC := RX12) (T := TX12) (N := 39) (ci := 11) (As := [.int x1]) C lk_X12_isPerson (by decide) wc_mo rfl t_1024 t_1026 p_38 (Nat.le_of_ble_eq_true rfl) (Nat.le_of_ble_eq_true rfl) dX12_score_2 (Nat.le_of_ble_eq_true rfl) rfl rfl (m_X12_isPerson X.2.1 E N x1 σ _ h2) ?_
  change Zz E X YX12_score (some (.int R.1), R.2) r1.2 _ _ [.int r1.1]
  refine z_if_eq (tgt := 24) C dX12_score_5 (by decide) (fun h3 => ?_) (fun h3 => ?_)
  · replace hf := ifp hf h3
    refine z_sub [(0, .ref (E.2.1 73))] [0] rfl ?_
    exact hJ24 r1.2 hf
  · replace hf := ifn hf h3
    refine z_iload_n C dX12_score_8 2 rfl ?_
    obtain ⟨r6, h7, hf⟩ := bd_some hf
    refine z_callS (Y2 := YX12_isLetter) (As := [.int x2]) C lk_X12_isLetter t_1052 t_1053 (Nat.le_of_ble_eq_true rfl) (Nat.le_of_ble_eq_true rfl) dX12_score_9 (Nat.le_of_ble_eq_true rfl) rfl rfl (m_X12_isLetter X.2.1 E N x2 r1.2 _ h7) ?_
    change Zz E X YX12_score (some (.int R.1), R.2) r6.2 _ _ [.int r6.1]
    refine z_if_eq (tgt := 24) C dX12_score_12 (by decide) (fun h8 => ?_) (fun h8 => ?_)
    · replace hf := ifp hf h8
      refine z_sub [(0, .ref (E.2.1 73))] [0] rfl ?_
      exact hJ24 r6.2 hf
    · replace hf := ifn hf h8
      refine z_aload_n C dX12_score_15 0 rfl ?_
      refine z_iload_n C dX12_score_16 1 rfl ?_
      refine z_iload_n C dX12_score_17 2 rfl ?_
      obtain ⟨r9, h10, hf⟩ := bd_some hf
      refine z_callV (Y2 := YX12_scoreOf) (CC := RX12) (T := TX12) (N := 39) (ci := 11) (As := [.int x1, .int x2]) C lk_X12_scoreOf (by decide) wc_mo rfl t_1058 t_1060 p_40 (Nat.le_of_ble_eq_true rfl) (Nat.le_of_ble_eq_true rfl) dX12_score_18 (Nat.le_of_ble_eq_true rfl) rfl rfl (m_X12_scoreOf X.2.1 E N x1 x2 r6.2 _ h10) ?_
      change Zz E X YX12_score (some (.int R.1), R.2) r9.2 _ _ [.int r9.1]
      refine z_goto (tgt := 29) C dX12_score_21 (by decide) ?_
      exact z_iret C dX12_score_29 rfl (by rw [← Option.some.inj hf])
theorem lk_X12_score {Y : Yv} : Lk Y YX12_score 2 := ⟨t_1051, t_13, ⟨by decide +kernel, by decide +kernel⟩, by decide +kernel⟩
abbrev YX12_goes : Yv := (yX12_goes, cX12_goes, 2, some .int, 4, 98)
def f_X12_goes (N : Nat) (x1 : Int32) (σ : Sg) : Option (Int32 × Sg) :=
  (f_X12_isLetter N x1 σ).bind (fun r1 => if r1.1 = 0 then ((f_X12_no N (-1) r1.2).bind (fun r4 => some (r4.1, r4.2))) else ((f_X12_goesTo N x1 r1.2).bind (fun r6 => some (r6.1, r6.2))))
set_option maxHeartbeats 4000000 in
set_option maxRecDepth 20000 in
theorem m_X12_goes (l : Launch) (E : Ev) (N : Nat) (x1 : Int32) (σ : Sg) (R : Int32 × Sg) (hf : f_X12_goes N x1 σ = some R) : Ct l E YX12_goes [.ref (E.2.1 73), .int x1] σ (some (.int R.1), R.2) := by
  refine ct_of (by decide +kernel) (Nat.le_of_ble_eq_true rfl) [(0, .ref (E.2.1 73)), (1, .int x1)] rfl (fun X hX C => ?_)
  unfold f_X12_goes at hf
  refine z_iload_n C dX12_goes_0 1 rfl ?_
  obtain ⟨r1, h2, hf⟩ := bd_some hf
  refine z_callS (Y2 := YX12_isLetter) (As := [.int x1]) C lk_X12_isLetter t_1052 t_1053 (Nat.le_of_ble_eq_true rfl) (Nat.le_of_ble_eq_true rfl) dX12_goes_1 (Nat.le_of_ble_eq_true rfl) rfl rfl (m_X12_isLetter X.2.1 E N x1 σ _ h2) ?_
  change Zz E X YX12_goes (some (.int R.1), R.2) r1.2 _ _ [.int r1.1]
  refine z_if_eq (tgt := 15) C dX12_goes_4 (by decide) (fun h3 => ?_) (fun h3 => ?_)
  · replace hf := ifp hf h3
    refine z_aload_n C dX12_goes_15 0 rfl ?_
    refine z_iconst (v := (-1)) C dX12_goes_16 (by decide) ?_
    obtain ⟨r4, h5, hf⟩ := bd_some hf
    refine z_callV (Y2 := YX12_no) (CC := RX12) (T := TX12) (N := 39) (ci := 11) (As := [.int (-1)]) C lk_X12_no (by decide) wc_mo rfl t_970 t_972 p_27 (Nat.le_of_ble_eq_true rfl) (Nat.le_of_ble_eq_true rfl) dX12_goes_17 (Nat.le_of_ble_eq_true rfl) rfl rfl (m_X12_no X.2.1 E N (-1) r1.2 _ h5) ?_
    change Zz E X YX12_goes (some (.int R.1), R.2) r4.2 _ _ [.int r4.1]
    exact z_iret C dX12_goes_20 rfl (by rw [← Option.some.inj hf])
  · replace hf := ifn hf h3
    refine z_aload_n C dX12_goes_7 0 rfl ?_
    refine z_iload_n C dX12_goes_8 1 rfl ?_
    obtain ⟨r6, h7, hf⟩ := bd_some hf
    refine z_callV (Y2 := YX12_goesTo) (CC := RX12) (T := TX12) (N := 39) (ci := 11) (As := [.int x1]) C lk_X12_goesTo (by decide) wc_mo rfl t_1066 t_1068 p_41 (Nat.le_of_ble_eq_true rfl) (Nat.le_of_ble_eq_true rfl) dX12_goes_9 (Nat.le_of_ble_eq_true rfl) rfl rfl (m_X12_goesTo X.2.1 E N x1 r1.2 _ h7) ?_
    change Zz E X YX12_goes (some (.int R.1), R.2) r6.2 _ _ [.int r6.1]
    refine z_goto (tgt := 20) C dX12_goes_12 (by decide) ?_
    exact z_iret C dX12_goes_20 rfl (by rw [← Option.some.inj hf])
theorem lk_X12_goes {Y : Yv} : Lk Y YX12_goes 1 := ⟨t_1065, t_13, ⟨by decide +kernel, by decide +kernel⟩, by decide +kernel⟩
abbrev YX12_post : Yv := (yX12_post, cX12_post, 2, some .int, 5, 121)
def f_X12_post (N : Nat) (x1 : Int32) (σ : Sg) : Option (Int32 × Sg) :=
  (f_X12_isLetter N x1 σ).bind (fun r1 => if r1.1 = 0 then ((f_X12_no N (-1) r1.2).bind (fun r8 => some (r8.1, r8.2))) else (nm (sgs r1.2 73 16 ((r1.2 73 16) + 1)) (fun σ4 => (f_X12_posts N x1 σ4).bind (fun r6 => some (r6.1, r6.2)))))
set_option maxHeartbeats 4000000 in
set_option maxRecDepth 20000 in
theorem m_X12_post (l : Launch) (E : Ev) (N : Nat) (x1 : Int32) (σ : Sg) (R : Int32 × Sg) (hf : f_X12_post N x1 σ = some R) : Ct l E YX12_post [.ref (E.2.1 73), .int x1] σ (some (.int R.1), R.2) := by
  refine ct_of (by decide +kernel) (Nat.le_of_ble_eq_true rfl) [(0, .ref (E.2.1 73)), (1, .int x1)] rfl (fun X hX C => ?_)
  unfold f_X12_post at hf
  refine z_iload_n C dX12_post_0 1 rfl ?_
  obtain ⟨r1, h2, hf⟩ := bd_some hf
  refine z_callS (Y2 := YX12_isLetter) (As := [.int x1]) C lk_X12_isLetter t_1052 t_1053 (Nat.le_of_ble_eq_true rfl) (Nat.le_of_ble_eq_true rfl) dX12_post_1 (Nat.le_of_ble_eq_true rfl) rfl rfl (m_X12_isLetter X.2.1 E N x1 σ _ h2) ?_
  change Zz E X YX12_post (some (.int R.1), R.2) r1.2 _ _ [.int r1.1]
  refine z_if_ne (tgt := 13) C dX12_post_4 (by decide) (fun h3 => ?_) (fun h3 => ?_)
  · replace hf := ifn hf h3
    refine z_aload_n C dX12_post_13 0 rfl ?_
    refine z_dup C dX12_post_14 rfl ?_
    refine z_get (v := .int (r1.2 73 16)) (T := TX12) (N := 39) (ci := 11) C (by decide) wc_mo rfl in_X12 16 (by decide) t_861 rfl dX12_post_15 ?_
    refine z_iconst (v := 1) C dX12_post_18 (by decide) ?_
    refine z_iadd C dX12_post_19 ?_
    obtain ⟨σ4, h5, hf⟩ := nm_some hf
    refine z_put (T := TX12) (N := 39) (ci := 11) (ty := .int) C tyX12 tyX12_ok nmX12 (by decide) wc_mo rfl in_X12 16 (by decide) t_861 rfl rfl rfl rfl (Nat.le_of_ble_eq_true rfl) (pw_X12_16) dX12_post_20 ?_
    rw [← h5]
    refine z_aload_n C dX12_post_23 0 rfl ?_
    refine z_iload_n C dX12_post_24 1 rfl ?_
    obtain ⟨r6, h7, hf⟩ := bd_some hf
    refine z_callV (Y2 := YX12_posts) (CC := RX12) (T := TX12) (N := 39) (ci := 11) (As := [.int x1]) C lk_X12_posts (by decide) wc_mo rfl t_1078 t_1080 p_43 (Nat.le_of_ble_eq_true rfl) (Nat.le_of_ble_eq_true rfl) dX12_post_25 (Nat.le_of_ble_eq_true rfl) rfl rfl (m_X12_posts X.2.1 E N x1 σ4 _ h7) ?_
    change Zz E X YX12_post (some (.int R.1), R.2) r6.2 _ _ [.int r6.1]
    exact z_iret C dX12_post_28 rfl (by rw [← Option.some.inj hf])
  · replace hf := ifp hf h3
    refine z_aload_n C dX12_post_7 0 rfl ?_
    refine z_iconst (v := (-1)) C dX12_post_8 (by decide) ?_
    obtain ⟨r8, h9, hf⟩ := bd_some hf
    refine z_callV (Y2 := YX12_no) (CC := RX12) (T := TX12) (N := 39) (ci := 11) (As := [.int (-1)]) C lk_X12_no (by decide) wc_mo rfl t_970 t_972 p_27 (Nat.le_of_ble_eq_true rfl) (Nat.le_of_ble_eq_true rfl) dX12_post_9 (Nat.le_of_ble_eq_true rfl) rfl rfl (m_X12_no X.2.1 E N (-1) r1.2 _ h9) ?_
    change Zz E X YX12_post (some (.int R.1), R.2) r8.2 _ _ [.int r8.1]
    exact z_iret C dX12_post_12 rfl (by rw [← Option.some.inj hf])
theorem lk_X12_post {Y : Yv} : Lk Y YX12_post 1 := ⟨t_1077, t_13, ⟨by decide +kernel, by decide +kernel⟩, by decide +kernel⟩
abbrev YX12_day : Yv := (yX12_day, cX12_day, 1, some .int, 1, 22)
def f_X12_day (N : Nat) (σ : Sg) : Option (Int32 × Sg) :=
  (f_X12_grows N σ).bind (fun r1 => nm (sgs r1 73 15 ((r1 73 15) + 1)) (fun σ3 => (f_X12_sumOf N σ3).bind (fun r5 => some (r5.1, r5.2))))
set_option maxHeartbeats 4000000 in
set_option maxRecDepth 20000 in
theorem m_X12_day (l : Launch) (E : Ev) (N : Nat) (σ : Sg) (R : Int32 × Sg) (hf : f_X12_day N σ = some R) : Ct l E YX12_day [.ref (E.2.1 73)] σ (some (.int R.1), R.2) := by
  refine ct_of (by decide +kernel) (Nat.le_of_ble_eq_true rfl) [(0, .ref (E.2.1 73))] rfl (fun X hX C => ?_)
  unfold f_X12_day at hf
  refine z_aload_n C dX12_day_0 0 rfl ?_
  obtain ⟨r1, h2, hf⟩ := bd_some hf
  refine z_callV (Y2 := YX12_grows) (CC := RX12) (T := TX12) (N := 39) (ci := 11) (As := []) C lk_X12_grows (by decide) wc_mo rfl t_1090 t_1092 p_45 (Nat.le_of_ble_eq_true rfl) (Nat.le_of_ble_eq_true rfl) dX12_day_1 (Nat.le_of_ble_eq_true rfl) rfl rfl (m_X12_grows X.2.1 E N σ _ h2) ?_
  change Zz E X YX12_day (some (.int R.1), R.2) r1 _ _ []
  refine z_aload_n C dX12_day_4 0 rfl ?_
  refine z_dup C dX12_day_5 rfl ?_
  refine z_get (v := .int (r1 73 15)) (T := TX12) (N := 39) (ci := 11) C (by decide) wc_mo rfl in_X12 15 (by decide) t_860 rfl dX12_day_6 ?_
  refine z_iconst (v := 1) C dX12_day_9 (by decide) ?_
  refine z_iadd C dX12_day_10 ?_
  obtain ⟨σ3, h4, hf⟩ := nm_some hf
  refine z_put (T := TX12) (N := 39) (ci := 11) (ty := .int) C tyX12 tyX12_ok nmX12 (by decide) wc_mo rfl in_X12 15 (by decide) t_860 rfl rfl rfl rfl (Nat.le_of_ble_eq_true rfl) (pw_X12_15) dX12_day_11 ?_
  rw [← h4]
  refine z_aload_n C dX12_day_14 0 rfl ?_
  obtain ⟨r5, h6, hf⟩ := bd_some hf
  refine z_callV (Y2 := YX12_sumOf) (CC := RX12) (T := TX12) (N := 39) (ci := 11) (As := []) C lk_X12_sumOf (by decide) wc_mo rfl t_1094 t_1096 p_46 (Nat.le_of_ble_eq_true rfl) (Nat.le_of_ble_eq_true rfl) dX12_day_15 (Nat.le_of_ble_eq_true rfl) rfl rfl (m_X12_sumOf X.2.1 E N σ3 _ h6) ?_
  change Zz E X YX12_day (some (.int R.1), R.2) r5.2 _ _ [.int r5.1]
  exact z_iret C dX12_day_18 rfl (by rw [← Option.some.inj hf])
theorem lk_X12_day {Y : Yv} : Lk Y YX12_day 0 := ⟨t_1089, t_13, ⟨by decide +kernel, by decide +kernel⟩, by decide +kernel⟩
abbrev YX12_allNeed : Yv := (yX12_allNeed, cX12_allNeed, 1, some .int, 1, 22)
def f_X12_allNeed (N : Nat) (σ : Sg) : Option (Int32 × Sg) :=
  (f_X12_sumOf N σ).bind (fun r1 => some (r1.1, r1.2))
set_option maxHeartbeats 4000000 in
set_option maxRecDepth 20000 in
theorem m_X12_allNeed (l : Launch) (E : Ev) (N : Nat) (σ : Sg) (R : Int32 × Sg) (hf : f_X12_allNeed N σ = some R) : Ct l E YX12_allNeed [.ref (E.2.1 73)] σ (some (.int R.1), R.2) := by
  refine ct_of (by decide +kernel) (Nat.le_of_ble_eq_true rfl) [(0, .ref (E.2.1 73))] rfl (fun X hX C => ?_)
  unfold f_X12_allNeed at hf
  refine z_aload_n C dX12_allNeed_0 0 rfl ?_
  obtain ⟨r1, h2, hf⟩ := bd_some hf
  refine z_callV (Y2 := YX12_sumOf) (CC := RX12) (T := TX12) (N := 39) (ci := 11) (As := []) C lk_X12_sumOf (by decide) wc_mo rfl t_1094 t_1096 p_46 (Nat.le_of_ble_eq_true rfl) (Nat.le_of_ble_eq_true rfl) dX12_allNeed_1 (Nat.le_of_ble_eq_true rfl) rfl rfl (m_X12_sumOf X.2.1 E N σ _ h2) ?_
  change Zz E X YX12_allNeed (some (.int R.1), R.2) r1.2 _ _ [.int r1.1]
  exact z_iret C dX12_allNeed_4 rfl (by rw [← Option.some.inj hf])
theorem lk_X12_allNeed {Y : Yv} : Lk Y YX12_allNeed 0 := ⟨t_1101, t_13, ⟨by decide +kernel, by decide +kernel⟩, by decide +kernel⟩
abbrev YX12_canOf : Yv := (yX12_canOf, cX12_canOf, 4, some .int, 4, 98)
def f_X12_canOf_J41 (N : Nat) (rec : Int32 → Int32 → Int32 → Sg → Option (Int32 × Sg)) (a1 a3 : Int32) (σ : Sg) : Option (Int32 × Sg) :=
  (f_X12_two N a3 σ).bind (fun r8 => rec a1 r8.1 (a3 + 1) r8.2)
def f_X12_canOf_B5 (N : Nat) (rec : Int32 → Int32 → Int32 → Sg → Option (Int32 × Sg)) (a1 a2 a3 : Int32) (σ : Sg) : Option (Int32 × Sg) :=
  if 81 ≤ a3 then (some (a2, σ)) else ((f_X12_two N a3 σ).bind (fun r2 => (f_X12_goesTo N r2.1 r2.2).bind (fun r4 => if r4.1 = a1 then (if a2 < 0 then (f_X12_canOf_J41 N rec a1 a3 r4.2) else ((f_X12_two N a3 r4.2).bind (fun r10 => (f_X12_cost N r10.1 r10.2).bind (fun r12 => (f_X12_cost N a2 r12.2).bind (fun r14 => if r14.1 ≤ r12.1 then (rec a1 a2 (a3 + 1) r14.2) else (f_X12_canOf_J41 N rec a1 a3 r14.2)))))) else (rec a1 a2 (a3 + 1) r4.2))))
def f_X12_canOf_L5 (N : Nat) : Nat → Int32 → Int32 → Int32 → Sg → Option (Int32 × Sg)
  | 0 => fun _ _ _ _ => none
  | k + 1 => fun a1 a2 a3 σ => f_X12_canOf_B5 N (f_X12_canOf_L5 N k) a1 a2 a3 σ
def f_X12_canOf (N : Nat) (x1 : Int32) (σ : Sg) : Option (Int32 × Sg) :=
  (f_X12_canOf_L5 N N x1 (-9) 0 σ).bind (fun s17 => some (s17.1, s17.2))
set_option maxHeartbeats 4000000 in
set_option maxRecDepth 20000 in
theorem m_X12_canOf (l : Launch) (E : Ev) (N : Nat) (x1 : Int32) (σ : Sg) (R : Int32 × Sg) (hf : f_X12_canOf N x1 σ = some R) : Ct l E YX12_canOf [.ref (E.2.1 73), .int x1] σ (some (.int R.1), R.2) := by
  refine ct_of (by decide +kernel) (Nat.le_of_ble_eq_true rfl) [(0, .ref (E.2.1 73)), (1, .int x1)] rfl (fun X hX C => ?_)
  have hL5 : ∀ (k : Nat) (a1 a2 a3 : Int32) (σ : Sg) (Q5 : Int32 × Sg), f_X12_canOf_L5 N k a1 a2 a3 σ = some Q5 → (Zz E X YX12_canOf (some (.int R.1), R.2) Q5.2 52 [(2, .int Q5.1)] []) → Zz E X YX12_canOf (some (.int R.1), R.2) σ 5 [(0, .ref (E.2.1 73)), (1, .int a1), (2, .int a2), (3, .int a3)] [] := by
    intro k
    induction k with
    | zero =>
      intro a1 a2 a3 σ Q5 hf
      have hf : (none : Option (Int32 × Sg)) = some Q5 := hf
      cases hf
    | succ k ih =>
      intro a1 a2 a3 σ Q5 hf hx5
      have hf : f_X12_canOf_B5 N (f_X12_canOf_L5 N k) a1 a2 a3 σ = some Q5 := hf
      have hJ41 : ∀ (a1 a3 : Int32) (σ : Sg), f_X12_canOf_J41 N (f_X12_canOf_L5 N k) a1 a3 σ = some Q5 → Zz E X YX12_canOf (some (.int R.1), R.2) σ 41 [(0, .ref (E.2.1 73)), (1, .int a1), (3, .int a3)] [] := by
        intro a1 a3 σ hf
        unfold f_X12_canOf_J41 at hf
        refine z_iload_n C dX12_canOf_41 2 rfl ?_
        obtain ⟨r8, h9, hf⟩ := bd_some hf
        refine z_callS (Y2 := YX12_two) (As := [.int a3]) C lk_X12_two t_1110 t_1111 (Nat.le_of_ble_eq_true rfl) (Nat.le_of_ble_eq_true rfl) dX12_canOf_42 (Nat.le_of_ble_eq_true rfl) rfl rfl (m_X12_two X.2.1 E N a3 σ _ h9) ?_
        change Zz E X YX12_canOf (some (.int R.1), R.2) r8.2 _ _ [.int r8.1]
        refine z_istore_n (lv' := [(2, .int r8.1), (0, .ref (E.2.1 73)), (1, .int a1), (3, .int a3)]) C dX12_canOf_45 (by decide) rfl ?_
        refine z_iinc (v := (a3 + 1)) (lv' := [(3, .int (a3 + 1)), (2, .int r8.1), (0, .ref (E.2.1 73)), (1, .int a1)]) C dX12_canOf_46 3 rfl rfl (by decide) rfl ?_
        refine z_goto (tgt := 5) C dX12_canOf_49 (by decide) ?_
        refine z_sub [(0, .ref (E.2.1 73)), (1, .int a1), (2, .int r8.1), (3, .int (a3 + 1))] [2, 3, 1, 0] rfl ?_
        exact ih a1 r8.1 (a3 + 1) r8.2 _ hf hx5
      unfold f_X12_canOf_B5 at hf
      refine z_iload_n C dX12_canOf_5 3 rfl ?_
      refine z_bipush (v := 81) C dX12_canOf_6 (by decide) ?_
      refine z_icmp_ge (tgt := 52) C dX12_canOf_8 (by decide) (fun h1 => ?_) (fun h1 => ?_)
      · replace hf := ifp hf h1
        refine z_sub [(2, .int a2)] [2] rfl ?_
        obtain rfl := Option.some.inj hf
        exact hx5
      · replace hf := ifn hf h1
        refine z_aload_n C dX12_canOf_11 0 rfl ?_
        refine z_iload_n C dX12_canOf_12 3 rfl ?_
        obtain ⟨r2, h3, hf⟩ := bd_some hf
        refine z_callS (Y2 := YX12_two) (As := [.int a3]) C lk_X12_two t_1110 t_1111 (Nat.le_of_ble_eq_true rfl) (Nat.le_of_ble_eq_true rfl) dX12_canOf_13 (Nat.le_of_ble_eq_true rfl) rfl rfl (m_X12_two X.2.1 E N a3 σ _ h3) ?_
        change Zz E X YX12_canOf (some (.int R.1), R.2) r2.2 _ _ [.int r2.1, .ref (E.2.1 73)]
        obtain ⟨r4, h5, hf⟩ := bd_some hf
        refine z_callV (Y2 := YX12_goesTo) (CC := RX12) (T := TX12) (N := 39) (ci := 11) (As := [.int r2.1]) C lk_X12_goesTo (by decide) wc_mo rfl t_1066 t_1068 p_41 (Nat.le_of_ble_eq_true rfl) (Nat.le_of_ble_eq_true rfl) dX12_canOf_16 (Nat.le_of_ble_eq_true rfl) rfl rfl (m_X12_goesTo X.2.1 E N r2.1 r2.2 _ h5) ?_
        change Zz E X YX12_canOf (some (.int R.1), R.2) r4.2 _ _ [.int r4.1]
        refine z_iload_n C dX12_canOf_19 1 rfl ?_
        refine z_icmp_ne (tgt := 46) C dX12_canOf_20 (by decide) (fun h6 => ?_) (fun h6 => ?_)
        · replace hf := ifn hf h6
          refine z_iinc (v := (a3 + 1)) (lv' := [(3, .int (a3 + 1)), (0, .ref (E.2.1 73)), (1, .int a1), (2, .int a2)]) C dX12_canOf_46 3 rfl rfl (by decide) rfl ?_
          refine z_goto (tgt := 5) C dX12_canOf_49 (by decide) ?_
          refine z_sub [(0, .ref (E.2.1 73)), (1, .int a1), (2, .int a2), (3, .int (a3 + 1))] [1, 2, 3, 0] rfl ?_
          exact ih a1 a2 (a3 + 1) r4.2 _ hf hx5
        · replace hf := ifp hf h6
          refine z_iload_n C dX12_canOf_23 2 rfl ?_
          refine z_if_lt (tgt := 41) C dX12_canOf_24 (by decide) (fun h7 => ?_) (fun h7 => ?_)
          · replace hf := ifp hf h7
            refine z_sub [(0, .ref (E.2.1 73)), (1, .int a1), (3, .int a3)] [0, 1, 3] rfl ?_
            exact hJ41 a1 a3 r4.2 hf
          · replace hf := ifn hf h7
            refine z_iload_n C dX12_canOf_27 3 rfl ?_
            obtain ⟨r10, h11, hf⟩ := bd_some hf
            refine z_callS (Y2 := YX12_two) (As := [.int a3]) C lk_X12_two t_1110 t_1111 (Nat.le_of_ble_eq_true rfl) (Nat.le_of_ble_eq_true rfl) dX12_canOf_28 (Nat.le_of_ble_eq_true rfl) rfl rfl (m_X12_two X.2.1 E N a3 r4.2 _ h11) ?_
            change Zz E X YX12_canOf (some (.int R.1), R.2) r10.2 _ _ [.int r10.1]
            obtain ⟨r12, h13, hf⟩ := bd_some hf
            refine z_callS (Y2 := YX12_cost) (As := [.int r10.1]) C lk_X12_cost t_1113 t_1114 (Nat.le_of_ble_eq_true rfl) (Nat.le_of_ble_eq_true rfl) dX12_canOf_31 (Nat.le_of_ble_eq_true rfl) rfl rfl (m_X12_cost X.2.1 E N r10.1 r10.2 _ h13) ?_
            change Zz E X YX12_canOf (some (.int R.1), R.2) r12.2 _ _ [.int r12.1]
            refine z_iload_n C dX12_canOf_34 2 rfl ?_
            obtain ⟨r14, h15, hf⟩ := bd_some hf
            refine z_callS (Y2 := YX12_cost) (As := [.int a2]) C lk_X12_cost t_1113 t_1114 (Nat.le_of_ble_eq_true rfl) (Nat.le_of_ble_eq_true rfl) dX12_canOf_35 (Nat.le_of_ble_eq_true rfl) rfl rfl (m_X12_cost X.2.1 E N a2 r12.2 _ h15) ?_
            change Zz E X YX12_canOf (some (.int R.1), R.2) r14.2 _ _ [.int r14.1, .int r12.1]
            refine z_icmp_ge (tgt := 46) C dX12_canOf_38 (by decide) (fun h16 => ?_) (fun h16 => ?_)
            · replace hf := ifp hf h16
              refine z_iinc (v := (a3 + 1)) (lv' := [(3, .int (a3 + 1)), (0, .ref (E.2.1 73)), (1, .int a1), (2, .int a2)]) C dX12_canOf_46 3 rfl rfl (by decide) rfl ?_
              refine z_goto (tgt := 5) C dX12_canOf_49 (by decide) ?_
              refine z_sub [(0, .ref (E.2.1 73)), (1, .int a1), (2, .int a2), (3, .int (a3 + 1))] [1, 2, 3, 0] rfl ?_
              exact ih a1 a2 (a3 + 1) r14.2 _ hf hx5
            · replace hf := ifn hf h16
              refine z_sub [(0, .ref (E.2.1 73)), (1, .int a1), (3, .int a3)] [0, 1, 3] rfl ?_
              exact hJ41 a1 a3 r14.2 hf
  unfold f_X12_canOf at hf
  refine z_bipush (v := (-9)) C dX12_canOf_0 (by decide) ?_
  refine z_istore_n (lv' := [(2, .int (-9)), (0, .ref (E.2.1 73)), (1, .int x1)]) C dX12_canOf_2 (by decide) rfl ?_
  refine z_iconst (v := 0) C dX12_canOf_3 (by decide) ?_
  refine z_istore_n (lv' := [(3, .int 0), (2, .int (-9)), (0, .ref (E.2.1 73)), (1, .int x1)]) C dX12_canOf_4 (by decide) rfl ?_
  refine z_sub [(0, .ref (E.2.1 73)), (1, .int x1), (2, .int (-9)), (3, .int 0)] [2, 3, 1, 0] rfl ?_
  obtain ⟨s17, h18, hf⟩ := bd_some hf
  refine hL5 N x1 (-9) 0 σ _ h18 ?_
  refine z_iload_n C dX12_canOf_52 0 rfl ?_
  exact z_iret C dX12_canOf_53 rfl (by rw [← Option.some.inj hf])
theorem lk_X12_canOf {Y : Yv} : Lk Y YX12_canOf 1 := ⟨t_1109, t_13, ⟨by decide +kernel, by decide +kernel⟩, by decide +kernel⟩
abbrev YX12_can : Yv := (yX12_can, cX12_can, 2, some .int, 5, 121)
def f_X12_can (N : Nat) (x1 : Int32) (σ : Sg) : Option (Int32 × Sg) :=
  (f_X12_isPerson N x1 σ).bind (fun r1 => if r1.1 = 0 then ((f_X12_no N (-1) r1.2).bind (fun r4 => some (r4.1, r4.2))) else ((f_X12_canOf N x1 r1.2).bind (fun r6 => some (r6.1, r6.2))))
set_option maxHeartbeats 4000000 in
set_option maxRecDepth 20000 in
theorem m_X12_can (l : Launch) (E : Ev) (N : Nat) (x1 : Int32) (σ : Sg) (R : Int32 × Sg) (hf : f_X12_can N x1 σ = some R) : Ct l E YX12_can [.ref (E.2.1 73), .int x1] σ (some (.int R.1), R.2) := by
  refine ct_of (by decide +kernel) (Nat.le_of_ble_eq_true rfl) [(0, .ref (E.2.1 73)), (1, .int x1)] rfl (fun X hX C => ?_)
  unfold f_X12_can at hf
  refine z_aload_n C dX12_can_0 0 rfl ?_
  refine z_iload_n C dX12_can_1 1 rfl ?_
  obtain ⟨r1, h2, hf⟩ := bd_some hf
  refine z_callV (Y2 := YX12_isPerson) (CC := RX12) (T := TX12) (N := 39) (ci := 11) (As := [.int x1]) C lk_X12_isPerson (by decide) wc_mo rfl t_1024 t_1026 p_38 (Nat.le_of_ble_eq_true rfl) (Nat.le_of_ble_eq_true rfl) dX12_can_2 (Nat.le_of_ble_eq_true rfl) rfl rfl (m_X12_isPerson X.2.1 E N x1 σ _ h2) ?_
  change Zz E X YX12_can (some (.int R.1), R.2) r1.2 _ _ [.int r1.1]
  refine z_if_eq (tgt := 16) C dX12_can_5 (by decide) (fun h3 => ?_) (fun h3 => ?_)
  · replace hf := ifp hf h3
    refine z_aload_n C dX12_can_16 0 rfl ?_
    refine z_iconst (v := (-1)) C dX12_can_17 (by decide) ?_
    obtain ⟨r4, h5, hf⟩ := bd_some hf
    refine z_callV (Y2 := YX12_no) (CC := RX12) (T := TX12) (N := 39) (ci := 11) (As := [.int (-1)]) C lk_X12_no (by decide) wc_mo rfl t_970 t_972 p_27 (Nat.le_of_ble_eq_true rfl) (Nat.le_of_ble_eq_true rfl) dX12_can_18 (Nat.le_of_ble_eq_true rfl) rfl rfl (m_X12_no X.2.1 E N (-1) r1.2 _ h5) ?_
    change Zz E X YX12_can (some (.int R.1), R.2) r4.2 _ _ [.int r4.1]
    exact z_iret C dX12_can_21 rfl (by rw [← Option.some.inj hf])
  · replace hf := ifn hf h3
    refine z_aload_n C dX12_can_8 0 rfl ?_
    refine z_iload_n C dX12_can_9 1 rfl ?_
    obtain ⟨r6, h7, hf⟩ := bd_some hf
    refine z_callV (Y2 := YX12_canOf) (CC := RX12) (T := TX12) (N := 39) (ci := 11) (As := [.int x1]) C lk_X12_canOf (by decide) wc_mo rfl t_1106 t_1108 p_47 (Nat.le_of_ble_eq_true rfl) (Nat.le_of_ble_eq_true rfl) dX12_can_10 (Nat.le_of_ble_eq_true rfl) rfl rfl (m_X12_canOf X.2.1 E N x1 r1.2 _ h7) ?_
    change Zz E X YX12_can (some (.int R.1), R.2) r6.2 _ _ [.int r6.1]
    refine z_goto (tgt := 21) C dX12_can_13 (by decide) ?_
    exact z_iret C dX12_can_21 rfl (by rw [← Option.some.inj hf])
theorem lk_X12_can {Y : Yv} : Lk Y YX12_can 1 := ⟨t_1105, t_13, ⟨by decide +kernel, by decide +kernel⟩, by decide +kernel⟩
abbrev YX12_whoGets : Yv := (yX12_whoGets, cX12_whoGets, 4, some .int, 4, 98)
def f_X12_whoGets_B4 (N : Nat) (rec : Int32 → Int32 → Sg → Option (Int32 × Sg)) (a1 a2 : Int32) (σ : Sg) : Option (Int32 × Sg) :=
  if 81 ≤ a2 then (some (a1, σ)) else ((f_X12_two N a2 σ).bind (fun r2 => (f_X12_goesTo N r2.1 r2.2).bind (fun r4 => if 0 ≤ r4.1 then (nm (a1 ||| ((1 : Int32) <<< (r4.1 &&& 31))) (fun v7 => rec v7 (a2 + 1) r4.2)) else (rec (a1 ||| 0) (a2 + 1) r4.2))))
def f_X12_whoGets_L4 (N : Nat) : Nat → Int32 → Int32 → Sg → Option (Int32 × Sg)
  | 0 => fun _ _ _ => none
  | k + 1 => fun a1 a2 σ => f_X12_whoGets_B4 N (f_X12_whoGets_L4 N k) a1 a2 σ
def f_X12_whoGets (N : Nat) (σ : Sg) : Option (Int32 × Sg) :=
  (f_X12_whoGets_L4 N N 0 0 σ).bind (fun s9 => some (s9.1, s9.2))
set_option maxHeartbeats 4000000 in
set_option maxRecDepth 20000 in
theorem m_X12_whoGets (l : Launch) (E : Ev) (N : Nat) (σ : Sg) (R : Int32 × Sg) (hf : f_X12_whoGets N σ = some R) : Ct l E YX12_whoGets [.ref (E.2.1 73)] σ (some (.int R.1), R.2) := by
  refine ct_of (by decide +kernel) (Nat.le_of_ble_eq_true rfl) [(0, .ref (E.2.1 73))] rfl (fun X hX C => ?_)
  have hL4 : ∀ (k : Nat) (a1 a2 : Int32) (σ : Sg) (Q4 : Int32 × Sg), f_X12_whoGets_L4 N k a1 a2 σ = some Q4 → (Zz E X YX12_whoGets (some (.int R.1), R.2) Q4.2 39 [(1, .int Q4.1)] []) → Zz E X YX12_whoGets (some (.int R.1), R.2) σ 4 [(0, .ref (E.2.1 73)), (1, .int a1), (2, .int a2)] [] := by
    intro k
    induction k with
    | zero =>
      intro a1 a2 σ Q4 hf
      have hf : (none : Option (Int32 × Sg)) = some Q4 := hf
      cases hf
    | succ k ih =>
      intro a1 a2 σ Q4 hf hx4
      have hf : f_X12_whoGets_B4 N (f_X12_whoGets_L4 N k) a1 a2 σ = some Q4 := hf
      unfold f_X12_whoGets_B4 at hf
      refine z_iload_n C dX12_whoGets_4 2 rfl ?_
      refine z_bipush (v := 81) C dX12_whoGets_5 (by decide) ?_
      refine z_icmp_ge (tgt := 39) C dX12_whoGets_7 (by decide) (fun h1 => ?_) (fun h1 => ?_)
      · replace hf := ifp hf h1
        refine z_sub [(1, .int a1)] [1] rfl ?_
        obtain rfl := Option.some.inj hf
        exact hx4
      · replace hf := ifn hf h1
        refine z_aload_n C dX12_whoGets_10 0 rfl ?_
        refine z_iload_n C dX12_whoGets_11 2 rfl ?_
        obtain ⟨r2, h3, hf⟩ := bd_some hf
        refine z_callS (Y2 := YX12_two) (As := [.int a2]) C lk_X12_two t_1110 t_1111 (Nat.le_of_ble_eq_true rfl) (Nat.le_of_ble_eq_true rfl) dX12_whoGets_12 (Nat.le_of_ble_eq_true rfl) rfl rfl (m_X12_two X.2.1 E N a2 σ _ h3) ?_
        change Zz E X YX12_whoGets (some (.int R.1), R.2) r2.2 _ _ [.int r2.1, .ref (E.2.1 73)]
        obtain ⟨r4, h5, hf⟩ := bd_some hf
        refine z_callV (Y2 := YX12_goesTo) (CC := RX12) (T := TX12) (N := 39) (ci := 11) (As := [.int r2.1]) C lk_X12_goesTo (by decide) wc_mo rfl t_1066 t_1068 p_41 (Nat.le_of_ble_eq_true rfl) (Nat.le_of_ble_eq_true rfl) dX12_whoGets_15 (Nat.le_of_ble_eq_true rfl) rfl rfl (m_X12_goesTo X.2.1 E N r2.1 r2.2 _ h5) ?_
        change Zz E X YX12_whoGets (some (.int R.1), R.2) r4.2 _ _ [.int r4.1]
        refine z_istore_n (lv' := [(3, .int r4.1), (0, .ref (E.2.1 73)), (1, .int a1), (2, .int a2)]) C dX12_whoGets_18 (by decide) rfl ?_
        refine z_iload_n C dX12_whoGets_19 2 rfl ?_
        refine z_iload_n C dX12_whoGets_20 0 rfl ?_
        refine z_if_ge (tgt := 28) C dX12_whoGets_21 (by decide) (fun h6 => ?_) (fun h6 => ?_)
        · replace hf := ifp hf h6
          refine z_iconst (v := 1) C dX12_whoGets_28 (by decide) ?_
          refine z_iload_n C dX12_whoGets_29 0 rfl ?_
          refine z_ishl C dX12_whoGets_30 ?_
          refine z_ior C dX12_whoGets_31 ?_
          obtain ⟨v7, h8, hf⟩ := nm_some hf
          rw [← h8]
          refine z_istore_n (lv' := [(1, .int v7), (3, .int r4.1), (0, .ref (E.2.1 73)), (2, .int a2)]) C dX12_whoGets_32 (by decide) rfl ?_
          refine z_iinc (v := (a2 + 1)) (lv' := [(2, .int (a2 + 1)), (1, .int v7), (3, .int r4.1), (0, .ref (E.2.1 73))]) C dX12_whoGets_33 3 rfl rfl (by decide) rfl ?_
          refine z_goto (tgt := 4) C dX12_whoGets_36 (by decide) ?_
          refine z_sub [(0, .ref (E.2.1 73)), (1, .int v7), (2, .int (a2 + 1))] [3, 1, 0] rfl ?_
          exact ih v7 (a2 + 1) r4.2 _ hf hx4
        · replace hf := ifn hf h6
          refine z_iconst (v := 0) C dX12_whoGets_24 (by decide) ?_
          refine z_goto (tgt := 31) C dX12_whoGets_25 (by decide) ?_
          refine z_ior C dX12_whoGets_31 ?_
          refine z_istore_n (lv' := [(1, .int (a1 ||| 0)), (3, .int r4.1), (0, .ref (E.2.1 73)), (2, .int a2)]) C dX12_whoGets_32 (by decide) rfl ?_
          refine z_iinc (v := (a2 + 1)) (lv' := [(2, .int (a2 + 1)), (1, .int (a1 ||| 0)), (3, .int r4.1), (0, .ref (E.2.1 73))]) C dX12_whoGets_33 3 rfl rfl (by decide) rfl ?_
          refine z_goto (tgt := 4) C dX12_whoGets_36 (by decide) ?_
          refine z_sub [(0, .ref (E.2.1 73)), (1, .int (a1 ||| 0)), (2, .int (a2 + 1))] [3, 1, 0] rfl ?_
          exact ih (a1 ||| 0) (a2 + 1) r4.2 _ hf hx4
  unfold f_X12_whoGets at hf
  refine z_iconst (v := 0) C dX12_whoGets_0 (by decide) ?_
  refine z_istore_n (lv' := [(1, .int 0), (0, .ref (E.2.1 73))]) C dX12_whoGets_1 (by decide) rfl ?_
  refine z_iconst (v := 0) C dX12_whoGets_2 (by decide) ?_
  refine z_istore_n (lv' := [(2, .int 0), (1, .int 0), (0, .ref (E.2.1 73))]) C dX12_whoGets_3 (by decide) rfl ?_
  refine z_sub [(0, .ref (E.2.1 73)), (1, .int 0), (2, .int 0)] [2, 1, 0] rfl ?_
  obtain ⟨s9, h10, hf⟩ := bd_some hf
  refine hL4 N 0 0 σ _ h10 ?_
  refine z_iload_n C dX12_whoGets_39 0 rfl ?_
  exact z_iret C dX12_whoGets_40 rfl (by rw [← Option.some.inj hf])
theorem lk_X12_whoGets {Y : Yv} : Lk Y YX12_whoGets 0 := ⟨t_1123, t_13, ⟨by decide +kernel, by decide +kernel⟩, by decide +kernel⟩
abbrev YX12_who : Yv := (yX12_who, cX12_who, 1, some .int, 5, 121)
def f_X12_who (N : Nat) (σ : Sg) : Option (Int32 × Sg) :=
  (f_X12_whoGets N σ).bind (fun r1 => some (r1.1, r1.2))
set_option maxHeartbeats 4000000 in
set_option maxRecDepth 20000 in
theorem m_X12_who (l : Launch) (E : Ev) (N : Nat) (σ : Sg) (R : Int32 × Sg) (hf : f_X12_who N σ = some R) : Ct l E YX12_who [.ref (E.2.1 73)] σ (some (.int R.1), R.2) := by
  refine ct_of (by decide +kernel) (Nat.le_of_ble_eq_true rfl) [(0, .ref (E.2.1 73))] rfl (fun X hX C => ?_)
  unfold f_X12_who at hf
  refine z_aload_n C dX12_who_0 0 rfl ?_
  obtain ⟨r1, h2, hf⟩ := bd_some hf
  refine z_callV (Y2 := YX12_whoGets) (CC := RX12) (T := TX12) (N := 39) (ci := 11) (As := []) C lk_X12_whoGets (by decide) wc_mo rfl t_1120 t_1122 p_48 (Nat.le_of_ble_eq_true rfl) (Nat.le_of_ble_eq_true rfl) dX12_who_1 (Nat.le_of_ble_eq_true rfl) rfl rfl (m_X12_whoGets X.2.1 E N σ _ h2) ?_
  change Zz E X YX12_who (some (.int R.1), R.2) r1.2 _ _ [.int r1.1]
  exact z_iret C dX12_who_4 rfl (by rw [← Option.some.inj hf])
theorem lk_X12_who {Y : Yv} : Lk Y YX12_who 0 := ⟨t_1119, t_13, ⟨by decide +kernel, by decide +kernel⟩, by decide +kernel⟩
abbrev YX12_never : Yv := (yX12_never, cX12_never, 3, some .int, 5, 121)
def f_X12_never (N : Nat) (x1 : Int32) (σ : Sg) : Option (Int32 × Sg) :=
  (f_X12_isPerson N x1 σ).bind (fun r1 => if r1.1 = 0 then ((f_X12_no N (-1) r1.2).bind (fun r7 => some (r7.1, r7.2))) else ((f_X12_whoGets N r1.2).bind (fun r4 => if ((r4.1 >>> (x1 &&& 31)) &&& 1) = 1 then (some (0, r4.2)) else (some (r4.1, r4.2)))))
set_option maxHeartbeats 4000000 in
set_option maxRecDepth 20000 in
theorem m_X12_never (l : Launch) (E : Ev) (N : Nat) (x1 : Int32) (σ : Sg) (R : Int32 × Sg) (hf : f_X12_never N x1 σ = some R) : Ct l E YX12_never [.ref (E.2.1 73), .int x1] σ (some (.int R.1), R.2) := by
  refine ct_of (by decide +kernel) (Nat.le_of_ble_eq_true rfl) [(0, .ref (E.2.1 73)), (1, .int x1)] rfl (fun X hX C => ?_)
  unfold f_X12_never at hf
  refine z_aload_n C dX12_never_0 0 rfl ?_
  refine z_iload_n C dX12_never_1 1 rfl ?_
  obtain ⟨r1, h2, hf⟩ := bd_some hf
  refine z_callV (Y2 := YX12_isPerson) (CC := RX12) (T := TX12) (N := 39) (ci := 11) (As := [.int x1]) C lk_X12_isPerson (by decide) wc_mo rfl t_1024 t_1026 p_38 (Nat.le_of_ble_eq_true rfl) (Nat.le_of_ble_eq_true rfl) dX12_never_2 (Nat.le_of_ble_eq_true rfl) rfl rfl (m_X12_isPerson X.2.1 E N x1 σ _ h2) ?_
  change Zz E X YX12_never (some (.int R.1), R.2) r1.2 _ _ [.int r1.1]
  refine z_if_ne (tgt := 14) C dX12_never_5 (by decide) (fun h3 => ?_) (fun h3 => ?_)
  · replace hf := ifn hf h3
    refine z_aload_n C dX12_never_14 0 rfl ?_
    obtain ⟨r4, h5, hf⟩ := bd_some hf
    refine z_callV (Y2 := YX12_whoGets) (CC := RX12) (T := TX12) (N := 39) (ci := 11) (As := []) C lk_X12_whoGets (by decide) wc_mo rfl t_1120 t_1122 p_48 (Nat.le_of_ble_eq_true rfl) (Nat.le_of_ble_eq_true rfl) dX12_never_15 (Nat.le_of_ble_eq_true rfl) rfl rfl (m_X12_whoGets X.2.1 E N r1.2 _ h5) ?_
    change Zz E X YX12_never (some (.int R.1), R.2) r4.2 _ _ [.int r4.1]
    refine z_istore_n (lv' := [(2, .int r4.1), (0, .ref (E.2.1 73)), (1, .int x1)]) C dX12_never_18 (by decide) rfl ?_
    refine z_iload_n C dX12_never_19 0 rfl ?_
    refine z_iload_n C dX12_never_20 2 rfl ?_
    refine z_ishr C dX12_never_21 ?_
    refine z_iconst (v := 1) C dX12_never_22 (by decide) ?_
    refine z_iand C dX12_never_23 ?_
    refine z_iconst (v := 1) C dX12_never_24 (by decide) ?_
    refine z_icmp_ne (tgt := 32) C dX12_never_25 (by decide) (fun h6 => ?_) (fun h6 => ?_)
    · replace hf := ifn hf h6
      refine z_iload_n C dX12_never_32 0 rfl ?_
      exact z_iret C dX12_never_33 rfl (by rw [← Option.some.inj hf])
    · replace hf := ifp hf h6
      refine z_iconst (v := 0) C dX12_never_28 (by decide) ?_
      refine z_goto (tgt := 33) C dX12_never_29 (by decide) ?_
      exact z_iret C dX12_never_33 rfl (by rw [← Option.some.inj hf])
  · replace hf := ifp hf h3
    refine z_aload_n C dX12_never_8 0 rfl ?_
    refine z_iconst (v := (-1)) C dX12_never_9 (by decide) ?_
    obtain ⟨r7, h8, hf⟩ := bd_some hf
    refine z_callV (Y2 := YX12_no) (CC := RX12) (T := TX12) (N := 39) (ci := 11) (As := [.int (-1)]) C lk_X12_no (by decide) wc_mo rfl t_970 t_972 p_27 (Nat.le_of_ble_eq_true rfl) (Nat.le_of_ble_eq_true rfl) dX12_never_10 (Nat.le_of_ble_eq_true rfl) rfl rfl (m_X12_no X.2.1 E N (-1) r1.2 _ h8) ?_
    change Zz E X YX12_never (some (.int R.1), R.2) r7.2 _ _ [.int r7.1]
    exact z_iret C dX12_never_13 rfl (by rw [← Option.some.inj hf])
theorem lk_X12_never {Y : Yv} : Lk Y YX12_never 1 := ⟨t_1127, t_13, ⟨by decide +kernel, by decide +kernel⟩, by decide +kernel⟩
abbrev YX12_isReached : Yv := (yX12_isReached, cX12_isReached, 2, some .boolean, 5, 121)
def f_X12_isReached (N : Nat) (x1 : Int32) (σ : Sg) : Option (Int32 × Sg) :=
  (f_X12_whoGets N σ).bind (fun r1 => if ((r1.1 >>> (x1 &&& 31)) &&& 1) = 1 then (some (1, r1.2)) else (some (0, r1.2)))
set_option maxHeartbeats 4000000 in
set_option maxRecDepth 20000 in
theorem m_X12_isReached (l : Launch) (E : Ev) (N : Nat) (x1 : Int32) (σ : Sg) (R : Int32 × Sg) (hf : f_X12_isReached N x1 σ = some R) : Ct l E YX12_isReached [.ref (E.2.1 73), .int x1] σ (some (.int R.1), R.2) := by
  refine ct_of (by decide +kernel) (Nat.le_of_ble_eq_true rfl) [(0, .ref (E.2.1 73)), (1, .int x1)] rfl (fun X hX C => ?_)
  unfold f_X12_isReached at hf
  refine z_aload_n C dX12_isReached_0 0 rfl ?_
  obtain ⟨r1, h2, hf⟩ := bd_some hf
  refine z_callV (Y2 := YX12_whoGets) (CC := RX12) (T := TX12) (N := 39) (ci := 11) (As := []) C lk_X12_whoGets (by decide) wc_mo rfl t_1120 t_1122 p_48 (Nat.le_of_ble_eq_true rfl) (Nat.le_of_ble_eq_true rfl) dX12_isReached_1 (Nat.le_of_ble_eq_true rfl) rfl rfl (m_X12_whoGets X.2.1 E N σ _ h2) ?_
  change Zz E X YX12_isReached (some (.int R.1), R.2) r1.2 _ _ [.int r1.1]
  refine z_iload_n C dX12_isReached_4 1 rfl ?_
  refine z_ishr C dX12_isReached_5 ?_
  refine z_iconst (v := 1) C dX12_isReached_6 (by decide) ?_
  refine z_iand C dX12_isReached_7 ?_
  refine z_iconst (v := 1) C dX12_isReached_8 (by decide) ?_
  refine z_icmp_ne (tgt := 16) C dX12_isReached_9 (by decide) (fun h3 => ?_) (fun h3 => ?_)
  · replace hf := ifn hf h3
    refine z_iconst (v := 0) C dX12_isReached_16 (by decide) ?_
    exact z_zret C dX12_isReached_17 rfl rfl (by rw [← Option.some.inj hf])
  · replace hf := ifp hf h3
    refine z_iconst (v := 1) C dX12_isReached_12 (by decide) ?_
    refine z_goto (tgt := 17) C dX12_isReached_13 (by decide) ?_
    exact z_zret C dX12_isReached_17 rfl rfl (by rw [← Option.some.inj hf])
theorem lk_X12_isReached {Y : Yv} : Lk Y YX12_isReached 1 := ⟨t_1139, t_13, ⟨by decide +kernel, by decide +kernel⟩, by decide +kernel⟩
abbrev YX12_costAheadOne : Yv := (yX12_costAheadOne, cX12_costAheadOne, 7, some .int, 6, 142)
def f_X12_costAheadOne_J95 (N : Nat) (rec : Int32 → Int32 → Int32 → Int32 → Sg → Option (Int32 × Sg)) (a1 a3 a4 a5 : Int32) (σ : Sg) : Option (Int32 × Sg) :=
  (f_X12_putsBack N 0 σ).bind (fun r18 => rec a1 a3 a4 (a5 + 1) r18)
def f_X12_costAheadOne_J68 (N : Nat) (rec : Int32 → Int32 → Int32 → Int32 → Sg → Option (Int32 × Sg)) (a1 a3 a4 a5 a6 : Int32) (σ : Sg) : Option (Int32 × Sg) :=
  (f_X12_keeps N 0 σ).bind (fun r9 => (f_X12_two N a5 r9).bind (fun r11 => (f_X12_posts N r11.1 r11.2).bind (fun r13 => (f_X12_isReached N a1 r13.2).bind (fun r15 => if r15.1 = 0 then (f_X12_costAheadOne_J95 N rec a1 a3 a4 a5 r15.2) else (f_X12_costAheadOne_J95 N rec a1 a3 a6 a5 r15.2)))))
def f_X12_costAheadOne_J55 (N : Nat) (rec : Int32 → Int32 → Int32 → Int32 → Sg → Option (Int32 × Sg)) (a1 a3 a4 a5 a6 : Int32) (σ : Sg) : Option (Int32 × Sg) :=
  if a3 < 0 then (f_X12_costAheadOne_J68 N rec a1 a3 a4 a5 a6 σ) else (if a6 < a3 then (f_X12_costAheadOne_J68 N rec a1 a3 a4 a5 a6 σ) else (rec a1 a3 a4 (a5 + 1) σ))
def f_X12_costAheadOne_B26 (N : Nat) (rec : Int32 → Int32 → Int32 → Int32 → Sg → Option (Int32 × Sg)) (a1 a3 a4 a5 : Int32) (σ : Sg) : Option (Int32 × Sg) :=
  if 81 ≤ a5 then (some (a4, σ)) else ((f_X12_two N a5 σ).bind (fun r3 => (f_X12_cost N r3.1 r3.2).bind (fun r5 => if a4 < 0 then (f_X12_costAheadOne_J55 N rec a1 a3 a4 a5 r5.1 r5.2) else (if a4 ≤ r5.1 then (rec a1 a3 a4 (a5 + 1) r5.2) else (f_X12_costAheadOne_J55 N rec a1 a3 a4 a5 r5.1 r5.2)))))
def f_X12_costAheadOne_L26 (N : Nat) : Nat → Int32 → Int32 → Int32 → Int32 → Sg → Option (Int32 × Sg)
  | 0 => fun _ _ _ _ _ => none
  | k + 1 => fun a1 a3 a4 a5 σ => f_X12_costAheadOne_B26 N (f_X12_costAheadOne_L26 N k) a1 a3 a4 a5 σ
def f_X12_costAheadOne (N : Nat) (x1 x2 x3 : Int32) (σ : Sg) : Option (Int32 × Sg) :=
  if x2 = 0 then ((f_X12_isReached N x1 σ).bind (fun r24 => if r24.1 = 0 then (some ((-9), r24.2)) else (some (0, r24.2)))) else ((f_X12_costAheadOne_L26 N N x1 x3 (-9) 0 σ).bind (fun s22 => some (s22.1, s22.2)))
set_option maxHeartbeats 4000000 in
set_option maxRecDepth 20000 in
theorem m_X12_costAheadOne (l : Launch) (E : Ev) (N : Nat) (x1 x2 x3 : Int32) (σ : Sg) (R : Int32 × Sg) (hf : f_X12_costAheadOne N x1 x2 x3 σ = some R) : Ct l E YX12_costAheadOne [.ref (E.2.1 73), .int x1, .int x2, .int x3] σ (some (.int R.1), R.2) := by
  refine ct_of (by decide +kernel) (Nat.le_of_ble_eq_true rfl) [(0, .ref (E.2.1 73)), (1, .int x1), (2, .int x2), (3, .int x3)] rfl (fun X hX C => ?_)
  have hL26 : ∀ (k : Nat) (a1 a3 a4 a5 : Int32) (σ : Sg) (Q26 : Int32 × Sg), f_X12_costAheadOne_L26 N k a1 a3 a4 a5 σ = some Q26 → (Zz E X YX12_costAheadOne (some (.int R.1), R.2) Q26.2 106 [(4, .int Q26.1)] []) → Zz E X YX12_costAheadOne (some (.int R.1), R.2) σ 26 [(0, .ref (E.2.1 73)), (1, .int a1), (3, .int a3), (4, .int a4), (5, .int a5)] [] := by
    intro k
    induction k with
    | zero =>
      intro a1 a3 a4 a5 σ Q26 hf
      have hf : (none : Option (Int32 × Sg)) = some Q26 := hf
      cases hf
    | succ k ih =>
      intro a1 a3 a4 a5 σ Q26 hf hx26
      have hf : f_X12_costAheadOne_B26 N (f_X12_costAheadOne_L26 N k) a1 a3 a4 a5 σ = some Q26 := hf
      have hJ95 : ∀ (a1 a3 a4 a5 : Int32) (σ : Sg), f_X12_costAheadOne_J95 N (f_X12_costAheadOne_L26 N k) a1 a3 a4 a5 σ = some Q26 → Zz E X YX12_costAheadOne (some (.int R.1), R.2) σ 95 [(0, .ref (E.2.1 73)), (1, .int a1), (3, .int a3), (4, .int a4), (5, .int a5)] [] := by
        intro a1 a3 a4 a5 σ hf
        unfold f_X12_costAheadOne_J95 at hf
        refine z_aload_n C dX12_costAheadOne_95 0 rfl ?_
        refine z_iconst (v := 0) C dX12_costAheadOne_96 (by decide) ?_
        obtain ⟨r18, h19, hf⟩ := bd_some hf
        refine z_callV (Y2 := YX12_putsBack) (CC := RX12) (T := TX12) (N := 39) (ci := 11) (As := [.int 0]) C lk_X12_putsBack (by decide) wc_mo rfl t_1148 t_1150 p_53 (Nat.le_of_ble_eq_true rfl) (Nat.le_of_ble_eq_true rfl) dX12_costAheadOne_97 (Nat.le_of_ble_eq_true rfl) rfl rfl (m_X12_putsBack X.2.1 E N 0 σ _ h19) ?_
        change Zz E X YX12_costAheadOne (some (.int R.1), R.2) r18 _ _ []
        refine z_iinc (v := (a5 + 1)) (lv' := [(5, .int (a5 + 1)), (0, .ref (E.2.1 73)), (1, .int a1), (3, .int a3), (4, .int a4)]) C dX12_costAheadOne_100 4 rfl rfl (by decide) rfl ?_
        refine z_goto (tgt := 26) C dX12_costAheadOne_103 (by decide) ?_
        refine z_sub [(0, .ref (E.2.1 73)), (1, .int a1), (3, .int a3), (4, .int a4), (5, .int (a5 + 1))] [1, 2, 3, 4, 0] rfl ?_
        exact ih a1 a3 a4 (a5 + 1) r18 _ hf hx26
      have hJ68 : ∀ (a1 a3 a4 a5 a6 : Int32) (σ : Sg), f_X12_costAheadOne_J68 N (f_X12_costAheadOne_L26 N k) a1 a3 a4 a5 a6 σ = some Q26 → Zz E X YX12_costAheadOne (some (.int R.1), R.2) σ 68 [(0, .ref (E.2.1 73)), (1, .int a1), (3, .int a3), (4, .int a4), (5, .int a5), (6, .int a6)] [] := by
        intro a1 a3 a4 a5 a6 σ hf
        unfold f_X12_costAheadOne_J68 at hf
        refine z_aload_n C dX12_costAheadOne_68 0 rfl ?_
        refine z_iconst (v := 0) C dX12_costAheadOne_69 (by decide) ?_
        obtain ⟨r9, h10, hf⟩ := bd_some hf
        refine z_callV (Y2 := YX12_keeps) (CC := RX12) (T := TX12) (N := 39) (ci := 11) (As := [.int 0]) C lk_X12_keeps (by decide) wc_mo rfl t_1140 t_1142 p_51 (Nat.le_of_ble_eq_true rfl) (Nat.le_of_ble_eq_true rfl) dX12_costAheadOne_70 (Nat.le_of_ble_eq_true rfl) rfl rfl (m_X12_keeps X.2.1 E N 0 σ _ h10) ?_
        change Zz E X YX12_costAheadOne (some (.int R.1), R.2) r9 _ _ []
        refine z_aload_n C dX12_costAheadOne_73 0 rfl ?_
        refine z_iload C dX12_costAheadOne_74 4 rfl ?_
        obtain ⟨r11, h12, hf⟩ := bd_some hf
        refine z_callS (Y2 := YX12_two) (As := [.int a5]) C lk_X12_two t_1110 t_1111 (Nat.le_of_ble_eq_true rfl) (Nat.le_of_ble_eq_true rfl) dX12_costAheadOne_76 (Nat.le_of_ble_eq_true rfl) rfl rfl (m_X12_two X.2.1 E N a5 r9 _ h12) ?_
        change Zz E X YX12_costAheadOne (some (.int R.1), R.2) r11.2 _ _ [.int r11.1, .ref (E.2.1 73)]
        obtain ⟨r13, h14, hf⟩ := bd_some hf
        refine z_callV (Y2 := YX12_posts) (CC := RX12) (T := TX12) (N := 39) (ci := 11) (As := [.int r11.1]) C lk_X12_posts (by decide) wc_mo rfl t_1078 t_1080 p_43 (Nat.le_of_ble_eq_true rfl) (Nat.le_of_ble_eq_true rfl) dX12_costAheadOne_79 (Nat.le_of_ble_eq_true rfl) rfl rfl (m_X12_posts X.2.1 E N r11.1 r11.2 _ h14) ?_
        change Zz E X YX12_costAheadOne (some (.int R.1), R.2) r13.2 _ _ [.int r13.1]
        refine z_pop C dX12_costAheadOne_82 rfl ?_
        refine z_aload_n C dX12_costAheadOne_83 0 rfl ?_
        refine z_iload_n C dX12_costAheadOne_84 1 rfl ?_
        obtain ⟨r15, h16, hf⟩ := bd_some hf
        refine z_callV (Y2 := YX12_isReached) (CC := RX12) (T := TX12) (N := 39) (ci := 11) (As := [.int a1]) C lk_X12_isReached (by decide) wc_mo rfl t_1136 t_1138 p_50 (Nat.le_of_ble_eq_true rfl) (Nat.le_of_ble_eq_true rfl) dX12_costAheadOne_85 (Nat.le_of_ble_eq_true rfl) rfl rfl (m_X12_isReached X.2.1 E N a1 r13.2 _ h16) ?_
        change Zz E X YX12_costAheadOne (some (.int R.1), R.2) r15.2 _ _ [.int r15.1]
        refine z_if_eq (tgt := 95) C dX12_costAheadOne_88 (by decide) (fun h17 => ?_) (fun h17 => ?_)
        · replace hf := ifp hf h17
          refine z_sub [(0, .ref (E.2.1 73)), (1, .int a1), (3, .int a3), (4, .int a4), (5, .int a5)] [0, 1, 2, 3, 4] rfl ?_
          exact hJ95 a1 a3 a4 a5 r15.2 hf
        · replace hf := ifn hf h17
          refine z_iload C dX12_costAheadOne_91 5 rfl ?_
          refine z_istore (lv' := [(4, .int a6), (0, .ref (E.2.1 73)), (1, .int a1), (3, .int a3), (5, .int a5), (6, .int a6)]) C dX12_costAheadOne_93 (by decide) rfl ?_
          refine z_sub [(0, .ref (E.2.1 73)), (1, .int a1), (3, .int a3), (4, .int a6), (5, .int a5)] [1, 2, 3, 0, 4] rfl ?_
          exact hJ95 a1 a3 a6 a5 r15.2 hf
      have hJ55 : ∀ (a1 a3 a4 a5 a6 : Int32) (σ : Sg), f_X12_costAheadOne_J55 N (f_X12_costAheadOne_L26 N k) a1 a3 a4 a5 a6 σ = some Q26 → Zz E X YX12_costAheadOne (some (.int R.1), R.2) σ 55 [(0, .ref (E.2.1 73)), (1, .int a1), (3, .int a3), (4, .int a4), (5, .int a5), (6, .int a6)] [] := by
        intro a1 a3 a4 a5 a6 σ hf
        unfold f_X12_costAheadOne_J55 at hf
        refine z_iload_n C dX12_costAheadOne_55 2 rfl ?_
        refine z_if_lt (tgt := 68) C dX12_costAheadOne_56 (by decide) (fun h8 => ?_) (fun h8 => ?_)
        · replace hf := ifp hf h8
          refine z_sub [(0, .ref (E.2.1 73)), (1, .int a1), (3, .int a3), (4, .int a4), (5, .int a5), (6, .int a6)] [0, 1, 2, 3, 4, 5] rfl ?_
          exact hJ68 a1 a3 a4 a5 a6 σ hf
        · replace hf := ifn hf h8
          refine z_iload C dX12_costAheadOne_59 5 rfl ?_
          refine z_iload_n C dX12_costAheadOne_61 2 rfl ?_
          refine z_icmp_lt (tgt := 68) C dX12_costAheadOne_62 (by decide) (fun h20 => ?_) (fun h20 => ?_)
          · replace hf := ifp hf h20
            refine z_sub [(0, .ref (E.2.1 73)), (1, .int a1), (3, .int a3), (4, .int a4), (5, .int a5), (6, .int a6)] [0, 1, 2, 3, 4, 5] rfl ?_
            exact hJ68 a1 a3 a4 a5 a6 σ hf
          · replace hf := ifn hf h20
            refine z_goto (tgt := 100) C dX12_costAheadOne_65 (by decide) ?_
            refine z_iinc (v := (a5 + 1)) (lv' := [(5, .int (a5 + 1)), (0, .ref (E.2.1 73)), (1, .int a1), (3, .int a3), (4, .int a4), (6, .int a6)]) C dX12_costAheadOne_100 4 rfl rfl (by decide) rfl ?_
            refine z_goto (tgt := 26) C dX12_costAheadOne_103 (by decide) ?_
            refine z_sub [(0, .ref (E.2.1 73)), (1, .int a1), (3, .int a3), (4, .int a4), (5, .int (a5 + 1))] [1, 2, 3, 4, 0] rfl ?_
            exact ih a1 a3 a4 (a5 + 1) σ _ hf hx26
      unfold f_X12_costAheadOne_B26 at hf
      refine z_iload C dX12_costAheadOne_26 4 rfl ?_
      refine z_bipush (v := 81) C dX12_costAheadOne_28 (by decide) ?_
      refine z_icmp_ge (tgt := 106) C dX12_costAheadOne_30 (by decide) (fun h2 => ?_) (fun h2 => ?_)
      · replace hf := ifp hf h2
        refine z_sub [(4, .int a4)] [3] rfl ?_
        obtain rfl := Option.some.inj hf
        exact hx26
      · replace hf := ifn hf h2
        refine z_iload C dX12_costAheadOne_33 4 rfl ?_
        obtain ⟨r3, h4, hf⟩ := bd_some hf
        refine z_callS (Y2 := YX12_two) (As := [.int a5]) C lk_X12_two t_1110 t_1111 (Nat.le_of_ble_eq_true rfl) (Nat.le_of_ble_eq_true rfl) dX12_costAheadOne_35 (Nat.le_of_ble_eq_true rfl) rfl rfl (m_X12_two X.2.1 E N a5 σ _ h4) ?_
        change Zz E X YX12_costAheadOne (some (.int R.1), R.2) r3.2 _ _ [.int r3.1]
        obtain ⟨r5, h6, hf⟩ := bd_some hf
        refine z_callS (Y2 := YX12_cost) (As := [.int r3.1]) C lk_X12_cost t_1113 t_1114 (Nat.le_of_ble_eq_true rfl) (Nat.le_of_ble_eq_true rfl) dX12_costAheadOne_38 (Nat.le_of_ble_eq_true rfl) rfl rfl (m_X12_cost X.2.1 E N r3.1 r3.2 _ h6) ?_
        change Zz E X YX12_costAheadOne (some (.int R.1), R.2) r5.2 _ _ [.int r5.1]
        refine z_istore (lv' := [(6, .int r5.1), (0, .ref (E.2.1 73)), (1, .int a1), (3, .int a3), (4, .int a4), (5, .int a5)]) C dX12_costAheadOne_41 (by decide) rfl ?_
        refine z_iload C dX12_costAheadOne_43 4 rfl ?_
        refine z_if_lt (tgt := 55) C dX12_costAheadOne_45 (by decide) (fun h7 => ?_) (fun h7 => ?_)
        · replace hf := ifp hf h7
          refine z_sub [(0, .ref (E.2.1 73)), (1, .int a1), (3, .int a3), (4, .int a4), (5, .int a5), (6, .int r5.1)] [1, 2, 3, 4, 5, 0] rfl ?_
          exact hJ55 a1 a3 a4 a5 r5.1 r5.2 hf
        · replace hf := ifn hf h7
          refine z_iload C dX12_costAheadOne_48 0 rfl ?_
          refine z_iload C dX12_costAheadOne_50 4 rfl ?_
          refine z_icmp_ge (tgt := 100) C dX12_costAheadOne_52 (by decide) (fun h21 => ?_) (fun h21 => ?_)
          · replace hf := ifp hf h21
            refine z_iinc (v := (a5 + 1)) (lv' := [(5, .int (a5 + 1)), (6, .int r5.1), (0, .ref (E.2.1 73)), (1, .int a1), (3, .int a3), (4, .int a4)]) C dX12_costAheadOne_100 5 rfl rfl (by decide) rfl ?_
            refine z_goto (tgt := 26) C dX12_costAheadOne_103 (by decide) ?_
            refine z_sub [(0, .ref (E.2.1 73)), (1, .int a1), (3, .int a3), (4, .int a4), (5, .int (a5 + 1))] [2, 3, 4, 5, 0] rfl ?_
            exact ih a1 a3 a4 (a5 + 1) r5.2 _ hf hx26
          · replace hf := ifn hf h21
            refine z_sub [(0, .ref (E.2.1 73)), (1, .int a1), (3, .int a3), (4, .int a4), (5, .int a5), (6, .int r5.1)] [1, 2, 3, 4, 5, 0] rfl ?_
            exact hJ55 a1 a3 a4 a5 r5.1 r5.2 hf
  unfold f_X12_costAheadOne at hf
  refine z_iload_n C dX12_costAheadOne_0 2 rfl ?_
  refine z_if_ne (tgt := 19) C dX12_costAheadOne_1 (by decide) (fun h1 => ?_) (fun h1 => ?_)
  · replace hf := ifn hf h1
    refine z_bipush (v := (-9)) C dX12_costAheadOne_19 (by decide) ?_
    refine z_istore (lv' := [(4, .int (-9)), (0, .ref (E.2.1 73)), (1, .int x1), (2, .int x2), (3, .int x3)]) C dX12_costAheadOne_21 (by decide) rfl ?_
    refine z_iconst (v := 0) C dX12_costAheadOne_23 (by decide) ?_
    refine z_istore (lv' := [(5, .int 0), (4, .int (-9)), (0, .ref (E.2.1 73)), (1, .int x1), (2, .int x2), (3, .int x3)]) C dX12_costAheadOne_24 (by decide) rfl ?_
    refine z_sub [(0, .ref (E.2.1 73)), (1, .int x1), (3, .int x3), (4, .int (-9)), (5, .int 0)] [2, 3, 5, 1, 0] rfl ?_
    obtain ⟨s22, h23, hf⟩ := bd_some hf
    refine hL26 N x1 x3 (-9) 0 σ _ h23 ?_
    refine z_iload C dX12_costAheadOne_106 0 rfl ?_
    exact z_iret C dX12_costAheadOne_108 rfl (by rw [← Option.some.inj hf])
  · replace hf := ifp hf h1
    refine z_aload_n C dX12_costAheadOne_4 0 rfl ?_
    refine z_iload_n C dX12_costAheadOne_5 1 rfl ?_
    obtain ⟨r24, h25, hf⟩ := bd_some hf
    refine z_callV (Y2 := YX12_isReached) (CC := RX12) (T := TX12) (N := 39) (ci := 11) (As := [.int x1]) C lk_X12_isReached (by decide) wc_mo rfl t_1136 t_1138 p_50 (Nat.le_of_ble_eq_true rfl) (Nat.le_of_ble_eq_true rfl) dX12_costAheadOne_6 (Nat.le_of_ble_eq_true rfl) rfl rfl (m_X12_isReached X.2.1 E N x1 σ _ h25) ?_
    change Zz E X YX12_costAheadOne (some (.int R.1), R.2) r24.2 _ _ [.int r24.1]
    refine z_if_eq (tgt := 16) C dX12_costAheadOne_9 (by decide) (fun h26 => ?_) (fun h26 => ?_)
    · replace hf := ifp hf h26
      refine z_bipush (v := (-9)) C dX12_costAheadOne_16 (by decide) ?_
      exact z_iret C dX12_costAheadOne_18 rfl (by rw [← Option.some.inj hf])
    · replace hf := ifn hf h26
      refine z_iconst (v := 0) C dX12_costAheadOne_12 (by decide) ?_
      refine z_goto (tgt := 18) C dX12_costAheadOne_13 (by decide) ?_
      exact z_iret C dX12_costAheadOne_18 rfl (by rw [← Option.some.inj hf])
theorem lk_X12_costAheadOne {Y : Yv} : Lk Y YX12_costAheadOne 3 := ⟨t_1147, t_13, ⟨by decide +kernel, by decide +kernel⟩, by decide +kernel⟩
abbrev YX12_costAhead : Yv := (yX12_costAhead, cX12_costAhead, 6, some .int, 7, 168)
def f_X12_costAhead_J124 (N : Nat) (rec : Int32 → Int32 → Int32 → Int32 → Sg → Option (Int32 × Sg)) (a1 a2 a4 a5 : Int32) (σ : Sg) : Option (Int32 × Sg) :=
  (f_X12_two N a4 σ).bind (fun r21 => (f_X12_cost N r21.1 r21.2).bind (fun r23 => rec a1 a2 (a5 + r23.1) (a4 + 1) r23.2))
def f_X12_costAhead_J90 (N : Nat) (rec : Int32 → Int32 → Int32 → Int32 → Sg → Option (Int32 × Sg)) (a1 a2 a3 a4 b0 b1 b2 : Int32) (σ : Sg) : Option (Int32 × Sg) :=
  (f_X12_costAheadOne N b2 b1 b0 σ).bind (fun r15 => (f_X12_putsBack N a2 r15.2).bind (fun r17 => if r15.1 < 0 then (rec a1 a2 a3 (a4 + 1) r17) else (if a3 < 0 then (f_X12_costAhead_J124 N rec a1 a2 a4 r15.1 r17) else ((f_X12_two N a4 r17).bind (fun r25 => (f_X12_cost N r25.1 r25.2).bind (fun r27 => if a3 ≤ (r15.1 + r27.1) then (rec a1 a2 a3 (a4 + 1) r27.2) else (f_X12_costAhead_J124 N rec a1 a2 a4 r15.1 r27.2)))))))
def f_X12_costAhead_J51 (N : Nat) (rec : Int32 → Int32 → Int32 → Int32 → Sg → Option (Int32 × Sg)) (a1 a2 a3 a4 : Int32) (σ : Sg) : Option (Int32 × Sg) :=
  (f_X12_keeps N a2 σ).bind (fun r4 => (f_X12_two N a4 r4).bind (fun r6 => (f_X12_posts N r6.1 r6.2).bind (fun r8 => if 0 ≤ a3 then ((f_X12_two N a4 r8.2).bind (fun r11 => (f_X12_cost N r11.1 r11.2).bind (fun r13 => f_X12_costAhead_J90 N rec a1 a2 a3 a4 (a3 - r13.1) (a2 - 1) a1 r13.2))) else (f_X12_costAhead_J90 N rec a1 a2 a3 a4 (-9) (a2 - 1) a1 r8.2))))
def f_X12_costAhead_B25 (N : Nat) (rec : Int32 → Int32 → Int32 → Int32 → Sg → Option (Int32 × Sg)) (a1 a2 a3 a4 : Int32) (σ : Sg) : Option (Int32 × Sg) :=
  if 81 ≤ a4 then (some (a3, σ)) else (if a3 < 0 then (f_X12_costAhead_J51 N rec a1 a2 a3 a4 σ) else ((f_X12_two N a4 σ).bind (fun r30 => (f_X12_cost N r30.1 r30.2).bind (fun r32 => if r32.1 < a3 then (f_X12_costAhead_J51 N rec a1 a2 a3 a4 r32.2) else (rec a1 a2 a3 (a4 + 1) r32.2)))))
def f_X12_costAhead_L25 (N : Nat) : Nat → Int32 → Int32 → Int32 → Int32 → Sg → Option (Int32 × Sg)
  | 0 => fun _ _ _ _ _ => none
  | k + 1 => fun a1 a2 a3 a4 σ => f_X12_costAhead_B25 N (f_X12_costAhead_L25 N k) a1 a2 a3 a4 σ
def f_X12_costAhead (N : Nat) (x1 x2 : Int32) (σ : Sg) : Option (Int32 × Sg) :=
  if x2 = 0 then ((f_X12_isReached N x1 σ).bind (fun r37 => if r37.1 = 0 then (some ((-9), r37.2)) else (some (0, r37.2)))) else ((f_X12_costAhead_L25 N N x1 x2 (-9) 0 σ).bind (fun s35 => some (s35.1, s35.2)))
set_option maxHeartbeats 4000000 in
set_option maxRecDepth 20000 in
theorem m_X12_costAhead (l : Launch) (E : Ev) (N : Nat) (x1 x2 : Int32) (σ : Sg) (R : Int32 × Sg) (hf : f_X12_costAhead N x1 x2 σ = some R) : Ct l E YX12_costAhead [.ref (E.2.1 73), .int x1, .int x2] σ (some (.int R.1), R.2) := by
  refine ct_of (by decide +kernel) (Nat.le_of_ble_eq_true rfl) [(0, .ref (E.2.1 73)), (1, .int x1), (2, .int x2)] rfl (fun X hX C => ?_)
  have hL25 : ∀ (k : Nat) (a1 a2 a3 a4 : Int32) (σ : Sg) (Q25 : Int32 × Sg), f_X12_costAhead_L25 N k a1 a2 a3 a4 σ = some Q25 → (Zz E X YX12_costAhead (some (.int R.1), R.2) Q25.2 142 [(3, .int Q25.1)] []) → Zz E X YX12_costAhead (some (.int R.1), R.2) σ 25 [(0, .ref (E.2.1 73)), (1, .int a1), (2, .int a2), (3, .int a3), (4, .int a4)] [] := by
    intro k
    induction k with
    | zero =>
      intro a1 a2 a3 a4 σ Q25 hf
      have hf : (none : Option (Int32 × Sg)) = some Q25 := hf
      cases hf
    | succ k ih =>
      intro a1 a2 a3 a4 σ Q25 hf hx25
      have hf : f_X12_costAhead_B25 N (f_X12_costAhead_L25 N k) a1 a2 a3 a4 σ = some Q25 := hf
      have hJ124 : ∀ (a1 a2 a4 a5 : Int32) (σ : Sg), f_X12_costAhead_J124 N (f_X12_costAhead_L25 N k) a1 a2 a4 a5 σ = some Q25 → Zz E X YX12_costAhead (some (.int R.1), R.2) σ 124 [(0, .ref (E.2.1 73)), (1, .int a1), (2, .int a2), (4, .int a4), (5, .int a5)] [] := by
        intro a1 a2 a4 a5 σ hf
        unfold f_X12_costAhead_J124 at hf
        refine z_iload C dX12_costAhead_124 4 rfl ?_
        refine z_iload C dX12_costAhead_126 3 rfl ?_
        obtain ⟨r21, h22, hf⟩ := bd_some hf
        refine z_callS (Y2 := YX12_two) (As := [.int a4]) C lk_X12_two t_1110 t_1111 (Nat.le_of_ble_eq_true rfl) (Nat.le_of_ble_eq_true rfl) dX12_costAhead_128 (Nat.le_of_ble_eq_true rfl) rfl rfl (m_X12_two X.2.1 E N a4 σ _ h22) ?_
        change Zz E X YX12_costAhead (some (.int R.1), R.2) r21.2 _ _ [.int r21.1, .int a5]
        obtain ⟨r23, h24, hf⟩ := bd_some hf
        refine z_callS (Y2 := YX12_cost) (As := [.int r21.1]) C lk_X12_cost t_1113 t_1114 (Nat.le_of_ble_eq_true rfl) (Nat.le_of_ble_eq_true rfl) dX12_costAhead_131 (Nat.le_of_ble_eq_true rfl) rfl rfl (m_X12_cost X.2.1 E N r21.1 r21.2 _ h24) ?_
        change Zz E X YX12_costAhead (some (.int R.1), R.2) r23.2 _ _ [.int r23.1, .int a5]
        refine z_iadd C dX12_costAhead_134 ?_
        refine z_istore_n (lv' := [(3, .int (a5 + r23.1)), (0, .ref (E.2.1 73)), (1, .int a1), (2, .int a2), (4, .int a4), (5, .int a5)]) C dX12_costAhead_135 (by decide) rfl ?_
        refine z_iinc (v := (a4 + 1)) (lv' := [(4, .int (a4 + 1)), (3, .int (a5 + r23.1)), (0, .ref (E.2.1 73)), (1, .int a1), (2, .int a2), (5, .int a5)]) C dX12_costAhead_136 4 rfl rfl (by decide) rfl ?_
        refine z_goto (tgt := 25) C dX12_costAhead_139 (by decide) ?_
        refine z_sub [(0, .ref (E.2.1 73)), (1, .int a1), (2, .int a2), (3, .int (a5 + r23.1)), (4, .int (a4 + 1))] [2, 3, 4, 1, 0] rfl ?_
        exact ih a1 a2 (a5 + r23.1) (a4 + 1) r23.2 _ hf hx25
      have hJ90 : ∀ (a1 a2 a3 a4 b0 b1 b2 : Int32) (σ : Sg), f_X12_costAhead_J90 N (f_X12_costAhead_L25 N k) a1 a2 a3 a4 b0 b1 b2 σ = some Q25 → Zz E X YX12_costAhead (some (.int R.1), R.2) σ 90 [(0, .ref (E.2.1 73)), (1, .int a1), (2, .int a2), (3, .int a3), (4, .int a4)] [.int b0, .int b1, .int b2, .ref (E.2.1 73)] := by
        intro a1 a2 a3 a4 b0 b1 b2 σ hf
        unfold f_X12_costAhead_J90 at hf
        obtain ⟨r15, h16, hf⟩ := bd_some hf
        refine z_callV (Y2 := YX12_costAheadOne) (CC := RX12) (T := TX12) (N := 39) (ci := 11) (As := [.int b2, .int b1, .int b0]) C lk_X12_costAheadOne (by decide) wc_mo rfl t_1144 t_1146 p_52 (Nat.le_of_ble_eq_true rfl) (Nat.le_of_ble_eq_true rfl) dX12_costAhead_90 (Nat.le_of_ble_eq_true rfl) rfl rfl (m_X12_costAheadOne X.2.1 E N b2 b1 b0 σ _ h16) ?_
        change Zz E X YX12_costAhead (some (.int R.1), R.2) r15.2 _ _ [.int r15.1]
        refine z_istore (lv' := [(5, .int r15.1), (0, .ref (E.2.1 73)), (1, .int a1), (2, .int a2), (3, .int a3), (4, .int a4)]) C dX12_costAhead_93 (by decide) rfl ?_
        refine z_aload_n C dX12_costAhead_95 1 rfl ?_
        refine z_iload_n C dX12_costAhead_96 3 rfl ?_
        obtain ⟨r17, h18, hf⟩ := bd_some hf
        refine z_callV (Y2 := YX12_putsBack) (CC := RX12) (T := TX12) (N := 39) (ci := 11) (As := [.int a2]) C lk_X12_putsBack (by decide) wc_mo rfl t_1148 t_1150 p_53 (Nat.le_of_ble_eq_true rfl) (Nat.le_of_ble_eq_true rfl) dX12_costAhead_97 (Nat.le_of_ble_eq_true rfl) rfl rfl (m_X12_putsBack X.2.1 E N a2 r15.2 _ h18) ?_
        change Zz E X YX12_costAhead (some (.int R.1), R.2) r17 _ _ []
        refine z_iload C dX12_costAhead_100 0 rfl ?_
        refine z_if_lt (tgt := 136) C dX12_costAhead_102 (by decide) (fun h19 => ?_) (fun h19 => ?_)
        · replace hf := ifp hf h19
          refine z_iinc (v := (a4 + 1)) (lv' := [(4, .int (a4 + 1)), (5, .int r15.1), (0, .ref (E.2.1 73)), (1, .int a1), (2, .int a2), (3, .int a3)]) C dX12_costAhead_136 5 rfl rfl (by decide) rfl ?_
          refine z_goto (tgt := 25) C dX12_costAhead_139 (by decide) ?_
          refine z_sub [(0, .ref (E.2.1 73)), (1, .int a1), (2, .int a2), (3, .int a3), (4, .int (a4 + 1))] [2, 3, 4, 5, 0] rfl ?_
          exact ih a1 a2 a3 (a4 + 1) r17 _ hf hx25
        · replace hf := ifn hf h19
          refine z_iload_n C dX12_costAhead_105 4 rfl ?_
          refine z_if_lt (tgt := 124) C dX12_costAhead_106 (by decide) (fun h20 => ?_) (fun h20 => ?_)
          · replace hf := ifp hf h20
            refine z_sub [(0, .ref (E.2.1 73)), (1, .int a1), (2, .int a2), (4, .int a4), (5, .int r15.1)] [1, 2, 3, 5, 0] rfl ?_
            exact hJ124 a1 a2 a4 r15.1 r17 hf
          · replace hf := ifn hf h20
            refine z_iload C dX12_costAhead_109 0 rfl ?_
            refine z_iload C dX12_costAhead_111 5 rfl ?_
            obtain ⟨r25, h26, hf⟩ := bd_some hf
            refine z_callS (Y2 := YX12_two) (As := [.int a4]) C lk_X12_two t_1110 t_1111 (Nat.le_of_ble_eq_true rfl) (Nat.le_of_ble_eq_true rfl) dX12_costAhead_113 (Nat.le_of_ble_eq_true rfl) rfl rfl (m_X12_two X.2.1 E N a4 r17 _ h26) ?_
            change Zz E X YX12_costAhead (some (.int R.1), R.2) r25.2 _ _ [.int r25.1, .int r15.1]
            obtain ⟨r27, h28, hf⟩ := bd_some hf
            refine z_callS (Y2 := YX12_cost) (As := [.int r25.1]) C lk_X12_cost t_1113 t_1114 (Nat.le_of_ble_eq_true rfl) (Nat.le_of_ble_eq_true rfl) dX12_costAhead_116 (Nat.le_of_ble_eq_true rfl) rfl rfl (m_X12_cost X.2.1 E N r25.1 r25.2 _ h28) ?_
            change Zz E X YX12_costAhead (some (.int R.1), R.2) r27.2 _ _ [.int r27.1, .int r15.1]
            refine z_iadd C dX12_costAhead_119 ?_
            refine z_iload_n C dX12_costAhead_120 4 rfl ?_
            refine z_icmp_ge (tgt := 136) C dX12_costAhead_121 (by decide) (fun h29 => ?_) (fun h29 => ?_)
            · replace hf := ifp hf h29
              refine z_iinc (v := (a4 + 1)) (lv' := [(4, .int (a4 + 1)), (5, .int r15.1), (0, .ref (E.2.1 73)), (1, .int a1), (2, .int a2), (3, .int a3)]) C dX12_costAhead_136 5 rfl rfl (by decide) rfl ?_
              refine z_goto (tgt := 25) C dX12_costAhead_139 (by decide) ?_
              refine z_sub [(0, .ref (E.2.1 73)), (1, .int a1), (2, .int a2), (3, .int a3), (4, .int (a4 + 1))] [2, 3, 4, 5, 0] rfl ?_
              exact ih a1 a2 a3 (a4 + 1) r27.2 _ hf hx25
            · replace hf := ifn hf h29
              refine z_sub [(0, .ref (E.2.1 73)), (1, .int a1), (2, .int a2), (4, .int a4), (5, .int r15.1)] [1, 2, 3, 5, 0] rfl ?_
              exact hJ124 a1 a2 a4 r15.1 r27.2 hf
      have hJ51 : ∀ (a1 a2 a3 a4 : Int32) (σ : Sg), f_X12_costAhead_J51 N (f_X12_costAhead_L25 N k) a1 a2 a3 a4 σ = some Q25 → Zz E X YX12_costAhead (some (.int R.1), R.2) σ 51 [(0, .ref (E.2.1 73)), (1, .int a1), (2, .int a2), (3, .int a3), (4, .int a4)] [] := by
        intro a1 a2 a3 a4 σ hf
        unfold f_X12_costAhead_J51 at hf
        refine z_aload_n C dX12_costAhead_51 0 rfl ?_
        refine z_iload_n C dX12_costAhead_52 2 rfl ?_
        obtain ⟨r4, h5, hf⟩ := bd_some hf
        refine z_callV (Y2 := YX12_keeps) (CC := RX12) (T := TX12) (N := 39) (ci := 11) (As := [.int a2]) C lk_X12_keeps (by decide) wc_mo rfl t_1140 t_1142 p_51 (Nat.le_of_ble_eq_true rfl) (Nat.le_of_ble_eq_true rfl) dX12_costAhead_53 (Nat.le_of_ble_eq_true rfl) rfl rfl (m_X12_keeps X.2.1 E N a2 σ _ h5) ?_
        change Zz E X YX12_costAhead (some (.int R.1), R.2) r4 _ _ []
        refine z_aload_n C dX12_costAhead_56 0 rfl ?_
        refine z_iload C dX12_costAhead_57 4 rfl ?_
        obtain ⟨r6, h7, hf⟩ := bd_some hf
        refine z_callS (Y2 := YX12_two) (As := [.int a4]) C lk_X12_two t_1110 t_1111 (Nat.le_of_ble_eq_true rfl) (Nat.le_of_ble_eq_true rfl) dX12_costAhead_59 (Nat.le_of_ble_eq_true rfl) rfl rfl (m_X12_two X.2.1 E N a4 r4 _ h7) ?_
        change Zz E X YX12_costAhead (some (.int R.1), R.2) r6.2 _ _ [.int r6.1, .ref (E.2.1 73)]
        obtain ⟨r8, h9, hf⟩ := bd_some hf
        refine z_callV (Y2 := YX12_posts) (CC := RX12) (T := TX12) (N := 39) (ci := 11) (As := [.int r6.1]) C lk_X12_posts (by decide) wc_mo rfl t_1078 t_1080 p_43 (Nat.le_of_ble_eq_true rfl) (Nat.le_of_ble_eq_true rfl) dX12_costAhead_62 (Nat.le_of_ble_eq_true rfl) rfl rfl (m_X12_posts X.2.1 E N r6.1 r6.2 _ h9) ?_
        change Zz E X YX12_costAhead (some (.int R.1), R.2) r8.2 _ _ [.int r8.1]
        refine z_pop C dX12_costAhead_65 rfl ?_
        refine z_aload_n C dX12_costAhead_66 0 rfl ?_
        refine z_iload_n C dX12_costAhead_67 1 rfl ?_
        refine z_iload_n C dX12_costAhead_68 2 rfl ?_
        refine z_iconst (v := 1) C dX12_costAhead_69 (by decide) ?_
        refine z_isub C dX12_costAhead_70 ?_
        refine z_iload_n C dX12_costAhead_71 3 rfl ?_
        refine z_if_ge (tgt := 80) C dX12_costAhead_72 (by decide) (fun h10 => ?_) (fun h10 => ?_)
        · replace hf := ifp hf h10
          refine z_iload_n C dX12_costAhead_80 3 rfl ?_
          refine z_iload C dX12_costAhead_81 4 rfl ?_
          obtain ⟨r11, h12, hf⟩ := bd_some hf
          refine z_callS (Y2 := YX12_two) (As := [.int a4]) C lk_X12_two t_1110 t_1111 (Nat.le_of_ble_eq_true rfl) (Nat.le_of_ble_eq_true rfl) dX12_costAhead_83 (Nat.le_of_ble_eq_true rfl) rfl rfl (m_X12_two X.2.1 E N a4 r8.2 _ h12) ?_
          change Zz E X YX12_costAhead (some (.int R.1), R.2) r11.2 _ _ [.int r11.1, .int a3, .int (a2 - 1), .int a1, .ref (E.2.1 73)]
          obtain ⟨r13, h14, hf⟩ := bd_some hf
          refine z_callS (Y2 := YX12_cost) (As := [.int r11.1]) C lk_X12_cost t_1113 t_1114 (Nat.le_of_ble_eq_true rfl) (Nat.le_of_ble_eq_true rfl) dX12_costAhead_86 (Nat.le_of_ble_eq_true rfl) rfl rfl (m_X12_cost X.2.1 E N r11.1 r11.2 _ h14) ?_
          change Zz E X YX12_costAhead (some (.int R.1), R.2) r13.2 _ _ [.int r13.1, .int a3, .int (a2 - 1), .int a1, .ref (E.2.1 73)]
          refine z_isub C dX12_costAhead_89 ?_
          refine z_sub [(0, .ref (E.2.1 73)), (1, .int a1), (2, .int a2), (3, .int a3), (4, .int a4)] [0, 1, 2, 3, 4] rfl ?_
          exact hJ90 a1 a2 a3 a4 (a3 - r13.1) (a2 - 1) a1 r13.2 hf
        · replace hf := ifn hf h10
          refine z_bipush (v := (-9)) C dX12_costAhead_75 (by decide) ?_
          refine z_goto (tgt := 90) C dX12_costAhead_77 (by decide) ?_
          refine z_sub [(0, .ref (E.2.1 73)), (1, .int a1), (2, .int a2), (3, .int a3), (4, .int a4)] [0, 1, 2, 3, 4] rfl ?_
          exact hJ90 a1 a2 a3 a4 (-9) (a2 - 1) a1 r8.2 hf
      unfold f_X12_costAhead_B25 at hf
      refine z_iload C dX12_costAhead_25 4 rfl ?_
      refine z_bipush (v := 81) C dX12_costAhead_27 (by decide) ?_
      refine z_icmp_ge (tgt := 142) C dX12_costAhead_29 (by decide) (fun h2 => ?_) (fun h2 => ?_)
      · replace hf := ifp hf h2
        refine z_sub [(3, .int a3)] [3] rfl ?_
        obtain rfl := Option.some.inj hf
        exact hx25
      · replace hf := ifn hf h2
        refine z_iload_n C dX12_costAhead_32 3 rfl ?_
        refine z_if_lt (tgt := 51) C dX12_costAhead_33 (by decide) (fun h3 => ?_) (fun h3 => ?_)
        · replace hf := ifp hf h3
          refine z_sub [(0, .ref (E.2.1 73)), (1, .int a1), (2, .int a2), (3, .int a3), (4, .int a4)] [0, 1, 2, 3, 4] rfl ?_
          exact hJ51 a1 a2 a3 a4 σ hf
        · replace hf := ifn hf h3
          refine z_iload C dX12_costAhead_36 4 rfl ?_
          obtain ⟨r30, h31, hf⟩ := bd_some hf
          refine z_callS (Y2 := YX12_two) (As := [.int a4]) C lk_X12_two t_1110 t_1111 (Nat.le_of_ble_eq_true rfl) (Nat.le_of_ble_eq_true rfl) dX12_costAhead_38 (Nat.le_of_ble_eq_true rfl) rfl rfl (m_X12_two X.2.1 E N a4 σ _ h31) ?_
          change Zz E X YX12_costAhead (some (.int R.1), R.2) r30.2 _ _ [.int r30.1]
          obtain ⟨r32, h33, hf⟩ := bd_some hf
          refine z_callS (Y2 := YX12_cost) (As := [.int r30.1]) C lk_X12_cost t_1113 t_1114 (Nat.le_of_ble_eq_true rfl) (Nat.le_of_ble_eq_true rfl) dX12_costAhead_41 (Nat.le_of_ble_eq_true rfl) rfl rfl (m_X12_cost X.2.1 E N r30.1 r30.2 _ h33) ?_
          change Zz E X YX12_costAhead (some (.int R.1), R.2) r32.2 _ _ [.int r32.1]
          refine z_iload_n C dX12_costAhead_44 3 rfl ?_
          refine z_icmp_lt (tgt := 51) C dX12_costAhead_45 (by decide) (fun h34 => ?_) (fun h34 => ?_)
          · replace hf := ifp hf h34
            refine z_sub [(0, .ref (E.2.1 73)), (1, .int a1), (2, .int a2), (3, .int a3), (4, .int a4)] [0, 1, 2, 3, 4] rfl ?_
            exact hJ51 a1 a2 a3 a4 r32.2 hf
          · replace hf := ifn hf h34
            refine z_goto (tgt := 136) C dX12_costAhead_48 (by decide) ?_
            refine z_iinc (v := (a4 + 1)) (lv' := [(4, .int (a4 + 1)), (0, .ref (E.2.1 73)), (1, .int a1), (2, .int a2), (3, .int a3)]) C dX12_costAhead_136 4 rfl rfl (by decide) rfl ?_
            refine z_goto (tgt := 25) C dX12_costAhead_139 (by decide) ?_
            refine z_sub [(0, .ref (E.2.1 73)), (1, .int a1), (2, .int a2), (3, .int a3), (4, .int (a4 + 1))] [1, 2, 3, 4, 0] rfl ?_
            exact ih a1 a2 a3 (a4 + 1) r32.2 _ hf hx25
  unfold f_X12_costAhead at hf
  refine z_iload_n C dX12_costAhead_0 2 rfl ?_
  refine z_if_ne (tgt := 19) C dX12_costAhead_1 (by decide) (fun h1 => ?_) (fun h1 => ?_)
  · replace hf := ifn hf h1
    refine z_bipush (v := (-9)) C dX12_costAhead_19 (by decide) ?_
    refine z_istore_n (lv' := [(3, .int (-9)), (0, .ref (E.2.1 73)), (1, .int x1), (2, .int x2)]) C dX12_costAhead_21 (by decide) rfl ?_
    refine z_iconst (v := 0) C dX12_costAhead_22 (by decide) ?_
    refine z_istore (lv' := [(4, .int 0), (3, .int (-9)), (0, .ref (E.2.1 73)), (1, .int x1), (2, .int x2)]) C dX12_costAhead_23 (by decide) rfl ?_
    refine z_sub [(0, .ref (E.2.1 73)), (1, .int x1), (2, .int x2), (3, .int (-9)), (4, .int 0)] [2, 3, 4, 1, 0] rfl ?_
    obtain ⟨s35, h36, hf⟩ := bd_some hf
    refine hL25 N x1 x2 (-9) 0 σ _ h36 ?_
    refine z_iload_n C dX12_costAhead_142 0 rfl ?_
    exact z_iret C dX12_costAhead_143 rfl (by rw [← Option.some.inj hf])
  · replace hf := ifp hf h1
    refine z_aload_n C dX12_costAhead_4 0 rfl ?_
    refine z_iload_n C dX12_costAhead_5 1 rfl ?_
    obtain ⟨r37, h38, hf⟩ := bd_some hf
    refine z_callV (Y2 := YX12_isReached) (CC := RX12) (T := TX12) (N := 39) (ci := 11) (As := [.int x1]) C lk_X12_isReached (by decide) wc_mo rfl t_1136 t_1138 p_50 (Nat.le_of_ble_eq_true rfl) (Nat.le_of_ble_eq_true rfl) dX12_costAhead_6 (Nat.le_of_ble_eq_true rfl) rfl rfl (m_X12_isReached X.2.1 E N x1 σ _ h38) ?_
    change Zz E X YX12_costAhead (some (.int R.1), R.2) r37.2 _ _ [.int r37.1]
    refine z_if_eq (tgt := 16) C dX12_costAhead_9 (by decide) (fun h39 => ?_) (fun h39 => ?_)
    · replace hf := ifp hf h39
      refine z_bipush (v := (-9)) C dX12_costAhead_16 (by decide) ?_
      exact z_iret C dX12_costAhead_18 rfl (by rw [← Option.some.inj hf])
    · replace hf := ifn hf h39
      refine z_iconst (v := 0) C dX12_costAhead_12 (by decide) ?_
      refine z_goto (tgt := 18) C dX12_costAhead_13 (by decide) ?_
      exact z_iret C dX12_costAhead_18 rfl (by rw [← Option.some.inj hf])
theorem lk_X12_costAhead {Y : Yv} : Lk Y YX12_costAhead 2 := ⟨t_1135, t_13, ⟨by decide +kernel, by decide +kernel⟩, by decide +kernel⟩
abbrev YX12_before : Yv := (yX12_before, cX12_before, 5, some .int, 8, 193)
def f_X12_before_B32 (N : Nat) (rec : Int32 → Int32 → Int32 → Sg → Option ((Sg) ⊕ (Int32 × Sg))) (a1 a2 a3 : Int32) (σ : Sg) : Option ((Sg) ⊕ (Int32 × Sg)) :=
  if 3 ≤ a3 then (some (.inl σ)) else ((f_X12_costAhead N a1 a3 σ).bind (fun r8 => if r8.1 < 0 then (rec a1 a2 (a3 + 1) r8.2) else (if a2 = 0 then (some (.inr (a3, r8.2))) else (some (.inr (r8.1, r8.2))))))
def f_X12_before_L32 (N : Nat) : Nat → Int32 → Int32 → Int32 → Sg → Option ((Sg) ⊕ (Int32 × Sg))
  | 0 => fun _ _ _ _ => none
  | k + 1 => fun a1 a2 a3 σ => f_X12_before_B32 N (f_X12_before_L32 N k) a1 a2 a3 σ
def f_X12_before (N : Nat) (x1 x2 : Int32) (σ : Sg) : Option (Int32 × Sg) :=
  (f_X12_isPerson N x1 σ).bind (fun r1 => if r1.1 = 0 then ((f_X12_no N (-1) r1.2).bind (fun r17 => some (r17.1, r17.2))) else ((f_X12_isIn N x2 0 1 r1.2).bind (fun r4 => if r4.1 = 0 then ((f_X12_no N (-2) r4.2).bind (fun r15 => some (r15.1, r15.2))) else (ex1 (f_X12_before_L32 N N x1 x2 0 r4.2) (fun s12 => some ((-9), s12)) (fun r13 => some r13)))))
set_option maxHeartbeats 4000000 in
set_option maxRecDepth 20000 in
theorem m_X12_before (l : Launch) (E : Ev) (N : Nat) (x1 x2 : Int32) (σ : Sg) (R : Int32 × Sg) (hf : f_X12_before N x1 x2 σ = some R) : Ct l E YX12_before [.ref (E.2.1 73), .int x1, .int x2] σ (some (.int R.1), R.2) := by
  refine ct_of (by decide +kernel) (Nat.le_of_ble_eq_true rfl) [(0, .ref (E.2.1 73)), (1, .int x1), (2, .int x2)] rfl (fun X hX C => ?_)
  have hL32 : ∀ (k : Nat) (a1 a2 a3 : Int32) (σ : Sg) (Q32 : (Sg) ⊕ (Int32 × Sg)), f_X12_before_L32 N k a1 a2 a3 σ = some Q32 → (∀ S, Q32 = .inl S → Zz E X YX12_before (some (.int R.1), R.2) S 67 [] []) → (∀ r, Q32 = .inr r → ((some (.int R.1), R.2) : Pv) = (some (.int r.1), r.2)) → Zz E X YX12_before (some (.int R.1), R.2) σ 32 [(0, .ref (E.2.1 73)), (1, .int a1), (2, .int a2), (3, .int a3)] [] := by
    intro k
    induction k with
    | zero =>
      intro a1 a2 a3 σ Q32 hf
      have hf : (none : Option ((Sg) ⊕ (Int32 × Sg))) = some Q32 := hf
      cases hf
    | succ k ih =>
      intro a1 a2 a3 σ Q32 hf hx32 hr32
      have hf : f_X12_before_B32 N (f_X12_before_L32 N k) a1 a2 a3 σ = some Q32 := hf
      unfold f_X12_before_B32 at hf
      refine z_iload_n C dX12_before_32 3 rfl ?_
      refine z_iconst (v := 3) C dX12_before_33 (by decide) ?_
      refine z_icmp_ge (tgt := 67) C dX12_before_34 (by decide) (fun h7 => ?_) (fun h7 => ?_)
      · replace hf := ifp hf h7
        refine z_sub [] [] rfl ?_
        exact hx32 _ (Option.some.inj hf).symm
      · replace hf := ifn hf h7
        refine z_aload_n C dX12_before_37 0 rfl ?_
        refine z_iload_n C dX12_before_38 1 rfl ?_
        refine z_iload_n C dX12_before_39 3 rfl ?_
        obtain ⟨r8, h9, hf⟩ := bd_some hf
        refine z_callV (Y2 := YX12_costAhead) (CC := RX12) (T := TX12) (N := 39) (ci := 11) (As := [.int a1, .int a3]) C lk_X12_costAhead (by decide) wc_mo rfl t_1132 t_1134 p_49 (Nat.le_of_ble_eq_true rfl) (Nat.le_of_ble_eq_true rfl) dX12_before_40 (Nat.le_of_ble_eq_true rfl) rfl rfl (m_X12_costAhead X.2.1 E N a1 a3 σ _ h9) ?_
        change Zz E X YX12_before (some (.int R.1), R.2) r8.2 _ _ [.int r8.1]
        refine z_istore (lv' := [(4, .int r8.1), (0, .ref (E.2.1 73)), (1, .int a1), (2, .int a2), (3, .int a3)]) C dX12_before_43 (by decide) rfl ?_
        refine z_iload C dX12_before_45 0 rfl ?_
        refine z_if_lt (tgt := 61) C dX12_before_47 (by decide) (fun h10 => ?_) (fun h10 => ?_)
        · replace hf := ifp hf h10
          refine z_iinc (v := (a3 + 1)) (lv' := [(3, .int (a3 + 1)), (4, .int r8.1), (0, .ref (E.2.1 73)), (1, .int a1), (2, .int a2)]) C dX12_before_61 4 rfl rfl (by decide) rfl ?_
          refine z_goto (tgt := 32) C dX12_before_64 (by decide) ?_
          refine z_sub [(0, .ref (E.2.1 73)), (1, .int a1), (2, .int a2), (3, .int (a3 + 1))] [2, 3, 4, 0] rfl ?_
          exact ih a1 a2 (a3 + 1) r8.2 _ hf hx32 hr32
        · replace hf := ifn hf h10
          refine z_iload_n C dX12_before_50 3 rfl ?_
          refine z_if_ne (tgt := 58) C dX12_before_51 (by decide) (fun h11 => ?_) (fun h11 => ?_)
          · replace hf := ifn hf h11
            refine z_iload C dX12_before_58 0 rfl ?_
            have hq := hr32 _ (Option.some.inj hf).symm
            exact z_iret C dX12_before_60 rfl hq
          · replace hf := ifp hf h11
            refine z_iload_n C dX12_before_54 4 rfl ?_
            refine z_goto (tgt := 60) C dX12_before_55 (by decide) ?_
            have hq := hr32 _ (Option.some.inj hf).symm
            exact z_iret C dX12_before_60 rfl hq
  unfold f_X12_before at hf
  refine z_aload_n C dX12_before_0 0 rfl ?_
  refine z_iload_n C dX12_before_1 1 rfl ?_
  obtain ⟨r1, h2, hf⟩ := bd_some hf
  refine z_callV (Y2 := YX12_isPerson) (CC := RX12) (T := TX12) (N := 39) (ci := 11) (As := [.int x1]) C lk_X12_isPerson (by decide) wc_mo rfl t_1024 t_1026 p_38 (Nat.le_of_ble_eq_true rfl) (Nat.le_of_ble_eq_true rfl) dX12_before_2 (Nat.le_of_ble_eq_true rfl) rfl rfl (m_X12_isPerson X.2.1 E N x1 σ _ h2) ?_
  change Zz E X YX12_before (some (.int R.1), R.2) r1.2 _ _ [.int r1.1]
  refine z_if_ne (tgt := 14) C dX12_before_5 (by decide) (fun h3 => ?_) (fun h3 => ?_)
  · replace hf := ifn hf h3
    refine z_iload_n C dX12_before_14 2 rfl ?_
    refine z_iconst (v := 0) C dX12_before_15 (by decide) ?_
    refine z_iconst (v := 1) C dX12_before_16 (by decide) ?_
    obtain ⟨r4, h5, hf⟩ := bd_some hf
    refine z_callS (Y2 := YX12_isIn) (As := [.int x2, .int 0, .int 1]) C lk_X12_isIn t_994 t_995 (Nat.le_of_ble_eq_true rfl) (Nat.le_of_ble_eq_true rfl) dX12_before_17 (Nat.le_of_ble_eq_true rfl) rfl rfl (m_X12_isIn X.2.1 E N x2 0 1 r1.2 _ h5) ?_
    change Zz E X YX12_before (some (.int R.1), R.2) r4.2 _ _ [.int r4.1]
    refine z_if_ne (tgt := 30) C dX12_before_20 (by decide) (fun h6 => ?_) (fun h6 => ?_)
    · replace hf := ifn hf h6
      refine z_iconst (v := 0) C dX12_before_30 (by decide) ?_
      refine z_istore_n (lv' := [(3, .int 0), (0, .ref (E.2.1 73)), (1, .int x1), (2, .int x2)]) C dX12_before_31 (by decide) rfl ?_
      refine z_sub [(0, .ref (E.2.1 73)), (1, .int x1), (2, .int x2), (3, .int 0)] [1, 2, 3, 0] rfl ?_
      rcases ex1_some hf with ⟨s12, h14, hf⟩ | ⟨r13, h14, hf⟩
      · refine hL32 N x1 x2 0 r4.2 _ h14 (fun S e => ?_) (fun _ e => nomatch e)
        cases e
        refine z_bipush (v := (-9)) C dX12_before_67 (by decide) ?_
        exact z_iret C dX12_before_69 rfl (by rw [← Option.some.inj hf])
      · refine hL32 N x1 x2 0 r4.2 _ h14 (fun _ e => nomatch e) (fun r e => ?_)
        cases e
        exact (by rw [← Option.some.inj hf])
    · replace hf := ifp hf h6
      refine z_aload_n C dX12_before_23 0 rfl ?_
      refine z_bipush (v := (-2)) C dX12_before_24 (by decide) ?_
      obtain ⟨r15, h16, hf⟩ := bd_some hf
      refine z_callV (Y2 := YX12_no) (CC := RX12) (T := TX12) (N := 39) (ci := 11) (As := [.int (-2)]) C lk_X12_no (by decide) wc_mo rfl t_970 t_972 p_27 (Nat.le_of_ble_eq_true rfl) (Nat.le_of_ble_eq_true rfl) dX12_before_26 (Nat.le_of_ble_eq_true rfl) rfl rfl (m_X12_no X.2.1 E N (-2) r4.2 _ h16) ?_
      change Zz E X YX12_before (some (.int R.1), R.2) r15.2 _ _ [.int r15.1]
      exact z_iret C dX12_before_29 rfl (by rw [← Option.some.inj hf])
  · replace hf := ifp hf h3
    refine z_aload_n C dX12_before_8 0 rfl ?_
    refine z_iconst (v := (-1)) C dX12_before_9 (by decide) ?_
    obtain ⟨r17, h18, hf⟩ := bd_some hf
    refine z_callV (Y2 := YX12_no) (CC := RX12) (T := TX12) (N := 39) (ci := 11) (As := [.int (-1)]) C lk_X12_no (by decide) wc_mo rfl t_970 t_972 p_27 (Nat.le_of_ble_eq_true rfl) (Nat.le_of_ble_eq_true rfl) dX12_before_10 (Nat.le_of_ble_eq_true rfl) rfl rfl (m_X12_no X.2.1 E N (-1) r1.2 _ h18) ?_
    change Zz E X YX12_before (some (.int R.1), R.2) r17.2 _ _ [.int r17.1]
    exact z_iret C dX12_before_13 rfl (by rw [← Option.some.inj hf])
theorem lk_X12_before {Y : Yv} : Lk Y YX12_before 2 := ⟨t_1131, t_13, ⟨by decide +kernel, by decide +kernel⟩, by decide +kernel⟩
abbrev YX12_order : Yv := (yX12_order, cX12_order, 2, some .int, 2, 44)
def f_X12_order (N : Nat) (x1 : Int32) (σ : Sg) : Option (Int32 × Sg) :=
  (f_X12_isLetter N x1 σ).bind (fun r1 => if r1.1 = 0 then ((f_X12_no N (-1) r1.2).bind (fun r12 => some (r12.1, r12.2))) else (if (r1.2 73 13) = 5 then ((f_X12_no N (-6) r1.2).bind (fun r10 => some (r10.1, r10.2))) else (ga (r1.2 73 13) 5 (nm (sgs r1.2 80 (Int32.toNatClampNeg (r1.2 73 13)) x1) (fun σ6 => nm (sgs σ6 73 13 ((σ6 73 13) + 1)) (fun σ8 => some ((σ8 73 13), σ8)))))))
set_option maxHeartbeats 4000000 in
set_option maxRecDepth 20000 in
theorem m_X12_order (l : Launch) (E : Ev) (N : Nat) (x1 : Int32) (σ : Sg) (R : Int32 × Sg) (hf : f_X12_order N x1 σ = some R) : Ct l E YX12_order [.ref (E.2.1 73), .int x1] σ (some (.int R.1), R.2) := by
  refine ct_of (by decide +kernel) (Nat.le_of_ble_eq_true rfl) [(0, .ref (E.2.1 73)), (1, .int x1)] rfl (fun X hX C => ?_)
  unfold f_X12_order at hf
  refine z_iload_n C dX12_order_0 1 rfl ?_
  obtain ⟨r1, h2, hf⟩ := bd_some hf
  refine z_callS (Y2 := YX12_isLetter) (As := [.int x1]) C lk_X12_isLetter t_1052 t_1053 (Nat.le_of_ble_eq_true rfl) (Nat.le_of_ble_eq_true rfl) dX12_order_1 (Nat.le_of_ble_eq_true rfl) rfl rfl (m_X12_isLetter X.2.1 E N x1 σ _ h2) ?_
  change Zz E X YX12_order (some (.int R.1), R.2) r1.2 _ _ [.int r1.1]
  refine z_if_ne (tgt := 13) C dX12_order_4 (by decide) (fun h3 => ?_) (fun h3 => ?_)
  · replace hf := ifn hf h3
    refine z_aload_n C dX12_order_13 0 rfl ?_
    refine z_get (v := .int (r1.2 73 13)) (T := TX12) (N := 39) (ci := 11) C (by decide) wc_mo rfl in_X12 13 (by decide) t_858 rfl dX12_order_14 ?_
    refine z_iconst (v := 5) C dX12_order_17 (by decide) ?_
    refine z_icmp_ne (tgt := 28) C dX12_order_18 (by decide) (fun h4 => ?_) (fun h4 => ?_)
    · replace hf := ifn hf h4
      refine z_aload_n C dX12_order_28 0 rfl ?_
      refine z_get (v := .ref (E.2.1 80)) (T := TX12) (N := 39) (ci := 11) C (by decide) wc_mo rfl in_X12 6 (by decide) t_851 rfl dX12_order_29 ?_
      refine z_aload_n C dX12_order_32 0 rfl ?_
      refine z_get (v := .int (r1.2 73 13)) (T := TX12) (N := 39) (ci := 11) C (by decide) wc_mo rfl in_X12 13 (by decide) t_858 rfl dX12_order_33 ?_
      refine z_iload_n C dX12_order_36 1 rfl ?_
      obtain ⟨h5, hf⟩ := ga_some hf
      obtain ⟨σ6, h7, hf⟩ := nm_some hf
      refine z_iast C ka_80 h5 dX12_order_37 ?_
      rw [← h7]
      refine z_aload_n C dX12_order_38 0 rfl ?_
      refine z_dup C dX12_order_39 rfl ?_
      refine z_get (v := .int (σ6 73 13)) (T := TX12) (N := 39) (ci := 11) C (by decide) wc_mo rfl in_X12 13 (by decide) t_858 rfl dX12_order_40 ?_
      refine z_iconst (v := 1) C dX12_order_43 (by decide) ?_
      refine z_iadd C dX12_order_44 ?_
      obtain ⟨σ8, h9, hf⟩ := nm_some hf
      refine z_put (T := TX12) (N := 39) (ci := 11) (ty := .int) C tyX12 tyX12_ok nmX12 (by decide) wc_mo rfl in_X12 13 (by decide) t_858 rfl rfl rfl rfl (Nat.le_of_ble_eq_true rfl) (pw_X12_13) dX12_order_45 ?_
      rw [← h9]
      refine z_aload_n C dX12_order_48 0 rfl ?_
      refine z_get (v := .int (σ8 73 13)) (T := TX12) (N := 39) (ci := 11) C (by decide) wc_mo rfl in_X12 13 (by decide) t_858 rfl dX12_order_49 ?_
      exact z_iret C dX12_order_52 rfl (by rw [← Option.some.inj hf])
    · replace hf := ifp hf h4
      refine z_aload_n C dX12_order_21 0 rfl ?_
      refine z_bipush (v := (-6)) C dX12_order_22 (by decide) ?_
      obtain ⟨r10, h11, hf⟩ := bd_some hf
      refine z_callV (Y2 := YX12_no) (CC := RX12) (T := TX12) (N := 39) (ci := 11) (As := [.int (-6)]) C lk_X12_no (by decide) wc_mo rfl t_970 t_972 p_27 (Nat.le_of_ble_eq_true rfl) (Nat.le_of_ble_eq_true rfl) dX12_order_24 (Nat.le_of_ble_eq_true rfl) rfl rfl (m_X12_no X.2.1 E N (-6) r1.2 _ h11) ?_
      change Zz E X YX12_order (some (.int R.1), R.2) r10.2 _ _ [.int r10.1]
      exact z_iret C dX12_order_27 rfl (by rw [← Option.some.inj hf])
  · replace hf := ifp hf h3
    refine z_aload_n C dX12_order_7 0 rfl ?_
    refine z_iconst (v := (-1)) C dX12_order_8 (by decide) ?_
    obtain ⟨r12, h13, hf⟩ := bd_some hf
    refine z_callV (Y2 := YX12_no) (CC := RX12) (T := TX12) (N := 39) (ci := 11) (As := [.int (-1)]) C lk_X12_no (by decide) wc_mo rfl t_970 t_972 p_27 (Nat.le_of_ble_eq_true rfl) (Nat.le_of_ble_eq_true rfl) dX12_order_9 (Nat.le_of_ble_eq_true rfl) rfl rfl (m_X12_no X.2.1 E N (-1) r1.2 _ h13) ?_
    change Zz E X YX12_order (some (.int R.1), R.2) r12.2 _ _ [.int r12.1]
    exact z_iret C dX12_order_12 rfl (by rw [← Option.some.inj hf])
theorem lk_X12_order {Y : Yv} : Lk Y YX12_order 1 := ⟨t_1155, t_13, ⟨by decide +kernel, by decide +kernel⟩, by decide +kernel⟩
abbrev YX12_forget : Yv := (yX12_forget, cX12_forget, 2, some .int, 0, 0)
def f_X12_forget (N : Nat) (σ : Sg) : Option (Int32 × Sg) :=
  nm (sgs σ 73 13 0) (fun σ1 => some ((σ 73 13), σ1))
set_option maxHeartbeats 4000000 in
set_option maxRecDepth 20000 in
theorem m_X12_forget (l : Launch) (E : Ev) (N : Nat) (σ : Sg) (R : Int32 × Sg) (hf : f_X12_forget N σ = some R) : Ct l E YX12_forget [.ref (E.2.1 73)] σ (some (.int R.1), R.2) := by
  refine ct_of (by decide +kernel) (Nat.le_of_ble_eq_true rfl) [(0, .ref (E.2.1 73))] rfl (fun X hX C => ?_)
  unfold f_X12_forget at hf
  refine z_aload_n C dX12_forget_0 0 rfl ?_
  refine z_get (v := .int (σ 73 13)) (T := TX12) (N := 39) (ci := 11) C (by decide) wc_mo rfl in_X12 13 (by decide) t_858 rfl dX12_forget_1 ?_
  refine z_istore_n (lv' := [(1, .int (σ 73 13)), (0, .ref (E.2.1 73))]) C dX12_forget_4 (by decide) rfl ?_
  refine z_aload_n C dX12_forget_5 1 rfl ?_
  refine z_iconst (v := 0) C dX12_forget_6 (by decide) ?_
  obtain ⟨σ1, h2, hf⟩ := nm_some hf
  refine z_put (T := TX12) (N := 39) (ci := 11) (ty := .int) C tyX12 tyX12_ok nmX12 (by decide) wc_mo rfl in_X12 13 (by decide) t_858 rfl rfl rfl rfl (Nat.le_of_ble_eq_true rfl) (pw_X12_13) dX12_forget_7 ?_
  rw [← h2]
  refine z_iload_n C dX12_forget_10 0 rfl ?_
  exact z_iret C dX12_forget_11 rfl (by rw [← Option.some.inj hf])
theorem lk_X12_forget {Y : Yv} : Lk Y YX12_forget 0 := ⟨t_1159, t_13, ⟨by decide +kernel, by decide +kernel⟩, by decide +kernel⟩
abbrev YX12_metBy : Yv := (yX12_metBy, cX12_metBy, 4, some .int, 5, 121)
def f_X12_metBy_B12 (N : Nat) (rec : Int32 → Int32 → Int32 → Sg → Option (Int32 × Sg)) (a1 a2 a3 : Int32) (σ : Sg) : Option (Int32 × Sg) :=
  if a1 ≤ a3 then (some (a2, σ)) else (ga a3 5 (ga (σ 93 (Int32.toNatClampNeg a3)) 5 ((f_X12_posts N (σ 80 (Int32.toNatClampNeg (σ 93 (Int32.toNatClampNeg a3)))) σ).bind (fun r8 => rec a1 a2 (a3 + 1) r8.2))))
def f_X12_metBy_L12 (N : Nat) : Nat → Int32 → Int32 → Int32 → Sg → Option (Int32 × Sg)
  | 0 => fun _ _ _ _ => none
  | k + 1 => fun a1 a2 a3 σ => f_X12_metBy_B12 N (f_X12_metBy_L12 N k) a1 a2 a3 σ
def f_X12_metBy (N : Nat) (x1 : Int32) (σ : Sg) : Option (Int32 × Sg) :=
  (f_X12_sumOf N σ).bind (fun r1 => (f_X12_keeps N 0 r1.2).bind (fun r3 => (f_X12_metBy_L12 N N x1 r1.1 0 r3).bind (fun s10 => (f_X12_sumOf N s10.2).bind (fun r11 => (f_X12_putsBack N 0 r11.2).bind (fun r13 => some ((s10.1 - r11.1), r13))))))
set_option maxHeartbeats 4000000 in
set_option maxRecDepth 20000 in
theorem m_X12_metBy (l : Launch) (E : Ev) (N : Nat) (x1 : Int32) (σ : Sg) (R : Int32 × Sg) (hf : f_X12_metBy N x1 σ = some R) : Ct l E YX12_metBy [.ref (E.2.1 73), .int x1] σ (some (.int R.1), R.2) := by
  refine ct_of (by decide +kernel) (Nat.le_of_ble_eq_true rfl) [(0, .ref (E.2.1 73)), (1, .int x1)] rfl (fun X hX C => ?_)
  have hL12 : ∀ (k : Nat) (a1 a2 a3 : Int32) (σ : Sg) (Q12 : Int32 × Sg), f_X12_metBy_L12 N k a1 a2 a3 σ = some Q12 → (Zz E X YX12_metBy (some (.int R.1), R.2) Q12.2 39 [(0, .ref (E.2.1 73)), (2, .int Q12.1)] []) → Zz E X YX12_metBy (some (.int R.1), R.2) σ 12 [(0, .ref (E.2.1 73)), (1, .int a1), (2, .int a2), (3, .int a3)] [] := by
    intro k
    induction k with
    | zero =>
      intro a1 a2 a3 σ Q12 hf
      have hf : (none : Option (Int32 × Sg)) = some Q12 := hf
      cases hf
    | succ k ih =>
      intro a1 a2 a3 σ Q12 hf hx12
      have hf : f_X12_metBy_B12 N (f_X12_metBy_L12 N k) a1 a2 a3 σ = some Q12 := hf
      unfold f_X12_metBy_B12 at hf
      refine z_iload_n C dX12_metBy_12 3 rfl ?_
      refine z_iload_n C dX12_metBy_13 1 rfl ?_
      refine z_icmp_ge (tgt := 39) C dX12_metBy_14 (by decide) (fun h5 => ?_) (fun h5 => ?_)
      · replace hf := ifp hf h5
        refine z_sub [(0, .ref (E.2.1 73)), (2, .int a2)] [0, 2] rfl ?_
        obtain rfl := Option.some.inj hf
        exact hx12
      · replace hf := ifn hf h5
        refine z_aload_n C dX12_metBy_17 0 rfl ?_
        refine z_aload_n C dX12_metBy_18 0 rfl ?_
        refine z_get (v := .ref (E.2.1 80)) (T := TX12) (N := 39) (ci := 11) C (by decide) wc_mo rfl in_X12 6 (by decide) t_851 rfl dX12_metBy_19 ?_
        refine z_aload_n C dX12_metBy_22 0 rfl ?_
        refine z_get (v := .ref (E.2.1 93)) (T := TX12) (N := 39) (ci := 11) C (by decide) wc_mo rfl in_X12 34 (by decide) t_879 rfl dX12_metBy_23 ?_
        refine z_iload_n C dX12_metBy_26 3 rfl ?_
        obtain ⟨h6, hf⟩ := ga_some hf
        refine z_iald C ka_93 h6 dX12_metBy_27 ?_
        obtain ⟨h7, hf⟩ := ga_some hf
        refine z_iald C ka_80 h7 dX12_metBy_28 ?_
        obtain ⟨r8, h9, hf⟩ := bd_some hf
        refine z_callV (Y2 := YX12_posts) (CC := RX12) (T := TX12) (N := 39) (ci := 11) (As := [.int (σ 80 (Int32.toNatClampNeg (σ 93 (Int32.toNatClampNeg a3))))]) C lk_X12_posts (by decide) wc_mo rfl t_1078 t_1080 p_43 (Nat.le_of_ble_eq_true rfl) (Nat.le_of_ble_eq_true rfl) dX12_metBy_29 (Nat.le_of_ble_eq_true rfl) rfl rfl (m_X12_posts X.2.1 E N (σ 80 (Int32.toNatClampNeg (σ 93 (Int32.toNatClampNeg a3)))) σ _ h9) ?_
        change Zz E X YX12_metBy (some (.int R.1), R.2) r8.2 _ _ [.int r8.1]
        refine z_pop C dX12_metBy_32 rfl ?_
        refine z_iinc (v := (a3 + 1)) (lv' := [(3, .int (a3 + 1)), (0, .ref (E.2.1 73)), (1, .int a1), (2, .int a2)]) C dX12_metBy_33 3 rfl rfl (by decide) rfl ?_
        refine z_goto (tgt := 12) C dX12_metBy_36 (by decide) ?_
        refine z_sub [(0, .ref (E.2.1 73)), (1, .int a1), (2, .int a2), (3, .int (a3 + 1))] [1, 2, 3, 0] rfl ?_
        exact ih a1 a2 (a3 + 1) r8.2 _ hf hx12
  unfold f_X12_metBy at hf
  refine z_aload_n C dX12_metBy_0 0 rfl ?_
  obtain ⟨r1, h2, hf⟩ := bd_some hf
  refine z_callV (Y2 := YX12_sumOf) (CC := RX12) (T := TX12) (N := 39) (ci := 11) (As := []) C lk_X12_sumOf (by decide) wc_mo rfl t_1094 t_1096 p_46 (Nat.le_of_ble_eq_true rfl) (Nat.le_of_ble_eq_true rfl) dX12_metBy_1 (Nat.le_of_ble_eq_true rfl) rfl rfl (m_X12_sumOf X.2.1 E N σ _ h2) ?_
  change Zz E X YX12_metBy (some (.int R.1), R.2) r1.2 _ _ [.int r1.1]
  refine z_istore_n (lv' := [(2, .int r1.1), (0, .ref (E.2.1 73)), (1, .int x1)]) C dX12_metBy_4 (by decide) rfl ?_
  refine z_aload_n C dX12_metBy_5 1 rfl ?_
  refine z_iconst (v := 0) C dX12_metBy_6 (by decide) ?_
  obtain ⟨r3, h4, hf⟩ := bd_some hf
  refine z_callV (Y2 := YX12_keeps) (CC := RX12) (T := TX12) (N := 39) (ci := 11) (As := [.int 0]) C lk_X12_keeps (by decide) wc_mo rfl t_1140 t_1142 p_51 (Nat.le_of_ble_eq_true rfl) (Nat.le_of_ble_eq_true rfl) dX12_metBy_7 (Nat.le_of_ble_eq_true rfl) rfl rfl (m_X12_keeps X.2.1 E N 0 r1.2 _ h4) ?_
  change Zz E X YX12_metBy (some (.int R.1), R.2) r3 _ _ []
  refine z_iconst (v := 0) C dX12_metBy_10 (by decide) ?_
  refine z_istore_n (lv' := [(3, .int 0), (2, .int r1.1), (0, .ref (E.2.1 73)), (1, .int x1)]) C dX12_metBy_11 (by decide) rfl ?_
  refine z_sub [(0, .ref (E.2.1 73)), (1, .int x1), (2, .int r1.1), (3, .int 0)] [2, 3, 1, 0] rfl ?_
  obtain ⟨s10, h15, hf⟩ := bd_some hf
  refine hL12 N x1 r1.1 0 r3 _ h15 ?_
  refine z_aload_n C dX12_metBy_39 0 rfl ?_
  obtain ⟨r11, h12, hf⟩ := bd_some hf
  refine z_callV (Y2 := YX12_sumOf) (CC := RX12) (T := TX12) (N := 39) (ci := 11) (As := []) C lk_X12_sumOf (by decide) wc_mo rfl t_1094 t_1096 p_46 (Nat.le_of_ble_eq_true rfl) (Nat.le_of_ble_eq_true rfl) dX12_metBy_40 (Nat.le_of_ble_eq_true rfl) rfl rfl (m_X12_sumOf X.2.1 E N s10.2 _ h12) ?_
  change Zz E X YX12_metBy (some (.int R.1), R.2) r11.2 _ _ [.int r11.1]
  refine z_istore_n (lv' := [(3, .int r11.1), (0, .ref (E.2.1 73)), (2, .int s10.1)]) C dX12_metBy_43 (by decide) rfl ?_
  refine z_aload_n C dX12_metBy_44 1 rfl ?_
  refine z_iconst (v := 0) C dX12_metBy_45 (by decide) ?_
  obtain ⟨r13, h14, hf⟩ := bd_some hf
  refine z_callV (Y2 := YX12_putsBack) (CC := RX12) (T := TX12) (N := 39) (ci := 11) (As := [.int 0]) C lk_X12_putsBack (by decide) wc_mo rfl t_1148 t_1150 p_53 (Nat.le_of_ble_eq_true rfl) (Nat.le_of_ble_eq_true rfl) dX12_metBy_46 (Nat.le_of_ble_eq_true rfl) rfl rfl (m_X12_putsBack X.2.1 E N 0 r11.2 _ h14) ?_
  change Zz E X YX12_metBy (some (.int R.1), R.2) r13 _ _ []
  refine z_iload_n C dX12_metBy_49 2 rfl ?_
  refine z_iload_n C dX12_metBy_50 0 rfl ?_
  refine z_isub C dX12_metBy_51 ?_
  exact z_iret C dX12_metBy_52 rfl (by rw [← Option.some.inj hf])
theorem lk_X12_metBy {Y : Yv} : Lk Y YX12_metBy 1 := ⟨t_1167, t_13, ⟨by decide +kernel, by decide +kernel⟩, by decide +kernel⟩
abbrev YX12_met : Yv := (yX12_met, cX12_met, 8, some .int, 6, 144)
def f_X12_met_J71 (N : Nat) (rec : Int32 → Int32 → Int32 → Int32 → Sg → Option ((Int32 × Sg) ⊕ (Int32 × Sg))) (σ : Sg) : Option ((Int32 × Sg) ⊕ (Int32 × Sg)) :=
  (f_X12_no N (-1) σ).bind (fun r6 => some (.inr (r6.1, r6.2)))
def f_X12_met_B26 (N : Nat) (rec : Int32 → Int32 → Int32 → Int32 → Sg → Option ((Int32 × Sg) ⊕ (Int32 × Sg))) (a1 a4 a5 a6 : Int32) (σ : Sg) : Option ((Int32 × Sg) ⊕ (Int32 × Sg)) :=
  if a1 ≤ a6 then (some (.inl (a1, σ))) else (if (jrem a4 10) < 0 then (f_X12_met_J71 N rec σ) else (if (σ 73 13) ≤ (jrem a4 10) then (f_X12_met_J71 N rec σ) else (if ((a5 >>> ((jrem a4 10) &&& 31)) &&& 1) = 1 then (f_X12_met_J71 N rec σ) else (nm (a5 ||| ((1 : Int32) <<< ((jrem a4 10) &&& 31))) (fun v10 => ga a6 5 (nm (sgs σ 93 (Int32.toNatClampNeg a6) (jrem a4 10)) (fun σ13 => rec a1 (a4 / 10) v10 (a6 + 1) σ13)))))))
def f_X12_met_L26 (N : Nat) : Nat → Int32 → Int32 → Int32 → Int32 → Sg → Option ((Int32 × Sg) ⊕ (Int32 × Sg))
  | 0 => fun _ _ _ _ _ => none
  | k + 1 => fun a1 a4 a5 a6 σ => f_X12_met_B26 N (f_X12_met_L26 N k) a1 a4 a5 a6 σ
def f_X12_met (N : Nat) (x1 x2 : Int32) (σ : Sg) : Option (Int32 × Sg) :=
  (f_X12_bound N x1 0 5 σ).bind (fun r1 => if r1.1 = 0 then (ex1 (f_X12_met_L26 N N x1 x2 0 0 r1.2) (fun s15 => (f_X12_metBy N s15.1 s15.2).bind (fun r16 => some (r16.1, r16.2))) (fun r18 => some r18)) else ((f_X12_no N r1.1 r1.2).bind (fun r20 => some (r20.1, r20.2))))
set_option maxHeartbeats 4000000 in
set_option maxRecDepth 20000 in
theorem m_X12_met (l : Launch) (E : Ev) (N : Nat) (x1 x2 : Int32) (σ : Sg) (R : Int32 × Sg) (hf : f_X12_met N x1 x2 σ = some R) : Ct l E YX12_met [.ref (E.2.1 73), .int x1, .int x2] σ (some (.int R.1), R.2) := by
  refine ct_of (by decide +kernel) (Nat.le_of_ble_eq_true rfl) [(0, .ref (E.2.1 73)), (1, .int x1), (2, .int x2)] rfl (fun X hX C => ?_)
  have hL26 : ∀ (k : Nat) (a1 a4 a5 a6 : Int32) (σ : Sg) (Q26 : (Int32 × Sg) ⊕ (Int32 × Sg)), f_X12_met_L26 N k a1 a4 a5 a6 σ = some Q26 → (∀ S, Q26 = .inl S → Zz E X YX12_met (some (.int R.1), R.2) S.2 101 [(0, .ref (E.2.1 73)), (1, .int S.1)] []) → (∀ r, Q26 = .inr r → ((some (.int R.1), R.2) : Pv) = (some (.int r.1), r.2)) → Zz E X YX12_met (some (.int R.1), R.2) σ 26 [(0, .ref (E.2.1 73)), (1, .int a1), (4, .int a4), (5, .int a5), (6, .int a6)] [] := by
    intro k
    induction k with
    | zero =>
      intro a1 a4 a5 a6 σ Q26 hf
      have hf : (none : Option ((Int32 × Sg) ⊕ (Int32 × Sg))) = some Q26 := hf
      cases hf
    | succ k ih =>
      intro a1 a4 a5 a6 σ Q26 hf hx26 hr26
      have hf : f_X12_met_B26 N (f_X12_met_L26 N k) a1 a4 a5 a6 σ = some Q26 := hf
      have hJ71 : ∀ (σ : Sg), f_X12_met_J71 N (f_X12_met_L26 N k) σ = some Q26 → Zz E X YX12_met (some (.int R.1), R.2) σ 71 [(0, .ref (E.2.1 73))] [] := by
        intro σ hf
        unfold f_X12_met_J71 at hf
        refine z_aload_n C dX12_met_71 0 rfl ?_
        refine z_iconst (v := (-1)) C dX12_met_72 (by decide) ?_
        obtain ⟨r6, h7, hf⟩ := bd_some hf
        refine z_callV (Y2 := YX12_no) (CC := RX12) (T := TX12) (N := 39) (ci := 11) (As := [.int (-1)]) C lk_X12_no (by decide) wc_mo rfl t_970 t_972 p_27 (Nat.le_of_ble_eq_true rfl) (Nat.le_of_ble_eq_true rfl) dX12_met_73 (Nat.le_of_ble_eq_true rfl) rfl rfl (m_X12_no X.2.1 E N (-1) σ _ h7) ?_
        change Zz E X YX12_met (some (.int R.1), R.2) r6.2 _ _ [.int r6.1]
        have hq := hr26 _ (Option.some.inj hf).symm
        exact z_iret C dX12_met_76 rfl hq
      unfold f_X12_met_B26 at hf
      refine z_iload C dX12_met_26 4 rfl ?_
      refine z_iload_n C dX12_met_28 1 rfl ?_
      refine z_icmp_ge (tgt := 101) C dX12_met_29 (by decide) (fun h4 => ?_) (fun h4 => ?_)
      · replace hf := ifp hf h4
        refine z_sub [(0, .ref (E.2.1 73)), (1, .int a1)] [0, 1] rfl ?_
        exact hx26 _ (Option.some.inj hf).symm
      · replace hf := ifn hf h4
        refine z_iload C dX12_met_32 2 rfl ?_
        refine z_bipush (v := 10) C dX12_met_34 (by decide) ?_
        refine z_irem C dX12_met_36 (by decide) ?_
        refine z_istore (lv' := [(7, .int (jrem a4 10)), (0, .ref (E.2.1 73)), (1, .int a1), (4, .int a4), (5, .int a5), (6, .int a6)]) C dX12_met_37 (by decide) rfl ?_
        refine z_iload C dX12_met_39 3 rfl ?_
        refine z_bipush (v := 10) C dX12_met_41 (by decide) ?_
        refine z_idiv C dX12_met_43 (by decide) ?_
        refine z_istore (lv' := [(4, .int (a4 / 10)), (7, .int (jrem a4 10)), (0, .ref (E.2.1 73)), (1, .int a1), (5, .int a5), (6, .int a6)]) C dX12_met_44 (by decide) rfl ?_
        refine z_iload C dX12_met_46 1 rfl ?_
        refine z_if_lt (tgt := 71) C dX12_met_48 (by decide) (fun h5 => ?_) (fun h5 => ?_)
        · replace hf := ifp hf h5
          refine z_sub [(0, .ref (E.2.1 73))] [2] rfl ?_
          exact hJ71 σ hf
        · replace hf := ifn hf h5
          refine z_iload C dX12_met_51 1 rfl ?_
          refine z_aload_n C dX12_met_53 2 rfl ?_
          refine z_get (v := .int (σ 73 13)) (T := TX12) (N := 39) (ci := 11) C (by decide) wc_mo rfl in_X12 13 (by decide) t_858 rfl dX12_met_54 ?_
          refine z_icmp_ge (tgt := 71) C dX12_met_57 (by decide) (fun h8 => ?_) (fun h8 => ?_)
          · replace hf := ifp hf h8
            refine z_sub [(0, .ref (E.2.1 73))] [2] rfl ?_
            exact hJ71 σ hf
          · replace hf := ifn hf h8
            refine z_iload C dX12_met_60 4 rfl ?_
            refine z_iload C dX12_met_62 1 rfl ?_
            refine z_ishr C dX12_met_64 ?_
            refine z_iconst (v := 1) C dX12_met_65 (by decide) ?_
            refine z_iand C dX12_met_66 ?_
            refine z_iconst (v := 1) C dX12_met_67 (by decide) ?_
            refine z_icmp_ne (tgt := 77) C dX12_met_68 (by decide) (fun h9 => ?_) (fun h9 => ?_)
            · replace hf := ifn hf h9
              refine z_iload C dX12_met_77 4 rfl ?_
              refine z_iconst (v := 1) C dX12_met_79 (by decide) ?_
              refine z_iload C dX12_met_80 1 rfl ?_
              refine z_ishl C dX12_met_82 ?_
              refine z_ior C dX12_met_83 ?_
              obtain ⟨v10, h11, hf⟩ := nm_some hf
              rw [← h11]
              refine z_istore (lv' := [(5, .int v10), (4, .int (a4 / 10)), (7, .int (jrem a4 10)), (0, .ref (E.2.1 73)), (1, .int a1), (6, .int a6)]) C dX12_met_84 (by decide) rfl ?_
              refine z_aload_n C dX12_met_86 3 rfl ?_
              refine z_get (v := .ref (E.2.1 93)) (T := TX12) (N := 39) (ci := 11) C (by decide) wc_mo rfl in_X12 34 (by decide) t_879 rfl dX12_met_87 ?_
              refine z_iload C dX12_met_90 5 rfl ?_
              refine z_iload C dX12_met_92 2 rfl ?_
              obtain ⟨h12, hf⟩ := ga_some hf
              obtain ⟨σ13, h14, hf⟩ := nm_some hf
              refine z_iast C ka_93 h12 dX12_met_94 ?_
              rw [← h14]
              refine z_iinc (v := (a6 + 1)) (lv' := [(6, .int (a6 + 1)), (5, .int v10), (4, .int (a4 / 10)), (7, .int (jrem a4 10)), (0, .ref (E.2.1 73)), (1, .int a1)]) C dX12_met_95 5 rfl rfl (by decide) rfl ?_
              refine z_goto (tgt := 26) C dX12_met_98 (by decide) ?_
              refine z_sub [(0, .ref (E.2.1 73)), (1, .int a1), (4, .int (a4 / 10)), (5, .int v10), (6, .int (a6 + 1))] [4, 5, 2, 1, 0] rfl ?_
              exact ih a1 (a4 / 10) v10 (a6 + 1) σ13 _ hf hx26 hr26
            · replace hf := ifp hf h9
              refine z_sub [(0, .ref (E.2.1 73))] [2] rfl ?_
              exact hJ71 σ hf
  unfold f_X12_met at hf
  refine z_iload_n C dX12_met_0 1 rfl ?_
  refine z_iconst (v := 0) C dX12_met_1 (by decide) ?_
  refine z_iconst (v := 5) C dX12_met_2 (by decide) ?_
  obtain ⟨r1, h2, hf⟩ := bd_some hf
  refine z_callS (Y2 := YX12_bound) (As := [.int x1, .int 0, .int 5]) C lk_X12_bound t_967 t_968 (Nat.le_of_ble_eq_true rfl) (Nat.le_of_ble_eq_true rfl) dX12_met_3 (Nat.le_of_ble_eq_true rfl) rfl rfl (m_X12_bound X.2.1 E N x1 0 5 σ _ h2) ?_
  change Zz E X YX12_met (some (.int R.1), R.2) r1.2 _ _ [.int r1.1]
  refine z_istore_n (lv' := [(3, .int r1.1), (0, .ref (E.2.1 73)), (1, .int x1), (2, .int x2)]) C dX12_met_6 (by decide) rfl ?_
  refine z_iload_n C dX12_met_7 0 rfl ?_
  refine z_if_eq (tgt := 17) C dX12_met_8 (by decide) (fun h3 => ?_) (fun h3 => ?_)
  · replace hf := ifp hf h3
    refine z_iload_n C dX12_met_17 3 rfl ?_
    refine z_istore (lv' := [(4, .int x2), (3, .int r1.1), (0, .ref (E.2.1 73)), (1, .int x1), (2, .int x2)]) C dX12_met_18 (by decide) rfl ?_
    refine z_iconst (v := 0) C dX12_met_20 (by decide) ?_
    refine z_istore (lv' := [(5, .int 0), (4, .int x2), (3, .int r1.1), (0, .ref (E.2.1 73)), (1, .int x1), (2, .int x2)]) C dX12_met_21 (by decide) rfl ?_
    refine z_iconst (v := 0) C dX12_met_23 (by decide) ?_
    refine z_istore (lv' := [(6, .int 0), (5, .int 0), (4, .int x2), (3, .int r1.1), (0, .ref (E.2.1 73)), (1, .int x1), (2, .int x2)]) C dX12_met_24 (by decide) rfl ?_
    refine z_sub [(0, .ref (E.2.1 73)), (1, .int x1), (4, .int x2), (5, .int 0), (6, .int 0)] [4, 5, 2, 1, 0] rfl ?_
    rcases ex1_some hf with ⟨s15, h19, hf⟩ | ⟨r18, h19, hf⟩
    · refine hL26 N x1 x2 0 0 r1.2 _ h19 (fun S e => ?_) (fun _ e => nomatch e)
      cases e
      refine z_aload_n C dX12_met_101 0 rfl ?_
      refine z_iload_n C dX12_met_102 1 rfl ?_
      obtain ⟨r16, h17, hf⟩ := bd_some hf
      refine z_callV (Y2 := YX12_metBy) (CC := RX12) (T := TX12) (N := 39) (ci := 11) (As := [.int s15.1]) C lk_X12_metBy (by decide) wc_mo rfl t_1164 t_1166 p_54 (Nat.le_of_ble_eq_true rfl) (Nat.le_of_ble_eq_true rfl) dX12_met_103 (Nat.le_of_ble_eq_true rfl) rfl rfl (m_X12_metBy X.2.1 E N s15.1 s15.2 _ h17) ?_
      change Zz E X YX12_met (some (.int R.1), R.2) r16.2 _ _ [.int r16.1]
      exact z_iret C dX12_met_106 rfl (by rw [← Option.some.inj hf])
    · refine hL26 N x1 x2 0 0 r1.2 _ h19 (fun _ e => nomatch e) (fun r e => ?_)
      cases e
      exact (by rw [← Option.some.inj hf])
  · replace hf := ifn hf h3
    refine z_aload_n C dX12_met_11 1 rfl ?_
    refine z_iload_n C dX12_met_12 0 rfl ?_
    obtain ⟨r20, h21, hf⟩ := bd_some hf
    refine z_callV (Y2 := YX12_no) (CC := RX12) (T := TX12) (N := 39) (ci := 11) (As := [.int r1.1]) C lk_X12_no (by decide) wc_mo rfl t_970 t_972 p_27 (Nat.le_of_ble_eq_true rfl) (Nat.le_of_ble_eq_true rfl) dX12_met_13 (Nat.le_of_ble_eq_true rfl) rfl rfl (m_X12_no X.2.1 E N r1.1 r1.2 _ h21) ?_
    change Zz E X YX12_met (some (.int R.1), R.2) r20.2 _ _ [.int r20.1]
    exact z_iret C dX12_met_16 rfl (by rw [← Option.some.inj hf])
theorem lk_X12_met {Y : Yv} : Lk Y YX12_met 2 := ⟨t_1163, t_13, ⟨by decide +kernel, by decide +kernel⟩, by decide +kernel⟩
abbrev YX12_ordersBy : Yv := (yX12_ordersBy, cX12_ordersBy, 8, none, 0, 0)
def f_X12_ordersBy_B10 (N : Nat) (rec : Int32 → Int32 → Int32 → Int32 → Sg → Option (Int32 × Int32 × Int32 × Sg)) (a2 a3 a4 a5 : Int32) (σ : Sg) : Option (Int32 × Int32 × Int32 × Sg) :=
  if (σ 73 13) ≤ a5 then (some (a2, a3, a4, σ)) else (rec a2 a3 (a4 * a5) (a5 + 1) σ)
def f_X12_ordersBy_L10 (N : Nat) : Nat → Int32 → Int32 → Int32 → Int32 → Sg → Option (Int32 × Int32 × Int32 × Sg)
  | 0 => fun _ _ _ _ _ => none
  | k + 1 => fun a2 a3 a4 a5 σ => f_X12_ordersBy_B10 N (f_X12_ordersBy_L10 N k) a2 a3 a4 a5 σ
def f_X12_ordersBy_J73 (N : Nat) (rec : Int32 → Int32 → Int32 → Int32 → Int32 → Int32 → Sg → Option (Int32 × Int32 × Int32 × Int32 × Int32 × Sg)) (a2 a3 a4 a5 a6 a7 : Int32) (σ : Sg) : Option (Int32 × Int32 × Int32 × Int32 × Int32 × Sg) :=
  if ((a2 >>> (a7 &&& 31)) &&& 1) = 0 then (rec a2 a3 a4 a5 (a6 - 1) (a7 + 1) σ) else (rec a2 a3 a4 a5 (a6 - 0) (a7 + 1) σ)
def f_X12_ordersBy_B58 (N : Nat) (rec : Int32 → Int32 → Int32 → Int32 → Int32 → Int32 → Sg → Option (Int32 × Int32 × Int32 × Int32 × Int32 × Sg)) (a2 a3 a4 a5 a6 a7 : Int32) (σ : Sg) : Option (Int32 × Int32 × Int32 × Int32 × Int32 × Sg) :=
  if ((a2 >>> (a7 &&& 31)) &&& 1) = 1 then (f_X12_ordersBy_J73 N rec a2 a3 a4 a5 a6 a7 σ) else (if a6 ≤ 0 then (some (a2, a3, a4, a5, a7, σ)) else (f_X12_ordersBy_J73 N rec a2 a3 a4 a5 a6 a7 σ))
def f_X12_ordersBy_L58 (N : Nat) : Nat → Int32 → Int32 → Int32 → Int32 → Int32 → Int32 → Sg → Option (Int32 × Int32 × Int32 × Int32 × Int32 × Sg)
  | 0 => fun _ _ _ _ _ _ _ => none
  | k + 1 => fun a2 a3 a4 a5 a6 a7 σ => f_X12_ordersBy_B58 N (f_X12_ordersBy_L58 N k) a2 a3 a4 a5 a6 a7 σ
def f_X12_ordersBy_B35 (N : Nat) (rec : Int32 → Int32 → Int32 → Int32 → Sg → Option (Sg)) (a2 a3 a4 a5 : Int32) (σ : Sg) : Option (Sg) :=
  if (σ 73 13) ≤ a5 then (some σ) else (gd a4 (gd a4 ((f_X12_ordersBy_L58 N N a2 (jrem a3 a4) a4 a5 (a3 / a4) 0 σ).bind (fun s9 => ga s9.2.2.2.1 5 (nm (sgs s9.2.2.2.2.2 93 (Int32.toNatClampNeg s9.2.2.2.1) s9.2.2.2.2.1) (fun σ11 => nm (s9.1 ||| ((1 : Int32) <<< (s9.2.2.2.2.1 &&& 31))) (fun v13 => if (((σ11 73 13) - 1) - s9.2.2.2.1) ≤ 0 then (rec v13 s9.2.1 s9.2.2.1 (s9.2.2.2.1 + 1) σ11) else (gd (((σ11 73 13) - 1) - s9.2.2.2.1) (nm (s9.2.2.1 / (((σ11 73 13) - 1) - s9.2.2.2.1)) (fun v17 => rec v13 s9.2.1 v17 (s9.2.2.2.1 + 1) σ11))))))))))
def f_X12_ordersBy_L35 (N : Nat) : Nat → Int32 → Int32 → Int32 → Int32 → Sg → Option (Sg)
  | 0 => fun _ _ _ _ _ => none
  | k + 1 => fun a2 a3 a4 a5 σ => f_X12_ordersBy_B35 N (f_X12_ordersBy_L35 N k) a2 a3 a4 a5 σ
def f_X12_ordersBy (N : Nat) (x1 : Int32) (σ : Sg) : Option (Sg) :=
  (f_X12_ordersBy_L10 N N 0 x1 1 2 σ).bind (fun s2 => (f_X12_ordersBy_L35 N N s2.1 s2.2.1 s2.2.2.1 0 s2.2.2.2).bind (fun s20 => some s20))
set_option maxHeartbeats 4000000 in
set_option maxRecDepth 20000 in
theorem m_X12_ordersBy (l : Launch) (E : Ev) (N : Nat) (x1 : Int32) (σ : Sg) (R : Sg) (hf : f_X12_ordersBy N x1 σ = some R) : Ct l E YX12_ordersBy [.ref (E.2.1 73), .int x1] σ (none, R) := by
  refine ct_of (by decide +kernel) (Nat.le_of_ble_eq_true rfl) [(0, .ref (E.2.1 73)), (1, .int x1)] rfl (fun X hX C => ?_)
  have hL10 : ∀ (k : Nat) (a2 a3 a4 a5 : Int32) (σ : Sg) (Q10 : Int32 × Int32 × Int32 × Sg), f_X12_ordersBy_L10 N k a2 a3 a4 a5 σ = some Q10 → (Zz E X YX12_ordersBy (none, R) Q10.2.2.2 32 [(0, .ref (E.2.1 73)), (2, .int Q10.1), (3, .int Q10.2.1), (4, .int Q10.2.2.1)] []) → Zz E X YX12_ordersBy (none, R) σ 10 [(0, .ref (E.2.1 73)), (2, .int a2), (3, .int a3), (4, .int a4), (5, .int a5)] [] := by
    intro k
    induction k with
    | zero =>
      intro a2 a3 a4 a5 σ Q10 hf
      have hf : (none : Option (Int32 × Int32 × Int32 × Sg)) = some Q10 := hf
      cases hf
    | succ k ih =>
      intro a2 a3 a4 a5 σ Q10 hf hx10
      have hf : f_X12_ordersBy_B10 N (f_X12_ordersBy_L10 N k) a2 a3 a4 a5 σ = some Q10 := hf
      unfold f_X12_ordersBy_B10 at hf
      refine z_iload C dX12_ordersBy_10 4 rfl ?_
      refine z_aload_n C dX12_ordersBy_12 0 rfl ?_
      refine z_get (v := .int (σ 73 13)) (T := TX12) (N := 39) (ci := 11) C (by decide) wc_mo rfl in_X12 13 (by decide) t_858 rfl dX12_ordersBy_13 ?_
      refine z_icmp_ge (tgt := 32) C dX12_ordersBy_16 (by decide) (fun h1 => ?_) (fun h1 => ?_)
      · replace hf := ifp hf h1
        refine z_sub [(0, .ref (E.2.1 73)), (2, .int a2), (3, .int a3), (4, .int a4)] [0, 1, 2, 3] rfl ?_
        obtain rfl := Option.some.inj hf
        exact hx10
      · replace hf := ifn hf h1
        refine z_iload C dX12_ordersBy_19 3 rfl ?_
        refine z_iload C dX12_ordersBy_21 4 rfl ?_
        refine z_imul C dX12_ordersBy_23 ?_
        refine z_istore (lv' := [(4, .int (a4 * a5)), (0, .ref (E.2.1 73)), (2, .int a2), (3, .int a3), (5, .int a5)]) C dX12_ordersBy_24 (by decide) rfl ?_
        refine z_iinc (v := (a5 + 1)) (lv' := [(5, .int (a5 + 1)), (4, .int (a4 * a5)), (0, .ref (E.2.1 73)), (2, .int a2), (3, .int a3)]) C dX12_ordersBy_26 4 rfl rfl (by decide) rfl ?_
        refine z_goto (tgt := 10) C dX12_ordersBy_29 (by decide) ?_
        refine z_sub [(0, .ref (E.2.1 73)), (2, .int a2), (3, .int a3), (4, .int (a4 * a5)), (5, .int (a5 + 1))] [2, 3, 4, 1, 0] rfl ?_
        exact ih a2 a3 (a4 * a5) (a5 + 1) σ _ hf hx10
  have hL58 : ∀ (k : Nat) (a2 a3 a4 a5 a6 a7 : Int32) (σ : Sg) (Q58 : Int32 × Int32 × Int32 × Int32 × Int32 × Sg), f_X12_ordersBy_L58 N k a2 a3 a4 a5 a6 a7 σ = some Q58 → (Zz E X YX12_ordersBy (none, R) Q58.2.2.2.2.2 98 [(0, .ref (E.2.1 73)), (2, .int Q58.1), (3, .int Q58.2.1), (4, .int Q58.2.2.1), (5, .int Q58.2.2.2.1), (7, .int Q58.2.2.2.2.1)] []) → Zz E X YX12_ordersBy (none, R) σ 58 [(0, .ref (E.2.1 73)), (2, .int a2), (3, .int a3), (4, .int a4), (5, .int a5), (6, .int a6), (7, .int a7)] [] := by
    intro k
    induction k with
    | zero =>
      intro a2 a3 a4 a5 a6 a7 σ Q58 hf
      have hf : (none : Option (Int32 × Int32 × Int32 × Int32 × Int32 × Sg)) = some Q58 := hf
      cases hf
    | succ k ih =>
      intro a2 a3 a4 a5 a6 a7 σ Q58 hf hx58
      have hf : f_X12_ordersBy_B58 N (f_X12_ordersBy_L58 N k) a2 a3 a4 a5 a6 a7 σ = some Q58 := hf
      have hJ73 : ∀ (a2 a3 a4 a5 a6 a7 : Int32) (σ : Sg), f_X12_ordersBy_J73 N (f_X12_ordersBy_L58 N k) a2 a3 a4 a5 a6 a7 σ = some Q58 → Zz E X YX12_ordersBy (none, R) σ 73 [(0, .ref (E.2.1 73)), (2, .int a2), (3, .int a3), (4, .int a4), (5, .int a5), (6, .int a6), (7, .int a7)] [] := by
        intro a2 a3 a4 a5 a6 a7 σ hf
        unfold f_X12_ordersBy_J73 at hf
        refine z_iload C dX12_ordersBy_73 5 rfl ?_
        refine z_iload_n C dX12_ordersBy_75 1 rfl ?_
        refine z_iload C dX12_ordersBy_76 6 rfl ?_
        refine z_ishr C dX12_ordersBy_78 ?_
        refine z_iconst (v := 1) C dX12_ordersBy_79 (by decide) ?_
        refine z_iand C dX12_ordersBy_80 ?_
        refine z_if_ne (tgt := 88) C dX12_ordersBy_81 (by decide) (fun h7 => ?_) (fun h7 => ?_)
        · replace hf := ifn hf h7
          refine z_iconst (v := 0) C dX12_ordersBy_88 (by decide) ?_
          refine z_isub C dX12_ordersBy_89 ?_
          refine z_istore (lv' := [(6, .int (a6 - 0)), (0, .ref (E.2.1 73)), (2, .int a2), (3, .int a3), (4, .int a4), (5, .int a5), (7, .int a7)]) C dX12_ordersBy_90 (by decide) rfl ?_
          refine z_iinc (v := (a7 + 1)) (lv' := [(7, .int (a7 + 1)), (6, .int (a6 - 0)), (0, .ref (E.2.1 73)), (2, .int a2), (3, .int a3), (4, .int a4), (5, .int a5)]) C dX12_ordersBy_92 6 rfl rfl (by decide) rfl ?_
          refine z_goto (tgt := 58) C dX12_ordersBy_95 (by decide) ?_
          refine z_sub [(0, .ref (E.2.1 73)), (2, .int a2), (3, .int a3), (4, .int a4), (5, .int a5), (6, .int (a6 - 0)), (7, .int (a7 + 1))] [2, 3, 4, 5, 6, 1, 0] rfl ?_
          exact ih a2 a3 a4 a5 (a6 - 0) (a7 + 1) σ _ hf hx58
        · replace hf := ifp hf h7
          refine z_iconst (v := 1) C dX12_ordersBy_84 (by decide) ?_
          refine z_goto (tgt := 89) C dX12_ordersBy_85 (by decide) ?_
          refine z_isub C dX12_ordersBy_89 ?_
          refine z_istore (lv' := [(6, .int (a6 - 1)), (0, .ref (E.2.1 73)), (2, .int a2), (3, .int a3), (4, .int a4), (5, .int a5), (7, .int a7)]) C dX12_ordersBy_90 (by decide) rfl ?_
          refine z_iinc (v := (a7 + 1)) (lv' := [(7, .int (a7 + 1)), (6, .int (a6 - 1)), (0, .ref (E.2.1 73)), (2, .int a2), (3, .int a3), (4, .int a4), (5, .int a5)]) C dX12_ordersBy_92 6 rfl rfl (by decide) rfl ?_
          refine z_goto (tgt := 58) C dX12_ordersBy_95 (by decide) ?_
          refine z_sub [(0, .ref (E.2.1 73)), (2, .int a2), (3, .int a3), (4, .int a4), (5, .int a5), (6, .int (a6 - 1)), (7, .int (a7 + 1))] [2, 3, 4, 5, 6, 1, 0] rfl ?_
          exact ih a2 a3 a4 a5 (a6 - 1) (a7 + 1) σ _ hf hx58
      unfold f_X12_ordersBy_B58 at hf
      refine z_iload_n C dX12_ordersBy_58 1 rfl ?_
      refine z_iload C dX12_ordersBy_59 6 rfl ?_
      refine z_ishr C dX12_ordersBy_61 ?_
      refine z_iconst (v := 1) C dX12_ordersBy_62 (by decide) ?_
      refine z_iand C dX12_ordersBy_63 ?_
      refine z_iconst (v := 1) C dX12_ordersBy_64 (by decide) ?_
      refine z_icmp_eq (tgt := 73) C dX12_ordersBy_65 (by decide) (fun h6 => ?_) (fun h6 => ?_)
      · replace hf := ifp hf h6
        refine z_sub [(0, .ref (E.2.1 73)), (2, .int a2), (3, .int a3), (4, .int a4), (5, .int a5), (6, .int a6), (7, .int a7)] [0, 1, 2, 3, 4, 5, 6] rfl ?_
        exact hJ73 a2 a3 a4 a5 a6 a7 σ hf
      · replace hf := ifn hf h6
        refine z_iload C dX12_ordersBy_68 5 rfl ?_
        refine z_if_le (tgt := 98) C dX12_ordersBy_70 (by decide) (fun h8 => ?_) (fun h8 => ?_)
        · replace hf := ifp hf h8
          refine z_sub [(0, .ref (E.2.1 73)), (2, .int a2), (3, .int a3), (4, .int a4), (5, .int a5), (7, .int a7)] [0, 1, 2, 3, 4, 6] rfl ?_
          obtain rfl := Option.some.inj hf
          exact hx58
        · replace hf := ifn hf h8
          refine z_sub [(0, .ref (E.2.1 73)), (2, .int a2), (3, .int a3), (4, .int a4), (5, .int a5), (6, .int a6), (7, .int a7)] [0, 1, 2, 3, 4, 5, 6] rfl ?_
          exact hJ73 a2 a3 a4 a5 a6 a7 σ hf
  have hL35 : ∀ (k : Nat) (a2 a3 a4 a5 : Int32) (σ : Sg) (Q35 : Sg), f_X12_ordersBy_L35 N k a2 a3 a4 a5 σ = some Q35 → (Zz E X YX12_ordersBy (none, R) Q35 146 [] []) → Zz E X YX12_ordersBy (none, R) σ 35 [(0, .ref (E.2.1 73)), (2, .int a2), (3, .int a3), (4, .int a4), (5, .int a5)] [] := by
    intro k
    induction k with
    | zero =>
      intro a2 a3 a4 a5 σ Q35 hf
      have hf : (none : Option (Sg)) = some Q35 := hf
      cases hf
    | succ k ih =>
      intro a2 a3 a4 a5 σ Q35 hf hx35
      have hf : f_X12_ordersBy_B35 N (f_X12_ordersBy_L35 N k) a2 a3 a4 a5 σ = some Q35 := hf
      unfold f_X12_ordersBy_B35 at hf
      refine z_iload C dX12_ordersBy_35 4 rfl ?_
      refine z_aload_n C dX12_ordersBy_37 0 rfl ?_
      refine z_get (v := .int (σ 73 13)) (T := TX12) (N := 39) (ci := 11) C (by decide) wc_mo rfl in_X12 13 (by decide) t_858 rfl dX12_ordersBy_38 ?_
      refine z_icmp_ge (tgt := 146) C dX12_ordersBy_41 (by decide) (fun h3 => ?_) (fun h3 => ?_)
      · replace hf := ifp hf h3
        refine z_sub [] [] rfl ?_
        obtain rfl := Option.some.inj hf
        exact hx35
      · replace hf := ifn hf h3
        refine z_iload_n C dX12_ordersBy_44 2 rfl ?_
        refine z_iload C dX12_ordersBy_45 3 rfl ?_
        obtain ⟨h4, hf⟩ := gd_some hf
        refine z_idiv C dX12_ordersBy_47 h4 ?_
        refine z_istore (lv' := [(6, .int (a3 / a4)), (0, .ref (E.2.1 73)), (2, .int a2), (3, .int a3), (4, .int a4), (5, .int a5)]) C dX12_ordersBy_48 (by decide) rfl ?_
        refine z_iload_n C dX12_ordersBy_50 3 rfl ?_
        refine z_iload C dX12_ordersBy_51 4 rfl ?_
        obtain ⟨h5, hf⟩ := gd_some hf
        refine z_irem C dX12_ordersBy_53 h5 ?_
        refine z_istore_n (lv' := [(3, .int (jrem a3 a4)), (6, .int (a3 / a4)), (0, .ref (E.2.1 73)), (2, .int a2), (4, .int a4), (5, .int a5)]) C dX12_ordersBy_54 (by decide) rfl ?_
        refine z_iconst (v := 0) C dX12_ordersBy_55 (by decide) ?_
        refine z_istore (lv' := [(7, .int 0), (3, .int (jrem a3 a4)), (6, .int (a3 / a4)), (0, .ref (E.2.1 73)), (2, .int a2), (4, .int a4), (5, .int a5)]) C dX12_ordersBy_56 (by decide) rfl ?_
        refine z_sub [(0, .ref (E.2.1 73)), (2, .int a2), (3, .int (jrem a3 a4)), (4, .int a4), (5, .int a5), (6, .int (a3 / a4)), (7, .int 0)] [3, 4, 1, 5, 6, 2, 0] rfl ?_
        obtain ⟨s9, h19, hf⟩ := bd_some hf
        refine hL58 N a2 (jrem a3 a4) a4 a5 (a3 / a4) 0 σ _ h19 ?_
        refine z_aload_n C dX12_ordersBy_98 0 rfl ?_
        refine z_get (v := .ref (E.2.1 93)) (T := TX12) (N := 39) (ci := 11) C (by decide) wc_mo rfl in_X12 34 (by decide) t_879 rfl dX12_ordersBy_99 ?_
        refine z_iload C dX12_ordersBy_102 4 rfl ?_
        refine z_iload C dX12_ordersBy_104 5 rfl ?_
        obtain ⟨h10, hf⟩ := ga_some hf
        obtain ⟨σ11, h12, hf⟩ := nm_some hf
        refine z_iast C ka_93 h10 dX12_ordersBy_106 ?_
        rw [← h12]
        refine z_iload_n C dX12_ordersBy_107 1 rfl ?_
        refine z_iconst (v := 1) C dX12_ordersBy_108 (by decide) ?_
        refine z_iload C dX12_ordersBy_109 5 rfl ?_
        refine z_ishl C dX12_ordersBy_111 ?_
        refine z_ior C dX12_ordersBy_112 ?_
        obtain ⟨v13, h14, hf⟩ := nm_some hf
        rw [← h14]
        refine z_istore_n (lv' := [(2, .int v13), (0, .ref (E.2.1 73)), (3, .int s9.2.1), (4, .int s9.2.2.1), (5, .int s9.2.2.2.1), (7, .int s9.2.2.2.2.1)]) C dX12_ordersBy_113 (by decide) rfl ?_
        refine z_aload_n C dX12_ordersBy_114 1 rfl ?_
        refine z_get (v := .int (σ11 73 13)) (T := TX12) (N := 39) (ci := 11) C (by decide) wc_mo rfl in_X12 13 (by decide) t_858 rfl dX12_ordersBy_115 ?_
        refine z_iconst (v := 1) C dX12_ordersBy_118 (by decide) ?_
        refine z_isub C dX12_ordersBy_119 ?_
        refine z_iload C dX12_ordersBy_120 4 rfl ?_
        refine z_isub C dX12_ordersBy_122 ?_
        refine z_if_le (tgt := 140) C dX12_ordersBy_123 (by decide) (fun h15 => ?_) (fun h15 => ?_)
        · replace hf := ifp hf h15
          refine z_iinc (v := (s9.2.2.2.1 + 1)) (lv' := [(5, .int (s9.2.2.2.1 + 1)), (2, .int v13), (0, .ref (E.2.1 73)), (3, .int s9.2.1), (4, .int s9.2.2.1), (7, .int s9.2.2.2.2.1)]) C dX12_ordersBy_140 4 rfl rfl (by decide) rfl ?_
          refine z_goto (tgt := 35) C dX12_ordersBy_143 (by decide) ?_
          refine z_sub [(0, .ref (E.2.1 73)), (2, .int v13), (3, .int s9.2.1), (4, .int s9.2.2.1), (5, .int (s9.2.2.2.1 + 1))] [2, 1, 3, 4, 0] rfl ?_
          exact ih v13 s9.2.1 s9.2.2.1 (s9.2.2.2.1 + 1) σ11 _ hf hx35
        · replace hf := ifn hf h15
          refine z_iload C dX12_ordersBy_126 3 rfl ?_
          refine z_aload_n C dX12_ordersBy_128 1 rfl ?_
          refine z_get (v := .int (σ11 73 13)) (T := TX12) (N := 39) (ci := 11) C (by decide) wc_mo rfl in_X12 13 (by decide) t_858 rfl dX12_ordersBy_129 ?_
          refine z_iconst (v := 1) C dX12_ordersBy_132 (by decide) ?_
          refine z_isub C dX12_ordersBy_133 ?_
          refine z_iload C dX12_ordersBy_134 4 rfl ?_
          refine z_isub C dX12_ordersBy_136 ?_
          obtain ⟨h16, hf⟩ := gd_some hf
          refine z_idiv C dX12_ordersBy_137 h16 ?_
          obtain ⟨v17, h18, hf⟩ := nm_some hf
          rw [← h18]
          refine z_istore (lv' := [(4, .int v17), (2, .int v13), (0, .ref (E.2.1 73)), (3, .int s9.2.1), (5, .int s9.2.2.2.1), (7, .int s9.2.2.2.2.1)]) C dX12_ordersBy_138 (by decide) rfl ?_
          refine z_iinc (v := (s9.2.2.2.1 + 1)) (lv' := [(5, .int (s9.2.2.2.1 + 1)), (4, .int v17), (2, .int v13), (0, .ref (E.2.1 73)), (3, .int s9.2.1), (7, .int s9.2.2.2.2.1)]) C dX12_ordersBy_140 4 rfl rfl (by decide) rfl ?_
          refine z_goto (tgt := 35) C dX12_ordersBy_143 (by decide) ?_
          refine z_sub [(0, .ref (E.2.1 73)), (2, .int v13), (3, .int s9.2.1), (4, .int v17), (5, .int (s9.2.2.2.1 + 1))] [3, 2, 4, 1, 0] rfl ?_
          exact ih v13 s9.2.1 v17 (s9.2.2.2.1 + 1) σ11 _ hf hx35
  unfold f_X12_ordersBy at hf
  refine z_iconst (v := 0) C dX12_ordersBy_0 (by decide) ?_
  refine z_istore_n (lv' := [(2, .int 0), (0, .ref (E.2.1 73)), (1, .int x1)]) C dX12_ordersBy_1 (by decide) rfl ?_
  refine z_iload_n C dX12_ordersBy_2 2 rfl ?_
  refine z_istore_n (lv' := [(3, .int x1), (2, .int 0), (0, .ref (E.2.1 73)), (1, .int x1)]) C dX12_ordersBy_3 (by decide) rfl ?_
  refine z_iconst (v := 1) C dX12_ordersBy_4 (by decide) ?_
  refine z_istore (lv' := [(4, .int 1), (3, .int x1), (2, .int 0), (0, .ref (E.2.1 73)), (1, .int x1)]) C dX12_ordersBy_5 (by decide) rfl ?_
  refine z_iconst (v := 2) C dX12_ordersBy_7 (by decide) ?_
  refine z_istore (lv' := [(5, .int 2), (4, .int 1), (3, .int x1), (2, .int 0), (0, .ref (E.2.1 73)), (1, .int x1)]) C dX12_ordersBy_8 (by decide) rfl ?_
  refine z_sub [(0, .ref (E.2.1 73)), (2, .int 0), (3, .int x1), (4, .int 1), (5, .int 2)] [4, 3, 2, 1, 0] rfl ?_
  obtain ⟨s2, h22, hf⟩ := bd_some hf
  refine hL10 N 0 x1 1 2 σ _ h22 ?_
  refine z_iconst (v := 0) C dX12_ordersBy_32 (by decide) ?_
  refine z_istore (lv' := [(5, .int 0), (0, .ref (E.2.1 73)), (2, .int s2.1), (3, .int s2.2.1), (4, .int s2.2.2.1)]) C dX12_ordersBy_33 (by decide) rfl ?_
  refine z_sub [(0, .ref (E.2.1 73)), (2, .int s2.1), (3, .int s2.2.1), (4, .int s2.2.2.1), (5, .int 0)] [1, 2, 3, 4, 0] rfl ?_
  obtain ⟨s20, h21, hf⟩ := bd_some hf
  refine hL35 N s2.1 s2.2.1 s2.2.2.1 0 s2.2.2.2 _ h21 ?_
  exact z_vret C dX12_ordersBy_146 rfl (by rw [← Option.some.inj hf])
theorem lk_X12_ordersBy {Y : Yv} : Lk Y YX12_ordersBy 1 := ⟨t_1175, t_13, ⟨by decide +kernel, by decide +kernel⟩, by decide +kernel⟩
abbrev YX12_best : Yv := (yX12_best, cX12_best, 7, some .int, 6, 144)
def f_X12_best_B16 (N : Nat) (rec : Int32 → Int32 → Int32 → Sg → Option (Int32 × Int32 × Sg)) (a1 a2 a3 : Int32) (σ : Sg) : Option (Int32 × Int32 × Sg) :=
  if (σ 73 13) < a3 then (some (a1, a2, σ)) else (rec a1 (a2 * a3) (a3 + 1) σ)
def f_X12_best_L16 (N : Nat) : Nat → Int32 → Int32 → Int32 → Sg → Option (Int32 × Int32 × Sg)
  | 0 => fun _ _ _ _ => none
  | k + 1 => fun a1 a2 a3 σ => f_X12_best_B16 N (f_X12_best_L16 N k) a1 a2 a3 σ
def f_X12_best_B76 (N : Nat) (rec : Int32 → Int32 → Int32 → Int32 → Int32 → Sg → Option (Int32 × Int32 × Int32 × Int32 × Sg)) (a1 a2 a3 a4 a6 : Int32) (σ : Sg) : Option (Int32 × Int32 × Int32 × Int32 × Sg) :=
  if (σ 73 13) ≤ a6 then (some (a1, a2, a3, a4, σ)) else (ga a6 5 (ga a6 5 (nm (sgs σ 94 (Int32.toNatClampNeg a6) (σ 93 (Int32.toNatClampNeg a6))) (fun σ13 => rec a1 a2 a3 a4 (a6 + 1) σ13))))
def f_X12_best_L76 (N : Nat) : Nat → Int32 → Int32 → Int32 → Int32 → Int32 → Sg → Option (Int32 × Int32 × Int32 × Int32 × Sg)
  | 0 => fun _ _ _ _ _ _ => none
  | k + 1 => fun a1 a2 a3 a4 a6 σ => f_X12_best_B76 N (f_X12_best_L76 N k) a1 a2 a3 a4 a6 σ
def f_X12_best_B39 (N : Nat) (rec : Int32 → Int32 → Int32 → Int32 → Sg → Option (Int32 × Int32 × Sg)) (a1 a2 a3 a4 : Int32) (σ : Sg) : Option (Int32 × Int32 × Sg) :=
  if a2 ≤ a4 then (some (a1, a3, σ)) else ((f_X12_ordersBy N a4 σ).bind (fun r5 => (f_X12_metBy N (r5 73 13) r5).bind (fun r7 => if a3 < r7.1 then ((f_X12_best_L76 N N a1 a2 r7.1 a4 0 r7.2).bind (fun s15 => rec s15.1 s15.2.1 s15.2.2.1 (s15.2.2.2.1 + 1) s15.2.2.2.2)) else (rec a1 a2 a3 (a4 + 1) r7.2))))
def f_X12_best_L39 (N : Nat) : Nat → Int32 → Int32 → Int32 → Int32 → Sg → Option (Int32 × Int32 × Sg)
  | 0 => fun _ _ _ _ _ => none
  | k + 1 => fun a1 a2 a3 a4 σ => f_X12_best_B39 N (f_X12_best_L39 N k) a1 a2 a3 a4 σ
def f_X12_best (N : Nat) (x1 : Int32) (σ : Sg) : Option (Int32 × Sg) :=
  if (-1) ≤ x1 then ((f_X12_best_L16 N N x1 1 2 σ).bind (fun s3 => (f_X12_best_L39 N N s3.1 s3.2.1 (-1) 0 s3.2.2).bind (fun s17 => if s17.1 = (-1) then (some (s17.2.1, s17.2.2)) else (if (s17.2.2 73 13) ≤ s17.1 then (some ((-9), s17.2.2)) else (ga s17.1 5 (some ((s17.2.2 94 (Int32.toNatClampNeg s17.1)), s17.2.2))))))) else ((f_X12_no N (-4) σ).bind (fun r23 => some (r23.1, r23.2)))
set_option maxHeartbeats 4000000 in
set_option maxRecDepth 20000 in
theorem m_X12_best (l : Launch) (E : Ev) (N : Nat) (x1 : Int32) (σ : Sg) (R : Int32 × Sg) (hf : f_X12_best N x1 σ = some R) : Ct l E YX12_best [.ref (E.2.1 73), .int x1] σ (some (.int R.1), R.2) := by
  refine ct_of (by decide +kernel) (Nat.le_of_ble_eq_true rfl) [(0, .ref (E.2.1 73)), (1, .int x1)] rfl (fun X hX C => ?_)
  have hL16 : ∀ (k : Nat) (a1 a2 a3 : Int32) (σ : Sg) (Q16 : Int32 × Int32 × Sg), f_X12_best_L16 N k a1 a2 a3 σ = some Q16 → (Zz E X YX12_best (some (.int R.1), R.2) Q16.2.2 34 [(0, .ref (E.2.1 73)), (1, .int Q16.1), (2, .int Q16.2.1)] []) → Zz E X YX12_best (some (.int R.1), R.2) σ 16 [(0, .ref (E.2.1 73)), (1, .int a1), (2, .int a2), (3, .int a3)] [] := by
    intro k
    induction k with
    | zero =>
      intro a1 a2 a3 σ Q16 hf
      have hf : (none : Option (Int32 × Int32 × Sg)) = some Q16 := hf
      cases hf
    | succ k ih =>
      intro a1 a2 a3 σ Q16 hf hx16
      have hf : f_X12_best_B16 N (f_X12_best_L16 N k) a1 a2 a3 σ = some Q16 := hf
      unfold f_X12_best_B16 at hf
      refine z_iload_n C dX12_best_16 3 rfl ?_
      refine z_aload_n C dX12_best_17 0 rfl ?_
      refine z_get (v := .int (σ 73 13)) (T := TX12) (N := 39) (ci := 11) C (by decide) wc_mo rfl in_X12 13 (by decide) t_858 rfl dX12_best_18 ?_
      refine z_icmp_gt (tgt := 34) C dX12_best_21 (by decide) (fun h2 => ?_) (fun h2 => ?_)
      · replace hf := ifp hf h2
        refine z_sub [(0, .ref (E.2.1 73)), (1, .int a1), (2, .int a2)] [0, 1, 2] rfl ?_
        obtain rfl := Option.some.inj hf
        exact hx16
      · replace hf := ifn hf h2
        refine z_iload_n C dX12_best_24 2 rfl ?_
        refine z_iload_n C dX12_best_25 3 rfl ?_
        refine z_imul C dX12_best_26 ?_
        refine z_istore_n (lv' := [(2, .int (a2 * a3)), (0, .ref (E.2.1 73)), (1, .int a1), (3, .int a3)]) C dX12_best_27 (by decide) rfl ?_
        refine z_iinc (v := (a3 + 1)) (lv' := [(3, .int (a3 + 1)), (2, .int (a2 * a3)), (0, .ref (E.2.1 73)), (1, .int a1)]) C dX12_best_28 3 rfl rfl (by decide) rfl ?_
        refine z_goto (tgt := 16) C dX12_best_31 (by decide) ?_
        refine z_sub [(0, .ref (E.2.1 73)), (1, .int a1), (2, .int (a2 * a3)), (3, .int (a3 + 1))] [2, 3, 1, 0] rfl ?_
        exact ih a1 (a2 * a3) (a3 + 1) σ _ hf hx16
  have hL76 : ∀ (k : Nat) (a1 a2 a3 a4 a6 : Int32) (σ : Sg) (Q76 : Int32 × Int32 × Int32 × Int32 × Sg), f_X12_best_L76 N k a1 a2 a3 a4 a6 σ = some Q76 → (Zz E X YX12_best (some (.int R.1), R.2) Q76.2.2.2.2 105 [(0, .ref (E.2.1 73)), (1, .int Q76.1), (2, .int Q76.2.1), (3, .int Q76.2.2.1), (4, .int Q76.2.2.2.1)] []) → Zz E X YX12_best (some (.int R.1), R.2) σ 76 [(0, .ref (E.2.1 73)), (1, .int a1), (2, .int a2), (3, .int a3), (4, .int a4), (6, .int a6)] [] := by
    intro k
    induction k with
    | zero =>
      intro a1 a2 a3 a4 a6 σ Q76 hf
      have hf : (none : Option (Int32 × Int32 × Int32 × Int32 × Sg)) = some Q76 := hf
      cases hf
    | succ k ih =>
      intro a1 a2 a3 a4 a6 σ Q76 hf hx76
      have hf : f_X12_best_B76 N (f_X12_best_L76 N k) a1 a2 a3 a4 a6 σ = some Q76 := hf
      unfold f_X12_best_B76 at hf
      refine z_iload C dX12_best_76 5 rfl ?_
      refine z_aload_n C dX12_best_78 0 rfl ?_
      refine z_get (v := .int (σ 73 13)) (T := TX12) (N := 39) (ci := 11) C (by decide) wc_mo rfl in_X12 13 (by decide) t_858 rfl dX12_best_79 ?_
      refine z_icmp_ge (tgt := 105) C dX12_best_82 (by decide) (fun h10 => ?_) (fun h10 => ?_)
      · replace hf := ifp hf h10
        refine z_sub [(0, .ref (E.2.1 73)), (1, .int a1), (2, .int a2), (3, .int a3), (4, .int a4)] [0, 1, 2, 3, 4] rfl ?_
        obtain rfl := Option.some.inj hf
        exact hx76
      · replace hf := ifn hf h10
        refine z_aload_n C dX12_best_85 0 rfl ?_
        refine z_get (v := .ref (E.2.1 94)) (T := TX12) (N := 39) (ci := 11) C (by decide) wc_mo rfl in_X12 35 (by decide) t_880 rfl dX12_best_86 ?_
        refine z_iload C dX12_best_89 5 rfl ?_
        refine z_aload_n C dX12_best_91 0 rfl ?_
        refine z_get (v := .ref (E.2.1 93)) (T := TX12) (N := 39) (ci := 11) C (by decide) wc_mo rfl in_X12 34 (by decide) t_879 rfl dX12_best_92 ?_
        refine z_iload C dX12_best_95 5 rfl ?_
        obtain ⟨h11, hf⟩ := ga_some hf
        refine z_iald C ka_93 h11 dX12_best_97 ?_
        obtain ⟨h12, hf⟩ := ga_some hf
        obtain ⟨σ13, h14, hf⟩ := nm_some hf
        refine z_iast C ka_94 h12 dX12_best_98 ?_
        rw [← h14]
        refine z_iinc (v := (a6 + 1)) (lv' := [(6, .int (a6 + 1)), (0, .ref (E.2.1 73)), (1, .int a1), (2, .int a2), (3, .int a3), (4, .int a4)]) C dX12_best_99 5 rfl rfl (by decide) rfl ?_
        refine z_goto (tgt := 76) C dX12_best_102 (by decide) ?_
        refine z_sub [(0, .ref (E.2.1 73)), (1, .int a1), (2, .int a2), (3, .int a3), (4, .int a4), (6, .int (a6 + 1))] [1, 2, 3, 4, 5, 0] rfl ?_
        exact ih a1 a2 a3 a4 (a6 + 1) σ13 _ hf hx76
  have hL39 : ∀ (k : Nat) (a1 a2 a3 a4 : Int32) (σ : Sg) (Q39 : Int32 × Int32 × Sg), f_X12_best_L39 N k a1 a2 a3 a4 σ = some Q39 → (Zz E X YX12_best (some (.int R.1), R.2) Q39.2.2 111 [(0, .ref (E.2.1 73)), (1, .int Q39.1), (3, .int Q39.2.1)] []) → Zz E X YX12_best (some (.int R.1), R.2) σ 39 [(0, .ref (E.2.1 73)), (1, .int a1), (2, .int a2), (3, .int a3), (4, .int a4)] [] := by
    intro k
    induction k with
    | zero =>
      intro a1 a2 a3 a4 σ Q39 hf
      have hf : (none : Option (Int32 × Int32 × Sg)) = some Q39 := hf
      cases hf
    | succ k ih =>
      intro a1 a2 a3 a4 σ Q39 hf hx39
      have hf : f_X12_best_B39 N (f_X12_best_L39 N k) a1 a2 a3 a4 σ = some Q39 := hf
      unfold f_X12_best_B39 at hf
      refine z_iload C dX12_best_39 4 rfl ?_
      refine z_iload_n C dX12_best_41 2 rfl ?_
      refine z_icmp_ge (tgt := 111) C dX12_best_42 (by decide) (fun h4 => ?_) (fun h4 => ?_)
      · replace hf := ifp hf h4
        refine z_sub [(0, .ref (E.2.1 73)), (1, .int a1), (3, .int a3)] [0, 1, 3] rfl ?_
        obtain rfl := Option.some.inj hf
        exact hx39
      · replace hf := ifn hf h4
        refine z_aload_n C dX12_best_45 0 rfl ?_
        refine z_iload C dX12_best_46 4 rfl ?_
        obtain ⟨r5, h6, hf⟩ := bd_some hf
        refine z_callV (Y2 := YX12_ordersBy) (CC := RX12) (T := TX12) (N := 39) (ci := 11) (As := [.int a4]) C lk_X12_ordersBy (by decide) wc_mo rfl t_1172 t_1174 p_55 (Nat.le_of_ble_eq_true rfl) (Nat.le_of_ble_eq_true rfl) dX12_best_48 (Nat.le_of_ble_eq_true rfl) rfl rfl (m_X12_ordersBy X.2.1 E N a4 σ _ h6) ?_
        change Zz E X YX12_best (some (.int R.1), R.2) r5 _ _ []
        refine z_aload_n C dX12_best_51 0 rfl ?_
        refine z_aload_n C dX12_best_52 0 rfl ?_
        refine z_get (v := .int (r5 73 13)) (T := TX12) (N := 39) (ci := 11) C (by decide) wc_mo rfl in_X12 13 (by decide) t_858 rfl dX12_best_53 ?_
        obtain ⟨r7, h8, hf⟩ := bd_some hf
        refine z_callV (Y2 := YX12_metBy) (CC := RX12) (T := TX12) (N := 39) (ci := 11) (As := [.int (r5 73 13)]) C lk_X12_metBy (by decide) wc_mo rfl t_1164 t_1166 p_54 (Nat.le_of_ble_eq_true rfl) (Nat.le_of_ble_eq_true rfl) dX12_best_56 (Nat.le_of_ble_eq_true rfl) rfl rfl (m_X12_metBy X.2.1 E N (r5 73 13) r5 _ h8) ?_
        change Zz E X YX12_best (some (.int R.1), R.2) r7.2 _ _ [.int r7.1]
        refine z_istore (lv' := [(5, .int r7.1), (0, .ref (E.2.1 73)), (1, .int a1), (2, .int a2), (3, .int a3), (4, .int a4)]) C dX12_best_59 (by decide) rfl ?_
        refine z_iload C dX12_best_61 0 rfl ?_
        refine z_iload_n C dX12_best_63 4 rfl ?_
        refine z_icmp_gt (tgt := 70) C dX12_best_64 (by decide) (fun h9 => ?_) (fun h9 => ?_)
        · replace hf := ifp hf h9
          refine z_iload C dX12_best_70 0 rfl ?_
          refine z_istore_n (lv' := [(3, .int r7.1), (5, .int r7.1), (0, .ref (E.2.1 73)), (1, .int a1), (2, .int a2), (4, .int a4)]) C dX12_best_72 (by decide) rfl ?_
          refine z_iconst (v := 0) C dX12_best_73 (by decide) ?_
          refine z_istore (lv' := [(6, .int 0), (3, .int r7.1), (5, .int r7.1), (0, .ref (E.2.1 73)), (1, .int a1), (2, .int a2), (4, .int a4)]) C dX12_best_74 (by decide) rfl ?_
          refine z_sub [(0, .ref (E.2.1 73)), (1, .int a1), (2, .int a2), (3, .int r7.1), (4, .int a4), (6, .int 0)] [3, 4, 5, 1, 6, 0] rfl ?_
          obtain ⟨s15, h16, hf⟩ := bd_some hf
          refine hL76 N a1 a2 r7.1 a4 0 r7.2 _ h16 ?_
          refine z_iinc (v := (s15.2.2.2.1 + 1)) (lv' := [(4, .int (s15.2.2.2.1 + 1)), (0, .ref (E.2.1 73)), (1, .int s15.1), (2, .int s15.2.1), (3, .int s15.2.2.1)]) C dX12_best_105 4 rfl rfl (by decide) rfl ?_
          refine z_goto (tgt := 39) C dX12_best_108 (by decide) ?_
          refine z_sub [(0, .ref (E.2.1 73)), (1, .int s15.1), (2, .int s15.2.1), (3, .int s15.2.2.1), (4, .int (s15.2.2.2.1 + 1))] [1, 2, 3, 4, 0] rfl ?_
          exact ih s15.1 s15.2.1 s15.2.2.1 (s15.2.2.2.1 + 1) s15.2.2.2.2 _ hf hx39
        · replace hf := ifn hf h9
          refine z_goto (tgt := 105) C dX12_best_67 (by decide) ?_
          refine z_iinc (v := (a4 + 1)) (lv' := [(4, .int (a4 + 1)), (5, .int r7.1), (0, .ref (E.2.1 73)), (1, .int a1), (2, .int a2), (3, .int a3)]) C dX12_best_105 5 rfl rfl (by decide) rfl ?_
          refine z_goto (tgt := 39) C dX12_best_108 (by decide) ?_
          refine z_sub [(0, .ref (E.2.1 73)), (1, .int a1), (2, .int a2), (3, .int a3), (4, .int (a4 + 1))] [2, 3, 4, 5, 0] rfl ?_
          exact ih a1 a2 a3 (a4 + 1) r7.2 _ hf hx39
  unfold f_X12_best at hf
  refine z_iload_n C dX12_best_0 1 rfl ?_
  refine z_iconst (v := (-1)) C dX12_best_1 (by decide) ?_
  refine z_icmp_ge (tgt := 12) C dX12_best_2 (by decide) (fun h1 => ?_) (fun h1 => ?_)
  · replace hf := ifp hf h1
    refine z_iconst (v := 1) C dX12_best_12 (by decide) ?_
    refine z_istore_n (lv' := [(2, .int 1), (0, .ref (E.2.1 73)), (1, .int x1)]) C dX12_best_13 (by decide) rfl ?_
    refine z_iconst (v := 2) C dX12_best_14 (by decide) ?_
    refine z_istore_n (lv' := [(3, .int 2), (2, .int 1), (0, .ref (E.2.1 73)), (1, .int x1)]) C dX12_best_15 (by decide) rfl ?_
    refine z_sub [(0, .ref (E.2.1 73)), (1, .int x1), (2, .int 1), (3, .int 2)] [2, 3, 1, 0] rfl ?_
    obtain ⟨s3, h22, hf⟩ := bd_some hf
    refine hL16 N x1 1 2 σ _ h22 ?_
    refine z_iconst (v := (-1)) C dX12_best_34 (by decide) ?_
    refine z_istore_n (lv' := [(3, .int (-1)), (0, .ref (E.2.1 73)), (1, .int s3.1), (2, .int s3.2.1)]) C dX12_best_35 (by decide) rfl ?_
    refine z_iconst (v := 0) C dX12_best_36 (by decide) ?_
    refine z_istore (lv' := [(4, .int 0), (3, .int (-1)), (0, .ref (E.2.1 73)), (1, .int s3.1), (2, .int s3.2.1)]) C dX12_best_37 (by decide) rfl ?_
    refine z_sub [(0, .ref (E.2.1 73)), (1, .int s3.1), (2, .int s3.2.1), (3, .int (-1)), (4, .int 0)] [2, 3, 4, 1, 0] rfl ?_
    obtain ⟨s17, h21, hf⟩ := bd_some hf
    refine hL39 N s3.1 s3.2.1 (-1) 0 s3.2.2 _ h21 ?_
    refine z_iload_n C dX12_best_111 1 rfl ?_
    refine z_iconst (v := (-1)) C dX12_best_112 (by decide) ?_
    refine z_icmp_ne (tgt := 120) C dX12_best_113 (by decide) (fun h18 => ?_) (fun h18 => ?_)
    · replace hf := ifn hf h18
      refine z_iload_n C dX12_best_120 1 rfl ?_
      refine z_aload_n C dX12_best_121 0 rfl ?_
      refine z_get (v := .int (s17.2.2 73 13)) (T := TX12) (N := 39) (ci := 11) C (by decide) wc_mo rfl in_X12 13 (by decide) t_858 rfl dX12_best_122 ?_
      refine z_icmp_ge (tgt := 137) C dX12_best_125 (by decide) (fun h19 => ?_) (fun h19 => ?_)
      · replace hf := ifp hf h19
        refine z_bipush (v := (-9)) C dX12_best_137 (by decide) ?_
        exact z_iret C dX12_best_139 rfl (by rw [← Option.some.inj hf])
      · replace hf := ifn hf h19
        refine z_aload_n C dX12_best_128 0 rfl ?_
        refine z_get (v := .ref (E.2.1 94)) (T := TX12) (N := 39) (ci := 11) C (by decide) wc_mo rfl in_X12 35 (by decide) t_880 rfl dX12_best_129 ?_
        refine z_iload_n C dX12_best_132 1 rfl ?_
        obtain ⟨h20, hf⟩ := ga_some hf
        refine z_iald C ka_94 h20 dX12_best_133 ?_
        refine z_goto (tgt := 139) C dX12_best_134 (by decide) ?_
        exact z_iret C dX12_best_139 rfl (by rw [← Option.some.inj hf])
    · replace hf := ifp hf h18
      refine z_iload_n C dX12_best_116 2 rfl ?_
      refine z_goto (tgt := 139) C dX12_best_117 (by decide) ?_
      exact z_iret C dX12_best_139 rfl (by rw [← Option.some.inj hf])
  · replace hf := ifn hf h1
    refine z_aload_n C dX12_best_5 0 rfl ?_
    refine z_bipush (v := (-4)) C dX12_best_6 (by decide) ?_
    obtain ⟨r23, h24, hf⟩ := bd_some hf
    refine z_callV (Y2 := YX12_no) (CC := RX12) (T := TX12) (N := 39) (ci := 11) (As := [.int (-4)]) C lk_X12_no (by decide) wc_mo rfl t_970 t_972 p_27 (Nat.le_of_ble_eq_true rfl) (Nat.le_of_ble_eq_true rfl) dX12_best_8 (Nat.le_of_ble_eq_true rfl) rfl rfl (m_X12_no X.2.1 E N (-4) σ _ h24) ?_
    change Zz E X YX12_best (some (.int R.1), R.2) r23.2 _ _ [.int r23.1]
    exact z_iret C dX12_best_11 rfl (by rw [← Option.some.inj hf])
theorem lk_X12_best {Y : Yv} : Lk Y YX12_best 1 := ⟨t_1171, t_13, ⟨by decide +kernel, by decide +kernel⟩, by decide +kernel⟩
abbrev YX12_greedy : Yv := (yX12_greedy, cX12_greedy, 8, some .int, 5, 121)
def f_X12_greedy_B31 (N : Nat) (rec : Int32 → Int32 → Int32 → Int32 → Int32 → Int32 → Sg → Option (Int32 × Int32 × Int32 × Int32 × Sg)) (a1 a2 a3 a4 a5 a6 : Int32) (σ : Sg) : Option (Int32 × Int32 × Int32 × Int32 × Sg) :=
  if (σ 73 13) ≤ a6 then (some (a1, a2, a3, a4, σ)) else (if ((a2 >>> (a6 &&& 31)) &&& 1) = 1 then (rec a1 a2 a3 a4 a5 (a6 + 1) σ) else ((f_X12_keeps N 0 σ).bind (fun r8 => ga a6 5 ((f_X12_posts N (r8 80 (Int32.toNatClampNeg a6)) r8).bind (fun r11 => (f_X12_sumOf N r11.2).bind (fun r13 => (f_X12_putsBack N 0 r13.2).bind (fun r15 => if a4 < 0 then (rec a1 a2 a3 a6 r13.1 (a6 + 1) r15) else (if r13.1 < a5 then (rec a1 a2 a3 a6 r13.1 (a6 + 1) r15) else (rec a1 a2 a3 a4 a5 (a6 + 1) r15)))))))))
def f_X12_greedy_L31 (N : Nat) : Nat → Int32 → Int32 → Int32 → Int32 → Int32 → Int32 → Sg → Option (Int32 × Int32 × Int32 × Int32 × Sg)
  | 0 => fun _ _ _ _ _ _ _ => none
  | k + 1 => fun a1 a2 a3 a4 a5 a6 σ => f_X12_greedy_B31 N (f_X12_greedy_L31 N k) a1 a2 a3 a4 a5 a6 σ
def f_X12_greedy_B14 (N : Nat) (rec : Int32 → Int32 → Int32 → Sg → Option (Int32 × Sg)) (a1 a2 a3 : Int32) (σ : Sg) : Option (Int32 × Sg) :=
  if (σ 73 13) ≤ a3 then (some (a1, σ)) else ((f_X12_greedy_L31 N N a1 a2 a3 (-1) 0 0 σ).bind (fun s19 => ga s19.2.2.2.1 5 ((f_X12_posts N (s19.2.2.2.2 80 (Int32.toNatClampNeg s19.2.2.2.1)) s19.2.2.2.2).bind (fun r21 => nm (s19.2.1 ||| ((1 : Int32) <<< (s19.2.2.2.1 &&& 31))) (fun v23 => rec s19.1 v23 (s19.2.2.1 + 1) r21.2)))))
def f_X12_greedy_L14 (N : Nat) : Nat → Int32 → Int32 → Int32 → Sg → Option (Int32 × Sg)
  | 0 => fun _ _ _ _ => none
  | k + 1 => fun a1 a2 a3 σ => f_X12_greedy_B14 N (f_X12_greedy_L14 N k) a1 a2 a3 σ
def f_X12_greedy (N : Nat) (σ : Sg) : Option (Int32 × Sg) :=
  (f_X12_sumOf N σ).bind (fun r1 => (f_X12_keeps N 1 r1.2).bind (fun r3 => (f_X12_greedy_L14 N N r1.1 0 0 r3).bind (fun s26 => (f_X12_sumOf N s26.2).bind (fun r27 => (f_X12_putsBack N 1 r27.2).bind (fun r29 => some ((s26.1 - r27.1), r29))))))
set_option maxHeartbeats 4000000 in
set_option maxRecDepth 20000 in
theorem m_X12_greedy (l : Launch) (E : Ev) (N : Nat) (σ : Sg) (R : Int32 × Sg) (hf : f_X12_greedy N σ = some R) : Ct l E YX12_greedy [.ref (E.2.1 73)] σ (some (.int R.1), R.2) := by
  refine ct_of (by decide +kernel) (Nat.le_of_ble_eq_true rfl) [(0, .ref (E.2.1 73))] rfl (fun X hX C => ?_)
  have hL31 : ∀ (k : Nat) (a1 a2 a3 a4 a5 a6 : Int32) (σ : Sg) (Q31 : Int32 × Int32 × Int32 × Int32 × Sg), f_X12_greedy_L31 N k a1 a2 a3 a4 a5 a6 σ = some Q31 → (Zz E X YX12_greedy (some (.int R.1), R.2) Q31.2.2.2.2 110 [(0, .ref (E.2.1 73)), (1, .int Q31.1), (2, .int Q31.2.1), (3, .int Q31.2.2.1), (4, .int Q31.2.2.2.1)] []) → Zz E X YX12_greedy (some (.int R.1), R.2) σ 31 [(0, .ref (E.2.1 73)), (1, .int a1), (2, .int a2), (3, .int a3), (4, .int a4), (5, .int a5), (6, .int a6)] [] := by
    intro k
    induction k with
    | zero =>
      intro a1 a2 a3 a4 a5 a6 σ Q31 hf
      have hf : (none : Option (Int32 × Int32 × Int32 × Int32 × Sg)) = some Q31 := hf
      cases hf
    | succ k ih =>
      intro a1 a2 a3 a4 a5 a6 σ Q31 hf hx31
      have hf : f_X12_greedy_B31 N (f_X12_greedy_L31 N k) a1 a2 a3 a4 a5 a6 σ = some Q31 := hf
      unfold f_X12_greedy_B31 at hf
      refine z_iload C dX12_greedy_31 6 rfl ?_
      refine z_aload_n C dX12_greedy_33 0 rfl ?_
      refine z_get (v := .int (σ 73 13)) (T := TX12) (N := 39) (ci := 11) C (by decide) wc_mo rfl in_X12 13 (by decide) t_858 rfl dX12_greedy_34 ?_
      refine z_icmp_ge (tgt := 110) C dX12_greedy_37 (by decide) (fun h6 => ?_) (fun h6 => ?_)
      · replace hf := ifp hf h6
        refine z_sub [(0, .ref (E.2.1 73)), (1, .int a1), (2, .int a2), (3, .int a3), (4, .int a4)] [0, 1, 2, 3, 4] rfl ?_
        obtain rfl := Option.some.inj hf
        exact hx31
      · replace hf := ifn hf h6
        refine z_iload_n C dX12_greedy_40 2 rfl ?_
        refine z_iload C dX12_greedy_41 6 rfl ?_
        refine z_ishr C dX12_greedy_43 ?_
        refine z_iconst (v := 1) C dX12_greedy_44 (by decide) ?_
        refine z_iand C dX12_greedy_45 ?_
        refine z_iconst (v := 1) C dX12_greedy_46 (by decide) ?_
        refine z_icmp_ne (tgt := 53) C dX12_greedy_47 (by decide) (fun h7 => ?_) (fun h7 => ?_)
        · replace hf := ifn hf h7
          refine z_aload_n C dX12_greedy_53 0 rfl ?_
          refine z_iconst (v := 0) C dX12_greedy_54 (by decide) ?_
          obtain ⟨r8, h9, hf⟩ := bd_some hf
          refine z_callV (Y2 := YX12_keeps) (CC := RX12) (T := TX12) (N := 39) (ci := 11) (As := [.int 0]) C lk_X12_keeps (by decide) wc_mo rfl t_1140 t_1142 p_51 (Nat.le_of_ble_eq_true rfl) (Nat.le_of_ble_eq_true rfl) dX12_greedy_55 (Nat.le_of_ble_eq_true rfl) rfl rfl (m_X12_keeps X.2.1 E N 0 σ _ h9) ?_
          change Zz E X YX12_greedy (some (.int R.1), R.2) r8 _ _ []
          refine z_aload_n C dX12_greedy_58 0 rfl ?_
          refine z_aload_n C dX12_greedy_59 0 rfl ?_
          refine z_get (v := .ref (E.2.1 80)) (T := TX12) (N := 39) (ci := 11) C (by decide) wc_mo rfl in_X12 6 (by decide) t_851 rfl dX12_greedy_60 ?_
          refine z_iload C dX12_greedy_63 6 rfl ?_
          obtain ⟨h10, hf⟩ := ga_some hf
          refine z_iald C ka_80 h10 dX12_greedy_65 ?_
          obtain ⟨r11, h12, hf⟩ := bd_some hf
          refine z_callV (Y2 := YX12_posts) (CC := RX12) (T := TX12) (N := 39) (ci := 11) (As := [.int (r8 80 (Int32.toNatClampNeg a6))]) C lk_X12_posts (by decide) wc_mo rfl t_1078 t_1080 p_43 (Nat.le_of_ble_eq_true rfl) (Nat.le_of_ble_eq_true rfl) dX12_greedy_66 (Nat.le_of_ble_eq_true rfl) rfl rfl (m_X12_posts X.2.1 E N (r8 80 (Int32.toNatClampNeg a6)) r8 _ h12) ?_
          change Zz E X YX12_greedy (some (.int R.1), R.2) r11.2 _ _ [.int r11.1]
          refine z_pop C dX12_greedy_69 rfl ?_
          refine z_aload_n C dX12_greedy_70 0 rfl ?_
          obtain ⟨r13, h14, hf⟩ := bd_some hf
          refine z_callV (Y2 := YX12_sumOf) (CC := RX12) (T := TX12) (N := 39) (ci := 11) (As := []) C lk_X12_sumOf (by decide) wc_mo rfl t_1094 t_1096 p_46 (Nat.le_of_ble_eq_true rfl) (Nat.le_of_ble_eq_true rfl) dX12_greedy_71 (Nat.le_of_ble_eq_true rfl) rfl rfl (m_X12_sumOf X.2.1 E N r11.2 _ h14) ?_
          change Zz E X YX12_greedy (some (.int R.1), R.2) r13.2 _ _ [.int r13.1]
          refine z_istore (lv' := [(7, .int r13.1), (0, .ref (E.2.1 73)), (1, .int a1), (2, .int a2), (3, .int a3), (4, .int a4), (5, .int a5), (6, .int a6)]) C dX12_greedy_74 (by decide) rfl ?_
          refine z_aload_n C dX12_greedy_76 1 rfl ?_
          refine z_iconst (v := 0) C dX12_greedy_77 (by decide) ?_
          obtain ⟨r15, h16, hf⟩ := bd_some hf
          refine z_callV (Y2 := YX12_putsBack) (CC := RX12) (T := TX12) (N := 39) (ci := 11) (As := [.int 0]) C lk_X12_putsBack (by decide) wc_mo rfl t_1148 t_1150 p_53 (Nat.le_of_ble_eq_true rfl) (Nat.le_of_ble_eq_true rfl) dX12_greedy_78 (Nat.le_of_ble_eq_true rfl) rfl rfl (m_X12_putsBack X.2.1 E N 0 r13.2 _ h16) ?_
          change Zz E X YX12_greedy (some (.int R.1), R.2) r15 _ _ []
          refine z_iload C dX12_greedy_81 5 rfl ?_
          refine z_if_lt (tgt := 96) C dX12_greedy_83 (by decide) (fun h17 => ?_) (fun h17 => ?_)
          · replace hf := ifp hf h17
            refine z_iload C dX12_greedy_96 7 rfl ?_
            refine z_istore (lv' := [(4, .int a6), (7, .int r13.1), (0, .ref (E.2.1 73)), (1, .int a1), (2, .int a2), (3, .int a3), (5, .int a5), (6, .int a6)]) C dX12_greedy_98 (by decide) rfl ?_
            refine z_iload C dX12_greedy_100 1 rfl ?_
            refine z_istore (lv' := [(5, .int r13.1), (4, .int a6), (7, .int r13.1), (0, .ref (E.2.1 73)), (1, .int a1), (2, .int a2), (3, .int a3), (6, .int a6)]) C dX12_greedy_102 (by decide) rfl ?_
            refine z_iinc (v := (a6 + 1)) (lv' := [(6, .int (a6 + 1)), (5, .int r13.1), (4, .int a6), (7, .int r13.1), (0, .ref (E.2.1 73)), (1, .int a1), (2, .int a2), (3, .int a3)]) C dX12_greedy_104 7 rfl rfl (by decide) rfl ?_
            refine z_goto (tgt := 31) C dX12_greedy_107 (by decide) ?_
            refine z_sub [(0, .ref (E.2.1 73)), (1, .int a1), (2, .int a2), (3, .int a3), (4, .int a6), (5, .int r13.1), (6, .int (a6 + 1))] [4, 5, 6, 7, 2, 1, 0] rfl ?_
            exact ih a1 a2 a3 a6 r13.1 (a6 + 1) r15 _ hf hx31
          · replace hf := ifn hf h17
            refine z_iload C dX12_greedy_86 0 rfl ?_
            refine z_iload C dX12_greedy_88 6 rfl ?_
            refine z_icmp_lt (tgt := 96) C dX12_greedy_90 (by decide) (fun h18 => ?_) (fun h18 => ?_)
            · replace hf := ifp hf h18
              refine z_iload C dX12_greedy_96 7 rfl ?_
              refine z_istore (lv' := [(4, .int a6), (7, .int r13.1), (0, .ref (E.2.1 73)), (1, .int a1), (2, .int a2), (3, .int a3), (5, .int a5), (6, .int a6)]) C dX12_greedy_98 (by decide) rfl ?_
              refine z_iload C dX12_greedy_100 1 rfl ?_
              refine z_istore (lv' := [(5, .int r13.1), (4, .int a6), (7, .int r13.1), (0, .ref (E.2.1 73)), (1, .int a1), (2, .int a2), (3, .int a3), (6, .int a6)]) C dX12_greedy_102 (by decide) rfl ?_
              refine z_iinc (v := (a6 + 1)) (lv' := [(6, .int (a6 + 1)), (5, .int r13.1), (4, .int a6), (7, .int r13.1), (0, .ref (E.2.1 73)), (1, .int a1), (2, .int a2), (3, .int a3)]) C dX12_greedy_104 7 rfl rfl (by decide) rfl ?_
              refine z_goto (tgt := 31) C dX12_greedy_107 (by decide) ?_
              refine z_sub [(0, .ref (E.2.1 73)), (1, .int a1), (2, .int a2), (3, .int a3), (4, .int a6), (5, .int r13.1), (6, .int (a6 + 1))] [4, 5, 6, 7, 2, 1, 0] rfl ?_
              exact ih a1 a2 a3 a6 r13.1 (a6 + 1) r15 _ hf hx31
            · replace hf := ifn hf h18
              refine z_goto (tgt := 104) C dX12_greedy_93 (by decide) ?_
              refine z_iinc (v := (a6 + 1)) (lv' := [(6, .int (a6 + 1)), (7, .int r13.1), (0, .ref (E.2.1 73)), (1, .int a1), (2, .int a2), (3, .int a3), (4, .int a4), (5, .int a5)]) C dX12_greedy_104 7 rfl rfl (by decide) rfl ?_
              refine z_goto (tgt := 31) C dX12_greedy_107 (by decide) ?_
              refine z_sub [(0, .ref (E.2.1 73)), (1, .int a1), (2, .int a2), (3, .int a3), (4, .int a4), (5, .int a5), (6, .int (a6 + 1))] [2, 3, 4, 5, 6, 7, 0] rfl ?_
              exact ih a1 a2 a3 a4 a5 (a6 + 1) r15 _ hf hx31
        · replace hf := ifp hf h7
          refine z_goto (tgt := 104) C dX12_greedy_50 (by decide) ?_
          refine z_iinc (v := (a6 + 1)) (lv' := [(6, .int (a6 + 1)), (0, .ref (E.2.1 73)), (1, .int a1), (2, .int a2), (3, .int a3), (4, .int a4), (5, .int a5)]) C dX12_greedy_104 6 rfl rfl (by decide) rfl ?_
          refine z_goto (tgt := 31) C dX12_greedy_107 (by decide) ?_
          refine z_sub [(0, .ref (E.2.1 73)), (1, .int a1), (2, .int a2), (3, .int a3), (4, .int a4), (5, .int a5), (6, .int (a6 + 1))] [1, 2, 3, 4, 5, 6, 0] rfl ?_
          exact ih a1 a2 a3 a4 a5 (a6 + 1) σ _ hf hx31
  have hL14 : ∀ (k : Nat) (a1 a2 a3 : Int32) (σ : Sg) (Q14 : Int32 × Sg), f_X12_greedy_L14 N k a1 a2 a3 σ = some Q14 → (Zz E X YX12_greedy (some (.int R.1), R.2) Q14.2 135 [(0, .ref (E.2.1 73)), (1, .int Q14.1)] []) → Zz E X YX12_greedy (some (.int R.1), R.2) σ 14 [(0, .ref (E.2.1 73)), (1, .int a1), (2, .int a2), (3, .int a3)] [] := by
    intro k
    induction k with
    | zero =>
      intro a1 a2 a3 σ Q14 hf
      have hf : (none : Option (Int32 × Sg)) = some Q14 := hf
      cases hf
    | succ k ih =>
      intro a1 a2 a3 σ Q14 hf hx14
      have hf : f_X12_greedy_B14 N (f_X12_greedy_L14 N k) a1 a2 a3 σ = some Q14 := hf
      unfold f_X12_greedy_B14 at hf
      refine z_iload_n C dX12_greedy_14 3 rfl ?_
      refine z_aload_n C dX12_greedy_15 0 rfl ?_
      refine z_get (v := .int (σ 73 13)) (T := TX12) (N := 39) (ci := 11) C (by decide) wc_mo rfl in_X12 13 (by decide) t_858 rfl dX12_greedy_16 ?_
      refine z_icmp_ge (tgt := 135) C dX12_greedy_19 (by decide) (fun h5 => ?_) (fun h5 => ?_)
      · replace hf := ifp hf h5
        refine z_sub [(0, .ref (E.2.1 73)), (1, .int a1)] [0, 1] rfl ?_
        obtain rfl := Option.some.inj hf
        exact hx14
      · replace hf := ifn hf h5
        refine z_iconst (v := (-1)) C dX12_greedy_22 (by decide) ?_
        refine z_istore (lv' := [(4, .int (-1)), (0, .ref (E.2.1 73)), (1, .int a1), (2, .int a2), (3, .int a3)]) C dX12_greedy_23 (by decide) rfl ?_
        refine z_iconst (v := 0) C dX12_greedy_25 (by decide) ?_
        refine z_istore (lv' := [(5, .int 0), (4, .int (-1)), (0, .ref (E.2.1 73)), (1, .int a1), (2, .int a2), (3, .int a3)]) C dX12_greedy_26 (by decide) rfl ?_
        refine z_iconst (v := 0) C dX12_greedy_28 (by decide) ?_
        refine z_istore (lv' := [(6, .int 0), (5, .int 0), (4, .int (-1)), (0, .ref (E.2.1 73)), (1, .int a1), (2, .int a2), (3, .int a3)]) C dX12_greedy_29 (by decide) rfl ?_
        refine z_sub [(0, .ref (E.2.1 73)), (1, .int a1), (2, .int a2), (3, .int a3), (4, .int (-1)), (5, .int 0), (6, .int 0)] [3, 4, 5, 6, 2, 1, 0] rfl ?_
        obtain ⟨s19, h25, hf⟩ := bd_some hf
        refine hL31 N a1 a2 a3 (-1) 0 0 σ _ h25 ?_
        refine z_aload_n C dX12_greedy_110 0 rfl ?_
        refine z_aload_n C dX12_greedy_111 0 rfl ?_
        refine z_get (v := .ref (E.2.1 80)) (T := TX12) (N := 39) (ci := 11) C (by decide) wc_mo rfl in_X12 6 (by decide) t_851 rfl dX12_greedy_112 ?_
        refine z_iload C dX12_greedy_115 4 rfl ?_
        obtain ⟨h20, hf⟩ := ga_some hf
        refine z_iald C ka_80 h20 dX12_greedy_117 ?_
        obtain ⟨r21, h22, hf⟩ := bd_some hf
        refine z_callV (Y2 := YX12_posts) (CC := RX12) (T := TX12) (N := 39) (ci := 11) (As := [.int (s19.2.2.2.2 80 (Int32.toNatClampNeg s19.2.2.2.1))]) C lk_X12_posts (by decide) wc_mo rfl t_1078 t_1080 p_43 (Nat.le_of_ble_eq_true rfl) (Nat.le_of_ble_eq_true rfl) dX12_greedy_118 (Nat.le_of_ble_eq_true rfl) rfl rfl (m_X12_posts X.2.1 E N (s19.2.2.2.2 80 (Int32.toNatClampNeg s19.2.2.2.1)) s19.2.2.2.2 _ h22) ?_
        change Zz E X YX12_greedy (some (.int R.1), R.2) r21.2 _ _ [.int r21.1]
        refine z_pop C dX12_greedy_121 rfl ?_
        refine z_iload_n C dX12_greedy_122 2 rfl ?_
        refine z_iconst (v := 1) C dX12_greedy_123 (by decide) ?_
        refine z_iload C dX12_greedy_124 4 rfl ?_
        refine z_ishl C dX12_greedy_126 ?_
        refine z_ior C dX12_greedy_127 ?_
        obtain ⟨v23, h24, hf⟩ := nm_some hf
        rw [← h24]
        refine z_istore_n (lv' := [(2, .int v23), (0, .ref (E.2.1 73)), (1, .int s19.1), (3, .int s19.2.2.1), (4, .int s19.2.2.2.1)]) C dX12_greedy_128 (by decide) rfl ?_
        refine z_iinc (v := (s19.2.2.1 + 1)) (lv' := [(3, .int (s19.2.2.1 + 1)), (2, .int v23), (0, .ref (E.2.1 73)), (1, .int s19.1), (4, .int s19.2.2.2.1)]) C dX12_greedy_129 3 rfl rfl (by decide) rfl ?_
        refine z_goto (tgt := 14) C dX12_greedy_132 (by decide) ?_
        refine z_sub [(0, .ref (E.2.1 73)), (1, .int s19.1), (2, .int v23), (3, .int (s19.2.2.1 + 1))] [2, 3, 1, 0] rfl ?_
        exact ih s19.1 v23 (s19.2.2.1 + 1) r21.2 _ hf hx14
  unfold f_X12_greedy at hf
  refine z_aload_n C dX12_greedy_0 0 rfl ?_
  obtain ⟨r1, h2, hf⟩ := bd_some hf
  refine z_callV (Y2 := YX12_sumOf) (CC := RX12) (T := TX12) (N := 39) (ci := 11) (As := []) C lk_X12_sumOf (by decide) wc_mo rfl t_1094 t_1096 p_46 (Nat.le_of_ble_eq_true rfl) (Nat.le_of_ble_eq_true rfl) dX12_greedy_1 (Nat.le_of_ble_eq_true rfl) rfl rfl (m_X12_sumOf X.2.1 E N σ _ h2) ?_
  change Zz E X YX12_greedy (some (.int R.1), R.2) r1.2 _ _ [.int r1.1]
  refine z_istore_n (lv' := [(1, .int r1.1), (0, .ref (E.2.1 73))]) C dX12_greedy_4 (by decide) rfl ?_
  refine z_aload_n C dX12_greedy_5 1 rfl ?_
  refine z_iconst (v := 1) C dX12_greedy_6 (by decide) ?_
  obtain ⟨r3, h4, hf⟩ := bd_some hf
  refine z_callV (Y2 := YX12_keeps) (CC := RX12) (T := TX12) (N := 39) (ci := 11) (As := [.int 1]) C lk_X12_keeps (by decide) wc_mo rfl t_1140 t_1142 p_51 (Nat.le_of_ble_eq_true rfl) (Nat.le_of_ble_eq_true rfl) dX12_greedy_7 (Nat.le_of_ble_eq_true rfl) rfl rfl (m_X12_keeps X.2.1 E N 1 r1.2 _ h4) ?_
  change Zz E X YX12_greedy (some (.int R.1), R.2) r3 _ _ []
  refine z_iconst (v := 0) C dX12_greedy_10 (by decide) ?_
  refine z_istore_n (lv' := [(2, .int 0), (1, .int r1.1), (0, .ref (E.2.1 73))]) C dX12_greedy_11 (by decide) rfl ?_
  refine z_iconst (v := 0) C dX12_greedy_12 (by decide) ?_
  refine z_istore_n (lv' := [(3, .int 0), (2, .int 0), (1, .int r1.1), (0, .ref (E.2.1 73))]) C dX12_greedy_13 (by decide) rfl ?_
  refine z_sub [(0, .ref (E.2.1 73)), (1, .int r1.1), (2, .int 0), (3, .int 0)] [3, 2, 1, 0] rfl ?_
  obtain ⟨s26, h31, hf⟩ := bd_some hf
  refine hL14 N r1.1 0 0 r3 _ h31 ?_
  refine z_aload_n C dX12_greedy_135 0 rfl ?_
  obtain ⟨r27, h28, hf⟩ := bd_some hf
  refine z_callV (Y2 := YX12_sumOf) (CC := RX12) (T := TX12) (N := 39) (ci := 11) (As := []) C lk_X12_sumOf (by decide) wc_mo rfl t_1094 t_1096 p_46 (Nat.le_of_ble_eq_true rfl) (Nat.le_of_ble_eq_true rfl) dX12_greedy_136 (Nat.le_of_ble_eq_true rfl) rfl rfl (m_X12_sumOf X.2.1 E N s26.2 _ h28) ?_
  change Zz E X YX12_greedy (some (.int R.1), R.2) r27.2 _ _ [.int r27.1]
  refine z_istore_n (lv' := [(3, .int r27.1), (0, .ref (E.2.1 73)), (1, .int s26.1)]) C dX12_greedy_139 (by decide) rfl ?_
  refine z_aload_n C dX12_greedy_140 1 rfl ?_
  refine z_iconst (v := 1) C dX12_greedy_141 (by decide) ?_
  obtain ⟨r29, h30, hf⟩ := bd_some hf
  refine z_callV (Y2 := YX12_putsBack) (CC := RX12) (T := TX12) (N := 39) (ci := 11) (As := [.int 1]) C lk_X12_putsBack (by decide) wc_mo rfl t_1148 t_1150 p_53 (Nat.le_of_ble_eq_true rfl) (Nat.le_of_ble_eq_true rfl) dX12_greedy_142 (Nat.le_of_ble_eq_true rfl) rfl rfl (m_X12_putsBack X.2.1 E N 1 r27.2 _ h30) ?_
  change Zz E X YX12_greedy (some (.int R.1), R.2) r29 _ _ []
  refine z_iload_n C dX12_greedy_145 2 rfl ?_
  refine z_iload_n C dX12_greedy_146 0 rfl ?_
  refine z_isub C dX12_greedy_147 ?_
  exact z_iret C dX12_greedy_148 rfl (by rw [← Option.some.inj hf])
theorem lk_X12_greedy {Y : Yv} : Lk Y YX12_greedy 0 := ⟨t_1179, t_13, ⟨by decide +kernel, by decide +kernel⟩, by decide +kernel⟩
abbrev YX12_bits : Yv := (yX12_bits, cX12_bits, 3, some .int, 0, 0)
def f_X12_bits_B4 (N : Nat) (rec : Int32 → Int32 → Int32 → Sg → Option (Int32 × Sg)) (a0 a1 a2 : Int32) (σ : Sg) : Option (Int32 × Sg) :=
  if 31 ≤ a2 then (some (a1, σ)) else (nm (a1 + ((a0 >>> (a2 &&& 31)) &&& 1)) (fun v2 => rec a0 v2 (a2 + 1) σ))
def f_X12_bits_L4 (N : Nat) : Nat → Int32 → Int32 → Int32 → Sg → Option (Int32 × Sg)
  | 0 => fun _ _ _ _ => none
  | k + 1 => fun a0 a1 a2 σ => f_X12_bits_B4 N (f_X12_bits_L4 N k) a0 a1 a2 σ
def f_X12_bits (N : Nat) (x1 : Int32) (σ : Sg) : Option (Int32 × Sg) :=
  (f_X12_bits_L4 N N x1 0 0 σ).bind (fun s4 => some (s4.1, s4.2))
set_option maxHeartbeats 4000000 in
set_option maxRecDepth 20000 in
theorem m_X12_bits (l : Launch) (E : Ev) (N : Nat) (x1 : Int32) (σ : Sg) (R : Int32 × Sg) (hf : f_X12_bits N x1 σ = some R) : Ct l E YX12_bits [.int x1] σ (some (.int R.1), R.2) := by
  refine ct_of (by decide +kernel) (Nat.le_of_ble_eq_true rfl) [(0, .int x1)] rfl (fun X hX C => ?_)
  have hL4 : ∀ (k : Nat) (a0 a1 a2 : Int32) (σ : Sg) (Q4 : Int32 × Sg), f_X12_bits_L4 N k a0 a1 a2 σ = some Q4 → (Zz E X YX12_bits (some (.int R.1), R.2) Q4.2 24 [(1, .int Q4.1)] []) → Zz E X YX12_bits (some (.int R.1), R.2) σ 4 [(0, .int a0), (1, .int a1), (2, .int a2)] [] := by
    intro k
    induction k with
    | zero =>
      intro a0 a1 a2 σ Q4 hf
      have hf : (none : Option (Int32 × Sg)) = some Q4 := hf
      cases hf
    | succ k ih =>
      intro a0 a1 a2 σ Q4 hf hx4
      have hf : f_X12_bits_B4 N (f_X12_bits_L4 N k) a0 a1 a2 σ = some Q4 := hf
      unfold f_X12_bits_B4 at hf
      refine z_iload_n C dX12_bits_4 2 rfl ?_
      refine z_bipush (v := 31) C dX12_bits_5 (by decide) ?_
      refine z_icmp_ge (tgt := 24) C dX12_bits_7 (by decide) (fun h1 => ?_) (fun h1 => ?_)
      · replace hf := ifp hf h1
        refine z_sub [(1, .int a1)] [1] rfl ?_
        obtain rfl := Option.some.inj hf
        exact hx4
      · replace hf := ifn hf h1
        refine z_iload_n C dX12_bits_10 1 rfl ?_
        refine z_iload_n C dX12_bits_11 0 rfl ?_
        refine z_iload_n C dX12_bits_12 2 rfl ?_
        refine z_ishr C dX12_bits_13 ?_
        refine z_iconst (v := 1) C dX12_bits_14 (by decide) ?_
        refine z_iand C dX12_bits_15 ?_
        refine z_iadd C dX12_bits_16 ?_
        obtain ⟨v2, h3, hf⟩ := nm_some hf
        rw [← h3]
        refine z_istore_n (lv' := [(1, .int v2), (0, .int a0), (2, .int a2)]) C dX12_bits_17 (by decide) rfl ?_
        refine z_iinc (v := (a2 + 1)) (lv' := [(2, .int (a2 + 1)), (1, .int v2), (0, .int a0)]) C dX12_bits_18 2 rfl rfl (by decide) rfl ?_
        refine z_goto (tgt := 4) C dX12_bits_21 (by decide) ?_
        refine z_sub [(0, .int a0), (1, .int v2), (2, .int (a2 + 1))] [2, 1, 0] rfl ?_
        exact ih a0 v2 (a2 + 1) σ _ hf hx4
  unfold f_X12_bits at hf
  refine z_iconst (v := 0) C dX12_bits_0 (by decide) ?_
  refine z_istore_n (lv' := [(1, .int 0), (0, .int x1)]) C dX12_bits_1 (by decide) rfl ?_
  refine z_iconst (v := 0) C dX12_bits_2 (by decide) ?_
  refine z_istore_n (lv' := [(2, .int 0), (1, .int 0), (0, .int x1)]) C dX12_bits_3 (by decide) rfl ?_
  refine z_sub [(0, .int x1), (1, .int 0), (2, .int 0)] [2, 1, 0] rfl ?_
  obtain ⟨s4, h5, hf⟩ := bd_some hf
  refine hL4 N x1 0 0 σ _ h5 ?_
  refine z_iload_n C dX12_bits_24 0 rfl ?_
  exact z_iret C dX12_bits_25 rfl (by rw [← Option.some.inj hf])
theorem lk_X12_bits {Y : Yv} : Lk Y YX12_bits 1 := ⟨t_1186, t_13, ⟨by decide +kernel, by decide +kernel⟩, by decide +kernel⟩
abbrev YX12_forty : Yv := (yX12_forty, cX12_forty, 7, some .int, 5, 121)
def f_X12_forty_B56 (N : Nat) (rec : Int32 → Int32 → Int32 → Int32 → Int32 → Sg → Option (Int32 × Sg)) (a1 a2 a4 a5 a6 : Int32) (σ : Sg) : Option (Int32 × Sg) :=
  if 40 < a6 then (some (a5, σ)) else (if 0 ≤ a5 then (some (a5, σ)) else ((f_X12_posts N a1 σ).bind (fun r12 => (f_X12_bits N (a4 ||| (r12.2 73 33)) r12.2).bind (fun r14 => if r14.1 < a2 then (rec a1 a2 (a4 ||| (r12.2 73 33)) a5 (a6 + 1) r14.2) else (rec a1 a2 (a4 ||| (r12.2 73 33)) a6 (a6 + 1) r14.2)))))
def f_X12_forty_L56 (N : Nat) : Nat → Int32 → Int32 → Int32 → Int32 → Int32 → Sg → Option (Int32 × Sg)
  | 0 => fun _ _ _ _ _ _ => none
  | k + 1 => fun a1 a2 a4 a5 a6 σ => f_X12_forty_B56 N (f_X12_forty_L56 N k) a1 a2 a4 a5 a6 σ
def f_X12_forty_J51 (N : Nat) (a1 a2 a4 b0 : Int32) (σ : Sg) : Option (Int32 × Sg) :=
  (f_X12_forty_L56 N N a1 a2 a4 b0 1 σ).bind (fun s17 => (f_X12_putsBack N 0 s17.2).bind (fun r18 => some (s17.1, r18)))
def f_X12_forty (N : Nat) (x1 x2 : Int32) (σ : Sg) : Option (Int32 × Sg) :=
  (f_X12_isLetter N x1 σ).bind (fun r1 => if r1.1 = 0 then ((f_X12_no N (-1) r1.2).bind (fun r23 => some (r23.1, r23.2))) else ((f_X12_bound N x2 0 (r1.2 73 9) r1.2).bind (fun r4 => if r4.1 = 0 then ((f_X12_keeps N 0 r4.2).bind (fun r7 => if x2 = 0 then (f_X12_forty_J51 N x1 x2 0 0 r7) else (f_X12_forty_J51 N x1 x2 0 (-9) r7))) else ((f_X12_no N r4.1 r4.2).bind (fun r21 => some (r21.1, r21.2))))))
set_option maxHeartbeats 4000000 in
set_option maxRecDepth 20000 in
theorem m_X12_forty (l : Launch) (E : Ev) (N : Nat) (x1 x2 : Int32) (σ : Sg) (R : Int32 × Sg) (hf : f_X12_forty N x1 x2 σ = some R) : Ct l E YX12_forty [.ref (E.2.1 73), .int x1, .int x2] σ (some (.int R.1), R.2) := by
  refine ct_of (by decide +kernel) (Nat.le_of_ble_eq_true rfl) [(0, .ref (E.2.1 73)), (1, .int x1), (2, .int x2)] rfl (fun X hX C => ?_)
  have hL56 : ∀ (k : Nat) (a1 a2 a4 a5 a6 : Int32) (σ : Sg) (Q56 : Int32 × Sg), f_X12_forty_L56 N k a1 a2 a4 a5 a6 σ = some Q56 → (Zz E X YX12_forty (some (.int R.1), R.2) Q56.2 102 [(0, .ref (E.2.1 73)), (5, .int Q56.1)] []) → Zz E X YX12_forty (some (.int R.1), R.2) σ 56 [(0, .ref (E.2.1 73)), (1, .int a1), (2, .int a2), (4, .int a4), (5, .int a5), (6, .int a6)] [] := by
    intro k
    induction k with
    | zero =>
      intro a1 a2 a4 a5 a6 σ Q56 hf
      have hf : (none : Option (Int32 × Sg)) = some Q56 := hf
      cases hf
    | succ k ih =>
      intro a1 a2 a4 a5 a6 σ Q56 hf hx56
      have hf : f_X12_forty_B56 N (f_X12_forty_L56 N k) a1 a2 a4 a5 a6 σ = some Q56 := hf
      unfold f_X12_forty_B56 at hf
      refine z_iload C dX12_forty_56 5 rfl ?_
      refine z_bipush (v := 40) C dX12_forty_58 (by decide) ?_
      refine z_icmp_gt (tgt := 102) C dX12_forty_60 (by decide) (fun h10 => ?_) (fun h10 => ?_)
      · replace hf := ifp hf h10
        refine z_sub [(0, .ref (E.2.1 73)), (5, .int a5)] [0, 4] rfl ?_
        obtain rfl := Option.some.inj hf
        exact hx56
      · replace hf := ifn hf h10
        refine z_iload C dX12_forty_63 4 rfl ?_
        refine z_if_ge (tgt := 102) C dX12_forty_65 (by decide) (fun h11 => ?_) (fun h11 => ?_)
        · replace hf := ifp hf h11
          refine z_sub [(0, .ref (E.2.1 73)), (5, .int a5)] [0, 4] rfl ?_
          obtain rfl := Option.some.inj hf
          exact hx56
        · replace hf := ifn hf h11
          refine z_aload_n C dX12_forty_68 0 rfl ?_
          refine z_iload_n C dX12_forty_69 1 rfl ?_
          obtain ⟨r12, h13, hf⟩ := bd_some hf
          refine z_callV (Y2 := YX12_posts) (CC := RX12) (T := TX12) (N := 39) (ci := 11) (As := [.int a1]) C lk_X12_posts (by decide) wc_mo rfl t_1078 t_1080 p_43 (Nat.le_of_ble_eq_true rfl) (Nat.le_of_ble_eq_true rfl) dX12_forty_70 (Nat.le_of_ble_eq_true rfl) rfl rfl (m_X12_posts X.2.1 E N a1 σ _ h13) ?_
          change Zz E X YX12_forty (some (.int R.1), R.2) r12.2 _ _ [.int r12.1]
          refine z_pop C dX12_forty_73 rfl ?_
          refine z_iload C dX12_forty_74 3 rfl ?_
          refine z_aload_n C dX12_forty_76 0 rfl ?_
          refine z_get (v := .int (r12.2 73 33)) (T := TX12) (N := 39) (ci := 11) C (by decide) wc_mo rfl in_X12 33 (by decide) t_878 rfl dX12_forty_77 ?_
          refine z_ior C dX12_forty_80 ?_
          refine z_istore (lv' := [(4, .int (a4 ||| (r12.2 73 33))), (0, .ref (E.2.1 73)), (1, .int a1), (2, .int a2), (5, .int a5), (6, .int a6)]) C dX12_forty_81 (by decide) rfl ?_
          refine z_iload C dX12_forty_83 0 rfl ?_
          obtain ⟨r14, h15, hf⟩ := bd_some hf
          refine z_callS (Y2 := YX12_bits) (As := [.int (a4 ||| (r12.2 73 33))]) C lk_X12_bits t_1184 t_1185 (Nat.le_of_ble_eq_true rfl) (Nat.le_of_ble_eq_true rfl) dX12_forty_85 (Nat.le_of_ble_eq_true rfl) rfl rfl (m_X12_bits X.2.1 E N (a4 ||| (r12.2 73 33)) r12.2 _ h15) ?_
          change Zz E X YX12_forty (some (.int R.1), R.2) r14.2 _ _ [.int r14.1]
          refine z_iload_n C dX12_forty_88 3 rfl ?_
          refine z_icmp_lt (tgt := 96) C dX12_forty_89 (by decide) (fun h16 => ?_) (fun h16 => ?_)
          · replace hf := ifp hf h16
            refine z_iinc (v := (a6 + 1)) (lv' := [(6, .int (a6 + 1)), (4, .int (a4 ||| (r12.2 73 33))), (0, .ref (E.2.1 73)), (1, .int a1), (2, .int a2), (5, .int a5)]) C dX12_forty_96 5 rfl rfl (by decide) rfl ?_
            refine z_goto (tgt := 56) C dX12_forty_99 (by decide) ?_
            refine z_sub [(0, .ref (E.2.1 73)), (1, .int a1), (2, .int a2), (4, .int (a4 ||| (r12.2 73 33))), (5, .int a5), (6, .int (a6 + 1))] [2, 3, 4, 1, 5, 0] rfl ?_
            exact ih a1 a2 (a4 ||| (r12.2 73 33)) a5 (a6 + 1) r14.2 _ hf hx56
          · replace hf := ifn hf h16
            refine z_iload C dX12_forty_92 5 rfl ?_
            refine z_istore (lv' := [(5, .int a6), (4, .int (a4 ||| (r12.2 73 33))), (0, .ref (E.2.1 73)), (1, .int a1), (2, .int a2), (6, .int a6)]) C dX12_forty_94 (by decide) rfl ?_
            refine z_iinc (v := (a6 + 1)) (lv' := [(6, .int (a6 + 1)), (5, .int a6), (4, .int (a4 ||| (r12.2 73 33))), (0, .ref (E.2.1 73)), (1, .int a1), (2, .int a2)]) C dX12_forty_96 5 rfl rfl (by decide) rfl ?_
            refine z_goto (tgt := 56) C dX12_forty_99 (by decide) ?_
            refine z_sub [(0, .ref (E.2.1 73)), (1, .int a1), (2, .int a2), (4, .int (a4 ||| (r12.2 73 33))), (5, .int a6), (6, .int (a6 + 1))] [3, 4, 5, 2, 1, 0] rfl ?_
            exact ih a1 a2 (a4 ||| (r12.2 73 33)) a6 (a6 + 1) r14.2 _ hf hx56
  have hJ51 : ∀ (a1 a2 a4 b0 : Int32) (σ : Sg), f_X12_forty_J51 N a1 a2 a4 b0 σ = some R → Zz E X YX12_forty (some (.int R.1), R.2) σ 51 [(0, .ref (E.2.1 73)), (1, .int a1), (2, .int a2), (4, .int a4)] [.int b0] := by
    intro a1 a2 a4 b0 σ hf
    unfold f_X12_forty_J51 at hf
    refine z_istore (lv' := [(5, .int b0), (0, .ref (E.2.1 73)), (1, .int a1), (2, .int a2), (4, .int a4)]) C dX12_forty_51 (by decide) rfl ?_
    refine z_iconst (v := 1) C dX12_forty_53 (by decide) ?_
    refine z_istore (lv' := [(6, .int 1), (5, .int b0), (0, .ref (E.2.1 73)), (1, .int a1), (2, .int a2), (4, .int a4)]) C dX12_forty_54 (by decide) rfl ?_
    refine z_sub [(0, .ref (E.2.1 73)), (1, .int a1), (2, .int a2), (4, .int a4), (5, .int b0), (6, .int 1)] [2, 3, 4, 5, 1, 0] rfl ?_
    obtain ⟨s17, h20, hf⟩ := bd_some hf
    refine hL56 N a1 a2 a4 b0 1 σ _ h20 ?_
    refine z_aload_n C dX12_forty_102 0 rfl ?_
    refine z_iconst (v := 0) C dX12_forty_103 (by decide) ?_
    obtain ⟨r18, h19, hf⟩ := bd_some hf
    refine z_callV (Y2 := YX12_putsBack) (CC := RX12) (T := TX12) (N := 39) (ci := 11) (As := [.int 0]) C lk_X12_putsBack (by decide) wc_mo rfl t_1148 t_1150 p_53 (Nat.le_of_ble_eq_true rfl) (Nat.le_of_ble_eq_true rfl) dX12_forty_104 (Nat.le_of_ble_eq_true rfl) rfl rfl (m_X12_putsBack X.2.1 E N 0 s17.2 _ h19) ?_
    change Zz E X YX12_forty (some (.int R.1), R.2) r18 _ _ []
    refine z_iload C dX12_forty_107 1 rfl ?_
    exact z_iret C dX12_forty_109 rfl (by rw [← Option.some.inj hf])
  unfold f_X12_forty at hf
  refine z_iload_n C dX12_forty_0 1 rfl ?_
  obtain ⟨r1, h2, hf⟩ := bd_some hf
  refine z_callS (Y2 := YX12_isLetter) (As := [.int x1]) C lk_X12_isLetter t_1052 t_1053 (Nat.le_of_ble_eq_true rfl) (Nat.le_of_ble_eq_true rfl) dX12_forty_1 (Nat.le_of_ble_eq_true rfl) rfl rfl (m_X12_isLetter X.2.1 E N x1 σ _ h2) ?_
  change Zz E X YX12_forty (some (.int R.1), R.2) r1.2 _ _ [.int r1.1]
  refine z_if_ne (tgt := 13) C dX12_forty_4 (by decide) (fun h3 => ?_) (fun h3 => ?_)
  · replace hf := ifn hf h3
    refine z_iload_n C dX12_forty_13 2 rfl ?_
    refine z_iconst (v := 0) C dX12_forty_14 (by decide) ?_
    refine z_aload_n C dX12_forty_15 0 rfl ?_
    refine z_get (v := .int (r1.2 73 9)) (T := TX12) (N := 39) (ci := 11) C (by decide) wc_mo rfl in_X12 9 (by decide) t_854 rfl dX12_forty_16 ?_
    obtain ⟨r4, h5, hf⟩ := bd_some hf
    refine z_callS (Y2 := YX12_bound) (As := [.int x2, .int 0, .int (r1.2 73 9)]) C lk_X12_bound t_967 t_968 (Nat.le_of_ble_eq_true rfl) (Nat.le_of_ble_eq_true rfl) dX12_forty_19 (Nat.le_of_ble_eq_true rfl) rfl rfl (m_X12_bound X.2.1 E N x2 0 (r1.2 73 9) r1.2 _ h5) ?_
    change Zz E X YX12_forty (some (.int R.1), R.2) r4.2 _ _ [.int r4.1]
    refine z_istore_n (lv' := [(3, .int r4.1), (0, .ref (E.2.1 73)), (1, .int x1), (2, .int x2)]) C dX12_forty_22 (by decide) rfl ?_
    refine z_iload_n C dX12_forty_23 0 rfl ?_
    refine z_if_eq (tgt := 33) C dX12_forty_24 (by decide) (fun h6 => ?_) (fun h6 => ?_)
    · replace hf := ifp hf h6
      refine z_aload_n C dX12_forty_33 1 rfl ?_
      refine z_iconst (v := 0) C dX12_forty_34 (by decide) ?_
      obtain ⟨r7, h8, hf⟩ := bd_some hf
      refine z_callV (Y2 := YX12_keeps) (CC := RX12) (T := TX12) (N := 39) (ci := 11) (As := [.int 0]) C lk_X12_keeps (by decide) wc_mo rfl t_1140 t_1142 p_51 (Nat.le_of_ble_eq_true rfl) (Nat.le_of_ble_eq_true rfl) dX12_forty_35 (Nat.le_of_ble_eq_true rfl) rfl rfl (m_X12_keeps X.2.1 E N 0 r4.2 _ h8) ?_
      change Zz E X YX12_forty (some (.int R.1), R.2) r7 _ _ []
      refine z_iconst (v := 0) C dX12_forty_38 (by decide) ?_
      refine z_istore (lv' := [(4, .int 0), (3, .int r4.1), (0, .ref (E.2.1 73)), (1, .int x1), (2, .int x2)]) C dX12_forty_39 (by decide) rfl ?_
      refine z_iload_n C dX12_forty_41 4 rfl ?_
      refine z_if_ne (tgt := 49) C dX12_forty_42 (by decide) (fun h9 => ?_) (fun h9 => ?_)
      · replace hf := ifn hf h9
        refine z_bipush (v := (-9)) C dX12_forty_49 (by decide) ?_
        refine z_sub [(0, .ref (E.2.1 73)), (1, .int x1), (2, .int x2), (4, .int 0)] [2, 3, 4, 0] rfl ?_
        exact hJ51 x1 x2 0 (-9) r7 hf
      · replace hf := ifp hf h9
        refine z_iconst (v := 0) C dX12_forty_45 (by decide) ?_
        refine z_goto (tgt := 51) C dX12_forty_46 (by decide) ?_
        refine z_sub [(0, .ref (E.2.1 73)), (1, .int x1), (2, .int x2), (4, .int 0)] [2, 3, 4, 0] rfl ?_
        exact hJ51 x1 x2 0 0 r7 hf
    · replace hf := ifn hf h6
      refine z_aload_n C dX12_forty_27 1 rfl ?_
      refine z_iload_n C dX12_forty_28 0 rfl ?_
      obtain ⟨r21, h22, hf⟩ := bd_some hf
      refine z_callV (Y2 := YX12_no) (CC := RX12) (T := TX12) (N := 39) (ci := 11) (As := [.int r4.1]) C lk_X12_no (by decide) wc_mo rfl t_970 t_972 p_27 (Nat.le_of_ble_eq_true rfl) (Nat.le_of_ble_eq_true rfl) dX12_forty_29 (Nat.le_of_ble_eq_true rfl) rfl rfl (m_X12_no X.2.1 E N r4.1 r4.2 _ h22) ?_
      change Zz E X YX12_forty (some (.int R.1), R.2) r21.2 _ _ [.int r21.1]
      exact z_iret C dX12_forty_32 rfl (by rw [← Option.some.inj hf])
  · replace hf := ifp hf h3
    refine z_aload_n C dX12_forty_7 0 rfl ?_
    refine z_iconst (v := (-1)) C dX12_forty_8 (by decide) ?_
    obtain ⟨r23, h24, hf⟩ := bd_some hf
    refine z_callV (Y2 := YX12_no) (CC := RX12) (T := TX12) (N := 39) (ci := 11) (As := [.int (-1)]) C lk_X12_no (by decide) wc_mo rfl t_970 t_972 p_27 (Nat.le_of_ble_eq_true rfl) (Nat.le_of_ble_eq_true rfl) dX12_forty_9 (Nat.le_of_ble_eq_true rfl) rfl rfl (m_X12_no X.2.1 E N (-1) r1.2 _ h24) ?_
    change Zz E X YX12_forty (some (.int R.1), R.2) r23.2 _ _ [.int r23.1]
    exact z_iret C dX12_forty_12 rfl (by rw [← Option.some.inj hf])
theorem lk_X12_forty {Y : Yv} : Lk Y YX12_forty 2 := ⟨t_1183, t_13, ⟨by decide +kernel, by decide +kernel⟩, by decide +kernel⟩
abbrev YX12_going : Yv := (yX12_going, cX12_going, 3, some .int, 2, 44)
def f_X12_going_J20 (N : Nat) (σ : Sg) : Option (Int32 × Sg) :=
  (f_X12_no N (-1) σ).bind (fun r4 => some (r4.1, r4.2))
def f_X12_going_J71 (N : Nat) (b0 b1 : Int32) (σ : Sg) : Option (Int32 × Sg) :=
  ga b1 6 (nm (sgs σ 82 (Int32.toNatClampNeg b1) b0) (fun σ13 => nm (sgs σ13 73 14 ((σ13 73 14) + 1)) (fun σ15 => some ((σ15 73 14), σ15))))
def f_X12_going_J26 (N : Nat) (a1 a2 : Int32) (σ : Sg) : Option (Int32 × Sg) :=
  if (σ 73 14) = 6 then ((f_X12_no N (-6) σ).bind (fun r17 => some (r17.1, r17.2))) else (ga (σ 73 14) 6 (nm (sgs σ 81 (Int32.toNatClampNeg (σ 73 14)) a1) (fun σ9 => if a2 = (-1) then (f_X12_going_J71 N (-9) (σ9 73 14) σ9) else (f_X12_going_J71 N a2 (σ9 73 14) σ9))))
def f_X12_going (N : Nat) (x1 x2 : Int32) (σ : Sg) : Option (Int32 × Sg) :=
  (f_X12_isLetter N x1 σ).bind (fun r1 => if r1.1 = 0 then (f_X12_going_J20 N r1.2) else (if x2 = (-1) then (f_X12_going_J26 N x1 x2 r1.2) else ((f_X12_isPerson N x2 r1.2).bind (fun r19 => if r19.1 = 0 then (f_X12_going_J20 N r19.2) else (f_X12_going_J26 N x1 x2 r19.2)))))
set_option maxHeartbeats 4000000 in
set_option maxRecDepth 20000 in
theorem m_X12_going (l : Launch) (E : Ev) (N : Nat) (x1 x2 : Int32) (σ : Sg) (R : Int32 × Sg) (hf : f_X12_going N x1 x2 σ = some R) : Ct l E YX12_going [.ref (E.2.1 73), .int x1, .int x2] σ (some (.int R.1), R.2) := by
  refine ct_of (by decide +kernel) (Nat.le_of_ble_eq_true rfl) [(0, .ref (E.2.1 73)), (1, .int x1), (2, .int x2)] rfl (fun X hX C => ?_)
  have hJ20 : ∀ (σ : Sg), f_X12_going_J20 N σ = some R → Zz E X YX12_going (some (.int R.1), R.2) σ 20 [(0, .ref (E.2.1 73))] [] := by
    intro σ hf
    unfold f_X12_going_J20 at hf
    refine z_aload_n C dX12_going_20 0 rfl ?_
    refine z_iconst (v := (-1)) C dX12_going_21 (by decide) ?_
    obtain ⟨r4, h5, hf⟩ := bd_some hf
    refine z_callV (Y2 := YX12_no) (CC := RX12) (T := TX12) (N := 39) (ci := 11) (As := [.int (-1)]) C lk_X12_no (by decide) wc_mo rfl t_970 t_972 p_27 (Nat.le_of_ble_eq_true rfl) (Nat.le_of_ble_eq_true rfl) dX12_going_22 (Nat.le_of_ble_eq_true rfl) rfl rfl (m_X12_no X.2.1 E N (-1) σ _ h5) ?_
    change Zz E X YX12_going (some (.int R.1), R.2) r4.2 _ _ [.int r4.1]
    exact z_iret C dX12_going_25 rfl (by rw [← Option.some.inj hf])
  have hJ71 : ∀ (b0 b1 : Int32) (σ : Sg), f_X12_going_J71 N b0 b1 σ = some R → Zz E X YX12_going (some (.int R.1), R.2) σ 71 [(0, .ref (E.2.1 73))] [.int b0, .int b1, .ref (E.2.1 82)] := by
    intro b0 b1 σ hf
    unfold f_X12_going_J71 at hf
    obtain ⟨h12, hf⟩ := ga_some hf
    obtain ⟨σ13, h14, hf⟩ := nm_some hf
    refine z_iast C ka_82 h12 dX12_going_71 ?_
    rw [← h14]
    refine z_aload_n C dX12_going_72 0 rfl ?_
    refine z_dup C dX12_going_73 rfl ?_
    refine z_get (v := .int (σ13 73 14)) (T := TX12) (N := 39) (ci := 11) C (by decide) wc_mo rfl in_X12 14 (by decide) t_859 rfl dX12_going_74 ?_
    refine z_iconst (v := 1) C dX12_going_77 (by decide) ?_
    refine z_iadd C dX12_going_78 ?_
    obtain ⟨σ15, h16, hf⟩ := nm_some hf
    refine z_put (T := TX12) (N := 39) (ci := 11) (ty := .int) C tyX12 tyX12_ok nmX12 (by decide) wc_mo rfl in_X12 14 (by decide) t_859 rfl rfl rfl rfl (Nat.le_of_ble_eq_true rfl) (pw_X12_14) dX12_going_79 ?_
    rw [← h16]
    refine z_aload_n C dX12_going_82 0 rfl ?_
    refine z_get (v := .int (σ15 73 14)) (T := TX12) (N := 39) (ci := 11) C (by decide) wc_mo rfl in_X12 14 (by decide) t_859 rfl dX12_going_83 ?_
    exact z_iret C dX12_going_86 rfl (by rw [← Option.some.inj hf])
  have hJ26 : ∀ (a1 a2 : Int32) (σ : Sg), f_X12_going_J26 N a1 a2 σ = some R → Zz E X YX12_going (some (.int R.1), R.2) σ 26 [(0, .ref (E.2.1 73)), (1, .int a1), (2, .int a2)] [] := by
    intro a1 a2 σ hf
    unfold f_X12_going_J26 at hf
    refine z_aload_n C dX12_going_26 0 rfl ?_
    refine z_get (v := .int (σ 73 14)) (T := TX12) (N := 39) (ci := 11) C (by decide) wc_mo rfl in_X12 14 (by decide) t_859 rfl dX12_going_27 ?_
    refine z_bipush (v := 6) C dX12_going_30 (by decide) ?_
    refine z_icmp_ne (tgt := 42) C dX12_going_32 (by decide) (fun h7 => ?_) (fun h7 => ?_)
    · replace hf := ifn hf h7
      refine z_aload_n C dX12_going_42 0 rfl ?_
      refine z_get (v := .ref (E.2.1 81)) (T := TX12) (N := 39) (ci := 11) C (by decide) wc_mo rfl in_X12 7 (by decide) t_852 rfl dX12_going_43 ?_
      refine z_aload_n C dX12_going_46 0 rfl ?_
      refine z_get (v := .int (σ 73 14)) (T := TX12) (N := 39) (ci := 11) C (by decide) wc_mo rfl in_X12 14 (by decide) t_859 rfl dX12_going_47 ?_
      refine z_iload_n C dX12_going_50 1 rfl ?_
      obtain ⟨h8, hf⟩ := ga_some hf
      obtain ⟨σ9, h10, hf⟩ := nm_some hf
      refine z_iast C ka_81 h8 dX12_going_51 ?_
      rw [← h10]
      refine z_aload_n C dX12_going_52 0 rfl ?_
      refine z_get (v := .ref (E.2.1 82)) (T := TX12) (N := 39) (ci := 11) C (by decide) wc_mo rfl in_X12 8 (by decide) t_853 rfl dX12_going_53 ?_
      refine z_aload_n C dX12_going_56 0 rfl ?_
      refine z_get (v := .int (σ9 73 14)) (T := TX12) (N := 39) (ci := 11) C (by decide) wc_mo rfl in_X12 14 (by decide) t_859 rfl dX12_going_57 ?_
      refine z_iload_n C dX12_going_60 2 rfl ?_
      refine z_iconst (v := (-1)) C dX12_going_61 (by decide) ?_
      refine z_icmp_ne (tgt := 70) C dX12_going_62 (by decide) (fun h11 => ?_) (fun h11 => ?_)
      · replace hf := ifn hf h11
        refine z_iload_n C dX12_going_70 2 rfl ?_
        refine z_sub [(0, .ref (E.2.1 73))] [0] rfl ?_
        exact hJ71 a2 (σ9 73 14) σ9 hf
      · replace hf := ifp hf h11
        refine z_bipush (v := (-9)) C dX12_going_65 (by decide) ?_
        refine z_goto (tgt := 71) C dX12_going_67 (by decide) ?_
        refine z_sub [(0, .ref (E.2.1 73))] [0] rfl ?_
        exact hJ71 (-9) (σ9 73 14) σ9 hf
    · replace hf := ifp hf h7
      refine z_aload_n C dX12_going_35 0 rfl ?_
      refine z_bipush (v := (-6)) C dX12_going_36 (by decide) ?_
      obtain ⟨r17, h18, hf⟩ := bd_some hf
      refine z_callV (Y2 := YX12_no) (CC := RX12) (T := TX12) (N := 39) (ci := 11) (As := [.int (-6)]) C lk_X12_no (by decide) wc_mo rfl t_970 t_972 p_27 (Nat.le_of_ble_eq_true rfl) (Nat.le_of_ble_eq_true rfl) dX12_going_38 (Nat.le_of_ble_eq_true rfl) rfl rfl (m_X12_no X.2.1 E N (-6) σ _ h18) ?_
      change Zz E X YX12_going (some (.int R.1), R.2) r17.2 _ _ [.int r17.1]
      exact z_iret C dX12_going_41 rfl (by rw [← Option.some.inj hf])
  unfold f_X12_going at hf
  refine z_iload_n C dX12_going_0 1 rfl ?_
  obtain ⟨r1, h2, hf⟩ := bd_some hf
  refine z_callS (Y2 := YX12_isLetter) (As := [.int x1]) C lk_X12_isLetter t_1052 t_1053 (Nat.le_of_ble_eq_true rfl) (Nat.le_of_ble_eq_true rfl) dX12_going_1 (Nat.le_of_ble_eq_true rfl) rfl rfl (m_X12_isLetter X.2.1 E N x1 σ _ h2) ?_
  change Zz E X YX12_going (some (.int R.1), R.2) r1.2 _ _ [.int r1.1]
  refine z_if_eq (tgt := 20) C dX12_going_4 (by decide) (fun h3 => ?_) (fun h3 => ?_)
  · replace hf := ifp hf h3
    refine z_sub [(0, .ref (E.2.1 73))] [0] rfl ?_
    exact hJ20 r1.2 hf
  · replace hf := ifn hf h3
    refine z_iload_n C dX12_going_7 2 rfl ?_
    refine z_iconst (v := (-1)) C dX12_going_8 (by decide) ?_
    refine z_icmp_eq (tgt := 26) C dX12_going_9 (by decide) (fun h6 => ?_) (fun h6 => ?_)
    · replace hf := ifp hf h6
      refine z_sub [(0, .ref (E.2.1 73)), (1, .int x1), (2, .int x2)] [0, 1, 2] rfl ?_
      exact hJ26 x1 x2 r1.2 hf
    · replace hf := ifn hf h6
      refine z_aload_n C dX12_going_12 0 rfl ?_
      refine z_iload_n C dX12_going_13 2 rfl ?_
      obtain ⟨r19, h20, hf⟩ := bd_some hf
      refine z_callV (Y2 := YX12_isPerson) (CC := RX12) (T := TX12) (N := 39) (ci := 11) (As := [.int x2]) C lk_X12_isPerson (by decide) wc_mo rfl t_1024 t_1026 p_38 (Nat.le_of_ble_eq_true rfl) (Nat.le_of_ble_eq_true rfl) dX12_going_14 (Nat.le_of_ble_eq_true rfl) rfl rfl (m_X12_isPerson X.2.1 E N x2 r1.2 _ h20) ?_
      change Zz E X YX12_going (some (.int R.1), R.2) r19.2 _ _ [.int r19.1]
      refine z_if_ne (tgt := 26) C dX12_going_17 (by decide) (fun h21 => ?_) (fun h21 => ?_)
      · replace hf := ifn hf h21
        refine z_sub [(0, .ref (E.2.1 73)), (1, .int x1), (2, .int x2)] [0, 1, 2] rfl ?_
        exact hJ26 x1 x2 r19.2 hf
      · replace hf := ifp hf h21
        refine z_sub [(0, .ref (E.2.1 73))] [0] rfl ?_
        exact hJ20 r19.2 hf
theorem lk_X12_going {Y : Yv} : Lk Y YX12_going 2 := ⟨t_1190, t_13, ⟨by decide +kernel, by decide +kernel⟩, by decide +kernel⟩
abbrev YX12_isThought : Yv := (yX12_isThought, cX12_isThought, 2, some .boolean, 4, 98)
def f_X12_isThought_B2 (N : Nat) (rec : Int32 → Sg → Option ((Sg) ⊕ (Int32 × Sg))) (a1 : Int32) (σ : Sg) : Option ((Sg) ⊕ (Int32 × Sg)) :=
  if (σ 73 14) ≤ a1 then (some (.inl σ)) else (ga a1 6 ((f_X12_goesTo N (σ 81 (Int32.toNatClampNeg a1)) σ).bind (fun r3 => ga a1 6 (if r3.1 = (r3.2 82 (Int32.toNatClampNeg a1)) then (rec (a1 + 1) r3.2) else (some (.inr (0, r3.2)))))))
def f_X12_isThought_L2 (N : Nat) : Nat → Int32 → Sg → Option ((Sg) ⊕ (Int32 × Sg))
  | 0 => fun _ _ => none
  | k + 1 => fun a1 σ => f_X12_isThought_B2 N (f_X12_isThought_L2 N k) a1 σ
def f_X12_isThought (N : Nat) (σ : Sg) : Option (Int32 × Sg) :=
  ex1 (f_X12_isThought_L2 N N 0 σ) (fun s7 => some (1, s7)) (fun r8 => some r8)
set_option maxHeartbeats 4000000 in
set_option maxRecDepth 20000 in
theorem m_X12_isThought (l : Launch) (E : Ev) (N : Nat) (σ : Sg) (R : Int32 × Sg) (hf : f_X12_isThought N σ = some R) : Ct l E YX12_isThought [.ref (E.2.1 73)] σ (some (.int R.1), R.2) := by
  refine ct_of (by decide +kernel) (Nat.le_of_ble_eq_true rfl) [(0, .ref (E.2.1 73))] rfl (fun X hX C => ?_)
  have hL2 : ∀ (k : Nat) (a1 : Int32) (σ : Sg) (Q2 : (Sg) ⊕ (Int32 × Sg)), f_X12_isThought_L2 N k a1 σ = some Q2 → (∀ S, Q2 = .inl S → Zz E X YX12_isThought (some (.int R.1), R.2) S 37 [] []) → (∀ r, Q2 = .inr r → ((some (.int R.1), R.2) : Pv) = (some (.int r.1), r.2)) → Zz E X YX12_isThought (some (.int R.1), R.2) σ 2 [(0, .ref (E.2.1 73)), (1, .int a1)] [] := by
    intro k
    induction k with
    | zero =>
      intro a1 σ Q2 hf
      have hf : (none : Option ((Sg) ⊕ (Int32 × Sg))) = some Q2 := hf
      cases hf
    | succ k ih =>
      intro a1 σ Q2 hf hx2 hr2
      have hf : f_X12_isThought_B2 N (f_X12_isThought_L2 N k) a1 σ = some Q2 := hf
      unfold f_X12_isThought_B2 at hf
      refine z_iload_n C dX12_isThought_2 1 rfl ?_
      refine z_aload_n C dX12_isThought_3 0 rfl ?_
      refine z_get (v := .int (σ 73 14)) (T := TX12) (N := 39) (ci := 11) C (by decide) wc_mo rfl in_X12 14 (by decide) t_859 rfl dX12_isThought_4 ?_
      refine z_icmp_ge (tgt := 37) C dX12_isThought_7 (by decide) (fun h1 => ?_) (fun h1 => ?_)
      · replace hf := ifp hf h1
        refine z_sub [] [] rfl ?_
        exact hx2 _ (Option.some.inj hf).symm
      · replace hf := ifn hf h1
        refine z_aload_n C dX12_isThought_10 0 rfl ?_
        refine z_aload_n C dX12_isThought_11 0 rfl ?_
        refine z_get (v := .ref (E.2.1 81)) (T := TX12) (N := 39) (ci := 11) C (by decide) wc_mo rfl in_X12 7 (by decide) t_852 rfl dX12_isThought_12 ?_
        refine z_iload_n C dX12_isThought_15 1 rfl ?_
        obtain ⟨h2, hf⟩ := ga_some hf
        refine z_iald C ka_81 h2 dX12_isThought_16 ?_
        obtain ⟨r3, h4, hf⟩ := bd_some hf
        refine z_callV (Y2 := YX12_goesTo) (CC := RX12) (T := TX12) (N := 39) (ci := 11) (As := [.int (σ 81 (Int32.toNatClampNeg a1))]) C lk_X12_goesTo (by decide) wc_mo rfl t_1066 t_1068 p_41 (Nat.le_of_ble_eq_true rfl) (Nat.le_of_ble_eq_true rfl) dX12_isThought_17 (Nat.le_of_ble_eq_true rfl) rfl rfl (m_X12_goesTo X.2.1 E N (σ 81 (Int32.toNatClampNeg a1)) σ _ h4) ?_
        change Zz E X YX12_isThought (some (.int R.1), R.2) r3.2 _ _ [.int r3.1]
        refine z_aload_n C dX12_isThought_20 0 rfl ?_
        refine z_get (v := .ref (E.2.1 82)) (T := TX12) (N := 39) (ci := 11) C (by decide) wc_mo rfl in_X12 8 (by decide) t_853 rfl dX12_isThought_21 ?_
        refine z_iload_n C dX12_isThought_24 1 rfl ?_
        obtain ⟨h5, hf⟩ := ga_some hf
        refine z_iald C ka_82 h5 dX12_isThought_25 ?_
        refine z_icmp_eq (tgt := 31) C dX12_isThought_26 (by decide) (fun h6 => ?_) (fun h6 => ?_)
        · replace hf := ifp hf h6
          refine z_iinc (v := (a1 + 1)) (lv' := [(1, .int (a1 + 1)), (0, .ref (E.2.1 73))]) C dX12_isThought_31 1 rfl rfl (by decide) rfl ?_
          refine z_goto (tgt := 2) C dX12_isThought_34 (by decide) ?_
          refine z_sub [(0, .ref (E.2.1 73)), (1, .int (a1 + 1))] [1, 0] rfl ?_
          exact ih (a1 + 1) r3.2 _ hf hx2 hr2
        · replace hf := ifn hf h6
          refine z_iconst (v := 0) C dX12_isThought_29 (by decide) ?_
          have hq := hr2 _ (Option.some.inj hf).symm
          exact z_zret C dX12_isThought_30 rfl rfl hq
  unfold f_X12_isThought at hf
  refine z_iconst (v := 0) C dX12_isThought_0 (by decide) ?_
  refine z_istore_n (lv' := [(1, .int 0), (0, .ref (E.2.1 73))]) C dX12_isThought_1 (by decide) rfl ?_
  refine z_sub [(0, .ref (E.2.1 73)), (1, .int 0)] [1, 0] rfl ?_
  rcases ex1_some hf with ⟨s7, h9, hf⟩ | ⟨r8, h9, hf⟩
  · refine hL2 N 0 σ _ h9 (fun S e => ?_) (fun _ e => nomatch e)
    cases e
    refine z_iconst (v := 1) C dX12_isThought_37 (by decide) ?_
    exact z_zret C dX12_isThought_38 rfl rfl (by rw [← Option.some.inj hf])
  · refine hL2 N 0 σ _ h9 (fun _ e => nomatch e) (fun r e => ?_)
    cases e
    exact (by rw [← Option.some.inj hf])
theorem lk_X12_isThought {Y : Yv} : Lk Y YX12_isThought 0 := ⟨t_1202, t_13, ⟨by decide +kernel, by decide +kernel⟩, by decide +kernel⟩
abbrev YX12_fitting : Yv := (yX12_fitting, cX12_fitting, 6, some .int, 5, 119)
def f_X12_fitting_B17 (N : Nat) (rec : Int32 → Int32 → Int32 → Int32 → Int32 → Sg → Option (Int32 × Int32 × Int32 × Int32 × Sg)) (a1 a2 a3 a4 a5 : Int32) (σ : Sg) : Option (Int32 × Int32 × Int32 × Int32 × Sg) :=
  if 30 < a5 then (some (a1, a2, a3, a4, σ)) else (ga (((4 : Int32) * a1) + a2) 24 (nm (sgs σ 75 (Int32.toNatClampNeg (((4 : Int32) * a1) + a2)) a5) (fun σ6 => (f_X12_isThought N σ6).bind (fun r8 => if r8.1 = 0 then (rec a1 a2 a3 (a4 ||| 0) (a5 + 1) r8.2) else (nm (a4 ||| ((1 : Int32) <<< (a5 &&& 31))) (fun v11 => rec a1 a2 a3 v11 (a5 + 1) r8.2))))))
def f_X12_fitting_L17 (N : Nat) : Nat → Int32 → Int32 → Int32 → Int32 → Int32 → Sg → Option (Int32 × Int32 × Int32 × Int32 × Sg)
  | 0 => fun _ _ _ _ _ _ => none
  | k + 1 => fun a1 a2 a3 a4 a5 σ => f_X12_fitting_B17 N (f_X12_fitting_L17 N k) a1 a2 a3 a4 a5 σ
def f_X12_fitting (N : Nat) (x1 x2 : Int32) (σ : Sg) : Option (Int32 × Sg) :=
  ga (((4 : Int32) * x1) + x2) 24 (nm (σ 75 (Int32.toNatClampNeg (((4 : Int32) * x1) + x2))) (fun v2 => (f_X12_fitting_L17 N N x1 x2 v2 0 0 σ).bind (fun s13 => ga (((4 : Int32) * s13.1) + s13.2.1) 24 (nm (sgs s13.2.2.2.2 75 (Int32.toNatClampNeg (((4 : Int32) * s13.1) + s13.2.1)) s13.2.2.1) (fun σ15 => some (s13.2.2.2.1, σ15))))))
set_option maxHeartbeats 4000000 in
set_option maxRecDepth 20000 in
theorem m_X12_fitting (l : Launch) (E : Ev) (N : Nat) (x1 x2 : Int32) (σ : Sg) (R : Int32 × Sg) (hf : f_X12_fitting N x1 x2 σ = some R) : Ct l E YX12_fitting [.ref (E.2.1 73), .int x1, .int x2] σ (some (.int R.1), R.2) := by
  refine ct_of (by decide +kernel) (Nat.le_of_ble_eq_true rfl) [(0, .ref (E.2.1 73)), (1, .int x1), (2, .int x2)] rfl (fun X hX C => ?_)
  have hL17 : ∀ (k : Nat) (a1 a2 a3 a4 a5 : Int32) (σ : Sg) (Q17 : Int32 × Int32 × Int32 × Int32 × Sg), f_X12_fitting_L17 N k a1 a2 a3 a4 a5 σ = some Q17 → (Zz E X YX12_fitting (some (.int R.1), R.2) Q17.2.2.2.2 62 [(0, .ref (E.2.1 73)), (1, .int Q17.1), (2, .int Q17.2.1), (3, .int Q17.2.2.1), (4, .int Q17.2.2.2.1)] []) → Zz E X YX12_fitting (some (.int R.1), R.2) σ 17 [(0, .ref (E.2.1 73)), (1, .int a1), (2, .int a2), (3, .int a3), (4, .int a4), (5, .int a5)] [] := by
    intro k
    induction k with
    | zero =>
      intro a1 a2 a3 a4 a5 σ Q17 hf
      have hf : (none : Option (Int32 × Int32 × Int32 × Int32 × Sg)) = some Q17 := hf
      cases hf
    | succ k ih =>
      intro a1 a2 a3 a4 a5 σ Q17 hf hx17
      have hf : f_X12_fitting_B17 N (f_X12_fitting_L17 N k) a1 a2 a3 a4 a5 σ = some Q17 := hf
      unfold f_X12_fitting_B17 at hf
      refine z_iload C dX12_fitting_17 5 rfl ?_
      refine z_bipush (v := 30) C dX12_fitting_19 (by decide) ?_
      refine z_icmp_gt (tgt := 62) C dX12_fitting_21 (by decide) (fun h4 => ?_) (fun h4 => ?_)
      · replace hf := ifp hf h4
        refine z_sub [(0, .ref (E.2.1 73)), (1, .int a1), (2, .int a2), (3, .int a3), (4, .int a4)] [0, 1, 2, 3, 4] rfl ?_
        obtain rfl := Option.some.inj hf
        exact hx17
      · replace hf := ifn hf h4
        refine z_aload_n C dX12_fitting_24 0 rfl ?_
        refine z_get (v := .ref (E.2.1 75)) (T := TX12) (N := 39) (ci := 11) C (by decide) wc_mo rfl in_X12 1 (by decide) t_846 rfl dX12_fitting_25 ?_
        refine z_iconst (v := 4) C dX12_fitting_28 (by decide) ?_
        refine z_iload_n C dX12_fitting_29 1 rfl ?_
        refine z_imul C dX12_fitting_30 ?_
        refine z_iload_n C dX12_fitting_31 2 rfl ?_
        refine z_iadd C dX12_fitting_32 ?_
        refine z_iload C dX12_fitting_33 5 rfl ?_
        obtain ⟨h5, hf⟩ := ga_some hf
        obtain ⟨σ6, h7, hf⟩ := nm_some hf
        refine z_iast C ka_75 h5 dX12_fitting_35 ?_
        rw [← h7]
        refine z_iload C dX12_fitting_36 4 rfl ?_
        refine z_aload_n C dX12_fitting_38 0 rfl ?_
        obtain ⟨r8, h9, hf⟩ := bd_some hf
        refine z_callV (Y2 := YX12_isThought) (CC := RX12) (T := TX12) (N := 39) (ci := 11) (As := []) C lk_X12_isThought (by decide) wc_mo rfl t_1199 t_1201 p_57 (Nat.le_of_ble_eq_true rfl) (Nat.le_of_ble_eq_true rfl) dX12_fitting_39 (Nat.le_of_ble_eq_true rfl) rfl rfl (m_X12_isThought X.2.1 E N σ6 _ h9) ?_
        change Zz E X YX12_fitting (some (.int R.1), R.2) r8.2 _ _ [.int r8.1, .int a4]
        refine z_if_eq (tgt := 52) C dX12_fitting_42 (by decide) (fun h10 => ?_) (fun h10 => ?_)
        · replace hf := ifp hf h10
          refine z_iconst (v := 0) C dX12_fitting_52 (by decide) ?_
          refine z_ior C dX12_fitting_53 ?_
          refine z_istore (lv' := [(4, .int (a4 ||| 0)), (0, .ref (E.2.1 73)), (1, .int a1), (2, .int a2), (3, .int a3), (5, .int a5)]) C dX12_fitting_54 (by decide) rfl ?_
          refine z_iinc (v := (a5 + 1)) (lv' := [(5, .int (a5 + 1)), (4, .int (a4 ||| 0)), (0, .ref (E.2.1 73)), (1, .int a1), (2, .int a2), (3, .int a3)]) C dX12_fitting_56 5 rfl rfl (by decide) rfl ?_
          refine z_goto (tgt := 17) C dX12_fitting_59 (by decide) ?_
          refine z_sub [(0, .ref (E.2.1 73)), (1, .int a1), (2, .int a2), (3, .int a3), (4, .int (a4 ||| 0)), (5, .int (a5 + 1))] [2, 3, 4, 5, 1, 0] rfl ?_
          exact ih a1 a2 a3 (a4 ||| 0) (a5 + 1) r8.2 _ hf hx17
        · replace hf := ifn hf h10
          refine z_iconst (v := 1) C dX12_fitting_45 (by decide) ?_
          refine z_iload C dX12_fitting_46 5 rfl ?_
          refine z_ishl C dX12_fitting_48 ?_
          refine z_goto (tgt := 53) C dX12_fitting_49 (by decide) ?_
          refine z_ior C dX12_fitting_53 ?_
          obtain ⟨v11, h12, hf⟩ := nm_some hf
          rw [← h12]
          refine z_istore (lv' := [(4, .int v11), (0, .ref (E.2.1 73)), (1, .int a1), (2, .int a2), (3, .int a3), (5, .int a5)]) C dX12_fitting_54 (by decide) rfl ?_
          refine z_iinc (v := (a5 + 1)) (lv' := [(5, .int (a5 + 1)), (4, .int v11), (0, .ref (E.2.1 73)), (1, .int a1), (2, .int a2), (3, .int a3)]) C dX12_fitting_56 5 rfl rfl (by decide) rfl ?_
          refine z_goto (tgt := 17) C dX12_fitting_59 (by decide) ?_
          refine z_sub [(0, .ref (E.2.1 73)), (1, .int a1), (2, .int a2), (3, .int a3), (4, .int v11), (5, .int (a5 + 1))] [2, 3, 4, 5, 1, 0] rfl ?_
          exact ih a1 a2 a3 v11 (a5 + 1) r8.2 _ hf hx17
  unfold f_X12_fitting at hf
  refine z_aload_n C dX12_fitting_0 0 rfl ?_
  refine z_get (v := .ref (E.2.1 75)) (T := TX12) (N := 39) (ci := 11) C (by decide) wc_mo rfl in_X12 1 (by decide) t_846 rfl dX12_fitting_1 ?_
  refine z_iconst (v := 4) C dX12_fitting_4 (by decide) ?_
  refine z_iload_n C dX12_fitting_5 1 rfl ?_
  refine z_imul C dX12_fitting_6 ?_
  refine z_iload_n C dX12_fitting_7 2 rfl ?_
  refine z_iadd C dX12_fitting_8 ?_
  obtain ⟨h1, hf⟩ := ga_some hf
  refine z_iald C ka_75 h1 dX12_fitting_9 ?_
  obtain ⟨v2, h3, hf⟩ := nm_some hf
  rw [← h3]
  refine z_istore_n (lv' := [(3, .int v2), (0, .ref (E.2.1 73)), (1, .int x1), (2, .int x2)]) C dX12_fitting_10 (by decide) rfl ?_
  refine z_iconst (v := 0) C dX12_fitting_11 (by decide) ?_
  refine z_istore (lv' := [(4, .int 0), (3, .int v2), (0, .ref (E.2.1 73)), (1, .int x1), (2, .int x2)]) C dX12_fitting_12 (by decide) rfl ?_
  refine z_iconst (v := 0) C dX12_fitting_14 (by decide) ?_
  refine z_istore (lv' := [(5, .int 0), (4, .int 0), (3, .int v2), (0, .ref (E.2.1 73)), (1, .int x1), (2, .int x2)]) C dX12_fitting_15 (by decide) rfl ?_
  refine z_sub [(0, .ref (E.2.1 73)), (1, .int x1), (2, .int x2), (3, .int v2), (4, .int 0), (5, .int 0)] [3, 4, 5, 2, 1, 0] rfl ?_
  obtain ⟨s13, h17, hf⟩ := bd_some hf
  refine hL17 N x1 x2 v2 0 0 σ _ h17 ?_
  refine z_aload_n C dX12_fitting_62 0 rfl ?_
  refine z_get (v := .ref (E.2.1 75)) (T := TX12) (N := 39) (ci := 11) C (by decide) wc_mo rfl in_X12 1 (by decide) t_846 rfl dX12_fitting_63 ?_
  refine z_iconst (v := 4) C dX12_fitting_66 (by decide) ?_
  refine z_iload_n C dX12_fitting_67 1 rfl ?_
  refine z_imul C dX12_fitting_68 ?_
  refine z_iload_n C dX12_fitting_69 2 rfl ?_
  refine z_iadd C dX12_fitting_70 ?_
  refine z_iload_n C dX12_fitting_71 3 rfl ?_
  obtain ⟨h14, hf⟩ := ga_some hf
  obtain ⟨σ15, h16, hf⟩ := nm_some hf
  refine z_iast C ka_75 h14 dX12_fitting_72 ?_
  rw [← h16]
  refine z_iload C dX12_fitting_73 4 rfl ?_
  exact z_iret C dX12_fitting_75 rfl (by rw [← Option.some.inj hf])
theorem lk_X12_fitting {Y : Yv} : Lk Y YX12_fitting 2 := ⟨t_1198, t_13, ⟨by decide +kernel, by decide +kernel⟩, by decide +kernel⟩
abbrev YX12_think : Yv := (yX12_think, cX12_think, 8, some .int, 6, 144)
def f_X12_think_J17 (N : Nat) (σ : Sg) : Option (Int32 × Sg) :=
  (f_X12_no N (-1) σ).bind (fun r4 => some (r4.1, r4.2))
def f_X12_think_B57 (N : Nat) (rec : Int32 → Int32 → Int32 → Int32 → Int32 → Sg → Option (Int32 × Int32 × Int32 × Sg)) (a3 a4 a5 a6 a7 : Int32) (σ : Sg) : Option (Int32 × Int32 × Int32 × Sg) :=
  if 30 < a7 then (some (a3, a5, a6, σ)) else (if ((a4 >>> (a7 &&& 31)) &&& 1) = 0 then (rec a3 a4 a5 a6 (a7 + 1) σ) else (if a5 < 0 then (rec a3 a4 a7 (a6 + 1) (a7 + 1) σ) else (if a3 = 1 then (rec a3 a4 a7 (a6 + 1) (a7 + 1) σ) else (rec a3 a4 a5 (a6 + 1) (a7 + 1) σ))))
def f_X12_think_L57 (N : Nat) : Nat → Int32 → Int32 → Int32 → Int32 → Int32 → Sg → Option (Int32 × Int32 × Int32 × Sg)
  | 0 => fun _ _ _ _ _ _ => none
  | k + 1 => fun a3 a4 a5 a6 a7 σ => f_X12_think_B57 N (f_X12_think_L57 N k) a3 a4 a5 a6 a7 σ
def f_X12_think (N : Nat) (x1 x2 x3 : Int32) (σ : Sg) : Option (Int32 × Sg) :=
  (f_X12_isPerson N x1 σ).bind (fun r1 => if r1.1 = 0 then (f_X12_think_J17 N r1.2) else ((f_X12_isIn N x2 0 3 r1.2).bind (fun r6 => if r6.1 = 0 then (f_X12_think_J17 N r6.2) else ((f_X12_isIn N x3 0 2 r6.2).bind (fun r9 => if r9.1 = 0 then ((f_X12_no N (-2) r9.2).bind (fun r21 => some (r21.1, r21.2))) else ((f_X12_fitting N x1 x2 r9.2).bind (fun r12 => (f_X12_think_L57 N N x3 r12.1 (-9) 0 0 r12.2).bind (fun s18 => if s18.1 = 2 then (some (s18.2.2.1, s18.2.2.2)) else (some (s18.2.1, s18.2.2.2))))))))))
set_option maxHeartbeats 4000000 in
set_option maxRecDepth 20000 in
theorem m_X12_think (l : Launch) (E : Ev) (N : Nat) (x1 x2 x3 : Int32) (σ : Sg) (R : Int32 × Sg) (hf : f_X12_think N x1 x2 x3 σ = some R) : Ct l E YX12_think [.ref (E.2.1 73), .int x1, .int x2, .int x3] σ (some (.int R.1), R.2) := by
  refine ct_of (by decide +kernel) (Nat.le_of_ble_eq_true rfl) [(0, .ref (E.2.1 73)), (1, .int x1), (2, .int x2), (3, .int x3)] rfl (fun X hX C => ?_)
  have hL57 : ∀ (k : Nat) (a3 a4 a5 a6 a7 : Int32) (σ : Sg) (Q57 : Int32 × Int32 × Int32 × Sg), f_X12_think_L57 N k a3 a4 a5 a6 a7 σ = some Q57 → (Zz E X YX12_think (some (.int R.1), R.2) Q57.2.2.2 100 [(3, .int Q57.1), (5, .int Q57.2.1), (6, .int Q57.2.2.1)] []) → Zz E X YX12_think (some (.int R.1), R.2) σ 57 [(3, .int a3), (4, .int a4), (5, .int a5), (6, .int a6), (7, .int a7)] [] := by
    intro k
    induction k with
    | zero =>
      intro a3 a4 a5 a6 a7 σ Q57 hf
      have hf : (none : Option (Int32 × Int32 × Int32 × Sg)) = some Q57 := hf
      cases hf
    | succ k ih =>
      intro a3 a4 a5 a6 a7 σ Q57 hf hx57
      have hf : f_X12_think_B57 N (f_X12_think_L57 N k) a3 a4 a5 a6 a7 σ = some Q57 := hf
      unfold f_X12_think_B57 at hf
      refine z_iload C dX12_think_57 4 rfl ?_
      refine z_bipush (v := 30) C dX12_think_59 (by decide) ?_
      refine z_icmp_gt (tgt := 100) C dX12_think_61 (by decide) (fun h14 => ?_) (fun h14 => ?_)
      · replace hf := ifp hf h14
        refine z_sub [(3, .int a3), (5, .int a5), (6, .int a6)] [0, 2, 3] rfl ?_
        obtain rfl := Option.some.inj hf
        exact hx57
      · replace hf := ifn hf h14
        refine z_iload C dX12_think_64 1 rfl ?_
        refine z_iload C dX12_think_66 4 rfl ?_
        refine z_ishr C dX12_think_68 ?_
        refine z_iconst (v := 1) C dX12_think_69 (by decide) ?_
        refine z_iand C dX12_think_70 ?_
        refine z_if_ne (tgt := 77) C dX12_think_71 (by decide) (fun h15 => ?_) (fun h15 => ?_)
        · replace hf := ifn hf h15
          refine z_iinc (v := (a6 + 1)) (lv' := [(6, .int (a6 + 1)), (3, .int a3), (4, .int a4), (5, .int a5), (7, .int a7)]) C dX12_think_77 3 rfl rfl (by decide) rfl ?_
          refine z_iload C dX12_think_80 3 rfl ?_
          refine z_if_lt (tgt := 90) C dX12_think_82 (by decide) (fun h16 => ?_) (fun h16 => ?_)
          · replace hf := ifp hf h16
            refine z_iload C dX12_think_90 4 rfl ?_
            refine z_istore (lv' := [(5, .int a7), (6, .int (a6 + 1)), (3, .int a3), (4, .int a4), (7, .int a7)]) C dX12_think_92 (by decide) rfl ?_
            refine z_iinc (v := (a7 + 1)) (lv' := [(7, .int (a7 + 1)), (5, .int a7), (6, .int (a6 + 1)), (3, .int a3), (4, .int a4)]) C dX12_think_94 4 rfl rfl (by decide) rfl ?_
            refine z_goto (tgt := 57) C dX12_think_97 (by decide) ?_
            refine z_sub [(3, .int a3), (4, .int a4), (5, .int a7), (6, .int (a6 + 1)), (7, .int (a7 + 1))] [3, 4, 1, 2, 0] rfl ?_
            exact ih a3 a4 a7 (a6 + 1) (a7 + 1) σ _ hf hx57
          · replace hf := ifn hf h16
            refine z_iload_n C dX12_think_85 1 rfl ?_
            refine z_iconst (v := 1) C dX12_think_86 (by decide) ?_
            refine z_icmp_ne (tgt := 94) C dX12_think_87 (by decide) (fun h17 => ?_) (fun h17 => ?_)
            · replace hf := ifn hf h17
              refine z_iinc (v := (a7 + 1)) (lv' := [(7, .int (a7 + 1)), (6, .int (a6 + 1)), (3, .int a3), (4, .int a4), (5, .int a5)]) C dX12_think_94 4 rfl rfl (by decide) rfl ?_
              refine z_goto (tgt := 57) C dX12_think_97 (by decide) ?_
              refine z_sub [(3, .int a3), (4, .int a4), (5, .int a5), (6, .int (a6 + 1)), (7, .int (a7 + 1))] [2, 3, 4, 1, 0] rfl ?_
              exact ih a3 a4 a5 (a6 + 1) (a7 + 1) σ _ hf hx57
            · replace hf := ifp hf h17
              refine z_iload C dX12_think_90 4 rfl ?_
              refine z_istore (lv' := [(5, .int a7), (6, .int (a6 + 1)), (3, .int a3), (4, .int a4), (7, .int a7)]) C dX12_think_92 (by decide) rfl ?_
              refine z_iinc (v := (a7 + 1)) (lv' := [(7, .int (a7 + 1)), (5, .int a7), (6, .int (a6 + 1)), (3, .int a3), (4, .int a4)]) C dX12_think_94 4 rfl rfl (by decide) rfl ?_
              refine z_goto (tgt := 57) C dX12_think_97 (by decide) ?_
              refine z_sub [(3, .int a3), (4, .int a4), (5, .int a7), (6, .int (a6 + 1)), (7, .int (a7 + 1))] [3, 4, 1, 2, 0] rfl ?_
              exact ih a3 a4 a7 (a6 + 1) (a7 + 1) σ _ hf hx57
        · replace hf := ifp hf h15
          refine z_goto (tgt := 94) C dX12_think_74 (by decide) ?_
          refine z_iinc (v := (a7 + 1)) (lv' := [(7, .int (a7 + 1)), (3, .int a3), (4, .int a4), (5, .int a5), (6, .int a6)]) C dX12_think_94 4 rfl rfl (by decide) rfl ?_
          refine z_goto (tgt := 57) C dX12_think_97 (by decide) ?_
          refine z_sub [(3, .int a3), (4, .int a4), (5, .int a5), (6, .int a6), (7, .int (a7 + 1))] [1, 2, 3, 4, 0] rfl ?_
          exact ih a3 a4 a5 a6 (a7 + 1) σ _ hf hx57
  have hJ17 : ∀ (σ : Sg), f_X12_think_J17 N σ = some R → Zz E X YX12_think (some (.int R.1), R.2) σ 17 [(0, .ref (E.2.1 73))] [] := by
    intro σ hf
    unfold f_X12_think_J17 at hf
    refine z_aload_n C dX12_think_17 0 rfl ?_
    refine z_iconst (v := (-1)) C dX12_think_18 (by decide) ?_
    obtain ⟨r4, h5, hf⟩ := bd_some hf
    refine z_callV (Y2 := YX12_no) (CC := RX12) (T := TX12) (N := 39) (ci := 11) (As := [.int (-1)]) C lk_X12_no (by decide) wc_mo rfl t_970 t_972 p_27 (Nat.le_of_ble_eq_true rfl) (Nat.le_of_ble_eq_true rfl) dX12_think_19 (Nat.le_of_ble_eq_true rfl) rfl rfl (m_X12_no X.2.1 E N (-1) σ _ h5) ?_
    change Zz E X YX12_think (some (.int R.1), R.2) r4.2 _ _ [.int r4.1]
    exact z_iret C dX12_think_22 rfl (by rw [← Option.some.inj hf])
  unfold f_X12_think at hf
  refine z_aload_n C dX12_think_0 0 rfl ?_
  refine z_iload_n C dX12_think_1 1 rfl ?_
  obtain ⟨r1, h2, hf⟩ := bd_some hf
  refine z_callV (Y2 := YX12_isPerson) (CC := RX12) (T := TX12) (N := 39) (ci := 11) (As := [.int x1]) C lk_X12_isPerson (by decide) wc_mo rfl t_1024 t_1026 p_38 (Nat.le_of_ble_eq_true rfl) (Nat.le_of_ble_eq_true rfl) dX12_think_2 (Nat.le_of_ble_eq_true rfl) rfl rfl (m_X12_isPerson X.2.1 E N x1 σ _ h2) ?_
  change Zz E X YX12_think (some (.int R.1), R.2) r1.2 _ _ [.int r1.1]
  refine z_if_eq (tgt := 17) C dX12_think_5 (by decide) (fun h3 => ?_) (fun h3 => ?_)
  · replace hf := ifp hf h3
    refine z_sub [(0, .ref (E.2.1 73))] [0] rfl ?_
    exact hJ17 r1.2 hf
  · replace hf := ifn hf h3
    refine z_iload_n C dX12_think_8 2 rfl ?_
    refine z_iconst (v := 0) C dX12_think_9 (by decide) ?_
    refine z_iconst (v := 3) C dX12_think_10 (by decide) ?_
    obtain ⟨r6, h7, hf⟩ := bd_some hf
    refine z_callS (Y2 := YX12_isIn) (As := [.int x2, .int 0, .int 3]) C lk_X12_isIn t_994 t_995 (Nat.le_of_ble_eq_true rfl) (Nat.le_of_ble_eq_true rfl) dX12_think_11 (Nat.le_of_ble_eq_true rfl) rfl rfl (m_X12_isIn X.2.1 E N x2 0 3 r1.2 _ h7) ?_
    change Zz E X YX12_think (some (.int R.1), R.2) r6.2 _ _ [.int r6.1]
    refine z_if_ne (tgt := 23) C dX12_think_14 (by decide) (fun h8 => ?_) (fun h8 => ?_)
    · replace hf := ifn hf h8
      refine z_iload_n C dX12_think_23 3 rfl ?_
      refine z_iconst (v := 0) C dX12_think_24 (by decide) ?_
      refine z_iconst (v := 2) C dX12_think_25 (by decide) ?_
      obtain ⟨r9, h10, hf⟩ := bd_some hf
      refine z_callS (Y2 := YX12_isIn) (As := [.int x3, .int 0, .int 2]) C lk_X12_isIn t_994 t_995 (Nat.le_of_ble_eq_true rfl) (Nat.le_of_ble_eq_true rfl) dX12_think_26 (Nat.le_of_ble_eq_true rfl) rfl rfl (m_X12_isIn X.2.1 E N x3 0 2 r6.2 _ h10) ?_
      change Zz E X YX12_think (some (.int R.1), R.2) r9.2 _ _ [.int r9.1]
      refine z_if_ne (tgt := 39) C dX12_think_29 (by decide) (fun h11 => ?_) (fun h11 => ?_)
      · replace hf := ifn hf h11
        refine z_aload_n C dX12_think_39 0 rfl ?_
        refine z_iload_n C dX12_think_40 1 rfl ?_
        refine z_iload_n C dX12_think_41 2 rfl ?_
        obtain ⟨r12, h13, hf⟩ := bd_some hf
        refine z_callV (Y2 := YX12_fitting) (CC := RX12) (T := TX12) (N := 39) (ci := 11) (As := [.int x1, .int x2]) C lk_X12_fitting (by decide) wc_mo rfl t_1195 t_1197 p_56 (Nat.le_of_ble_eq_true rfl) (Nat.le_of_ble_eq_true rfl) dX12_think_42 (Nat.le_of_ble_eq_true rfl) rfl rfl (m_X12_fitting X.2.1 E N x1 x2 r9.2 _ h13) ?_
        change Zz E X YX12_think (some (.int R.1), R.2) r12.2 _ _ [.int r12.1]
        refine z_istore (lv' := [(4, .int r12.1), (0, .ref (E.2.1 73)), (1, .int x1), (2, .int x2), (3, .int x3)]) C dX12_think_45 (by decide) rfl ?_
        refine z_bipush (v := (-9)) C dX12_think_47 (by decide) ?_
        refine z_istore (lv' := [(5, .int (-9)), (4, .int r12.1), (0, .ref (E.2.1 73)), (1, .int x1), (2, .int x2), (3, .int x3)]) C dX12_think_49 (by decide) rfl ?_
        refine z_iconst (v := 0) C dX12_think_51 (by decide) ?_
        refine z_istore (lv' := [(6, .int 0), (5, .int (-9)), (4, .int r12.1), (0, .ref (E.2.1 73)), (1, .int x1), (2, .int x2), (3, .int x3)]) C dX12_think_52 (by decide) rfl ?_
        refine z_iconst (v := 0) C dX12_think_54 (by decide) ?_
        refine z_istore (lv' := [(7, .int 0), (6, .int 0), (5, .int (-9)), (4, .int r12.1), (0, .ref (E.2.1 73)), (1, .int x1), (2, .int x2), (3, .int x3)]) C dX12_think_55 (by decide) rfl ?_
        refine z_sub [(3, .int x3), (4, .int r12.1), (5, .int (-9)), (6, .int 0), (7, .int 0)] [7, 3, 2, 1, 0] rfl ?_
        obtain ⟨s18, h20, hf⟩ := bd_some hf
        refine hL57 N x3 r12.1 (-9) 0 0 r12.2 _ h20 ?_
        refine z_iload_n C dX12_think_100 0 rfl ?_
        refine z_iconst (v := 2) C dX12_think_101 (by decide) ?_
        refine z_icmp_ne (tgt := 110) C dX12_think_102 (by decide) (fun h19 => ?_) (fun h19 => ?_)
        · replace hf := ifn hf h19
          refine z_iload C dX12_think_110 1 rfl ?_
          exact z_iret C dX12_think_112 rfl (by rw [← Option.some.inj hf])
        · replace hf := ifp hf h19
          refine z_iload C dX12_think_105 2 rfl ?_
          refine z_goto (tgt := 112) C dX12_think_107 (by decide) ?_
          exact z_iret C dX12_think_112 rfl (by rw [← Option.some.inj hf])
      · replace hf := ifp hf h11
        refine z_aload_n C dX12_think_32 0 rfl ?_
        refine z_bipush (v := (-2)) C dX12_think_33 (by decide) ?_
        obtain ⟨r21, h22, hf⟩ := bd_some hf
        refine z_callV (Y2 := YX12_no) (CC := RX12) (T := TX12) (N := 39) (ci := 11) (As := [.int (-2)]) C lk_X12_no (by decide) wc_mo rfl t_970 t_972 p_27 (Nat.le_of_ble_eq_true rfl) (Nat.le_of_ble_eq_true rfl) dX12_think_35 (Nat.le_of_ble_eq_true rfl) rfl rfl (m_X12_no X.2.1 E N (-2) r9.2 _ h22) ?_
        change Zz E X YX12_think (some (.int R.1), R.2) r21.2 _ _ [.int r21.1]
        exact z_iret C dX12_think_38 rfl (by rw [← Option.some.inj hf])
    · replace hf := ifp hf h8
      refine z_sub [(0, .ref (E.2.1 73))] [0] rfl ?_
      exact hJ17 r6.2 hf
theorem lk_X12_think {Y : Yv} : Lk Y YX12_think 3 := ⟨t_1194, t_13, ⟨by decide +kernel, by decide +kernel⟩, by decide +kernel⟩
abbrev YX12_tell : Yv := (yX12_tell, cX12_tell, 11, some .int, 6, 144)
def f_X12_tell_J17 (N : Nat) (σ : Sg) : Option (Int32 × Sg) :=
  (f_X12_no N (-1) σ).bind (fun r4 => some (r4.1, r4.2))
def f_X12_tell_B75 (N : Nat) (rec : Int32 → Int32 → Int32 → Int32 → Int32 → Int32 → Int32 → Int32 → Int32 → Sg → Option (Int32 × Int32 × Int32 × Int32 × Int32 × Int32 × Int32 × Int32 × Sg)) (a1 a2 a3 a4 a5 a6 a7 a8 a9 : Int32) (σ : Sg) : Option (Int32 × Int32 × Int32 × Int32 × Int32 × Int32 × Int32 × Int32 × Sg) :=
  if 30 < a9 then (some (a1, a2, a3, a4, a5, a6, a7, a8, σ)) else (if ((a3 >>> (a9 &&& 31)) &&& 1) = 0 then (rec a1 a2 a3 a4 a5 a6 a7 a8 (a9 + 1) σ) else (ga (((4 : Int32) * a1) + a2) 24 (nm (sgs σ 75 (Int32.toNatClampNeg (((4 : Int32) * a1) + a2)) a9) (fun σ19 => (f_X12_two N a7 σ19).bind (fun r21 => (f_X12_goesTo N r21.1 r21.2).bind (fun r23 => if 0 ≤ r23.1 then (nm (a8 ||| ((1 : Int32) <<< (r23.1 &&& 31))) (fun v26 => rec a1 a2 a3 a4 a5 a6 a7 v26 (a9 + 1) r23.2)) else (rec a1 a2 a3 a4 a5 a6 a7 (a8 ||| 64) (a9 + 1) r23.2)))))))
def f_X12_tell_L75 (N : Nat) : Nat → Int32 → Int32 → Int32 → Int32 → Int32 → Int32 → Int32 → Int32 → Int32 → Sg → Option (Int32 × Int32 × Int32 × Int32 × Int32 × Int32 × Int32 × Int32 × Sg)
  | 0 => fun _ _ _ _ _ _ _ _ _ _ => none
  | k + 1 => fun a1 a2 a3 a4 a5 a6 a7 a8 a9 σ => f_X12_tell_B75 N (f_X12_tell_L75 N k) a1 a2 a3 a4 a5 a6 a7 a8 a9 σ
def f_X12_tell_B62 (N : Nat) (rec : Int32 → Int32 → Int32 → Int32 → Int32 → Int32 → Int32 → Sg → Option (Int32 × Int32 × Int32 × Int32 × Sg)) (a1 a2 a3 a4 a5 a6 a7 : Int32) (σ : Sg) : Option (Int32 × Int32 × Int32 × Int32 × Sg) :=
  if 81 ≤ a7 then (some (a1, a2, a4, a5, σ)) else ((f_X12_tell_L75 N N a1 a2 a3 a4 a5 a6 a7 0 0 σ).bind (fun s28 => (f_X12_bits N s28.2.2.2.2.2.2.2.1 s28.2.2.2.2.2.2.2.2).bind (fun r29 => if s28.2.2.2.2.2.1 < r29.1 then ((f_X12_bits N s28.2.2.2.2.2.2.2.1 r29.2).bind (fun r32 => (f_X12_two N s28.2.2.2.2.2.2.1 r32.2).bind (fun r34 => rec s28.1 s28.2.1 s28.2.2.1 s28.2.2.2.1 r34.1 r32.1 (s28.2.2.2.2.2.2.1 + 1) r34.2))) else (rec s28.1 s28.2.1 s28.2.2.1 s28.2.2.2.1 s28.2.2.2.2.1 s28.2.2.2.2.2.1 (s28.2.2.2.2.2.2.1 + 1) r29.2))))
def f_X12_tell_L62 (N : Nat) : Nat → Int32 → Int32 → Int32 → Int32 → Int32 → Int32 → Int32 → Sg → Option (Int32 × Int32 × Int32 × Int32 × Sg)
  | 0 => fun _ _ _ _ _ _ _ _ => none
  | k + 1 => fun a1 a2 a3 a4 a5 a6 a7 σ => f_X12_tell_B62 N (f_X12_tell_L62 N k) a1 a2 a3 a4 a5 a6 a7 σ
def f_X12_tell (N : Nat) (x1 x2 : Int32) (σ : Sg) : Option (Int32 × Sg) :=
  (f_X12_isPerson N x1 σ).bind (fun r1 => if r1.1 = 0 then (f_X12_tell_J17 N r1.2) else ((f_X12_isIn N x2 0 3 r1.2).bind (fun r6 => if r6.1 = 0 then (f_X12_tell_J17 N r6.2) else ((f_X12_fitting N x1 x2 r6.2).bind (fun r9 => if r9.1 = 0 then ((f_X12_no N (-3) r9.2).bind (fun r42 => some (r42.1, r42.2))) else (ga (((4 : Int32) * x1) + x2) 24 (nm (r9.2 75 (Int32.toNatClampNeg (((4 : Int32) * x1) + x2))) (fun v13 => (f_X12_tell_L62 N N x1 x2 r9.1 v13 0 (-1) 0 r9.2).bind (fun s37 => ga (((4 : Int32) * s37.1) + s37.2.1) 24 (nm (sgs s37.2.2.2.2 75 (Int32.toNatClampNeg (((4 : Int32) * s37.1) + s37.2.1)) s37.2.2.1) (fun σ39 => some (s37.2.2.2.1, σ39))))))))))))
set_option maxHeartbeats 4000000 in
set_option maxRecDepth 20000 in
theorem m_X12_tell (l : Launch) (E : Ev) (N : Nat) (x1 x2 : Int32) (σ : Sg) (R : Int32 × Sg) (hf : f_X12_tell N x1 x2 σ = some R) : Ct l E YX12_tell [.ref (E.2.1 73), .int x1, .int x2] σ (some (.int R.1), R.2) := by
  refine ct_of (by decide +kernel) (Nat.le_of_ble_eq_true rfl) [(0, .ref (E.2.1 73)), (1, .int x1), (2, .int x2)] rfl (fun X hX C => ?_)
  have hL75 : ∀ (k : Nat) (a1 a2 a3 a4 a5 a6 a7 a8 a9 : Int32) (σ : Sg) (Q75 : Int32 × Int32 × Int32 × Int32 × Int32 × Int32 × Int32 × Int32 × Sg), f_X12_tell_L75 N k a1 a2 a3 a4 a5 a6 a7 a8 a9 σ = some Q75 → (Zz E X YX12_tell (some (.int R.1), R.2) Q75.2.2.2.2.2.2.2.2 142 [(0, .ref (E.2.1 73)), (1, .int Q75.1), (2, .int Q75.2.1), (3, .int Q75.2.2.1), (4, .int Q75.2.2.2.1), (5, .int Q75.2.2.2.2.1), (6, .int Q75.2.2.2.2.2.1), (7, .int Q75.2.2.2.2.2.2.1), (8, .int Q75.2.2.2.2.2.2.2.1)] []) → Zz E X YX12_tell (some (.int R.1), R.2) σ 75 [(0, .ref (E.2.1 73)), (1, .int a1), (2, .int a2), (3, .int a3), (4, .int a4), (5, .int a5), (6, .int a6), (7, .int a7), (8, .int a8), (9, .int a9)] [] := by
    intro k
    induction k with
    | zero =>
      intro a1 a2 a3 a4 a5 a6 a7 a8 a9 σ Q75 hf
      have hf : (none : Option (Int32 × Int32 × Int32 × Int32 × Int32 × Int32 × Int32 × Int32 × Sg)) = some Q75 := hf
      cases hf
    | succ k ih =>
      intro a1 a2 a3 a4 a5 a6 a7 a8 a9 σ Q75 hf hx75
      have hf : f_X12_tell_B75 N (f_X12_tell_L75 N k) a1 a2 a3 a4 a5 a6 a7 a8 a9 σ = some Q75 := hf
      unfold f_X12_tell_B75 at hf
      refine z_iload C dX12_tell_75 9 rfl ?_
      refine z_bipush (v := 30) C dX12_tell_77 (by decide) ?_
      refine z_icmp_gt (tgt := 142) C dX12_tell_79 (by decide) (fun h16 => ?_) (fun h16 => ?_)
      · replace hf := ifp hf h16
        refine z_sub [(0, .ref (E.2.1 73)), (1, .int a1), (2, .int a2), (3, .int a3), (4, .int a4), (5, .int a5), (6, .int a6), (7, .int a7), (8, .int a8)] [0, 1, 2, 3, 4, 5, 6, 7, 8] rfl ?_
        obtain rfl := Option.some.inj hf
        exact hx75
      · replace hf := ifn hf h16
        refine z_iload_n C dX12_tell_82 3 rfl ?_
        refine z_iload C dX12_tell_83 9 rfl ?_
        refine z_ishr C dX12_tell_85 ?_
        refine z_iconst (v := 1) C dX12_tell_86 (by decide) ?_
        refine z_iand C dX12_tell_87 ?_
        refine z_if_ne (tgt := 94) C dX12_tell_88 (by decide) (fun h17 => ?_) (fun h17 => ?_)
        · replace hf := ifn hf h17
          refine z_aload_n C dX12_tell_94 0 rfl ?_
          refine z_get (v := .ref (E.2.1 75)) (T := TX12) (N := 39) (ci := 11) C (by decide) wc_mo rfl in_X12 1 (by decide) t_846 rfl dX12_tell_95 ?_
          refine z_iconst (v := 4) C dX12_tell_98 (by decide) ?_
          refine z_iload_n C dX12_tell_99 1 rfl ?_
          refine z_imul C dX12_tell_100 ?_
          refine z_iload_n C dX12_tell_101 2 rfl ?_
          refine z_iadd C dX12_tell_102 ?_
          refine z_iload C dX12_tell_103 9 rfl ?_
          obtain ⟨h18, hf⟩ := ga_some hf
          obtain ⟨σ19, h20, hf⟩ := nm_some hf
          refine z_iast C ka_75 h18 dX12_tell_105 ?_
          rw [← h20]
          refine z_aload_n C dX12_tell_106 0 rfl ?_
          refine z_iload C dX12_tell_107 7 rfl ?_
          obtain ⟨r21, h22, hf⟩ := bd_some hf
          refine z_callS (Y2 := YX12_two) (As := [.int a7]) C lk_X12_two t_1110 t_1111 (Nat.le_of_ble_eq_true rfl) (Nat.le_of_ble_eq_true rfl) dX12_tell_109 (Nat.le_of_ble_eq_true rfl) rfl rfl (m_X12_two X.2.1 E N a7 σ19 _ h22) ?_
          change Zz E X YX12_tell (some (.int R.1), R.2) r21.2 _ _ [.int r21.1, .ref (E.2.1 73)]
          obtain ⟨r23, h24, hf⟩ := bd_some hf
          refine z_callV (Y2 := YX12_goesTo) (CC := RX12) (T := TX12) (N := 39) (ci := 11) (As := [.int r21.1]) C lk_X12_goesTo (by decide) wc_mo rfl t_1066 t_1068 p_41 (Nat.le_of_ble_eq_true rfl) (Nat.le_of_ble_eq_true rfl) dX12_tell_112 (Nat.le_of_ble_eq_true rfl) rfl rfl (m_X12_goesTo X.2.1 E N r21.1 r21.2 _ h24) ?_
          change Zz E X YX12_tell (some (.int R.1), R.2) r23.2 _ _ [.int r23.1]
          refine z_istore (lv' := [(10, .int r23.1), (0, .ref (E.2.1 73)), (1, .int a1), (2, .int a2), (3, .int a3), (4, .int a4), (5, .int a5), (6, .int a6), (7, .int a7), (8, .int a8), (9, .int a9)]) C dX12_tell_115 (by decide) rfl ?_
          refine z_iload C dX12_tell_117 9 rfl ?_
          refine z_iload C dX12_tell_119 0 rfl ?_
          refine z_if_ge (tgt := 129) C dX12_tell_121 (by decide) (fun h25 => ?_) (fun h25 => ?_)
          · replace hf := ifp hf h25
            refine z_iconst (v := 1) C dX12_tell_129 (by decide) ?_
            refine z_iload C dX12_tell_130 0 rfl ?_
            refine z_ishl C dX12_tell_132 ?_
            refine z_ior C dX12_tell_133 ?_
            obtain ⟨v26, h27, hf⟩ := nm_some hf
            rw [← h27]
            refine z_istore (lv' := [(8, .int v26), (10, .int r23.1), (0, .ref (E.2.1 73)), (1, .int a1), (2, .int a2), (3, .int a3), (4, .int a4), (5, .int a5), (6, .int a6), (7, .int a7), (9, .int a9)]) C dX12_tell_134 (by decide) rfl ?_
            refine z_iinc (v := (a9 + 1)) (lv' := [(9, .int (a9 + 1)), (8, .int v26), (10, .int r23.1), (0, .ref (E.2.1 73)), (1, .int a1), (2, .int a2), (3, .int a3), (4, .int a4), (5, .int a5), (6, .int a6), (7, .int a7)]) C dX12_tell_136 10 rfl rfl (by decide) rfl ?_
            refine z_goto (tgt := 75) C dX12_tell_139 (by decide) ?_
            refine z_sub [(0, .ref (E.2.1 73)), (1, .int a1), (2, .int a2), (3, .int a3), (4, .int a4), (5, .int a5), (6, .int a6), (7, .int a7), (8, .int v26), (9, .int (a9 + 1))] [3, 4, 5, 6, 7, 8, 9, 10, 1, 0] rfl ?_
            exact ih a1 a2 a3 a4 a5 a6 a7 v26 (a9 + 1) r23.2 _ hf hx75
          · replace hf := ifn hf h25
            refine z_bipush (v := 64) C dX12_tell_124 (by decide) ?_
            refine z_goto (tgt := 133) C dX12_tell_126 (by decide) ?_
            refine z_ior C dX12_tell_133 ?_
            refine z_istore (lv' := [(8, .int (a8 ||| 64)), (10, .int r23.1), (0, .ref (E.2.1 73)), (1, .int a1), (2, .int a2), (3, .int a3), (4, .int a4), (5, .int a5), (6, .int a6), (7, .int a7), (9, .int a9)]) C dX12_tell_134 (by decide) rfl ?_
            refine z_iinc (v := (a9 + 1)) (lv' := [(9, .int (a9 + 1)), (8, .int (a8 ||| 64)), (10, .int r23.1), (0, .ref (E.2.1 73)), (1, .int a1), (2, .int a2), (3, .int a3), (4, .int a4), (5, .int a5), (6, .int a6), (7, .int a7)]) C dX12_tell_136 10 rfl rfl (by decide) rfl ?_
            refine z_goto (tgt := 75) C dX12_tell_139 (by decide) ?_
            refine z_sub [(0, .ref (E.2.1 73)), (1, .int a1), (2, .int a2), (3, .int a3), (4, .int a4), (5, .int a5), (6, .int a6), (7, .int a7), (8, .int (a8 ||| 64)), (9, .int (a9 + 1))] [3, 4, 5, 6, 7, 8, 9, 10, 1, 0] rfl ?_
            exact ih a1 a2 a3 a4 a5 a6 a7 (a8 ||| 64) (a9 + 1) r23.2 _ hf hx75
        · replace hf := ifp hf h17
          refine z_goto (tgt := 136) C dX12_tell_91 (by decide) ?_
          refine z_iinc (v := (a9 + 1)) (lv' := [(9, .int (a9 + 1)), (0, .ref (E.2.1 73)), (1, .int a1), (2, .int a2), (3, .int a3), (4, .int a4), (5, .int a5), (6, .int a6), (7, .int a7), (8, .int a8)]) C dX12_tell_136 9 rfl rfl (by decide) rfl ?_
          refine z_goto (tgt := 75) C dX12_tell_139 (by decide) ?_
          refine z_sub [(0, .ref (E.2.1 73)), (1, .int a1), (2, .int a2), (3, .int a3), (4, .int a4), (5, .int a5), (6, .int a6), (7, .int a7), (8, .int a8), (9, .int (a9 + 1))] [1, 2, 3, 4, 5, 6, 7, 8, 9, 0] rfl ?_
          exact ih a1 a2 a3 a4 a5 a6 a7 a8 (a9 + 1) σ _ hf hx75
  have hL62 : ∀ (k : Nat) (a1 a2 a3 a4 a5 a6 a7 : Int32) (σ : Sg) (Q62 : Int32 × Int32 × Int32 × Int32 × Sg), f_X12_tell_L62 N k a1 a2 a3 a4 a5 a6 a7 σ = some Q62 → (Zz E X YX12_tell (some (.int R.1), R.2) Q62.2.2.2.2 175 [(0, .ref (E.2.1 73)), (1, .int Q62.1), (2, .int Q62.2.1), (4, .int Q62.2.2.1), (5, .int Q62.2.2.2.1)] []) → Zz E X YX12_tell (some (.int R.1), R.2) σ 62 [(0, .ref (E.2.1 73)), (1, .int a1), (2, .int a2), (3, .int a3), (4, .int a4), (5, .int a5), (6, .int a6), (7, .int a7)] [] := by
    intro k
    induction k with
    | zero =>
      intro a1 a2 a3 a4 a5 a6 a7 σ Q62 hf
      have hf : (none : Option (Int32 × Int32 × Int32 × Int32 × Sg)) = some Q62 := hf
      cases hf
    | succ k ih =>
      intro a1 a2 a3 a4 a5 a6 a7 σ Q62 hf hx62
      have hf : f_X12_tell_B62 N (f_X12_tell_L62 N k) a1 a2 a3 a4 a5 a6 a7 σ = some Q62 := hf
      unfold f_X12_tell_B62 at hf
      refine z_iload C dX12_tell_62 7 rfl ?_
      refine z_bipush (v := 81) C dX12_tell_64 (by decide) ?_
      refine z_icmp_ge (tgt := 175) C dX12_tell_66 (by decide) (fun h15 => ?_) (fun h15 => ?_)
      · replace hf := ifp hf h15
        refine z_sub [(0, .ref (E.2.1 73)), (1, .int a1), (2, .int a2), (4, .int a4), (5, .int a5)] [0, 1, 2, 4, 5] rfl ?_
        obtain rfl := Option.some.inj hf
        exact hx62
      · replace hf := ifn hf h15
        refine z_iconst (v := 0) C dX12_tell_69 (by decide) ?_
        refine z_istore (lv' := [(8, .int 0), (0, .ref (E.2.1 73)), (1, .int a1), (2, .int a2), (3, .int a3), (4, .int a4), (5, .int a5), (6, .int a6), (7, .int a7)]) C dX12_tell_70 (by decide) rfl ?_
        refine z_iconst (v := 0) C dX12_tell_72 (by decide) ?_
        refine z_istore (lv' := [(9, .int 0), (8, .int 0), (0, .ref (E.2.1 73)), (1, .int a1), (2, .int a2), (3, .int a3), (4, .int a4), (5, .int a5), (6, .int a6), (7, .int a7)]) C dX12_tell_73 (by decide) rfl ?_
        refine z_sub [(0, .ref (E.2.1 73)), (1, .int a1), (2, .int a2), (3, .int a3), (4, .int a4), (5, .int a5), (6, .int a6), (7, .int a7), (8, .int 0), (9, .int 0)] [2, 3, 4, 5, 6, 7, 8, 9, 1, 0] rfl ?_
        obtain ⟨s28, h36, hf⟩ := bd_some hf
        refine hL75 N a1 a2 a3 a4 a5 a6 a7 0 0 σ _ h36 ?_
        refine z_iload C dX12_tell_142 8 rfl ?_
        obtain ⟨r29, h30, hf⟩ := bd_some hf
        refine z_callS (Y2 := YX12_bits) (As := [.int s28.2.2.2.2.2.2.2.1]) C lk_X12_bits t_1184 t_1185 (Nat.le_of_ble_eq_true rfl) (Nat.le_of_ble_eq_true rfl) dX12_tell_144 (Nat.le_of_ble_eq_true rfl) rfl rfl (m_X12_bits X.2.1 E N s28.2.2.2.2.2.2.2.1 s28.2.2.2.2.2.2.2.2 _ h30) ?_
        change Zz E X YX12_tell (some (.int R.1), R.2) r29.2 _ _ [.int r29.1]
        refine z_iload C dX12_tell_147 6 rfl ?_
        refine z_icmp_gt (tgt := 155) C dX12_tell_149 (by decide) (fun h31 => ?_) (fun h31 => ?_)
        · replace hf := ifp hf h31
          refine z_iload C dX12_tell_155 8 rfl ?_
          obtain ⟨r32, h33, hf⟩ := bd_some hf
          refine z_callS (Y2 := YX12_bits) (As := [.int s28.2.2.2.2.2.2.2.1]) C lk_X12_bits t_1184 t_1185 (Nat.le_of_ble_eq_true rfl) (Nat.le_of_ble_eq_true rfl) dX12_tell_157 (Nat.le_of_ble_eq_true rfl) rfl rfl (m_X12_bits X.2.1 E N s28.2.2.2.2.2.2.2.1 r29.2 _ h33) ?_
          change Zz E X YX12_tell (some (.int R.1), R.2) r32.2 _ _ [.int r32.1]
          refine z_istore (lv' := [(6, .int r32.1), (0, .ref (E.2.1 73)), (1, .int s28.1), (2, .int s28.2.1), (3, .int s28.2.2.1), (4, .int s28.2.2.2.1), (5, .int s28.2.2.2.2.1), (7, .int s28.2.2.2.2.2.2.1), (8, .int s28.2.2.2.2.2.2.2.1)]) C dX12_tell_160 (by decide) rfl ?_
          refine z_iload C dX12_tell_162 7 rfl ?_
          obtain ⟨r34, h35, hf⟩ := bd_some hf
          refine z_callS (Y2 := YX12_two) (As := [.int s28.2.2.2.2.2.2.1]) C lk_X12_two t_1110 t_1111 (Nat.le_of_ble_eq_true rfl) (Nat.le_of_ble_eq_true rfl) dX12_tell_164 (Nat.le_of_ble_eq_true rfl) rfl rfl (m_X12_two X.2.1 E N s28.2.2.2.2.2.2.1 r32.2 _ h35) ?_
          change Zz E X YX12_tell (some (.int R.1), R.2) r34.2 _ _ [.int r34.1]
          refine z_istore (lv' := [(5, .int r34.1), (6, .int r32.1), (0, .ref (E.2.1 73)), (1, .int s28.1), (2, .int s28.2.1), (3, .int s28.2.2.1), (4, .int s28.2.2.2.1), (7, .int s28.2.2.2.2.2.2.1), (8, .int s28.2.2.2.2.2.2.2.1)]) C dX12_tell_167 (by decide) rfl ?_
          refine z_iinc (v := (s28.2.2.2.2.2.2.1 + 1)) (lv' := [(7, .int (s28.2.2.2.2.2.2.1 + 1)), (5, .int r34.1), (6, .int r32.1), (0, .ref (E.2.1 73)), (1, .int s28.1), (2, .int s28.2.1), (3, .int s28.2.2.1), (4, .int s28.2.2.2.1), (8, .int s28.2.2.2.2.2.2.2.1)]) C dX12_tell_169 7 rfl rfl (by decide) rfl ?_
          refine z_goto (tgt := 62) C dX12_tell_172 (by decide) ?_
          refine z_sub [(0, .ref (E.2.1 73)), (1, .int s28.1), (2, .int s28.2.1), (3, .int s28.2.2.1), (4, .int s28.2.2.2.1), (5, .int r34.1), (6, .int r32.1), (7, .int (s28.2.2.2.2.2.2.1 + 1))] [3, 4, 5, 6, 7, 1, 2, 0] rfl ?_
          exact ih s28.1 s28.2.1 s28.2.2.1 s28.2.2.2.1 r34.1 r32.1 (s28.2.2.2.2.2.2.1 + 1) r34.2 _ hf hx62
        · replace hf := ifn hf h31
          refine z_goto (tgt := 169) C dX12_tell_152 (by decide) ?_
          refine z_iinc (v := (s28.2.2.2.2.2.2.1 + 1)) (lv' := [(7, .int (s28.2.2.2.2.2.2.1 + 1)), (0, .ref (E.2.1 73)), (1, .int s28.1), (2, .int s28.2.1), (3, .int s28.2.2.1), (4, .int s28.2.2.2.1), (5, .int s28.2.2.2.2.1), (6, .int s28.2.2.2.2.2.1), (8, .int s28.2.2.2.2.2.2.2.1)]) C dX12_tell_169 7 rfl rfl (by decide) rfl ?_
          refine z_goto (tgt := 62) C dX12_tell_172 (by decide) ?_
          refine z_sub [(0, .ref (E.2.1 73)), (1, .int s28.1), (2, .int s28.2.1), (3, .int s28.2.2.1), (4, .int s28.2.2.2.1), (5, .int s28.2.2.2.2.1), (6, .int s28.2.2.2.2.2.1), (7, .int (s28.2.2.2.2.2.2.1 + 1))] [1, 2, 3, 4, 5, 6, 7, 0] rfl ?_
          exact ih s28.1 s28.2.1 s28.2.2.1 s28.2.2.2.1 s28.2.2.2.2.1 s28.2.2.2.2.2.1 (s28.2.2.2.2.2.2.1 + 1) r29.2 _ hf hx62
  have hJ17 : ∀ (σ : Sg), f_X12_tell_J17 N σ = some R → Zz E X YX12_tell (some (.int R.1), R.2) σ 17 [(0, .ref (E.2.1 73))] [] := by
    intro σ hf
    unfold f_X12_tell_J17 at hf
    refine z_aload_n C dX12_tell_17 0 rfl ?_
    refine z_iconst (v := (-1)) C dX12_tell_18 (by decide) ?_
    obtain ⟨r4, h5, hf⟩ := bd_some hf
    refine z_callV (Y2 := YX12_no) (CC := RX12) (T := TX12) (N := 39) (ci := 11) (As := [.int (-1)]) C lk_X12_no (by decide) wc_mo rfl t_970 t_972 p_27 (Nat.le_of_ble_eq_true rfl) (Nat.le_of_ble_eq_true rfl) dX12_tell_19 (Nat.le_of_ble_eq_true rfl) rfl rfl (m_X12_no X.2.1 E N (-1) σ _ h5) ?_
    change Zz E X YX12_tell (some (.int R.1), R.2) r4.2 _ _ [.int r4.1]
    exact z_iret C dX12_tell_22 rfl (by rw [← Option.some.inj hf])
  unfold f_X12_tell at hf
  refine z_aload_n C dX12_tell_0 0 rfl ?_
  refine z_iload_n C dX12_tell_1 1 rfl ?_
  obtain ⟨r1, h2, hf⟩ := bd_some hf
  refine z_callV (Y2 := YX12_isPerson) (CC := RX12) (T := TX12) (N := 39) (ci := 11) (As := [.int x1]) C lk_X12_isPerson (by decide) wc_mo rfl t_1024 t_1026 p_38 (Nat.le_of_ble_eq_true rfl) (Nat.le_of_ble_eq_true rfl) dX12_tell_2 (Nat.le_of_ble_eq_true rfl) rfl rfl (m_X12_isPerson X.2.1 E N x1 σ _ h2) ?_
  change Zz E X YX12_tell (some (.int R.1), R.2) r1.2 _ _ [.int r1.1]
  refine z_if_eq (tgt := 17) C dX12_tell_5 (by decide) (fun h3 => ?_) (fun h3 => ?_)
  · replace hf := ifp hf h3
    refine z_sub [(0, .ref (E.2.1 73))] [0] rfl ?_
    exact hJ17 r1.2 hf
  · replace hf := ifn hf h3
    refine z_iload_n C dX12_tell_8 2 rfl ?_
    refine z_iconst (v := 0) C dX12_tell_9 (by decide) ?_
    refine z_iconst (v := 3) C dX12_tell_10 (by decide) ?_
    obtain ⟨r6, h7, hf⟩ := bd_some hf
    refine z_callS (Y2 := YX12_isIn) (As := [.int x2, .int 0, .int 3]) C lk_X12_isIn t_994 t_995 (Nat.le_of_ble_eq_true rfl) (Nat.le_of_ble_eq_true rfl) dX12_tell_11 (Nat.le_of_ble_eq_true rfl) rfl rfl (m_X12_isIn X.2.1 E N x2 0 3 r1.2 _ h7) ?_
    change Zz E X YX12_tell (some (.int R.1), R.2) r6.2 _ _ [.int r6.1]
    refine z_if_ne (tgt := 23) C dX12_tell_14 (by decide) (fun h8 => ?_) (fun h8 => ?_)
    · replace hf := ifn hf h8
      refine z_aload_n C dX12_tell_23 0 rfl ?_
      refine z_iload_n C dX12_tell_24 1 rfl ?_
      refine z_iload_n C dX12_tell_25 2 rfl ?_
      obtain ⟨r9, h10, hf⟩ := bd_some hf
      refine z_callV (Y2 := YX12_fitting) (CC := RX12) (T := TX12) (N := 39) (ci := 11) (As := [.int x1, .int x2]) C lk_X12_fitting (by decide) wc_mo rfl t_1195 t_1197 p_56 (Nat.le_of_ble_eq_true rfl) (Nat.le_of_ble_eq_true rfl) dX12_tell_26 (Nat.le_of_ble_eq_true rfl) rfl rfl (m_X12_fitting X.2.1 E N x1 x2 r6.2 _ h10) ?_
      change Zz E X YX12_tell (some (.int R.1), R.2) r9.2 _ _ [.int r9.1]
      refine z_istore_n (lv' := [(3, .int r9.1), (0, .ref (E.2.1 73)), (1, .int x1), (2, .int x2)]) C dX12_tell_29 (by decide) rfl ?_
      refine z_iload_n C dX12_tell_30 0 rfl ?_
      refine z_if_ne (tgt := 41) C dX12_tell_31 (by decide) (fun h11 => ?_) (fun h11 => ?_)
      · replace hf := ifn hf h11
        refine z_aload_n C dX12_tell_41 1 rfl ?_
        refine z_get (v := .ref (E.2.1 75)) (T := TX12) (N := 39) (ci := 11) C (by decide) wc_mo rfl in_X12 1 (by decide) t_846 rfl dX12_tell_42 ?_
        refine z_iconst (v := 4) C dX12_tell_45 (by decide) ?_
        refine z_iload_n C dX12_tell_46 2 rfl ?_
        refine z_imul C dX12_tell_47 ?_
        refine z_iload_n C dX12_tell_48 3 rfl ?_
        refine z_iadd C dX12_tell_49 ?_
        obtain ⟨h12, hf⟩ := ga_some hf
        refine z_iald C ka_75 h12 dX12_tell_50 ?_
        obtain ⟨v13, h14, hf⟩ := nm_some hf
        rw [← h14]
        refine z_istore (lv' := [(4, .int v13), (3, .int r9.1), (0, .ref (E.2.1 73)), (1, .int x1), (2, .int x2)]) C dX12_tell_51 (by decide) rfl ?_
        refine z_iconst (v := 0) C dX12_tell_53 (by decide) ?_
        refine z_istore (lv' := [(5, .int 0), (4, .int v13), (3, .int r9.1), (0, .ref (E.2.1 73)), (1, .int x1), (2, .int x2)]) C dX12_tell_54 (by decide) rfl ?_
        refine z_iconst (v := (-1)) C dX12_tell_56 (by decide) ?_
        refine z_istore (lv' := [(6, .int (-1)), (5, .int 0), (4, .int v13), (3, .int r9.1), (0, .ref (E.2.1 73)), (1, .int x1), (2, .int x2)]) C dX12_tell_57 (by decide) rfl ?_
        refine z_iconst (v := 0) C dX12_tell_59 (by decide) ?_
        refine z_istore (lv' := [(7, .int 0), (6, .int (-1)), (5, .int 0), (4, .int v13), (3, .int r9.1), (0, .ref (E.2.1 73)), (1, .int x1), (2, .int x2)]) C dX12_tell_60 (by decide) rfl ?_
        refine z_sub [(0, .ref (E.2.1 73)), (1, .int x1), (2, .int x2), (3, .int r9.1), (4, .int v13), (5, .int 0), (6, .int (-1)), (7, .int 0)] [5, 6, 7, 4, 3, 2, 1, 0] rfl ?_
        obtain ⟨s37, h41, hf⟩ := bd_some hf
        refine hL62 N x1 x2 r9.1 v13 0 (-1) 0 r9.2 _ h41 ?_
        refine z_aload_n C dX12_tell_175 0 rfl ?_
        refine z_get (v := .ref (E.2.1 75)) (T := TX12) (N := 39) (ci := 11) C (by decide) wc_mo rfl in_X12 1 (by decide) t_846 rfl dX12_tell_176 ?_
        refine z_iconst (v := 4) C dX12_tell_179 (by decide) ?_
        refine z_iload_n C dX12_tell_180 1 rfl ?_
        refine z_imul C dX12_tell_181 ?_
        refine z_iload_n C dX12_tell_182 2 rfl ?_
        refine z_iadd C dX12_tell_183 ?_
        refine z_iload C dX12_tell_184 3 rfl ?_
        obtain ⟨h38, hf⟩ := ga_some hf
        obtain ⟨σ39, h40, hf⟩ := nm_some hf
        refine z_iast C ka_75 h38 dX12_tell_186 ?_
        rw [← h40]
        refine z_iload C dX12_tell_187 4 rfl ?_
        exact z_iret C dX12_tell_189 rfl (by rw [← Option.some.inj hf])
      · replace hf := ifp hf h11
        refine z_aload_n C dX12_tell_34 1 rfl ?_
        refine z_bipush (v := (-3)) C dX12_tell_35 (by decide) ?_
        obtain ⟨r42, h43, hf⟩ := bd_some hf
        refine z_callV (Y2 := YX12_no) (CC := RX12) (T := TX12) (N := 39) (ci := 11) (As := [.int (-3)]) C lk_X12_no (by decide) wc_mo rfl t_970 t_972 p_27 (Nat.le_of_ble_eq_true rfl) (Nat.le_of_ble_eq_true rfl) dX12_tell_37 (Nat.le_of_ble_eq_true rfl) rfl rfl (m_X12_no X.2.1 E N (-3) r9.2 _ h43) ?_
        change Zz E X YX12_tell (some (.int R.1), R.2) r42.2 _ _ [.int r42.1]
        exact z_iret C dX12_tell_40 rfl (by rw [← Option.some.inj hf])
    · replace hf := ifp hf h8
      refine z_sub [(0, .ref (E.2.1 73))] [0] rfl ?_
      exact hJ17 r6.2 hf
theorem lk_X12_tell {Y : Yv} : Lk Y YX12_tell 2 := ⟨t_1206, t_13, ⟨by decide +kernel, by decide +kernel⟩, by decide +kernel⟩
abbrev YX12_laws : Yv := (yX12_laws, cX12_laws, 5, some .int, 6, 142)
def f_X12_laws_B24 (N : Nat) (rec : Int32 → Int32 → Int32 → Int32 → Sg → Option (Int32 × Int32 × Sg)) (a1 a2 a3 a4 : Int32) (σ : Sg) : Option (Int32 × Int32 × Sg) :=
  if 5 ≤ a4 then (some (a2, a3, σ)) else (nm (sgs σ 73 11 a4) (fun σ5 => (f_X12_isReached N a1 σ5).bind (fun r7 => if r7.1 = 0 then (rec a1 a2 (a3 ||| 0) (a4 + 1) r7.2) else (nm (a3 ||| ((1 : Int32) <<< (a4 &&& 31))) (fun v10 => rec a1 a2 v10 (a4 + 1) r7.2)))))
def f_X12_laws_L24 (N : Nat) : Nat → Int32 → Int32 → Int32 → Int32 → Sg → Option (Int32 × Int32 × Sg)
  | 0 => fun _ _ _ _ _ => none
  | k + 1 => fun a1 a2 a3 a4 σ => f_X12_laws_B24 N (f_X12_laws_L24 N k) a1 a2 a3 a4 σ
def f_X12_laws (N : Nat) (x1 : Int32) (σ : Sg) : Option (Int32 × Sg) :=
  (f_X12_isPerson N x1 σ).bind (fun r1 => if r1.1 = 0 then ((f_X12_no N (-1) r1.2).bind (fun r16 => some (r16.1, r16.2))) else ((f_X12_laws_L24 N N x1 (r1.2 73 11) 0 0 r1.2).bind (fun s12 => nm (sgs s12.2.2 73 11 s12.1) (fun σ13 => some (s12.2.1, σ13)))))
set_option maxHeartbeats 4000000 in
set_option maxRecDepth 20000 in
theorem m_X12_laws (l : Launch) (E : Ev) (N : Nat) (x1 : Int32) (σ : Sg) (R : Int32 × Sg) (hf : f_X12_laws N x1 σ = some R) : Ct l E YX12_laws [.ref (E.2.1 73), .int x1] σ (some (.int R.1), R.2) := by
  refine ct_of (by decide +kernel) (Nat.le_of_ble_eq_true rfl) [(0, .ref (E.2.1 73)), (1, .int x1)] rfl (fun X hX C => ?_)
  have hL24 : ∀ (k : Nat) (a1 a2 a3 a4 : Int32) (σ : Sg) (Q24 : Int32 × Int32 × Sg), f_X12_laws_L24 N k a1 a2 a3 a4 σ = some Q24 → (Zz E X YX12_laws (some (.int R.1), R.2) Q24.2.2 61 [(0, .ref (E.2.1 73)), (2, .int Q24.1), (3, .int Q24.2.1)] []) → Zz E X YX12_laws (some (.int R.1), R.2) σ 24 [(0, .ref (E.2.1 73)), (1, .int a1), (2, .int a2), (3, .int a3), (4, .int a4)] [] := by
    intro k
    induction k with
    | zero =>
      intro a1 a2 a3 a4 σ Q24 hf
      have hf : (none : Option (Int32 × Int32 × Sg)) = some Q24 := hf
      cases hf
    | succ k ih =>
      intro a1 a2 a3 a4 σ Q24 hf hx24
      have hf : f_X12_laws_B24 N (f_X12_laws_L24 N k) a1 a2 a3 a4 σ = some Q24 := hf
      unfold f_X12_laws_B24 at hf
      refine z_iload C dX12_laws_24 4 rfl ?_
      refine z_iconst (v := 5) C dX12_laws_26 (by decide) ?_
      refine z_icmp_ge (tgt := 61) C dX12_laws_27 (by decide) (fun h4 => ?_) (fun h4 => ?_)
      · replace hf := ifp hf h4
        refine z_sub [(0, .ref (E.2.1 73)), (2, .int a2), (3, .int a3)] [0, 2, 3] rfl ?_
        obtain rfl := Option.some.inj hf
        exact hx24
      · replace hf := ifn hf h4
        refine z_aload_n C dX12_laws_30 0 rfl ?_
        refine z_iload C dX12_laws_31 4 rfl ?_
        obtain ⟨σ5, h6, hf⟩ := nm_some hf
        refine z_put (T := TX12) (N := 39) (ci := 11) (ty := .int) C tyX12 tyX12_ok nmX12 (by decide) wc_mo rfl in_X12 11 (by decide) t_856 rfl rfl rfl rfl (Nat.le_of_ble_eq_true rfl) (pw_X12_11) dX12_laws_33 ?_
        rw [← h6]
        refine z_iload_n C dX12_laws_36 3 rfl ?_
        refine z_aload_n C dX12_laws_37 0 rfl ?_
        refine z_iload_n C dX12_laws_38 1 rfl ?_
        obtain ⟨r7, h8, hf⟩ := bd_some hf
        refine z_callV (Y2 := YX12_isReached) (CC := RX12) (T := TX12) (N := 39) (ci := 11) (As := [.int a1]) C lk_X12_isReached (by decide) wc_mo rfl t_1136 t_1138 p_50 (Nat.le_of_ble_eq_true rfl) (Nat.le_of_ble_eq_true rfl) dX12_laws_39 (Nat.le_of_ble_eq_true rfl) rfl rfl (m_X12_isReached X.2.1 E N a1 σ5 _ h8) ?_
        change Zz E X YX12_laws (some (.int R.1), R.2) r7.2 _ _ [.int r7.1, .int a3]
        refine z_if_eq (tgt := 52) C dX12_laws_42 (by decide) (fun h9 => ?_) (fun h9 => ?_)
        · replace hf := ifp hf h9
          refine z_iconst (v := 0) C dX12_laws_52 (by decide) ?_
          refine z_ior C dX12_laws_53 ?_
          refine z_istore_n (lv' := [(3, .int (a3 ||| 0)), (0, .ref (E.2.1 73)), (1, .int a1), (2, .int a2), (4, .int a4)]) C dX12_laws_54 (by decide) rfl ?_
          refine z_iinc (v := (a4 + 1)) (lv' := [(4, .int (a4 + 1)), (3, .int (a3 ||| 0)), (0, .ref (E.2.1 73)), (1, .int a1), (2, .int a2)]) C dX12_laws_55 4 rfl rfl (by decide) rfl ?_
          refine z_goto (tgt := 24) C dX12_laws_58 (by decide) ?_
          refine z_sub [(0, .ref (E.2.1 73)), (1, .int a1), (2, .int a2), (3, .int (a3 ||| 0)), (4, .int (a4 + 1))] [2, 3, 4, 1, 0] rfl ?_
          exact ih a1 a2 (a3 ||| 0) (a4 + 1) r7.2 _ hf hx24
        · replace hf := ifn hf h9
          refine z_iconst (v := 1) C dX12_laws_45 (by decide) ?_
          refine z_iload C dX12_laws_46 4 rfl ?_
          refine z_ishl C dX12_laws_48 ?_
          refine z_goto (tgt := 53) C dX12_laws_49 (by decide) ?_
          refine z_ior C dX12_laws_53 ?_
          obtain ⟨v10, h11, hf⟩ := nm_some hf
          rw [← h11]
          refine z_istore_n (lv' := [(3, .int v10), (0, .ref (E.2.1 73)), (1, .int a1), (2, .int a2), (4, .int a4)]) C dX12_laws_54 (by decide) rfl ?_
          refine z_iinc (v := (a4 + 1)) (lv' := [(4, .int (a4 + 1)), (3, .int v10), (0, .ref (E.2.1 73)), (1, .int a1), (2, .int a2)]) C dX12_laws_55 4 rfl rfl (by decide) rfl ?_
          refine z_goto (tgt := 24) C dX12_laws_58 (by decide) ?_
          refine z_sub [(0, .ref (E.2.1 73)), (1, .int a1), (2, .int a2), (3, .int v10), (4, .int (a4 + 1))] [2, 3, 4, 1, 0] rfl ?_
          exact ih a1 a2 v10 (a4 + 1) r7.2 _ hf hx24
  unfold f_X12_laws at hf
  refine z_aload_n C dX12_laws_0 0 rfl ?_
  refine z_iload_n C dX12_laws_1 1 rfl ?_
  obtain ⟨r1, h2, hf⟩ := bd_some hf
  refine z_callV (Y2 := YX12_isPerson) (CC := RX12) (T := TX12) (N := 39) (ci := 11) (As := [.int x1]) C lk_X12_isPerson (by decide) wc_mo rfl t_1024 t_1026 p_38 (Nat.le_of_ble_eq_true rfl) (Nat.le_of_ble_eq_true rfl) dX12_laws_2 (Nat.le_of_ble_eq_true rfl) rfl rfl (m_X12_isPerson X.2.1 E N x1 σ _ h2) ?_
  change Zz E X YX12_laws (some (.int R.1), R.2) r1.2 _ _ [.int r1.1]
  refine z_if_ne (tgt := 14) C dX12_laws_5 (by decide) (fun h3 => ?_) (fun h3 => ?_)
  · replace hf := ifn hf h3
    refine z_aload_n C dX12_laws_14 0 rfl ?_
    refine z_get (v := .int (r1.2 73 11)) (T := TX12) (N := 39) (ci := 11) C (by decide) wc_mo rfl in_X12 11 (by decide) t_856 rfl dX12_laws_15 ?_
    refine z_istore_n (lv' := [(2, .int (r1.2 73 11)), (0, .ref (E.2.1 73)), (1, .int x1)]) C dX12_laws_18 (by decide) rfl ?_
    refine z_iconst (v := 0) C dX12_laws_19 (by decide) ?_
    refine z_istore_n (lv' := [(3, .int 0), (2, .int (r1.2 73 11)), (0, .ref (E.2.1 73)), (1, .int x1)]) C dX12_laws_20 (by decide) rfl ?_
    refine z_iconst (v := 0) C dX12_laws_21 (by decide) ?_
    refine z_istore (lv' := [(4, .int 0), (3, .int 0), (2, .int (r1.2 73 11)), (0, .ref (E.2.1 73)), (1, .int x1)]) C dX12_laws_22 (by decide) rfl ?_
    refine z_sub [(0, .ref (E.2.1 73)), (1, .int x1), (2, .int (r1.2 73 11)), (3, .int 0), (4, .int 0)] [3, 4, 2, 1, 0] rfl ?_
    obtain ⟨s12, h15, hf⟩ := bd_some hf
    refine hL24 N x1 (r1.2 73 11) 0 0 r1.2 _ h15 ?_
    refine z_aload_n C dX12_laws_61 0 rfl ?_
    refine z_iload_n C dX12_laws_62 1 rfl ?_
    obtain ⟨σ13, h14, hf⟩ := nm_some hf
    refine z_put (T := TX12) (N := 39) (ci := 11) (ty := .int) C tyX12 tyX12_ok nmX12 (by decide) wc_mo rfl in_X12 11 (by decide) t_856 rfl rfl rfl rfl (Nat.le_of_ble_eq_true rfl) (pw_X12_11) dX12_laws_63 ?_
    rw [← h14]
    refine z_iload_n C dX12_laws_66 2 rfl ?_
    exact z_iret C dX12_laws_67 rfl (by rw [← Option.some.inj hf])
  · replace hf := ifp hf h3
    refine z_aload_n C dX12_laws_8 0 rfl ?_
    refine z_iconst (v := (-1)) C dX12_laws_9 (by decide) ?_
    obtain ⟨r16, h17, hf⟩ := bd_some hf
    refine z_callV (Y2 := YX12_no) (CC := RX12) (T := TX12) (N := 39) (ci := 11) (As := [.int (-1)]) C lk_X12_no (by decide) wc_mo rfl t_970 t_972 p_27 (Nat.le_of_ble_eq_true rfl) (Nat.le_of_ble_eq_true rfl) dX12_laws_10 (Nat.le_of_ble_eq_true rfl) rfl rfl (m_X12_no X.2.1 E N (-1) r1.2 _ h17) ?_
    change Zz E X YX12_laws (some (.int R.1), R.2) r16.2 _ _ [.int r16.1]
    exact z_iret C dX12_laws_13 rfl (by rw [← Option.some.inj hf])
theorem lk_X12_laws {Y : Yv} : Lk Y YX12_laws 1 := ⟨t_1210, t_13, ⟨by decide +kernel, by decide +kernel⟩, by decide +kernel⟩
abbrev YX12_chanceOf : Yv := (yX12_chanceOf, cX12_chanceOf, 6, some .int, 3, 75)
def f_X12_chanceOf_J65 (N : Nat) (a1 a3 a4 b0 : Int32) (σ : Sg) : Option (Int32 × Sg) :=
  if a1 = a3 then (some (b0, σ)) else (if a1 = a4 then (some (((100 : Int32) - b0), σ)) else (some (0, σ)))
def f_X12_chanceOf (N : Nat) (x1 x2 : Int32) (σ : Sg) : Option (Int32 × Sg) :=
  nm (sgs σ 73 33 0) (fun σ1 => (f_X12_firstBut N x2 (-1) σ1).bind (fun r3 => if 0 ≤ r3.1 then ((f_X12_firstBut N x2 r3.1 r3.2).bind (fun r6 => if 0 ≤ r6.1 then (if (r6.2 73 11) = 3 then (f_X12_chanceOf_J65 N x1 r3.1 r6.1 (r6.2 73 12) r6.2) else (f_X12_chanceOf_J65 N x1 r3.1 r6.1 ((100 : Int32) - (r6.2 73 12)) r6.2)) else (if x1 = r3.1 then (some (100, r6.2)) else (some (0, r6.2))))) else (some (0, r3.2))))
set_option maxHeartbeats 4000000 in
set_option maxRecDepth 20000 in
theorem m_X12_chanceOf (l : Launch) (E : Ev) (N : Nat) (x1 x2 : Int32) (σ : Sg) (R : Int32 × Sg) (hf : f_X12_chanceOf N x1 x2 σ = some R) : Ct l E YX12_chanceOf [.ref (E.2.1 73), .int x1, .int x2] σ (some (.int R.1), R.2) := by
  refine ct_of (by decide +kernel) (Nat.le_of_ble_eq_true rfl) [(0, .ref (E.2.1 73)), (1, .int x1), (2, .int x2)] rfl (fun X hX C => ?_)
  have hJ65 : ∀ (a1 a3 a4 b0 : Int32) (σ : Sg), f_X12_chanceOf_J65 N a1 a3 a4 b0 σ = some R → Zz E X YX12_chanceOf (some (.int R.1), R.2) σ 65 [(1, .int a1), (3, .int a3), (4, .int a4)] [.int b0] := by
    intro a1 a3 a4 b0 σ hf
    unfold f_X12_chanceOf_J65 at hf
    refine z_istore (lv' := [(5, .int b0), (1, .int a1), (3, .int a3), (4, .int a4)]) C dX12_chanceOf_65 (by decide) rfl ?_
    refine z_iload_n C dX12_chanceOf_67 1 rfl ?_
    refine z_iload_n C dX12_chanceOf_68 2 rfl ?_
    refine z_icmp_ne (tgt := 77) C dX12_chanceOf_69 (by decide) (fun h10 => ?_) (fun h10 => ?_)
    · replace hf := ifn hf h10
      refine z_iload_n C dX12_chanceOf_77 1 rfl ?_
      refine z_iload C dX12_chanceOf_78 3 rfl ?_
      refine z_icmp_ne (tgt := 91) C dX12_chanceOf_80 (by decide) (fun h11 => ?_) (fun h11 => ?_)
      · replace hf := ifn hf h11
        refine z_iconst (v := 0) C dX12_chanceOf_91 (by decide) ?_
        exact z_iret C dX12_chanceOf_92 rfl (by rw [← Option.some.inj hf])
      · replace hf := ifp hf h11
        refine z_bipush (v := 100) C dX12_chanceOf_83 (by decide) ?_
        refine z_iload C dX12_chanceOf_85 0 rfl ?_
        refine z_isub C dX12_chanceOf_87 ?_
        refine z_goto (tgt := 92) C dX12_chanceOf_88 (by decide) ?_
        exact z_iret C dX12_chanceOf_92 rfl (by rw [← Option.some.inj hf])
    · replace hf := ifp hf h10
      refine z_iload C dX12_chanceOf_72 0 rfl ?_
      refine z_goto (tgt := 92) C dX12_chanceOf_74 (by decide) ?_
      exact z_iret C dX12_chanceOf_92 rfl (by rw [← Option.some.inj hf])
  unfold f_X12_chanceOf at hf
  refine z_aload_n C dX12_chanceOf_0 0 rfl ?_
  refine z_iconst (v := 0) C dX12_chanceOf_1 (by decide) ?_
  obtain ⟨σ1, h2, hf⟩ := nm_some hf
  refine z_put (T := TX12) (N := 39) (ci := 11) (ty := .int) C tyX12 tyX12_ok nmX12 (by decide) wc_mo rfl in_X12 33 (by decide) t_878 rfl rfl rfl rfl (Nat.le_of_ble_eq_true rfl) (pw_X12_33) dX12_chanceOf_2 ?_
  rw [← h2]
  refine z_aload_n C dX12_chanceOf_5 0 rfl ?_
  refine z_iload_n C dX12_chanceOf_6 2 rfl ?_
  refine z_iconst (v := (-1)) C dX12_chanceOf_7 (by decide) ?_
  obtain ⟨r3, h4, hf⟩ := bd_some hf
  refine z_callV (Y2 := YX12_firstBut) (CC := RX12) (T := TX12) (N := 39) (ci := 11) (As := [.int x2, .int (-1)]) C lk_X12_firstBut (by decide) wc_mo rfl t_1070 t_1072 p_42 (Nat.le_of_ble_eq_true rfl) (Nat.le_of_ble_eq_true rfl) dX12_chanceOf_8 (Nat.le_of_ble_eq_true rfl) rfl rfl (m_X12_firstBut X.2.1 E N x2 (-1) σ1 _ h4) ?_
  change Zz E X YX12_chanceOf (some (.int R.1), R.2) r3.2 _ _ [.int r3.1]
  refine z_istore_n (lv' := [(3, .int r3.1), (0, .ref (E.2.1 73)), (1, .int x1), (2, .int x2)]) C dX12_chanceOf_11 (by decide) rfl ?_
  refine z_iload_n C dX12_chanceOf_12 0 rfl ?_
  refine z_if_ge (tgt := 18) C dX12_chanceOf_13 (by decide) (fun h5 => ?_) (fun h5 => ?_)
  · replace hf := ifp hf h5
    refine z_aload_n C dX12_chanceOf_18 1 rfl ?_
    refine z_iload_n C dX12_chanceOf_19 3 rfl ?_
    refine z_iload_n C dX12_chanceOf_20 0 rfl ?_
    obtain ⟨r6, h7, hf⟩ := bd_some hf
    refine z_callV (Y2 := YX12_firstBut) (CC := RX12) (T := TX12) (N := 39) (ci := 11) (As := [.int x2, .int r3.1]) C lk_X12_firstBut (by decide) wc_mo rfl t_1070 t_1072 p_42 (Nat.le_of_ble_eq_true rfl) (Nat.le_of_ble_eq_true rfl) dX12_chanceOf_21 (Nat.le_of_ble_eq_true rfl) rfl rfl (m_X12_firstBut X.2.1 E N x2 r3.1 r3.2 _ h7) ?_
    change Zz E X YX12_chanceOf (some (.int R.1), R.2) r6.2 _ _ [.int r6.1]
    refine z_istore (lv' := [(4, .int r6.1), (3, .int r3.1), (0, .ref (E.2.1 73)), (1, .int x1), (2, .int x2)]) C dX12_chanceOf_24 (by decide) rfl ?_
    refine z_iload C dX12_chanceOf_26 0 rfl ?_
    refine z_if_ge (tgt := 43) C dX12_chanceOf_28 (by decide) (fun h8 => ?_) (fun h8 => ?_)
    · replace hf := ifp hf h8
      refine z_aload_n C dX12_chanceOf_43 2 rfl ?_
      refine z_get (v := .int (r6.2 73 11)) (T := TX12) (N := 39) (ci := 11) C (by decide) wc_mo rfl in_X12 11 (by decide) t_856 rfl dX12_chanceOf_44 ?_
      refine z_iconst (v := 3) C dX12_chanceOf_47 (by decide) ?_
      refine z_icmp_ne (tgt := 58) C dX12_chanceOf_48 (by decide) (fun h9 => ?_) (fun h9 => ?_)
      · replace hf := ifn hf h9
        refine z_bipush (v := 100) C dX12_chanceOf_58 (by decide) ?_
        refine z_aload_n C dX12_chanceOf_60 2 rfl ?_
        refine z_get (v := .int (r6.2 73 12)) (T := TX12) (N := 39) (ci := 11) C (by decide) wc_mo rfl in_X12 12 (by decide) t_857 rfl dX12_chanceOf_61 ?_
        refine z_isub C dX12_chanceOf_64 ?_
        refine z_sub [(1, .int x1), (3, .int r3.1), (4, .int r6.1)] [3, 1, 0] rfl ?_
        exact hJ65 x1 r3.1 r6.1 ((100 : Int32) - (r6.2 73 12)) r6.2 hf
      · replace hf := ifp hf h9
        refine z_aload_n C dX12_chanceOf_51 2 rfl ?_
        refine z_get (v := .int (r6.2 73 12)) (T := TX12) (N := 39) (ci := 11) C (by decide) wc_mo rfl in_X12 12 (by decide) t_857 rfl dX12_chanceOf_52 ?_
        refine z_goto (tgt := 65) C dX12_chanceOf_55 (by decide) ?_
        refine z_sub [(1, .int x1), (3, .int r3.1), (4, .int r6.1)] [3, 1, 0] rfl ?_
        exact hJ65 x1 r3.1 r6.1 (r6.2 73 12) r6.2 hf
    · replace hf := ifn hf h8
      refine z_iload_n C dX12_chanceOf_31 3 rfl ?_
      refine z_iload_n C dX12_chanceOf_32 1 rfl ?_
      refine z_icmp_ne (tgt := 41) C dX12_chanceOf_33 (by decide) (fun h12 => ?_) (fun h12 => ?_)
      · replace hf := ifn hf h12
        refine z_iconst (v := 0) C dX12_chanceOf_41 (by decide) ?_
        exact z_iret C dX12_chanceOf_42 rfl (by rw [← Option.some.inj hf])
      · replace hf := ifp hf h12
        refine z_bipush (v := 100) C dX12_chanceOf_36 (by decide) ?_
        refine z_goto (tgt := 42) C dX12_chanceOf_38 (by decide) ?_
        exact z_iret C dX12_chanceOf_42 rfl (by rw [← Option.some.inj hf])
  · replace hf := ifn hf h5
    refine z_iconst (v := 0) C dX12_chanceOf_16 (by decide) ?_
    exact z_iret C dX12_chanceOf_17 rfl (by rw [← Option.some.inj hf])
theorem lk_X12_chanceOf {Y : Yv} : Lk Y YX12_chanceOf 2 := ⟨t_1218, t_13, ⟨by decide +kernel, by decide +kernel⟩, by decide +kernel⟩
abbrev YX12_divisor : Yv := (yX12_divisor, cX12_divisor, 5, some .int, 0, 0)
def f_X12_divisor_B4 (N : Nat) (rec : Int32 → Int32 → Sg → Option (Int32 × Sg)) (a2 a3 : Int32) (σ : Sg) : Option (Int32 × Sg) :=
  if a3 = 0 then (some (a2, σ)) else (gd a3 (rec a3 (jrem a2 a3) σ))
def f_X12_divisor_L4 (N : Nat) : Nat → Int32 → Int32 → Sg → Option (Int32 × Sg)
  | 0 => fun _ _ _ => none
  | k + 1 => fun a2 a3 σ => f_X12_divisor_B4 N (f_X12_divisor_L4 N k) a2 a3 σ
def f_X12_divisor (N : Nat) (x1 x2 : Int32) (σ : Sg) : Option (Int32 × Sg) :=
  (f_X12_divisor_L4 N N x1 x2 σ).bind (fun s3 => some (s3.1, s3.2))
set_option maxHeartbeats 4000000 in
set_option maxRecDepth 20000 in
theorem m_X12_divisor (l : Launch) (E : Ev) (N : Nat) (x1 x2 : Int32) (σ : Sg) (R : Int32 × Sg) (hf : f_X12_divisor N x1 x2 σ = some R) : Ct l E YX12_divisor [.int x1, .int x2] σ (some (.int R.1), R.2) := by
  refine ct_of (by decide +kernel) (Nat.le_of_ble_eq_true rfl) [(0, .int x1), (1, .int x2)] rfl (fun X hX C => ?_)
  have hL4 : ∀ (k : Nat) (a2 a3 : Int32) (σ : Sg) (Q4 : Int32 × Sg), f_X12_divisor_L4 N k a2 a3 σ = some Q4 → (Zz E X YX12_divisor (some (.int R.1), R.2) Q4.2 21 [(2, .int Q4.1)] []) → Zz E X YX12_divisor (some (.int R.1), R.2) σ 4 [(2, .int a2), (3, .int a3)] [] := by
    intro k
    induction k with
    | zero =>
      intro a2 a3 σ Q4 hf
      have hf : (none : Option (Int32 × Sg)) = some Q4 := hf
      cases hf
    | succ k ih =>
      intro a2 a3 σ Q4 hf hx4
      have hf : f_X12_divisor_B4 N (f_X12_divisor_L4 N k) a2 a3 σ = some Q4 := hf
      unfold f_X12_divisor_B4 at hf
      refine z_iload_n C dX12_divisor_4 1 rfl ?_
      refine z_if_eq (tgt := 21) C dX12_divisor_5 (by decide) (fun h1 => ?_) (fun h1 => ?_)
      · replace hf := ifp hf h1
        refine z_sub [(2, .int a2)] [0] rfl ?_
        obtain rfl := Option.some.inj hf
        exact hx4
      · replace hf := ifn hf h1
        refine z_iload_n C dX12_divisor_8 0 rfl ?_
        refine z_iload_n C dX12_divisor_9 1 rfl ?_
        obtain ⟨h2, hf⟩ := gd_some hf
        refine z_irem C dX12_divisor_10 h2 ?_
        refine z_istore (lv' := [(4, .int (jrem a2 a3)), (2, .int a2), (3, .int a3)]) C dX12_divisor_11 (by decide) rfl ?_
        refine z_iload_n C dX12_divisor_13 2 rfl ?_
        refine z_istore_n (lv' := [(2, .int a3), (4, .int (jrem a2 a3)), (3, .int a3)]) C dX12_divisor_14 (by decide) rfl ?_
        refine z_iload C dX12_divisor_15 1 rfl ?_
        refine z_istore_n (lv' := [(3, .int (jrem a2 a3)), (2, .int a3), (4, .int (jrem a2 a3))]) C dX12_divisor_17 (by decide) rfl ?_
        refine z_goto (tgt := 4) C dX12_divisor_18 (by decide) ?_
        refine z_sub [(2, .int a3), (3, .int (jrem a2 a3))] [1, 0] rfl ?_
        exact ih a3 (jrem a2 a3) σ _ hf hx4
  unfold f_X12_divisor at hf
  refine z_iload_n C dX12_divisor_0 0 rfl ?_
  refine z_istore_n (lv' := [(2, .int x1), (0, .int x1), (1, .int x2)]) C dX12_divisor_1 (by decide) rfl ?_
  refine z_iload_n C dX12_divisor_2 2 rfl ?_
  refine z_istore_n (lv' := [(3, .int x2), (2, .int x1), (0, .int x1), (1, .int x2)]) C dX12_divisor_3 (by decide) rfl ?_
  refine z_sub [(2, .int x1), (3, .int x2)] [1, 0] rfl ?_
  obtain ⟨s3, h4, hf⟩ := bd_some hf
  refine hL4 N x1 x2 σ _ h4 ?_
  refine z_iload_n C dX12_divisor_21 0 rfl ?_
  exact z_iret C dX12_divisor_22 rfl (by rw [← Option.some.inj hf])
theorem lk_X12_divisor {Y : Yv} : Lk Y YX12_divisor 2 := ⟨t_1221, t_13, ⟨by decide +kernel, by decide +kernel⟩, by decide +kernel⟩
abbrev YX12_eye : Yv := (yX12_eye, cX12_eye, 5, some .int, 4, 100)
def f_X12_eye_J15 (N : Nat) (σ : Sg) : Option (Int32 × Sg) :=
  (f_X12_no N (-1) σ).bind (fun r4 => some (r4.1, r4.2))
def f_X12_eye_J56 (N : Nat) (a4 b0 : Int32) (σ : Sg) : Option (Int32 × Sg) :=
  (f_X12_divisor N a4 100 σ).bind (fun r15 => gd r15.1 (some ((b0 / r15.1), r15.2)))
def f_X12_eye (N : Nat) (x1 x2 x3 : Int32) (σ : Sg) : Option (Int32 × Sg) :=
  (f_X12_isPerson N x1 σ).bind (fun r1 => if r1.1 = 0 then (f_X12_eye_J15 N r1.2) else ((f_X12_isLetter N x2 r1.2).bind (fun r6 => if r6.1 = 0 then (f_X12_eye_J15 N r6.2) else ((f_X12_isIn N x3 0 1 r6.2).bind (fun r9 => if r9.1 = 0 then ((f_X12_no N (-2) r9.2).bind (fun r18 => some (r18.1, r18.2))) else ((f_X12_chanceOf N x1 x2 r9.2).bind (fun r12 => if x3 = 0 then (f_X12_eye_J56 N r12.1 r12.1 r12.2) else (f_X12_eye_J56 N r12.1 100 r12.2))))))))
set_option maxHeartbeats 4000000 in
set_option maxRecDepth 20000 in
theorem m_X12_eye (l : Launch) (E : Ev) (N : Nat) (x1 x2 x3 : Int32) (σ : Sg) (R : Int32 × Sg) (hf : f_X12_eye N x1 x2 x3 σ = some R) : Ct l E YX12_eye [.ref (E.2.1 73), .int x1, .int x2, .int x3] σ (some (.int R.1), R.2) := by
  refine ct_of (by decide +kernel) (Nat.le_of_ble_eq_true rfl) [(0, .ref (E.2.1 73)), (1, .int x1), (2, .int x2), (3, .int x3)] rfl (fun X hX C => ?_)
  have hJ15 : ∀ (σ : Sg), f_X12_eye_J15 N σ = some R → Zz E X YX12_eye (some (.int R.1), R.2) σ 15 [(0, .ref (E.2.1 73))] [] := by
    intro σ hf
    unfold f_X12_eye_J15 at hf
    refine z_aload_n C dX12_eye_15 0 rfl ?_
    refine z_iconst (v := (-1)) C dX12_eye_16 (by decide) ?_
    obtain ⟨r4, h5, hf⟩ := bd_some hf
    refine z_callV (Y2 := YX12_no) (CC := RX12) (T := TX12) (N := 39) (ci := 11) (As := [.int (-1)]) C lk_X12_no (by decide) wc_mo rfl t_970 t_972 p_27 (Nat.le_of_ble_eq_true rfl) (Nat.le_of_ble_eq_true rfl) dX12_eye_17 (Nat.le_of_ble_eq_true rfl) rfl rfl (m_X12_no X.2.1 E N (-1) σ _ h5) ?_
    change Zz E X YX12_eye (some (.int R.1), R.2) r4.2 _ _ [.int r4.1]
    exact z_iret C dX12_eye_20 rfl (by rw [← Option.some.inj hf])
  have hJ56 : ∀ (a4 b0 : Int32) (σ : Sg), f_X12_eye_J56 N a4 b0 σ = some R → Zz E X YX12_eye (some (.int R.1), R.2) σ 56 [(4, .int a4)] [.int b0] := by
    intro a4 b0 σ hf
    unfold f_X12_eye_J56 at hf
    refine z_iload C dX12_eye_56 0 rfl ?_
    refine z_bipush (v := 100) C dX12_eye_58 (by decide) ?_
    obtain ⟨r15, h16, hf⟩ := bd_some hf
    refine z_callS (Y2 := YX12_divisor) (As := [.int a4, .int 100]) C lk_X12_divisor t_1219 t_1220 (Nat.le_of_ble_eq_true rfl) (Nat.le_of_ble_eq_true rfl) dX12_eye_60 (Nat.le_of_ble_eq_true rfl) rfl rfl (m_X12_divisor X.2.1 E N a4 100 σ _ h16) ?_
    change Zz E X YX12_eye (some (.int R.1), R.2) r15.2 _ _ [.int r15.1, .int b0]
    obtain ⟨h17, hf⟩ := gd_some hf
    refine z_idiv C dX12_eye_63 h17 ?_
    exact z_iret C dX12_eye_64 rfl (by rw [← Option.some.inj hf])
  unfold f_X12_eye at hf
  refine z_aload_n C dX12_eye_0 0 rfl ?_
  refine z_iload_n C dX12_eye_1 1 rfl ?_
  obtain ⟨r1, h2, hf⟩ := bd_some hf
  refine z_callV (Y2 := YX12_isPerson) (CC := RX12) (T := TX12) (N := 39) (ci := 11) (As := [.int x1]) C lk_X12_isPerson (by decide) wc_mo rfl t_1024 t_1026 p_38 (Nat.le_of_ble_eq_true rfl) (Nat.le_of_ble_eq_true rfl) dX12_eye_2 (Nat.le_of_ble_eq_true rfl) rfl rfl (m_X12_isPerson X.2.1 E N x1 σ _ h2) ?_
  change Zz E X YX12_eye (some (.int R.1), R.2) r1.2 _ _ [.int r1.1]
  refine z_if_eq (tgt := 15) C dX12_eye_5 (by decide) (fun h3 => ?_) (fun h3 => ?_)
  · replace hf := ifp hf h3
    refine z_sub [(0, .ref (E.2.1 73))] [0] rfl ?_
    exact hJ15 r1.2 hf
  · replace hf := ifn hf h3
    refine z_iload_n C dX12_eye_8 2 rfl ?_
    obtain ⟨r6, h7, hf⟩ := bd_some hf
    refine z_callS (Y2 := YX12_isLetter) (As := [.int x2]) C lk_X12_isLetter t_1052 t_1053 (Nat.le_of_ble_eq_true rfl) (Nat.le_of_ble_eq_true rfl) dX12_eye_9 (Nat.le_of_ble_eq_true rfl) rfl rfl (m_X12_isLetter X.2.1 E N x2 r1.2 _ h7) ?_
    change Zz E X YX12_eye (some (.int R.1), R.2) r6.2 _ _ [.int r6.1]
    refine z_if_ne (tgt := 21) C dX12_eye_12 (by decide) (fun h8 => ?_) (fun h8 => ?_)
    · replace hf := ifn hf h8
      refine z_iload_n C dX12_eye_21 3 rfl ?_
      refine z_iconst (v := 0) C dX12_eye_22 (by decide) ?_
      refine z_iconst (v := 1) C dX12_eye_23 (by decide) ?_
      obtain ⟨r9, h10, hf⟩ := bd_some hf
      refine z_callS (Y2 := YX12_isIn) (As := [.int x3, .int 0, .int 1]) C lk_X12_isIn t_994 t_995 (Nat.le_of_ble_eq_true rfl) (Nat.le_of_ble_eq_true rfl) dX12_eye_24 (Nat.le_of_ble_eq_true rfl) rfl rfl (m_X12_isIn X.2.1 E N x3 0 1 r6.2 _ h10) ?_
      change Zz E X YX12_eye (some (.int R.1), R.2) r9.2 _ _ [.int r9.1]
      refine z_if_ne (tgt := 37) C dX12_eye_27 (by decide) (fun h11 => ?_) (fun h11 => ?_)
      · replace hf := ifn hf h11
        refine z_aload_n C dX12_eye_37 0 rfl ?_
        refine z_iload_n C dX12_eye_38 1 rfl ?_
        refine z_iload_n C dX12_eye_39 2 rfl ?_
        obtain ⟨r12, h13, hf⟩ := bd_some hf
        refine z_callV (Y2 := YX12_chanceOf) (CC := RX12) (T := TX12) (N := 39) (ci := 11) (As := [.int x1, .int x2]) C lk_X12_chanceOf (by decide) wc_mo rfl t_1215 t_1217 p_58 (Nat.le_of_ble_eq_true rfl) (Nat.le_of_ble_eq_true rfl) dX12_eye_40 (Nat.le_of_ble_eq_true rfl) rfl rfl (m_X12_chanceOf X.2.1 E N x1 x2 r9.2 _ h13) ?_
        change Zz E X YX12_eye (some (.int R.1), R.2) r12.2 _ _ [.int r12.1]
        refine z_istore (lv' := [(4, .int r12.1), (0, .ref (E.2.1 73)), (1, .int x1), (2, .int x2), (3, .int x3)]) C dX12_eye_43 (by decide) rfl ?_
        refine z_iload_n C dX12_eye_45 4 rfl ?_
        refine z_if_ne (tgt := 54) C dX12_eye_46 (by decide) (fun h14 => ?_) (fun h14 => ?_)
        · replace hf := ifn hf h14
          refine z_bipush (v := 100) C dX12_eye_54 (by decide) ?_
          refine z_sub [(4, .int r12.1)] [0] rfl ?_
          exact hJ56 r12.1 100 r12.2 hf
        · replace hf := ifp hf h14
          refine z_iload C dX12_eye_49 0 rfl ?_
          refine z_goto (tgt := 56) C dX12_eye_51 (by decide) ?_
          refine z_sub [(4, .int r12.1)] [0] rfl ?_
          exact hJ56 r12.1 r12.1 r12.2 hf
      · replace hf := ifp hf h11
        refine z_aload_n C dX12_eye_30 0 rfl ?_
        refine z_bipush (v := (-2)) C dX12_eye_31 (by decide) ?_
        obtain ⟨r18, h19, hf⟩ := bd_some hf
        refine z_callV (Y2 := YX12_no) (CC := RX12) (T := TX12) (N := 39) (ci := 11) (As := [.int (-2)]) C lk_X12_no (by decide) wc_mo rfl t_970 t_972 p_27 (Nat.le_of_ble_eq_true rfl) (Nat.le_of_ble_eq_true rfl) dX12_eye_33 (Nat.le_of_ble_eq_true rfl) rfl rfl (m_X12_no X.2.1 E N (-2) r9.2 _ h19) ?_
        change Zz E X YX12_eye (some (.int R.1), R.2) r18.2 _ _ [.int r18.1]
        exact z_iret C dX12_eye_36 rfl (by rw [← Option.some.inj hf])
    · replace hf := ifp hf h8
      refine z_sub [(0, .ref (E.2.1 73))] [0] rfl ?_
      exact hJ15 r6.2 hf
theorem lk_X12_eye {Y : Yv} : Lk Y YX12_eye 3 := ⟨t_1214, t_13, ⟨by decide +kernel, by decide +kernel⟩, by decide +kernel⟩
abbrev YX12_surest : Yv := (yX12_surest, cX12_surest, 6, some .int, 4, 100)
def f_X12_surest_J76 (N : Nat) (rec : Int32 → Int32 → Int32 → Int32 → Sg → Option (Int32 × Sg)) (a1 a4 a5 : Int32) (σ : Sg) : Option (Int32 × Sg) :=
  (f_X12_two N a4 σ).bind (fun r12 => rec a1 r12.1 a5 (a4 + 1) r12.2)
def f_X12_surest_B22 (N : Nat) (rec : Int32 → Int32 → Int32 → Int32 → Sg → Option (Int32 × Sg)) (a1 a2 a3 a4 : Int32) (σ : Sg) : Option (Int32 × Sg) :=
  if 81 ≤ a4 then (some (a2, σ)) else ((f_X12_two N a4 σ).bind (fun r5 => (f_X12_chanceOf N a1 r5.1 r5.2).bind (fun r7 => if r7.1 < a3 then (rec a1 a2 a3 (a4 + 1) r7.2) else (if r7.1 = 0 then (rec a1 a2 a3 (a4 + 1) r7.2) else (if r7.1 = a3 then ((f_X12_two N a4 r7.2).bind (fun r14 => (f_X12_cost N r14.1 r14.2).bind (fun r16 => (f_X12_cost N a2 r16.2).bind (fun r18 => if r16.1 < r18.1 then (f_X12_surest_J76 N rec a1 a4 r7.1 r18.2) else (rec a1 a2 a3 (a4 + 1) r18.2))))) else (f_X12_surest_J76 N rec a1 a4 r7.1 r7.2))))))
def f_X12_surest_L22 (N : Nat) : Nat → Int32 → Int32 → Int32 → Int32 → Sg → Option (Int32 × Sg)
  | 0 => fun _ _ _ _ _ => none
  | k + 1 => fun a1 a2 a3 a4 σ => f_X12_surest_B22 N (f_X12_surest_L22 N k) a1 a2 a3 a4 σ
def f_X12_surest (N : Nat) (x1 : Int32) (σ : Sg) : Option (Int32 × Sg) :=
  (f_X12_isPerson N x1 σ).bind (fun r1 => if r1.1 = 0 then ((f_X12_no N (-1) r1.2).bind (fun r23 => some (r23.1, r23.2))) else ((f_X12_surest_L22 N N x1 (-9) 0 0 r1.2).bind (fun s21 => some (s21.1, s21.2))))
set_option maxHeartbeats 4000000 in
set_option maxRecDepth 20000 in
theorem m_X12_surest (l : Launch) (E : Ev) (N : Nat) (x1 : Int32) (σ : Sg) (R : Int32 × Sg) (hf : f_X12_surest N x1 σ = some R) : Ct l E YX12_surest [.ref (E.2.1 73), .int x1] σ (some (.int R.1), R.2) := by
  refine ct_of (by decide +kernel) (Nat.le_of_ble_eq_true rfl) [(0, .ref (E.2.1 73)), (1, .int x1)] rfl (fun X hX C => ?_)
  have hL22 : ∀ (k : Nat) (a1 a2 a3 a4 : Int32) (σ : Sg) (Q22 : Int32 × Sg), f_X12_surest_L22 N k a1 a2 a3 a4 σ = some Q22 → (Zz E X YX12_surest (some (.int R.1), R.2) Q22.2 91 [(2, .int Q22.1)] []) → Zz E X YX12_surest (some (.int R.1), R.2) σ 22 [(0, .ref (E.2.1 73)), (1, .int a1), (2, .int a2), (3, .int a3), (4, .int a4)] [] := by
    intro k
    induction k with
    | zero =>
      intro a1 a2 a3 a4 σ Q22 hf
      have hf : (none : Option (Int32 × Sg)) = some Q22 := hf
      cases hf
    | succ k ih =>
      intro a1 a2 a3 a4 σ Q22 hf hx22
      have hf : f_X12_surest_B22 N (f_X12_surest_L22 N k) a1 a2 a3 a4 σ = some Q22 := hf
      have hJ76 : ∀ (a1 a4 a5 : Int32) (σ : Sg), f_X12_surest_J76 N (f_X12_surest_L22 N k) a1 a4 a5 σ = some Q22 → Zz E X YX12_surest (some (.int R.1), R.2) σ 76 [(0, .ref (E.2.1 73)), (1, .int a1), (4, .int a4), (5, .int a5)] [] := by
        intro a1 a4 a5 σ hf
        unfold f_X12_surest_J76 at hf
        refine z_iload C dX12_surest_76 2 rfl ?_
        obtain ⟨r12, h13, hf⟩ := bd_some hf
        refine z_callS (Y2 := YX12_two) (As := [.int a4]) C lk_X12_two t_1110 t_1111 (Nat.le_of_ble_eq_true rfl) (Nat.le_of_ble_eq_true rfl) dX12_surest_78 (Nat.le_of_ble_eq_true rfl) rfl rfl (m_X12_two X.2.1 E N a4 σ _ h13) ?_
        change Zz E X YX12_surest (some (.int R.1), R.2) r12.2 _ _ [.int r12.1]
        refine z_istore_n (lv' := [(2, .int r12.1), (0, .ref (E.2.1 73)), (1, .int a1), (4, .int a4), (5, .int a5)]) C dX12_surest_81 (by decide) rfl ?_
        refine z_iload C dX12_surest_82 4 rfl ?_
        refine z_istore_n (lv' := [(3, .int a5), (2, .int r12.1), (0, .ref (E.2.1 73)), (1, .int a1), (4, .int a4), (5, .int a5)]) C dX12_surest_84 (by decide) rfl ?_
        refine z_iinc (v := (a4 + 1)) (lv' := [(4, .int (a4 + 1)), (3, .int a5), (2, .int r12.1), (0, .ref (E.2.1 73)), (1, .int a1), (5, .int a5)]) C dX12_surest_85 4 rfl rfl (by decide) rfl ?_
        refine z_goto (tgt := 22) C dX12_surest_88 (by decide) ?_
        refine z_sub [(0, .ref (E.2.1 73)), (1, .int a1), (2, .int r12.1), (3, .int a5), (4, .int (a4 + 1))] [3, 4, 2, 1, 0] rfl ?_
        exact ih a1 r12.1 a5 (a4 + 1) r12.2 _ hf hx22
      unfold f_X12_surest_B22 at hf
      refine z_iload C dX12_surest_22 4 rfl ?_
      refine z_bipush (v := 81) C dX12_surest_24 (by decide) ?_
      refine z_icmp_ge (tgt := 91) C dX12_surest_26 (by decide) (fun h4 => ?_) (fun h4 => ?_)
      · replace hf := ifp hf h4
        refine z_sub [(2, .int a2)] [2] rfl ?_
        obtain rfl := Option.some.inj hf
        exact hx22
      · replace hf := ifn hf h4
        refine z_aload_n C dX12_surest_29 0 rfl ?_
        refine z_iload_n C dX12_surest_30 1 rfl ?_
        refine z_iload C dX12_surest_31 4 rfl ?_
        obtain ⟨r5, h6, hf⟩ := bd_some hf
        refine z_callS (Y2 := YX12_two) (As := [.int a4]) C lk_X12_two t_1110 t_1111 (Nat.le_of_ble_eq_true rfl) (Nat.le_of_ble_eq_true rfl) dX12_surest_33 (Nat.le_of_ble_eq_true rfl) rfl rfl (m_X12_two X.2.1 E N a4 σ _ h6) ?_
        change Zz E X YX12_surest (some (.int R.1), R.2) r5.2 _ _ [.int r5.1, .int a1, .ref (E.2.1 73)]
        obtain ⟨r7, h8, hf⟩ := bd_some hf
        refine z_callV (Y2 := YX12_chanceOf) (CC := RX12) (T := TX12) (N := 39) (ci := 11) (As := [.int a1, .int r5.1]) C lk_X12_chanceOf (by decide) wc_mo rfl t_1215 t_1217 p_58 (Nat.le_of_ble_eq_true rfl) (Nat.le_of_ble_eq_true rfl) dX12_surest_36 (Nat.le_of_ble_eq_true rfl) rfl rfl (m_X12_chanceOf X.2.1 E N a1 r5.1 r5.2 _ h8) ?_
        change Zz E X YX12_surest (some (.int R.1), R.2) r7.2 _ _ [.int r7.1]
        refine z_istore (lv' := [(5, .int r7.1), (0, .ref (E.2.1 73)), (1, .int a1), (2, .int a2), (3, .int a3), (4, .int a4)]) C dX12_surest_39 (by decide) rfl ?_
        refine z_iload C dX12_surest_41 0 rfl ?_
        refine z_iload_n C dX12_surest_43 4 rfl ?_
        refine z_icmp_lt (tgt := 85) C dX12_surest_44 (by decide) (fun h9 => ?_) (fun h9 => ?_)
        · replace hf := ifp hf h9
          refine z_iinc (v := (a4 + 1)) (lv' := [(4, .int (a4 + 1)), (5, .int r7.1), (0, .ref (E.2.1 73)), (1, .int a1), (2, .int a2), (3, .int a3)]) C dX12_surest_85 5 rfl rfl (by decide) rfl ?_
          refine z_goto (tgt := 22) C dX12_surest_88 (by decide) ?_
          refine z_sub [(0, .ref (E.2.1 73)), (1, .int a1), (2, .int a2), (3, .int a3), (4, .int (a4 + 1))] [2, 3, 4, 5, 0] rfl ?_
          exact ih a1 a2 a3 (a4 + 1) r7.2 _ hf hx22
        · replace hf := ifn hf h9
          refine z_iload C dX12_surest_47 0 rfl ?_
          refine z_if_eq (tgt := 85) C dX12_surest_49 (by decide) (fun h10 => ?_) (fun h10 => ?_)
          · replace hf := ifp hf h10
            refine z_iinc (v := (a4 + 1)) (lv' := [(4, .int (a4 + 1)), (5, .int r7.1), (0, .ref (E.2.1 73)), (1, .int a1), (2, .int a2), (3, .int a3)]) C dX12_surest_85 5 rfl rfl (by decide) rfl ?_
            refine z_goto (tgt := 22) C dX12_surest_88 (by decide) ?_
            refine z_sub [(0, .ref (E.2.1 73)), (1, .int a1), (2, .int a2), (3, .int a3), (4, .int (a4 + 1))] [2, 3, 4, 5, 0] rfl ?_
            exact ih a1 a2 a3 (a4 + 1) r7.2 _ hf hx22
          · replace hf := ifn hf h10
            refine z_iload C dX12_surest_52 0 rfl ?_
            refine z_iload_n C dX12_surest_54 4 rfl ?_
            refine z_icmp_ne (tgt := 76) C dX12_surest_55 (by decide) (fun h11 => ?_) (fun h11 => ?_)
            · replace hf := ifn hf h11
              refine z_sub [(0, .ref (E.2.1 73)), (1, .int a1), (4, .int a4), (5, .int r7.1)] [1, 2, 5, 0] rfl ?_
              exact hJ76 a1 a4 r7.1 r7.2 hf
            · replace hf := ifp hf h11
              refine z_iload C dX12_surest_58 5 rfl ?_
              obtain ⟨r14, h15, hf⟩ := bd_some hf
              refine z_callS (Y2 := YX12_two) (As := [.int a4]) C lk_X12_two t_1110 t_1111 (Nat.le_of_ble_eq_true rfl) (Nat.le_of_ble_eq_true rfl) dX12_surest_60 (Nat.le_of_ble_eq_true rfl) rfl rfl (m_X12_two X.2.1 E N a4 r7.2 _ h15) ?_
              change Zz E X YX12_surest (some (.int R.1), R.2) r14.2 _ _ [.int r14.1]
              obtain ⟨r16, h17, hf⟩ := bd_some hf
              refine z_callS (Y2 := YX12_cost) (As := [.int r14.1]) C lk_X12_cost t_1113 t_1114 (Nat.le_of_ble_eq_true rfl) (Nat.le_of_ble_eq_true rfl) dX12_surest_63 (Nat.le_of_ble_eq_true rfl) rfl rfl (m_X12_cost X.2.1 E N r14.1 r14.2 _ h17) ?_
              change Zz E X YX12_surest (some (.int R.1), R.2) r16.2 _ _ [.int r16.1]
              refine z_iload_n C dX12_surest_66 3 rfl ?_
              obtain ⟨r18, h19, hf⟩ := bd_some hf
              refine z_callS (Y2 := YX12_cost) (As := [.int a2]) C lk_X12_cost t_1113 t_1114 (Nat.le_of_ble_eq_true rfl) (Nat.le_of_ble_eq_true rfl) dX12_surest_67 (Nat.le_of_ble_eq_true rfl) rfl rfl (m_X12_cost X.2.1 E N a2 r16.2 _ h19) ?_
              change Zz E X YX12_surest (some (.int R.1), R.2) r18.2 _ _ [.int r18.1, .int r16.1]
              refine z_icmp_lt (tgt := 76) C dX12_surest_70 (by decide) (fun h20 => ?_) (fun h20 => ?_)
              · replace hf := ifp hf h20
                refine z_sub [(0, .ref (E.2.1 73)), (1, .int a1), (4, .int a4), (5, .int r7.1)] [1, 2, 5, 0] rfl ?_
                exact hJ76 a1 a4 r7.1 r18.2 hf
              · replace hf := ifn hf h20
                refine z_goto (tgt := 85) C dX12_surest_73 (by decide) ?_
                refine z_iinc (v := (a4 + 1)) (lv' := [(4, .int (a4 + 1)), (5, .int r7.1), (0, .ref (E.2.1 73)), (1, .int a1), (2, .int a2), (3, .int a3)]) C dX12_surest_85 5 rfl rfl (by decide) rfl ?_
                refine z_goto (tgt := 22) C dX12_surest_88 (by decide) ?_
                refine z_sub [(0, .ref (E.2.1 73)), (1, .int a1), (2, .int a2), (3, .int a3), (4, .int (a4 + 1))] [2, 3, 4, 5, 0] rfl ?_
                exact ih a1 a2 a3 (a4 + 1) r18.2 _ hf hx22
  unfold f_X12_surest at hf
  refine z_aload_n C dX12_surest_0 0 rfl ?_
  refine z_iload_n C dX12_surest_1 1 rfl ?_
  obtain ⟨r1, h2, hf⟩ := bd_some hf
  refine z_callV (Y2 := YX12_isPerson) (CC := RX12) (T := TX12) (N := 39) (ci := 11) (As := [.int x1]) C lk_X12_isPerson (by decide) wc_mo rfl t_1024 t_1026 p_38 (Nat.le_of_ble_eq_true rfl) (Nat.le_of_ble_eq_true rfl) dX12_surest_2 (Nat.le_of_ble_eq_true rfl) rfl rfl (m_X12_isPerson X.2.1 E N x1 σ _ h2) ?_
  change Zz E X YX12_surest (some (.int R.1), R.2) r1.2 _ _ [.int r1.1]
  refine z_if_ne (tgt := 14) C dX12_surest_5 (by decide) (fun h3 => ?_) (fun h3 => ?_)
  · replace hf := ifn hf h3
    refine z_bipush (v := (-9)) C dX12_surest_14 (by decide) ?_
    refine z_istore_n (lv' := [(2, .int (-9)), (0, .ref (E.2.1 73)), (1, .int x1)]) C dX12_surest_16 (by decide) rfl ?_
    refine z_iconst (v := 0) C dX12_surest_17 (by decide) ?_
    refine z_istore_n (lv' := [(3, .int 0), (2, .int (-9)), (0, .ref (E.2.1 73)), (1, .int x1)]) C dX12_surest_18 (by decide) rfl ?_
    refine z_iconst (v := 0) C dX12_surest_19 (by decide) ?_
    refine z_istore (lv' := [(4, .int 0), (3, .int 0), (2, .int (-9)), (0, .ref (E.2.1 73)), (1, .int x1)]) C dX12_surest_20 (by decide) rfl ?_
    refine z_sub [(0, .ref (E.2.1 73)), (1, .int x1), (2, .int (-9)), (3, .int 0), (4, .int 0)] [3, 4, 2, 1, 0] rfl ?_
    obtain ⟨s21, h22, hf⟩ := bd_some hf
    refine hL22 N x1 (-9) 0 0 r1.2 _ h22 ?_
    refine z_iload_n C dX12_surest_91 0 rfl ?_
    exact z_iret C dX12_surest_92 rfl (by rw [← Option.some.inj hf])
  · replace hf := ifp hf h3
    refine z_aload_n C dX12_surest_8 0 rfl ?_
    refine z_iconst (v := (-1)) C dX12_surest_9 (by decide) ?_
    obtain ⟨r23, h24, hf⟩ := bd_some hf
    refine z_callV (Y2 := YX12_no) (CC := RX12) (T := TX12) (N := 39) (ci := 11) (As := [.int (-1)]) C lk_X12_no (by decide) wc_mo rfl t_970 t_972 p_27 (Nat.le_of_ble_eq_true rfl) (Nat.le_of_ble_eq_true rfl) dX12_surest_10 (Nat.le_of_ble_eq_true rfl) rfl rfl (m_X12_no X.2.1 E N (-1) r1.2 _ h24) ?_
    change Zz E X YX12_surest (some (.int R.1), R.2) r23.2 _ _ [.int r23.1]
    exact z_iret C dX12_surest_13 rfl (by rw [← Option.some.inj hf])
theorem lk_X12_surest {Y : Yv} : Lk Y YX12_surest 1 := ⟨t_1225, t_13, ⟨by decide +kernel, by decide +kernel⟩, by decide +kernel⟩
abbrev YX12_aimOf : Yv := (yX12_aimOf, cX12_aimOf, 3, some .int, 5, 121)
def f_X12_aimOf (N : Nat) (x1 : Int32) (σ : Sg) : Option (Int32 × Sg) :=
  ga x1 4 ((f_X12_canOf N (σ 78 (Int32.toNatClampNeg x1)) σ).bind (fun r2 => if 0 ≤ r2.1 then (some (r2.1, r2.2)) else (ga x1 4 (some ((r2.2 79 (Int32.toNatClampNeg x1)), r2.2)))))
set_option maxHeartbeats 4000000 in
set_option maxRecDepth 20000 in
theorem m_X12_aimOf (l : Launch) (E : Ev) (N : Nat) (x1 : Int32) (σ : Sg) (R : Int32 × Sg) (hf : f_X12_aimOf N x1 σ = some R) : Ct l E YX12_aimOf [.ref (E.2.1 73), .int x1] σ (some (.int R.1), R.2) := by
  refine ct_of (by decide +kernel) (Nat.le_of_ble_eq_true rfl) [(0, .ref (E.2.1 73)), (1, .int x1)] rfl (fun X hX C => ?_)
  unfold f_X12_aimOf at hf
  refine z_aload_n C dX12_aimOf_0 0 rfl ?_
  refine z_aload_n C dX12_aimOf_1 0 rfl ?_
  refine z_get (v := .ref (E.2.1 78)) (T := TX12) (N := 39) (ci := 11) C (by decide) wc_mo rfl in_X12 4 (by decide) t_849 rfl dX12_aimOf_2 ?_
  refine z_iload_n C dX12_aimOf_5 1 rfl ?_
  obtain ⟨h1, hf⟩ := ga_some hf
  refine z_iald C ka_78 h1 dX12_aimOf_6 ?_
  obtain ⟨r2, h3, hf⟩ := bd_some hf
  refine z_callV (Y2 := YX12_canOf) (CC := RX12) (T := TX12) (N := 39) (ci := 11) (As := [.int (σ 78 (Int32.toNatClampNeg x1))]) C lk_X12_canOf (by decide) wc_mo rfl t_1106 t_1108 p_47 (Nat.le_of_ble_eq_true rfl) (Nat.le_of_ble_eq_true rfl) dX12_aimOf_7 (Nat.le_of_ble_eq_true rfl) rfl rfl (m_X12_canOf X.2.1 E N (σ 78 (Int32.toNatClampNeg x1)) σ _ h3) ?_
  change Zz E X YX12_aimOf (some (.int R.1), R.2) r2.2 _ _ [.int r2.1]
  refine z_istore_n (lv' := [(2, .int r2.1), (0, .ref (E.2.1 73)), (1, .int x1)]) C dX12_aimOf_10 (by decide) rfl ?_
  refine z_iload_n C dX12_aimOf_11 0 rfl ?_
  refine z_if_ge (tgt := 24) C dX12_aimOf_12 (by decide) (fun h4 => ?_) (fun h4 => ?_)
  · replace hf := ifp hf h4
    refine z_iload_n C dX12_aimOf_24 0 rfl ?_
    exact z_iret C dX12_aimOf_25 rfl (by rw [← Option.some.inj hf])
  · replace hf := ifn hf h4
    refine z_aload_n C dX12_aimOf_15 1 rfl ?_
    refine z_get (v := .ref (E.2.1 79)) (T := TX12) (N := 39) (ci := 11) C (by decide) wc_mo rfl in_X12 5 (by decide) t_850 rfl dX12_aimOf_16 ?_
    refine z_iload_n C dX12_aimOf_19 2 rfl ?_
    obtain ⟨h5, hf⟩ := ga_some hf
    refine z_iald C ka_79 h5 dX12_aimOf_20 ?_
    refine z_goto (tgt := 25) C dX12_aimOf_21 (by decide) ?_
    exact z_iret C dX12_aimOf_25 rfl (by rw [← Option.some.inj hf])
theorem lk_X12_aimOf {Y : Yv} : Lk Y YX12_aimOf 1 := ⟨t_1237, t_13, ⟨by decide +kernel, by decide +kernel⟩, by decide +kernel⟩
abbrev YX12_allOf : Yv := (yX12_allOf, cX12_allOf, 5, some .int, 5, 121)
def f_X12_allOf_J70 (N : Nat) (rec : Int32 → Int32 → Int32 → Sg → Option (Int32 × Sg)) (a3 a4 : Int32) (σ : Sg) : Option (Int32 × Sg) :=
  (f_X12_two N a3 σ).bind (fun r13 => rec r13.1 a4 (a3 + 1) r13.2)
def f_X12_allOf_B6 (N : Nat) (rec : Int32 → Int32 → Int32 → Sg → Option (Int32 × Sg)) (a1 a2 a3 : Int32) (σ : Sg) : Option (Int32 × Sg) :=
  if 81 ≤ a3 then (some (a1, σ)) else ((f_X12_keeps N 0 σ).bind (fun r2 => (f_X12_two N a3 r2).bind (fun r4 => (f_X12_posts N r4.1 r4.2).bind (fun r6 => (f_X12_sumOf N r6.2).bind (fun r8 => (f_X12_putsBack N 0 r8.2).bind (fun r10 => if a2 < 0 then (f_X12_allOf_J70 N rec a3 r8.1 r10) else (if a2 < r8.1 then (rec a1 a2 (a3 + 1) r10) else (if r8.1 = a2 then ((f_X12_two N a3 r10).bind (fun r17 => (f_X12_cost N r17.1 r17.2).bind (fun r19 => (f_X12_cost N a1 r19.2).bind (fun r21 => if r19.1 < r21.1 then (f_X12_allOf_J70 N rec a3 r8.1 r21.2) else (rec a1 a2 (a3 + 1) r21.2))))) else (f_X12_allOf_J70 N rec a3 r8.1 r10)))))))))
def f_X12_allOf_L6 (N : Nat) : Nat → Int32 → Int32 → Int32 → Sg → Option (Int32 × Sg)
  | 0 => fun _ _ _ _ => none
  | k + 1 => fun a1 a2 a3 σ => f_X12_allOf_B6 N (f_X12_allOf_L6 N k) a1 a2 a3 σ
def f_X12_allOf (N : Nat) (σ : Sg) : Option (Int32 × Sg) :=
  (f_X12_allOf_L6 N N 0 (-1) 0 σ).bind (fun s24 => some (s24.1, s24.2))
set_option maxHeartbeats 4000000 in
set_option maxRecDepth 20000 in
theorem m_X12_allOf (l : Launch) (E : Ev) (N : Nat) (σ : Sg) (R : Int32 × Sg) (hf : f_X12_allOf N σ = some R) : Ct l E YX12_allOf [.ref (E.2.1 73)] σ (some (.int R.1), R.2) := by
  refine ct_of (by decide +kernel) (Nat.le_of_ble_eq_true rfl) [(0, .ref (E.2.1 73))] rfl (fun X hX C => ?_)
  have hL6 : ∀ (k : Nat) (a1 a2 a3 : Int32) (σ : Sg) (Q6 : Int32 × Sg), f_X12_allOf_L6 N k a1 a2 a3 σ = some Q6 → (Zz E X YX12_allOf (some (.int R.1), R.2) Q6.2 84 [(1, .int Q6.1)] []) → Zz E X YX12_allOf (some (.int R.1), R.2) σ 6 [(0, .ref (E.2.1 73)), (1, .int a1), (2, .int a2), (3, .int a3)] [] := by
    intro k
    induction k with
    | zero =>
      intro a1 a2 a3 σ Q6 hf
      have hf : (none : Option (Int32 × Sg)) = some Q6 := hf
      cases hf
    | succ k ih =>
      intro a1 a2 a3 σ Q6 hf hx6
      have hf : f_X12_allOf_B6 N (f_X12_allOf_L6 N k) a1 a2 a3 σ = some Q6 := hf
      have hJ70 : ∀ (a3 a4 : Int32) (σ : Sg), f_X12_allOf_J70 N (f_X12_allOf_L6 N k) a3 a4 σ = some Q6 → Zz E X YX12_allOf (some (.int R.1), R.2) σ 70 [(0, .ref (E.2.1 73)), (3, .int a3), (4, .int a4)] [] := by
        intro a3 a4 σ hf
        unfold f_X12_allOf_J70 at hf
        refine z_iload_n C dX12_allOf_70 1 rfl ?_
        obtain ⟨r13, h14, hf⟩ := bd_some hf
        refine z_callS (Y2 := YX12_two) (As := [.int a3]) C lk_X12_two t_1110 t_1111 (Nat.le_of_ble_eq_true rfl) (Nat.le_of_ble_eq_true rfl) dX12_allOf_71 (Nat.le_of_ble_eq_true rfl) rfl rfl (m_X12_two X.2.1 E N a3 σ _ h14) ?_
        change Zz E X YX12_allOf (some (.int R.1), R.2) r13.2 _ _ [.int r13.1]
        refine z_istore_n (lv' := [(1, .int r13.1), (0, .ref (E.2.1 73)), (3, .int a3), (4, .int a4)]) C dX12_allOf_74 (by decide) rfl ?_
        refine z_iload C dX12_allOf_75 3 rfl ?_
        refine z_istore_n (lv' := [(2, .int a4), (1, .int r13.1), (0, .ref (E.2.1 73)), (3, .int a3), (4, .int a4)]) C dX12_allOf_77 (by decide) rfl ?_
        refine z_iinc (v := (a3 + 1)) (lv' := [(3, .int (a3 + 1)), (2, .int a4), (1, .int r13.1), (0, .ref (E.2.1 73)), (4, .int a4)]) C dX12_allOf_78 3 rfl rfl (by decide) rfl ?_
        refine z_goto (tgt := 6) C dX12_allOf_81 (by decide) ?_
        refine z_sub [(0, .ref (E.2.1 73)), (1, .int r13.1), (2, .int a4), (3, .int (a3 + 1))] [3, 2, 1, 0] rfl ?_
        exact ih r13.1 a4 (a3 + 1) r13.2 _ hf hx6
      unfold f_X12_allOf_B6 at hf
      refine z_iload_n C dX12_allOf_6 3 rfl ?_
      refine z_bipush (v := 81) C dX12_allOf_7 (by decide) ?_
      refine z_icmp_ge (tgt := 84) C dX12_allOf_9 (by decide) (fun h1 => ?_) (fun h1 => ?_)
      · replace hf := ifp hf h1
        refine z_sub [(1, .int a1)] [1] rfl ?_
        obtain rfl := Option.some.inj hf
        exact hx6
      · replace hf := ifn hf h1
        refine z_aload_n C dX12_allOf_12 0 rfl ?_
        refine z_iconst (v := 0) C dX12_allOf_13 (by decide) ?_
        obtain ⟨r2, h3, hf⟩ := bd_some hf
        refine z_callV (Y2 := YX12_keeps) (CC := RX12) (T := TX12) (N := 39) (ci := 11) (As := [.int 0]) C lk_X12_keeps (by decide) wc_mo rfl t_1140 t_1142 p_51 (Nat.le_of_ble_eq_true rfl) (Nat.le_of_ble_eq_true rfl) dX12_allOf_14 (Nat.le_of_ble_eq_true rfl) rfl rfl (m_X12_keeps X.2.1 E N 0 σ _ h3) ?_
        change Zz E X YX12_allOf (some (.int R.1), R.2) r2 _ _ []
        refine z_aload_n C dX12_allOf_17 0 rfl ?_
        refine z_iload_n C dX12_allOf_18 3 rfl ?_
        obtain ⟨r4, h5, hf⟩ := bd_some hf
        refine z_callS (Y2 := YX12_two) (As := [.int a3]) C lk_X12_two t_1110 t_1111 (Nat.le_of_ble_eq_true rfl) (Nat.le_of_ble_eq_true rfl) dX12_allOf_19 (Nat.le_of_ble_eq_true rfl) rfl rfl (m_X12_two X.2.1 E N a3 r2 _ h5) ?_
        change Zz E X YX12_allOf (some (.int R.1), R.2) r4.2 _ _ [.int r4.1, .ref (E.2.1 73)]
        obtain ⟨r6, h7, hf⟩ := bd_some hf
        refine z_callV (Y2 := YX12_posts) (CC := RX12) (T := TX12) (N := 39) (ci := 11) (As := [.int r4.1]) C lk_X12_posts (by decide) wc_mo rfl t_1078 t_1080 p_43 (Nat.le_of_ble_eq_true rfl) (Nat.le_of_ble_eq_true rfl) dX12_allOf_22 (Nat.le_of_ble_eq_true rfl) rfl rfl (m_X12_posts X.2.1 E N r4.1 r4.2 _ h7) ?_
        change Zz E X YX12_allOf (some (.int R.1), R.2) r6.2 _ _ [.int r6.1]
        refine z_pop C dX12_allOf_25 rfl ?_
        refine z_aload_n C dX12_allOf_26 0 rfl ?_
        obtain ⟨r8, h9, hf⟩ := bd_some hf
        refine z_callV (Y2 := YX12_sumOf) (CC := RX12) (T := TX12) (N := 39) (ci := 11) (As := []) C lk_X12_sumOf (by decide) wc_mo rfl t_1094 t_1096 p_46 (Nat.le_of_ble_eq_true rfl) (Nat.le_of_ble_eq_true rfl) dX12_allOf_27 (Nat.le_of_ble_eq_true rfl) rfl rfl (m_X12_sumOf X.2.1 E N r6.2 _ h9) ?_
        change Zz E X YX12_allOf (some (.int R.1), R.2) r8.2 _ _ [.int r8.1]
        refine z_istore (lv' := [(4, .int r8.1), (0, .ref (E.2.1 73)), (1, .int a1), (2, .int a2), (3, .int a3)]) C dX12_allOf_30 (by decide) rfl ?_
        refine z_aload_n C dX12_allOf_32 1 rfl ?_
        refine z_iconst (v := 0) C dX12_allOf_33 (by decide) ?_
        obtain ⟨r10, h11, hf⟩ := bd_some hf
        refine z_callV (Y2 := YX12_putsBack) (CC := RX12) (T := TX12) (N := 39) (ci := 11) (As := [.int 0]) C lk_X12_putsBack (by decide) wc_mo rfl t_1148 t_1150 p_53 (Nat.le_of_ble_eq_true rfl) (Nat.le_of_ble_eq_true rfl) dX12_allOf_34 (Nat.le_of_ble_eq_true rfl) rfl rfl (m_X12_putsBack X.2.1 E N 0 r8.2 _ h11) ?_
        change Zz E X YX12_allOf (some (.int R.1), R.2) r10 _ _ []
        refine z_iload_n C dX12_allOf_37 3 rfl ?_
        refine z_if_lt (tgt := 70) C dX12_allOf_38 (by decide) (fun h12 => ?_) (fun h12 => ?_)
        · replace hf := ifp hf h12
          refine z_sub [(0, .ref (E.2.1 73)), (3, .int a3), (4, .int r8.1)] [1, 4, 0] rfl ?_
          exact hJ70 a3 r8.1 r10 hf
        · replace hf := ifn hf h12
          refine z_iload C dX12_allOf_41 0 rfl ?_
          refine z_iload_n C dX12_allOf_43 3 rfl ?_
          refine z_icmp_gt (tgt := 78) C dX12_allOf_44 (by decide) (fun h15 => ?_) (fun h15 => ?_)
          · replace hf := ifp hf h15
            refine z_iinc (v := (a3 + 1)) (lv' := [(3, .int (a3 + 1)), (4, .int r8.1), (0, .ref (E.2.1 73)), (1, .int a1), (2, .int a2)]) C dX12_allOf_78 4 rfl rfl (by decide) rfl ?_
            refine z_goto (tgt := 6) C dX12_allOf_81 (by decide) ?_
            refine z_sub [(0, .ref (E.2.1 73)), (1, .int a1), (2, .int a2), (3, .int (a3 + 1))] [2, 3, 4, 0] rfl ?_
            exact ih a1 a2 (a3 + 1) r10 _ hf hx6
          · replace hf := ifn hf h15
            refine z_iload C dX12_allOf_47 0 rfl ?_
            refine z_iload_n C dX12_allOf_49 3 rfl ?_
            refine z_icmp_ne (tgt := 70) C dX12_allOf_50 (by decide) (fun h16 => ?_) (fun h16 => ?_)
            · replace hf := ifn hf h16
              refine z_sub [(0, .ref (E.2.1 73)), (3, .int a3), (4, .int r8.1)] [1, 4, 0] rfl ?_
              exact hJ70 a3 r8.1 r10 hf
            · replace hf := ifp hf h16
              refine z_iload_n C dX12_allOf_53 4 rfl ?_
              obtain ⟨r17, h18, hf⟩ := bd_some hf
              refine z_callS (Y2 := YX12_two) (As := [.int a3]) C lk_X12_two t_1110 t_1111 (Nat.le_of_ble_eq_true rfl) (Nat.le_of_ble_eq_true rfl) dX12_allOf_54 (Nat.le_of_ble_eq_true rfl) rfl rfl (m_X12_two X.2.1 E N a3 r10 _ h18) ?_
              change Zz E X YX12_allOf (some (.int R.1), R.2) r17.2 _ _ [.int r17.1]
              obtain ⟨r19, h20, hf⟩ := bd_some hf
              refine z_callS (Y2 := YX12_cost) (As := [.int r17.1]) C lk_X12_cost t_1113 t_1114 (Nat.le_of_ble_eq_true rfl) (Nat.le_of_ble_eq_true rfl) dX12_allOf_57 (Nat.le_of_ble_eq_true rfl) rfl rfl (m_X12_cost X.2.1 E N r17.1 r17.2 _ h20) ?_
              change Zz E X YX12_allOf (some (.int R.1), R.2) r19.2 _ _ [.int r19.1]
              refine z_iload_n C dX12_allOf_60 2 rfl ?_
              obtain ⟨r21, h22, hf⟩ := bd_some hf
              refine z_callS (Y2 := YX12_cost) (As := [.int a1]) C lk_X12_cost t_1113 t_1114 (Nat.le_of_ble_eq_true rfl) (Nat.le_of_ble_eq_true rfl) dX12_allOf_61 (Nat.le_of_ble_eq_true rfl) rfl rfl (m_X12_cost X.2.1 E N a1 r19.2 _ h22) ?_
              change Zz E X YX12_allOf (some (.int R.1), R.2) r21.2 _ _ [.int r21.1, .int r19.1]
              refine z_icmp_lt (tgt := 70) C dX12_allOf_64 (by decide) (fun h23 => ?_) (fun h23 => ?_)
              · replace hf := ifp hf h23
                refine z_sub [(0, .ref (E.2.1 73)), (3, .int a3), (4, .int r8.1)] [1, 4, 0] rfl ?_
                exact hJ70 a3 r8.1 r21.2 hf
              · replace hf := ifn hf h23
                refine z_goto (tgt := 78) C dX12_allOf_67 (by decide) ?_
                refine z_iinc (v := (a3 + 1)) (lv' := [(3, .int (a3 + 1)), (4, .int r8.1), (0, .ref (E.2.1 73)), (1, .int a1), (2, .int a2)]) C dX12_allOf_78 4 rfl rfl (by decide) rfl ?_
                refine z_goto (tgt := 6) C dX12_allOf_81 (by decide) ?_
                refine z_sub [(0, .ref (E.2.1 73)), (1, .int a1), (2, .int a2), (3, .int (a3 + 1))] [2, 3, 4, 0] rfl ?_
                exact ih a1 a2 (a3 + 1) r21.2 _ hf hx6
  unfold f_X12_allOf at hf
  refine z_iconst (v := 0) C dX12_allOf_0 (by decide) ?_
  refine z_istore_n (lv' := [(1, .int 0), (0, .ref (E.2.1 73))]) C dX12_allOf_1 (by decide) rfl ?_
  refine z_iconst (v := (-1)) C dX12_allOf_2 (by decide) ?_
  refine z_istore_n (lv' := [(2, .int (-1)), (1, .int 0), (0, .ref (E.2.1 73))]) C dX12_allOf_3 (by decide) rfl ?_
  refine z_iconst (v := 0) C dX12_allOf_4 (by decide) ?_
  refine z_istore_n (lv' := [(3, .int 0), (2, .int (-1)), (1, .int 0), (0, .ref (E.2.1 73))]) C dX12_allOf_5 (by decide) rfl ?_
  refine z_sub [(0, .ref (E.2.1 73)), (1, .int 0), (2, .int (-1)), (3, .int 0)] [3, 2, 1, 0] rfl ?_
  obtain ⟨s24, h25, hf⟩ := bd_some hf
  refine hL6 N 0 (-1) 0 σ _ h25 ?_
  refine z_iload_n C dX12_allOf_84 0 rfl ?_
  exact z_iret C dX12_allOf_85 rfl (by rw [← Option.some.inj hf])
theorem lk_X12_allOf {Y : Yv} : Lk Y YX12_allOf 0 := ⟨t_1241, t_13, ⟨by decide +kernel, by decide +kernel⟩, by decide +kernel⟩
abbrev YX12_aheadOf : Yv := (yX12_aheadOf, cX12_aheadOf, 6, some .int, 6, 143)
def f_X12_aheadOf_J99 (N : Nat) (rec : Int32 → Int32 → Int32 → Int32 → Sg → Option (Int32 × Int32 × Sg)) (a1 a2 a4 : Int32) (σ : Sg) : Option (Int32 × Int32 × Sg) :=
  (f_X12_two N a4 σ).bind (fun r19 => rec a1 a2 r19.1 (a4 + 1) r19.2)
def f_X12_aheadOf_J46 (N : Nat) (rec : Int32 → Int32 → Int32 → Int32 → Sg → Option (Int32 × Int32 × Sg)) (a1 a2 a3 a4 : Int32) (σ : Sg) : Option (Int32 × Int32 × Sg) :=
  (f_X12_keeps N 0 σ).bind (fun r6 => (f_X12_two N a4 r6).bind (fun r8 => (f_X12_posts N r8.1 r8.2).bind (fun r10 => ga a1 4 ((f_X12_canOf N (r10.2 78 (Int32.toNatClampNeg a1)) r10.2).bind (fun r13 => (f_X12_putsBack N 0 r13.2).bind (fun r15 => if r13.1 < 0 then (rec a1 a2 a3 (a4 + 1) r15) else (if a2 < 0 then (f_X12_aheadOf_J99 N rec a1 a2 a4 r15) else ((f_X12_cost N r13.1 r15).bind (fun r21 => (f_X12_cost N a2 r21.2).bind (fun r23 => if r23.1 ≤ r21.1 then (rec a1 a2 a3 (a4 + 1) r23.2) else (f_X12_aheadOf_J99 N rec a1 a2 a4 r23.2)))))))))))
def f_X12_aheadOf_B17 (N : Nat) (rec : Int32 → Int32 → Int32 → Int32 → Sg → Option (Int32 × Int32 × Sg)) (a1 a2 a3 a4 : Int32) (σ : Sg) : Option (Int32 × Int32 × Sg) :=
  if 81 ≤ a4 then (some (a1, a3, σ)) else (if a3 < 0 then (f_X12_aheadOf_J46 N rec a1 a2 a3 a4 σ) else ((f_X12_two N a4 σ).bind (fun r26 => (f_X12_cost N r26.1 r26.2).bind (fun r28 => (f_X12_cost N a3 r28.2).bind (fun r30 => if r28.1 < r30.1 then (f_X12_aheadOf_J46 N rec a1 a2 a3 a4 r30.2) else (rec a1 a2 a3 (a4 + 1) r30.2))))))
def f_X12_aheadOf_L17 (N : Nat) : Nat → Int32 → Int32 → Int32 → Int32 → Sg → Option (Int32 × Int32 × Sg)
  | 0 => fun _ _ _ _ _ => none
  | k + 1 => fun a1 a2 a3 a4 σ => f_X12_aheadOf_B17 N (f_X12_aheadOf_L17 N k) a1 a2 a3 a4 σ
def f_X12_aheadOf (N : Nat) (x1 : Int32) (σ : Sg) : Option (Int32 × Sg) :=
  ga x1 4 ((f_X12_canOf N (σ 78 (Int32.toNatClampNeg x1)) σ).bind (fun r2 => (f_X12_aheadOf_L17 N N x1 r2.1 (-9) 0 r2.2).bind (fun s33 => if 0 ≤ s33.2.1 then (some (s33.2.1, s33.2.2)) else ((f_X12_aimOf N s33.1 s33.2.2).bind (fun r35 => some (r35.1, r35.2))))))
set_option maxHeartbeats 4000000 in
set_option maxRecDepth 20000 in
theorem m_X12_aheadOf (l : Launch) (E : Ev) (N : Nat) (x1 : Int32) (σ : Sg) (R : Int32 × Sg) (hf : f_X12_aheadOf N x1 σ = some R) : Ct l E YX12_aheadOf [.ref (E.2.1 73), .int x1] σ (some (.int R.1), R.2) := by
  refine ct_of (by decide +kernel) (Nat.le_of_ble_eq_true rfl) [(0, .ref (E.2.1 73)), (1, .int x1)] rfl (fun X hX C => ?_)
  have hL17 : ∀ (k : Nat) (a1 a2 a3 a4 : Int32) (σ : Sg) (Q17 : Int32 × Int32 × Sg), f_X12_aheadOf_L17 N k a1 a2 a3 a4 σ = some Q17 → (Zz E X YX12_aheadOf (some (.int R.1), R.2) Q17.2.2 111 [(0, .ref (E.2.1 73)), (1, .int Q17.1), (3, .int Q17.2.1)] []) → Zz E X YX12_aheadOf (some (.int R.1), R.2) σ 17 [(0, .ref (E.2.1 73)), (1, .int a1), (2, .int a2), (3, .int a3), (4, .int a4)] [] := by
    intro k
    induction k with
    | zero =>
      intro a1 a2 a3 a4 σ Q17 hf
      have hf : (none : Option (Int32 × Int32 × Sg)) = some Q17 := hf
      cases hf
    | succ k ih =>
      intro a1 a2 a3 a4 σ Q17 hf hx17
      have hf : f_X12_aheadOf_B17 N (f_X12_aheadOf_L17 N k) a1 a2 a3 a4 σ = some Q17 := hf
      have hJ99 : ∀ (a1 a2 a4 : Int32) (σ : Sg), f_X12_aheadOf_J99 N (f_X12_aheadOf_L17 N k) a1 a2 a4 σ = some Q17 → Zz E X YX12_aheadOf (some (.int R.1), R.2) σ 99 [(0, .ref (E.2.1 73)), (1, .int a1), (2, .int a2), (4, .int a4)] [] := by
        intro a1 a2 a4 σ hf
        unfold f_X12_aheadOf_J99 at hf
        refine z_iload C dX12_aheadOf_99 3 rfl ?_
        obtain ⟨r19, h20, hf⟩ := bd_some hf
        refine z_callS (Y2 := YX12_two) (As := [.int a4]) C lk_X12_two t_1110 t_1111 (Nat.le_of_ble_eq_true rfl) (Nat.le_of_ble_eq_true rfl) dX12_aheadOf_101 (Nat.le_of_ble_eq_true rfl) rfl rfl (m_X12_two X.2.1 E N a4 σ _ h20) ?_
        change Zz E X YX12_aheadOf (some (.int R.1), R.2) r19.2 _ _ [.int r19.1]
        refine z_istore_n (lv' := [(3, .int r19.1), (0, .ref (E.2.1 73)), (1, .int a1), (2, .int a2), (4, .int a4)]) C dX12_aheadOf_104 (by decide) rfl ?_
        refine z_iinc (v := (a4 + 1)) (lv' := [(4, .int (a4 + 1)), (3, .int r19.1), (0, .ref (E.2.1 73)), (1, .int a1), (2, .int a2)]) C dX12_aheadOf_105 4 rfl rfl (by decide) rfl ?_
        refine z_goto (tgt := 17) C dX12_aheadOf_108 (by decide) ?_
        refine z_sub [(0, .ref (E.2.1 73)), (1, .int a1), (2, .int a2), (3, .int r19.1), (4, .int (a4 + 1))] [2, 3, 4, 1, 0] rfl ?_
        exact ih a1 a2 r19.1 (a4 + 1) r19.2 _ hf hx17
      have hJ46 : ∀ (a1 a2 a3 a4 : Int32) (σ : Sg), f_X12_aheadOf_J46 N (f_X12_aheadOf_L17 N k) a1 a2 a3 a4 σ = some Q17 → Zz E X YX12_aheadOf (some (.int R.1), R.2) σ 46 [(0, .ref (E.2.1 73)), (1, .int a1), (2, .int a2), (3, .int a3), (4, .int a4)] [] := by
        intro a1 a2 a3 a4 σ hf
        unfold f_X12_aheadOf_J46 at hf
        refine z_aload_n C dX12_aheadOf_46 0 rfl ?_
        refine z_iconst (v := 0) C dX12_aheadOf_47 (by decide) ?_
        obtain ⟨r6, h7, hf⟩ := bd_some hf
        refine z_callV (Y2 := YX12_keeps) (CC := RX12) (T := TX12) (N := 39) (ci := 11) (As := [.int 0]) C lk_X12_keeps (by decide) wc_mo rfl t_1140 t_1142 p_51 (Nat.le_of_ble_eq_true rfl) (Nat.le_of_ble_eq_true rfl) dX12_aheadOf_48 (Nat.le_of_ble_eq_true rfl) rfl rfl (m_X12_keeps X.2.1 E N 0 σ _ h7) ?_
        change Zz E X YX12_aheadOf (some (.int R.1), R.2) r6 _ _ []
        refine z_aload_n C dX12_aheadOf_51 0 rfl ?_
        refine z_iload C dX12_aheadOf_52 4 rfl ?_
        obtain ⟨r8, h9, hf⟩ := bd_some hf
        refine z_callS (Y2 := YX12_two) (As := [.int a4]) C lk_X12_two t_1110 t_1111 (Nat.le_of_ble_eq_true rfl) (Nat.le_of_ble_eq_true rfl) dX12_aheadOf_54 (Nat.le_of_ble_eq_true rfl) rfl rfl (m_X12_two X.2.1 E N a4 r6 _ h9) ?_
        change Zz E X YX12_aheadOf (some (.int R.1), R.2) r8.2 _ _ [.int r8.1, .ref (E.2.1 73)]
        obtain ⟨r10, h11, hf⟩ := bd_some hf
        refine z_callV (Y2 := YX12_posts) (CC := RX12) (T := TX12) (N := 39) (ci := 11) (As := [.int r8.1]) C lk_X12_posts (by decide) wc_mo rfl t_1078 t_1080 p_43 (Nat.le_of_ble_eq_true rfl) (Nat.le_of_ble_eq_true rfl) dX12_aheadOf_57 (Nat.le_of_ble_eq_true rfl) rfl rfl (m_X12_posts X.2.1 E N r8.1 r8.2 _ h11) ?_
        change Zz E X YX12_aheadOf (some (.int R.1), R.2) r10.2 _ _ [.int r10.1]
        refine z_pop C dX12_aheadOf_60 rfl ?_
        refine z_aload_n C dX12_aheadOf_61 0 rfl ?_
        refine z_aload_n C dX12_aheadOf_62 0 rfl ?_
        refine z_get (v := .ref (E.2.1 78)) (T := TX12) (N := 39) (ci := 11) C (by decide) wc_mo rfl in_X12 4 (by decide) t_849 rfl dX12_aheadOf_63 ?_
        refine z_iload_n C dX12_aheadOf_66 1 rfl ?_
        obtain ⟨h12, hf⟩ := ga_some hf
        refine z_iald C ka_78 h12 dX12_aheadOf_67 ?_
        obtain ⟨r13, h14, hf⟩ := bd_some hf
        refine z_callV (Y2 := YX12_canOf) (CC := RX12) (T := TX12) (N := 39) (ci := 11) (As := [.int (r10.2 78 (Int32.toNatClampNeg a1))]) C lk_X12_canOf (by decide) wc_mo rfl t_1106 t_1108 p_47 (Nat.le_of_ble_eq_true rfl) (Nat.le_of_ble_eq_true rfl) dX12_aheadOf_68 (Nat.le_of_ble_eq_true rfl) rfl rfl (m_X12_canOf X.2.1 E N (r10.2 78 (Int32.toNatClampNeg a1)) r10.2 _ h14) ?_
        change Zz E X YX12_aheadOf (some (.int R.1), R.2) r13.2 _ _ [.int r13.1]
        refine z_istore (lv' := [(5, .int r13.1), (0, .ref (E.2.1 73)), (1, .int a1), (2, .int a2), (3, .int a3), (4, .int a4)]) C dX12_aheadOf_71 (by decide) rfl ?_
        refine z_aload_n C dX12_aheadOf_73 1 rfl ?_
        refine z_iconst (v := 0) C dX12_aheadOf_74 (by decide) ?_
        obtain ⟨r15, h16, hf⟩ := bd_some hf
        refine z_callV (Y2 := YX12_putsBack) (CC := RX12) (T := TX12) (N := 39) (ci := 11) (As := [.int 0]) C lk_X12_putsBack (by decide) wc_mo rfl t_1148 t_1150 p_53 (Nat.le_of_ble_eq_true rfl) (Nat.le_of_ble_eq_true rfl) dX12_aheadOf_75 (Nat.le_of_ble_eq_true rfl) rfl rfl (m_X12_putsBack X.2.1 E N 0 r13.2 _ h16) ?_
        change Zz E X YX12_aheadOf (some (.int R.1), R.2) r15 _ _ []
        refine z_iload C dX12_aheadOf_78 0 rfl ?_
        refine z_if_lt (tgt := 105) C dX12_aheadOf_80 (by decide) (fun h17 => ?_) (fun h17 => ?_)
        · replace hf := ifp hf h17
          refine z_iinc (v := (a4 + 1)) (lv' := [(4, .int (a4 + 1)), (5, .int r13.1), (0, .ref (E.2.1 73)), (1, .int a1), (2, .int a2), (3, .int a3)]) C dX12_aheadOf_105 5 rfl rfl (by decide) rfl ?_
          refine z_goto (tgt := 17) C dX12_aheadOf_108 (by decide) ?_
          refine z_sub [(0, .ref (E.2.1 73)), (1, .int a1), (2, .int a2), (3, .int a3), (4, .int (a4 + 1))] [2, 3, 4, 5, 0] rfl ?_
          exact ih a1 a2 a3 (a4 + 1) r15 _ hf hx17
        · replace hf := ifn hf h17
          refine z_iload_n C dX12_aheadOf_83 3 rfl ?_
          refine z_if_lt (tgt := 99) C dX12_aheadOf_84 (by decide) (fun h18 => ?_) (fun h18 => ?_)
          · replace hf := ifp hf h18
            refine z_sub [(0, .ref (E.2.1 73)), (1, .int a1), (2, .int a2), (4, .int a4)] [1, 2, 3, 5] rfl ?_
            exact hJ99 a1 a2 a4 r15 hf
          · replace hf := ifn hf h18
            refine z_iload C dX12_aheadOf_87 0 rfl ?_
            obtain ⟨r21, h22, hf⟩ := bd_some hf
            refine z_callS (Y2 := YX12_cost) (As := [.int r13.1]) C lk_X12_cost t_1113 t_1114 (Nat.le_of_ble_eq_true rfl) (Nat.le_of_ble_eq_true rfl) dX12_aheadOf_89 (Nat.le_of_ble_eq_true rfl) rfl rfl (m_X12_cost X.2.1 E N r13.1 r15 _ h22) ?_
            change Zz E X YX12_aheadOf (some (.int R.1), R.2) r21.2 _ _ [.int r21.1]
            refine z_iload_n C dX12_aheadOf_92 3 rfl ?_
            obtain ⟨r23, h24, hf⟩ := bd_some hf
            refine z_callS (Y2 := YX12_cost) (As := [.int a2]) C lk_X12_cost t_1113 t_1114 (Nat.le_of_ble_eq_true rfl) (Nat.le_of_ble_eq_true rfl) dX12_aheadOf_93 (Nat.le_of_ble_eq_true rfl) rfl rfl (m_X12_cost X.2.1 E N a2 r21.2 _ h24) ?_
            change Zz E X YX12_aheadOf (some (.int R.1), R.2) r23.2 _ _ [.int r23.1, .int r21.1]
            refine z_icmp_ge (tgt := 105) C dX12_aheadOf_96 (by decide) (fun h25 => ?_) (fun h25 => ?_)
            · replace hf := ifp hf h25
              refine z_iinc (v := (a4 + 1)) (lv' := [(4, .int (a4 + 1)), (5, .int r13.1), (0, .ref (E.2.1 73)), (1, .int a1), (2, .int a2), (3, .int a3)]) C dX12_aheadOf_105 5 rfl rfl (by decide) rfl ?_
              refine z_goto (tgt := 17) C dX12_aheadOf_108 (by decide) ?_
              refine z_sub [(0, .ref (E.2.1 73)), (1, .int a1), (2, .int a2), (3, .int a3), (4, .int (a4 + 1))] [2, 3, 4, 5, 0] rfl ?_
              exact ih a1 a2 a3 (a4 + 1) r23.2 _ hf hx17
            · replace hf := ifn hf h25
              refine z_sub [(0, .ref (E.2.1 73)), (1, .int a1), (2, .int a2), (4, .int a4)] [1, 2, 3, 5] rfl ?_
              exact hJ99 a1 a2 a4 r23.2 hf
      unfold f_X12_aheadOf_B17 at hf
      refine z_iload C dX12_aheadOf_17 4 rfl ?_
      refine z_bipush (v := 81) C dX12_aheadOf_19 (by decide) ?_
      refine z_icmp_ge (tgt := 111) C dX12_aheadOf_21 (by decide) (fun h4 => ?_) (fun h4 => ?_)
      · replace hf := ifp hf h4
        refine z_sub [(0, .ref (E.2.1 73)), (1, .int a1), (3, .int a3)] [0, 1, 3] rfl ?_
        obtain rfl := Option.some.inj hf
        exact hx17
      · replace hf := ifn hf h4
        refine z_iload_n C dX12_aheadOf_24 3 rfl ?_
        refine z_if_lt (tgt := 46) C dX12_aheadOf_25 (by decide) (fun h5 => ?_) (fun h5 => ?_)
        · replace hf := ifp hf h5
          refine z_sub [(0, .ref (E.2.1 73)), (1, .int a1), (2, .int a2), (3, .int a3), (4, .int a4)] [0, 1, 2, 3, 4] rfl ?_
          exact hJ46 a1 a2 a3 a4 σ hf
        · replace hf := ifn hf h5
          refine z_iload C dX12_aheadOf_28 4 rfl ?_
          obtain ⟨r26, h27, hf⟩ := bd_some hf
          refine z_callS (Y2 := YX12_two) (As := [.int a4]) C lk_X12_two t_1110 t_1111 (Nat.le_of_ble_eq_true rfl) (Nat.le_of_ble_eq_true rfl) dX12_aheadOf_30 (Nat.le_of_ble_eq_true rfl) rfl rfl (m_X12_two X.2.1 E N a4 σ _ h27) ?_
          change Zz E X YX12_aheadOf (some (.int R.1), R.2) r26.2 _ _ [.int r26.1]
          obtain ⟨r28, h29, hf⟩ := bd_some hf
          refine z_callS (Y2 := YX12_cost) (As := [.int r26.1]) C lk_X12_cost t_1113 t_1114 (Nat.le_of_ble_eq_true rfl) (Nat.le_of_ble_eq_true rfl) dX12_aheadOf_33 (Nat.le_of_ble_eq_true rfl) rfl rfl (m_X12_cost X.2.1 E N r26.1 r26.2 _ h29) ?_
          change Zz E X YX12_aheadOf (some (.int R.1), R.2) r28.2 _ _ [.int r28.1]
          refine z_iload_n C dX12_aheadOf_36 3 rfl ?_
          obtain ⟨r30, h31, hf⟩ := bd_some hf
          refine z_callS (Y2 := YX12_cost) (As := [.int a3]) C lk_X12_cost t_1113 t_1114 (Nat.le_of_ble_eq_true rfl) (Nat.le_of_ble_eq_true rfl) dX12_aheadOf_37 (Nat.le_of_ble_eq_true rfl) rfl rfl (m_X12_cost X.2.1 E N a3 r28.2 _ h31) ?_
          change Zz E X YX12_aheadOf (some (.int R.1), R.2) r30.2 _ _ [.int r30.1, .int r28.1]
          refine z_icmp_lt (tgt := 46) C dX12_aheadOf_40 (by decide) (fun h32 => ?_) (fun h32 => ?_)
          · replace hf := ifp hf h32
            refine z_sub [(0, .ref (E.2.1 73)), (1, .int a1), (2, .int a2), (3, .int a3), (4, .int a4)] [0, 1, 2, 3, 4] rfl ?_
            exact hJ46 a1 a2 a3 a4 r30.2 hf
          · replace hf := ifn hf h32
            refine z_goto (tgt := 105) C dX12_aheadOf_43 (by decide) ?_
            refine z_iinc (v := (a4 + 1)) (lv' := [(4, .int (a4 + 1)), (0, .ref (E.2.1 73)), (1, .int a1), (2, .int a2), (3, .int a3)]) C dX12_aheadOf_105 4 rfl rfl (by decide) rfl ?_
            refine z_goto (tgt := 17) C dX12_aheadOf_108 (by decide) ?_
            refine z_sub [(0, .ref (E.2.1 73)), (1, .int a1), (2, .int a2), (3, .int a3), (4, .int (a4 + 1))] [1, 2, 3, 4, 0] rfl ?_
            exact ih a1 a2 a3 (a4 + 1) r30.2 _ hf hx17
  unfold f_X12_aheadOf at hf
  refine z_aload_n C dX12_aheadOf_0 0 rfl ?_
  refine z_aload_n C dX12_aheadOf_1 0 rfl ?_
  refine z_get (v := .ref (E.2.1 78)) (T := TX12) (N := 39) (ci := 11) C (by decide) wc_mo rfl in_X12 4 (by decide) t_849 rfl dX12_aheadOf_2 ?_
  refine z_iload_n C dX12_aheadOf_5 1 rfl ?_
  obtain ⟨h1, hf⟩ := ga_some hf
  refine z_iald C ka_78 h1 dX12_aheadOf_6 ?_
  obtain ⟨r2, h3, hf⟩ := bd_some hf
  refine z_callV (Y2 := YX12_canOf) (CC := RX12) (T := TX12) (N := 39) (ci := 11) (As := [.int (σ 78 (Int32.toNatClampNeg x1))]) C lk_X12_canOf (by decide) wc_mo rfl t_1106 t_1108 p_47 (Nat.le_of_ble_eq_true rfl) (Nat.le_of_ble_eq_true rfl) dX12_aheadOf_7 (Nat.le_of_ble_eq_true rfl) rfl rfl (m_X12_canOf X.2.1 E N (σ 78 (Int32.toNatClampNeg x1)) σ _ h3) ?_
  change Zz E X YX12_aheadOf (some (.int R.1), R.2) r2.2 _ _ [.int r2.1]
  refine z_istore_n (lv' := [(2, .int r2.1), (0, .ref (E.2.1 73)), (1, .int x1)]) C dX12_aheadOf_10 (by decide) rfl ?_
  refine z_bipush (v := (-9)) C dX12_aheadOf_11 (by decide) ?_
  refine z_istore_n (lv' := [(3, .int (-9)), (2, .int r2.1), (0, .ref (E.2.1 73)), (1, .int x1)]) C dX12_aheadOf_13 (by decide) rfl ?_
  refine z_iconst (v := 0) C dX12_aheadOf_14 (by decide) ?_
  refine z_istore (lv' := [(4, .int 0), (3, .int (-9)), (2, .int r2.1), (0, .ref (E.2.1 73)), (1, .int x1)]) C dX12_aheadOf_15 (by decide) rfl ?_
  refine z_sub [(0, .ref (E.2.1 73)), (1, .int x1), (2, .int r2.1), (3, .int (-9)), (4, .int 0)] [3, 4, 2, 1, 0] rfl ?_
  obtain ⟨s33, h37, hf⟩ := bd_some hf
  refine hL17 N x1 r2.1 (-9) 0 r2.2 _ h37 ?_
  refine z_iload_n C dX12_aheadOf_111 2 rfl ?_
  refine z_if_ge (tgt := 123) C dX12_aheadOf_112 (by decide) (fun h34 => ?_) (fun h34 => ?_)
  · replace hf := ifp hf h34
    refine z_iload_n C dX12_aheadOf_123 2 rfl ?_
    exact z_iret C dX12_aheadOf_124 rfl (by rw [← Option.some.inj hf])
  · replace hf := ifn hf h34
    refine z_aload_n C dX12_aheadOf_115 0 rfl ?_
    refine z_iload_n C dX12_aheadOf_116 1 rfl ?_
    obtain ⟨r35, h36, hf⟩ := bd_some hf
    refine z_callV (Y2 := YX12_aimOf) (CC := RX12) (T := TX12) (N := 39) (ci := 11) (As := [.int s33.1]) C lk_X12_aimOf (by decide) wc_mo rfl t_1234 t_1236 p_60 (Nat.le_of_ble_eq_true rfl) (Nat.le_of_ble_eq_true rfl) dX12_aheadOf_117 (Nat.le_of_ble_eq_true rfl) rfl rfl (m_X12_aimOf X.2.1 E N s33.1 s33.2.2 _ h36) ?_
    change Zz E X YX12_aheadOf (some (.int R.1), R.2) r35.2 _ _ [.int r35.1]
    refine z_goto (tgt := 124) C dX12_aheadOf_120 (by decide) ?_
    exact z_iret C dX12_aheadOf_124 rfl (by rw [← Option.some.inj hf])
theorem lk_X12_aheadOf {Y : Yv} : Lk Y YX12_aheadOf 1 := ⟨t_1245, t_13, ⟨by decide +kernel, by decide +kernel⟩, by decide +kernel⟩
abbrev YX12_writesOf : Yv := (yX12_writesOf, cX12_writesOf, 2, some .int, 7, 168)
def f_X12_writesOf (N : Nat) (x1 : Int32) (σ : Sg) : Option (Int32 × Sg) :=
  ga x1 4 (if (σ 77 (Int32.toNatClampNeg x1)) = 0 then (ga x1 4 (some ((σ 79 (Int32.toNatClampNeg x1)), σ))) else (if (σ 77 (Int32.toNatClampNeg x1)) = 1 then ((f_X12_aimOf N x1 σ).bind (fun r5 => some (r5.1, r5.2))) else (if (σ 77 (Int32.toNatClampNeg x1)) = 2 then ((f_X12_allOf N σ).bind (fun r8 => some (r8.1, r8.2))) else (if (σ 77 (Int32.toNatClampNeg x1)) = 3 then (if (jrem (σ 73 15) 2) = 1 then ((f_X12_aimOf N x1 σ).bind (fun r13 => some (r13.1, r13.2))) else (ga x1 4 (some ((σ 79 (Int32.toNatClampNeg x1)), σ)))) else ((f_X12_aheadOf N x1 σ).bind (fun r15 => some (r15.1, r15.2)))))))
set_option maxHeartbeats 4000000 in
set_option maxRecDepth 20000 in
theorem m_X12_writesOf (l : Launch) (E : Ev) (N : Nat) (x1 : Int32) (σ : Sg) (R : Int32 × Sg) (hf : f_X12_writesOf N x1 σ = some R) : Ct l E YX12_writesOf [.ref (E.2.1 73), .int x1] σ (some (.int R.1), R.2) := by
  refine ct_of (by decide +kernel) (Nat.le_of_ble_eq_true rfl) [(0, .ref (E.2.1 73)), (1, .int x1)] rfl (fun X hX C => ?_)
  unfold f_X12_writesOf at hf
  refine z_aload_n C dX12_writesOf_0 0 rfl ?_
  refine z_get (v := .ref (E.2.1 77)) (T := TX12) (N := 39) (ci := 11) C (by decide) wc_mo rfl in_X12 3 (by decide) t_848 rfl dX12_writesOf_1 ?_
  refine z_iload_n C dX12_writesOf_4 1 rfl ?_
  obtain ⟨h1, hf⟩ := ga_some hf
  refine z_iald C ka_77 h1 dX12_writesOf_5 ?_
  by_cases h2 : (σ 77 (Int32.toNatClampNeg x1)) = 0
  · replace hf := ifp hf h2
    refine z_tabIn (x := (σ 77 (Int32.toNatClampNeg x1))) (off := 30) (tgt := 36) C dX12_writesOf_6 (by rw [h2]; decide) (by rw [h2]; decide) (by rw [h2]; decide) (by decide) ?_
    refine z_aload_n C dX12_writesOf_36 0 rfl ?_
    refine z_get (v := .ref (E.2.1 79)) (T := TX12) (N := 39) (ci := 11) C (by decide) wc_mo rfl in_X12 5 (by decide) t_850 rfl dX12_writesOf_37 ?_
    refine z_iload_n C dX12_writesOf_40 1 rfl ?_
    obtain ⟨h3, hf⟩ := ga_some hf
    refine z_iald C ka_79 h3 dX12_writesOf_41 ?_
    exact z_iret C dX12_writesOf_42 rfl (by rw [← Option.some.inj hf])
  · replace hf := ifn hf h2
    by_cases h4 : (σ 77 (Int32.toNatClampNeg x1)) = 1
    · replace hf := ifp hf h4
      refine z_tabIn (x := (σ 77 (Int32.toNatClampNeg x1))) (off := 37) (tgt := 43) C dX12_writesOf_6 (by rw [h4]; decide) (by rw [h4]; decide) (by rw [h4]; decide) (by decide) ?_
      refine z_aload_n C dX12_writesOf_43 0 rfl ?_
      refine z_iload_n C dX12_writesOf_44 1 rfl ?_
      obtain ⟨r5, h6, hf⟩ := bd_some hf
      refine z_callV (Y2 := YX12_aimOf) (CC := RX12) (T := TX12) (N := 39) (ci := 11) (As := [.int x1]) C lk_X12_aimOf (by decide) wc_mo rfl t_1234 t_1236 p_60 (Nat.le_of_ble_eq_true rfl) (Nat.le_of_ble_eq_true rfl) dX12_writesOf_45 (Nat.le_of_ble_eq_true rfl) rfl rfl (m_X12_aimOf X.2.1 E N x1 σ _ h6) ?_
      change Zz E X YX12_writesOf (some (.int R.1), R.2) r5.2 _ _ [.int r5.1]
      exact z_iret C dX12_writesOf_48 rfl (by rw [← Option.some.inj hf])
    · replace hf := ifn hf h4
      by_cases h7 : (σ 77 (Int32.toNatClampNeg x1)) = 2
      · replace hf := ifp hf h7
        refine z_tabIn (x := (σ 77 (Int32.toNatClampNeg x1))) (off := 43) (tgt := 49) C dX12_writesOf_6 (by rw [h7]; decide) (by rw [h7]; decide) (by rw [h7]; decide) (by decide) ?_
        refine z_aload_n C dX12_writesOf_49 0 rfl ?_
        obtain ⟨r8, h9, hf⟩ := bd_some hf
        refine z_callV (Y2 := YX12_allOf) (CC := RX12) (T := TX12) (N := 39) (ci := 11) (As := []) C lk_X12_allOf (by decide) wc_mo rfl t_1238 t_1240 p_61 (Nat.le_of_ble_eq_true rfl) (Nat.le_of_ble_eq_true rfl) dX12_writesOf_50 (Nat.le_of_ble_eq_true rfl) rfl rfl (m_X12_allOf X.2.1 E N σ _ h9) ?_
        change Zz E X YX12_writesOf (some (.int R.1), R.2) r8.2 _ _ [.int r8.1]
        exact z_iret C dX12_writesOf_53 rfl (by rw [← Option.some.inj hf])
      · replace hf := ifn hf h7
        by_cases h10 : (σ 77 (Int32.toNatClampNeg x1)) = 3
        · replace hf := ifp hf h10
          refine z_tabIn (x := (σ 77 (Int32.toNatClampNeg x1))) (off := 48) (tgt := 54) C dX12_writesOf_6 (by rw [h10]; decide) (by rw [h10]; decide) (by rw [h10]; decide) (by decide) ?_
          refine z_aload_n C dX12_writesOf_54 0 rfl ?_
          refine z_get (v := .int (σ 73 15)) (T := TX12) (N := 39) (ci := 11) C (by decide) wc_mo rfl in_X12 15 (by decide) t_860 rfl dX12_writesOf_55 ?_
          refine z_iconst (v := 2) C dX12_writesOf_58 (by decide) ?_
          refine z_irem C dX12_writesOf_59 (by decide) ?_
          refine z_iconst (v := 1) C dX12_writesOf_60 (by decide) ?_
          refine z_icmp_ne (tgt := 72) C dX12_writesOf_61 (by decide) (fun h11 => ?_) (fun h11 => ?_)
          · replace hf := ifn hf h11
            refine z_aload_n C dX12_writesOf_72 0 rfl ?_
            refine z_get (v := .ref (E.2.1 79)) (T := TX12) (N := 39) (ci := 11) C (by decide) wc_mo rfl in_X12 5 (by decide) t_850 rfl dX12_writesOf_73 ?_
            refine z_iload_n C dX12_writesOf_76 1 rfl ?_
            obtain ⟨h12, hf⟩ := ga_some hf
            refine z_iald C ka_79 h12 dX12_writesOf_77 ?_
            exact z_iret C dX12_writesOf_78 rfl (by rw [← Option.some.inj hf])
          · replace hf := ifp hf h11
            refine z_aload_n C dX12_writesOf_64 0 rfl ?_
            refine z_iload_n C dX12_writesOf_65 1 rfl ?_
            obtain ⟨r13, h14, hf⟩ := bd_some hf
            refine z_callV (Y2 := YX12_aimOf) (CC := RX12) (T := TX12) (N := 39) (ci := 11) (As := [.int x1]) C lk_X12_aimOf (by decide) wc_mo rfl t_1234 t_1236 p_60 (Nat.le_of_ble_eq_true rfl) (Nat.le_of_ble_eq_true rfl) dX12_writesOf_66 (Nat.le_of_ble_eq_true rfl) rfl rfl (m_X12_aimOf X.2.1 E N x1 σ _ h14) ?_
            change Zz E X YX12_writesOf (some (.int R.1), R.2) r13.2 _ _ [.int r13.1]
            refine z_goto (tgt := 78) C dX12_writesOf_69 (by decide) ?_
            exact z_iret C dX12_writesOf_78 rfl (by rw [← Option.some.inj hf])
        · replace hf := ifn hf h10
          refine z_tabOut (x := (σ 77 (Int32.toNatClampNeg x1))) (tgt := 79) C dX12_writesOf_6 (by have eh2 := lv_neT (a := 0) h2 (by decide); have eh4 := lv_neT (a := 1) h4 (by decide); have eh7 := lv_neT (a := 2) h7 (by decide); have eh10 := lv_neT (a := 3) h10 (by decide); omega) (by decide) ?_
          refine z_aload_n C dX12_writesOf_79 0 rfl ?_
          refine z_iload_n C dX12_writesOf_80 1 rfl ?_
          obtain ⟨r15, h16, hf⟩ := bd_some hf
          refine z_callV (Y2 := YX12_aheadOf) (CC := RX12) (T := TX12) (N := 39) (ci := 11) (As := [.int x1]) C lk_X12_aheadOf (by decide) wc_mo rfl t_1242 t_1244 p_62 (Nat.le_of_ble_eq_true rfl) (Nat.le_of_ble_eq_true rfl) dX12_writesOf_81 (Nat.le_of_ble_eq_true rfl) rfl rfl (m_X12_aheadOf X.2.1 E N x1 σ _ h16) ?_
          change Zz E X YX12_writesOf (some (.int R.1), R.2) r15.2 _ _ [.int r15.1]
          exact z_iret C dX12_writesOf_84 rfl (by rw [← Option.some.inj hf])
theorem lk_X12_writesOf {Y : Yv} : Lk Y YX12_writesOf 1 := ⟨t_1233, t_13, ⟨by decide +kernel, by decide +kernel⟩, by decide +kernel⟩
abbrev YX12_morning : Yv := (yX12_morning, cX12_morning, 4, some .int, 8, 189)
def f_X12_morning_B4 (N : Nat) (rec : Int32 → Int32 → Sg → Option (Int32 × Sg)) (a1 a2 : Int32) (σ : Sg) : Option (Int32 × Sg) :=
  if (σ 73 10) ≤ a2 then (some (a1, σ)) else ((f_X12_writesOf N a2 σ).bind (fun r2 => nm (sgs r2.2 73 16 ((r2.2 73 16) + 1)) (fun σ4 => (f_X12_posts N r2.1 σ4).bind (fun r6 => ga a2 4 (if r6.1 = (r6.2 78 (Int32.toNatClampNeg a2)) then (rec (a1 + 1) (a2 + 1) r6.2) else (rec (a1 + 0) (a2 + 1) r6.2))))))
def f_X12_morning_L4 (N : Nat) : Nat → Int32 → Int32 → Sg → Option (Int32 × Sg)
  | 0 => fun _ _ _ => none
  | k + 1 => fun a1 a2 σ => f_X12_morning_B4 N (f_X12_morning_L4 N k) a1 a2 σ
def f_X12_morning (N : Nat) (σ : Sg) : Option (Int32 × Sg) :=
  (f_X12_morning_L4 N N 0 0 σ).bind (fun s10 => some (s10.1, s10.2))
set_option maxHeartbeats 4000000 in
set_option maxRecDepth 20000 in
theorem m_X12_morning (l : Launch) (E : Ev) (N : Nat) (σ : Sg) (R : Int32 × Sg) (hf : f_X12_morning N σ = some R) : Ct l E YX12_morning [.ref (E.2.1 73)] σ (some (.int R.1), R.2) := by
  refine ct_of (by decide +kernel) (Nat.le_of_ble_eq_true rfl) [(0, .ref (E.2.1 73))] rfl (fun X hX C => ?_)
  have hL4 : ∀ (k : Nat) (a1 a2 : Int32) (σ : Sg) (Q4 : Int32 × Sg), f_X12_morning_L4 N k a1 a2 σ = some Q4 → (Zz E X YX12_morning (some (.int R.1), R.2) Q4.2 56 [(1, .int Q4.1)] []) → Zz E X YX12_morning (some (.int R.1), R.2) σ 4 [(0, .ref (E.2.1 73)), (1, .int a1), (2, .int a2)] [] := by
    intro k
    induction k with
    | zero =>
      intro a1 a2 σ Q4 hf
      have hf : (none : Option (Int32 × Sg)) = some Q4 := hf
      cases hf
    | succ k ih =>
      intro a1 a2 σ Q4 hf hx4
      have hf : f_X12_morning_B4 N (f_X12_morning_L4 N k) a1 a2 σ = some Q4 := hf
      unfold f_X12_morning_B4 at hf
      refine z_iload_n C dX12_morning_4 2 rfl ?_
      refine z_aload_n C dX12_morning_5 0 rfl ?_
      refine z_get (v := .int (σ 73 10)) (T := TX12) (N := 39) (ci := 11) C (by decide) wc_mo rfl in_X12 10 (by decide) t_855 rfl dX12_morning_6 ?_
      refine z_icmp_ge (tgt := 56) C dX12_morning_9 (by decide) (fun h1 => ?_) (fun h1 => ?_)
      · replace hf := ifp hf h1
        refine z_sub [(1, .int a1)] [1] rfl ?_
        obtain rfl := Option.some.inj hf
        exact hx4
      · replace hf := ifn hf h1
        refine z_aload_n C dX12_morning_12 0 rfl ?_
        refine z_iload_n C dX12_morning_13 2 rfl ?_
        obtain ⟨r2, h3, hf⟩ := bd_some hf
        refine z_callV (Y2 := YX12_writesOf) (CC := RX12) (T := TX12) (N := 39) (ci := 11) (As := [.int a2]) C lk_X12_writesOf (by decide) wc_mo rfl t_1230 t_1232 p_59 (Nat.le_of_ble_eq_true rfl) (Nat.le_of_ble_eq_true rfl) dX12_morning_14 (Nat.le_of_ble_eq_true rfl) rfl rfl (m_X12_writesOf X.2.1 E N a2 σ _ h3) ?_
        change Zz E X YX12_morning (some (.int R.1), R.2) r2.2 _ _ [.int r2.1]
        refine z_istore_n (lv' := [(3, .int r2.1), (0, .ref (E.2.1 73)), (1, .int a1), (2, .int a2)]) C dX12_morning_17 (by decide) rfl ?_
        refine z_aload_n C dX12_morning_18 1 rfl ?_
        refine z_dup C dX12_morning_19 rfl ?_
        refine z_get (v := .int (r2.2 73 16)) (T := TX12) (N := 39) (ci := 11) C (by decide) wc_mo rfl in_X12 16 (by decide) t_861 rfl dX12_morning_20 ?_
        refine z_iconst (v := 1) C dX12_morning_23 (by decide) ?_
        refine z_iadd C dX12_morning_24 ?_
        obtain ⟨σ4, h5, hf⟩ := nm_some hf
        refine z_put (T := TX12) (N := 39) (ci := 11) (ty := .int) C tyX12 tyX12_ok nmX12 (by decide) wc_mo rfl in_X12 16 (by decide) t_861 rfl rfl rfl rfl (Nat.le_of_ble_eq_true rfl) (pw_X12_16) dX12_morning_25 ?_
        rw [← h5]
        refine z_iload_n C dX12_morning_28 2 rfl ?_
        refine z_aload_n C dX12_morning_29 1 rfl ?_
        refine z_iload_n C dX12_morning_30 0 rfl ?_
        obtain ⟨r6, h7, hf⟩ := bd_some hf
        refine z_callV (Y2 := YX12_posts) (CC := RX12) (T := TX12) (N := 39) (ci := 11) (As := [.int r2.1]) C lk_X12_posts (by decide) wc_mo rfl t_1078 t_1080 p_43 (Nat.le_of_ble_eq_true rfl) (Nat.le_of_ble_eq_true rfl) dX12_morning_31 (Nat.le_of_ble_eq_true rfl) rfl rfl (m_X12_posts X.2.1 E N r2.1 σ4 _ h7) ?_
        change Zz E X YX12_morning (some (.int R.1), R.2) r6.2 _ _ [.int r6.1, .int a1]
        refine z_aload_n C dX12_morning_34 1 rfl ?_
        refine z_get (v := .ref (E.2.1 78)) (T := TX12) (N := 39) (ci := 11) C (by decide) wc_mo rfl in_X12 4 (by decide) t_849 rfl dX12_morning_35 ?_
        refine z_iload_n C dX12_morning_38 3 rfl ?_
        obtain ⟨h8, hf⟩ := ga_some hf
        refine z_iald C ka_78 h8 dX12_morning_39 ?_
        refine z_icmp_ne (tgt := 47) C dX12_morning_40 (by decide) (fun h9 => ?_) (fun h9 => ?_)
        · replace hf := ifn hf h9
          refine z_iconst (v := 0) C dX12_morning_47 (by decide) ?_
          refine z_iadd C dX12_morning_48 ?_
          refine z_istore_n (lv' := [(1, .int (a1 + 0)), (3, .int r2.1), (0, .ref (E.2.1 73)), (2, .int a2)]) C dX12_morning_49 (by decide) rfl ?_
          refine z_iinc (v := (a2 + 1)) (lv' := [(2, .int (a2 + 1)), (1, .int (a1 + 0)), (3, .int r2.1), (0, .ref (E.2.1 73))]) C dX12_morning_50 3 rfl rfl (by decide) rfl ?_
          refine z_goto (tgt := 4) C dX12_morning_53 (by decide) ?_
          refine z_sub [(0, .ref (E.2.1 73)), (1, .int (a1 + 0)), (2, .int (a2 + 1))] [3, 1, 0] rfl ?_
          exact ih (a1 + 0) (a2 + 1) r6.2 _ hf hx4
        · replace hf := ifp hf h9
          refine z_iconst (v := 1) C dX12_morning_43 (by decide) ?_
          refine z_goto (tgt := 48) C dX12_morning_44 (by decide) ?_
          refine z_iadd C dX12_morning_48 ?_
          refine z_istore_n (lv' := [(1, .int (a1 + 1)), (3, .int r2.1), (0, .ref (E.2.1 73)), (2, .int a2)]) C dX12_morning_49 (by decide) rfl ?_
          refine z_iinc (v := (a2 + 1)) (lv' := [(2, .int (a2 + 1)), (1, .int (a1 + 1)), (3, .int r2.1), (0, .ref (E.2.1 73))]) C dX12_morning_50 3 rfl rfl (by decide) rfl ?_
          refine z_goto (tgt := 4) C dX12_morning_53 (by decide) ?_
          refine z_sub [(0, .ref (E.2.1 73)), (1, .int (a1 + 1)), (2, .int (a2 + 1))] [3, 1, 0] rfl ?_
          exact ih (a1 + 1) (a2 + 1) r6.2 _ hf hx4
  unfold f_X12_morning at hf
  refine z_iconst (v := 0) C dX12_morning_0 (by decide) ?_
  refine z_istore_n (lv' := [(1, .int 0), (0, .ref (E.2.1 73))]) C dX12_morning_1 (by decide) rfl ?_
  refine z_iconst (v := 0) C dX12_morning_2 (by decide) ?_
  refine z_istore_n (lv' := [(2, .int 0), (1, .int 0), (0, .ref (E.2.1 73))]) C dX12_morning_3 (by decide) rfl ?_
  refine z_sub [(0, .ref (E.2.1 73)), (1, .int 0), (2, .int 0)] [2, 1, 0] rfl ?_
  obtain ⟨s10, h11, hf⟩ := bd_some hf
  refine hL4 N 0 0 σ _ h11 ?_
  refine z_iload_n C dX12_morning_56 0 rfl ?_
  exact z_iret C dX12_morning_57 rfl (by rw [← Option.some.inj hf])
theorem lk_X12_morning {Y : Yv} : Lk Y YX12_morning 0 := ⟨t_1229, t_13, ⟨by decide +kernel, by decide +kernel⟩, by decide +kernel⟩
abbrev YX12_writes : Yv := (yX12_writes, cX12_writes, 2, some .int, 8, 189)
def f_X12_writes (N : Nat) (x1 : Int32) (σ : Sg) : Option (Int32 × Sg) :=
  (f_X12_isWriter N x1 σ).bind (fun r1 => if r1.1 = 0 then ((f_X12_no N (-1) r1.2).bind (fun r4 => some (r4.1, r4.2))) else ((f_X12_writesOf N x1 r1.2).bind (fun r6 => some (r6.1, r6.2))))
set_option maxHeartbeats 4000000 in
set_option maxRecDepth 20000 in
theorem m_X12_writes (l : Launch) (E : Ev) (N : Nat) (x1 : Int32) (σ : Sg) (R : Int32 × Sg) (hf : f_X12_writes N x1 σ = some R) : Ct l E YX12_writes [.ref (E.2.1 73), .int x1] σ (some (.int R.1), R.2) := by
  refine ct_of (by decide +kernel) (Nat.le_of_ble_eq_true rfl) [(0, .ref (E.2.1 73)), (1, .int x1)] rfl (fun X hX C => ?_)
  unfold f_X12_writes at hf
  refine z_aload_n C dX12_writes_0 0 rfl ?_
  refine z_iload_n C dX12_writes_1 1 rfl ?_
  obtain ⟨r1, h2, hf⟩ := bd_some hf
  refine z_callV (Y2 := YX12_isWriter) (CC := RX12) (T := TX12) (N := 39) (ci := 11) (As := [.int x1]) C lk_X12_isWriter (by decide) wc_mo rfl t_1036 t_1038 p_39 (Nat.le_of_ble_eq_true rfl) (Nat.le_of_ble_eq_true rfl) dX12_writes_2 (Nat.le_of_ble_eq_true rfl) rfl rfl (m_X12_isWriter X.2.1 E N x1 σ _ h2) ?_
  change Zz E X YX12_writes (some (.int R.1), R.2) r1.2 _ _ [.int r1.1]
  refine z_if_eq (tgt := 16) C dX12_writes_5 (by decide) (fun h3 => ?_) (fun h3 => ?_)
  · replace hf := ifp hf h3
    refine z_aload_n C dX12_writes_16 0 rfl ?_
    refine z_iconst (v := (-1)) C dX12_writes_17 (by decide) ?_
    obtain ⟨r4, h5, hf⟩ := bd_some hf
    refine z_callV (Y2 := YX12_no) (CC := RX12) (T := TX12) (N := 39) (ci := 11) (As := [.int (-1)]) C lk_X12_no (by decide) wc_mo rfl t_970 t_972 p_27 (Nat.le_of_ble_eq_true rfl) (Nat.le_of_ble_eq_true rfl) dX12_writes_18 (Nat.le_of_ble_eq_true rfl) rfl rfl (m_X12_no X.2.1 E N (-1) r1.2 _ h5) ?_
    change Zz E X YX12_writes (some (.int R.1), R.2) r4.2 _ _ [.int r4.1]
    exact z_iret C dX12_writes_21 rfl (by rw [← Option.some.inj hf])
  · replace hf := ifn hf h3
    refine z_aload_n C dX12_writes_8 0 rfl ?_
    refine z_iload_n C dX12_writes_9 1 rfl ?_
    obtain ⟨r6, h7, hf⟩ := bd_some hf
    refine z_callV (Y2 := YX12_writesOf) (CC := RX12) (T := TX12) (N := 39) (ci := 11) (As := [.int x1]) C lk_X12_writesOf (by decide) wc_mo rfl t_1230 t_1232 p_59 (Nat.le_of_ble_eq_true rfl) (Nat.le_of_ble_eq_true rfl) dX12_writes_10 (Nat.le_of_ble_eq_true rfl) rfl rfl (m_X12_writesOf X.2.1 E N x1 r1.2 _ h7) ?_
    change Zz E X YX12_writes (some (.int R.1), R.2) r6.2 _ _ [.int r6.1]
    refine z_goto (tgt := 21) C dX12_writes_13 (by decide) ?_
    exact z_iret C dX12_writes_21 rfl (by rw [← Option.some.inj hf])
theorem lk_X12_writes {Y : Yv} : Lk Y YX12_writes 1 := ⟨t_1249, t_13, ⟨by decide +kernel, by decide +kernel⟩, by decide +kernel⟩
abbrev YX12_aimBehind : Yv := (yX12_aimBehind, cX12_aimBehind, 4, some .int, 6, 143)
def f_X12_aimBehind (N : Nat) (x1 x2 : Int32) (σ : Sg) : Option (Int32 × Sg) :=
  (f_X12_keeps N 0 σ).bind (fun r1 => (f_X12_posts N x2 r1).bind (fun r3 => (f_X12_aimOf N x1 r3.2).bind (fun r5 => (f_X12_putsBack N 0 r5.2).bind (fun r7 => some (r5.1, r7)))))
set_option maxHeartbeats 4000000 in
set_option maxRecDepth 20000 in
theorem m_X12_aimBehind (l : Launch) (E : Ev) (N : Nat) (x1 x2 : Int32) (σ : Sg) (R : Int32 × Sg) (hf : f_X12_aimBehind N x1 x2 σ = some R) : Ct l E YX12_aimBehind [.ref (E.2.1 73), .int x1, .int x2] σ (some (.int R.1), R.2) := by
  refine ct_of (by decide +kernel) (Nat.le_of_ble_eq_true rfl) [(0, .ref (E.2.1 73)), (1, .int x1), (2, .int x2)] rfl (fun X hX C => ?_)
  unfold f_X12_aimBehind at hf
  refine z_aload_n C dX12_aimBehind_0 0 rfl ?_
  refine z_iconst (v := 0) C dX12_aimBehind_1 (by decide) ?_
  obtain ⟨r1, h2, hf⟩ := bd_some hf
  refine z_callV (Y2 := YX12_keeps) (CC := RX12) (T := TX12) (N := 39) (ci := 11) (As := [.int 0]) C lk_X12_keeps (by decide) wc_mo rfl t_1140 t_1142 p_51 (Nat.le_of_ble_eq_true rfl) (Nat.le_of_ble_eq_true rfl) dX12_aimBehind_2 (Nat.le_of_ble_eq_true rfl) rfl rfl (m_X12_keeps X.2.1 E N 0 σ _ h2) ?_
  change Zz E X YX12_aimBehind (some (.int R.1), R.2) r1 _ _ []
  refine z_aload_n C dX12_aimBehind_5 0 rfl ?_
  refine z_iload_n C dX12_aimBehind_6 2 rfl ?_
  obtain ⟨r3, h4, hf⟩ := bd_some hf
  refine z_callV (Y2 := YX12_posts) (CC := RX12) (T := TX12) (N := 39) (ci := 11) (As := [.int x2]) C lk_X12_posts (by decide) wc_mo rfl t_1078 t_1080 p_43 (Nat.le_of_ble_eq_true rfl) (Nat.le_of_ble_eq_true rfl) dX12_aimBehind_7 (Nat.le_of_ble_eq_true rfl) rfl rfl (m_X12_posts X.2.1 E N x2 r1 _ h4) ?_
  change Zz E X YX12_aimBehind (some (.int R.1), R.2) r3.2 _ _ [.int r3.1]
  refine z_pop C dX12_aimBehind_10 rfl ?_
  refine z_aload_n C dX12_aimBehind_11 0 rfl ?_
  refine z_iload_n C dX12_aimBehind_12 1 rfl ?_
  obtain ⟨r5, h6, hf⟩ := bd_some hf
  refine z_callV (Y2 := YX12_aimOf) (CC := RX12) (T := TX12) (N := 39) (ci := 11) (As := [.int x1]) C lk_X12_aimOf (by decide) wc_mo rfl t_1234 t_1236 p_60 (Nat.le_of_ble_eq_true rfl) (Nat.le_of_ble_eq_true rfl) dX12_aimBehind_13 (Nat.le_of_ble_eq_true rfl) rfl rfl (m_X12_aimOf X.2.1 E N x1 r3.2 _ h6) ?_
  change Zz E X YX12_aimBehind (some (.int R.1), R.2) r5.2 _ _ [.int r5.1]
  refine z_istore_n (lv' := [(3, .int r5.1), (0, .ref (E.2.1 73)), (1, .int x1), (2, .int x2)]) C dX12_aimBehind_16 (by decide) rfl ?_
  refine z_aload_n C dX12_aimBehind_17 1 rfl ?_
  refine z_iconst (v := 0) C dX12_aimBehind_18 (by decide) ?_
  obtain ⟨r7, h8, hf⟩ := bd_some hf
  refine z_callV (Y2 := YX12_putsBack) (CC := RX12) (T := TX12) (N := 39) (ci := 11) (As := [.int 0]) C lk_X12_putsBack (by decide) wc_mo rfl t_1148 t_1150 p_53 (Nat.le_of_ble_eq_true rfl) (Nat.le_of_ble_eq_true rfl) dX12_aimBehind_19 (Nat.le_of_ble_eq_true rfl) rfl rfl (m_X12_putsBack X.2.1 E N 0 r5.2 _ h8) ?_
  change Zz E X YX12_aimBehind (some (.int R.1), R.2) r7 _ _ []
  refine z_iload_n C dX12_aimBehind_22 0 rfl ?_
  exact z_iret C dX12_aimBehind_23 rfl (by rw [← Option.some.inj hf])
theorem lk_X12_aimBehind {Y : Yv} : Lk Y YX12_aimBehind 2 := ⟨t_1257, t_13, ⟨by decide +kernel, by decide +kernel⟩, by decide +kernel⟩
abbrev YX12_both : Yv := (yX12_both, cX12_both, 8, some .int, 7, 166)
def f_X12_both_J21 (N : Nat) (σ : Sg) : Option (Int32 × Sg) :=
  (f_X12_no N (-1) σ).bind (fun r4 => some (r4.1, r4.2))
def f_X12_both_B45 (N : Nat) (rec : Int32 → Int32 → Int32 → Int32 → Int32 → Sg → Option ((Sg) ⊕ (Int32 × Sg))) (a1 a2 a3 a4 a5 : Int32) (σ : Sg) : Option ((Sg) ⊕ (Int32 × Sg)) :=
  if 10 < a5 then (some (.inl σ)) else ((f_X12_aimBehind N a1 a4 σ).bind (fun r17 => (f_X12_aimBehind N a2 r17.1 r17.2).bind (fun r19 => if r17.1 = a3 then (if r19.1 = a4 then (some (.inr (a5, r19.2))) else (rec a1 a2 r17.1 r19.1 (a5 + 1) r19.2)) else (rec a1 a2 r17.1 r19.1 (a5 + 1) r19.2))))
def f_X12_both_L45 (N : Nat) : Nat → Int32 → Int32 → Int32 → Int32 → Int32 → Sg → Option ((Sg) ⊕ (Int32 × Sg))
  | 0 => fun _ _ _ _ _ _ => none
  | k + 1 => fun a1 a2 a3 a4 a5 σ => f_X12_both_B45 N (f_X12_both_L45 N k) a1 a2 a3 a4 a5 σ
def f_X12_both (N : Nat) (x1 x2 : Int32) (σ : Sg) : Option (Int32 × Sg) :=
  (f_X12_isWriter N x1 σ).bind (fun r1 => if r1.1 = 0 then (f_X12_both_J21 N r1.2) else ((f_X12_isWriter N x2 r1.2).bind (fun r6 => if r6.1 = 0 then (f_X12_both_J21 N r6.2) else (if x1 = x2 then (f_X12_both_J21 N r6.2) else (ga x1 4 (nm (r6.2 79 (Int32.toNatClampNeg x1)) (fun v11 => ga x2 4 (nm (r6.2 79 (Int32.toNatClampNeg x2)) (fun v14 => ex1 (f_X12_both_L45 N N x1 x2 v11 v14 1 r6.2) (fun s23 => some ((-9), s23)) (fun r24 => some r24))))))))))
set_option maxHeartbeats 4000000 in
set_option maxRecDepth 20000 in
theorem m_X12_both (l : Launch) (E : Ev) (N : Nat) (x1 x2 : Int32) (σ : Sg) (R : Int32 × Sg) (hf : f_X12_both N x1 x2 σ = some R) : Ct l E YX12_both [.ref (E.2.1 73), .int x1, .int x2] σ (some (.int R.1), R.2) := by
  refine ct_of (by decide +kernel) (Nat.le_of_ble_eq_true rfl) [(0, .ref (E.2.1 73)), (1, .int x1), (2, .int x2)] rfl (fun X hX C => ?_)
  have hL45 : ∀ (k : Nat) (a1 a2 a3 a4 a5 : Int32) (σ : Sg) (Q45 : (Sg) ⊕ (Int32 × Sg)), f_X12_both_L45 N k a1 a2 a3 a4 a5 σ = some Q45 → (∀ S, Q45 = .inl S → Zz E X YX12_both (some (.int R.1), R.2) S 99 [] []) → (∀ r, Q45 = .inr r → ((some (.int R.1), R.2) : Pv) = (some (.int r.1), r.2)) → Zz E X YX12_both (some (.int R.1), R.2) σ 45 [(0, .ref (E.2.1 73)), (1, .int a1), (2, .int a2), (3, .int a3), (4, .int a4), (5, .int a5)] [] := by
    intro k
    induction k with
    | zero =>
      intro a1 a2 a3 a4 a5 σ Q45 hf
      have hf : (none : Option ((Sg) ⊕ (Int32 × Sg))) = some Q45 := hf
      cases hf
    | succ k ih =>
      intro a1 a2 a3 a4 a5 σ Q45 hf hx45 hr45
      have hf : f_X12_both_B45 N (f_X12_both_L45 N k) a1 a2 a3 a4 a5 σ = some Q45 := hf
      unfold f_X12_both_B45 at hf
      refine z_iload C dX12_both_45 5 rfl ?_
      refine z_bipush (v := 10) C dX12_both_47 (by decide) ?_
      refine z_icmp_gt (tgt := 99) C dX12_both_49 (by decide) (fun h16 => ?_) (fun h16 => ?_)
      · replace hf := ifp hf h16
        refine z_sub [] [] rfl ?_
        exact hx45 _ (Option.some.inj hf).symm
      · replace hf := ifn hf h16
        refine z_aload_n C dX12_both_52 0 rfl ?_
        refine z_iload_n C dX12_both_53 1 rfl ?_
        refine z_iload C dX12_both_54 4 rfl ?_
        obtain ⟨r17, h18, hf⟩ := bd_some hf
        refine z_callV (Y2 := YX12_aimBehind) (CC := RX12) (T := TX12) (N := 39) (ci := 11) (As := [.int a1, .int a4]) C lk_X12_aimBehind (by decide) wc_mo rfl t_1254 t_1256 p_63 (Nat.le_of_ble_eq_true rfl) (Nat.le_of_ble_eq_true rfl) dX12_both_56 (Nat.le_of_ble_eq_true rfl) rfl rfl (m_X12_aimBehind X.2.1 E N a1 a4 σ _ h18) ?_
        change Zz E X YX12_both (some (.int R.1), R.2) r17.2 _ _ [.int r17.1]
        refine z_istore (lv' := [(6, .int r17.1), (0, .ref (E.2.1 73)), (1, .int a1), (2, .int a2), (3, .int a3), (4, .int a4), (5, .int a5)]) C dX12_both_59 (by decide) rfl ?_
        refine z_aload_n C dX12_both_61 1 rfl ?_
        refine z_iload_n C dX12_both_62 3 rfl ?_
        refine z_iload C dX12_both_63 0 rfl ?_
        obtain ⟨r19, h20, hf⟩ := bd_some hf
        refine z_callV (Y2 := YX12_aimBehind) (CC := RX12) (T := TX12) (N := 39) (ci := 11) (As := [.int a2, .int r17.1]) C lk_X12_aimBehind (by decide) wc_mo rfl t_1254 t_1256 p_63 (Nat.le_of_ble_eq_true rfl) (Nat.le_of_ble_eq_true rfl) dX12_both_65 (Nat.le_of_ble_eq_true rfl) rfl rfl (m_X12_aimBehind X.2.1 E N a2 r17.1 r17.2 _ h20) ?_
        change Zz E X YX12_both (some (.int R.1), R.2) r19.2 _ _ [.int r19.1]
        refine z_istore (lv' := [(7, .int r19.1), (6, .int r17.1), (0, .ref (E.2.1 73)), (1, .int a1), (2, .int a2), (3, .int a3), (4, .int a4), (5, .int a5)]) C dX12_both_68 (by decide) rfl ?_
        refine z_iload C dX12_both_70 1 rfl ?_
        refine z_iload_n C dX12_both_72 5 rfl ?_
        refine z_icmp_ne (tgt := 86) C dX12_both_73 (by decide) (fun h21 => ?_) (fun h21 => ?_)
        · replace hf := ifn hf h21
          refine z_iload C dX12_both_86 1 rfl ?_
          refine z_istore_n (lv' := [(3, .int r17.1), (7, .int r19.1), (6, .int r17.1), (0, .ref (E.2.1 73)), (1, .int a1), (2, .int a2), (4, .int a4), (5, .int a5)]) C dX12_both_88 (by decide) rfl ?_
          refine z_iload C dX12_both_89 1 rfl ?_
          refine z_istore (lv' := [(4, .int r19.1), (3, .int r17.1), (7, .int r19.1), (6, .int r17.1), (0, .ref (E.2.1 73)), (1, .int a1), (2, .int a2), (5, .int a5)]) C dX12_both_91 (by decide) rfl ?_
          refine z_iinc (v := (a5 + 1)) (lv' := [(5, .int (a5 + 1)), (4, .int r19.1), (3, .int r17.1), (7, .int r19.1), (6, .int r17.1), (0, .ref (E.2.1 73)), (1, .int a1), (2, .int a2)]) C dX12_both_93 7 rfl rfl (by decide) rfl ?_
          refine z_goto (tgt := 45) C dX12_both_96 (by decide) ?_
          refine z_sub [(0, .ref (E.2.1 73)), (1, .int a1), (2, .int a2), (3, .int r17.1), (4, .int r19.1), (5, .int (a5 + 1))] [5, 6, 7, 2, 1, 0] rfl ?_
          exact ih a1 a2 r17.1 r19.1 (a5 + 1) r19.2 _ hf hx45 hr45
        · replace hf := ifp hf h21
          refine z_iload C dX12_both_76 0 rfl ?_
          refine z_iload C dX12_both_78 6 rfl ?_
          refine z_icmp_ne (tgt := 86) C dX12_both_80 (by decide) (fun h22 => ?_) (fun h22 => ?_)
          · replace hf := ifn hf h22
            refine z_iload C dX12_both_86 1 rfl ?_
            refine z_istore_n (lv' := [(3, .int r17.1), (7, .int r19.1), (6, .int r17.1), (0, .ref (E.2.1 73)), (1, .int a1), (2, .int a2), (4, .int a4), (5, .int a5)]) C dX12_both_88 (by decide) rfl ?_
            refine z_iload C dX12_both_89 1 rfl ?_
            refine z_istore (lv' := [(4, .int r19.1), (3, .int r17.1), (7, .int r19.1), (6, .int r17.1), (0, .ref (E.2.1 73)), (1, .int a1), (2, .int a2), (5, .int a5)]) C dX12_both_91 (by decide) rfl ?_
            refine z_iinc (v := (a5 + 1)) (lv' := [(5, .int (a5 + 1)), (4, .int r19.1), (3, .int r17.1), (7, .int r19.1), (6, .int r17.1), (0, .ref (E.2.1 73)), (1, .int a1), (2, .int a2)]) C dX12_both_93 7 rfl rfl (by decide) rfl ?_
            refine z_goto (tgt := 45) C dX12_both_96 (by decide) ?_
            refine z_sub [(0, .ref (E.2.1 73)), (1, .int a1), (2, .int a2), (3, .int r17.1), (4, .int r19.1), (5, .int (a5 + 1))] [5, 6, 7, 2, 1, 0] rfl ?_
            exact ih a1 a2 r17.1 r19.1 (a5 + 1) r19.2 _ hf hx45 hr45
          · replace hf := ifp hf h22
            refine z_iload C dX12_both_83 7 rfl ?_
            have hq := hr45 _ (Option.some.inj hf).symm
            exact z_iret C dX12_both_85 rfl hq
  have hJ21 : ∀ (σ : Sg), f_X12_both_J21 N σ = some R → Zz E X YX12_both (some (.int R.1), R.2) σ 21 [(0, .ref (E.2.1 73))] [] := by
    intro σ hf
    unfold f_X12_both_J21 at hf
    refine z_aload_n C dX12_both_21 0 rfl ?_
    refine z_iconst (v := (-1)) C dX12_both_22 (by decide) ?_
    obtain ⟨r4, h5, hf⟩ := bd_some hf
    refine z_callV (Y2 := YX12_no) (CC := RX12) (T := TX12) (N := 39) (ci := 11) (As := [.int (-1)]) C lk_X12_no (by decide) wc_mo rfl t_970 t_972 p_27 (Nat.le_of_ble_eq_true rfl) (Nat.le_of_ble_eq_true rfl) dX12_both_23 (Nat.le_of_ble_eq_true rfl) rfl rfl (m_X12_no X.2.1 E N (-1) σ _ h5) ?_
    change Zz E X YX12_both (some (.int R.1), R.2) r4.2 _ _ [.int r4.1]
    exact z_iret C dX12_both_26 rfl (by rw [← Option.some.inj hf])
  unfold f_X12_both at hf
  refine z_aload_n C dX12_both_0 0 rfl ?_
  refine z_iload_n C dX12_both_1 1 rfl ?_
  obtain ⟨r1, h2, hf⟩ := bd_some hf
  refine z_callV (Y2 := YX12_isWriter) (CC := RX12) (T := TX12) (N := 39) (ci := 11) (As := [.int x1]) C lk_X12_isWriter (by decide) wc_mo rfl t_1036 t_1038 p_39 (Nat.le_of_ble_eq_true rfl) (Nat.le_of_ble_eq_true rfl) dX12_both_2 (Nat.le_of_ble_eq_true rfl) rfl rfl (m_X12_isWriter X.2.1 E N x1 σ _ h2) ?_
  change Zz E X YX12_both (some (.int R.1), R.2) r1.2 _ _ [.int r1.1]
  refine z_if_eq (tgt := 21) C dX12_both_5 (by decide) (fun h3 => ?_) (fun h3 => ?_)
  · replace hf := ifp hf h3
    refine z_sub [(0, .ref (E.2.1 73))] [0] rfl ?_
    exact hJ21 r1.2 hf
  · replace hf := ifn hf h3
    refine z_aload_n C dX12_both_8 0 rfl ?_
    refine z_iload_n C dX12_both_9 2 rfl ?_
    obtain ⟨r6, h7, hf⟩ := bd_some hf
    refine z_callV (Y2 := YX12_isWriter) (CC := RX12) (T := TX12) (N := 39) (ci := 11) (As := [.int x2]) C lk_X12_isWriter (by decide) wc_mo rfl t_1036 t_1038 p_39 (Nat.le_of_ble_eq_true rfl) (Nat.le_of_ble_eq_true rfl) dX12_both_10 (Nat.le_of_ble_eq_true rfl) rfl rfl (m_X12_isWriter X.2.1 E N x2 r1.2 _ h7) ?_
    change Zz E X YX12_both (some (.int R.1), R.2) r6.2 _ _ [.int r6.1]
    refine z_if_eq (tgt := 21) C dX12_both_13 (by decide) (fun h8 => ?_) (fun h8 => ?_)
    · replace hf := ifp hf h8
      refine z_sub [(0, .ref (E.2.1 73))] [0] rfl ?_
      exact hJ21 r6.2 hf
    · replace hf := ifn hf h8
      refine z_iload_n C dX12_both_16 1 rfl ?_
      refine z_iload_n C dX12_both_17 2 rfl ?_
      refine z_icmp_ne (tgt := 27) C dX12_both_18 (by decide) (fun h9 => ?_) (fun h9 => ?_)
      · replace hf := ifn hf h9
        refine z_aload_n C dX12_both_27 0 rfl ?_
        refine z_get (v := .ref (E.2.1 79)) (T := TX12) (N := 39) (ci := 11) C (by decide) wc_mo rfl in_X12 5 (by decide) t_850 rfl dX12_both_28 ?_
        refine z_iload_n C dX12_both_31 1 rfl ?_
        obtain ⟨h10, hf⟩ := ga_some hf
        refine z_iald C ka_79 h10 dX12_both_32 ?_
        obtain ⟨v11, h12, hf⟩ := nm_some hf
        rw [← h12]
        refine z_istore_n (lv' := [(3, .int v11), (0, .ref (E.2.1 73)), (1, .int x1), (2, .int x2)]) C dX12_both_33 (by decide) rfl ?_
        refine z_aload_n C dX12_both_34 1 rfl ?_
        refine z_get (v := .ref (E.2.1 79)) (T := TX12) (N := 39) (ci := 11) C (by decide) wc_mo rfl in_X12 5 (by decide) t_850 rfl dX12_both_35 ?_
        refine z_iload_n C dX12_both_38 3 rfl ?_
        obtain ⟨h13, hf⟩ := ga_some hf
        refine z_iald C ka_79 h13 dX12_both_39 ?_
        obtain ⟨v14, h15, hf⟩ := nm_some hf
        rw [← h15]
        refine z_istore (lv' := [(4, .int v14), (3, .int v11), (0, .ref (E.2.1 73)), (1, .int x1), (2, .int x2)]) C dX12_both_40 (by decide) rfl ?_
        refine z_iconst (v := 1) C dX12_both_42 (by decide) ?_
        refine z_istore (lv' := [(5, .int 1), (4, .int v14), (3, .int v11), (0, .ref (E.2.1 73)), (1, .int x1), (2, .int x2)]) C dX12_both_43 (by decide) rfl ?_
        refine z_sub [(0, .ref (E.2.1 73)), (1, .int x1), (2, .int x2), (3, .int v11), (4, .int v14), (5, .int 1)] [3, 4, 5, 2, 1, 0] rfl ?_
        rcases ex1_some hf with ⟨s23, h25, hf⟩ | ⟨r24, h25, hf⟩
        · refine hL45 N x1 x2 v11 v14 1 r6.2 _ h25 (fun S e => ?_) (fun _ e => nomatch e)
          cases e
          refine z_bipush (v := (-9)) C dX12_both_99 (by decide) ?_
          exact z_iret C dX12_both_101 rfl (by rw [← Option.some.inj hf])
        · refine hL45 N x1 x2 v11 v14 1 r6.2 _ h25 (fun _ e => nomatch e) (fun r e => ?_)
          cases e
          exact (by rw [← Option.some.inj hf])
      · replace hf := ifp hf h9
        refine z_sub [(0, .ref (E.2.1 73))] [0] rfl ?_
        exact hJ21 r6.2 hf
theorem lk_X12_both {Y : Yv} : Lk Y YX12_both 2 := ⟨t_1253, t_13, ⟨by decide +kernel, by decide +kernel⟩, by decide +kernel⟩
abbrev YX12_draw : Yv := (yX12_draw, cX12_draw, 2, some .int, 0, 0)
def f_X12_draw (N : Nat) (x1 : Int32) (σ : Sg) : Option (Int32 × Sg) :=
  nm (sgs σ 73 36 (((σ 73 36) * 1664525) + 1013904223)) (fun σ1 => gd x1 (some ((jrem (((σ1 73 36) &&& 2147483647) / 256) x1), σ1)))
set_option maxHeartbeats 4000000 in
set_option maxRecDepth 20000 in
theorem m_X12_draw (l : Launch) (E : Ev) (N : Nat) (x1 : Int32) (σ : Sg) (R : Int32 × Sg) (hf : f_X12_draw N x1 σ = some R) : Ct l E YX12_draw [.ref (E.2.1 73), .int x1] σ (some (.int R.1), R.2) := by
  refine ct_of (by decide +kernel) (Nat.le_of_ble_eq_true rfl) [(0, .ref (E.2.1 73)), (1, .int x1)] rfl (fun X hX C => ?_)
  unfold f_X12_draw at hf
  refine z_aload_n C dX12_draw_0 0 rfl ?_
  refine z_aload_n C dX12_draw_1 0 rfl ?_
  refine z_get (v := .int (σ 73 36)) (T := TX12) (N := 39) (ci := 11) C (by decide) wc_mo rfl in_X12 36 (by decide) t_881 rfl dX12_draw_2 ?_
  refine z_ldcw (v := 1664525) C dX12_draw_5 t_1266 ?_
  refine z_imul C dX12_draw_8 ?_
  refine z_ldcw (v := 1013904223) C dX12_draw_9 t_1267 ?_
  refine z_iadd C dX12_draw_12 ?_
  obtain ⟨σ1, h2, hf⟩ := nm_some hf
  refine z_put (T := TX12) (N := 39) (ci := 11) (ty := .int) C tyX12 tyX12_ok nmX12 (by decide) wc_mo rfl in_X12 36 (by decide) t_881 rfl rfl rfl rfl (Nat.le_of_ble_eq_true rfl) (pw_X12_36) dX12_draw_13 ?_
  rw [← h2]
  refine z_aload_n C dX12_draw_16 0 rfl ?_
  refine z_get (v := .int (σ1 73 36)) (T := TX12) (N := 39) (ci := 11) C (by decide) wc_mo rfl in_X12 36 (by decide) t_881 rfl dX12_draw_17 ?_
  refine z_ldcw (v := 2147483647) C dX12_draw_20 t_1268 ?_
  refine z_iand C dX12_draw_23 ?_
  refine z_sipush (v := 256) C dX12_draw_24 (by decide) ?_
  refine z_idiv C dX12_draw_27 (by decide) ?_
  refine z_iload_n C dX12_draw_28 1 rfl ?_
  obtain ⟨h3, hf⟩ := gd_some hf
  refine z_irem C dX12_draw_29 h3 ?_
  exact z_iret C dX12_draw_30 rfl (by rw [← Option.some.inj hf])
theorem lk_X12_draw {Y : Yv} : Lk Y YX12_draw 1 := ⟨t_1265, t_13, ⟨by decide +kernel, by decide +kernel⟩, by decide +kernel⟩
abbrev YX12_year : Yv := (yX12_year, cX12_year, 6, some .int, 5, 121)
def f_X12_year_B31 (N : Nat) (rec : Int32 → Int32 → Sg → Option (Sg)) (a1 a4 : Int32) (σ : Sg) : Option (Sg) :=
  if a1 ≤ a4 then (some σ) else ((f_X12_draw N 3 σ).bind (fun r9 => (f_X12_draw N 3 r9.2).bind (fun r11 => nm (r9.1 + ((10 : Int32) * r11.1)) (fun v13 => (f_X12_draw N 3 r11.2).bind (fun r15 => nm (v13 + ((100 : Int32) * r15.1)) (fun v17 => (f_X12_draw N 3 r15.2).bind (fun r19 => nm (v17 + ((1000 : Int32) * r19.1)) (fun v21 => (f_X12_posts N v21 r19.2).bind (fun r23 => (f_X12_grows N r23.2).bind (fun r25 => rec a1 (a4 + 1) r25))))))))))
def f_X12_year_L31 (N : Nat) : Nat → Int32 → Int32 → Sg → Option (Sg)
  | 0 => fun _ _ _ => none
  | k + 1 => fun a1 a4 σ => f_X12_year_B31 N (f_X12_year_L31 N k) a1 a4 σ
def f_X12_year (N : Nat) (x1 x2 : Int32) (σ : Sg) : Option (Int32 × Sg) :=
  (f_X12_bound N x1 1 30 σ).bind (fun r1 => if r1.1 = 0 then ((f_X12_keeps N 0 r1.2).bind (fun r4 => nm (sgs r4 73 36 x2) (fun σ6 => (f_X12_year_L31 N N x1 0 σ6).bind (fun s27 => (f_X12_sumOf N s27).bind (fun r28 => (f_X12_putsBack N 0 r28.2).bind (fun r30 => some (r28.1, r30))))))) else ((f_X12_no N r1.1 r1.2).bind (fun r33 => some (r33.1, r33.2))))
set_option maxHeartbeats 4000000 in
set_option maxRecDepth 20000 in
theorem m_X12_year (l : Launch) (E : Ev) (N : Nat) (x1 x2 : Int32) (σ : Sg) (R : Int32 × Sg) (hf : f_X12_year N x1 x2 σ = some R) : Ct l E YX12_year [.ref (E.2.1 73), .int x1, .int x2] σ (some (.int R.1), R.2) := by
  refine ct_of (by decide +kernel) (Nat.le_of_ble_eq_true rfl) [(0, .ref (E.2.1 73)), (1, .int x1), (2, .int x2)] rfl (fun X hX C => ?_)
  have hL31 : ∀ (k : Nat) (a1 a4 : Int32) (σ : Sg) (Q31 : Sg), f_X12_year_L31 N k a1 a4 σ = some Q31 → (Zz E X YX12_year (some (.int R.1), R.2) Q31 101 [(0, .ref (E.2.1 73))] []) → Zz E X YX12_year (some (.int R.1), R.2) σ 31 [(0, .ref (E.2.1 73)), (1, .int a1), (4, .int a4)] [] := by
    intro k
    induction k with
    | zero =>
      intro a1 a4 σ Q31 hf
      have hf : (none : Option (Sg)) = some Q31 := hf
      cases hf
    | succ k ih =>
      intro a1 a4 σ Q31 hf hx31
      have hf : f_X12_year_B31 N (f_X12_year_L31 N k) a1 a4 σ = some Q31 := hf
      unfold f_X12_year_B31 at hf
      refine z_iload C dX12_year_31 2 rfl ?_
      refine z_iload_n C dX12_year_33 1 rfl ?_
      refine z_icmp_ge (tgt := 101) C dX12_year_34 (by decide) (fun h8 => ?_) (fun h8 => ?_)
      · replace hf := ifp hf h8
        refine z_sub [(0, .ref (E.2.1 73))] [0] rfl ?_
        obtain rfl := Option.some.inj hf
        exact hx31
      · replace hf := ifn hf h8
        refine z_aload_n C dX12_year_37 0 rfl ?_
        refine z_iconst (v := 3) C dX12_year_38 (by decide) ?_
        obtain ⟨r9, h10, hf⟩ := bd_some hf
        refine z_callV (Y2 := YX12_draw) (CC := RX12) (T := TX12) (N := 39) (ci := 11) (As := [.int 3]) C lk_X12_draw (by decide) wc_mo rfl t_1262 t_1264 p_64 (Nat.le_of_ble_eq_true rfl) (Nat.le_of_ble_eq_true rfl) dX12_year_39 (Nat.le_of_ble_eq_true rfl) rfl rfl (m_X12_draw X.2.1 E N 3 σ _ h10) ?_
        change Zz E X YX12_year (some (.int R.1), R.2) r9.2 _ _ [.int r9.1]
        refine z_istore (lv' := [(5, .int r9.1), (0, .ref (E.2.1 73)), (1, .int a1), (4, .int a4)]) C dX12_year_42 (by decide) rfl ?_
        refine z_iload C dX12_year_44 0 rfl ?_
        refine z_bipush (v := 10) C dX12_year_46 (by decide) ?_
        refine z_aload_n C dX12_year_48 1 rfl ?_
        refine z_iconst (v := 3) C dX12_year_49 (by decide) ?_
        obtain ⟨r11, h12, hf⟩ := bd_some hf
        refine z_callV (Y2 := YX12_draw) (CC := RX12) (T := TX12) (N := 39) (ci := 11) (As := [.int 3]) C lk_X12_draw (by decide) wc_mo rfl t_1262 t_1264 p_64 (Nat.le_of_ble_eq_true rfl) (Nat.le_of_ble_eq_true rfl) dX12_year_50 (Nat.le_of_ble_eq_true rfl) rfl rfl (m_X12_draw X.2.1 E N 3 r9.2 _ h12) ?_
        change Zz E X YX12_year (some (.int R.1), R.2) r11.2 _ _ [.int r11.1, .int 10, .int r9.1]
        refine z_imul C dX12_year_53 ?_
        refine z_iadd C dX12_year_54 ?_
        obtain ⟨v13, h14, hf⟩ := nm_some hf
        rw [← h14]
        refine z_istore (lv' := [(5, .int v13), (0, .ref (E.2.1 73)), (1, .int a1), (4, .int a4)]) C dX12_year_55 (by decide) rfl ?_
        refine z_iload C dX12_year_57 0 rfl ?_
        refine z_bipush (v := 100) C dX12_year_59 (by decide) ?_
        refine z_aload_n C dX12_year_61 1 rfl ?_
        refine z_iconst (v := 3) C dX12_year_62 (by decide) ?_
        obtain ⟨r15, h16, hf⟩ := bd_some hf
        refine z_callV (Y2 := YX12_draw) (CC := RX12) (T := TX12) (N := 39) (ci := 11) (As := [.int 3]) C lk_X12_draw (by decide) wc_mo rfl t_1262 t_1264 p_64 (Nat.le_of_ble_eq_true rfl) (Nat.le_of_ble_eq_true rfl) dX12_year_63 (Nat.le_of_ble_eq_true rfl) rfl rfl (m_X12_draw X.2.1 E N 3 r11.2 _ h16) ?_
        change Zz E X YX12_year (some (.int R.1), R.2) r15.2 _ _ [.int r15.1, .int 100, .int v13]
        refine z_imul C dX12_year_66 ?_
        refine z_iadd C dX12_year_67 ?_
        obtain ⟨v17, h18, hf⟩ := nm_some hf
        rw [← h18]
        refine z_istore (lv' := [(5, .int v17), (0, .ref (E.2.1 73)), (1, .int a1), (4, .int a4)]) C dX12_year_68 (by decide) rfl ?_
        refine z_iload C dX12_year_70 0 rfl ?_
        refine z_sipush (v := 1000) C dX12_year_72 (by decide) ?_
        refine z_aload_n C dX12_year_75 1 rfl ?_
        refine z_iconst (v := 3) C dX12_year_76 (by decide) ?_
        obtain ⟨r19, h20, hf⟩ := bd_some hf
        refine z_callV (Y2 := YX12_draw) (CC := RX12) (T := TX12) (N := 39) (ci := 11) (As := [.int 3]) C lk_X12_draw (by decide) wc_mo rfl t_1262 t_1264 p_64 (Nat.le_of_ble_eq_true rfl) (Nat.le_of_ble_eq_true rfl) dX12_year_77 (Nat.le_of_ble_eq_true rfl) rfl rfl (m_X12_draw X.2.1 E N 3 r15.2 _ h20) ?_
        change Zz E X YX12_year (some (.int R.1), R.2) r19.2 _ _ [.int r19.1, .int 1000, .int v17]
        refine z_imul C dX12_year_80 ?_
        refine z_iadd C dX12_year_81 ?_
        obtain ⟨v21, h22, hf⟩ := nm_some hf
        rw [← h22]
        refine z_istore (lv' := [(5, .int v21), (0, .ref (E.2.1 73)), (1, .int a1), (4, .int a4)]) C dX12_year_82 (by decide) rfl ?_
        refine z_aload_n C dX12_year_84 1 rfl ?_
        refine z_iload C dX12_year_85 0 rfl ?_
        obtain ⟨r23, h24, hf⟩ := bd_some hf
        refine z_callV (Y2 := YX12_posts) (CC := RX12) (T := TX12) (N := 39) (ci := 11) (As := [.int v21]) C lk_X12_posts (by decide) wc_mo rfl t_1078 t_1080 p_43 (Nat.le_of_ble_eq_true rfl) (Nat.le_of_ble_eq_true rfl) dX12_year_87 (Nat.le_of_ble_eq_true rfl) rfl rfl (m_X12_posts X.2.1 E N v21 r19.2 _ h24) ?_
        change Zz E X YX12_year (some (.int R.1), R.2) r23.2 _ _ [.int r23.1]
        refine z_pop C dX12_year_90 rfl ?_
        refine z_aload_n C dX12_year_91 1 rfl ?_
        obtain ⟨r25, h26, hf⟩ := bd_some hf
        refine z_callV (Y2 := YX12_grows) (CC := RX12) (T := TX12) (N := 39) (ci := 11) (As := []) C lk_X12_grows (by decide) wc_mo rfl t_1090 t_1092 p_45 (Nat.le_of_ble_eq_true rfl) (Nat.le_of_ble_eq_true rfl) dX12_year_92 (Nat.le_of_ble_eq_true rfl) rfl rfl (m_X12_grows X.2.1 E N r23.2 _ h26) ?_
        change Zz E X YX12_year (some (.int R.1), R.2) r25 _ _ []
        refine z_iinc (v := (a4 + 1)) (lv' := [(4, .int (a4 + 1)), (5, .int v21), (0, .ref (E.2.1 73)), (1, .int a1)]) C dX12_year_95 3 rfl rfl (by decide) rfl ?_
        refine z_goto (tgt := 31) C dX12_year_98 (by decide) ?_
        refine z_sub [(0, .ref (E.2.1 73)), (1, .int a1), (4, .int (a4 + 1))] [2, 3, 0] rfl ?_
        exact ih a1 (a4 + 1) r25 _ hf hx31
  unfold f_X12_year at hf
  refine z_iload_n C dX12_year_0 1 rfl ?_
  refine z_iconst (v := 1) C dX12_year_1 (by decide) ?_
  refine z_bipush (v := 30) C dX12_year_2 (by decide) ?_
  obtain ⟨r1, h2, hf⟩ := bd_some hf
  refine z_callS (Y2 := YX12_bound) (As := [.int x1, .int 1, .int 30]) C lk_X12_bound t_967 t_968 (Nat.le_of_ble_eq_true rfl) (Nat.le_of_ble_eq_true rfl) dX12_year_4 (Nat.le_of_ble_eq_true rfl) rfl rfl (m_X12_bound X.2.1 E N x1 1 30 σ _ h2) ?_
  change Zz E X YX12_year (some (.int R.1), R.2) r1.2 _ _ [.int r1.1]
  refine z_istore_n (lv' := [(3, .int r1.1), (0, .ref (E.2.1 73)), (1, .int x1), (2, .int x2)]) C dX12_year_7 (by decide) rfl ?_
  refine z_iload_n C dX12_year_8 0 rfl ?_
  refine z_if_eq (tgt := 18) C dX12_year_9 (by decide) (fun h3 => ?_) (fun h3 => ?_)
  · replace hf := ifp hf h3
    refine z_aload_n C dX12_year_18 1 rfl ?_
    refine z_iconst (v := 0) C dX12_year_19 (by decide) ?_
    obtain ⟨r4, h5, hf⟩ := bd_some hf
    refine z_callV (Y2 := YX12_keeps) (CC := RX12) (T := TX12) (N := 39) (ci := 11) (As := [.int 0]) C lk_X12_keeps (by decide) wc_mo rfl t_1140 t_1142 p_51 (Nat.le_of_ble_eq_true rfl) (Nat.le_of_ble_eq_true rfl) dX12_year_20 (Nat.le_of_ble_eq_true rfl) rfl rfl (m_X12_keeps X.2.1 E N 0 r1.2 _ h5) ?_
    change Zz E X YX12_year (some (.int R.1), R.2) r4 _ _ []
    refine z_aload_n C dX12_year_23 1 rfl ?_
    refine z_iload_n C dX12_year_24 3 rfl ?_
    obtain ⟨σ6, h7, hf⟩ := nm_some hf
    refine z_put (T := TX12) (N := 39) (ci := 11) (ty := .int) C tyX12 tyX12_ok nmX12 (by decide) wc_mo rfl in_X12 36 (by decide) t_881 rfl rfl rfl rfl (Nat.le_of_ble_eq_true rfl) (pw_X12_36) dX12_year_25 ?_
    rw [← h7]
    refine z_iconst (v := 0) C dX12_year_28 (by decide) ?_
    refine z_istore (lv' := [(4, .int 0), (3, .int r1.1), (0, .ref (E.2.1 73)), (1, .int x1), (2, .int x2)]) C dX12_year_29 (by decide) rfl ?_
    refine z_sub [(0, .ref (E.2.1 73)), (1, .int x1), (4, .int 0)] [2, 3, 0] rfl ?_
    obtain ⟨s27, h32, hf⟩ := bd_some hf
    refine hL31 N x1 0 σ6 _ h32 ?_
    refine z_aload_n C dX12_year_101 0 rfl ?_
    obtain ⟨r28, h29, hf⟩ := bd_some hf
    refine z_callV (Y2 := YX12_sumOf) (CC := RX12) (T := TX12) (N := 39) (ci := 11) (As := []) C lk_X12_sumOf (by decide) wc_mo rfl t_1094 t_1096 p_46 (Nat.le_of_ble_eq_true rfl) (Nat.le_of_ble_eq_true rfl) dX12_year_102 (Nat.le_of_ble_eq_true rfl) rfl rfl (m_X12_sumOf X.2.1 E N s27 _ h29) ?_
    change Zz E X YX12_year (some (.int R.1), R.2) r28.2 _ _ [.int r28.1]
    refine z_istore (lv' := [(4, .int r28.1), (0, .ref (E.2.1 73))]) C dX12_year_105 (by decide) rfl ?_
    refine z_aload_n C dX12_year_107 1 rfl ?_
    refine z_iconst (v := 0) C dX12_year_108 (by decide) ?_
    obtain ⟨r30, h31, hf⟩ := bd_some hf
    refine z_callV (Y2 := YX12_putsBack) (CC := RX12) (T := TX12) (N := 39) (ci := 11) (As := [.int 0]) C lk_X12_putsBack (by decide) wc_mo rfl t_1148 t_1150 p_53 (Nat.le_of_ble_eq_true rfl) (Nat.le_of_ble_eq_true rfl) dX12_year_109 (Nat.le_of_ble_eq_true rfl) rfl rfl (m_X12_putsBack X.2.1 E N 0 r28.2 _ h31) ?_
    change Zz E X YX12_year (some (.int R.1), R.2) r30 _ _ []
    refine z_iload C dX12_year_112 0 rfl ?_
    exact z_iret C dX12_year_114 rfl (by rw [← Option.some.inj hf])
  · replace hf := ifn hf h3
    refine z_aload_n C dX12_year_12 1 rfl ?_
    refine z_iload_n C dX12_year_13 0 rfl ?_
    obtain ⟨r33, h34, hf⟩ := bd_some hf
    refine z_callV (Y2 := YX12_no) (CC := RX12) (T := TX12) (N := 39) (ci := 11) (As := [.int r1.1]) C lk_X12_no (by decide) wc_mo rfl t_970 t_972 p_27 (Nat.le_of_ble_eq_true rfl) (Nat.le_of_ble_eq_true rfl) dX12_year_14 (Nat.le_of_ble_eq_true rfl) rfl rfl (m_X12_no X.2.1 E N r1.1 r1.2 _ h34) ?_
    change Zz E X YX12_year (some (.int R.1), R.2) r33.2 _ _ [.int r33.1]
    exact z_iret C dX12_year_17 rfl (by rw [← Option.some.inj hf])
theorem lk_X12_year {Y : Yv} : Lk Y YX12_year 2 := ⟨t_1261, t_13, ⟨by decide +kernel, by decide +kernel⟩, by decide +kernel⟩
abbrev YX12_row : Yv := (yX12_row, cX12_row, 3, some .int, 1, 22)
def f_X12_row_J24 (N : Nat) (a1 a2 : Int32) (σ : Sg) : Option (Int32 × Sg) :=
  if a2 = 0 then (ga (σ 73 38) 8 (nm (sgs σ 95 (Int32.toNatClampNeg (σ 73 38)) a1) (fun σ6 => nm (sgs σ6 73 38 ((σ6 73 38) + 1)) (fun σ8 => some ((σ8 73 38), σ8))))) else ((f_X12_no N a2 σ).bind (fun r10 => some (r10.1, r10.2)))
def f_X12_row (N : Nat) (x1 : Int32) (σ : Sg) : Option (Int32 × Sg) :=
  (f_X12_bound N x1 0 9 σ).bind (fun r1 => if r1.1 = 0 then (if (r1.2 73 38) = 8 then (f_X12_row_J24 N x1 (-6) r1.2) else (f_X12_row_J24 N x1 r1.1 r1.2)) else (f_X12_row_J24 N x1 r1.1 r1.2))
set_option maxHeartbeats 4000000 in
set_option maxRecDepth 20000 in
theorem m_X12_row (l : Launch) (E : Ev) (N : Nat) (x1 : Int32) (σ : Sg) (R : Int32 × Sg) (hf : f_X12_row N x1 σ = some R) : Ct l E YX12_row [.ref (E.2.1 73), .int x1] σ (some (.int R.1), R.2) := by
  refine ct_of (by decide +kernel) (Nat.le_of_ble_eq_true rfl) [(0, .ref (E.2.1 73)), (1, .int x1)] rfl (fun X hX C => ?_)
  have hJ24 : ∀ (a1 a2 : Int32) (σ : Sg), f_X12_row_J24 N a1 a2 σ = some R → Zz E X YX12_row (some (.int R.1), R.2) σ 24 [(0, .ref (E.2.1 73)), (1, .int a1), (2, .int a2)] [] := by
    intro a1 a2 σ hf
    unfold f_X12_row_J24 at hf
    refine z_iload_n C dX12_row_24 2 rfl ?_
    refine z_if_eq (tgt := 34) C dX12_row_25 (by decide) (fun h4 => ?_) (fun h4 => ?_)
    · replace hf := ifp hf h4
      refine z_aload_n C dX12_row_34 0 rfl ?_
      refine z_get (v := .ref (E.2.1 95)) (T := TX12) (N := 39) (ci := 11) C (by decide) wc_mo rfl in_X12 37 (by decide) t_882 rfl dX12_row_35 ?_
      refine z_aload_n C dX12_row_38 0 rfl ?_
      refine z_get (v := .int (σ 73 38)) (T := TX12) (N := 39) (ci := 11) C (by decide) wc_mo rfl in_X12 38 (by decide) t_883 rfl dX12_row_39 ?_
      refine z_iload_n C dX12_row_42 1 rfl ?_
      obtain ⟨h5, hf⟩ := ga_some hf
      obtain ⟨σ6, h7, hf⟩ := nm_some hf
      refine z_iast C ka_95 h5 dX12_row_43 ?_
      rw [← h7]
      refine z_aload_n C dX12_row_44 0 rfl ?_
      refine z_dup C dX12_row_45 rfl ?_
      refine z_get (v := .int (σ6 73 38)) (T := TX12) (N := 39) (ci := 11) C (by decide) wc_mo rfl in_X12 38 (by decide) t_883 rfl dX12_row_46 ?_
      refine z_iconst (v := 1) C dX12_row_49 (by decide) ?_
      refine z_iadd C dX12_row_50 ?_
      obtain ⟨σ8, h9, hf⟩ := nm_some hf
      refine z_put (T := TX12) (N := 39) (ci := 11) (ty := .int) C tyX12 tyX12_ok nmX12 (by decide) wc_mo rfl in_X12 38 (by decide) t_883 rfl rfl rfl rfl (Nat.le_of_ble_eq_true rfl) (pw_X12_38) dX12_row_51 ?_
      rw [← h9]
      refine z_aload_n C dX12_row_54 0 rfl ?_
      refine z_get (v := .int (σ8 73 38)) (T := TX12) (N := 39) (ci := 11) C (by decide) wc_mo rfl in_X12 38 (by decide) t_883 rfl dX12_row_55 ?_
      exact z_iret C dX12_row_58 rfl (by rw [← Option.some.inj hf])
    · replace hf := ifn hf h4
      refine z_aload_n C dX12_row_28 0 rfl ?_
      refine z_iload_n C dX12_row_29 2 rfl ?_
      obtain ⟨r10, h11, hf⟩ := bd_some hf
      refine z_callV (Y2 := YX12_no) (CC := RX12) (T := TX12) (N := 39) (ci := 11) (As := [.int a2]) C lk_X12_no (by decide) wc_mo rfl t_970 t_972 p_27 (Nat.le_of_ble_eq_true rfl) (Nat.le_of_ble_eq_true rfl) dX12_row_30 (Nat.le_of_ble_eq_true rfl) rfl rfl (m_X12_no X.2.1 E N a2 σ _ h11) ?_
      change Zz E X YX12_row (some (.int R.1), R.2) r10.2 _ _ [.int r10.1]
      exact z_iret C dX12_row_33 rfl (by rw [← Option.some.inj hf])
  unfold f_X12_row at hf
  refine z_iload_n C dX12_row_0 1 rfl ?_
  refine z_iconst (v := 0) C dX12_row_1 (by decide) ?_
  refine z_bipush (v := 9) C dX12_row_2 (by decide) ?_
  obtain ⟨r1, h2, hf⟩ := bd_some hf
  refine z_callS (Y2 := YX12_bound) (As := [.int x1, .int 0, .int 9]) C lk_X12_bound t_967 t_968 (Nat.le_of_ble_eq_true rfl) (Nat.le_of_ble_eq_true rfl) dX12_row_4 (Nat.le_of_ble_eq_true rfl) rfl rfl (m_X12_bound X.2.1 E N x1 0 9 σ _ h2) ?_
  change Zz E X YX12_row (some (.int R.1), R.2) r1.2 _ _ [.int r1.1]
  refine z_istore_n (lv' := [(2, .int r1.1), (0, .ref (E.2.1 73)), (1, .int x1)]) C dX12_row_7 (by decide) rfl ?_
  refine z_iload_n C dX12_row_8 0 rfl ?_
  refine z_if_ne (tgt := 24) C dX12_row_9 (by decide) (fun h3 => ?_) (fun h3 => ?_)
  · replace hf := ifn hf h3
    refine z_sub [(0, .ref (E.2.1 73)), (1, .int x1), (2, .int r1.1)] [1, 2, 0] rfl ?_
    exact hJ24 x1 r1.1 r1.2 hf
  · replace hf := ifp hf h3
    refine z_aload_n C dX12_row_12 1 rfl ?_
    refine z_get (v := .int (r1.2 73 38)) (T := TX12) (N := 39) (ci := 11) C (by decide) wc_mo rfl in_X12 38 (by decide) t_883 rfl dX12_row_13 ?_
    refine z_bipush (v := 8) C dX12_row_16 (by decide) ?_
    refine z_icmp_ne (tgt := 24) C dX12_row_18 (by decide) (fun h12 => ?_) (fun h12 => ?_)
    · replace hf := ifn hf h12
      refine z_sub [(0, .ref (E.2.1 73)), (1, .int x1), (2, .int r1.1)] [1, 2, 0] rfl ?_
      exact hJ24 x1 r1.1 r1.2 hf
    · replace hf := ifp hf h12
      refine z_bipush (v := (-6)) C dX12_row_21 (by decide) ?_
      refine z_istore_n (lv' := [(2, .int (-6)), (0, .ref (E.2.1 73)), (1, .int x1)]) C dX12_row_23 (by decide) rfl ?_
      refine z_sub [(0, .ref (E.2.1 73)), (1, .int x1), (2, .int (-6))] [1, 2, 0] rfl ?_
      exact hJ24 x1 (-6) r1.2 hf
theorem lk_X12_row {Y : Yv} : Lk Y YX12_row 1 := ⟨t_1272, t_13, ⟨by decide +kernel, by decide +kernel⟩, by decide +kernel⟩
abbrev YX12_judge : Yv := (yX12_judge, cX12_judge, 5, some .int, 5, 121)
def f_X12_judge_J61 (N : Nat) (rec : Int32 → Int32 → Int32 → Sg → Option (Int32 × Int32 × Sg)) (a1 a2 a3 b0 : Int32) (σ : Sg) : Option (Int32 × Int32 × Sg) :=
  ga a3 8 (if b0 = (σ 95 (Int32.toNatClampNeg a3)) then (rec a1 a2 (a3 + 1) σ) else (rec a1 a3 (a3 + 1) σ))
def f_X12_judge_B20 (N : Nat) (rec : Int32 → Int32 → Int32 → Sg → Option (Int32 × Int32 × Sg)) (a1 a2 a3 : Int32) (σ : Sg) : Option (Int32 × Int32 × Sg) :=
  if a1 ≤ a3 then (some (a1, a2, σ)) else (if (σ 73 13) ≤ a3 then (some (a1, a2, σ)) else (if 0 ≤ a2 then (some (a1, a2, σ)) else (ga a3 5 ((f_X12_posts N (σ 80 (Int32.toNatClampNeg a3)) σ).bind (fun r9 => if 0 ≤ r9.1 then (f_X12_judge_J61 N rec a1 a2 a3 r9.1 r9.2) else (f_X12_judge_J61 N rec a1 a2 a3 9 r9.2))))))
def f_X12_judge_L20 (N : Nat) : Nat → Int32 → Int32 → Int32 → Sg → Option (Int32 × Int32 × Sg)
  | 0 => fun _ _ _ _ => none
  | k + 1 => fun a1 a2 a3 σ => f_X12_judge_B20 N (f_X12_judge_L20 N k) a1 a2 a3 σ
def f_X12_judge (N : Nat) (σ : Sg) : Option (Int32 × Sg) :=
  nm (sgs σ 73 38 0) (fun σ1 => (f_X12_keeps N 0 σ1).bind (fun r3 => (f_X12_judge_L20 N N (σ 73 38) (-9) 0 r3).bind (fun s14 => (f_X12_putsBack N 0 s14.2.2).bind (fun r15 => if s14.2.1 < 0 then (if (r15 73 13) ≤ s14.1 then (if s14.1 ≤ (r15 73 13) then (some ((-9), r15)) else (some ((r15 73 13), r15))) else (some (s14.1, r15))) else (some (s14.2.1, r15))))))
set_option maxHeartbeats 4000000 in
set_option maxRecDepth 20000 in
theorem m_X12_judge (l : Launch) (E : Ev) (N : Nat) (σ : Sg) (R : Int32 × Sg) (hf : f_X12_judge N σ = some R) : Ct l E YX12_judge [.ref (E.2.1 73)] σ (some (.int R.1), R.2) := by
  refine ct_of (by decide +kernel) (Nat.le_of_ble_eq_true rfl) [(0, .ref (E.2.1 73))] rfl (fun X hX C => ?_)
  have hL20 : ∀ (k : Nat) (a1 a2 a3 : Int32) (σ : Sg) (Q20 : Int32 × Int32 × Sg), f_X12_judge_L20 N k a1 a2 a3 σ = some Q20 → (Zz E X YX12_judge (some (.int R.1), R.2) Q20.2.2 78 [(0, .ref (E.2.1 73)), (1, .int Q20.1), (2, .int Q20.2.1)] []) → Zz E X YX12_judge (some (.int R.1), R.2) σ 20 [(0, .ref (E.2.1 73)), (1, .int a1), (2, .int a2), (3, .int a3)] [] := by
    intro k
    induction k with
    | zero =>
      intro a1 a2 a3 σ Q20 hf
      have hf : (none : Option (Int32 × Int32 × Sg)) = some Q20 := hf
      cases hf
    | succ k ih =>
      intro a1 a2 a3 σ Q20 hf hx20
      have hf : f_X12_judge_B20 N (f_X12_judge_L20 N k) a1 a2 a3 σ = some Q20 := hf
      have hJ61 : ∀ (a1 a2 a3 b0 : Int32) (σ : Sg), f_X12_judge_J61 N (f_X12_judge_L20 N k) a1 a2 a3 b0 σ = some Q20 → Zz E X YX12_judge (some (.int R.1), R.2) σ 61 [(0, .ref (E.2.1 73)), (1, .int a1), (2, .int a2), (3, .int a3)] [.int b0] := by
        intro a1 a2 a3 b0 σ hf
        unfold f_X12_judge_J61 at hf
        refine z_aload_n C dX12_judge_61 0 rfl ?_
        refine z_get (v := .ref (E.2.1 95)) (T := TX12) (N := 39) (ci := 11) C (by decide) wc_mo rfl in_X12 37 (by decide) t_882 rfl dX12_judge_62 ?_
        refine z_iload_n C dX12_judge_65 3 rfl ?_
        obtain ⟨h12, hf⟩ := ga_some hf
        refine z_iald C ka_95 h12 dX12_judge_66 ?_
        refine z_icmp_eq (tgt := 72) C dX12_judge_67 (by decide) (fun h13 => ?_) (fun h13 => ?_)
        · replace hf := ifp hf h13
          refine z_iinc (v := (a3 + 1)) (lv' := [(3, .int (a3 + 1)), (0, .ref (E.2.1 73)), (1, .int a1), (2, .int a2)]) C dX12_judge_72 3 rfl rfl (by decide) rfl ?_
          refine z_goto (tgt := 20) C dX12_judge_75 (by decide) ?_
          refine z_sub [(0, .ref (E.2.1 73)), (1, .int a1), (2, .int a2), (3, .int (a3 + 1))] [1, 2, 3, 0] rfl ?_
          exact ih a1 a2 (a3 + 1) σ _ hf hx20
        · replace hf := ifn hf h13
          refine z_iload_n C dX12_judge_70 3 rfl ?_
          refine z_istore_n (lv' := [(2, .int a3), (0, .ref (E.2.1 73)), (1, .int a1), (3, .int a3)]) C dX12_judge_71 (by decide) rfl ?_
          refine z_iinc (v := (a3 + 1)) (lv' := [(3, .int (a3 + 1)), (2, .int a3), (0, .ref (E.2.1 73)), (1, .int a1)]) C dX12_judge_72 3 rfl rfl (by decide) rfl ?_
          refine z_goto (tgt := 20) C dX12_judge_75 (by decide) ?_
          refine z_sub [(0, .ref (E.2.1 73)), (1, .int a1), (2, .int a3), (3, .int (a3 + 1))] [2, 3, 1, 0] rfl ?_
          exact ih a1 a3 (a3 + 1) σ _ hf hx20
      unfold f_X12_judge_B20 at hf
      refine z_iload_n C dX12_judge_20 3 rfl ?_
      refine z_iload_n C dX12_judge_21 1 rfl ?_
      refine z_icmp_ge (tgt := 78) C dX12_judge_22 (by decide) (fun h5 => ?_) (fun h5 => ?_)
      · replace hf := ifp hf h5
        refine z_sub [(0, .ref (E.2.1 73)), (1, .int a1), (2, .int a2)] [0, 1, 2] rfl ?_
        obtain rfl := Option.some.inj hf
        exact hx20
      · replace hf := ifn hf h5
        refine z_iload_n C dX12_judge_25 3 rfl ?_
        refine z_aload_n C dX12_judge_26 0 rfl ?_
        refine z_get (v := .int (σ 73 13)) (T := TX12) (N := 39) (ci := 11) C (by decide) wc_mo rfl in_X12 13 (by decide) t_858 rfl dX12_judge_27 ?_
        refine z_icmp_ge (tgt := 78) C dX12_judge_30 (by decide) (fun h6 => ?_) (fun h6 => ?_)
        · replace hf := ifp hf h6
          refine z_sub [(0, .ref (E.2.1 73)), (1, .int a1), (2, .int a2)] [0, 1, 2] rfl ?_
          obtain rfl := Option.some.inj hf
          exact hx20
        · replace hf := ifn hf h6
          refine z_iload_n C dX12_judge_33 2 rfl ?_
          refine z_if_ge (tgt := 78) C dX12_judge_34 (by decide) (fun h7 => ?_) (fun h7 => ?_)
          · replace hf := ifp hf h7
            refine z_sub [(0, .ref (E.2.1 73)), (1, .int a1), (2, .int a2)] [0, 1, 2] rfl ?_
            obtain rfl := Option.some.inj hf
            exact hx20
          · replace hf := ifn hf h7
            refine z_aload_n C dX12_judge_37 0 rfl ?_
            refine z_aload_n C dX12_judge_38 0 rfl ?_
            refine z_get (v := .ref (E.2.1 80)) (T := TX12) (N := 39) (ci := 11) C (by decide) wc_mo rfl in_X12 6 (by decide) t_851 rfl dX12_judge_39 ?_
            refine z_iload_n C dX12_judge_42 3 rfl ?_
            obtain ⟨h8, hf⟩ := ga_some hf
            refine z_iald C ka_80 h8 dX12_judge_43 ?_
            obtain ⟨r9, h10, hf⟩ := bd_some hf
            refine z_callV (Y2 := YX12_posts) (CC := RX12) (T := TX12) (N := 39) (ci := 11) (As := [.int (σ 80 (Int32.toNatClampNeg a3))]) C lk_X12_posts (by decide) wc_mo rfl t_1078 t_1080 p_43 (Nat.le_of_ble_eq_true rfl) (Nat.le_of_ble_eq_true rfl) dX12_judge_44 (Nat.le_of_ble_eq_true rfl) rfl rfl (m_X12_posts X.2.1 E N (σ 80 (Int32.toNatClampNeg a3)) σ _ h10) ?_
            change Zz E X YX12_judge (some (.int R.1), R.2) r9.2 _ _ [.int r9.1]
            refine z_istore (lv' := [(4, .int r9.1), (0, .ref (E.2.1 73)), (1, .int a1), (2, .int a2), (3, .int a3)]) C dX12_judge_47 (by decide) rfl ?_
            refine z_iload C dX12_judge_49 0 rfl ?_
            refine z_if_ge (tgt := 59) C dX12_judge_51 (by decide) (fun h11 => ?_) (fun h11 => ?_)
            · replace hf := ifp hf h11
              refine z_iload C dX12_judge_59 0 rfl ?_
              refine z_sub [(0, .ref (E.2.1 73)), (1, .int a1), (2, .int a2), (3, .int a3)] [1, 2, 3, 4] rfl ?_
              exact hJ61 a1 a2 a3 r9.1 r9.2 hf
            · replace hf := ifn hf h11
              refine z_bipush (v := 9) C dX12_judge_54 (by decide) ?_
              refine z_goto (tgt := 61) C dX12_judge_56 (by decide) ?_
              refine z_sub [(0, .ref (E.2.1 73)), (1, .int a1), (2, .int a2), (3, .int a3)] [1, 2, 3, 4] rfl ?_
              exact hJ61 a1 a2 a3 9 r9.2 hf
  unfold f_X12_judge at hf
  refine z_aload_n C dX12_judge_0 0 rfl ?_
  refine z_get (v := .int (σ 73 38)) (T := TX12) (N := 39) (ci := 11) C (by decide) wc_mo rfl in_X12 38 (by decide) t_883 rfl dX12_judge_1 ?_
  refine z_istore_n (lv' := [(1, .int (σ 73 38)), (0, .ref (E.2.1 73))]) C dX12_judge_4 (by decide) rfl ?_
  refine z_aload_n C dX12_judge_5 1 rfl ?_
  refine z_iconst (v := 0) C dX12_judge_6 (by decide) ?_
  obtain ⟨σ1, h2, hf⟩ := nm_some hf
  refine z_put (T := TX12) (N := 39) (ci := 11) (ty := .int) C tyX12 tyX12_ok nmX12 (by decide) wc_mo rfl in_X12 38 (by decide) t_883 rfl rfl rfl rfl (Nat.le_of_ble_eq_true rfl) (pw_X12_38) dX12_judge_7 ?_
  rw [← h2]
  refine z_aload_n C dX12_judge_10 1 rfl ?_
  refine z_iconst (v := 0) C dX12_judge_11 (by decide) ?_
  obtain ⟨r3, h4, hf⟩ := bd_some hf
  refine z_callV (Y2 := YX12_keeps) (CC := RX12) (T := TX12) (N := 39) (ci := 11) (As := [.int 0]) C lk_X12_keeps (by decide) wc_mo rfl t_1140 t_1142 p_51 (Nat.le_of_ble_eq_true rfl) (Nat.le_of_ble_eq_true rfl) dX12_judge_12 (Nat.le_of_ble_eq_true rfl) rfl rfl (m_X12_keeps X.2.1 E N 0 σ1 _ h4) ?_
  change Zz E X YX12_judge (some (.int R.1), R.2) r3 _ _ []
  refine z_bipush (v := (-9)) C dX12_judge_15 (by decide) ?_
  refine z_istore_n (lv' := [(2, .int (-9)), (1, .int (σ 73 38)), (0, .ref (E.2.1 73))]) C dX12_judge_17 (by decide) rfl ?_
  refine z_iconst (v := 0) C dX12_judge_18 (by decide) ?_
  refine z_istore_n (lv' := [(3, .int 0), (2, .int (-9)), (1, .int (σ 73 38)), (0, .ref (E.2.1 73))]) C dX12_judge_19 (by decide) rfl ?_
  refine z_sub [(0, .ref (E.2.1 73)), (1, .int (σ 73 38)), (2, .int (-9)), (3, .int 0)] [3, 2, 1, 0] rfl ?_
  obtain ⟨s14, h20, hf⟩ := bd_some hf
  refine hL20 N (σ 73 38) (-9) 0 r3 _ h20 ?_
  refine z_aload_n C dX12_judge_78 0 rfl ?_
  refine z_iconst (v := 0) C dX12_judge_79 (by decide) ?_
  obtain ⟨r15, h16, hf⟩ := bd_some hf
  refine z_callV (Y2 := YX12_putsBack) (CC := RX12) (T := TX12) (N := 39) (ci := 11) (As := [.int 0]) C lk_X12_putsBack (by decide) wc_mo rfl t_1148 t_1150 p_53 (Nat.le_of_ble_eq_true rfl) (Nat.le_of_ble_eq_true rfl) dX12_judge_80 (Nat.le_of_ble_eq_true rfl) rfl rfl (m_X12_putsBack X.2.1 E N 0 s14.2.2 _ h16) ?_
  change Zz E X YX12_judge (some (.int R.1), R.2) r15 _ _ []
  refine z_iload_n C dX12_judge_83 2 rfl ?_
  refine z_if_lt (tgt := 89) C dX12_judge_84 (by decide) (fun h17 => ?_) (fun h17 => ?_)
  · replace hf := ifp hf h17
    refine z_iload_n C dX12_judge_89 1 rfl ?_
    refine z_aload_n C dX12_judge_90 0 rfl ?_
    refine z_get (v := .int (r15 73 13)) (T := TX12) (N := 39) (ci := 11) C (by decide) wc_mo rfl in_X12 13 (by decide) t_858 rfl dX12_judge_91 ?_
    refine z_icmp_ge (tgt := 101) C dX12_judge_94 (by decide) (fun h18 => ?_) (fun h18 => ?_)
    · replace hf := ifp hf h18
      refine z_iload_n C dX12_judge_101 1 rfl ?_
      refine z_aload_n C dX12_judge_102 0 rfl ?_
      refine z_get (v := .int (r15 73 13)) (T := TX12) (N := 39) (ci := 11) C (by decide) wc_mo rfl in_X12 13 (by decide) t_858 rfl dX12_judge_103 ?_
      refine z_icmp_le (tgt := 116) C dX12_judge_106 (by decide) (fun h19 => ?_) (fun h19 => ?_)
      · replace hf := ifp hf h19
        refine z_bipush (v := (-9)) C dX12_judge_116 (by decide) ?_
        exact z_iret C dX12_judge_118 rfl (by rw [← Option.some.inj hf])
      · replace hf := ifn hf h19
        refine z_aload_n C dX12_judge_109 0 rfl ?_
        refine z_get (v := .int (r15 73 13)) (T := TX12) (N := 39) (ci := 11) C (by decide) wc_mo rfl in_X12 13 (by decide) t_858 rfl dX12_judge_110 ?_
        refine z_goto (tgt := 118) C dX12_judge_113 (by decide) ?_
        exact z_iret C dX12_judge_118 rfl (by rw [← Option.some.inj hf])
    · replace hf := ifn hf h18
      refine z_iload_n C dX12_judge_97 1 rfl ?_
      refine z_goto (tgt := 118) C dX12_judge_98 (by decide) ?_
      exact z_iret C dX12_judge_118 rfl (by rw [← Option.some.inj hf])
  · replace hf := ifn hf h17
    refine z_iload_n C dX12_judge_87 2 rfl ?_
    exact z_iret C dX12_judge_88 rfl (by rw [← Option.some.inj hf])
theorem lk_X12_judge {Y : Yv} : Lk Y YX12_judge 0 := ⟨t_1276, t_13, ⟨by decide +kernel, by decide +kernel⟩, by decide +kernel⟩
abbrev YX12_image : Yv := (yX12_image, cX12_image, 1, some .int, 2, 44)
def f_X12_image (N : Nat) (σ : Sg) : Option (Int32 × Sg) :=
  nm (sgs σ 73 30 1) (fun σ1 => (f_X12_passesAll N 0 1 σ1).bind (fun r3 => some ((r3 73 15), r3)))
set_option maxHeartbeats 4000000 in
set_option maxRecDepth 20000 in
theorem m_X12_image (l : Launch) (E : Ev) (N : Nat) (σ : Sg) (R : Int32 × Sg) (hf : f_X12_image N σ = some R) : Ct l E YX12_image [.ref (E.2.1 73)] σ (some (.int R.1), R.2) := by
  refine ct_of (by decide +kernel) (Nat.le_of_ble_eq_true rfl) [(0, .ref (E.2.1 73))] rfl (fun X hX C => ?_)
  unfold f_X12_image at hf
  refine z_aload_n C dX12_image_0 0 rfl ?_
  refine z_iconst (v := 1) C dX12_image_1 (by decide) ?_
  obtain ⟨σ1, h2, hf⟩ := nm_some hf
  refine z_put (T := TX12) (N := 39) (ci := 11) (ty := .boolean) C tyX12 tyX12_ok nmX12 (by decide) wc_mo rfl in_X12 30 (by decide) t_875 rfl rfl rfl rfl (Nat.le_of_ble_eq_true rfl) (pw_X12_30) dX12_image_2 ?_
  rw [← h2]
  refine z_aload_n C dX12_image_5 0 rfl ?_
  refine z_iconst (v := 0) C dX12_image_6 (by decide) ?_
  refine z_iconst (v := 1) C dX12_image_7 (by decide) ?_
  obtain ⟨r3, h4, hf⟩ := bd_some hf
  refine z_callV (Y2 := YX12_passesAll) (CC := RX12) (T := TX12) (N := 39) (ci := 11) (As := [.int 0, .int 1]) C lk_X12_passesAll (by decide) wc_mo rfl t_1008 t_1010 p_34 (Nat.le_of_ble_eq_true rfl) (Nat.le_of_ble_eq_true rfl) dX12_image_8 (Nat.le_of_ble_eq_true rfl) rfl rfl (m_X12_passesAll X.2.1 E N 0 1 σ1 _ h4) ?_
  change Zz E X YX12_image (some (.int R.1), R.2) r3 _ _ []
  refine z_aload_n C dX12_image_11 0 rfl ?_
  refine z_get (v := .int (r3 73 15)) (T := TX12) (N := 39) (ci := 11) C (by decide) wc_mo rfl in_X12 15 (by decide) t_860 rfl dX12_image_12 ?_
  exact z_iret C dX12_image_15 rfl (by rw [← Option.some.inj hf])
theorem lk_X12_image {Y : Yv} : Lk Y YX12_image 0 := ⟨t_1280, t_13, ⟨by decide +kernel, by decide +kernel⟩, by decide +kernel⟩
abbrev YX12_on : Yv := (yX12_on, cX12_on, 1, some .int, 2, 44)
def f_X12_on (N : Nat) (σ : Sg) : Option (Int32 × Sg) :=
  if (σ 73 30) = 0 then ((f_X12_no N (-3) σ).bind (fun r4 => some (r4.1, r4.2))) else ((f_X12_passesAll N 0 0 σ).bind (fun r2 => some ((r2 73 15), r2)))
set_option maxHeartbeats 4000000 in
set_option maxRecDepth 20000 in
theorem m_X12_on (l : Launch) (E : Ev) (N : Nat) (σ : Sg) (R : Int32 × Sg) (hf : f_X12_on N σ = some R) : Ct l E YX12_on [.ref (E.2.1 73)] σ (some (.int R.1), R.2) := by
  refine ct_of (by decide +kernel) (Nat.le_of_ble_eq_true rfl) [(0, .ref (E.2.1 73))] rfl (fun X hX C => ?_)
  unfold f_X12_on at hf
  refine z_aload_n C dX12_on_0 0 rfl ?_
  refine z_get (v := .int (σ 73 30)) (T := TX12) (N := 39) (ci := 11) C (by decide) wc_mo rfl in_X12 30 (by decide) t_875 rfl dX12_on_1 ?_
  refine z_if_ne (tgt := 14) C dX12_on_4 (by decide) (fun h1 => ?_) (fun h1 => ?_)
  · replace hf := ifn hf h1
    refine z_aload_n C dX12_on_14 0 rfl ?_
    refine z_iconst (v := 0) C dX12_on_15 (by decide) ?_
    refine z_iconst (v := 0) C dX12_on_16 (by decide) ?_
    obtain ⟨r2, h3, hf⟩ := bd_some hf
    refine z_callV (Y2 := YX12_passesAll) (CC := RX12) (T := TX12) (N := 39) (ci := 11) (As := [.int 0, .int 0]) C lk_X12_passesAll (by decide) wc_mo rfl t_1008 t_1010 p_34 (Nat.le_of_ble_eq_true rfl) (Nat.le_of_ble_eq_true rfl) dX12_on_17 (Nat.le_of_ble_eq_true rfl) rfl rfl (m_X12_passesAll X.2.1 E N 0 0 σ _ h3) ?_
    change Zz E X YX12_on (some (.int R.1), R.2) r2 _ _ []
    refine z_aload_n C dX12_on_20 0 rfl ?_
    refine z_get (v := .int (r2 73 15)) (T := TX12) (N := 39) (ci := 11) C (by decide) wc_mo rfl in_X12 15 (by decide) t_860 rfl dX12_on_21 ?_
    exact z_iret C dX12_on_24 rfl (by rw [← Option.some.inj hf])
  · replace hf := ifp hf h1
    refine z_aload_n C dX12_on_7 0 rfl ?_
    refine z_bipush (v := (-3)) C dX12_on_8 (by decide) ?_
    obtain ⟨r4, h5, hf⟩ := bd_some hf
    refine z_callV (Y2 := YX12_no) (CC := RX12) (T := TX12) (N := 39) (ci := 11) (As := [.int (-3)]) C lk_X12_no (by decide) wc_mo rfl t_970 t_972 p_27 (Nat.le_of_ble_eq_true rfl) (Nat.le_of_ble_eq_true rfl) dX12_on_10 (Nat.le_of_ble_eq_true rfl) rfl rfl (m_X12_no X.2.1 E N (-3) σ _ h5) ?_
    change Zz E X YX12_on (some (.int R.1), R.2) r4.2 _ _ [.int r4.1]
    exact z_iret C dX12_on_13 rfl (by rw [← Option.some.inj hf])
theorem lk_X12_on {Y : Yv} : Lk Y YX12_on 0 := ⟨t_1284, t_13, ⟨by decide +kernel, by decide +kernel⟩, by decide +kernel⟩
abbrev YX12_count : Yv := (yX12_count, cX12_count, 2, some .int, 1, 22)
def f_X12_count (N : Nat) (x1 : Int32) (σ : Sg) : Option (Int32 × Sg) :=
  (f_X12_isIn N x1 11 16 σ).bind (fun r1 => if r1.1 = 0 then (if x1 = 0 then (some ((r1.2 73 9), r1.2)) else (if x1 = 1 then (some ((r1.2 73 10), r1.2)) else (if x1 = 2 then (some ((r1.2 73 13), r1.2)) else (if x1 = 3 then (some ((r1.2 73 14), r1.2)) else (if x1 = 4 then (some ((r1.2 73 15), r1.2)) else (if x1 = 5 then (some ((r1.2 73 38), r1.2)) else (if x1 = 6 then (some ((r1.2 73 25), r1.2)) else (if x1 = 7 then (some ((r1.2 73 16), r1.2)) else (some ((-9), r1.2)))))))))) else (ga (x1 - 10) 7 (some ((r1.2 74 (Int32.toNatClampNeg (x1 - 10))), r1.2))))
set_option maxHeartbeats 4000000 in
set_option maxRecDepth 20000 in
theorem m_X12_count (l : Launch) (E : Ev) (N : Nat) (x1 : Int32) (σ : Sg) (R : Int32 × Sg) (hf : f_X12_count N x1 σ = some R) : Ct l E YX12_count [.ref (E.2.1 73), .int x1] σ (some (.int R.1), R.2) := by
  refine ct_of (by decide +kernel) (Nat.le_of_ble_eq_true rfl) [(0, .ref (E.2.1 73)), (1, .int x1)] rfl (fun X hX C => ?_)
  unfold f_X12_count at hf
  refine z_iload_n C dX12_count_0 1 rfl ?_
  refine z_bipush (v := 11) C dX12_count_1 (by decide) ?_
  refine z_bipush (v := 16) C dX12_count_3 (by decide) ?_
  obtain ⟨r1, h2, hf⟩ := bd_some hf
  refine z_callS (Y2 := YX12_isIn) (As := [.int x1, .int 11, .int 16]) C lk_X12_isIn t_994 t_995 (Nat.le_of_ble_eq_true rfl) (Nat.le_of_ble_eq_true rfl) dX12_count_5 (Nat.le_of_ble_eq_true rfl) rfl rfl (m_X12_isIn X.2.1 E N x1 11 16 σ _ h2) ?_
  change Zz E X YX12_count (some (.int R.1), R.2) r1.2 _ _ [.int r1.1]
  refine z_if_eq (tgt := 21) C dX12_count_8 (by decide) (fun h3 => ?_) (fun h3 => ?_)
  · replace hf := ifp hf h3
    refine z_iload_n C dX12_count_21 1 rfl ?_
    by_cases h4 : x1 = 0
    · replace hf := ifp hf h4
      refine z_tabIn (x := x1) (off := 46) (tgt := 68) C dX12_count_22 (by rw [h4]; decide) (by rw [h4]; decide) (by rw [h4]; decide) (by decide) ?_
      refine z_aload_n C dX12_count_68 0 rfl ?_
      refine z_get (v := .int (r1.2 73 9)) (T := TX12) (N := 39) (ci := 11) C (by decide) wc_mo rfl in_X12 9 (by decide) t_854 rfl dX12_count_69 ?_
      exact z_iret C dX12_count_72 rfl (by rw [← Option.some.inj hf])
    · replace hf := ifn hf h4
      by_cases h5 : x1 = 1
      · replace hf := ifp hf h5
        refine z_tabIn (x := x1) (off := 51) (tgt := 73) C dX12_count_22 (by rw [h5]; decide) (by rw [h5]; decide) (by rw [h5]; decide) (by decide) ?_
        refine z_aload_n C dX12_count_73 0 rfl ?_
        refine z_get (v := .int (r1.2 73 10)) (T := TX12) (N := 39) (ci := 11) C (by decide) wc_mo rfl in_X12 10 (by decide) t_855 rfl dX12_count_74 ?_
        exact z_iret C dX12_count_77 rfl (by rw [← Option.some.inj hf])
      · replace hf := ifn hf h5
        by_cases h6 : x1 = 2
        · replace hf := ifp hf h6
          refine z_tabIn (x := x1) (off := 56) (tgt := 78) C dX12_count_22 (by rw [h6]; decide) (by rw [h6]; decide) (by rw [h6]; decide) (by decide) ?_
          refine z_aload_n C dX12_count_78 0 rfl ?_
          refine z_get (v := .int (r1.2 73 13)) (T := TX12) (N := 39) (ci := 11) C (by decide) wc_mo rfl in_X12 13 (by decide) t_858 rfl dX12_count_79 ?_
          exact z_iret C dX12_count_82 rfl (by rw [← Option.some.inj hf])
        · replace hf := ifn hf h6
          by_cases h7 : x1 = 3
          · replace hf := ifp hf h7
            refine z_tabIn (x := x1) (off := 61) (tgt := 83) C dX12_count_22 (by rw [h7]; decide) (by rw [h7]; decide) (by rw [h7]; decide) (by decide) ?_
            refine z_aload_n C dX12_count_83 0 rfl ?_
            refine z_get (v := .int (r1.2 73 14)) (T := TX12) (N := 39) (ci := 11) C (by decide) wc_mo rfl in_X12 14 (by decide) t_859 rfl dX12_count_84 ?_
            exact z_iret C dX12_count_87 rfl (by rw [← Option.some.inj hf])
          · replace hf := ifn hf h7
            by_cases h8 : x1 = 4
            · replace hf := ifp hf h8
              refine z_tabIn (x := x1) (off := 66) (tgt := 88) C dX12_count_22 (by rw [h8]; decide) (by rw [h8]; decide) (by rw [h8]; decide) (by decide) ?_
              refine z_aload_n C dX12_count_88 0 rfl ?_
              refine z_get (v := .int (r1.2 73 15)) (T := TX12) (N := 39) (ci := 11) C (by decide) wc_mo rfl in_X12 15 (by decide) t_860 rfl dX12_count_89 ?_
              exact z_iret C dX12_count_92 rfl (by rw [← Option.some.inj hf])
            · replace hf := ifn hf h8
              by_cases h9 : x1 = 5
              · replace hf := ifp hf h9
                refine z_tabIn (x := x1) (off := 71) (tgt := 93) C dX12_count_22 (by rw [h9]; decide) (by rw [h9]; decide) (by rw [h9]; decide) (by decide) ?_
                refine z_aload_n C dX12_count_93 0 rfl ?_
                refine z_get (v := .int (r1.2 73 38)) (T := TX12) (N := 39) (ci := 11) C (by decide) wc_mo rfl in_X12 38 (by decide) t_883 rfl dX12_count_94 ?_
                exact z_iret C dX12_count_97 rfl (by rw [← Option.some.inj hf])
              · replace hf := ifn hf h9
                by_cases h10 : x1 = 6
                · replace hf := ifp hf h10
                  refine z_tabIn (x := x1) (off := 76) (tgt := 98) C dX12_count_22 (by rw [h10]; decide) (by rw [h10]; decide) (by rw [h10]; decide) (by decide) ?_
                  refine z_aload_n C dX12_count_98 0 rfl ?_
                  refine z_get (v := .int (r1.2 73 25)) (T := TX12) (N := 39) (ci := 11) C (by decide) wc_mo rfl in_X12 25 (by decide) t_870 rfl dX12_count_99 ?_
                  exact z_iret C dX12_count_102 rfl (by rw [← Option.some.inj hf])
                · replace hf := ifn hf h10
                  by_cases h11 : x1 = 7
                  · replace hf := ifp hf h11
                    refine z_tabIn (x := x1) (off := 81) (tgt := 103) C dX12_count_22 (by rw [h11]; decide) (by rw [h11]; decide) (by rw [h11]; decide) (by decide) ?_
                    refine z_aload_n C dX12_count_103 0 rfl ?_
                    refine z_get (v := .int (r1.2 73 16)) (T := TX12) (N := 39) (ci := 11) C (by decide) wc_mo rfl in_X12 16 (by decide) t_861 rfl dX12_count_104 ?_
                    exact z_iret C dX12_count_107 rfl (by rw [← Option.some.inj hf])
                  · replace hf := ifn hf h11
                    refine z_tabOut (x := x1) (tgt := 108) C dX12_count_22 (by have eh4 := lv_neT (a := 0) h4 (by decide); have eh5 := lv_neT (a := 1) h5 (by decide); have eh6 := lv_neT (a := 2) h6 (by decide); have eh7 := lv_neT (a := 3) h7 (by decide); have eh8 := lv_neT (a := 4) h8 (by decide); have eh9 := lv_neT (a := 5) h9 (by decide); have eh10 := lv_neT (a := 6) h10 (by decide); have eh11 := lv_neT (a := 7) h11 (by decide); omega) (by decide) ?_
                    refine z_bipush (v := (-9)) C dX12_count_108 (by decide) ?_
                    exact z_iret C dX12_count_110 rfl (by rw [← Option.some.inj hf])
  · replace hf := ifn hf h3
    refine z_aload_n C dX12_count_11 0 rfl ?_
    refine z_get (v := .ref (E.2.1 74)) (T := TX12) (N := 39) (ci := 11) C (by decide) wc_mo rfl in_X12 0 (by decide) t_845 rfl dX12_count_12 ?_
    refine z_iload_n C dX12_count_15 1 rfl ?_
    refine z_bipush (v := 10) C dX12_count_16 (by decide) ?_
    refine z_isub C dX12_count_18 ?_
    obtain ⟨h12, hf⟩ := ga_some hf
    refine z_iald C ka_74 h12 dX12_count_19 ?_
    exact z_iret C dX12_count_20 rfl (by rw [← Option.some.inj hf])
theorem lk_X12_count {Y : Yv} : Lk Y YX12_count 1 := ⟨t_1288, t_13, ⟨by decide +kernel, by decide +kernel⟩, by decide +kernel⟩
