abbrev YX11_refuse : Yv := (yX11_refuse, cX11_refuse, 2, some .int, 0, 0)
def f_X11_refuse (N : Nat) (x1 : Int32) (σ : Sg) : Option (Int32 × Sg) :=
  if 0 ≤ x1 then (some (x1, σ)) else (if x1 < (-6) then (some (x1, σ)) else (ga (-x1) 7 (ga (-x1) 7 (nm (sgs σ 72 (Int32.toNatClampNeg (-x1)) ((σ 72 (Int32.toNatClampNeg (-x1))) + 1)) (fun σ5 => some (x1, σ5))))))
set_option maxHeartbeats 4000000 in
set_option maxRecDepth 20000 in
theorem m_X11_refuse (l : Launch) (E : Ev) (N : Nat) (x1 : Int32) (σ : Sg) (R : Int32 × Sg) (hf : f_X11_refuse N x1 σ = some R) : Ct l E YX11_refuse [.ref (E.2.1 0), .int x1] σ (some (.int R.1), R.2) := by
  refine ct_of (by decide +kernel) (Nat.le_of_ble_eq_true rfl) [(0, .ref (E.2.1 0)), (1, .int x1)] rfl (fun X hX C => ?_)
  unfold f_X11_refuse at hf
  refine z_iload_n C dX11_refuse_0 1 rfl ?_
  refine z_if_ge (tgt := 21) C dX11_refuse_1 (by decide) (fun h1 => ?_) (fun h1 => ?_)
  · replace hf := ifp hf h1
    refine z_iload_n C dX11_refuse_21 1 rfl ?_
    exact z_iret C dX11_refuse_22 rfl (by rw [← Option.some.inj hf])
  · replace hf := ifn hf h1
    refine z_iload_n C dX11_refuse_4 1 rfl ?_
    refine z_bipush (v := (-6)) C dX11_refuse_5 (by decide) ?_
    refine z_icmp_lt (tgt := 21) C dX11_refuse_7 (by decide) (fun h2 => ?_) (fun h2 => ?_)
    · replace hf := ifp hf h2
      refine z_iload_n C dX11_refuse_21 1 rfl ?_
      exact z_iret C dX11_refuse_22 rfl (by rw [← Option.some.inj hf])
    · replace hf := ifn hf h2
      refine z_aload_n C dX11_refuse_10 0 rfl ?_
      refine z_get (v := .ref (E.2.1 72)) (T := TX11) (N := 8) (ci := 10) C (by decide) wc_main rfl in_X11 6 (by decide) t_239 rfl dX11_refuse_11 ?_
      refine z_iload_n C dX11_refuse_14 1 rfl ?_
      refine z_ineg C dX11_refuse_15 ?_
      refine z_dup2 C dX11_refuse_16 rfl rfl ?_
      obtain ⟨h3, hf⟩ := ga_some hf
      refine z_iald C ka_72 h3 dX11_refuse_17 ?_
      refine z_iconst (v := 1) C dX11_refuse_18 (by decide) ?_
      refine z_iadd C dX11_refuse_19 ?_
      obtain ⟨h4, hf⟩ := ga_some hf
      obtain ⟨σ5, h6, hf⟩ := nm_some hf
      refine z_iast C ka_72 h4 dX11_refuse_20 ?_
      rw [← h6]
      refine z_iload_n C dX11_refuse_21 1 rfl ?_
      exact z_iret C dX11_refuse_22 rfl (by rw [← Option.some.inj hf])
theorem lk_X11_refuse {Y : Yv} : Lk Y YX11_refuse 1 := ⟨t_265, t_1, ⟨by decide +kernel, by decide +kernel⟩, by decide +kernel⟩
abbrev YX11_letter : Yv := (yX11_letter, cX11_letter, 2, some .int, 1, 21)
def f_X11_letter_J31 (N : Nat) (σ : Sg) : Option (Int32 × Sg) :=
  (f_X11_refuse N (-6) σ).bind (fun r3 => some (r3.1, r3.2))
def f_X11_letter (N : Nat) (x1 : Int32) (σ : Sg) : Option (Int32 × Sg) :=
  if 0 ≤ x1 then (if 255 < x1 then (f_X11_letter_J31 N σ) else ((f_X4_isFull N 34 σ).bind (fun r5 => if r5.1 = 0 then ((f_X4_add N 34 x1 r5.2).bind (fun r8 => some ((r8 34 1), r8))) else (f_X11_letter_J31 N r5.2)))) else ((f_X11_refuse N (-4) σ).bind (fun r10 => some (r10.1, r10.2)))
set_option maxHeartbeats 4000000 in
set_option maxRecDepth 20000 in
theorem m_X11_letter (l : Launch) (E : Ev) (N : Nat) (x1 : Int32) (σ : Sg) (R : Int32 × Sg) (hf : f_X11_letter N x1 σ = some R) : Ct l E YX11_letter [.ref (E.2.1 0), .int x1] σ (some (.int R.1), R.2) := by
  refine ct_of (by decide +kernel) (Nat.le_of_ble_eq_true rfl) [(0, .ref (E.2.1 0)), (1, .int x1)] rfl (fun X hX C => ?_)
  have hJ31 : ∀ (σ : Sg), f_X11_letter_J31 N σ = some R → Zz E X YX11_letter (some (.int R.1), R.2) σ 31 [(0, .ref (E.2.1 0))] [] := by
    intro σ hf
    unfold f_X11_letter_J31 at hf
    refine z_aload_n C dX11_letter_31 0 rfl ?_
    refine z_bipush (v := (-6)) C dX11_letter_32 (by decide) ?_
    obtain ⟨r3, h4, hf⟩ := bd_some hf
    refine z_callV (Y2 := YX11_refuse) (CC := RX11) (T := TX11) (N := 8) (ci := 10) (As := [.int (-6)]) C lk_X11_refuse (by decide) wc_main rfl t_262 t_264 p_0 (Nat.le_of_ble_eq_true rfl) (Nat.le_of_ble_eq_true rfl) dX11_letter_34 (Nat.le_of_ble_eq_true rfl) rfl rfl (m_X11_refuse X.2.1 E N (-6) σ _ h4) ?_
    change Zz E X YX11_letter (some (.int R.1), R.2) r3.2 _ _ [.int r3.1]
    exact z_iret C dX11_letter_37 rfl (by rw [← Option.some.inj hf])
  unfold f_X11_letter at hf
  refine z_iload_n C dX11_letter_0 1 rfl ?_
  refine z_if_ge (tgt := 11) C dX11_letter_1 (by decide) (fun h1 => ?_) (fun h1 => ?_)
  · replace hf := ifp hf h1
    refine z_iload_n C dX11_letter_11 1 rfl ?_
    refine z_sipush (v := 255) C dX11_letter_12 (by decide) ?_
    refine z_icmp_gt (tgt := 31) C dX11_letter_15 (by decide) (fun h2 => ?_) (fun h2 => ?_)
    · replace hf := ifp hf h2
      refine z_sub [(0, .ref (E.2.1 0))] [0] rfl ?_
      exact hJ31 σ hf
    · replace hf := ifn hf h2
      refine z_aload_n C dX11_letter_18 0 rfl ?_
      refine z_get (v := .ref (E.2.1 33)) (T := TX11) (N := 8) (ci := 10) C (by decide) wc_main rfl in_X11 2 (by decide) t_235 rfl dX11_letter_19 ?_
      refine z_getN (v := .ref (E.2.1 34)) (T := TX7) (N := 4) (ci := 6) C (by decide) wc_rd rfl in_X7 0 (by decide) n_144 rfl dX11_letter_22 ?_
      obtain ⟨r5, h6, hf⟩ := bd_some hf
      refine z_callV (Y2 := YX4_isFull) (CC := RX4) (T := TX4) (N := 2) (ci := 3) (As := []) C lk_X4_isFull (lt_nu nu_34) (wc_nu nu_34) rfl t_266 t_267 t_268 (Nat.le_of_ble_eq_true rfl) (Nat.le_of_ble_eq_true rfl) dX11_letter_25 (Nat.le_of_ble_eq_true rfl) rfl rfl (m_X4_isFull X.2.1 E N 34 nu_34 σ _ h6) ?_
      change Zz E X YX11_letter (some (.int R.1), R.2) r5.2 _ _ [.int r5.1]
      refine z_if_eq (tgt := 38) C dX11_letter_28 (by decide) (fun h7 => ?_) (fun h7 => ?_)
      · replace hf := ifp hf h7
        refine z_aload_n C dX11_letter_38 0 rfl ?_
        refine z_get (v := .ref (E.2.1 33)) (T := TX11) (N := 8) (ci := 10) C (by decide) wc_main rfl in_X11 2 (by decide) t_235 rfl dX11_letter_39 ?_
        refine z_getN (v := .ref (E.2.1 34)) (T := TX7) (N := 4) (ci := 6) C (by decide) wc_rd rfl in_X7 0 (by decide) n_144 rfl dX11_letter_42 ?_
        refine z_iload_n C dX11_letter_45 1 rfl ?_
        obtain ⟨r8, h9, hf⟩ := bd_some hf
        refine z_callV (Y2 := YX4_add) (CC := RX4) (T := TX4) (N := 2) (ci := 3) (As := [.int x1]) C lk_X4_add (lt_nu nu_34) (wc_nu nu_34) rfl t_270 t_271 t_272 (Nat.le_of_ble_eq_true rfl) (Nat.le_of_ble_eq_true rfl) dX11_letter_46 (Nat.le_of_ble_eq_true rfl) rfl rfl (m_X4_add X.2.1 E N 34 nu_34 x1 r5.2 _ h9) ?_
        change Zz E X YX11_letter (some (.int R.1), R.2) r8 _ _ []
        refine z_aload_n C dX11_letter_49 0 rfl ?_
        refine z_get (v := .ref (E.2.1 33)) (T := TX11) (N := 8) (ci := 10) C (by decide) wc_main rfl in_X11 2 (by decide) t_235 rfl dX11_letter_50 ?_
        refine z_getN (v := .ref (E.2.1 34)) (T := TX7) (N := 4) (ci := 6) C (by decide) wc_rd rfl in_X7 0 (by decide) n_144 rfl dX11_letter_53 ?_
        refine z_getN (v := .int (r8 34 1)) (T := TX4) (N := 2) (ci := 3) C (lt_nu nu_34) (wc_nu nu_34) rfl in_X4 1 (by decide) n_69 rfl dX11_letter_56 ?_
        exact z_iret C dX11_letter_59 rfl (by rw [← Option.some.inj hf])
      · replace hf := ifn hf h7
        refine z_sub [(0, .ref (E.2.1 0))] [0] rfl ?_
        exact hJ31 r5.2 hf
  · replace hf := ifn hf h1
    refine z_aload_n C dX11_letter_4 0 rfl ?_
    refine z_bipush (v := (-4)) C dX11_letter_5 (by decide) ?_
    obtain ⟨r10, h11, hf⟩ := bd_some hf
    refine z_callV (Y2 := YX11_refuse) (CC := RX11) (T := TX11) (N := 8) (ci := 10) (As := [.int (-4)]) C lk_X11_refuse (by decide) wc_main rfl t_262 t_264 p_0 (Nat.le_of_ble_eq_true rfl) (Nat.le_of_ble_eq_true rfl) dX11_letter_7 (Nat.le_of_ble_eq_true rfl) rfl rfl (m_X11_refuse X.2.1 E N (-4) σ _ h11) ?_
    change Zz E X YX11_letter (some (.int R.1), R.2) r10.2 _ _ [.int r10.1]
    exact z_iret C dX11_letter_10 rfl (by rw [← Option.some.inj hf])
theorem lk_X11_letter {Y : Yv} : Lk Y YX11_letter 1 := ⟨t_261, t_1, ⟨by decide +kernel, by decide +kernel⟩, by decide +kernel⟩
abbrev YX11_parish : Yv := (yX11_parish, cX11_parish, 2, some .int, 8, 171)
def f_X11_parish (N : Nat) (σ : Sg) : Option (Int32 × Sg) :=
  (f_X7_read N 1 σ).bind (fun r1 => (f_X4_clear N 34 r1.2).bind (fun r3 => some (r1.1, r3)))
set_option maxHeartbeats 4000000 in
set_option maxRecDepth 20000 in
theorem m_X11_parish (l : Launch) (E : Ev) (N : Nat) (σ : Sg) (R : Int32 × Sg) (hf : f_X11_parish N σ = some R) : Ct l E YX11_parish [.ref (E.2.1 0)] σ (some (.int R.1), R.2) := by
  refine ct_of (by decide +kernel) (Nat.le_of_ble_eq_true rfl) [(0, .ref (E.2.1 0))] rfl (fun X hX C => ?_)
  unfold f_X11_parish at hf
  refine z_aload_n C dX11_parish_0 0 rfl ?_
  refine z_get (v := .ref (E.2.1 33)) (T := TX11) (N := 8) (ci := 10) C (by decide) wc_main rfl in_X11 2 (by decide) t_235 rfl dX11_parish_1 ?_
  refine z_aload_n C dX11_parish_4 0 rfl ?_
  refine z_get (v := .ref (E.2.1 1)) (T := TX11) (N := 8) (ci := 10) C (by decide) wc_main rfl in_X11 0 (by decide) t_233 rfl dX11_parish_5 ?_
  obtain ⟨r1, h2, hf⟩ := bd_some hf
  refine z_callV (Y2 := YX7_read) (CC := RX7) (T := TX7) (N := 4) (ci := 6) (As := [.ref (E.2.1 1)]) C lk_X7_read (by decide) wc_rd rfl t_278 t_279 t_280 (Nat.le_of_ble_eq_true rfl) (Nat.le_of_ble_eq_true rfl) dX11_parish_8 (Nat.le_of_ble_eq_true rfl) rfl rfl (m_X7_read X.2.1 E N 1 st_1 σ _ h2) ?_
  change Zz E X YX11_parish (some (.int R.1), R.2) r1.2 _ _ [.int r1.1]
  refine z_istore_n (lv' := [(1, .int r1.1), (0, .ref (E.2.1 0))]) C dX11_parish_11 (by decide) rfl ?_
  refine z_aload_n C dX11_parish_12 1 rfl ?_
  refine z_get (v := .ref (E.2.1 33)) (T := TX11) (N := 8) (ci := 10) C (by decide) wc_main rfl in_X11 2 (by decide) t_235 rfl dX11_parish_13 ?_
  refine z_getN (v := .ref (E.2.1 34)) (T := TX7) (N := 4) (ci := 6) C (by decide) wc_rd rfl in_X7 0 (by decide) n_144 rfl dX11_parish_16 ?_
  obtain ⟨r3, h4, hf⟩ := bd_some hf
  refine z_callV (Y2 := YX4_clear) (CC := RX4) (T := TX4) (N := 2) (ci := 3) (As := []) C lk_X4_clear (lt_nu nu_34) (wc_nu nu_34) rfl t_438 t_298 t_299 (Nat.le_of_ble_eq_true rfl) (Nat.le_of_ble_eq_true rfl) dX11_parish_19 (Nat.le_of_ble_eq_true rfl) rfl rfl (m_X4_clear X.2.1 E N 34 nu_34 r1.2 _ h4) ?_
  change Zz E X YX11_parish (some (.int R.1), R.2) r3 _ _ []
  refine z_iload_n C dX11_parish_22 0 rfl ?_
  exact z_iret C dX11_parish_23 rfl (by rw [← Option.some.inj hf])
theorem lk_X11_parish {Y : Yv} : Lk Y YX11_parish 0 := ⟨t_277, t_1, ⟨by decide +kernel, by decide +kernel⟩, by decide +kernel⟩
abbrev YX11_isPlace : Yv := (yX11_isPlace, cX11_isPlace, 3, some .boolean, 1, 21)
def f_X11_isPlace (N : Nat) (x1 x2 : Int32) (σ : Sg) : Option (Int32 × Sg) :=
  (f_X5_has N 2 x1 σ).bind (fun r1 => if r1.1 = 0 then (some (0, r1.2)) else (if x2 < 0 then (some (0, r1.2)) else (if 4 ≤ x2 then (some (0, r1.2)) else (some (1, r1.2)))))
set_option maxHeartbeats 4000000 in
set_option maxRecDepth 20000 in
theorem m_X11_isPlace (l : Launch) (E : Ev) (N : Nat) (x1 x2 : Int32) (σ : Sg) (R : Int32 × Sg) (hf : f_X11_isPlace N x1 x2 σ = some R) : Ct l E YX11_isPlace [.ref (E.2.1 0), .int x1, .int x2] σ (some (.int R.1), R.2) := by
  refine ct_of (by decide +kernel) (Nat.le_of_ble_eq_true rfl) [(0, .ref (E.2.1 0)), (1, .int x1), (2, .int x2)] rfl (fun X hX C => ?_)
  unfold f_X11_isPlace at hf
  refine z_aload_n C dX11_isPlace_0 0 rfl ?_
  refine z_get (v := .ref (E.2.1 1)) (T := TX11) (N := 8) (ci := 10) C (by decide) wc_main rfl in_X11 0 (by decide) t_233 rfl dX11_isPlace_1 ?_
  refine z_getN (v := .ref (E.2.1 2)) (T := TX9) (N := 11) (ci := 8) C (lt_st st_1) (wc_st st_1) rfl in_X9 0 (by decide) n_78 rfl dX11_isPlace_4 ?_
  refine z_iload_n C dX11_isPlace_7 1 rfl ?_
  obtain ⟨r1, h2, hf⟩ := bd_some hf
  refine z_callV (Y2 := YX5_has) (CC := RX5) (T := TX5) (N := 3) (ci := 4) (As := [.int x1]) C lk_X5_has (lt_pe pe_2) (wc_pe pe_2) rfl t_448 t_424 t_425 (Nat.le_of_ble_eq_true rfl) (Nat.le_of_ble_eq_true rfl) dX11_isPlace_8 (Nat.le_of_ble_eq_true rfl) rfl rfl (m_X5_has X.2.1 E N 2 pe_2 x1 σ _ h2) ?_
  change Zz E X YX11_isPlace (some (.int R.1), R.2) r1.2 _ _ [.int r1.1]
  refine z_if_eq (tgt := 27) C dX11_isPlace_11 (by decide) (fun h3 => ?_) (fun h3 => ?_)
  · replace hf := ifp hf h3
    refine z_iconst (v := 0) C dX11_isPlace_27 (by decide) ?_
    exact z_zret C dX11_isPlace_28 rfl rfl (by rw [← Option.some.inj hf])
  · replace hf := ifn hf h3
    refine z_iload_n C dX11_isPlace_14 2 rfl ?_
    refine z_if_lt (tgt := 27) C dX11_isPlace_15 (by decide) (fun h4 => ?_) (fun h4 => ?_)
    · replace hf := ifp hf h4
      refine z_iconst (v := 0) C dX11_isPlace_27 (by decide) ?_
      exact z_zret C dX11_isPlace_28 rfl rfl (by rw [← Option.some.inj hf])
    · replace hf := ifn hf h4
      refine z_iload_n C dX11_isPlace_18 2 rfl ?_
      refine z_iconst (v := 4) C dX11_isPlace_19 (by decide) ?_
      refine z_icmp_ge (tgt := 27) C dX11_isPlace_20 (by decide) (fun h5 => ?_) (fun h5 => ?_)
      · replace hf := ifp hf h5
        refine z_iconst (v := 0) C dX11_isPlace_27 (by decide) ?_
        exact z_zret C dX11_isPlace_28 rfl rfl (by rw [← Option.some.inj hf])
      · replace hf := ifn hf h5
        refine z_iconst (v := 1) C dX11_isPlace_23 (by decide) ?_
        refine z_goto (tgt := 28) C dX11_isPlace_24 (by decide) ?_
        exact z_zret C dX11_isPlace_28 rfl rfl (by rw [← Option.some.inj hf])
theorem lk_X11_isPlace {Y : Yv} : Lk Y YX11_isPlace 2 := ⟨t_447, t_1, ⟨by decide +kernel, by decide +kernel⟩, by decide +kernel⟩
abbrev YX11_need : Yv := (yX11_need, cX11_need, 3, some .int, 2, 43)
def f_X11_need (N : Nat) (x1 x2 : Int32) (σ : Sg) : Option (Int32 × Sg) :=
  (f_X11_isPlace N x1 x2 σ).bind (fun r1 => if r1.1 = 0 then ((f_X11_refuse N (-1) r1.2).bind (fun r6 => some (r6.1, r6.2))) else ((f_X5_lack N 2 x1 x2 r1.2).bind (fun r4 => some (r4.1, r4.2))))
set_option maxHeartbeats 4000000 in
set_option maxRecDepth 20000 in
theorem m_X11_need (l : Launch) (E : Ev) (N : Nat) (x1 x2 : Int32) (σ : Sg) (R : Int32 × Sg) (hf : f_X11_need N x1 x2 σ = some R) : Ct l E YX11_need [.ref (E.2.1 0), .int x1, .int x2] σ (some (.int R.1), R.2) := by
  refine ct_of (by decide +kernel) (Nat.le_of_ble_eq_true rfl) [(0, .ref (E.2.1 0)), (1, .int x1), (2, .int x2)] rfl (fun X hX C => ?_)
  unfold f_X11_need at hf
  refine z_aload_n C dX11_need_0 0 rfl ?_
  refine z_iload_n C dX11_need_1 1 rfl ?_
  refine z_iload_n C dX11_need_2 2 rfl ?_
  obtain ⟨r1, h2, hf⟩ := bd_some hf
  refine z_callV (Y2 := YX11_isPlace) (CC := RX11) (T := TX11) (N := 8) (ci := 10) (As := [.int x1, .int x2]) C lk_X11_isPlace (by decide) wc_main rfl t_444 t_446 p_15 (Nat.le_of_ble_eq_true rfl) (Nat.le_of_ble_eq_true rfl) dX11_need_3 (Nat.le_of_ble_eq_true rfl) rfl rfl (m_X11_isPlace X.2.1 E N x1 x2 σ _ h2) ?_
  change Zz E X YX11_need (some (.int R.1), R.2) r1.2 _ _ [.int r1.1]
  refine z_if_ne (tgt := 15) C dX11_need_6 (by decide) (fun h3 => ?_) (fun h3 => ?_)
  · replace hf := ifn hf h3
    refine z_aload_n C dX11_need_15 0 rfl ?_
    refine z_get (v := .ref (E.2.1 1)) (T := TX11) (N := 8) (ci := 10) C (by decide) wc_main rfl in_X11 0 (by decide) t_233 rfl dX11_need_16 ?_
    refine z_getN (v := .ref (E.2.1 2)) (T := TX9) (N := 11) (ci := 8) C (lt_st st_1) (wc_st st_1) rfl in_X9 0 (by decide) n_78 rfl dX11_need_19 ?_
    refine z_iload_n C dX11_need_22 1 rfl ?_
    refine z_iload_n C dX11_need_23 2 rfl ?_
    obtain ⟨r4, h5, hf⟩ := bd_some hf
    refine z_callV (Y2 := YX5_lack) (CC := RX5) (T := TX5) (N := 3) (ci := 4) (As := [.int x1, .int x2]) C lk_X5_lack (lt_pe pe_2) (wc_pe pe_2) rfl t_449 t_450 t_451 (Nat.le_of_ble_eq_true rfl) (Nat.le_of_ble_eq_true rfl) dX11_need_24 (Nat.le_of_ble_eq_true rfl) rfl rfl (m_X5_lack X.2.1 E N 2 pe_2 x1 x2 r1.2 _ h5) ?_
    change Zz E X YX11_need (some (.int R.1), R.2) r4.2 _ _ [.int r4.1]
    exact z_iret C dX11_need_27 rfl (by rw [← Option.some.inj hf])
  · replace hf := ifp hf h3
    refine z_aload_n C dX11_need_9 0 rfl ?_
    refine z_iconst (v := (-1)) C dX11_need_10 (by decide) ?_
    obtain ⟨r6, h7, hf⟩ := bd_some hf
    refine z_callV (Y2 := YX11_refuse) (CC := RX11) (T := TX11) (N := 8) (ci := 10) (As := [.int (-1)]) C lk_X11_refuse (by decide) wc_main rfl t_262 t_264 p_0 (Nat.le_of_ble_eq_true rfl) (Nat.le_of_ble_eq_true rfl) dX11_need_11 (Nat.le_of_ble_eq_true rfl) rfl rfl (m_X11_refuse X.2.1 E N (-1) r1.2 _ h7) ?_
    change Zz E X YX11_need (some (.int R.1), R.2) r6.2 _ _ [.int r6.1]
    exact z_iret C dX11_need_14 rfl (by rw [← Option.some.inj hf])
theorem lk_X11_need {Y : Yv} : Lk Y YX11_need 2 := ⟨t_443, t_1, ⟨by decide +kernel, by decide +kernel⟩, by decide +kernel⟩
abbrev YX11_writer : Yv := (yX11_writer, cX11_writer, 3, some .int, 1, 21)
def f_X11_writer (N : Nat) (x1 x2 : Int32) (σ : Sg) : Option (Int32 × Sg) :=
  (f_X9_isWriter N 1 x1 σ).bind (fun r1 => if r1.1 = 0 then ((f_X11_refuse N (-1) r1.2).bind (fun r15 => some (r15.1, r15.2))) else (if x2 = 0 then ((f_X4_get N 5 x1 r1.2).bind (fun r5 => some (r5.1, r5.2))) else (if x2 = 1 then ((f_X4_get N 7 x1 r1.2).bind (fun r8 => some (r8.1, r8.2))) else (if x2 = 2 then ((f_X4_get N 9 x1 r1.2).bind (fun r11 => some (r11.1, r11.2))) else ((f_X11_refuse N (-2) r1.2).bind (fun r13 => some (r13.1, r13.2)))))))
set_option maxHeartbeats 4000000 in
set_option maxRecDepth 20000 in
theorem m_X11_writer (l : Launch) (E : Ev) (N : Nat) (x1 x2 : Int32) (σ : Sg) (R : Int32 × Sg) (hf : f_X11_writer N x1 x2 σ = some R) : Ct l E YX11_writer [.ref (E.2.1 0), .int x1, .int x2] σ (some (.int R.1), R.2) := by
  refine ct_of (by decide +kernel) (Nat.le_of_ble_eq_true rfl) [(0, .ref (E.2.1 0)), (1, .int x1), (2, .int x2)] rfl (fun X hX C => ?_)
  unfold f_X11_writer at hf
  refine z_aload_n C dX11_writer_0 0 rfl ?_
  refine z_get (v := .ref (E.2.1 1)) (T := TX11) (N := 8) (ci := 10) C (by decide) wc_main rfl in_X11 0 (by decide) t_233 rfl dX11_writer_1 ?_
  refine z_iload_n C dX11_writer_4 1 rfl ?_
  obtain ⟨r1, h2, hf⟩ := bd_some hf
  refine z_callV (Y2 := YX9_isWriter) (CC := RX9) (T := TX9) (N := 11) (ci := 8) (As := [.int x1]) C lk_X9_isWriter (lt_st st_1) (wc_st st_1) rfl t_457 t_458 t_459 (Nat.le_of_ble_eq_true rfl) (Nat.le_of_ble_eq_true rfl) dX11_writer_5 (Nat.le_of_ble_eq_true rfl) rfl rfl (m_X9_isWriter X.2.1 E N 1 st_1 x1 σ _ h2) ?_
  change Zz E X YX11_writer (some (.int R.1), R.2) r1.2 _ _ [.int r1.1]
  refine z_if_ne (tgt := 17) C dX11_writer_8 (by decide) (fun h3 => ?_) (fun h3 => ?_)
  · replace hf := ifn hf h3
    refine z_iload_n C dX11_writer_17 2 rfl ?_
    by_cases h4 : x2 = 0
    · replace hf := ifp hf h4
      refine z_tabIn (x := x2) (off := 26) (tgt := 44) C dX11_writer_18 (by rw [h4]; decide) (by rw [h4]; decide) (by rw [h4]; decide) (by decide) ?_
      refine z_aload_n C dX11_writer_44 0 rfl ?_
      refine z_get (v := .ref (E.2.1 1)) (T := TX11) (N := 8) (ci := 10) C (by decide) wc_main rfl in_X11 0 (by decide) t_233 rfl dX11_writer_45 ?_
      refine z_getN (v := .ref (E.2.1 5)) (T := TX9) (N := 11) (ci := 8) C (lt_st st_1) (wc_st st_1) rfl in_X9 1 (by decide) n_82 rfl dX11_writer_48 ?_
      refine z_iload_n C dX11_writer_51 1 rfl ?_
      obtain ⟨r5, h6, hf⟩ := bd_some hf
      refine z_callV (Y2 := YX4_get) (CC := RX4) (T := TX4) (N := 2) (ci := 3) (As := [.int x1]) C lk_X4_get (lt_nu nu_5) (wc_nu nu_5) rfl t_461 t_302 t_303 (Nat.le_of_ble_eq_true rfl) (Nat.le_of_ble_eq_true rfl) dX11_writer_52 (Nat.le_of_ble_eq_true rfl) rfl rfl (m_X4_get X.2.1 E N 5 nu_5 x1 r1.2 _ h6) ?_
      change Zz E X YX11_writer (some (.int R.1), R.2) r5.2 _ _ [.int r5.1]
      exact z_iret C dX11_writer_55 rfl (by rw [← Option.some.inj hf])
    · replace hf := ifn hf h4
      by_cases h7 : x2 = 1
      · replace hf := ifp hf h7
        refine z_tabIn (x := x2) (off := 38) (tgt := 56) C dX11_writer_18 (by rw [h7]; decide) (by rw [h7]; decide) (by rw [h7]; decide) (by decide) ?_
        refine z_aload_n C dX11_writer_56 0 rfl ?_
        refine z_get (v := .ref (E.2.1 1)) (T := TX11) (N := 8) (ci := 10) C (by decide) wc_main rfl in_X11 0 (by decide) t_233 rfl dX11_writer_57 ?_
        refine z_getN (v := .ref (E.2.1 7)) (T := TX9) (N := 11) (ci := 8) C (lt_st st_1) (wc_st st_1) rfl in_X9 2 (by decide) n_86 rfl dX11_writer_60 ?_
        refine z_iload_n C dX11_writer_63 1 rfl ?_
        obtain ⟨r8, h9, hf⟩ := bd_some hf
        refine z_callV (Y2 := YX4_get) (CC := RX4) (T := TX4) (N := 2) (ci := 3) (As := [.int x1]) C lk_X4_get (lt_nu nu_7) (wc_nu nu_7) rfl t_461 t_302 t_303 (Nat.le_of_ble_eq_true rfl) (Nat.le_of_ble_eq_true rfl) dX11_writer_64 (Nat.le_of_ble_eq_true rfl) rfl rfl (m_X4_get X.2.1 E N 7 nu_7 x1 r1.2 _ h9) ?_
        change Zz E X YX11_writer (some (.int R.1), R.2) r8.2 _ _ [.int r8.1]
        exact z_iret C dX11_writer_67 rfl (by rw [← Option.some.inj hf])
      · replace hf := ifn hf h7
        by_cases h10 : x2 = 2
        · replace hf := ifp hf h10
          refine z_tabIn (x := x2) (off := 50) (tgt := 68) C dX11_writer_18 (by rw [h10]; decide) (by rw [h10]; decide) (by rw [h10]; decide) (by decide) ?_
          refine z_aload_n C dX11_writer_68 0 rfl ?_
          refine z_get (v := .ref (E.2.1 1)) (T := TX11) (N := 8) (ci := 10) C (by decide) wc_main rfl in_X11 0 (by decide) t_233 rfl dX11_writer_69 ?_
          refine z_getN (v := .ref (E.2.1 9)) (T := TX9) (N := 11) (ci := 8) C (lt_st st_1) (wc_st st_1) rfl in_X9 3 (by decide) n_90 rfl dX11_writer_72 ?_
          refine z_iload_n C dX11_writer_75 1 rfl ?_
          obtain ⟨r11, h12, hf⟩ := bd_some hf
          refine z_callV (Y2 := YX4_get) (CC := RX4) (T := TX4) (N := 2) (ci := 3) (As := [.int x1]) C lk_X4_get (lt_nu nu_9) (wc_nu nu_9) rfl t_461 t_302 t_303 (Nat.le_of_ble_eq_true rfl) (Nat.le_of_ble_eq_true rfl) dX11_writer_76 (Nat.le_of_ble_eq_true rfl) rfl rfl (m_X4_get X.2.1 E N 9 nu_9 x1 r1.2 _ h12) ?_
          change Zz E X YX11_writer (some (.int R.1), R.2) r11.2 _ _ [.int r11.1]
          exact z_iret C dX11_writer_79 rfl (by rw [← Option.some.inj hf])
        · replace hf := ifn hf h10
          refine z_tabOut (x := x2) (tgt := 80) C dX11_writer_18 (by have eh4 := lv_neT (a := 0) h4 (by decide); have eh7 := lv_neT (a := 1) h7 (by decide); have eh10 := lv_neT (a := 2) h10 (by decide); omega) (by decide) ?_
          refine z_aload_n C dX11_writer_80 0 rfl ?_
          refine z_bipush (v := (-2)) C dX11_writer_81 (by decide) ?_
          obtain ⟨r13, h14, hf⟩ := bd_some hf
          refine z_callV (Y2 := YX11_refuse) (CC := RX11) (T := TX11) (N := 8) (ci := 10) (As := [.int (-2)]) C lk_X11_refuse (by decide) wc_main rfl t_262 t_264 p_0 (Nat.le_of_ble_eq_true rfl) (Nat.le_of_ble_eq_true rfl) dX11_writer_83 (Nat.le_of_ble_eq_true rfl) rfl rfl (m_X11_refuse X.2.1 E N (-2) r1.2 _ h14) ?_
          change Zz E X YX11_writer (some (.int R.1), R.2) r13.2 _ _ [.int r13.1]
          exact z_iret C dX11_writer_86 rfl (by rw [← Option.some.inj hf])
  · replace hf := ifp hf h3
    refine z_aload_n C dX11_writer_11 0 rfl ?_
    refine z_iconst (v := (-1)) C dX11_writer_12 (by decide) ?_
    obtain ⟨r15, h16, hf⟩ := bd_some hf
    refine z_callV (Y2 := YX11_refuse) (CC := RX11) (T := TX11) (N := 8) (ci := 10) (As := [.int (-1)]) C lk_X11_refuse (by decide) wc_main rfl t_262 t_264 p_0 (Nat.le_of_ble_eq_true rfl) (Nat.le_of_ble_eq_true rfl) dX11_writer_13 (Nat.le_of_ble_eq_true rfl) rfl rfl (m_X11_refuse X.2.1 E N (-1) r1.2 _ h16) ?_
    change Zz E X YX11_writer (some (.int R.1), R.2) r15.2 _ _ [.int r15.1]
    exact z_iret C dX11_writer_16 rfl (by rw [← Option.some.inj hf])
theorem lk_X11_writer {Y : Yv} : Lk Y YX11_writer 2 := ⟨t_456, t_1, ⟨by decide +kernel, by decide +kernel⟩, by decide +kernel⟩
abbrev YX11_law : Yv := (yX11_law, cX11_law, 3, some .int, 1, 21)
def f_X11_law_J13 (N : Nat) (σ : Sg) : Option (Int32 × Sg) :=
  (f_X11_refuse N (-2) σ).bind (fun r2 => some (r2.1, r2.2))
def f_X11_law (N : Nat) (x1 : Int32) (σ : Sg) : Option (Int32 × Sg) :=
  if x1 < 0 then (f_X11_law_J13 N σ) else (if x1 < 5 then (nm (sgs σ 1 7 x1) (fun σ5 => some ((σ 1 7), σ5))) else (f_X11_law_J13 N σ))
set_option maxHeartbeats 4000000 in
set_option maxRecDepth 20000 in
theorem m_X11_law (l : Launch) (E : Ev) (N : Nat) (x1 : Int32) (σ : Sg) (R : Int32 × Sg) (hf : f_X11_law N x1 σ = some R) : Ct l E YX11_law [.ref (E.2.1 0), .int x1] σ (some (.int R.1), R.2) := by
  refine ct_of (by decide +kernel) (Nat.le_of_ble_eq_true rfl) [(0, .ref (E.2.1 0)), (1, .int x1)] rfl (fun X hX C => ?_)
  have hJ13 : ∀ (σ : Sg), f_X11_law_J13 N σ = some R → Zz E X YX11_law (some (.int R.1), R.2) σ 13 [(0, .ref (E.2.1 0))] [] := by
    intro σ hf
    unfold f_X11_law_J13 at hf
    refine z_aload_n C dX11_law_13 0 rfl ?_
    refine z_bipush (v := (-2)) C dX11_law_14 (by decide) ?_
    obtain ⟨r2, h3, hf⟩ := bd_some hf
    refine z_callV (Y2 := YX11_refuse) (CC := RX11) (T := TX11) (N := 8) (ci := 10) (As := [.int (-2)]) C lk_X11_refuse (by decide) wc_main rfl t_262 t_264 p_0 (Nat.le_of_ble_eq_true rfl) (Nat.le_of_ble_eq_true rfl) dX11_law_16 (Nat.le_of_ble_eq_true rfl) rfl rfl (m_X11_refuse X.2.1 E N (-2) σ _ h3) ?_
    change Zz E X YX11_law (some (.int R.1), R.2) r2.2 _ _ [.int r2.1]
    exact z_iret C dX11_law_19 rfl (by rw [← Option.some.inj hf])
  unfold f_X11_law at hf
  refine z_iload_n C dX11_law_0 1 rfl ?_
  refine z_if_lt (tgt := 13) C dX11_law_1 (by decide) (fun h1 => ?_) (fun h1 => ?_)
  · replace hf := ifp hf h1
    refine z_sub [(0, .ref (E.2.1 0))] [0] rfl ?_
    exact hJ13 σ hf
  · replace hf := ifn hf h1
    refine z_iload_n C dX11_law_4 1 rfl ?_
    refine z_aload_n C dX11_law_5 0 rfl ?_
    refine z_get (v := .ref (E.2.1 64)) (T := TX11) (N := 8) (ci := 10) C (by decide) wc_main rfl in_X11 4 (by decide) t_237 rfl dX11_law_6 ?_
    refine z_alenq (v := 5) C rfl dX11_law_9 ?_
    refine z_icmp_lt (tgt := 20) C dX11_law_10 (by decide) (fun h4 => ?_) (fun h4 => ?_)
    · replace hf := ifp hf h4
      refine z_aload_n C dX11_law_20 0 rfl ?_
      refine z_get (v := .ref (E.2.1 1)) (T := TX11) (N := 8) (ci := 10) C (by decide) wc_main rfl in_X11 0 (by decide) t_233 rfl dX11_law_21 ?_
      refine z_getN (v := .int (σ 1 7)) (T := TX9) (N := 11) (ci := 8) C (lt_st st_1) (wc_st st_1) rfl in_X9 7 (by decide) n_102 rfl dX11_law_24 ?_
      refine z_istore_n (lv' := [(2, .int (σ 1 7)), (0, .ref (E.2.1 0)), (1, .int x1)]) C dX11_law_27 (by decide) rfl ?_
      refine z_aload_n C dX11_law_28 1 rfl ?_
      refine z_get (v := .ref (E.2.1 1)) (T := TX11) (N := 8) (ci := 10) C (by decide) wc_main rfl in_X11 0 (by decide) t_233 rfl dX11_law_29 ?_
      refine z_iload_n C dX11_law_32 2 rfl ?_
      obtain ⟨σ5, h6, hf⟩ := nm_some hf
      refine z_putN (T := TX9) (N := 11) (ci := 8) (ty := .int) C tyX9 tyX9_ok nmX9 (lt_st st_1) (wc_st st_1) rfl in_X9 7 (by decide) n_102 rfl rfl rfl rfl (Nat.le_of_ble_eq_true rfl) (pw_X9_7 st_1) dX11_law_33 ?_
      rw [← h6]
      refine z_iload_n C dX11_law_36 0 rfl ?_
      exact z_iret C dX11_law_37 rfl (by rw [← Option.some.inj hf])
    · replace hf := ifn hf h4
      refine z_sub [(0, .ref (E.2.1 0))] [0] rfl ?_
      exact hJ13 σ hf
theorem lk_X11_law {Y : Yv} : Lk Y YX11_law 1 := ⟨t_465, t_1, ⟨by decide +kernel, by decide +kernel⟩, by decide +kernel⟩
abbrev YX11_err : Yv := (yX11_err, cX11_err, 3, some .int, 1, 21)
def f_X11_err (N : Nat) (x1 : Int32) (σ : Sg) : Option (Int32 × Sg) :=
  if 0 ≤ x1 then (if x1 ≤ 50 then (nm (sgs σ 1 8 x1) (fun σ3 => some ((σ 1 8), σ3))) else ((f_X11_refuse N (-6) σ).bind (fun r5 => some (r5.1, r5.2)))) else ((f_X11_refuse N (-4) σ).bind (fun r7 => some (r7.1, r7.2)))
set_option maxHeartbeats 4000000 in
set_option maxRecDepth 20000 in
theorem m_X11_err (l : Launch) (E : Ev) (N : Nat) (x1 : Int32) (σ : Sg) (R : Int32 × Sg) (hf : f_X11_err N x1 σ = some R) : Ct l E YX11_err [.ref (E.2.1 0), .int x1] σ (some (.int R.1), R.2) := by
  refine ct_of (by decide +kernel) (Nat.le_of_ble_eq_true rfl) [(0, .ref (E.2.1 0)), (1, .int x1)] rfl (fun X hX C => ?_)
  unfold f_X11_err at hf
  refine z_iload_n C dX11_err_0 1 rfl ?_
  refine z_if_ge (tgt := 11) C dX11_err_1 (by decide) (fun h1 => ?_) (fun h1 => ?_)
  · replace hf := ifp hf h1
    refine z_iload_n C dX11_err_11 1 rfl ?_
    refine z_bipush (v := 50) C dX11_err_12 (by decide) ?_
    refine z_icmp_le (tgt := 24) C dX11_err_14 (by decide) (fun h2 => ?_) (fun h2 => ?_)
    · replace hf := ifp hf h2
      refine z_aload_n C dX11_err_24 0 rfl ?_
      refine z_get (v := .ref (E.2.1 1)) (T := TX11) (N := 8) (ci := 10) C (by decide) wc_main rfl in_X11 0 (by decide) t_233 rfl dX11_err_25 ?_
      refine z_getN (v := .int (σ 1 8)) (T := TX9) (N := 11) (ci := 8) C (lt_st st_1) (wc_st st_1) rfl in_X9 8 (by decide) n_104 rfl dX11_err_28 ?_
      refine z_istore_n (lv' := [(2, .int (σ 1 8)), (0, .ref (E.2.1 0)), (1, .int x1)]) C dX11_err_31 (by decide) rfl ?_
      refine z_aload_n C dX11_err_32 1 rfl ?_
      refine z_get (v := .ref (E.2.1 1)) (T := TX11) (N := 8) (ci := 10) C (by decide) wc_main rfl in_X11 0 (by decide) t_233 rfl dX11_err_33 ?_
      refine z_iload_n C dX11_err_36 2 rfl ?_
      obtain ⟨σ3, h4, hf⟩ := nm_some hf
      refine z_putN (T := TX9) (N := 11) (ci := 8) (ty := .int) C tyX9 tyX9_ok nmX9 (lt_st st_1) (wc_st st_1) rfl in_X9 8 (by decide) n_104 rfl rfl rfl rfl (Nat.le_of_ble_eq_true rfl) (pw_X9_8 st_1) dX11_err_37 ?_
      rw [← h4]
      refine z_iload_n C dX11_err_40 0 rfl ?_
      exact z_iret C dX11_err_41 rfl (by rw [← Option.some.inj hf])
    · replace hf := ifn hf h2
      refine z_aload_n C dX11_err_17 0 rfl ?_
      refine z_bipush (v := (-6)) C dX11_err_18 (by decide) ?_
      obtain ⟨r5, h6, hf⟩ := bd_some hf
      refine z_callV (Y2 := YX11_refuse) (CC := RX11) (T := TX11) (N := 8) (ci := 10) (As := [.int (-6)]) C lk_X11_refuse (by decide) wc_main rfl t_262 t_264 p_0 (Nat.le_of_ble_eq_true rfl) (Nat.le_of_ble_eq_true rfl) dX11_err_20 (Nat.le_of_ble_eq_true rfl) rfl rfl (m_X11_refuse X.2.1 E N (-6) σ _ h6) ?_
      change Zz E X YX11_err (some (.int R.1), R.2) r5.2 _ _ [.int r5.1]
      exact z_iret C dX11_err_23 rfl (by rw [← Option.some.inj hf])
  · replace hf := ifn hf h1
    refine z_aload_n C dX11_err_4 0 rfl ?_
    refine z_bipush (v := (-4)) C dX11_err_5 (by decide) ?_
    obtain ⟨r7, h8, hf⟩ := bd_some hf
    refine z_callV (Y2 := YX11_refuse) (CC := RX11) (T := TX11) (N := 8) (ci := 10) (As := [.int (-4)]) C lk_X11_refuse (by decide) wc_main rfl t_262 t_264 p_0 (Nat.le_of_ble_eq_true rfl) (Nat.le_of_ble_eq_true rfl) dX11_err_7 (Nat.le_of_ble_eq_true rfl) rfl rfl (m_X11_refuse X.2.1 E N (-4) σ _ h8) ?_
    change Zz E X YX11_err (some (.int R.1), R.2) r7.2 _ _ [.int r7.1]
    exact z_iret C dX11_err_10 rfl (by rw [← Option.some.inj hf])
theorem lk_X11_err {Y : Yv} : Lk Y YX11_err 1 := ⟨t_469, t_1, ⟨by decide +kernel, by decide +kernel⟩, by decide +kernel⟩
abbrev YX11_isLetter : Yv := (yX11_isLetter, cX11_isLetter, 3, some .boolean, 0, 0)
def f_X11_isLetter_B4 (N : Nat) (rec : Int32 → Int32 → Sg → Option ((Int32 × Sg) ⊕ (Int32 × Sg))) (a1 a2 : Int32) (σ : Sg) : Option ((Int32 × Sg) ⊕ (Int32 × Sg)) :=
  if 4 ≤ a2 then (some (.inl (a1, σ))) else (if a1 < 0 then (some (.inr (0, σ))) else (if (jrem a1 10) ≤ 5 then (rec (a1 / 10) (a2 + 1) σ) else (some (.inr (0, σ)))))
def f_X11_isLetter_L4 (N : Nat) : Nat → Int32 → Int32 → Sg → Option ((Int32 × Sg) ⊕ (Int32 × Sg))
  | 0 => fun _ _ _ => none
  | k + 1 => fun a1 a2 σ => f_X11_isLetter_B4 N (f_X11_isLetter_L4 N k) a1 a2 σ
def f_X11_isLetter (N : Nat) (x1 : Int32) (σ : Sg) : Option (Int32 × Sg) :=
  ex1 (f_X11_isLetter_L4 N N x1 0 σ) (fun s4 => if s4.1 = 0 then (some (1, s4.2)) else (some (0, s4.2))) (fun r6 => some r6)
set_option maxHeartbeats 4000000 in
set_option maxRecDepth 20000 in
theorem m_X11_isLetter (l : Launch) (E : Ev) (N : Nat) (x1 : Int32) (σ : Sg) (R : Int32 × Sg) (hf : f_X11_isLetter N x1 σ = some R) : Ct l E YX11_isLetter [.int x1] σ (some (.int R.1), R.2) := by
  refine ct_of (by decide +kernel) (Nat.le_of_ble_eq_true rfl) [(0, .int x1)] rfl (fun X hX C => ?_)
  have hL4 : ∀ (k : Nat) (a1 a2 : Int32) (σ : Sg) (Q4 : (Int32 × Sg) ⊕ (Int32 × Sg)), f_X11_isLetter_L4 N k a1 a2 σ = some Q4 → (∀ S, Q4 = .inl S → Zz E X YX11_isLetter (some (.int R.1), R.2) S.2 34 [(1, .int S.1)] []) → (∀ r, Q4 = .inr r → ((some (.int R.1), R.2) : Pv) = (some (.int r.1), r.2)) → Zz E X YX11_isLetter (some (.int R.1), R.2) σ 4 [(1, .int a1), (2, .int a2)] [] := by
    intro k
    induction k with
    | zero =>
      intro a1 a2 σ Q4 hf
      have hf : (none : Option ((Int32 × Sg) ⊕ (Int32 × Sg))) = some Q4 := hf
      cases hf
    | succ k ih =>
      intro a1 a2 σ Q4 hf hx4 hr4
      have hf : f_X11_isLetter_B4 N (f_X11_isLetter_L4 N k) a1 a2 σ = some Q4 := hf
      unfold f_X11_isLetter_B4 at hf
      refine z_iload_n C dX11_isLetter_4 1 rfl ?_
      refine z_iconst (v := 4) C dX11_isLetter_5 (by decide) ?_
      refine z_icmp_ge (tgt := 34) C dX11_isLetter_6 (by decide) (fun h1 => ?_) (fun h1 => ?_)
      · replace hf := ifp hf h1
        refine z_sub [(1, .int a1)] [0] rfl ?_
        exact hx4 _ (Option.some.inj hf).symm
      · replace hf := ifn hf h1
        refine z_iload_n C dX11_isLetter_9 0 rfl ?_
        refine z_if_lt (tgt := 21) C dX11_isLetter_10 (by decide) (fun h2 => ?_) (fun h2 => ?_)
        · replace hf := ifp hf h2
          refine z_iconst (v := 0) C dX11_isLetter_21 (by decide) ?_
          have hq := hr4 _ (Option.some.inj hf).symm
          exact z_zret C dX11_isLetter_22 rfl rfl hq
        · replace hf := ifn hf h2
          refine z_iload_n C dX11_isLetter_13 0 rfl ?_
          refine z_bipush (v := 10) C dX11_isLetter_14 (by decide) ?_
          refine z_irem C dX11_isLetter_16 (by decide) ?_
          refine z_iconst (v := 5) C dX11_isLetter_17 (by decide) ?_
          refine z_icmp_le (tgt := 23) C dX11_isLetter_18 (by decide) (fun h3 => ?_) (fun h3 => ?_)
          · replace hf := ifp hf h3
            refine z_iload_n C dX11_isLetter_23 0 rfl ?_
            refine z_bipush (v := 10) C dX11_isLetter_24 (by decide) ?_
            refine z_idiv C dX11_isLetter_26 (by decide) ?_
            refine z_istore_n (lv' := [(1, .int (a1 / 10)), (2, .int a2)]) C dX11_isLetter_27 (by decide) rfl ?_
            refine z_iinc (v := (a2 + 1)) (lv' := [(2, .int (a2 + 1)), (1, .int (a1 / 10))]) C dX11_isLetter_28 1 rfl rfl (by decide) rfl ?_
            refine z_goto (tgt := 4) C dX11_isLetter_31 (by decide) ?_
            refine z_sub [(1, .int (a1 / 10)), (2, .int (a2 + 1))] [1, 0] rfl ?_
            exact ih (a1 / 10) (a2 + 1) σ _ hf hx4 hr4
          · replace hf := ifn hf h3
            refine z_iconst (v := 0) C dX11_isLetter_21 (by decide) ?_
            have hq := hr4 _ (Option.some.inj hf).symm
            exact z_zret C dX11_isLetter_22 rfl rfl hq
  unfold f_X11_isLetter at hf
  refine z_iload_n C dX11_isLetter_0 0 rfl ?_
  refine z_istore_n (lv' := [(1, .int x1), (0, .int x1)]) C dX11_isLetter_1 (by decide) rfl ?_
  refine z_iconst (v := 0) C dX11_isLetter_2 (by decide) ?_
  refine z_istore_n (lv' := [(2, .int 0), (1, .int x1), (0, .int x1)]) C dX11_isLetter_3 (by decide) rfl ?_
  refine z_sub [(1, .int x1), (2, .int 0)] [1, 0] rfl ?_
  rcases ex1_some hf with ⟨s4, h7, hf⟩ | ⟨r6, h7, hf⟩
  · refine hL4 N x1 0 σ _ h7 (fun S e => ?_) (fun _ e => nomatch e)
    cases e
    refine z_iload_n C dX11_isLetter_34 0 rfl ?_
    refine z_if_ne (tgt := 42) C dX11_isLetter_35 (by decide) (fun h5 => ?_) (fun h5 => ?_)
    · replace hf := ifn hf h5
      refine z_iconst (v := 0) C dX11_isLetter_42 (by decide) ?_
      exact z_zret C dX11_isLetter_43 rfl rfl (by rw [← Option.some.inj hf])
    · replace hf := ifp hf h5
      refine z_iconst (v := 1) C dX11_isLetter_38 (by decide) ?_
      refine z_goto (tgt := 43) C dX11_isLetter_39 (by decide) ?_
      exact z_zret C dX11_isLetter_43 rfl rfl (by rw [← Option.some.inj hf])
  · refine hL4 N x1 0 σ _ h7 (fun _ e => nomatch e) (fun r e => ?_)
    cases e
    exact (by rw [← Option.some.inj hf])
theorem lk_X11_isLetter {Y : Yv} : Lk Y YX11_isLetter 1 := ⟨t_476, t_1, ⟨by decide +kernel, by decide +kernel⟩, by decide +kernel⟩
abbrev YX11_lawNow : Yv := (yX11_lawNow, cX11_lawNow, 1, some (.object "ToWhoNeeds$Law"), 0, 0)
def f_X11_lawNow (N : Nat) (σ : Sg) : Option (Nat × Sg) :=
  if (σ 1 7) < 0 then (ga 0 5 (some ((65 + Int32.toNatClampNeg 0), σ))) else (if 5 ≤ (σ 1 7) then (ga 0 5 (some ((65 + Int32.toNatClampNeg 0), σ))) else (ga (σ 1 7) 5 (some ((65 + Int32.toNatClampNeg (σ 1 7)), σ))))
set_option maxHeartbeats 4000000 in
set_option maxRecDepth 20000 in
theorem m_X11_lawNow (l : Launch) (E : Ev) (N : Nat) (σ : Sg) (R : Nat × Sg) (hf : f_X11_lawNow N σ = some R) : Ct l E YX11_lawNow [.ref (E.2.1 0)] σ (some (.ref (E.2.1 R.1)), R.2) := by
  refine ct_of (by decide +kernel) (Nat.le_of_ble_eq_true rfl) [(0, .ref (E.2.1 0))] rfl (fun X hX C => ?_)
  unfold f_X11_lawNow at hf
  refine z_aload_n C dX11_lawNow_0 0 rfl ?_
  refine z_get (v := .ref (E.2.1 64)) (T := TX11) (N := 8) (ci := 10) C (by decide) wc_main rfl in_X11 4 (by decide) t_237 rfl dX11_lawNow_1 ?_
  refine z_aload_n C dX11_lawNow_4 0 rfl ?_
  refine z_get (v := .ref (E.2.1 1)) (T := TX11) (N := 8) (ci := 10) C (by decide) wc_main rfl in_X11 0 (by decide) t_233 rfl dX11_lawNow_5 ?_
  refine z_getN (v := .int (σ 1 7)) (T := TX9) (N := 11) (ci := 8) C (lt_st st_1) (wc_st st_1) rfl in_X9 7 (by decide) n_102 rfl dX11_lawNow_8 ?_
  refine z_if_lt (tgt := 39) C dX11_lawNow_11 (by decide) (fun h1 => ?_) (fun h1 => ?_)
  · replace hf := ifp hf h1
    refine z_iconst (v := 0) C dX11_lawNow_39 (by decide) ?_
    obtain ⟨h2, hf⟩ := ga_some hf
    refine z_aldq C h2 dX11_lawNow_40 ?_
    exact z_aret C dX11_lawNow_41 rfl (by rw [← Option.some.inj hf])
  · replace hf := ifn hf h1
    refine z_aload_n C dX11_lawNow_14 0 rfl ?_
    refine z_get (v := .ref (E.2.1 1)) (T := TX11) (N := 8) (ci := 10) C (by decide) wc_main rfl in_X11 0 (by decide) t_233 rfl dX11_lawNow_15 ?_
    refine z_getN (v := .int (σ 1 7)) (T := TX9) (N := 11) (ci := 8) C (lt_st st_1) (wc_st st_1) rfl in_X9 7 (by decide) n_102 rfl dX11_lawNow_18 ?_
    refine z_aload_n C dX11_lawNow_21 0 rfl ?_
    refine z_get (v := .ref (E.2.1 64)) (T := TX11) (N := 8) (ci := 10) C (by decide) wc_main rfl in_X11 4 (by decide) t_237 rfl dX11_lawNow_22 ?_
    refine z_alenq (v := 5) C rfl dX11_lawNow_25 ?_
    refine z_icmp_ge (tgt := 39) C dX11_lawNow_26 (by decide) (fun h3 => ?_) (fun h3 => ?_)
    · replace hf := ifp hf h3
      refine z_iconst (v := 0) C dX11_lawNow_39 (by decide) ?_
      obtain ⟨h4, hf⟩ := ga_some hf
      refine z_aldq C h4 dX11_lawNow_40 ?_
      exact z_aret C dX11_lawNow_41 rfl (by rw [← Option.some.inj hf])
    · replace hf := ifn hf h3
      refine z_aload_n C dX11_lawNow_29 0 rfl ?_
      refine z_get (v := .ref (E.2.1 1)) (T := TX11) (N := 8) (ci := 10) C (by decide) wc_main rfl in_X11 0 (by decide) t_233 rfl dX11_lawNow_30 ?_
      refine z_getN (v := .int (σ 1 7)) (T := TX9) (N := 11) (ci := 8) C (lt_st st_1) (wc_st st_1) rfl in_X9 7 (by decide) n_102 rfl dX11_lawNow_33 ?_
      refine z_goto (tgt := 40) C dX11_lawNow_36 (by decide) ?_
      obtain ⟨h5, hf⟩ := ga_some hf
      refine z_aldq C h5 dX11_lawNow_40 ?_
      exact z_aret C dX11_lawNow_41 rfl (by rw [← Option.some.inj hf])
theorem lk_X11_lawNow {Y : Yv} : Lk Y YX11_lawNow 0 := ⟨t_480, t_1, ⟨by decide +kernel, by decide +kernel⟩, by decide +kernel⟩
theorem la_now {N : Nat} {σ : Sg} {r : Nat × Sg} (h : f_X11_lawNow N σ = some r) : isLa r.1 := by
  unfold f_X11_lawNow at h
  split at h
  · obtain ⟨h1, h⟩ := ga_some h
    rw [← Option.some.inj h]
    exact la_of h1
  · split at h
    · obtain ⟨h1, h⟩ := ga_some h
      rw [← Option.some.inj h]
      exact la_of h1
    · obtain ⟨h1, h⟩ := ga_some h
      rw [← Option.some.inj h]
      exact la_of h1

abbrev YX11_score : Yv := (yX11_score, cX11_score, 3, some .int, 1, 27)
def f_X11_score_J21 (N : Nat) (σ : Sg) : Option (Int32 × Sg) :=
  (f_X11_refuse N (-1) σ).bind (fun r4 => some (r4.1, r4.2))
def f_X11_score (N : Nat) (x1 x2 : Int32) (σ : Sg) : Option (Int32 × Sg) :=
  (f_X5_has N 2 x1 σ).bind (fun r1 => if r1.1 = 0 then (f_X11_score_J21 N r1.2) else ((f_X11_isLetter N x2 r1.2).bind (fun r6 => if r6.1 = 0 then (f_X11_score_J21 N r6.2) else ((f_X11_lawNow N r6.2).bind (fun r9 => (f_sc N r9.1 2 x1 x2 r9.2).bind (fun r11 => some (r11.1, r11.2)))))))
set_option maxHeartbeats 4000000 in
set_option maxRecDepth 20000 in
theorem m_X11_score (l : Launch) (E : Ev) (N : Nat) (x1 x2 : Int32) (σ : Sg) (R : Int32 × Sg) (hf : f_X11_score N x1 x2 σ = some R) : Ct l E YX11_score [.ref (E.2.1 0), .int x1, .int x2] σ (some (.int R.1), R.2) := by
  refine ct_of (by decide +kernel) (Nat.le_of_ble_eq_true rfl) [(0, .ref (E.2.1 0)), (1, .int x1), (2, .int x2)] rfl (fun X hX C => ?_)
  have hJ21 : ∀ (σ : Sg), f_X11_score_J21 N σ = some R → Zz E X YX11_score (some (.int R.1), R.2) σ 21 [(0, .ref (E.2.1 0))] [] := by
    intro σ hf
    unfold f_X11_score_J21 at hf
    refine z_aload_n C dX11_score_21 0 rfl ?_
    refine z_iconst (v := (-1)) C dX11_score_22 (by decide) ?_
    obtain ⟨r4, h5, hf⟩ := bd_some hf
    refine z_callV (Y2 := YX11_refuse) (CC := RX11) (T := TX11) (N := 8) (ci := 10) (As := [.int (-1)]) C lk_X11_refuse (by decide) wc_main rfl t_262 t_264 p_0 (Nat.le_of_ble_eq_true rfl) (Nat.le_of_ble_eq_true rfl) dX11_score_23 (Nat.le_of_ble_eq_true rfl) rfl rfl (m_X11_refuse X.2.1 E N (-1) σ _ h5) ?_
    change Zz E X YX11_score (some (.int R.1), R.2) r4.2 _ _ [.int r4.1]
    exact z_iret C dX11_score_26 rfl (by rw [← Option.some.inj hf])
  unfold f_X11_score at hf
  refine z_aload_n C dX11_score_0 0 rfl ?_
  refine z_get (v := .ref (E.2.1 1)) (T := TX11) (N := 8) (ci := 10) C (by decide) wc_main rfl in_X11 0 (by decide) t_233 rfl dX11_score_1 ?_
  refine z_getN (v := .ref (E.2.1 2)) (T := TX9) (N := 11) (ci := 8) C (lt_st st_1) (wc_st st_1) rfl in_X9 0 (by decide) n_78 rfl dX11_score_4 ?_
  refine z_iload_n C dX11_score_7 1 rfl ?_
  obtain ⟨r1, h2, hf⟩ := bd_some hf
  refine z_callV (Y2 := YX5_has) (CC := RX5) (T := TX5) (N := 3) (ci := 4) (As := [.int x1]) C lk_X5_has (lt_pe pe_2) (wc_pe pe_2) rfl t_448 t_424 t_425 (Nat.le_of_ble_eq_true rfl) (Nat.le_of_ble_eq_true rfl) dX11_score_8 (Nat.le_of_ble_eq_true rfl) rfl rfl (m_X5_has X.2.1 E N 2 pe_2 x1 σ _ h2) ?_
  change Zz E X YX11_score (some (.int R.1), R.2) r1.2 _ _ [.int r1.1]
  refine z_if_eq (tgt := 21) C dX11_score_11 (by decide) (fun h3 => ?_) (fun h3 => ?_)
  · replace hf := ifp hf h3
    refine z_sub [(0, .ref (E.2.1 0))] [0] rfl ?_
    exact hJ21 r1.2 hf
  · replace hf := ifn hf h3
    refine z_iload_n C dX11_score_14 2 rfl ?_
    obtain ⟨r6, h7, hf⟩ := bd_some hf
    refine z_callS (Y2 := YX11_isLetter) (As := [.int x2]) C lk_X11_isLetter t_474 t_475 (Nat.le_of_ble_eq_true rfl) (Nat.le_of_ble_eq_true rfl) dX11_score_15 (Nat.le_of_ble_eq_true rfl) rfl rfl (m_X11_isLetter X.2.1 E N x2 r1.2 _ h7) ?_
    change Zz E X YX11_score (some (.int R.1), R.2) r6.2 _ _ [.int r6.1]
    refine z_if_ne (tgt := 27) C dX11_score_18 (by decide) (fun h8 => ?_) (fun h8 => ?_)
    · replace hf := ifn hf h8
      refine z_aload_n C dX11_score_27 0 rfl ?_
      obtain ⟨r9, h10, hf⟩ := bd_some hf
      refine z_callV (Y2 := YX11_lawNow) (CC := RX11) (T := TX11) (N := 8) (ci := 10) (As := []) C lk_X11_lawNow (by decide) wc_main rfl t_477 t_479 p_16 (Nat.le_of_ble_eq_true rfl) (Nat.le_of_ble_eq_true rfl) dX11_score_28 (Nat.le_of_ble_eq_true rfl) rfl rfl (m_X11_lawNow X.2.1 E N r6.2 _ h10) ?_
      change Zz E X YX11_score (some (.int R.1), R.2) r9.2 _ _ [.ref (E.2.1 r9.1)]
      refine z_aload_n C dX11_score_31 0 rfl ?_
      refine z_get (v := .ref (E.2.1 1)) (T := TX11) (N := 8) (ci := 10) C (by decide) wc_main rfl in_X11 0 (by decide) t_233 rfl dX11_score_32 ?_
      refine z_getN (v := .ref (E.2.1 2)) (T := TX9) (N := 11) (ci := 8) C (lt_st st_1) (wc_st st_1) rfl in_X9 0 (by decide) n_78 rfl dX11_score_35 ?_
      refine z_iload_n C dX11_score_38 1 rfl ?_
      refine z_iload_n C dX11_score_39 2 rfl ?_
      obtain ⟨r11, h12, hf⟩ := bd_some hf
      refine z_sc (As := [.ref (E.2.1 2), .int x1, .int x2]) C (la_now h10) t_481 (Nat.le_of_ble_eq_true rfl) (Nat.le_of_ble_eq_true rfl) dX11_score_40 (Nat.le_of_ble_eq_true rfl) rfl rfl (m_sc X.2.1 E N r9.1 2 (la_now h10) pe_2 x1 x2 r9.2 _ h12) ?_
      change Zz E X YX11_score (some (.int R.1), R.2) r11.2 _ _ [.int r11.1]
      exact z_iret C dX11_score_43 rfl (by rw [← Option.some.inj hf])
    · replace hf := ifp hf h8
      refine z_sub [(0, .ref (E.2.1 0))] [0] rfl ?_
      exact hJ21 r6.2 hf
theorem lk_X11_score {Y : Yv} : Lk Y YX11_score 2 := ⟨t_473, t_1, ⟨by decide +kernel, by decide +kernel⟩, by decide +kernel⟩
abbrev YX11_goes : Yv := (yX11_goes, cX11_goes, 2, some .int, 3, 79)
def f_X11_goes (N : Nat) (x1 : Int32) (σ : Sg) : Option (Int32 × Sg) :=
  (f_X11_isLetter N x1 σ).bind (fun r1 => if r1.1 = 0 then ((f_X11_refuse N (-1) r1.2).bind (fun r8 => some (r8.1, r8.2))) else ((f_X11_lawNow N r1.2).bind (fun r4 => (f_X0_receiver N r4.1 2 x1 r4.2).bind (fun r6 => some (r6.1, r6.2)))))
set_option maxHeartbeats 4000000 in
set_option maxRecDepth 20000 in
theorem m_X11_goes (l : Launch) (E : Ev) (N : Nat) (x1 : Int32) (σ : Sg) (R : Int32 × Sg) (hf : f_X11_goes N x1 σ = some R) : Ct l E YX11_goes [.ref (E.2.1 0), .int x1] σ (some (.int R.1), R.2) := by
  refine ct_of (by decide +kernel) (Nat.le_of_ble_eq_true rfl) [(0, .ref (E.2.1 0)), (1, .int x1)] rfl (fun X hX C => ?_)
  unfold f_X11_goes at hf
  refine z_iload_n C dX11_goes_0 1 rfl ?_
  obtain ⟨r1, h2, hf⟩ := bd_some hf
  refine z_callS (Y2 := YX11_isLetter) (As := [.int x1]) C lk_X11_isLetter t_474 t_475 (Nat.le_of_ble_eq_true rfl) (Nat.le_of_ble_eq_true rfl) dX11_goes_1 (Nat.le_of_ble_eq_true rfl) rfl rfl (m_X11_isLetter X.2.1 E N x1 σ _ h2) ?_
  change Zz E X YX11_goes (some (.int R.1), R.2) r1.2 _ _ [.int r1.1]
  refine z_if_ne (tgt := 13) C dX11_goes_4 (by decide) (fun h3 => ?_) (fun h3 => ?_)
  · replace hf := ifn hf h3
    refine z_aload_n C dX11_goes_13 0 rfl ?_
    obtain ⟨r4, h5, hf⟩ := bd_some hf
    refine z_callV (Y2 := YX11_lawNow) (CC := RX11) (T := TX11) (N := 8) (ci := 10) (As := []) C lk_X11_lawNow (by decide) wc_main rfl t_477 t_479 p_16 (Nat.le_of_ble_eq_true rfl) (Nat.le_of_ble_eq_true rfl) dX11_goes_14 (Nat.le_of_ble_eq_true rfl) rfl rfl (m_X11_lawNow X.2.1 E N r1.2 _ h5) ?_
    change Zz E X YX11_goes (some (.int R.1), R.2) r4.2 _ _ [.ref (E.2.1 r4.1)]
    refine z_aload_n C dX11_goes_17 0 rfl ?_
    refine z_get (v := .ref (E.2.1 1)) (T := TX11) (N := 8) (ci := 10) C (by decide) wc_main rfl in_X11 0 (by decide) t_233 rfl dX11_goes_18 ?_
    refine z_getN (v := .ref (E.2.1 2)) (T := TX9) (N := 11) (ci := 8) C (lt_st st_1) (wc_st st_1) rfl in_X9 0 (by decide) n_78 rfl dX11_goes_21 ?_
    refine z_iload_n C dX11_goes_24 1 rfl ?_
    obtain ⟨r6, h7, hf⟩ := bd_some hf
    refine z_law_X0_receiver (As := [.ref (E.2.1 2), .int x1]) C (la_now h5) t_499 (Nat.le_of_ble_eq_true rfl) (Nat.le_of_ble_eq_true rfl) dX11_goes_25 (Nat.le_of_ble_eq_true rfl) rfl rfl (m_X0_receiver X.2.1 E N r4.1 2 (la_now h5) pe_2 x1 r4.2 _ h7) ?_
    change Zz E X YX11_goes (some (.int R.1), R.2) r6.2 _ _ [.int r6.1]
    exact z_iret C dX11_goes_28 rfl (by rw [← Option.some.inj hf])
  · replace hf := ifp hf h3
    refine z_aload_n C dX11_goes_7 0 rfl ?_
    refine z_iconst (v := (-1)) C dX11_goes_8 (by decide) ?_
    obtain ⟨r8, h9, hf⟩ := bd_some hf
    refine z_callV (Y2 := YX11_refuse) (CC := RX11) (T := TX11) (N := 8) (ci := 10) (As := [.int (-1)]) C lk_X11_refuse (by decide) wc_main rfl t_262 t_264 p_0 (Nat.le_of_ble_eq_true rfl) (Nat.le_of_ble_eq_true rfl) dX11_goes_9 (Nat.le_of_ble_eq_true rfl) rfl rfl (m_X11_refuse X.2.1 E N (-1) r1.2 _ h9) ?_
    change Zz E X YX11_goes (some (.int R.1), R.2) r8.2 _ _ [.int r8.1]
    exact z_iret C dX11_goes_12 rfl (by rw [← Option.some.inj hf])
theorem lk_X11_goes {Y : Yv} : Lk Y YX11_goes 1 := ⟨t_498, t_1, ⟨by decide +kernel, by decide +kernel⟩, by decide +kernel⟩
abbrev YX11_post : Yv := (yX11_post, cX11_post, 2, some .int, 4, 102)
def f_X11_post (N : Nat) (x1 : Int32) (σ : Sg) : Option (Int32 × Sg) :=
  (f_X11_isLetter N x1 σ).bind (fun r1 => if r1.1 = 0 then ((f_X11_refuse N (-1) r1.2).bind (fun r10 => some (r10.1, r10.2))) else (nm (sgs r1.2 1 10 ((r1.2 1 10) + 1)) (fun σ4 => (f_X11_lawNow N σ4).bind (fun r6 => (f_X0_deliver N r6.1 2 x1 r6.2).bind (fun r8 => some (r8.1, r8.2))))))
set_option maxHeartbeats 4000000 in
set_option maxRecDepth 20000 in
theorem m_X11_post (l : Launch) (E : Ev) (N : Nat) (x1 : Int32) (σ : Sg) (R : Int32 × Sg) (hf : f_X11_post N x1 σ = some R) : Ct l E YX11_post [.ref (E.2.1 0), .int x1] σ (some (.int R.1), R.2) := by
  refine ct_of (by decide +kernel) (Nat.le_of_ble_eq_true rfl) [(0, .ref (E.2.1 0)), (1, .int x1)] rfl (fun X hX C => ?_)
  unfold f_X11_post at hf
  refine z_iload_n C dX11_post_0 1 rfl ?_
  obtain ⟨r1, h2, hf⟩ := bd_some hf
  refine z_callS (Y2 := YX11_isLetter) (As := [.int x1]) C lk_X11_isLetter t_474 t_475 (Nat.le_of_ble_eq_true rfl) (Nat.le_of_ble_eq_true rfl) dX11_post_1 (Nat.le_of_ble_eq_true rfl) rfl rfl (m_X11_isLetter X.2.1 E N x1 σ _ h2) ?_
  change Zz E X YX11_post (some (.int R.1), R.2) r1.2 _ _ [.int r1.1]
  refine z_if_ne (tgt := 13) C dX11_post_4 (by decide) (fun h3 => ?_) (fun h3 => ?_)
  · replace hf := ifn hf h3
    refine z_aload_n C dX11_post_13 0 rfl ?_
    refine z_get (v := .ref (E.2.1 1)) (T := TX11) (N := 8) (ci := 10) C (by decide) wc_main rfl in_X11 0 (by decide) t_233 rfl dX11_post_14 ?_
    refine z_dup C dX11_post_17 rfl ?_
    refine z_getN (v := .int (r1.2 1 10)) (T := TX9) (N := 11) (ci := 8) C (lt_st st_1) (wc_st st_1) rfl in_X9 10 (by decide) n_109 rfl dX11_post_18 ?_
    refine z_iconst (v := 1) C dX11_post_21 (by decide) ?_
    refine z_iadd C dX11_post_22 ?_
    obtain ⟨σ4, h5, hf⟩ := nm_some hf
    refine z_putN (T := TX9) (N := 11) (ci := 8) (ty := .int) C tyX9 tyX9_ok nmX9 (lt_st st_1) (wc_st st_1) rfl in_X9 10 (by decide) n_109 rfl rfl rfl rfl (Nat.le_of_ble_eq_true rfl) (pw_X9_10 st_1) dX11_post_23 ?_
    rw [← h5]
    refine z_aload_n C dX11_post_26 0 rfl ?_
    obtain ⟨r6, h7, hf⟩ := bd_some hf
    refine z_callV (Y2 := YX11_lawNow) (CC := RX11) (T := TX11) (N := 8) (ci := 10) (As := []) C lk_X11_lawNow (by decide) wc_main rfl t_477 t_479 p_16 (Nat.le_of_ble_eq_true rfl) (Nat.le_of_ble_eq_true rfl) dX11_post_27 (Nat.le_of_ble_eq_true rfl) rfl rfl (m_X11_lawNow X.2.1 E N σ4 _ h7) ?_
    change Zz E X YX11_post (some (.int R.1), R.2) r6.2 _ _ [.ref (E.2.1 r6.1)]
    refine z_aload_n C dX11_post_30 0 rfl ?_
    refine z_get (v := .ref (E.2.1 1)) (T := TX11) (N := 8) (ci := 10) C (by decide) wc_main rfl in_X11 0 (by decide) t_233 rfl dX11_post_31 ?_
    refine z_getN (v := .ref (E.2.1 2)) (T := TX9) (N := 11) (ci := 8) C (lt_st st_1) (wc_st st_1) rfl in_X9 0 (by decide) n_78 rfl dX11_post_34 ?_
    refine z_iload_n C dX11_post_37 1 rfl ?_
    obtain ⟨r8, h9, hf⟩ := bd_some hf
    refine z_law_X0_deliver (As := [.ref (E.2.1 2), .int x1]) C (la_now h7) t_522 (Nat.le_of_ble_eq_true rfl) (Nat.le_of_ble_eq_true rfl) dX11_post_38 (Nat.le_of_ble_eq_true rfl) rfl rfl (m_X0_deliver X.2.1 E N r6.1 2 (la_now h7) pe_2 x1 r6.2 _ h9) ?_
    change Zz E X YX11_post (some (.int R.1), R.2) r8.2 _ _ [.int r8.1]
    exact z_iret C dX11_post_41 rfl (by rw [← Option.some.inj hf])
  · replace hf := ifp hf h3
    refine z_aload_n C dX11_post_7 0 rfl ?_
    refine z_iconst (v := (-1)) C dX11_post_8 (by decide) ?_
    obtain ⟨r10, h11, hf⟩ := bd_some hf
    refine z_callV (Y2 := YX11_refuse) (CC := RX11) (T := TX11) (N := 8) (ci := 10) (As := [.int (-1)]) C lk_X11_refuse (by decide) wc_main rfl t_262 t_264 p_0 (Nat.le_of_ble_eq_true rfl) (Nat.le_of_ble_eq_true rfl) dX11_post_9 (Nat.le_of_ble_eq_true rfl) rfl rfl (m_X11_refuse X.2.1 E N (-1) r1.2 _ h11) ?_
    change Zz E X YX11_post (some (.int R.1), R.2) r10.2 _ _ [.int r10.1]
    exact z_iret C dX11_post_12 rfl (by rw [← Option.some.inj hf])
theorem lk_X11_post {Y : Yv} : Lk Y YX11_post 1 := ⟨t_521, t_1, ⟨by decide +kernel, by decide +kernel⟩, by decide +kernel⟩
abbrev YX11_day : Yv := (yX11_day, cX11_day, 1, some .int, 3, 62)
def f_X11_day (N : Nat) (σ : Sg) : Option (Int32 × Sg) :=
  (f_X5_grow N 2 σ).bind (fun r1 => nm (sgs r1 1 9 ((r1 1 9) + 1)) (fun σ3 => (f_X5_total N 2 σ3).bind (fun r5 => some (r5.1, r5.2))))
set_option maxHeartbeats 4000000 in
set_option maxRecDepth 20000 in
theorem m_X11_day (l : Launch) (E : Ev) (N : Nat) (σ : Sg) (R : Int32 × Sg) (hf : f_X11_day N σ = some R) : Ct l E YX11_day [.ref (E.2.1 0)] σ (some (.int R.1), R.2) := by
  refine ct_of (by decide +kernel) (Nat.le_of_ble_eq_true rfl) [(0, .ref (E.2.1 0))] rfl (fun X hX C => ?_)
  unfold f_X11_day at hf
  refine z_aload_n C dX11_day_0 0 rfl ?_
  refine z_get (v := .ref (E.2.1 1)) (T := TX11) (N := 8) (ci := 10) C (by decide) wc_main rfl in_X11 0 (by decide) t_233 rfl dX11_day_1 ?_
  refine z_getN (v := .ref (E.2.1 2)) (T := TX9) (N := 11) (ci := 8) C (lt_st st_1) (wc_st st_1) rfl in_X9 0 (by decide) n_78 rfl dX11_day_4 ?_
  obtain ⟨r1, h2, hf⟩ := bd_some hf
  refine z_callV (Y2 := YX5_grow) (CC := RX5) (T := TX5) (N := 3) (ci := 4) (As := []) C lk_X5_grow (lt_pe pe_2) (wc_pe pe_2) rfl t_558 t_559 t_560 (Nat.le_of_ble_eq_true rfl) (Nat.le_of_ble_eq_true rfl) dX11_day_7 (Nat.le_of_ble_eq_true rfl) rfl rfl (m_X5_grow X.2.1 E N 2 pe_2 σ _ h2) ?_
  change Zz E X YX11_day (some (.int R.1), R.2) r1 _ _ []
  refine z_aload_n C dX11_day_10 0 rfl ?_
  refine z_get (v := .ref (E.2.1 1)) (T := TX11) (N := 8) (ci := 10) C (by decide) wc_main rfl in_X11 0 (by decide) t_233 rfl dX11_day_11 ?_
  refine z_dup C dX11_day_14 rfl ?_
  refine z_getN (v := .int (r1 1 9)) (T := TX9) (N := 11) (ci := 8) C (lt_st st_1) (wc_st st_1) rfl in_X9 9 (by decide) n_106 rfl dX11_day_15 ?_
  refine z_iconst (v := 1) C dX11_day_18 (by decide) ?_
  refine z_iadd C dX11_day_19 ?_
  obtain ⟨σ3, h4, hf⟩ := nm_some hf
  refine z_putN (T := TX9) (N := 11) (ci := 8) (ty := .int) C tyX9 tyX9_ok nmX9 (lt_st st_1) (wc_st st_1) rfl in_X9 9 (by decide) n_106 rfl rfl rfl rfl (Nat.le_of_ble_eq_true rfl) (pw_X9_9 st_1) dX11_day_20 ?_
  rw [← h4]
  refine z_aload_n C dX11_day_23 0 rfl ?_
  refine z_get (v := .ref (E.2.1 1)) (T := TX11) (N := 8) (ci := 10) C (by decide) wc_main rfl in_X11 0 (by decide) t_233 rfl dX11_day_24 ?_
  refine z_getN (v := .ref (E.2.1 2)) (T := TX9) (N := 11) (ci := 8) C (lt_st st_1) (wc_st st_1) rfl in_X9 0 (by decide) n_78 rfl dX11_day_27 ?_
  obtain ⟨r5, h6, hf⟩ := bd_some hf
  refine z_callV (Y2 := YX5_total) (CC := RX5) (T := TX5) (N := 3) (ci := 4) (As := []) C lk_X5_total (lt_pe pe_2) (wc_pe pe_2) rfl t_562 t_563 t_564 (Nat.le_of_ble_eq_true rfl) (Nat.le_of_ble_eq_true rfl) dX11_day_30 (Nat.le_of_ble_eq_true rfl) rfl rfl (m_X5_total X.2.1 E N 2 pe_2 σ3 _ h6) ?_
  change Zz E X YX11_day (some (.int R.1), R.2) r5.2 _ _ [.int r5.1]
  exact z_iret C dX11_day_33 rfl (by rw [← Option.some.inj hf])
theorem lk_X11_day {Y : Yv} : Lk Y YX11_day 0 := ⟨t_557, t_1, ⟨by decide +kernel, by decide +kernel⟩, by decide +kernel⟩
abbrev YX11_allNeed : Yv := (yX11_allNeed, cX11_allNeed, 1, some .int, 1, 22)
def f_X11_allNeed (N : Nat) (σ : Sg) : Option (Int32 × Sg) :=
  (f_X5_total N 2 σ).bind (fun r1 => some (r1.1, r1.2))
set_option maxHeartbeats 4000000 in
set_option maxRecDepth 20000 in
theorem m_X11_allNeed (l : Launch) (E : Ev) (N : Nat) (σ : Sg) (R : Int32 × Sg) (hf : f_X11_allNeed N σ = some R) : Ct l E YX11_allNeed [.ref (E.2.1 0)] σ (some (.int R.1), R.2) := by
  refine ct_of (by decide +kernel) (Nat.le_of_ble_eq_true rfl) [(0, .ref (E.2.1 0))] rfl (fun X hX C => ?_)
  unfold f_X11_allNeed at hf
  refine z_aload_n C dX11_allNeed_0 0 rfl ?_
  refine z_get (v := .ref (E.2.1 1)) (T := TX11) (N := 8) (ci := 10) C (by decide) wc_main rfl in_X11 0 (by decide) t_233 rfl dX11_allNeed_1 ?_
  refine z_getN (v := .ref (E.2.1 2)) (T := TX9) (N := 11) (ci := 8) C (lt_st st_1) (wc_st st_1) rfl in_X9 0 (by decide) n_78 rfl dX11_allNeed_4 ?_
  obtain ⟨r1, h2, hf⟩ := bd_some hf
  refine z_callV (Y2 := YX5_total) (CC := RX5) (T := TX5) (N := 3) (ci := 4) (As := []) C lk_X5_total (lt_pe pe_2) (wc_pe pe_2) rfl t_562 t_563 t_564 (Nat.le_of_ble_eq_true rfl) (Nat.le_of_ble_eq_true rfl) dX11_allNeed_7 (Nat.le_of_ble_eq_true rfl) rfl rfl (m_X5_total X.2.1 E N 2 pe_2 σ _ h2) ?_
  change Zz E X YX11_allNeed (some (.int R.1), R.2) r1.2 _ _ [.int r1.1]
  exact z_iret C dX11_allNeed_10 rfl (by rw [← Option.some.inj hf])
theorem lk_X11_allNeed {Y : Yv} : Lk Y YX11_allNeed 0 := ⟨t_569, t_1, ⟨by decide +kernel, by decide +kernel⟩, by decide +kernel⟩
abbrev YX11_can : Yv := (yX11_can, cX11_can, 2, some .int, 4, 107)
def f_X11_can (N : Nat) (x1 : Int32) (σ : Sg) : Option (Int32 × Sg) :=
  (f_X5_has N 2 x1 σ).bind (fun r1 => if r1.1 = 0 then ((f_X11_refuse N (-1) r1.2).bind (fun r8 => some (r8.1, r8.2))) else ((f_X11_lawNow N r1.2).bind (fun r4 => (f_X2_cheapestTo N 2 r4.1 x1 (-9) r4.2).bind (fun r6 => some (r6.1, r6.2)))))
set_option maxHeartbeats 4000000 in
set_option maxRecDepth 20000 in
theorem m_X11_can (l : Launch) (E : Ev) (N : Nat) (x1 : Int32) (σ : Sg) (R : Int32 × Sg) (hf : f_X11_can N x1 σ = some R) : Ct l E YX11_can [.ref (E.2.1 0), .int x1] σ (some (.int R.1), R.2) := by
  refine ct_of (by decide +kernel) (Nat.le_of_ble_eq_true rfl) [(0, .ref (E.2.1 0)), (1, .int x1)] rfl (fun X hX C => ?_)
  unfold f_X11_can at hf
  refine z_aload_n C dX11_can_0 0 rfl ?_
  refine z_get (v := .ref (E.2.1 1)) (T := TX11) (N := 8) (ci := 10) C (by decide) wc_main rfl in_X11 0 (by decide) t_233 rfl dX11_can_1 ?_
  refine z_getN (v := .ref (E.2.1 2)) (T := TX9) (N := 11) (ci := 8) C (lt_st st_1) (wc_st st_1) rfl in_X9 0 (by decide) n_78 rfl dX11_can_4 ?_
  refine z_iload_n C dX11_can_7 1 rfl ?_
  obtain ⟨r1, h2, hf⟩ := bd_some hf
  refine z_callV (Y2 := YX5_has) (CC := RX5) (T := TX5) (N := 3) (ci := 4) (As := [.int x1]) C lk_X5_has (lt_pe pe_2) (wc_pe pe_2) rfl t_448 t_424 t_425 (Nat.le_of_ble_eq_true rfl) (Nat.le_of_ble_eq_true rfl) dX11_can_8 (Nat.le_of_ble_eq_true rfl) rfl rfl (m_X5_has X.2.1 E N 2 pe_2 x1 σ _ h2) ?_
  change Zz E X YX11_can (some (.int R.1), R.2) r1.2 _ _ [.int r1.1]
  refine z_if_ne (tgt := 20) C dX11_can_11 (by decide) (fun h3 => ?_) (fun h3 => ?_)
  · replace hf := ifn hf h3
    refine z_aload_n C dX11_can_20 0 rfl ?_
    refine z_get (v := .ref (E.2.1 53)) (T := TX11) (N := 8) (ci := 10) C (by decide) wc_main rfl in_X11 3 (by decide) t_236 rfl dX11_can_21 ?_
    refine z_aload_n C dX11_can_24 0 rfl ?_
    refine z_get (v := .ref (E.2.1 1)) (T := TX11) (N := 8) (ci := 10) C (by decide) wc_main rfl in_X11 0 (by decide) t_233 rfl dX11_can_25 ?_
    refine z_getN (v := .ref (E.2.1 2)) (T := TX9) (N := 11) (ci := 8) C (lt_st st_1) (wc_st st_1) rfl in_X9 0 (by decide) n_78 rfl dX11_can_28 ?_
    refine z_aload_n C dX11_can_31 0 rfl ?_
    obtain ⟨r4, h5, hf⟩ := bd_some hf
    refine z_callV (Y2 := YX11_lawNow) (CC := RX11) (T := TX11) (N := 8) (ci := 10) (As := []) C lk_X11_lawNow (by decide) wc_main rfl t_477 t_479 p_16 (Nat.le_of_ble_eq_true rfl) (Nat.le_of_ble_eq_true rfl) dX11_can_32 (Nat.le_of_ble_eq_true rfl) rfl rfl (m_X11_lawNow X.2.1 E N r1.2 _ h5) ?_
    change Zz E X YX11_can (some (.int R.1), R.2) r4.2 _ _ [.ref (E.2.1 r4.1), .ref (E.2.1 2), .ref (E.2.1 53)]
    refine z_iload_n C dX11_can_35 1 rfl ?_
    refine z_bipush (v := (-9)) C dX11_can_36 (by decide) ?_
    obtain ⟨r6, h7, hf⟩ := bd_some hf
    refine z_callV (Y2 := YX2_cheapestTo) (CC := RX2) (T := TX2) (N := 5) (ci := 1) (As := [.ref (E.2.1 2), .ref (E.2.1 r4.1), .int x1, .int (-9)]) C lk_X2_cheapestTo (by decide) wc_mi rfl t_574 t_575 t_576 (Nat.le_of_ble_eq_true rfl) (Nat.le_of_ble_eq_true rfl) dX11_can_38 (Nat.le_of_ble_eq_true rfl) rfl rfl (m_X2_cheapestTo X.2.1 E N 2 r4.1 pe_2 (la_now h5) x1 (-9) r4.2 _ h7) ?_
    change Zz E X YX11_can (some (.int R.1), R.2) r6.2 _ _ [.int r6.1]
    exact z_iret C dX11_can_41 rfl (by rw [← Option.some.inj hf])
  · replace hf := ifp hf h3
    refine z_aload_n C dX11_can_14 0 rfl ?_
    refine z_iconst (v := (-1)) C dX11_can_15 (by decide) ?_
    obtain ⟨r8, h9, hf⟩ := bd_some hf
    refine z_callV (Y2 := YX11_refuse) (CC := RX11) (T := TX11) (N := 8) (ci := 10) (As := [.int (-1)]) C lk_X11_refuse (by decide) wc_main rfl t_262 t_264 p_0 (Nat.le_of_ble_eq_true rfl) (Nat.le_of_ble_eq_true rfl) dX11_can_16 (Nat.le_of_ble_eq_true rfl) rfl rfl (m_X11_refuse X.2.1 E N (-1) r1.2 _ h9) ?_
    change Zz E X YX11_can (some (.int R.1), R.2) r8.2 _ _ [.int r8.1]
    exact z_iret C dX11_can_19 rfl (by rw [← Option.some.inj hf])
theorem lk_X11_can {Y : Yv} : Lk Y YX11_can 1 := ⟨t_573, t_1, ⟨by decide +kernel, by decide +kernel⟩, by decide +kernel⟩
abbrev YX11_who : Yv := (yX11_who, cX11_who, 1, some .int, 5, 127)
def f_X11_who (N : Nat) (σ : Sg) : Option (Int32 × Sg) :=
  (f_X11_lawNow N σ).bind (fun r1 => (f_X2_reached N 2 r1.1 r1.2).bind (fun r3 => some (r3.1, r3.2)))
set_option maxHeartbeats 4000000 in
set_option maxRecDepth 20000 in
theorem m_X11_who (l : Launch) (E : Ev) (N : Nat) (σ : Sg) (R : Int32 × Sg) (hf : f_X11_who N σ = some R) : Ct l E YX11_who [.ref (E.2.1 0)] σ (some (.int R.1), R.2) := by
  refine ct_of (by decide +kernel) (Nat.le_of_ble_eq_true rfl) [(0, .ref (E.2.1 0))] rfl (fun X hX C => ?_)
  unfold f_X11_who at hf
  refine z_aload_n C dX11_who_0 0 rfl ?_
  refine z_get (v := .ref (E.2.1 53)) (T := TX11) (N := 8) (ci := 10) C (by decide) wc_main rfl in_X11 3 (by decide) t_236 rfl dX11_who_1 ?_
  refine z_aload_n C dX11_who_4 0 rfl ?_
  refine z_get (v := .ref (E.2.1 1)) (T := TX11) (N := 8) (ci := 10) C (by decide) wc_main rfl in_X11 0 (by decide) t_233 rfl dX11_who_5 ?_
  refine z_getN (v := .ref (E.2.1 2)) (T := TX9) (N := 11) (ci := 8) C (lt_st st_1) (wc_st st_1) rfl in_X9 0 (by decide) n_78 rfl dX11_who_8 ?_
  refine z_aload_n C dX11_who_11 0 rfl ?_
  obtain ⟨r1, h2, hf⟩ := bd_some hf
  refine z_callV (Y2 := YX11_lawNow) (CC := RX11) (T := TX11) (N := 8) (ci := 10) (As := []) C lk_X11_lawNow (by decide) wc_main rfl t_477 t_479 p_16 (Nat.le_of_ble_eq_true rfl) (Nat.le_of_ble_eq_true rfl) dX11_who_12 (Nat.le_of_ble_eq_true rfl) rfl rfl (m_X11_lawNow X.2.1 E N σ _ h2) ?_
  change Zz E X YX11_who (some (.int R.1), R.2) r1.2 _ _ [.ref (E.2.1 r1.1), .ref (E.2.1 2), .ref (E.2.1 53)]
  obtain ⟨r3, h4, hf⟩ := bd_some hf
  refine z_callV (Y2 := YX2_reached) (CC := RX2) (T := TX2) (N := 5) (ci := 1) (As := [.ref (E.2.1 2), .ref (E.2.1 r1.1)]) C lk_X2_reached (by decide) wc_mi rfl t_596 t_597 t_598 (Nat.le_of_ble_eq_true rfl) (Nat.le_of_ble_eq_true rfl) dX11_who_15 (Nat.le_of_ble_eq_true rfl) rfl rfl (m_X2_reached X.2.1 E N 2 r1.1 pe_2 (la_now h2) r1.2 _ h4) ?_
  change Zz E X YX11_who (some (.int R.1), R.2) r3.2 _ _ [.int r3.1]
  exact z_iret C dX11_who_18 rfl (by rw [← Option.some.inj hf])
theorem lk_X11_who {Y : Yv} : Lk Y YX11_who 0 := ⟨t_595, t_1, ⟨by decide +kernel, by decide +kernel⟩, by decide +kernel⟩
abbrev YX11_never : Yv := (yX11_never, cX11_never, 3, some .int, 5, 127)
def f_X11_never (N : Nat) (x1 : Int32) (σ : Sg) : Option (Int32 × Sg) :=
  (f_X5_has N 2 x1 σ).bind (fun r1 => if r1.1 = 0 then ((f_X11_refuse N (-1) r1.2).bind (fun r13 => some (r13.1, r13.2))) else ((f_X11_lawNow N r1.2).bind (fun r4 => (f_X2_isReached N 2 r4.1 x1 r4.2).bind (fun r6 => if r6.1 = 0 then ((f_X11_lawNow N r6.2).bind (fun r9 => (f_X2_reached N 2 r9.1 r9.2).bind (fun r11 => some (r11.1, r11.2)))) else (some (0, r6.2))))))
set_option maxHeartbeats 4000000 in
set_option maxRecDepth 20000 in
theorem m_X11_never (l : Launch) (E : Ev) (N : Nat) (x1 : Int32) (σ : Sg) (R : Int32 × Sg) (hf : f_X11_never N x1 σ = some R) : Ct l E YX11_never [.ref (E.2.1 0), .int x1] σ (some (.int R.1), R.2) := by
  refine ct_of (by decide +kernel) (Nat.le_of_ble_eq_true rfl) [(0, .ref (E.2.1 0)), (1, .int x1)] rfl (fun X hX C => ?_)
  unfold f_X11_never at hf
  refine z_aload_n C dX11_never_0 0 rfl ?_
  refine z_get (v := .ref (E.2.1 1)) (T := TX11) (N := 8) (ci := 10) C (by decide) wc_main rfl in_X11 0 (by decide) t_233 rfl dX11_never_1 ?_
  refine z_getN (v := .ref (E.2.1 2)) (T := TX9) (N := 11) (ci := 8) C (lt_st st_1) (wc_st st_1) rfl in_X9 0 (by decide) n_78 rfl dX11_never_4 ?_
  refine z_iload_n C dX11_never_7 1 rfl ?_
  obtain ⟨r1, h2, hf⟩ := bd_some hf
  refine z_callV (Y2 := YX5_has) (CC := RX5) (T := TX5) (N := 3) (ci := 4) (As := [.int x1]) C lk_X5_has (lt_pe pe_2) (wc_pe pe_2) rfl t_448 t_424 t_425 (Nat.le_of_ble_eq_true rfl) (Nat.le_of_ble_eq_true rfl) dX11_never_8 (Nat.le_of_ble_eq_true rfl) rfl rfl (m_X5_has X.2.1 E N 2 pe_2 x1 σ _ h2) ?_
  change Zz E X YX11_never (some (.int R.1), R.2) r1.2 _ _ [.int r1.1]
  refine z_if_ne (tgt := 20) C dX11_never_11 (by decide) (fun h3 => ?_) (fun h3 => ?_)
  · replace hf := ifn hf h3
    refine z_aload_n C dX11_never_20 0 rfl ?_
    refine z_get (v := .ref (E.2.1 53)) (T := TX11) (N := 8) (ci := 10) C (by decide) wc_main rfl in_X11 3 (by decide) t_236 rfl dX11_never_21 ?_
    refine z_aload_n C dX11_never_24 0 rfl ?_
    refine z_get (v := .ref (E.2.1 1)) (T := TX11) (N := 8) (ci := 10) C (by decide) wc_main rfl in_X11 0 (by decide) t_233 rfl dX11_never_25 ?_
    refine z_getN (v := .ref (E.2.1 2)) (T := TX9) (N := 11) (ci := 8) C (lt_st st_1) (wc_st st_1) rfl in_X9 0 (by decide) n_78 rfl dX11_never_28 ?_
    refine z_aload_n C dX11_never_31 0 rfl ?_
    obtain ⟨r4, h5, hf⟩ := bd_some hf
    refine z_callV (Y2 := YX11_lawNow) (CC := RX11) (T := TX11) (N := 8) (ci := 10) (As := []) C lk_X11_lawNow (by decide) wc_main rfl t_477 t_479 p_16 (Nat.le_of_ble_eq_true rfl) (Nat.le_of_ble_eq_true rfl) dX11_never_32 (Nat.le_of_ble_eq_true rfl) rfl rfl (m_X11_lawNow X.2.1 E N r1.2 _ h5) ?_
    change Zz E X YX11_never (some (.int R.1), R.2) r4.2 _ _ [.ref (E.2.1 r4.1), .ref (E.2.1 2), .ref (E.2.1 53)]
    refine z_iload_n C dX11_never_35 1 rfl ?_
    obtain ⟨r6, h7, hf⟩ := bd_some hf
    refine z_callV (Y2 := YX2_isReached) (CC := RX2) (T := TX2) (N := 5) (ci := 1) (As := [.ref (E.2.1 2), .ref (E.2.1 r4.1), .int x1]) C lk_X2_isReached (by decide) wc_mi rfl t_608 t_601 t_602 (Nat.le_of_ble_eq_true rfl) (Nat.le_of_ble_eq_true rfl) dX11_never_36 (Nat.le_of_ble_eq_true rfl) rfl rfl (m_X2_isReached X.2.1 E N 2 r4.1 pe_2 (la_now h5) x1 r4.2 _ h7) ?_
    change Zz E X YX11_never (some (.int R.1), R.2) r6.2 _ _ [.int r6.1]
    refine z_istore_n (lv' := [(2, .int r6.1), (0, .ref (E.2.1 0)), (1, .int x1)]) C dX11_never_39 (by decide) rfl ?_
    refine z_iload_n C dX11_never_40 0 rfl ?_
    refine z_if_eq (tgt := 48) C dX11_never_41 (by decide) (fun h8 => ?_) (fun h8 => ?_)
    · replace hf := ifp hf h8
      refine z_aload_n C dX11_never_48 1 rfl ?_
      refine z_get (v := .ref (E.2.1 53)) (T := TX11) (N := 8) (ci := 10) C (by decide) wc_main rfl in_X11 3 (by decide) t_236 rfl dX11_never_49 ?_
      refine z_aload_n C dX11_never_52 1 rfl ?_
      refine z_get (v := .ref (E.2.1 1)) (T := TX11) (N := 8) (ci := 10) C (by decide) wc_main rfl in_X11 0 (by decide) t_233 rfl dX11_never_53 ?_
      refine z_getN (v := .ref (E.2.1 2)) (T := TX9) (N := 11) (ci := 8) C (lt_st st_1) (wc_st st_1) rfl in_X9 0 (by decide) n_78 rfl dX11_never_56 ?_
      refine z_aload_n C dX11_never_59 1 rfl ?_
      obtain ⟨r9, h10, hf⟩ := bd_some hf
      refine z_callV (Y2 := YX11_lawNow) (CC := RX11) (T := TX11) (N := 8) (ci := 10) (As := []) C lk_X11_lawNow (by decide) wc_main rfl t_477 t_479 p_16 (Nat.le_of_ble_eq_true rfl) (Nat.le_of_ble_eq_true rfl) dX11_never_60 (Nat.le_of_ble_eq_true rfl) rfl rfl (m_X11_lawNow X.2.1 E N r6.2 _ h10) ?_
      change Zz E X YX11_never (some (.int R.1), R.2) r9.2 _ _ [.ref (E.2.1 r9.1), .ref (E.2.1 2), .ref (E.2.1 53)]
      obtain ⟨r11, h12, hf⟩ := bd_some hf
      refine z_callV (Y2 := YX2_reached) (CC := RX2) (T := TX2) (N := 5) (ci := 1) (As := [.ref (E.2.1 2), .ref (E.2.1 r9.1)]) C lk_X2_reached (by decide) wc_mi rfl t_596 t_597 t_598 (Nat.le_of_ble_eq_true rfl) (Nat.le_of_ble_eq_true rfl) dX11_never_63 (Nat.le_of_ble_eq_true rfl) rfl rfl (m_X2_reached X.2.1 E N 2 r9.1 pe_2 (la_now h10) r9.2 _ h12) ?_
      change Zz E X YX11_never (some (.int R.1), R.2) r11.2 _ _ [.int r11.1]
      exact z_iret C dX11_never_66 rfl (by rw [← Option.some.inj hf])
    · replace hf := ifn hf h8
      refine z_iconst (v := 0) C dX11_never_44 (by decide) ?_
      refine z_goto (tgt := 66) C dX11_never_45 (by decide) ?_
      exact z_iret C dX11_never_66 rfl (by rw [← Option.some.inj hf])
  · replace hf := ifp hf h3
    refine z_aload_n C dX11_never_14 0 rfl ?_
    refine z_iconst (v := (-1)) C dX11_never_15 (by decide) ?_
    obtain ⟨r13, h14, hf⟩ := bd_some hf
    refine z_callV (Y2 := YX11_refuse) (CC := RX11) (T := TX11) (N := 8) (ci := 10) (As := [.int (-1)]) C lk_X11_refuse (by decide) wc_main rfl t_262 t_264 p_0 (Nat.le_of_ble_eq_true rfl) (Nat.le_of_ble_eq_true rfl) dX11_never_16 (Nat.le_of_ble_eq_true rfl) rfl rfl (m_X11_refuse X.2.1 E N (-1) r1.2 _ h14) ?_
    change Zz E X YX11_never (some (.int R.1), R.2) r13.2 _ _ [.int r13.1]
    exact z_iret C dX11_never_19 rfl (by rw [← Option.some.inj hf])
theorem lk_X11_never {Y : Yv} : Lk Y YX11_never 1 := ⟨t_607, t_1, ⟨by decide +kernel, by decide +kernel⟩, by decide +kernel⟩
abbrev YX11_before : Yv := (yX11_before, cX11_before, 4, some .int, 6, 156)
def f_X11_before_J36 (N : Nat) (a1 a2 : Int32) (σ : Sg) : Option (Int32 × Sg) :=
  (f_X11_lawNow N σ).bind (fun r5 => (f_X2_isReached N 2 r5.1 a1 r5.2).bind (fun r7 => if r7.1 = 0 then ((f_X11_lawNow N r7.2).bind (fun r10 => (f_X2_costOfOneBefore N 2 r10.1 a1 r10.2).bind (fun r12 => if 100 ≤ r12.1 then ((f_X11_lawNow N r12.2).bind (fun r15 => (f_X2_costOfTwoBefore N 2 r15.1 a1 r15.2).bind (fun r17 => if 100 ≤ r17.1 then (some ((-9), r17.2)) else (if a2 = 0 then (some (2, r17.2)) else (some (r17.1, r17.2)))))) else (if a2 = 0 then (some (1, r12.2)) else (some (r12.1, r12.2)))))) else (some (0, r7.2))))
def f_X11_before (N : Nat) (x1 x2 : Int32) (σ : Sg) : Option (Int32 × Sg) :=
  (f_X5_has N 2 x1 σ).bind (fun r1 => if r1.1 = 0 then ((f_X11_refuse N (-1) r1.2).bind (fun r25 => some (r25.1, r25.2))) else (if x2 = 0 then (f_X11_before_J36 N x1 x2 r1.2) else (if x2 = 1 then (f_X11_before_J36 N x1 x2 r1.2) else ((f_X11_refuse N (-2) r1.2).bind (fun r23 => some (r23.1, r23.2))))))
set_option maxHeartbeats 4000000 in
set_option maxRecDepth 20000 in
theorem m_X11_before (l : Launch) (E : Ev) (N : Nat) (x1 x2 : Int32) (σ : Sg) (R : Int32 × Sg) (hf : f_X11_before N x1 x2 σ = some R) : Ct l E YX11_before [.ref (E.2.1 0), .int x1, .int x2] σ (some (.int R.1), R.2) := by
  refine ct_of (by decide +kernel) (Nat.le_of_ble_eq_true rfl) [(0, .ref (E.2.1 0)), (1, .int x1), (2, .int x2)] rfl (fun X hX C => ?_)
  have hJ36 : ∀ (a1 a2 : Int32) (σ : Sg), f_X11_before_J36 N a1 a2 σ = some R → Zz E X YX11_before (some (.int R.1), R.2) σ 36 [(0, .ref (E.2.1 0)), (1, .int a1), (2, .int a2)] [] := by
    intro a1 a2 σ hf
    unfold f_X11_before_J36 at hf
    refine z_aload_n C dX11_before_36 0 rfl ?_
    refine z_get (v := .ref (E.2.1 53)) (T := TX11) (N := 8) (ci := 10) C (by decide) wc_main rfl in_X11 3 (by decide) t_236 rfl dX11_before_37 ?_
    refine z_aload_n C dX11_before_40 0 rfl ?_
    refine z_get (v := .ref (E.2.1 1)) (T := TX11) (N := 8) (ci := 10) C (by decide) wc_main rfl in_X11 0 (by decide) t_233 rfl dX11_before_41 ?_
    refine z_getN (v := .ref (E.2.1 2)) (T := TX9) (N := 11) (ci := 8) C (lt_st st_1) (wc_st st_1) rfl in_X9 0 (by decide) n_78 rfl dX11_before_44 ?_
    refine z_aload_n C dX11_before_47 0 rfl ?_
    obtain ⟨r5, h6, hf⟩ := bd_some hf
    refine z_callV (Y2 := YX11_lawNow) (CC := RX11) (T := TX11) (N := 8) (ci := 10) (As := []) C lk_X11_lawNow (by decide) wc_main rfl t_477 t_479 p_16 (Nat.le_of_ble_eq_true rfl) (Nat.le_of_ble_eq_true rfl) dX11_before_48 (Nat.le_of_ble_eq_true rfl) rfl rfl (m_X11_lawNow X.2.1 E N σ _ h6) ?_
    change Zz E X YX11_before (some (.int R.1), R.2) r5.2 _ _ [.ref (E.2.1 r5.1), .ref (E.2.1 2), .ref (E.2.1 53)]
    refine z_iload_n C dX11_before_51 1 rfl ?_
    obtain ⟨r7, h8, hf⟩ := bd_some hf
    refine z_callV (Y2 := YX2_isReached) (CC := RX2) (T := TX2) (N := 5) (ci := 1) (As := [.ref (E.2.1 2), .ref (E.2.1 r5.1), .int a1]) C lk_X2_isReached (by decide) wc_mi rfl t_608 t_601 t_602 (Nat.le_of_ble_eq_true rfl) (Nat.le_of_ble_eq_true rfl) dX11_before_52 (Nat.le_of_ble_eq_true rfl) rfl rfl (m_X2_isReached X.2.1 E N 2 r5.1 pe_2 (la_now h6) a1 r5.2 _ h8) ?_
    change Zz E X YX11_before (some (.int R.1), R.2) r7.2 _ _ [.int r7.1]
    refine z_if_eq (tgt := 60) C dX11_before_55 (by decide) (fun h9 => ?_) (fun h9 => ?_)
    · replace hf := ifp hf h9
      refine z_aload_n C dX11_before_60 0 rfl ?_
      refine z_get (v := .ref (E.2.1 53)) (T := TX11) (N := 8) (ci := 10) C (by decide) wc_main rfl in_X11 3 (by decide) t_236 rfl dX11_before_61 ?_
      refine z_aload_n C dX11_before_64 0 rfl ?_
      refine z_get (v := .ref (E.2.1 1)) (T := TX11) (N := 8) (ci := 10) C (by decide) wc_main rfl in_X11 0 (by decide) t_233 rfl dX11_before_65 ?_
      refine z_getN (v := .ref (E.2.1 2)) (T := TX9) (N := 11) (ci := 8) C (lt_st st_1) (wc_st st_1) rfl in_X9 0 (by decide) n_78 rfl dX11_before_68 ?_
      refine z_aload_n C dX11_before_71 0 rfl ?_
      obtain ⟨r10, h11, hf⟩ := bd_some hf
      refine z_callV (Y2 := YX11_lawNow) (CC := RX11) (T := TX11) (N := 8) (ci := 10) (As := []) C lk_X11_lawNow (by decide) wc_main rfl t_477 t_479 p_16 (Nat.le_of_ble_eq_true rfl) (Nat.le_of_ble_eq_true rfl) dX11_before_72 (Nat.le_of_ble_eq_true rfl) rfl rfl (m_X11_lawNow X.2.1 E N r7.2 _ h11) ?_
      change Zz E X YX11_before (some (.int R.1), R.2) r10.2 _ _ [.ref (E.2.1 r10.1), .ref (E.2.1 2), .ref (E.2.1 53)]
      refine z_iload_n C dX11_before_75 1 rfl ?_
      obtain ⟨r12, h13, hf⟩ := bd_some hf
      refine z_callV (Y2 := YX2_costOfOneBefore) (CC := RX2) (T := TX2) (N := 5) (ci := 1) (As := [.ref (E.2.1 2), .ref (E.2.1 r10.1), .int a1]) C lk_X2_costOfOneBefore (by decide) wc_mi rfl t_613 t_614 t_615 (Nat.le_of_ble_eq_true rfl) (Nat.le_of_ble_eq_true rfl) dX11_before_76 (Nat.le_of_ble_eq_true rfl) rfl rfl (m_X2_costOfOneBefore X.2.1 E N 2 r10.1 pe_2 (la_now h11) a1 r10.2 _ h13) ?_
      change Zz E X YX11_before (some (.int R.1), R.2) r12.2 _ _ [.int r12.1]
      refine z_istore_n (lv' := [(3, .int r12.1), (0, .ref (E.2.1 0)), (1, .int a1), (2, .int a2)]) C dX11_before_79 (by decide) rfl ?_
      refine z_iload_n C dX11_before_80 0 rfl ?_
      refine z_bipush (v := 100) C dX11_before_81 (by decide) ?_
      refine z_icmp_ge (tgt := 96) C dX11_before_83 (by decide) (fun h14 => ?_) (fun h14 => ?_)
      · replace hf := ifp hf h14
        refine z_aload_n C dX11_before_96 1 rfl ?_
        refine z_get (v := .ref (E.2.1 53)) (T := TX11) (N := 8) (ci := 10) C (by decide) wc_main rfl in_X11 3 (by decide) t_236 rfl dX11_before_97 ?_
        refine z_aload_n C dX11_before_100 1 rfl ?_
        refine z_get (v := .ref (E.2.1 1)) (T := TX11) (N := 8) (ci := 10) C (by decide) wc_main rfl in_X11 0 (by decide) t_233 rfl dX11_before_101 ?_
        refine z_getN (v := .ref (E.2.1 2)) (T := TX9) (N := 11) (ci := 8) C (lt_st st_1) (wc_st st_1) rfl in_X9 0 (by decide) n_78 rfl dX11_before_104 ?_
        refine z_aload_n C dX11_before_107 1 rfl ?_
        obtain ⟨r15, h16, hf⟩ := bd_some hf
        refine z_callV (Y2 := YX11_lawNow) (CC := RX11) (T := TX11) (N := 8) (ci := 10) (As := []) C lk_X11_lawNow (by decide) wc_main rfl t_477 t_479 p_16 (Nat.le_of_ble_eq_true rfl) (Nat.le_of_ble_eq_true rfl) dX11_before_108 (Nat.le_of_ble_eq_true rfl) rfl rfl (m_X11_lawNow X.2.1 E N r12.2 _ h16) ?_
        change Zz E X YX11_before (some (.int R.1), R.2) r15.2 _ _ [.ref (E.2.1 r15.1), .ref (E.2.1 2), .ref (E.2.1 53)]
        refine z_iload_n C dX11_before_111 2 rfl ?_
        obtain ⟨r17, h18, hf⟩ := bd_some hf
        refine z_callV (Y2 := YX2_costOfTwoBefore) (CC := RX2) (T := TX2) (N := 5) (ci := 1) (As := [.ref (E.2.1 2), .ref (E.2.1 r15.1), .int a1]) C lk_X2_costOfTwoBefore (by decide) wc_mi rfl t_623 t_624 t_625 (Nat.le_of_ble_eq_true rfl) (Nat.le_of_ble_eq_true rfl) dX11_before_112 (Nat.le_of_ble_eq_true rfl) rfl rfl (m_X2_costOfTwoBefore X.2.1 E N 2 r15.1 pe_2 (la_now h16) a1 r15.2 _ h18) ?_
        change Zz E X YX11_before (some (.int R.1), R.2) r17.2 _ _ [.int r17.1]
        refine z_istore_n (lv' := [(3, .int r17.1), (0, .ref (E.2.1 0)), (1, .int a1), (2, .int a2)]) C dX11_before_115 (by decide) rfl ?_
        refine z_iload_n C dX11_before_116 0 rfl ?_
        refine z_bipush (v := 100) C dX11_before_117 (by decide) ?_
        refine z_icmp_ge (tgt := 132) C dX11_before_119 (by decide) (fun h19 => ?_) (fun h19 => ?_)
        · replace hf := ifp hf h19
          refine z_bipush (v := (-9)) C dX11_before_132 (by decide) ?_
          exact z_iret C dX11_before_134 rfl (by rw [← Option.some.inj hf])
        · replace hf := ifn hf h19
          refine z_iload_n C dX11_before_122 3 rfl ?_
          refine z_if_ne (tgt := 130) C dX11_before_123 (by decide) (fun h20 => ?_) (fun h20 => ?_)
          · replace hf := ifn hf h20
            refine z_iload_n C dX11_before_130 0 rfl ?_
            exact z_iret C dX11_before_131 rfl (by rw [← Option.some.inj hf])
          · replace hf := ifp hf h20
            refine z_iconst (v := 2) C dX11_before_126 (by decide) ?_
            refine z_goto (tgt := 131) C dX11_before_127 (by decide) ?_
            exact z_iret C dX11_before_131 rfl (by rw [← Option.some.inj hf])
      · replace hf := ifn hf h14
        refine z_iload_n C dX11_before_86 3 rfl ?_
        refine z_if_ne (tgt := 94) C dX11_before_87 (by decide) (fun h21 => ?_) (fun h21 => ?_)
        · replace hf := ifn hf h21
          refine z_iload_n C dX11_before_94 0 rfl ?_
          exact z_iret C dX11_before_95 rfl (by rw [← Option.some.inj hf])
        · replace hf := ifp hf h21
          refine z_iconst (v := 1) C dX11_before_90 (by decide) ?_
          refine z_goto (tgt := 95) C dX11_before_91 (by decide) ?_
          exact z_iret C dX11_before_95 rfl (by rw [← Option.some.inj hf])
    · replace hf := ifn hf h9
      refine z_iconst (v := 0) C dX11_before_58 (by decide) ?_
      exact z_iret C dX11_before_59 rfl (by rw [← Option.some.inj hf])
  unfold f_X11_before at hf
  refine z_aload_n C dX11_before_0 0 rfl ?_
  refine z_get (v := .ref (E.2.1 1)) (T := TX11) (N := 8) (ci := 10) C (by decide) wc_main rfl in_X11 0 (by decide) t_233 rfl dX11_before_1 ?_
  refine z_getN (v := .ref (E.2.1 2)) (T := TX9) (N := 11) (ci := 8) C (lt_st st_1) (wc_st st_1) rfl in_X9 0 (by decide) n_78 rfl dX11_before_4 ?_
  refine z_iload_n C dX11_before_7 1 rfl ?_
  obtain ⟨r1, h2, hf⟩ := bd_some hf
  refine z_callV (Y2 := YX5_has) (CC := RX5) (T := TX5) (N := 3) (ci := 4) (As := [.int x1]) C lk_X5_has (lt_pe pe_2) (wc_pe pe_2) rfl t_448 t_424 t_425 (Nat.le_of_ble_eq_true rfl) (Nat.le_of_ble_eq_true rfl) dX11_before_8 (Nat.le_of_ble_eq_true rfl) rfl rfl (m_X5_has X.2.1 E N 2 pe_2 x1 σ _ h2) ?_
  change Zz E X YX11_before (some (.int R.1), R.2) r1.2 _ _ [.int r1.1]
  refine z_if_ne (tgt := 20) C dX11_before_11 (by decide) (fun h3 => ?_) (fun h3 => ?_)
  · replace hf := ifn hf h3
    refine z_iload_n C dX11_before_20 2 rfl ?_
    refine z_if_eq (tgt := 36) C dX11_before_21 (by decide) (fun h4 => ?_) (fun h4 => ?_)
    · replace hf := ifp hf h4
      refine z_sub [(0, .ref (E.2.1 0)), (1, .int x1), (2, .int x2)] [0, 1, 2] rfl ?_
      exact hJ36 x1 x2 r1.2 hf
    · replace hf := ifn hf h4
      refine z_iload_n C dX11_before_24 2 rfl ?_
      refine z_iconst (v := 1) C dX11_before_25 (by decide) ?_
      refine z_icmp_eq (tgt := 36) C dX11_before_26 (by decide) (fun h22 => ?_) (fun h22 => ?_)
      · replace hf := ifp hf h22
        refine z_sub [(0, .ref (E.2.1 0)), (1, .int x1), (2, .int x2)] [0, 1, 2] rfl ?_
        exact hJ36 x1 x2 r1.2 hf
      · replace hf := ifn hf h22
        refine z_aload_n C dX11_before_29 0 rfl ?_
        refine z_bipush (v := (-2)) C dX11_before_30 (by decide) ?_
        obtain ⟨r23, h24, hf⟩ := bd_some hf
        refine z_callV (Y2 := YX11_refuse) (CC := RX11) (T := TX11) (N := 8) (ci := 10) (As := [.int (-2)]) C lk_X11_refuse (by decide) wc_main rfl t_262 t_264 p_0 (Nat.le_of_ble_eq_true rfl) (Nat.le_of_ble_eq_true rfl) dX11_before_32 (Nat.le_of_ble_eq_true rfl) rfl rfl (m_X11_refuse X.2.1 E N (-2) r1.2 _ h24) ?_
        change Zz E X YX11_before (some (.int R.1), R.2) r23.2 _ _ [.int r23.1]
        exact z_iret C dX11_before_35 rfl (by rw [← Option.some.inj hf])
  · replace hf := ifp hf h3
    refine z_aload_n C dX11_before_14 0 rfl ?_
    refine z_iconst (v := (-1)) C dX11_before_15 (by decide) ?_
    obtain ⟨r25, h26, hf⟩ := bd_some hf
    refine z_callV (Y2 := YX11_refuse) (CC := RX11) (T := TX11) (N := 8) (ci := 10) (As := [.int (-1)]) C lk_X11_refuse (by decide) wc_main rfl t_262 t_264 p_0 (Nat.le_of_ble_eq_true rfl) (Nat.le_of_ble_eq_true rfl) dX11_before_16 (Nat.le_of_ble_eq_true rfl) rfl rfl (m_X11_refuse X.2.1 E N (-1) r1.2 _ h26) ?_
    change Zz E X YX11_before (some (.int R.1), R.2) r25.2 _ _ [.int r25.1]
    exact z_iret C dX11_before_19 rfl (by rw [← Option.some.inj hf])
theorem lk_X11_before {Y : Yv} : Lk Y YX11_before 2 := ⟨t_612, t_1, ⟨by decide +kernel, by decide +kernel⟩, by decide +kernel⟩
abbrev YX11_order : Yv := (yX11_order, cX11_order, 2, some .int, 1, 22)
def f_X11_order (N : Nat) (x1 : Int32) (σ : Sg) : Option (Int32 × Sg) :=
  (f_X11_isLetter N x1 σ).bind (fun r1 => if r1.1 = 0 then ((f_X11_refuse N (-1) r1.2).bind (fun r11 => some (r11.1, r11.2))) else ((f_X4_isFull N 11 r1.2).bind (fun r4 => if r4.1 = 0 then ((f_X4_add N 11 x1 r4.2).bind (fun r7 => some ((r7 11 1), r7))) else ((f_X11_refuse N (-6) r4.2).bind (fun r9 => some (r9.1, r9.2))))))
set_option maxHeartbeats 4000000 in
set_option maxRecDepth 20000 in
theorem m_X11_order (l : Launch) (E : Ev) (N : Nat) (x1 : Int32) (σ : Sg) (R : Int32 × Sg) (hf : f_X11_order N x1 σ = some R) : Ct l E YX11_order [.ref (E.2.1 0), .int x1] σ (some (.int R.1), R.2) := by
  refine ct_of (by decide +kernel) (Nat.le_of_ble_eq_true rfl) [(0, .ref (E.2.1 0)), (1, .int x1)] rfl (fun X hX C => ?_)
  unfold f_X11_order at hf
  refine z_iload_n C dX11_order_0 1 rfl ?_
  obtain ⟨r1, h2, hf⟩ := bd_some hf
  refine z_callS (Y2 := YX11_isLetter) (As := [.int x1]) C lk_X11_isLetter t_474 t_475 (Nat.le_of_ble_eq_true rfl) (Nat.le_of_ble_eq_true rfl) dX11_order_1 (Nat.le_of_ble_eq_true rfl) rfl rfl (m_X11_isLetter X.2.1 E N x1 σ _ h2) ?_
  change Zz E X YX11_order (some (.int R.1), R.2) r1.2 _ _ [.int r1.1]
  refine z_if_ne (tgt := 13) C dX11_order_4 (by decide) (fun h3 => ?_) (fun h3 => ?_)
  · replace hf := ifn hf h3
    refine z_aload_n C dX11_order_13 0 rfl ?_
    refine z_get (v := .ref (E.2.1 1)) (T := TX11) (N := 8) (ci := 10) C (by decide) wc_main rfl in_X11 0 (by decide) t_233 rfl dX11_order_14 ?_
    refine z_getN (v := .ref (E.2.1 11)) (T := TX9) (N := 11) (ci := 8) C (lt_st st_1) (wc_st st_1) rfl in_X9 4 (by decide) n_94 rfl dX11_order_17 ?_
    obtain ⟨r4, h5, hf⟩ := bd_some hf
    refine z_callV (Y2 := YX4_isFull) (CC := RX4) (T := TX4) (N := 2) (ci := 3) (As := []) C lk_X4_isFull (lt_nu nu_11) (wc_nu nu_11) rfl t_266 t_267 t_268 (Nat.le_of_ble_eq_true rfl) (Nat.le_of_ble_eq_true rfl) dX11_order_20 (Nat.le_of_ble_eq_true rfl) rfl rfl (m_X4_isFull X.2.1 E N 11 nu_11 r1.2 _ h5) ?_
    change Zz E X YX11_order (some (.int R.1), R.2) r4.2 _ _ [.int r4.1]
    refine z_if_eq (tgt := 33) C dX11_order_23 (by decide) (fun h6 => ?_) (fun h6 => ?_)
    · replace hf := ifp hf h6
      refine z_aload_n C dX11_order_33 0 rfl ?_
      refine z_get (v := .ref (E.2.1 1)) (T := TX11) (N := 8) (ci := 10) C (by decide) wc_main rfl in_X11 0 (by decide) t_233 rfl dX11_order_34 ?_
      refine z_getN (v := .ref (E.2.1 11)) (T := TX9) (N := 11) (ci := 8) C (lt_st st_1) (wc_st st_1) rfl in_X9 4 (by decide) n_94 rfl dX11_order_37 ?_
      refine z_iload_n C dX11_order_40 1 rfl ?_
      obtain ⟨r7, h8, hf⟩ := bd_some hf
      refine z_callV (Y2 := YX4_add) (CC := RX4) (T := TX4) (N := 2) (ci := 3) (As := [.int x1]) C lk_X4_add (lt_nu nu_11) (wc_nu nu_11) rfl t_270 t_271 t_272 (Nat.le_of_ble_eq_true rfl) (Nat.le_of_ble_eq_true rfl) dX11_order_41 (Nat.le_of_ble_eq_true rfl) rfl rfl (m_X4_add X.2.1 E N 11 nu_11 x1 r4.2 _ h8) ?_
      change Zz E X YX11_order (some (.int R.1), R.2) r7 _ _ []
      refine z_aload_n C dX11_order_44 0 rfl ?_
      refine z_get (v := .ref (E.2.1 1)) (T := TX11) (N := 8) (ci := 10) C (by decide) wc_main rfl in_X11 0 (by decide) t_233 rfl dX11_order_45 ?_
      refine z_getN (v := .ref (E.2.1 11)) (T := TX9) (N := 11) (ci := 8) C (lt_st st_1) (wc_st st_1) rfl in_X9 4 (by decide) n_94 rfl dX11_order_48 ?_
      refine z_getN (v := .int (r7 11 1)) (T := TX4) (N := 2) (ci := 3) C (lt_nu nu_11) (wc_nu nu_11) rfl in_X4 1 (by decide) n_69 rfl dX11_order_51 ?_
      exact z_iret C dX11_order_54 rfl (by rw [← Option.some.inj hf])
    · replace hf := ifn hf h6
      refine z_aload_n C dX11_order_26 0 rfl ?_
      refine z_bipush (v := (-6)) C dX11_order_27 (by decide) ?_
      obtain ⟨r9, h10, hf⟩ := bd_some hf
      refine z_callV (Y2 := YX11_refuse) (CC := RX11) (T := TX11) (N := 8) (ci := 10) (As := [.int (-6)]) C lk_X11_refuse (by decide) wc_main rfl t_262 t_264 p_0 (Nat.le_of_ble_eq_true rfl) (Nat.le_of_ble_eq_true rfl) dX11_order_29 (Nat.le_of_ble_eq_true rfl) rfl rfl (m_X11_refuse X.2.1 E N (-6) r4.2 _ h10) ?_
      change Zz E X YX11_order (some (.int R.1), R.2) r9.2 _ _ [.int r9.1]
      exact z_iret C dX11_order_32 rfl (by rw [← Option.some.inj hf])
  · replace hf := ifp hf h3
    refine z_aload_n C dX11_order_7 0 rfl ?_
    refine z_iconst (v := (-1)) C dX11_order_8 (by decide) ?_
    obtain ⟨r11, h12, hf⟩ := bd_some hf
    refine z_callV (Y2 := YX11_refuse) (CC := RX11) (T := TX11) (N := 8) (ci := 10) (As := [.int (-1)]) C lk_X11_refuse (by decide) wc_main rfl t_262 t_264 p_0 (Nat.le_of_ble_eq_true rfl) (Nat.le_of_ble_eq_true rfl) dX11_order_9 (Nat.le_of_ble_eq_true rfl) rfl rfl (m_X11_refuse X.2.1 E N (-1) r1.2 _ h12) ?_
    change Zz E X YX11_order (some (.int R.1), R.2) r11.2 _ _ [.int r11.1]
    exact z_iret C dX11_order_12 rfl (by rw [← Option.some.inj hf])
theorem lk_X11_order {Y : Yv} : Lk Y YX11_order 1 := ⟨t_631, t_1, ⟨by decide +kernel, by decide +kernel⟩, by decide +kernel⟩
abbrev YX11_forget : Yv := (yX11_forget, cX11_forget, 2, some .int, 1, 20)
def f_X11_forget (N : Nat) (σ : Sg) : Option (Int32 × Sg) :=
  (f_X4_clear N 11 σ).bind (fun r1 => some ((σ 11 1), r1))
set_option maxHeartbeats 4000000 in
set_option maxRecDepth 20000 in
theorem m_X11_forget (l : Launch) (E : Ev) (N : Nat) (σ : Sg) (R : Int32 × Sg) (hf : f_X11_forget N σ = some R) : Ct l E YX11_forget [.ref (E.2.1 0)] σ (some (.int R.1), R.2) := by
  refine ct_of (by decide +kernel) (Nat.le_of_ble_eq_true rfl) [(0, .ref (E.2.1 0))] rfl (fun X hX C => ?_)
  unfold f_X11_forget at hf
  refine z_aload_n C dX11_forget_0 0 rfl ?_
  refine z_get (v := .ref (E.2.1 1)) (T := TX11) (N := 8) (ci := 10) C (by decide) wc_main rfl in_X11 0 (by decide) t_233 rfl dX11_forget_1 ?_
  refine z_getN (v := .ref (E.2.1 11)) (T := TX9) (N := 11) (ci := 8) C (lt_st st_1) (wc_st st_1) rfl in_X9 4 (by decide) n_94 rfl dX11_forget_4 ?_
  refine z_getN (v := .int (σ 11 1)) (T := TX4) (N := 2) (ci := 3) C (lt_nu nu_11) (wc_nu nu_11) rfl in_X4 1 (by decide) n_69 rfl dX11_forget_7 ?_
  refine z_istore_n (lv' := [(1, .int (σ 11 1)), (0, .ref (E.2.1 0))]) C dX11_forget_10 (by decide) rfl ?_
  refine z_aload_n C dX11_forget_11 1 rfl ?_
  refine z_get (v := .ref (E.2.1 1)) (T := TX11) (N := 8) (ci := 10) C (by decide) wc_main rfl in_X11 0 (by decide) t_233 rfl dX11_forget_12 ?_
  refine z_getN (v := .ref (E.2.1 11)) (T := TX9) (N := 11) (ci := 8) C (lt_st st_1) (wc_st st_1) rfl in_X9 4 (by decide) n_94 rfl dX11_forget_15 ?_
  obtain ⟨r1, h2, hf⟩ := bd_some hf
  refine z_callV (Y2 := YX4_clear) (CC := RX4) (T := TX4) (N := 2) (ci := 3) (As := []) C lk_X4_clear (lt_nu nu_11) (wc_nu nu_11) rfl t_438 t_298 t_299 (Nat.le_of_ble_eq_true rfl) (Nat.le_of_ble_eq_true rfl) dX11_forget_18 (Nat.le_of_ble_eq_true rfl) rfl rfl (m_X4_clear X.2.1 E N 11 nu_11 σ _ h2) ?_
  change Zz E X YX11_forget (some (.int R.1), R.2) r1 _ _ []
  refine z_iload_n C dX11_forget_21 0 rfl ?_
  exact z_iret C dX11_forget_22 rfl (by rw [← Option.some.inj hf])
theorem lk_X11_forget {Y : Yv} : Lk Y YX11_forget 0 := ⟨t_635, t_1, ⟨by decide +kernel, by decide +kernel⟩, by decide +kernel⟩
abbrev YX11_met : Yv := (yX11_met, cX11_met, 3, some .int, 5, 126)
def f_X11_met (N : Nat) (x1 x2 : Int32) (σ : Sg) : Option (Int32 × Sg) :=
  if 0 ≤ x1 then (if x1 ≤ 5 then ((f_X2_takeLine N x1 x2 (σ 11 1) σ).bind (fun r3 => if r3.1 = 0 then ((f_X11_refuse N (-1) r3.2).bind (fun r10 => some (r10.1, r10.2))) else ((f_X11_lawNow N r3.2).bind (fun r6 => (f_X2_lessByLine N 2 r6.1 11 r6.2).bind (fun r8 => some (r8.1, r8.2)))))) else ((f_X11_refuse N (-6) σ).bind (fun r12 => some (r12.1, r12.2)))) else ((f_X11_refuse N (-4) σ).bind (fun r14 => some (r14.1, r14.2)))
set_option maxHeartbeats 4000000 in
set_option maxRecDepth 20000 in
theorem m_X11_met (l : Launch) (E : Ev) (N : Nat) (x1 x2 : Int32) (σ : Sg) (R : Int32 × Sg) (hf : f_X11_met N x1 x2 σ = some R) : Ct l E YX11_met [.ref (E.2.1 0), .int x1, .int x2] σ (some (.int R.1), R.2) := by
  refine ct_of (by decide +kernel) (Nat.le_of_ble_eq_true rfl) [(0, .ref (E.2.1 0)), (1, .int x1), (2, .int x2)] rfl (fun X hX C => ?_)
  unfold f_X11_met at hf
  refine z_iload_n C dX11_met_0 1 rfl ?_
  refine z_if_ge (tgt := 11) C dX11_met_1 (by decide) (fun h1 => ?_) (fun h1 => ?_)
  · replace hf := ifp hf h1
    refine z_iload_n C dX11_met_11 1 rfl ?_
    refine z_iconst (v := 5) C dX11_met_12 (by decide) ?_
    refine z_icmp_le (tgt := 23) C dX11_met_13 (by decide) (fun h2 => ?_) (fun h2 => ?_)
    · replace hf := ifp hf h2
      refine z_aload_n C dX11_met_23 0 rfl ?_
      refine z_get (v := .ref (E.2.1 53)) (T := TX11) (N := 8) (ci := 10) C (by decide) wc_main rfl in_X11 3 (by decide) t_236 rfl dX11_met_24 ?_
      refine z_iload_n C dX11_met_27 1 rfl ?_
      refine z_iload_n C dX11_met_28 2 rfl ?_
      refine z_aload_n C dX11_met_29 0 rfl ?_
      refine z_get (v := .ref (E.2.1 1)) (T := TX11) (N := 8) (ci := 10) C (by decide) wc_main rfl in_X11 0 (by decide) t_233 rfl dX11_met_30 ?_
      refine z_getN (v := .ref (E.2.1 11)) (T := TX9) (N := 11) (ci := 8) C (lt_st st_1) (wc_st st_1) rfl in_X9 4 (by decide) n_94 rfl dX11_met_33 ?_
      refine z_getN (v := .int (σ 11 1)) (T := TX4) (N := 2) (ci := 3) C (lt_nu nu_11) (wc_nu nu_11) rfl in_X4 1 (by decide) n_69 rfl dX11_met_36 ?_
      obtain ⟨r3, h4, hf⟩ := bd_some hf
      refine z_callV (Y2 := YX2_takeLine) (CC := RX2) (T := TX2) (N := 5) (ci := 1) (As := [.int x1, .int x2, .int (σ 11 1)]) C lk_X2_takeLine (by decide) wc_mi rfl t_640 t_641 t_642 (Nat.le_of_ble_eq_true rfl) (Nat.le_of_ble_eq_true rfl) dX11_met_39 (Nat.le_of_ble_eq_true rfl) rfl rfl (m_X2_takeLine X.2.1 E N x1 x2 (σ 11 1) σ _ h4) ?_
      change Zz E X YX11_met (some (.int R.1), R.2) r3.2 _ _ [.int r3.1]
      refine z_if_ne (tgt := 51) C dX11_met_42 (by decide) (fun h5 => ?_) (fun h5 => ?_)
      · replace hf := ifn hf h5
        refine z_aload_n C dX11_met_51 0 rfl ?_
        refine z_get (v := .ref (E.2.1 53)) (T := TX11) (N := 8) (ci := 10) C (by decide) wc_main rfl in_X11 3 (by decide) t_236 rfl dX11_met_52 ?_
        refine z_aload_n C dX11_met_55 0 rfl ?_
        refine z_get (v := .ref (E.2.1 1)) (T := TX11) (N := 8) (ci := 10) C (by decide) wc_main rfl in_X11 0 (by decide) t_233 rfl dX11_met_56 ?_
        refine z_getN (v := .ref (E.2.1 2)) (T := TX9) (N := 11) (ci := 8) C (lt_st st_1) (wc_st st_1) rfl in_X9 0 (by decide) n_78 rfl dX11_met_59 ?_
        refine z_aload_n C dX11_met_62 0 rfl ?_
        obtain ⟨r6, h7, hf⟩ := bd_some hf
        refine z_callV (Y2 := YX11_lawNow) (CC := RX11) (T := TX11) (N := 8) (ci := 10) (As := []) C lk_X11_lawNow (by decide) wc_main rfl t_477 t_479 p_16 (Nat.le_of_ble_eq_true rfl) (Nat.le_of_ble_eq_true rfl) dX11_met_63 (Nat.le_of_ble_eq_true rfl) rfl rfl (m_X11_lawNow X.2.1 E N r3.2 _ h7) ?_
        change Zz E X YX11_met (some (.int R.1), R.2) r6.2 _ _ [.ref (E.2.1 r6.1), .ref (E.2.1 2), .ref (E.2.1 53)]
        refine z_aload_n C dX11_met_66 0 rfl ?_
        refine z_get (v := .ref (E.2.1 1)) (T := TX11) (N := 8) (ci := 10) C (by decide) wc_main rfl in_X11 0 (by decide) t_233 rfl dX11_met_67 ?_
        refine z_getN (v := .ref (E.2.1 11)) (T := TX9) (N := 11) (ci := 8) C (lt_st st_1) (wc_st st_1) rfl in_X9 4 (by decide) n_94 rfl dX11_met_70 ?_
        obtain ⟨r8, h9, hf⟩ := bd_some hf
        refine z_callV (Y2 := YX2_lessByLine) (CC := RX2) (T := TX2) (N := 5) (ci := 1) (As := [.ref (E.2.1 2), .ref (E.2.1 r6.1), .ref (E.2.1 11)]) C lk_X2_lessByLine (by decide) wc_mi rfl t_646 t_647 t_648 (Nat.le_of_ble_eq_true rfl) (Nat.le_of_ble_eq_true rfl) dX11_met_73 (Nat.le_of_ble_eq_true rfl) rfl rfl (m_X2_lessByLine X.2.1 E N 2 r6.1 11 pe_2 (la_now h7) nu_11 r6.2 _ h9) ?_
        change Zz E X YX11_met (some (.int R.1), R.2) r8.2 _ _ [.int r8.1]
        exact z_iret C dX11_met_76 rfl (by rw [← Option.some.inj hf])
      · replace hf := ifp hf h5
        refine z_aload_n C dX11_met_45 0 rfl ?_
        refine z_iconst (v := (-1)) C dX11_met_46 (by decide) ?_
        obtain ⟨r10, h11, hf⟩ := bd_some hf
        refine z_callV (Y2 := YX11_refuse) (CC := RX11) (T := TX11) (N := 8) (ci := 10) (As := [.int (-1)]) C lk_X11_refuse (by decide) wc_main rfl t_262 t_264 p_0 (Nat.le_of_ble_eq_true rfl) (Nat.le_of_ble_eq_true rfl) dX11_met_47 (Nat.le_of_ble_eq_true rfl) rfl rfl (m_X11_refuse X.2.1 E N (-1) r3.2 _ h11) ?_
        change Zz E X YX11_met (some (.int R.1), R.2) r10.2 _ _ [.int r10.1]
        exact z_iret C dX11_met_50 rfl (by rw [← Option.some.inj hf])
    · replace hf := ifn hf h2
      refine z_aload_n C dX11_met_16 0 rfl ?_
      refine z_bipush (v := (-6)) C dX11_met_17 (by decide) ?_
      obtain ⟨r12, h13, hf⟩ := bd_some hf
      refine z_callV (Y2 := YX11_refuse) (CC := RX11) (T := TX11) (N := 8) (ci := 10) (As := [.int (-6)]) C lk_X11_refuse (by decide) wc_main rfl t_262 t_264 p_0 (Nat.le_of_ble_eq_true rfl) (Nat.le_of_ble_eq_true rfl) dX11_met_19 (Nat.le_of_ble_eq_true rfl) rfl rfl (m_X11_refuse X.2.1 E N (-6) σ _ h13) ?_
      change Zz E X YX11_met (some (.int R.1), R.2) r12.2 _ _ [.int r12.1]
      exact z_iret C dX11_met_22 rfl (by rw [← Option.some.inj hf])
  · replace hf := ifn hf h1
    refine z_aload_n C dX11_met_4 0 rfl ?_
    refine z_bipush (v := (-4)) C dX11_met_5 (by decide) ?_
    obtain ⟨r14, h15, hf⟩ := bd_some hf
    refine z_callV (Y2 := YX11_refuse) (CC := RX11) (T := TX11) (N := 8) (ci := 10) (As := [.int (-4)]) C lk_X11_refuse (by decide) wc_main rfl t_262 t_264 p_0 (Nat.le_of_ble_eq_true rfl) (Nat.le_of_ble_eq_true rfl) dX11_met_7 (Nat.le_of_ble_eq_true rfl) rfl rfl (m_X11_refuse X.2.1 E N (-4) σ _ h15) ?_
    change Zz E X YX11_met (some (.int R.1), R.2) r14.2 _ _ [.int r14.1]
    exact z_iret C dX11_met_10 rfl (by rw [← Option.some.inj hf])
theorem lk_X11_met {Y : Yv} : Lk Y YX11_met 2 := ⟨t_639, t_1, ⟨by decide +kernel, by decide +kernel⟩, by decide +kernel⟩
abbrev YX11_best : Yv := (yX11_best, cX11_best, 3, some .int, 6, 152)
def f_X11_best (N : Nat) (x1 : Int32) (σ : Sg) : Option (Int32 × Sg) :=
  if (-1) ≤ x1 then ((f_X11_lawNow N σ).bind (fun r2 => (f_X2_findBestLine N 2 r2.1 11 r2.2).bind (fun r4 => if x1 = (-1) then (some (r4.1, r4.2)) else (if (r4.2 11 1) ≤ x1 then (some ((-9), r4.2)) else ((f_X4_get N 62 x1 r4.2).bind (fun r8 => some (r8.1, r8.2))))))) else ((f_X11_refuse N (-4) σ).bind (fun r10 => some (r10.1, r10.2)))
set_option maxHeartbeats 4000000 in
set_option maxRecDepth 20000 in
theorem m_X11_best (l : Launch) (E : Ev) (N : Nat) (x1 : Int32) (σ : Sg) (R : Int32 × Sg) (hf : f_X11_best N x1 σ = some R) : Ct l E YX11_best [.ref (E.2.1 0), .int x1] σ (some (.int R.1), R.2) := by
  refine ct_of (by decide +kernel) (Nat.le_of_ble_eq_true rfl) [(0, .ref (E.2.1 0)), (1, .int x1)] rfl (fun X hX C => ?_)
  unfold f_X11_best at hf
  refine z_iload_n C dX11_best_0 1 rfl ?_
  refine z_iconst (v := (-1)) C dX11_best_1 (by decide) ?_
  refine z_icmp_ge (tgt := 12) C dX11_best_2 (by decide) (fun h1 => ?_) (fun h1 => ?_)
  · replace hf := ifp hf h1
    refine z_aload_n C dX11_best_12 0 rfl ?_
    refine z_get (v := .ref (E.2.1 53)) (T := TX11) (N := 8) (ci := 10) C (by decide) wc_main rfl in_X11 3 (by decide) t_236 rfl dX11_best_13 ?_
    refine z_aload_n C dX11_best_16 0 rfl ?_
    refine z_get (v := .ref (E.2.1 1)) (T := TX11) (N := 8) (ci := 10) C (by decide) wc_main rfl in_X11 0 (by decide) t_233 rfl dX11_best_17 ?_
    refine z_getN (v := .ref (E.2.1 2)) (T := TX9) (N := 11) (ci := 8) C (lt_st st_1) (wc_st st_1) rfl in_X9 0 (by decide) n_78 rfl dX11_best_20 ?_
    refine z_aload_n C dX11_best_23 0 rfl ?_
    obtain ⟨r2, h3, hf⟩ := bd_some hf
    refine z_callV (Y2 := YX11_lawNow) (CC := RX11) (T := TX11) (N := 8) (ci := 10) (As := []) C lk_X11_lawNow (by decide) wc_main rfl t_477 t_479 p_16 (Nat.le_of_ble_eq_true rfl) (Nat.le_of_ble_eq_true rfl) dX11_best_24 (Nat.le_of_ble_eq_true rfl) rfl rfl (m_X11_lawNow X.2.1 E N σ _ h3) ?_
    change Zz E X YX11_best (some (.int R.1), R.2) r2.2 _ _ [.ref (E.2.1 r2.1), .ref (E.2.1 2), .ref (E.2.1 53)]
    refine z_aload_n C dX11_best_27 0 rfl ?_
    refine z_get (v := .ref (E.2.1 1)) (T := TX11) (N := 8) (ci := 10) C (by decide) wc_main rfl in_X11 0 (by decide) t_233 rfl dX11_best_28 ?_
    refine z_getN (v := .ref (E.2.1 11)) (T := TX9) (N := 11) (ci := 8) C (lt_st st_1) (wc_st st_1) rfl in_X9 4 (by decide) n_94 rfl dX11_best_31 ?_
    obtain ⟨r4, h5, hf⟩ := bd_some hf
    refine z_callV (Y2 := YX2_findBestLine) (CC := RX2) (T := TX2) (N := 5) (ci := 1) (As := [.ref (E.2.1 2), .ref (E.2.1 r2.1), .ref (E.2.1 11)]) C lk_X2_findBestLine (by decide) wc_mi rfl t_656 t_657 t_658 (Nat.le_of_ble_eq_true rfl) (Nat.le_of_ble_eq_true rfl) dX11_best_34 (Nat.le_of_ble_eq_true rfl) rfl rfl (m_X2_findBestLine X.2.1 E N 2 r2.1 11 pe_2 (la_now h3) nu_11 r2.2 _ h5) ?_
    change Zz E X YX11_best (some (.int R.1), R.2) r4.2 _ _ [.int r4.1]
    refine z_istore_n (lv' := [(2, .int r4.1), (0, .ref (E.2.1 0)), (1, .int x1)]) C dX11_best_37 (by decide) rfl ?_
    refine z_iload_n C dX11_best_38 2 rfl ?_
    refine z_iconst (v := (-1)) C dX11_best_39 (by decide) ?_
    refine z_icmp_ne (tgt := 45) C dX11_best_40 (by decide) (fun h6 => ?_) (fun h6 => ?_)
    · replace hf := ifn hf h6
      refine z_iload_n C dX11_best_45 2 rfl ?_
      refine z_aload_n C dX11_best_46 1 rfl ?_
      refine z_get (v := .ref (E.2.1 1)) (T := TX11) (N := 8) (ci := 10) C (by decide) wc_main rfl in_X11 0 (by decide) t_233 rfl dX11_best_47 ?_
      refine z_getN (v := .ref (E.2.1 11)) (T := TX9) (N := 11) (ci := 8) C (lt_st st_1) (wc_st st_1) rfl in_X9 4 (by decide) n_94 rfl dX11_best_50 ?_
      refine z_getN (v := .int (r4.2 11 1)) (T := TX4) (N := 2) (ci := 3) C (lt_nu nu_11) (wc_nu nu_11) rfl in_X4 1 (by decide) n_69 rfl dX11_best_53 ?_
      refine z_icmp_ge (tgt := 73) C dX11_best_56 (by decide) (fun h7 => ?_) (fun h7 => ?_)
      · replace hf := ifp hf h7
        refine z_bipush (v := (-9)) C dX11_best_73 (by decide) ?_
        exact z_iret C dX11_best_75 rfl (by rw [← Option.some.inj hf])
      · replace hf := ifn hf h7
        refine z_aload_n C dX11_best_59 1 rfl ?_
        refine z_get (v := .ref (E.2.1 53)) (T := TX11) (N := 8) (ci := 10) C (by decide) wc_main rfl in_X11 3 (by decide) t_236 rfl dX11_best_60 ?_
        refine z_getN (v := .ref (E.2.1 62)) (T := TX2) (N := 5) (ci := 1) C (by decide) wc_mi rfl in_X2 3 (by decide) n_171 rfl dX11_best_63 ?_
        refine z_iload_n C dX11_best_66 2 rfl ?_
        obtain ⟨r8, h9, hf⟩ := bd_some hf
        refine z_callV (Y2 := YX4_get) (CC := RX4) (T := TX4) (N := 2) (ci := 3) (As := [.int x1]) C lk_X4_get (lt_nu nu_62) (wc_nu nu_62) rfl t_461 t_302 t_303 (Nat.le_of_ble_eq_true rfl) (Nat.le_of_ble_eq_true rfl) dX11_best_67 (Nat.le_of_ble_eq_true rfl) rfl rfl (m_X4_get X.2.1 E N 62 nu_62 x1 r4.2 _ h9) ?_
        change Zz E X YX11_best (some (.int R.1), R.2) r8.2 _ _ [.int r8.1]
        refine z_goto (tgt := 75) C dX11_best_70 (by decide) ?_
        exact z_iret C dX11_best_75 rfl (by rw [← Option.some.inj hf])
    · replace hf := ifp hf h6
      refine z_iload_n C dX11_best_43 0 rfl ?_
      exact z_iret C dX11_best_44 rfl (by rw [← Option.some.inj hf])
  · replace hf := ifn hf h1
    refine z_aload_n C dX11_best_5 0 rfl ?_
    refine z_bipush (v := (-4)) C dX11_best_6 (by decide) ?_
    obtain ⟨r10, h11, hf⟩ := bd_some hf
    refine z_callV (Y2 := YX11_refuse) (CC := RX11) (T := TX11) (N := 8) (ci := 10) (As := [.int (-4)]) C lk_X11_refuse (by decide) wc_main rfl t_262 t_264 p_0 (Nat.le_of_ble_eq_true rfl) (Nat.le_of_ble_eq_true rfl) dX11_best_8 (Nat.le_of_ble_eq_true rfl) rfl rfl (m_X11_refuse X.2.1 E N (-4) σ _ h11) ?_
    change Zz E X YX11_best (some (.int R.1), R.2) r10.2 _ _ [.int r10.1]
    exact z_iret C dX11_best_11 rfl (by rw [← Option.some.inj hf])
theorem lk_X11_best {Y : Yv} : Lk Y YX11_best 1 := ⟨t_655, t_1, ⟨by decide +kernel, by decide +kernel⟩, by decide +kernel⟩
abbrev YX11_greedy : Yv := (yX11_greedy, cX11_greedy, 1, some .int, 6, 155)
def f_X11_greedy (N : Nat) (σ : Sg) : Option (Int32 × Sg) :=
  (f_X11_lawNow N σ).bind (fun r1 => (f_X2_lessByGreed N 2 r1.1 11 r1.2).bind (fun r3 => some (r3.1, r3.2)))
set_option maxHeartbeats 4000000 in
set_option maxRecDepth 20000 in
theorem m_X11_greedy (l : Launch) (E : Ev) (N : Nat) (σ : Sg) (R : Int32 × Sg) (hf : f_X11_greedy N σ = some R) : Ct l E YX11_greedy [.ref (E.2.1 0)] σ (some (.int R.1), R.2) := by
  refine ct_of (by decide +kernel) (Nat.le_of_ble_eq_true rfl) [(0, .ref (E.2.1 0))] rfl (fun X hX C => ?_)
  unfold f_X11_greedy at hf
  refine z_aload_n C dX11_greedy_0 0 rfl ?_
  refine z_get (v := .ref (E.2.1 53)) (T := TX11) (N := 8) (ci := 10) C (by decide) wc_main rfl in_X11 3 (by decide) t_236 rfl dX11_greedy_1 ?_
  refine z_aload_n C dX11_greedy_4 0 rfl ?_
  refine z_get (v := .ref (E.2.1 1)) (T := TX11) (N := 8) (ci := 10) C (by decide) wc_main rfl in_X11 0 (by decide) t_233 rfl dX11_greedy_5 ?_
  refine z_getN (v := .ref (E.2.1 2)) (T := TX9) (N := 11) (ci := 8) C (lt_st st_1) (wc_st st_1) rfl in_X9 0 (by decide) n_78 rfl dX11_greedy_8 ?_
  refine z_aload_n C dX11_greedy_11 0 rfl ?_
  obtain ⟨r1, h2, hf⟩ := bd_some hf
  refine z_callV (Y2 := YX11_lawNow) (CC := RX11) (T := TX11) (N := 8) (ci := 10) (As := []) C lk_X11_lawNow (by decide) wc_main rfl t_477 t_479 p_16 (Nat.le_of_ble_eq_true rfl) (Nat.le_of_ble_eq_true rfl) dX11_greedy_12 (Nat.le_of_ble_eq_true rfl) rfl rfl (m_X11_lawNow X.2.1 E N σ _ h2) ?_
  change Zz E X YX11_greedy (some (.int R.1), R.2) r1.2 _ _ [.ref (E.2.1 r1.1), .ref (E.2.1 2), .ref (E.2.1 53)]
  refine z_aload_n C dX11_greedy_15 0 rfl ?_
  refine z_get (v := .ref (E.2.1 1)) (T := TX11) (N := 8) (ci := 10) C (by decide) wc_main rfl in_X11 0 (by decide) t_233 rfl dX11_greedy_16 ?_
  refine z_getN (v := .ref (E.2.1 11)) (T := TX9) (N := 11) (ci := 8) C (lt_st st_1) (wc_st st_1) rfl in_X9 4 (by decide) n_94 rfl dX11_greedy_19 ?_
  obtain ⟨r3, h4, hf⟩ := bd_some hf
  refine z_callV (Y2 := YX2_lessByGreed) (CC := RX2) (T := TX2) (N := 5) (ci := 1) (As := [.ref (E.2.1 2), .ref (E.2.1 r1.1), .ref (E.2.1 11)]) C lk_X2_lessByGreed (by decide) wc_mi rfl t_675 t_676 t_677 (Nat.le_of_ble_eq_true rfl) (Nat.le_of_ble_eq_true rfl) dX11_greedy_22 (Nat.le_of_ble_eq_true rfl) rfl rfl (m_X2_lessByGreed X.2.1 E N 2 r1.1 11 pe_2 (la_now h2) nu_11 r1.2 _ h4) ?_
  change Zz E X YX11_greedy (some (.int R.1), R.2) r3.2 _ _ [.int r3.1]
  exact z_iret C dX11_greedy_25 rfl (by rw [← Option.some.inj hf])
theorem lk_X11_greedy {Y : Yv} : Lk Y YX11_greedy 0 := ⟨t_674, t_1, ⟨by decide +kernel, by decide +kernel⟩, by decide +kernel⟩
abbrev YX11_forty : Yv := (yX11_forty, cX11_forty, 3, some .int, 5, 129)
def f_X11_forty (N : Nat) (x1 x2 : Int32) (σ : Sg) : Option (Int32 × Sg) :=
  (f_X11_isLetter N x1 σ).bind (fun r1 => if r1.1 = 0 then ((f_X11_refuse N (-1) r1.2).bind (fun r14 => some (r14.1, r14.2))) else (if 0 ≤ x2 then (if x2 ≤ (r1.2 2 2) then ((f_X11_lawNow N r1.2).bind (fun r6 => (f_X2_timesTillHad N 2 r6.1 x1 x2 r6.2).bind (fun r8 => some (r8.1, r8.2)))) else ((f_X11_refuse N (-6) r1.2).bind (fun r10 => some (r10.1, r10.2)))) else ((f_X11_refuse N (-4) r1.2).bind (fun r12 => some (r12.1, r12.2)))))
set_option maxHeartbeats 4000000 in
set_option maxRecDepth 20000 in
theorem m_X11_forty (l : Launch) (E : Ev) (N : Nat) (x1 x2 : Int32) (σ : Sg) (R : Int32 × Sg) (hf : f_X11_forty N x1 x2 σ = some R) : Ct l E YX11_forty [.ref (E.2.1 0), .int x1, .int x2] σ (some (.int R.1), R.2) := by
  refine ct_of (by decide +kernel) (Nat.le_of_ble_eq_true rfl) [(0, .ref (E.2.1 0)), (1, .int x1), (2, .int x2)] rfl (fun X hX C => ?_)
  unfold f_X11_forty at hf
  refine z_iload_n C dX11_forty_0 1 rfl ?_
  obtain ⟨r1, h2, hf⟩ := bd_some hf
  refine z_callS (Y2 := YX11_isLetter) (As := [.int x1]) C lk_X11_isLetter t_474 t_475 (Nat.le_of_ble_eq_true rfl) (Nat.le_of_ble_eq_true rfl) dX11_forty_1 (Nat.le_of_ble_eq_true rfl) rfl rfl (m_X11_isLetter X.2.1 E N x1 σ _ h2) ?_
  change Zz E X YX11_forty (some (.int R.1), R.2) r1.2 _ _ [.int r1.1]
  refine z_if_ne (tgt := 13) C dX11_forty_4 (by decide) (fun h3 => ?_) (fun h3 => ?_)
  · replace hf := ifn hf h3
    refine z_iload_n C dX11_forty_13 2 rfl ?_
    refine z_if_ge (tgt := 24) C dX11_forty_14 (by decide) (fun h4 => ?_) (fun h4 => ?_)
    · replace hf := ifp hf h4
      refine z_iload_n C dX11_forty_24 2 rfl ?_
      refine z_aload_n C dX11_forty_25 0 rfl ?_
      refine z_get (v := .ref (E.2.1 1)) (T := TX11) (N := 8) (ci := 10) C (by decide) wc_main rfl in_X11 0 (by decide) t_233 rfl dX11_forty_26 ?_
      refine z_getN (v := .ref (E.2.1 2)) (T := TX9) (N := 11) (ci := 8) C (lt_st st_1) (wc_st st_1) rfl in_X9 0 (by decide) n_78 rfl dX11_forty_29 ?_
      refine z_getN (v := .int (r1.2 2 2)) (T := TX5) (N := 3) (ci := 4) C (lt_pe pe_2) (wc_pe pe_2) rfl in_X5 2 (by decide) n_51 rfl dX11_forty_32 ?_
      refine z_icmp_le (tgt := 45) C dX11_forty_35 (by decide) (fun h5 => ?_) (fun h5 => ?_)
      · replace hf := ifp hf h5
        refine z_aload_n C dX11_forty_45 0 rfl ?_
        refine z_get (v := .ref (E.2.1 53)) (T := TX11) (N := 8) (ci := 10) C (by decide) wc_main rfl in_X11 3 (by decide) t_236 rfl dX11_forty_46 ?_
        refine z_aload_n C dX11_forty_49 0 rfl ?_
        refine z_get (v := .ref (E.2.1 1)) (T := TX11) (N := 8) (ci := 10) C (by decide) wc_main rfl in_X11 0 (by decide) t_233 rfl dX11_forty_50 ?_
        refine z_getN (v := .ref (E.2.1 2)) (T := TX9) (N := 11) (ci := 8) C (lt_st st_1) (wc_st st_1) rfl in_X9 0 (by decide) n_78 rfl dX11_forty_53 ?_
        refine z_aload_n C dX11_forty_56 0 rfl ?_
        obtain ⟨r6, h7, hf⟩ := bd_some hf
        refine z_callV (Y2 := YX11_lawNow) (CC := RX11) (T := TX11) (N := 8) (ci := 10) (As := []) C lk_X11_lawNow (by decide) wc_main rfl t_477 t_479 p_16 (Nat.le_of_ble_eq_true rfl) (Nat.le_of_ble_eq_true rfl) dX11_forty_57 (Nat.le_of_ble_eq_true rfl) rfl rfl (m_X11_lawNow X.2.1 E N r1.2 _ h7) ?_
        change Zz E X YX11_forty (some (.int R.1), R.2) r6.2 _ _ [.ref (E.2.1 r6.1), .ref (E.2.1 2), .ref (E.2.1 53)]
        refine z_iload_n C dX11_forty_60 1 rfl ?_
        refine z_iload_n C dX11_forty_61 2 rfl ?_
        obtain ⟨r8, h9, hf⟩ := bd_some hf
        refine z_callV (Y2 := YX2_timesTillHad) (CC := RX2) (T := TX2) (N := 5) (ci := 1) (As := [.ref (E.2.1 2), .ref (E.2.1 r6.1), .int x1, .int x2]) C lk_X2_timesTillHad (by decide) wc_mi rfl t_687 t_688 t_689 (Nat.le_of_ble_eq_true rfl) (Nat.le_of_ble_eq_true rfl) dX11_forty_62 (Nat.le_of_ble_eq_true rfl) rfl rfl (m_X2_timesTillHad X.2.1 E N 2 r6.1 pe_2 (la_now h7) x1 x2 r6.2 _ h9) ?_
        change Zz E X YX11_forty (some (.int R.1), R.2) r8.2 _ _ [.int r8.1]
        exact z_iret C dX11_forty_65 rfl (by rw [← Option.some.inj hf])
      · replace hf := ifn hf h5
        refine z_aload_n C dX11_forty_38 0 rfl ?_
        refine z_bipush (v := (-6)) C dX11_forty_39 (by decide) ?_
        obtain ⟨r10, h11, hf⟩ := bd_some hf
        refine z_callV (Y2 := YX11_refuse) (CC := RX11) (T := TX11) (N := 8) (ci := 10) (As := [.int (-6)]) C lk_X11_refuse (by decide) wc_main rfl t_262 t_264 p_0 (Nat.le_of_ble_eq_true rfl) (Nat.le_of_ble_eq_true rfl) dX11_forty_41 (Nat.le_of_ble_eq_true rfl) rfl rfl (m_X11_refuse X.2.1 E N (-6) r1.2 _ h11) ?_
        change Zz E X YX11_forty (some (.int R.1), R.2) r10.2 _ _ [.int r10.1]
        exact z_iret C dX11_forty_44 rfl (by rw [← Option.some.inj hf])
    · replace hf := ifn hf h4
      refine z_aload_n C dX11_forty_17 0 rfl ?_
      refine z_bipush (v := (-4)) C dX11_forty_18 (by decide) ?_
      obtain ⟨r12, h13, hf⟩ := bd_some hf
      refine z_callV (Y2 := YX11_refuse) (CC := RX11) (T := TX11) (N := 8) (ci := 10) (As := [.int (-4)]) C lk_X11_refuse (by decide) wc_main rfl t_262 t_264 p_0 (Nat.le_of_ble_eq_true rfl) (Nat.le_of_ble_eq_true rfl) dX11_forty_20 (Nat.le_of_ble_eq_true rfl) rfl rfl (m_X11_refuse X.2.1 E N (-4) r1.2 _ h13) ?_
      change Zz E X YX11_forty (some (.int R.1), R.2) r12.2 _ _ [.int r12.1]
      exact z_iret C dX11_forty_23 rfl (by rw [← Option.some.inj hf])
  · replace hf := ifp hf h3
    refine z_aload_n C dX11_forty_7 0 rfl ?_
    refine z_iconst (v := (-1)) C dX11_forty_8 (by decide) ?_
    obtain ⟨r14, h15, hf⟩ := bd_some hf
    refine z_callV (Y2 := YX11_refuse) (CC := RX11) (T := TX11) (N := 8) (ci := 10) (As := [.int (-1)]) C lk_X11_refuse (by decide) wc_main rfl t_262 t_264 p_0 (Nat.le_of_ble_eq_true rfl) (Nat.le_of_ble_eq_true rfl) dX11_forty_9 (Nat.le_of_ble_eq_true rfl) rfl rfl (m_X11_refuse X.2.1 E N (-1) r1.2 _ h15) ?_
    change Zz E X YX11_forty (some (.int R.1), R.2) r14.2 _ _ [.int r14.1]
    exact z_iret C dX11_forty_12 rfl (by rw [← Option.some.inj hf])
theorem lk_X11_forty {Y : Yv} : Lk Y YX11_forty 2 := ⟨t_686, t_1, ⟨by decide +kernel, by decide +kernel⟩, by decide +kernel⟩
abbrev YX11_going : Yv := (yX11_going, cX11_going, 4, some .int, 1, 22)
def f_X11_going_J36 (N : Nat) (σ : Sg) : Option (Int32 × Sg) :=
  (f_X11_refuse N (-1) σ).bind (fun r5 => some (r5.1, r5.2))
def f_X11_going_J90 (N : Nat) (b0 : Int32) (σ : Sg) : Option (Int32 × Sg) :=
  (f_X4_add N 15 b0 σ).bind (fun r14 => some ((r14 13 1), r14))
def f_X11_going_J42 (N : Nat) (a1 a2 a3 : Int32) (σ : Sg) : Option (Int32 × Sg) :=
  (f_X4_isFull N 13 σ).bind (fun r8 => if r8.1 = 0 then ((f_X4_add N 13 a1 r8.2).bind (fun r11 => if a3 = 0 then (f_X11_going_J90 N a2 r11) else (f_X11_going_J90 N (-9) r11))) else ((f_X11_refuse N (-6) r8.2).bind (fun r16 => some (r16.1, r16.2))))
def f_X11_going_J10 (N : Nat) (a1 a2 b0 : Int32) (σ : Sg) : Option (Int32 × Sg) :=
  (f_X11_isLetter N a1 σ).bind (fun r2 => if r2.1 = 0 then (f_X11_going_J36 N r2.2) else (if b0 = 0 then ((f_X5_has N 2 a2 r2.2).bind (fun r18 => if r18.1 = 0 then (f_X11_going_J36 N r18.2) else (f_X11_going_J42 N a1 a2 b0 r18.2))) else (f_X11_going_J42 N a1 a2 b0 r2.2)))
def f_X11_going (N : Nat) (x1 x2 : Int32) (σ : Sg) : Option (Int32 × Sg) :=
  if x2 = (-1) then (f_X11_going_J10 N x1 x2 1 σ) else (f_X11_going_J10 N x1 x2 0 σ)
set_option maxHeartbeats 4000000 in
set_option maxRecDepth 20000 in
theorem m_X11_going (l : Launch) (E : Ev) (N : Nat) (x1 x2 : Int32) (σ : Sg) (R : Int32 × Sg) (hf : f_X11_going N x1 x2 σ = some R) : Ct l E YX11_going [.ref (E.2.1 0), .int x1, .int x2] σ (some (.int R.1), R.2) := by
  refine ct_of (by decide +kernel) (Nat.le_of_ble_eq_true rfl) [(0, .ref (E.2.1 0)), (1, .int x1), (2, .int x2)] rfl (fun X hX C => ?_)
  have hJ36 : ∀ (σ : Sg), f_X11_going_J36 N σ = some R → Zz E X YX11_going (some (.int R.1), R.2) σ 36 [(0, .ref (E.2.1 0))] [] := by
    intro σ hf
    unfold f_X11_going_J36 at hf
    refine z_aload_n C dX11_going_36 0 rfl ?_
    refine z_iconst (v := (-1)) C dX11_going_37 (by decide) ?_
    obtain ⟨r5, h6, hf⟩ := bd_some hf
    refine z_callV (Y2 := YX11_refuse) (CC := RX11) (T := TX11) (N := 8) (ci := 10) (As := [.int (-1)]) C lk_X11_refuse (by decide) wc_main rfl t_262 t_264 p_0 (Nat.le_of_ble_eq_true rfl) (Nat.le_of_ble_eq_true rfl) dX11_going_38 (Nat.le_of_ble_eq_true rfl) rfl rfl (m_X11_refuse X.2.1 E N (-1) σ _ h6) ?_
    change Zz E X YX11_going (some (.int R.1), R.2) r5.2 _ _ [.int r5.1]
    exact z_iret C dX11_going_41 rfl (by rw [← Option.some.inj hf])
  have hJ90 : ∀ (b0 : Int32) (σ : Sg), f_X11_going_J90 N b0 σ = some R → Zz E X YX11_going (some (.int R.1), R.2) σ 90 [(0, .ref (E.2.1 0))] [.int b0, .ref (E.2.1 15)] := by
    intro b0 σ hf
    unfold f_X11_going_J90 at hf
    obtain ⟨r14, h15, hf⟩ := bd_some hf
    refine z_callV (Y2 := YX4_add) (CC := RX4) (T := TX4) (N := 2) (ci := 3) (As := [.int b0]) C lk_X4_add (lt_nu nu_15) (wc_nu nu_15) rfl t_270 t_271 t_272 (Nat.le_of_ble_eq_true rfl) (Nat.le_of_ble_eq_true rfl) dX11_going_90 (Nat.le_of_ble_eq_true rfl) rfl rfl (m_X4_add X.2.1 E N 15 nu_15 b0 σ _ h15) ?_
    change Zz E X YX11_going (some (.int R.1), R.2) r14 _ _ []
    refine z_aload_n C dX11_going_93 0 rfl ?_
    refine z_get (v := .ref (E.2.1 1)) (T := TX11) (N := 8) (ci := 10) C (by decide) wc_main rfl in_X11 0 (by decide) t_233 rfl dX11_going_94 ?_
    refine z_getN (v := .ref (E.2.1 13)) (T := TX9) (N := 11) (ci := 8) C (lt_st st_1) (wc_st st_1) rfl in_X9 5 (by decide) n_97 rfl dX11_going_97 ?_
    refine z_getN (v := .int (r14 13 1)) (T := TX4) (N := 2) (ci := 3) C (lt_nu nu_13) (wc_nu nu_13) rfl in_X4 1 (by decide) n_69 rfl dX11_going_100 ?_
    exact z_iret C dX11_going_103 rfl (by rw [← Option.some.inj hf])
  have hJ42 : ∀ (a1 a2 a3 : Int32) (σ : Sg), f_X11_going_J42 N a1 a2 a3 σ = some R → Zz E X YX11_going (some (.int R.1), R.2) σ 42 [(0, .ref (E.2.1 0)), (1, .int a1), (2, .int a2), (3, .int a3)] [] := by
    intro a1 a2 a3 σ hf
    unfold f_X11_going_J42 at hf
    refine z_aload_n C dX11_going_42 0 rfl ?_
    refine z_get (v := .ref (E.2.1 1)) (T := TX11) (N := 8) (ci := 10) C (by decide) wc_main rfl in_X11 0 (by decide) t_233 rfl dX11_going_43 ?_
    refine z_getN (v := .ref (E.2.1 13)) (T := TX9) (N := 11) (ci := 8) C (lt_st st_1) (wc_st st_1) rfl in_X9 5 (by decide) n_97 rfl dX11_going_46 ?_
    obtain ⟨r8, h9, hf⟩ := bd_some hf
    refine z_callV (Y2 := YX4_isFull) (CC := RX4) (T := TX4) (N := 2) (ci := 3) (As := []) C lk_X4_isFull (lt_nu nu_13) (wc_nu nu_13) rfl t_266 t_267 t_268 (Nat.le_of_ble_eq_true rfl) (Nat.le_of_ble_eq_true rfl) dX11_going_49 (Nat.le_of_ble_eq_true rfl) rfl rfl (m_X4_isFull X.2.1 E N 13 nu_13 σ _ h9) ?_
    change Zz E X YX11_going (some (.int R.1), R.2) r8.2 _ _ [.int r8.1]
    refine z_if_eq (tgt := 62) C dX11_going_52 (by decide) (fun h10 => ?_) (fun h10 => ?_)
    · replace hf := ifp hf h10
      refine z_aload_n C dX11_going_62 0 rfl ?_
      refine z_get (v := .ref (E.2.1 1)) (T := TX11) (N := 8) (ci := 10) C (by decide) wc_main rfl in_X11 0 (by decide) t_233 rfl dX11_going_63 ?_
      refine z_getN (v := .ref (E.2.1 13)) (T := TX9) (N := 11) (ci := 8) C (lt_st st_1) (wc_st st_1) rfl in_X9 5 (by decide) n_97 rfl dX11_going_66 ?_
      refine z_iload_n C dX11_going_69 1 rfl ?_
      obtain ⟨r11, h12, hf⟩ := bd_some hf
      refine z_callV (Y2 := YX4_add) (CC := RX4) (T := TX4) (N := 2) (ci := 3) (As := [.int a1]) C lk_X4_add (lt_nu nu_13) (wc_nu nu_13) rfl t_270 t_271 t_272 (Nat.le_of_ble_eq_true rfl) (Nat.le_of_ble_eq_true rfl) dX11_going_70 (Nat.le_of_ble_eq_true rfl) rfl rfl (m_X4_add X.2.1 E N 13 nu_13 a1 r8.2 _ h12) ?_
      change Zz E X YX11_going (some (.int R.1), R.2) r11 _ _ []
      refine z_aload_n C dX11_going_73 0 rfl ?_
      refine z_get (v := .ref (E.2.1 1)) (T := TX11) (N := 8) (ci := 10) C (by decide) wc_main rfl in_X11 0 (by decide) t_233 rfl dX11_going_74 ?_
      refine z_getN (v := .ref (E.2.1 15)) (T := TX9) (N := 11) (ci := 8) C (lt_st st_1) (wc_st st_1) rfl in_X9 6 (by decide) n_100 rfl dX11_going_77 ?_
      refine z_iload_n C dX11_going_80 3 rfl ?_
      refine z_if_eq (tgt := 89) C dX11_going_81 (by decide) (fun h13 => ?_) (fun h13 => ?_)
      · replace hf := ifp hf h13
        refine z_iload_n C dX11_going_89 2 rfl ?_
        refine z_sub [(0, .ref (E.2.1 0))] [0] rfl ?_
        exact hJ90 a2 r11 hf
      · replace hf := ifn hf h13
        refine z_bipush (v := (-9)) C dX11_going_84 (by decide) ?_
        refine z_goto (tgt := 90) C dX11_going_86 (by decide) ?_
        refine z_sub [(0, .ref (E.2.1 0))] [0] rfl ?_
        exact hJ90 (-9) r11 hf
    · replace hf := ifn hf h10
      refine z_aload_n C dX11_going_55 0 rfl ?_
      refine z_bipush (v := (-6)) C dX11_going_56 (by decide) ?_
      obtain ⟨r16, h17, hf⟩ := bd_some hf
      refine z_callV (Y2 := YX11_refuse) (CC := RX11) (T := TX11) (N := 8) (ci := 10) (As := [.int (-6)]) C lk_X11_refuse (by decide) wc_main rfl t_262 t_264 p_0 (Nat.le_of_ble_eq_true rfl) (Nat.le_of_ble_eq_true rfl) dX11_going_58 (Nat.le_of_ble_eq_true rfl) rfl rfl (m_X11_refuse X.2.1 E N (-6) r8.2 _ h17) ?_
      change Zz E X YX11_going (some (.int R.1), R.2) r16.2 _ _ [.int r16.1]
      exact z_iret C dX11_going_61 rfl (by rw [← Option.some.inj hf])
  have hJ10 : ∀ (a1 a2 b0 : Int32) (σ : Sg), f_X11_going_J10 N a1 a2 b0 σ = some R → Zz E X YX11_going (some (.int R.1), R.2) σ 10 [(0, .ref (E.2.1 0)), (1, .int a1), (2, .int a2)] [.int b0] := by
    intro a1 a2 b0 σ hf
    unfold f_X11_going_J10 at hf
    refine z_istore_n (lv' := [(3, .int b0), (0, .ref (E.2.1 0)), (1, .int a1), (2, .int a2)]) C dX11_going_10 (by decide) rfl ?_
    refine z_iload_n C dX11_going_11 2 rfl ?_
    obtain ⟨r2, h3, hf⟩ := bd_some hf
    refine z_callS (Y2 := YX11_isLetter) (As := [.int a1]) C lk_X11_isLetter t_474 t_475 (Nat.le_of_ble_eq_true rfl) (Nat.le_of_ble_eq_true rfl) dX11_going_12 (Nat.le_of_ble_eq_true rfl) rfl rfl (m_X11_isLetter X.2.1 E N a1 σ _ h3) ?_
    change Zz E X YX11_going (some (.int R.1), R.2) r2.2 _ _ [.int r2.1]
    refine z_if_eq (tgt := 36) C dX11_going_15 (by decide) (fun h4 => ?_) (fun h4 => ?_)
    · replace hf := ifp hf h4
      refine z_sub [(0, .ref (E.2.1 0))] [1] rfl ?_
      exact hJ36 r2.2 hf
    · replace hf := ifn hf h4
      refine z_iload_n C dX11_going_18 0 rfl ?_
      refine z_if_ne (tgt := 42) C dX11_going_19 (by decide) (fun h7 => ?_) (fun h7 => ?_)
      · replace hf := ifn hf h7
        refine z_sub [(0, .ref (E.2.1 0)), (1, .int a1), (2, .int a2), (3, .int b0)] [1, 2, 3, 0] rfl ?_
        exact hJ42 a1 a2 b0 r2.2 hf
      · replace hf := ifp hf h7
        refine z_aload_n C dX11_going_22 1 rfl ?_
        refine z_get (v := .ref (E.2.1 1)) (T := TX11) (N := 8) (ci := 10) C (by decide) wc_main rfl in_X11 0 (by decide) t_233 rfl dX11_going_23 ?_
        refine z_getN (v := .ref (E.2.1 2)) (T := TX9) (N := 11) (ci := 8) C (lt_st st_1) (wc_st st_1) rfl in_X9 0 (by decide) n_78 rfl dX11_going_26 ?_
        refine z_iload_n C dX11_going_29 3 rfl ?_
        obtain ⟨r18, h19, hf⟩ := bd_some hf
        refine z_callV (Y2 := YX5_has) (CC := RX5) (T := TX5) (N := 3) (ci := 4) (As := [.int a2]) C lk_X5_has (lt_pe pe_2) (wc_pe pe_2) rfl t_448 t_424 t_425 (Nat.le_of_ble_eq_true rfl) (Nat.le_of_ble_eq_true rfl) dX11_going_30 (Nat.le_of_ble_eq_true rfl) rfl rfl (m_X5_has X.2.1 E N 2 pe_2 a2 r2.2 _ h19) ?_
        change Zz E X YX11_going (some (.int R.1), R.2) r18.2 _ _ [.int r18.1]
        refine z_if_ne (tgt := 42) C dX11_going_33 (by decide) (fun h20 => ?_) (fun h20 => ?_)
        · replace hf := ifn hf h20
          refine z_sub [(0, .ref (E.2.1 0)), (1, .int a1), (2, .int a2), (3, .int b0)] [1, 2, 3, 0] rfl ?_
          exact hJ42 a1 a2 b0 r18.2 hf
        · replace hf := ifp hf h20
          refine z_sub [(0, .ref (E.2.1 0))] [1] rfl ?_
          exact hJ36 r18.2 hf
  unfold f_X11_going at hf
  refine z_iload_n C dX11_going_0 2 rfl ?_
  refine z_iconst (v := (-1)) C dX11_going_1 (by decide) ?_
  refine z_icmp_ne (tgt := 9) C dX11_going_2 (by decide) (fun h1 => ?_) (fun h1 => ?_)
  · replace hf := ifn hf h1
    refine z_iconst (v := 0) C dX11_going_9 (by decide) ?_
    refine z_sub [(0, .ref (E.2.1 0)), (1, .int x1), (2, .int x2)] [0, 1, 2] rfl ?_
    exact hJ10 x1 x2 0 σ hf
  · replace hf := ifp hf h1
    refine z_iconst (v := 1) C dX11_going_5 (by decide) ?_
    refine z_goto (tgt := 10) C dX11_going_6 (by decide) ?_
    refine z_sub [(0, .ref (E.2.1 0)), (1, .int x1), (2, .int x2)] [0, 1, 2] rfl ?_
    exact hJ10 x1 x2 1 σ hf
theorem lk_X11_going {Y : Yv} : Lk Y YX11_going 2 := ⟨t_702, t_1, ⟨by decide +kernel, by decide +kernel⟩, by decide +kernel⟩
abbrev YX11_leastOf : Yv := (yX11_leastOf, cX11_leastOf, 2, some .int, 0, 0)
def f_X11_leastOf_B2 (N : Nat) (rec : Int32 → Int32 → Sg → Option ((Sg) ⊕ (Int32 × Sg))) (a0 a1 : Int32) (σ : Sg) : Option ((Sg) ⊕ (Int32 × Sg)) :=
  if 30 < a1 then (some (.inl σ)) else (if ((a0 >>> (a1 &&& 31)) &&& 1) = 1 then (some (.inr (a1, σ))) else (rec a0 (a1 + 1) σ))
def f_X11_leastOf_L2 (N : Nat) : Nat → Int32 → Int32 → Sg → Option ((Sg) ⊕ (Int32 × Sg))
  | 0 => fun _ _ _ => none
  | k + 1 => fun a0 a1 σ => f_X11_leastOf_B2 N (f_X11_leastOf_L2 N k) a0 a1 σ
def f_X11_leastOf (N : Nat) (x1 : Int32) (σ : Sg) : Option (Int32 × Sg) :=
  ex1 (f_X11_leastOf_L2 N N x1 0 σ) (fun s3 => some ((-9), s3)) (fun r4 => some r4)
set_option maxHeartbeats 4000000 in
set_option maxRecDepth 20000 in
theorem m_X11_leastOf (l : Launch) (E : Ev) (N : Nat) (x1 : Int32) (σ : Sg) (R : Int32 × Sg) (hf : f_X11_leastOf N x1 σ = some R) : Ct l E YX11_leastOf [.int x1] σ (some (.int R.1), R.2) := by
  refine ct_of (by decide +kernel) (Nat.le_of_ble_eq_true rfl) [(0, .int x1)] rfl (fun X hX C => ?_)
  have hL2 : ∀ (k : Nat) (a0 a1 : Int32) (σ : Sg) (Q2 : (Sg) ⊕ (Int32 × Sg)), f_X11_leastOf_L2 N k a0 a1 σ = some Q2 → (∀ S, Q2 = .inl S → Zz E X YX11_leastOf (some (.int R.1), R.2) S 25 [] []) → (∀ r, Q2 = .inr r → ((some (.int R.1), R.2) : Pv) = (some (.int r.1), r.2)) → Zz E X YX11_leastOf (some (.int R.1), R.2) σ 2 [(0, .int a0), (1, .int a1)] [] := by
    intro k
    induction k with
    | zero =>
      intro a0 a1 σ Q2 hf
      have hf : (none : Option ((Sg) ⊕ (Int32 × Sg))) = some Q2 := hf
      cases hf
    | succ k ih =>
      intro a0 a1 σ Q2 hf hx2 hr2
      have hf : f_X11_leastOf_B2 N (f_X11_leastOf_L2 N k) a0 a1 σ = some Q2 := hf
      unfold f_X11_leastOf_B2 at hf
      refine z_iload_n C dX11_leastOf_2 1 rfl ?_
      refine z_bipush (v := 30) C dX11_leastOf_3 (by decide) ?_
      refine z_icmp_gt (tgt := 25) C dX11_leastOf_5 (by decide) (fun h1 => ?_) (fun h1 => ?_)
      · replace hf := ifp hf h1
        refine z_sub [] [] rfl ?_
        exact hx2 _ (Option.some.inj hf).symm
      · replace hf := ifn hf h1
        refine z_iload_n C dX11_leastOf_8 0 rfl ?_
        refine z_iload_n C dX11_leastOf_9 1 rfl ?_
        refine z_ishr C dX11_leastOf_10 ?_
        refine z_iconst (v := 1) C dX11_leastOf_11 (by decide) ?_
        refine z_iand C dX11_leastOf_12 ?_
        refine z_iconst (v := 1) C dX11_leastOf_13 (by decide) ?_
        refine z_icmp_ne (tgt := 19) C dX11_leastOf_14 (by decide) (fun h2 => ?_) (fun h2 => ?_)
        · replace hf := ifn hf h2
          refine z_iinc (v := (a1 + 1)) (lv' := [(1, .int (a1 + 1)), (0, .int a0)]) C dX11_leastOf_19 1 rfl rfl (by decide) rfl ?_
          refine z_goto (tgt := 2) C dX11_leastOf_22 (by decide) ?_
          refine z_sub [(0, .int a0), (1, .int (a1 + 1))] [1, 0] rfl ?_
          exact ih a0 (a1 + 1) σ _ hf hx2 hr2
        · replace hf := ifp hf h2
          refine z_iload_n C dX11_leastOf_17 1 rfl ?_
          have hq := hr2 _ (Option.some.inj hf).symm
          exact z_iret C dX11_leastOf_18 rfl hq
  unfold f_X11_leastOf at hf
  refine z_iconst (v := 0) C dX11_leastOf_0 (by decide) ?_
  refine z_istore_n (lv' := [(1, .int 0), (0, .int x1)]) C dX11_leastOf_1 (by decide) rfl ?_
  refine z_sub [(0, .int x1), (1, .int 0)] [1, 0] rfl ?_
  rcases ex1_some hf with ⟨s3, h5, hf⟩ | ⟨r4, h5, hf⟩
  · refine hL2 N x1 0 σ _ h5 (fun S e => ?_) (fun _ e => nomatch e)
    cases e
    refine z_bipush (v := (-9)) C dX11_leastOf_25 (by decide) ?_
    exact z_iret C dX11_leastOf_27 rfl (by rw [← Option.some.inj hf])
  · refine hL2 N x1 0 σ _ h5 (fun _ e => nomatch e) (fun r e => ?_)
    cases e
    exact (by rw [← Option.some.inj hf])
theorem lk_X11_leastOf {Y : Yv} : Lk Y YX11_leastOf 1 := ⟨t_719, t_1, ⟨by decide +kernel, by decide +kernel⟩, by decide +kernel⟩
abbrev YX11_greatestOf : Yv := (yX11_greatestOf, cX11_greatestOf, 2, some .int, 0, 0)
def f_X11_greatestOf_B3 (N : Nat) (rec : Int32 → Int32 → Sg → Option ((Sg) ⊕ (Int32 × Sg))) (a0 a1 : Int32) (σ : Sg) : Option ((Sg) ⊕ (Int32 × Sg)) :=
  if a1 < 0 then (some (.inl σ)) else (if ((a0 >>> (a1 &&& 31)) &&& 1) = 1 then (some (.inr (a1, σ))) else (rec a0 (a1 + (-1)) σ))
def f_X11_greatestOf_L3 (N : Nat) : Nat → Int32 → Int32 → Sg → Option ((Sg) ⊕ (Int32 × Sg))
  | 0 => fun _ _ _ => none
  | k + 1 => fun a0 a1 σ => f_X11_greatestOf_B3 N (f_X11_greatestOf_L3 N k) a0 a1 σ
def f_X11_greatestOf (N : Nat) (x1 : Int32) (σ : Sg) : Option (Int32 × Sg) :=
  ex1 (f_X11_greatestOf_L3 N N x1 30 σ) (fun s3 => some ((-9), s3)) (fun r4 => some r4)
set_option maxHeartbeats 4000000 in
set_option maxRecDepth 20000 in
theorem m_X11_greatestOf (l : Launch) (E : Ev) (N : Nat) (x1 : Int32) (σ : Sg) (R : Int32 × Sg) (hf : f_X11_greatestOf N x1 σ = some R) : Ct l E YX11_greatestOf [.int x1] σ (some (.int R.1), R.2) := by
  refine ct_of (by decide +kernel) (Nat.le_of_ble_eq_true rfl) [(0, .int x1)] rfl (fun X hX C => ?_)
  have hL3 : ∀ (k : Nat) (a0 a1 : Int32) (σ : Sg) (Q3 : (Sg) ⊕ (Int32 × Sg)), f_X11_greatestOf_L3 N k a0 a1 σ = some Q3 → (∀ S, Q3 = .inl S → Zz E X YX11_greatestOf (some (.int R.1), R.2) S 24 [] []) → (∀ r, Q3 = .inr r → ((some (.int R.1), R.2) : Pv) = (some (.int r.1), r.2)) → Zz E X YX11_greatestOf (some (.int R.1), R.2) σ 3 [(0, .int a0), (1, .int a1)] [] := by
    intro k
    induction k with
    | zero =>
      intro a0 a1 σ Q3 hf
      have hf : (none : Option ((Sg) ⊕ (Int32 × Sg))) = some Q3 := hf
      cases hf
    | succ k ih =>
      intro a0 a1 σ Q3 hf hx3 hr3
      have hf : f_X11_greatestOf_B3 N (f_X11_greatestOf_L3 N k) a0 a1 σ = some Q3 := hf
      unfold f_X11_greatestOf_B3 at hf
      refine z_iload_n C dX11_greatestOf_3 1 rfl ?_
      refine z_if_lt (tgt := 24) C dX11_greatestOf_4 (by decide) (fun h1 => ?_) (fun h1 => ?_)
      · replace hf := ifp hf h1
        refine z_sub [] [] rfl ?_
        exact hx3 _ (Option.some.inj hf).symm
      · replace hf := ifn hf h1
        refine z_iload_n C dX11_greatestOf_7 0 rfl ?_
        refine z_iload_n C dX11_greatestOf_8 1 rfl ?_
        refine z_ishr C dX11_greatestOf_9 ?_
        refine z_iconst (v := 1) C dX11_greatestOf_10 (by decide) ?_
        refine z_iand C dX11_greatestOf_11 ?_
        refine z_iconst (v := 1) C dX11_greatestOf_12 (by decide) ?_
        refine z_icmp_ne (tgt := 18) C dX11_greatestOf_13 (by decide) (fun h2 => ?_) (fun h2 => ?_)
        · replace hf := ifn hf h2
          refine z_iinc (v := (a1 + (-1))) (lv' := [(1, .int (a1 + (-1))), (0, .int a0)]) C dX11_greatestOf_18 1 rfl rfl (by decide) rfl ?_
          refine z_goto (tgt := 3) C dX11_greatestOf_21 (by decide) ?_
          refine z_sub [(0, .int a0), (1, .int (a1 + (-1)))] [1, 0] rfl ?_
          exact ih a0 (a1 + (-1)) σ _ hf hx3 hr3
        · replace hf := ifp hf h2
          refine z_iload_n C dX11_greatestOf_16 1 rfl ?_
          have hq := hr3 _ (Option.some.inj hf).symm
          exact z_iret C dX11_greatestOf_17 rfl hq
  unfold f_X11_greatestOf at hf
  refine z_bipush (v := 30) C dX11_greatestOf_0 (by decide) ?_
  refine z_istore_n (lv' := [(1, .int 30), (0, .int x1)]) C dX11_greatestOf_2 (by decide) rfl ?_
  refine z_sub [(0, .int x1), (1, .int 30)] [1, 0] rfl ?_
  rcases ex1_some hf with ⟨s3, h5, hf⟩ | ⟨r4, h5, hf⟩
  · refine hL3 N x1 30 σ _ h5 (fun S e => ?_) (fun _ e => nomatch e)
    cases e
    refine z_bipush (v := (-9)) C dX11_greatestOf_24 (by decide) ?_
    exact z_iret C dX11_greatestOf_26 rfl (by rw [← Option.some.inj hf])
  · refine hL3 N x1 30 σ _ h5 (fun _ e => nomatch e) (fun r e => ?_)
    cases e
    exact (by rw [← Option.some.inj hf])
theorem lk_X11_greatestOf {Y : Yv} : Lk Y YX11_greatestOf 1 := ⟨t_722, t_1, ⟨by decide +kernel, by decide +kernel⟩, by decide +kernel⟩
abbrev YX11_think : Yv := (yX11_think, cX11_think, 5, some .int, 5, 129)
def f_X11_think_J24 (N : Nat) (σ : Sg) : Option (Int32 × Sg) :=
  (f_X11_refuse N (-2) σ).bind (fun r5 => some (r5.1, r5.2))
def f_X11_think (N : Nat) (x1 x2 x3 : Int32) (σ : Sg) : Option (Int32 × Sg) :=
  (f_X11_isPlace N x1 x2 σ).bind (fun r1 => if r1.1 = 0 then ((f_X11_refuse N (-1) r1.2).bind (fun r20 => some (r20.1, r20.2))) else (if x3 < 0 then (f_X11_think_J24 N r1.2) else (if x3 ≤ 2 then ((f_X11_lawNow N r1.2).bind (fun r8 => (f_X2_fittingValues N 1 r8.1 x1 x2 r8.2).bind (fun r10 => if x3 = 2 then ((f_J6_bitCount_0f7a4 N r10.1 r10.2).bind (fun r18 => some (r18.1, r18.2))) else (if x3 = 0 then ((f_X11_leastOf N r10.1 r10.2).bind (fun r16 => some (r16.1, r16.2))) else ((f_X11_greatestOf N r10.1 r10.2).bind (fun r14 => some (r14.1, r14.2))))))) else (f_X11_think_J24 N r1.2))))
set_option maxHeartbeats 4000000 in
set_option maxRecDepth 20000 in
theorem m_X11_think (l : Launch) (E : Ev) (N : Nat) (x1 x2 x3 : Int32) (σ : Sg) (R : Int32 × Sg) (hf : f_X11_think N x1 x2 x3 σ = some R) : Ct l E YX11_think [.ref (E.2.1 0), .int x1, .int x2, .int x3] σ (some (.int R.1), R.2) := by
  refine ct_of (by decide +kernel) (Nat.le_of_ble_eq_true rfl) [(0, .ref (E.2.1 0)), (1, .int x1), (2, .int x2), (3, .int x3)] rfl (fun X hX C => ?_)
  have hJ24 : ∀ (σ : Sg), f_X11_think_J24 N σ = some R → Zz E X YX11_think (some (.int R.1), R.2) σ 24 [(0, .ref (E.2.1 0))] [] := by
    intro σ hf
    unfold f_X11_think_J24 at hf
    refine z_aload_n C dX11_think_24 0 rfl ?_
    refine z_bipush (v := (-2)) C dX11_think_25 (by decide) ?_
    obtain ⟨r5, h6, hf⟩ := bd_some hf
    refine z_callV (Y2 := YX11_refuse) (CC := RX11) (T := TX11) (N := 8) (ci := 10) (As := [.int (-2)]) C lk_X11_refuse (by decide) wc_main rfl t_262 t_264 p_0 (Nat.le_of_ble_eq_true rfl) (Nat.le_of_ble_eq_true rfl) dX11_think_27 (Nat.le_of_ble_eq_true rfl) rfl rfl (m_X11_refuse X.2.1 E N (-2) σ _ h6) ?_
    change Zz E X YX11_think (some (.int R.1), R.2) r5.2 _ _ [.int r5.1]
    exact z_iret C dX11_think_30 rfl (by rw [← Option.some.inj hf])
  unfold f_X11_think at hf
  refine z_aload_n C dX11_think_0 0 rfl ?_
  refine z_iload_n C dX11_think_1 1 rfl ?_
  refine z_iload_n C dX11_think_2 2 rfl ?_
  obtain ⟨r1, h2, hf⟩ := bd_some hf
  refine z_callV (Y2 := YX11_isPlace) (CC := RX11) (T := TX11) (N := 8) (ci := 10) (As := [.int x1, .int x2]) C lk_X11_isPlace (by decide) wc_main rfl t_444 t_446 p_15 (Nat.le_of_ble_eq_true rfl) (Nat.le_of_ble_eq_true rfl) dX11_think_3 (Nat.le_of_ble_eq_true rfl) rfl rfl (m_X11_isPlace X.2.1 E N x1 x2 σ _ h2) ?_
  change Zz E X YX11_think (some (.int R.1), R.2) r1.2 _ _ [.int r1.1]
  refine z_if_ne (tgt := 15) C dX11_think_6 (by decide) (fun h3 => ?_) (fun h3 => ?_)
  · replace hf := ifn hf h3
    refine z_iload_n C dX11_think_15 3 rfl ?_
    refine z_if_lt (tgt := 24) C dX11_think_16 (by decide) (fun h4 => ?_) (fun h4 => ?_)
    · replace hf := ifp hf h4
      refine z_sub [(0, .ref (E.2.1 0))] [0] rfl ?_
      exact hJ24 r1.2 hf
    · replace hf := ifn hf h4
      refine z_iload_n C dX11_think_19 3 rfl ?_
      refine z_iconst (v := 2) C dX11_think_20 (by decide) ?_
      refine z_icmp_le (tgt := 31) C dX11_think_21 (by decide) (fun h7 => ?_) (fun h7 => ?_)
      · replace hf := ifp hf h7
        refine z_aload_n C dX11_think_31 0 rfl ?_
        refine z_get (v := .ref (E.2.1 53)) (T := TX11) (N := 8) (ci := 10) C (by decide) wc_main rfl in_X11 3 (by decide) t_236 rfl dX11_think_32 ?_
        refine z_aload_n C dX11_think_35 0 rfl ?_
        refine z_get (v := .ref (E.2.1 1)) (T := TX11) (N := 8) (ci := 10) C (by decide) wc_main rfl in_X11 0 (by decide) t_233 rfl dX11_think_36 ?_
        refine z_aload_n C dX11_think_39 0 rfl ?_
        obtain ⟨r8, h9, hf⟩ := bd_some hf
        refine z_callV (Y2 := YX11_lawNow) (CC := RX11) (T := TX11) (N := 8) (ci := 10) (As := []) C lk_X11_lawNow (by decide) wc_main rfl t_477 t_479 p_16 (Nat.le_of_ble_eq_true rfl) (Nat.le_of_ble_eq_true rfl) dX11_think_40 (Nat.le_of_ble_eq_true rfl) rfl rfl (m_X11_lawNow X.2.1 E N r1.2 _ h9) ?_
        change Zz E X YX11_think (some (.int R.1), R.2) r8.2 _ _ [.ref (E.2.1 r8.1), .ref (E.2.1 1), .ref (E.2.1 53)]
        refine z_iload_n C dX11_think_43 1 rfl ?_
        refine z_iload_n C dX11_think_44 2 rfl ?_
        obtain ⟨r10, h11, hf⟩ := bd_some hf
        refine z_callV (Y2 := YX2_fittingValues) (CC := RX2) (T := TX2) (N := 5) (ci := 1) (As := [.ref (E.2.1 1), .ref (E.2.1 r8.1), .int x1, .int x2]) C lk_X2_fittingValues (by decide) wc_mi rfl t_707 t_708 t_709 (Nat.le_of_ble_eq_true rfl) (Nat.le_of_ble_eq_true rfl) dX11_think_45 (Nat.le_of_ble_eq_true rfl) rfl rfl (m_X2_fittingValues X.2.1 E N 1 r8.1 st_1 (la_now h9) x1 x2 r8.2 _ h11) ?_
        change Zz E X YX11_think (some (.int R.1), R.2) r10.2 _ _ [.int r10.1]
        refine z_istore (lv' := [(4, .int r10.1), (0, .ref (E.2.1 0)), (1, .int x1), (2, .int x2), (3, .int x3)]) C dX11_think_48 (by decide) rfl ?_
        refine z_iload_n C dX11_think_50 4 rfl ?_
        refine z_iconst (v := 2) C dX11_think_51 (by decide) ?_
        refine z_icmp_ne (tgt := 61) C dX11_think_52 (by decide) (fun h12 => ?_) (fun h12 => ?_)
        · replace hf := ifn hf h12
          refine z_iload_n C dX11_think_61 4 rfl ?_
          refine z_if_ne (tgt := 73) C dX11_think_62 (by decide) (fun h13 => ?_) (fun h13 => ?_)
          · replace hf := ifn hf h13
            refine z_iload C dX11_think_73 0 rfl ?_
            obtain ⟨r14, h15, hf⟩ := bd_some hf
            refine z_callS (Y2 := YX11_greatestOf) (As := [.int r10.1]) C lk_X11_greatestOf t_720 t_721 (Nat.le_of_ble_eq_true rfl) (Nat.le_of_ble_eq_true rfl) dX11_think_75 (Nat.le_of_ble_eq_true rfl) rfl rfl (m_X11_greatestOf X.2.1 E N r10.1 r10.2 _ h15) ?_
            change Zz E X YX11_think (some (.int R.1), R.2) r14.2 _ _ [.int r14.1]
            exact z_iret C dX11_think_78 rfl (by rw [← Option.some.inj hf])
          · replace hf := ifp hf h13
            refine z_iload C dX11_think_65 0 rfl ?_
            obtain ⟨r16, h17, hf⟩ := bd_some hf
            refine z_callS (Y2 := YX11_leastOf) (As := [.int r10.1]) C lk_X11_leastOf t_717 t_718 (Nat.le_of_ble_eq_true rfl) (Nat.le_of_ble_eq_true rfl) dX11_think_67 (Nat.le_of_ble_eq_true rfl) rfl rfl (m_X11_leastOf X.2.1 E N r10.1 r10.2 _ h17) ?_
            change Zz E X YX11_think (some (.int R.1), R.2) r16.2 _ _ [.int r16.1]
            refine z_goto (tgt := 78) C dX11_think_70 (by decide) ?_
            exact z_iret C dX11_think_78 rfl (by rw [← Option.some.inj hf])
        · replace hf := ifp hf h12
          refine z_iload C dX11_think_55 0 rfl ?_
          obtain ⟨r18, h19, hf⟩ := bd_some hf
          refine z_callS (Y2 := YJ6_bitCount_0f7a4) (As := [.int r10.1]) C lk_J6_bitCount_0f7a4 t_716 t_692 (Nat.le_of_ble_eq_true rfl) (Nat.le_of_ble_eq_true rfl) dX11_think_57 (Nat.le_of_ble_eq_true rfl) rfl rfl (m_J6_bitCount_0f7a4 X.2.1 E N r10.1 r10.2 _ h19) ?_
          change Zz E X YX11_think (some (.int R.1), R.2) r18.2 _ _ [.int r18.1]
          exact z_iret C dX11_think_60 rfl (by rw [← Option.some.inj hf])
      · replace hf := ifn hf h7
        refine z_sub [(0, .ref (E.2.1 0))] [0] rfl ?_
        exact hJ24 r1.2 hf
  · replace hf := ifp hf h3
    refine z_aload_n C dX11_think_9 0 rfl ?_
    refine z_iconst (v := (-1)) C dX11_think_10 (by decide) ?_
    obtain ⟨r20, h21, hf⟩ := bd_some hf
    refine z_callV (Y2 := YX11_refuse) (CC := RX11) (T := TX11) (N := 8) (ci := 10) (As := [.int (-1)]) C lk_X11_refuse (by decide) wc_main rfl t_262 t_264 p_0 (Nat.le_of_ble_eq_true rfl) (Nat.le_of_ble_eq_true rfl) dX11_think_11 (Nat.le_of_ble_eq_true rfl) rfl rfl (m_X11_refuse X.2.1 E N (-1) r1.2 _ h21) ?_
    change Zz E X YX11_think (some (.int R.1), R.2) r20.2 _ _ [.int r20.1]
    exact z_iret C dX11_think_14 rfl (by rw [← Option.some.inj hf])
theorem lk_X11_think {Y : Yv} : Lk Y YX11_think 3 := ⟨t_706, t_1, ⟨by decide +kernel, by decide +kernel⟩, by decide +kernel⟩
abbrev YX11_tell : Yv := (yX11_tell, cX11_tell, 4, some .int, 5, 136)
def f_X11_tell (N : Nat) (x1 x2 : Int32) (σ : Sg) : Option (Int32 × Sg) :=
  (f_X11_isPlace N x1 x2 σ).bind (fun r1 => if r1.1 = 0 then ((f_X11_refuse N (-1) r1.2).bind (fun r15 => some (r15.1, r15.2))) else ((f_X11_lawNow N r1.2).bind (fun r4 => (f_X2_fittingValues N 1 r4.1 x1 x2 r4.2).bind (fun r6 => if r6.1 = 0 then ((f_X11_refuse N (-3) r6.2).bind (fun r13 => some (r13.1, r13.2))) else ((f_X11_lawNow N r6.2).bind (fun r9 => (f_X2_mostTelling N 2 r9.1 x1 x2 r6.1 r9.2).bind (fun r11 => some (r11.1, r11.2))))))))
set_option maxHeartbeats 4000000 in
set_option maxRecDepth 20000 in
theorem m_X11_tell (l : Launch) (E : Ev) (N : Nat) (x1 x2 : Int32) (σ : Sg) (R : Int32 × Sg) (hf : f_X11_tell N x1 x2 σ = some R) : Ct l E YX11_tell [.ref (E.2.1 0), .int x1, .int x2] σ (some (.int R.1), R.2) := by
  refine ct_of (by decide +kernel) (Nat.le_of_ble_eq_true rfl) [(0, .ref (E.2.1 0)), (1, .int x1), (2, .int x2)] rfl (fun X hX C => ?_)
  unfold f_X11_tell at hf
  refine z_aload_n C dX11_tell_0 0 rfl ?_
  refine z_iload_n C dX11_tell_1 1 rfl ?_
  refine z_iload_n C dX11_tell_2 2 rfl ?_
  obtain ⟨r1, h2, hf⟩ := bd_some hf
  refine z_callV (Y2 := YX11_isPlace) (CC := RX11) (T := TX11) (N := 8) (ci := 10) (As := [.int x1, .int x2]) C lk_X11_isPlace (by decide) wc_main rfl t_444 t_446 p_15 (Nat.le_of_ble_eq_true rfl) (Nat.le_of_ble_eq_true rfl) dX11_tell_3 (Nat.le_of_ble_eq_true rfl) rfl rfl (m_X11_isPlace X.2.1 E N x1 x2 σ _ h2) ?_
  change Zz E X YX11_tell (some (.int R.1), R.2) r1.2 _ _ [.int r1.1]
  refine z_if_ne (tgt := 15) C dX11_tell_6 (by decide) (fun h3 => ?_) (fun h3 => ?_)
  · replace hf := ifn hf h3
    refine z_aload_n C dX11_tell_15 0 rfl ?_
    refine z_get (v := .ref (E.2.1 53)) (T := TX11) (N := 8) (ci := 10) C (by decide) wc_main rfl in_X11 3 (by decide) t_236 rfl dX11_tell_16 ?_
    refine z_aload_n C dX11_tell_19 0 rfl ?_
    refine z_get (v := .ref (E.2.1 1)) (T := TX11) (N := 8) (ci := 10) C (by decide) wc_main rfl in_X11 0 (by decide) t_233 rfl dX11_tell_20 ?_
    refine z_aload_n C dX11_tell_23 0 rfl ?_
    obtain ⟨r4, h5, hf⟩ := bd_some hf
    refine z_callV (Y2 := YX11_lawNow) (CC := RX11) (T := TX11) (N := 8) (ci := 10) (As := []) C lk_X11_lawNow (by decide) wc_main rfl t_477 t_479 p_16 (Nat.le_of_ble_eq_true rfl) (Nat.le_of_ble_eq_true rfl) dX11_tell_24 (Nat.le_of_ble_eq_true rfl) rfl rfl (m_X11_lawNow X.2.1 E N r1.2 _ h5) ?_
    change Zz E X YX11_tell (some (.int R.1), R.2) r4.2 _ _ [.ref (E.2.1 r4.1), .ref (E.2.1 1), .ref (E.2.1 53)]
    refine z_iload_n C dX11_tell_27 1 rfl ?_
    refine z_iload_n C dX11_tell_28 2 rfl ?_
    obtain ⟨r6, h7, hf⟩ := bd_some hf
    refine z_callV (Y2 := YX2_fittingValues) (CC := RX2) (T := TX2) (N := 5) (ci := 1) (As := [.ref (E.2.1 1), .ref (E.2.1 r4.1), .int x1, .int x2]) C lk_X2_fittingValues (by decide) wc_mi rfl t_707 t_708 t_709 (Nat.le_of_ble_eq_true rfl) (Nat.le_of_ble_eq_true rfl) dX11_tell_29 (Nat.le_of_ble_eq_true rfl) rfl rfl (m_X2_fittingValues X.2.1 E N 1 r4.1 st_1 (la_now h5) x1 x2 r4.2 _ h7) ?_
    change Zz E X YX11_tell (some (.int R.1), R.2) r6.2 _ _ [.int r6.1]
    refine z_istore_n (lv' := [(3, .int r6.1), (0, .ref (E.2.1 0)), (1, .int x1), (2, .int x2)]) C dX11_tell_32 (by decide) rfl ?_
    refine z_iload_n C dX11_tell_33 0 rfl ?_
    refine z_if_ne (tgt := 44) C dX11_tell_34 (by decide) (fun h8 => ?_) (fun h8 => ?_)
    · replace hf := ifn hf h8
      refine z_aload_n C dX11_tell_44 1 rfl ?_
      refine z_get (v := .ref (E.2.1 53)) (T := TX11) (N := 8) (ci := 10) C (by decide) wc_main rfl in_X11 3 (by decide) t_236 rfl dX11_tell_45 ?_
      refine z_aload_n C dX11_tell_48 1 rfl ?_
      refine z_get (v := .ref (E.2.1 1)) (T := TX11) (N := 8) (ci := 10) C (by decide) wc_main rfl in_X11 0 (by decide) t_233 rfl dX11_tell_49 ?_
      refine z_getN (v := .ref (E.2.1 2)) (T := TX9) (N := 11) (ci := 8) C (lt_st st_1) (wc_st st_1) rfl in_X9 0 (by decide) n_78 rfl dX11_tell_52 ?_
      refine z_aload_n C dX11_tell_55 1 rfl ?_
      obtain ⟨r9, h10, hf⟩ := bd_some hf
      refine z_callV (Y2 := YX11_lawNow) (CC := RX11) (T := TX11) (N := 8) (ci := 10) (As := []) C lk_X11_lawNow (by decide) wc_main rfl t_477 t_479 p_16 (Nat.le_of_ble_eq_true rfl) (Nat.le_of_ble_eq_true rfl) dX11_tell_56 (Nat.le_of_ble_eq_true rfl) rfl rfl (m_X11_lawNow X.2.1 E N r6.2 _ h10) ?_
      change Zz E X YX11_tell (some (.int R.1), R.2) r9.2 _ _ [.ref (E.2.1 r9.1), .ref (E.2.1 2), .ref (E.2.1 53)]
      refine z_iload_n C dX11_tell_59 2 rfl ?_
      refine z_iload_n C dX11_tell_60 3 rfl ?_
      refine z_iload_n C dX11_tell_61 0 rfl ?_
      obtain ⟨r11, h12, hf⟩ := bd_some hf
      refine z_callV (Y2 := YX2_mostTelling) (CC := RX2) (T := TX2) (N := 5) (ci := 1) (As := [.ref (E.2.1 2), .ref (E.2.1 r9.1), .int x1, .int x2, .int r6.1]) C lk_X2_mostTelling (by decide) wc_mi rfl t_727 t_728 t_729 (Nat.le_of_ble_eq_true rfl) (Nat.le_of_ble_eq_true rfl) dX11_tell_62 (Nat.le_of_ble_eq_true rfl) rfl rfl (m_X2_mostTelling X.2.1 E N 2 r9.1 pe_2 (la_now h10) x1 x2 r6.1 r9.2 _ h12) ?_
      change Zz E X YX11_tell (some (.int R.1), R.2) r11.2 _ _ [.int r11.1]
      exact z_iret C dX11_tell_65 rfl (by rw [← Option.some.inj hf])
    · replace hf := ifp hf h8
      refine z_aload_n C dX11_tell_37 1 rfl ?_
      refine z_bipush (v := (-3)) C dX11_tell_38 (by decide) ?_
      obtain ⟨r13, h14, hf⟩ := bd_some hf
      refine z_callV (Y2 := YX11_refuse) (CC := RX11) (T := TX11) (N := 8) (ci := 10) (As := [.int (-3)]) C lk_X11_refuse (by decide) wc_main rfl t_262 t_264 p_0 (Nat.le_of_ble_eq_true rfl) (Nat.le_of_ble_eq_true rfl) dX11_tell_40 (Nat.le_of_ble_eq_true rfl) rfl rfl (m_X11_refuse X.2.1 E N (-3) r6.2 _ h14) ?_
      change Zz E X YX11_tell (some (.int R.1), R.2) r13.2 _ _ [.int r13.1]
      exact z_iret C dX11_tell_43 rfl (by rw [← Option.some.inj hf])
  · replace hf := ifp hf h3
    refine z_aload_n C dX11_tell_9 0 rfl ?_
    refine z_iconst (v := (-1)) C dX11_tell_10 (by decide) ?_
    obtain ⟨r15, h16, hf⟩ := bd_some hf
    refine z_callV (Y2 := YX11_refuse) (CC := RX11) (T := TX11) (N := 8) (ci := 10) (As := [.int (-1)]) C lk_X11_refuse (by decide) wc_main rfl t_262 t_264 p_0 (Nat.le_of_ble_eq_true rfl) (Nat.le_of_ble_eq_true rfl) dX11_tell_11 (Nat.le_of_ble_eq_true rfl) rfl rfl (m_X11_refuse X.2.1 E N (-1) r1.2 _ h16) ?_
    change Zz E X YX11_tell (some (.int R.1), R.2) r15.2 _ _ [.int r15.1]
    exact z_iret C dX11_tell_14 rfl (by rw [← Option.some.inj hf])
theorem lk_X11_tell {Y : Yv} : Lk Y YX11_tell 2 := ⟨t_726, t_1, ⟨by decide +kernel, by decide +kernel⟩, by decide +kernel⟩
abbrev YX11_laws : Yv := (yX11_laws, cX11_laws, 4, some .int, 4, 103)
def f_X11_laws_B24 (N : Nat) (rec : Int32 → Int32 → Int32 → Sg → Option (Int32 × Sg)) (a1 a2 a3 : Int32) (σ : Sg) : Option (Int32 × Sg) :=
  if 5 ≤ a3 then (some (a2, σ)) else (ga a3 5 ((f_X2_isReached N 2 (65 + Int32.toNatClampNeg a3) a1 σ).bind (fun r6 => if r6.1 = 0 then (rec a1 a2 (a3 + 1) r6.2) else (nm (a2 ||| ((1 : Int32) <<< (a3 &&& 31))) (fun v9 => rec a1 v9 (a3 + 1) r6.2)))))
def f_X11_laws_L24 (N : Nat) : Nat → Int32 → Int32 → Int32 → Sg → Option (Int32 × Sg)
  | 0 => fun _ _ _ _ => none
  | k + 1 => fun a1 a2 a3 σ => f_X11_laws_B24 N (f_X11_laws_L24 N k) a1 a2 a3 σ
def f_X11_laws (N : Nat) (x1 : Int32) (σ : Sg) : Option (Int32 × Sg) :=
  (f_X5_has N 2 x1 σ).bind (fun r1 => if r1.1 = 0 then ((f_X11_refuse N (-1) r1.2).bind (fun r13 => some (r13.1, r13.2))) else ((f_X11_laws_L24 N N x1 0 0 r1.2).bind (fun s11 => some (s11.1, s11.2))))
set_option maxHeartbeats 4000000 in
set_option maxRecDepth 20000 in
theorem m_X11_laws (l : Launch) (E : Ev) (N : Nat) (x1 : Int32) (σ : Sg) (R : Int32 × Sg) (hf : f_X11_laws N x1 σ = some R) : Ct l E YX11_laws [.ref (E.2.1 0), .int x1] σ (some (.int R.1), R.2) := by
  refine ct_of (by decide +kernel) (Nat.le_of_ble_eq_true rfl) [(0, .ref (E.2.1 0)), (1, .int x1)] rfl (fun X hX C => ?_)
  have hL24 : ∀ (k : Nat) (a1 a2 a3 : Int32) (σ : Sg) (Q24 : Int32 × Sg), f_X11_laws_L24 N k a1 a2 a3 σ = some Q24 → (Zz E X YX11_laws (some (.int R.1), R.2) Q24.2 69 [(2, .int Q24.1)] []) → Zz E X YX11_laws (some (.int R.1), R.2) σ 24 [(0, .ref (E.2.1 0)), (1, .int a1), (2, .int a2), (3, .int a3)] [] := by
    intro k
    induction k with
    | zero =>
      intro a1 a2 a3 σ Q24 hf
      have hf : (none : Option (Int32 × Sg)) = some Q24 := hf
      cases hf
    | succ k ih =>
      intro a1 a2 a3 σ Q24 hf hx24
      have hf : f_X11_laws_B24 N (f_X11_laws_L24 N k) a1 a2 a3 σ = some Q24 := hf
      unfold f_X11_laws_B24 at hf
      refine z_iload_n C dX11_laws_24 3 rfl ?_
      refine z_aload_n C dX11_laws_25 0 rfl ?_
      refine z_get (v := .ref (E.2.1 64)) (T := TX11) (N := 8) (ci := 10) C (by decide) wc_main rfl in_X11 4 (by decide) t_237 rfl dX11_laws_26 ?_
      refine z_alenq (v := 5) C rfl dX11_laws_29 ?_
      refine z_icmp_ge (tgt := 69) C dX11_laws_30 (by decide) (fun h4 => ?_) (fun h4 => ?_)
      · replace hf := ifp hf h4
        refine z_sub [(2, .int a2)] [2] rfl ?_
        obtain rfl := Option.some.inj hf
        exact hx24
      · replace hf := ifn hf h4
        refine z_aload_n C dX11_laws_33 0 rfl ?_
        refine z_get (v := .ref (E.2.1 53)) (T := TX11) (N := 8) (ci := 10) C (by decide) wc_main rfl in_X11 3 (by decide) t_236 rfl dX11_laws_34 ?_
        refine z_aload_n C dX11_laws_37 0 rfl ?_
        refine z_get (v := .ref (E.2.1 1)) (T := TX11) (N := 8) (ci := 10) C (by decide) wc_main rfl in_X11 0 (by decide) t_233 rfl dX11_laws_38 ?_
        refine z_getN (v := .ref (E.2.1 2)) (T := TX9) (N := 11) (ci := 8) C (lt_st st_1) (wc_st st_1) rfl in_X9 0 (by decide) n_78 rfl dX11_laws_41 ?_
        refine z_aload_n C dX11_laws_44 0 rfl ?_
        refine z_get (v := .ref (E.2.1 64)) (T := TX11) (N := 8) (ci := 10) C (by decide) wc_main rfl in_X11 4 (by decide) t_237 rfl dX11_laws_45 ?_
        refine z_iload_n C dX11_laws_48 3 rfl ?_
        obtain ⟨h5, hf⟩ := ga_some hf
        refine z_aldq C h5 dX11_laws_49 ?_
        refine z_iload_n C dX11_laws_50 1 rfl ?_
        obtain ⟨r6, h7, hf⟩ := bd_some hf
        refine z_callV (Y2 := YX2_isReached) (CC := RX2) (T := TX2) (N := 5) (ci := 1) (As := [.ref (E.2.1 2), .ref (E.2.1 (65 + Int32.toNatClampNeg a3)), .int a1]) C lk_X2_isReached (by decide) wc_mi rfl t_608 t_601 t_602 (Nat.le_of_ble_eq_true rfl) (Nat.le_of_ble_eq_true rfl) dX11_laws_51 (Nat.le_of_ble_eq_true rfl) rfl rfl (m_X2_isReached X.2.1 E N 2 (65 + Int32.toNatClampNeg a3) pe_2 (la_of h5) a1 σ _ h7) ?_
        change Zz E X YX11_laws (some (.int R.1), R.2) r6.2 _ _ [.int r6.1]
        refine z_if_eq (tgt := 63) C dX11_laws_54 (by decide) (fun h8 => ?_) (fun h8 => ?_)
        · replace hf := ifp hf h8
          refine z_iinc (v := (a3 + 1)) (lv' := [(3, .int (a3 + 1)), (0, .ref (E.2.1 0)), (1, .int a1), (2, .int a2)]) C dX11_laws_63 3 rfl rfl (by decide) rfl ?_
          refine z_goto (tgt := 24) C dX11_laws_66 (by decide) ?_
          refine z_sub [(0, .ref (E.2.1 0)), (1, .int a1), (2, .int a2), (3, .int (a3 + 1))] [1, 2, 3, 0] rfl ?_
          exact ih a1 a2 (a3 + 1) r6.2 _ hf hx24
        · replace hf := ifn hf h8
          refine z_iload_n C dX11_laws_57 2 rfl ?_
          refine z_iconst (v := 1) C dX11_laws_58 (by decide) ?_
          refine z_iload_n C dX11_laws_59 3 rfl ?_
          refine z_ishl C dX11_laws_60 ?_
          refine z_ior C dX11_laws_61 ?_
          obtain ⟨v9, h10, hf⟩ := nm_some hf
          rw [← h10]
          refine z_istore_n (lv' := [(2, .int v9), (0, .ref (E.2.1 0)), (1, .int a1), (3, .int a3)]) C dX11_laws_62 (by decide) rfl ?_
          refine z_iinc (v := (a3 + 1)) (lv' := [(3, .int (a3 + 1)), (2, .int v9), (0, .ref (E.2.1 0)), (1, .int a1)]) C dX11_laws_63 3 rfl rfl (by decide) rfl ?_
          refine z_goto (tgt := 24) C dX11_laws_66 (by decide) ?_
          refine z_sub [(0, .ref (E.2.1 0)), (1, .int a1), (2, .int v9), (3, .int (a3 + 1))] [2, 3, 1, 0] rfl ?_
          exact ih a1 v9 (a3 + 1) r6.2 _ hf hx24
  unfold f_X11_laws at hf
  refine z_aload_n C dX11_laws_0 0 rfl ?_
  refine z_get (v := .ref (E.2.1 1)) (T := TX11) (N := 8) (ci := 10) C (by decide) wc_main rfl in_X11 0 (by decide) t_233 rfl dX11_laws_1 ?_
  refine z_getN (v := .ref (E.2.1 2)) (T := TX9) (N := 11) (ci := 8) C (lt_st st_1) (wc_st st_1) rfl in_X9 0 (by decide) n_78 rfl dX11_laws_4 ?_
  refine z_iload_n C dX11_laws_7 1 rfl ?_
  obtain ⟨r1, h2, hf⟩ := bd_some hf
  refine z_callV (Y2 := YX5_has) (CC := RX5) (T := TX5) (N := 3) (ci := 4) (As := [.int x1]) C lk_X5_has (lt_pe pe_2) (wc_pe pe_2) rfl t_448 t_424 t_425 (Nat.le_of_ble_eq_true rfl) (Nat.le_of_ble_eq_true rfl) dX11_laws_8 (Nat.le_of_ble_eq_true rfl) rfl rfl (m_X5_has X.2.1 E N 2 pe_2 x1 σ _ h2) ?_
  change Zz E X YX11_laws (some (.int R.1), R.2) r1.2 _ _ [.int r1.1]
  refine z_if_ne (tgt := 20) C dX11_laws_11 (by decide) (fun h3 => ?_) (fun h3 => ?_)
  · replace hf := ifn hf h3
    refine z_iconst (v := 0) C dX11_laws_20 (by decide) ?_
    refine z_istore_n (lv' := [(2, .int 0), (0, .ref (E.2.1 0)), (1, .int x1)]) C dX11_laws_21 (by decide) rfl ?_
    refine z_iconst (v := 0) C dX11_laws_22 (by decide) ?_
    refine z_istore_n (lv' := [(3, .int 0), (2, .int 0), (0, .ref (E.2.1 0)), (1, .int x1)]) C dX11_laws_23 (by decide) rfl ?_
    refine z_sub [(0, .ref (E.2.1 0)), (1, .int x1), (2, .int 0), (3, .int 0)] [2, 3, 1, 0] rfl ?_
    obtain ⟨s11, h12, hf⟩ := bd_some hf
    refine hL24 N x1 0 0 r1.2 _ h12 ?_
    refine z_iload_n C dX11_laws_69 0 rfl ?_
    exact z_iret C dX11_laws_70 rfl (by rw [← Option.some.inj hf])
  · replace hf := ifp hf h3
    refine z_aload_n C dX11_laws_14 0 rfl ?_
    refine z_iconst (v := (-1)) C dX11_laws_15 (by decide) ?_
    obtain ⟨r13, h14, hf⟩ := bd_some hf
    refine z_callV (Y2 := YX11_refuse) (CC := RX11) (T := TX11) (N := 8) (ci := 10) (As := [.int (-1)]) C lk_X11_refuse (by decide) wc_main rfl t_262 t_264 p_0 (Nat.le_of_ble_eq_true rfl) (Nat.le_of_ble_eq_true rfl) dX11_laws_16 (Nat.le_of_ble_eq_true rfl) rfl rfl (m_X11_refuse X.2.1 E N (-1) r1.2 _ h14) ?_
    change Zz E X YX11_laws (some (.int R.1), R.2) r13.2 _ _ [.int r13.1]
    exact z_iret C dX11_laws_19 rfl (by rw [← Option.some.inj hf])
theorem lk_X11_laws {Y : Yv} : Lk Y YX11_laws 1 := ⟨t_738, t_1, ⟨by decide +kernel, by decide +kernel⟩, by decide +kernel⟩
abbrev YX11_inLeastTerms : Yv := (yX11_inLeastTerms, cX11_inLeastTerms, 3, some .int, 0, 0)
def f_X11_inLeastTerms_B3 (N : Nat) (rec : Int32 → Int32 → Int32 → Sg → Option ((Int32 × Sg) ⊕ (Int32 × Sg))) (a0 a1 a2 : Int32) (σ : Sg) : Option ((Int32 × Sg) ⊕ (Int32 × Sg)) :=
  if a2 ≤ 1 then (some (.inl (a0, σ))) else (gd a2 (if (jrem a1 a2) = 0 then (gd a2 (if (jrem (100 : Int32) a2) = 0 then (gd a2 (some (.inr ((a0 / a2), σ)))) else (rec a0 a1 (a2 + (-1)) σ))) else (rec a0 a1 (a2 + (-1)) σ)))
def f_X11_inLeastTerms_L3 (N : Nat) : Nat → Int32 → Int32 → Int32 → Sg → Option ((Int32 × Sg) ⊕ (Int32 × Sg))
  | 0 => fun _ _ _ _ => none
  | k + 1 => fun a0 a1 a2 σ => f_X11_inLeastTerms_B3 N (f_X11_inLeastTerms_L3 N k) a0 a1 a2 σ
def f_X11_inLeastTerms (N : Nat) (x1 x2 : Int32) (σ : Sg) : Option (Int32 × Sg) :=
  ex1 (f_X11_inLeastTerms_L3 N N x1 x2 100 σ) (fun s7 => some (s7.1, s7.2)) (fun r8 => some r8)
set_option maxHeartbeats 4000000 in
set_option maxRecDepth 20000 in
theorem m_X11_inLeastTerms (l : Launch) (E : Ev) (N : Nat) (x1 x2 : Int32) (σ : Sg) (R : Int32 × Sg) (hf : f_X11_inLeastTerms N x1 x2 σ = some R) : Ct l E YX11_inLeastTerms [.int x1, .int x2] σ (some (.int R.1), R.2) := by
  refine ct_of (by decide +kernel) (Nat.le_of_ble_eq_true rfl) [(0, .int x1), (1, .int x2)] rfl (fun X hX C => ?_)
  have hL3 : ∀ (k : Nat) (a0 a1 a2 : Int32) (σ : Sg) (Q3 : (Int32 × Sg) ⊕ (Int32 × Sg)), f_X11_inLeastTerms_L3 N k a0 a1 a2 σ = some Q3 → (∀ S, Q3 = .inl S → Zz E X YX11_inLeastTerms (some (.int R.1), R.2) S.2 31 [(0, .int S.1)] []) → (∀ r, Q3 = .inr r → ((some (.int R.1), R.2) : Pv) = (some (.int r.1), r.2)) → Zz E X YX11_inLeastTerms (some (.int R.1), R.2) σ 3 [(0, .int a0), (1, .int a1), (2, .int a2)] [] := by
    intro k
    induction k with
    | zero =>
      intro a0 a1 a2 σ Q3 hf
      have hf : (none : Option ((Int32 × Sg) ⊕ (Int32 × Sg))) = some Q3 := hf
      cases hf
    | succ k ih =>
      intro a0 a1 a2 σ Q3 hf hx3 hr3
      have hf : f_X11_inLeastTerms_B3 N (f_X11_inLeastTerms_L3 N k) a0 a1 a2 σ = some Q3 := hf
      unfold f_X11_inLeastTerms_B3 at hf
      refine z_iload_n C dX11_inLeastTerms_3 2 rfl ?_
      refine z_iconst (v := 1) C dX11_inLeastTerms_4 (by decide) ?_
      refine z_icmp_le (tgt := 31) C dX11_inLeastTerms_5 (by decide) (fun h1 => ?_) (fun h1 => ?_)
      · replace hf := ifp hf h1
        refine z_sub [(0, .int a0)] [0] rfl ?_
        exact hx3 _ (Option.some.inj hf).symm
      · replace hf := ifn hf h1
        refine z_iload_n C dX11_inLeastTerms_8 1 rfl ?_
        refine z_iload_n C dX11_inLeastTerms_9 2 rfl ?_
        obtain ⟨h2, hf⟩ := gd_some hf
        refine z_irem C dX11_inLeastTerms_10 h2 ?_
        refine z_if_ne (tgt := 25) C dX11_inLeastTerms_11 (by decide) (fun h3 => ?_) (fun h3 => ?_)
        · replace hf := ifn hf h3
          refine z_iinc (v := (a2 + (-1))) (lv' := [(2, .int (a2 + (-1))), (0, .int a0), (1, .int a1)]) C dX11_inLeastTerms_25 2 rfl rfl (by decide) rfl ?_
          refine z_goto (tgt := 3) C dX11_inLeastTerms_28 (by decide) ?_
          refine z_sub [(0, .int a0), (1, .int a1), (2, .int (a2 + (-1)))] [1, 2, 0] rfl ?_
          exact ih a0 a1 (a2 + (-1)) σ _ hf hx3 hr3
        · replace hf := ifp hf h3
          refine z_bipush (v := 100) C dX11_inLeastTerms_14 (by decide) ?_
          refine z_iload_n C dX11_inLeastTerms_16 2 rfl ?_
          obtain ⟨h4, hf⟩ := gd_some hf
          refine z_irem C dX11_inLeastTerms_17 h4 ?_
          refine z_if_ne (tgt := 25) C dX11_inLeastTerms_18 (by decide) (fun h5 => ?_) (fun h5 => ?_)
          · replace hf := ifn hf h5
            refine z_iinc (v := (a2 + (-1))) (lv' := [(2, .int (a2 + (-1))), (0, .int a0), (1, .int a1)]) C dX11_inLeastTerms_25 2 rfl rfl (by decide) rfl ?_
            refine z_goto (tgt := 3) C dX11_inLeastTerms_28 (by decide) ?_
            refine z_sub [(0, .int a0), (1, .int a1), (2, .int (a2 + (-1)))] [1, 2, 0] rfl ?_
            exact ih a0 a1 (a2 + (-1)) σ _ hf hx3 hr3
          · replace hf := ifp hf h5
            refine z_iload_n C dX11_inLeastTerms_21 0 rfl ?_
            refine z_iload_n C dX11_inLeastTerms_22 2 rfl ?_
            obtain ⟨h6, hf⟩ := gd_some hf
            refine z_idiv C dX11_inLeastTerms_23 h6 ?_
            have hq := hr3 _ (Option.some.inj hf).symm
            exact z_iret C dX11_inLeastTerms_24 rfl hq
  unfold f_X11_inLeastTerms at hf
  refine z_bipush (v := 100) C dX11_inLeastTerms_0 (by decide) ?_
  refine z_istore_n (lv' := [(2, .int 100), (0, .int x1), (1, .int x2)]) C dX11_inLeastTerms_2 (by decide) rfl ?_
  refine z_sub [(0, .int x1), (1, .int x2), (2, .int 100)] [1, 2, 0] rfl ?_
  rcases ex1_some hf with ⟨s7, h9, hf⟩ | ⟨r8, h9, hf⟩
  · refine hL3 N x1 x2 100 σ _ h9 (fun S e => ?_) (fun _ e => nomatch e)
    cases e
    refine z_iload_n C dX11_inLeastTerms_31 0 rfl ?_
    exact z_iret C dX11_inLeastTerms_32 rfl (by rw [← Option.some.inj hf])
  · refine hL3 N x1 x2 100 σ _ h9 (fun _ e => nomatch e) (fun r e => ?_)
    cases e
    exact (by rw [← Option.some.inj hf])
theorem lk_X11_inLeastTerms {Y : Yv} : Lk Y YX11_inLeastTerms 2 := ⟨t_754, t_1, ⟨by decide +kernel, by decide +kernel⟩, by decide +kernel⟩
abbrev YX11_eye : Yv := (yX11_eye, cX11_eye, 5, some .int, 3, 80)
def f_X11_eye_J21 (N : Nat) (σ : Sg) : Option (Int32 × Sg) :=
  (f_X11_refuse N (-1) σ).bind (fun r4 => some (r4.1, r4.2))
def f_X11_eye_J79 (N : Nat) (a4 b0 : Int32) (σ : Sg) : Option (Int32 × Sg) :=
  (f_X11_inLeastTerms N b0 a4 σ).bind (fun r15 => some (r15.1, r15.2))
def f_X11_eye_J43 (N : Nat) (a1 a2 a3 : Int32) (σ : Sg) : Option (Int32 × Sg) :=
  (f_X11_lawNow N σ).bind (fun r10 => (f_X0_chance N r10.1 2 a1 a2 (r10.2 1 8) r10.2).bind (fun r12 => if a3 = 0 then (f_X11_eye_J79 N r12.1 r12.1 r12.2) else (f_X11_eye_J79 N r12.1 100 r12.2)))
def f_X11_eye (N : Nat) (x1 x2 x3 : Int32) (σ : Sg) : Option (Int32 × Sg) :=
  (f_X5_has N 2 x1 σ).bind (fun r1 => if r1.1 = 0 then (f_X11_eye_J21 N r1.2) else ((f_X11_isLetter N x2 r1.2).bind (fun r6 => if r6.1 = 0 then (f_X11_eye_J21 N r6.2) else (if x3 = 0 then (f_X11_eye_J43 N x1 x2 x3 r6.2) else (if x3 = 1 then (f_X11_eye_J43 N x1 x2 x3 r6.2) else ((f_X11_refuse N (-2) r6.2).bind (fun r18 => some (r18.1, r18.2))))))))
set_option maxHeartbeats 4000000 in
set_option maxRecDepth 20000 in
theorem m_X11_eye (l : Launch) (E : Ev) (N : Nat) (x1 x2 x3 : Int32) (σ : Sg) (R : Int32 × Sg) (hf : f_X11_eye N x1 x2 x3 σ = some R) : Ct l E YX11_eye [.ref (E.2.1 0), .int x1, .int x2, .int x3] σ (some (.int R.1), R.2) := by
  refine ct_of (by decide +kernel) (Nat.le_of_ble_eq_true rfl) [(0, .ref (E.2.1 0)), (1, .int x1), (2, .int x2), (3, .int x3)] rfl (fun X hX C => ?_)
  have hJ21 : ∀ (σ : Sg), f_X11_eye_J21 N σ = some R → Zz E X YX11_eye (some (.int R.1), R.2) σ 21 [(0, .ref (E.2.1 0))] [] := by
    intro σ hf
    unfold f_X11_eye_J21 at hf
    refine z_aload_n C dX11_eye_21 0 rfl ?_
    refine z_iconst (v := (-1)) C dX11_eye_22 (by decide) ?_
    obtain ⟨r4, h5, hf⟩ := bd_some hf
    refine z_callV (Y2 := YX11_refuse) (CC := RX11) (T := TX11) (N := 8) (ci := 10) (As := [.int (-1)]) C lk_X11_refuse (by decide) wc_main rfl t_262 t_264 p_0 (Nat.le_of_ble_eq_true rfl) (Nat.le_of_ble_eq_true rfl) dX11_eye_23 (Nat.le_of_ble_eq_true rfl) rfl rfl (m_X11_refuse X.2.1 E N (-1) σ _ h5) ?_
    change Zz E X YX11_eye (some (.int R.1), R.2) r4.2 _ _ [.int r4.1]
    exact z_iret C dX11_eye_26 rfl (by rw [← Option.some.inj hf])
  have hJ79 : ∀ (a4 b0 : Int32) (σ : Sg), f_X11_eye_J79 N a4 b0 σ = some R → Zz E X YX11_eye (some (.int R.1), R.2) σ 79 [(4, .int a4)] [.int b0] := by
    intro a4 b0 σ hf
    unfold f_X11_eye_J79 at hf
    refine z_iload C dX11_eye_79 0 rfl ?_
    obtain ⟨r15, h16, hf⟩ := bd_some hf
    refine z_callS (Y2 := YX11_inLeastTerms) (As := [.int b0, .int a4]) C lk_X11_inLeastTerms t_752 t_753 (Nat.le_of_ble_eq_true rfl) (Nat.le_of_ble_eq_true rfl) dX11_eye_81 (Nat.le_of_ble_eq_true rfl) rfl rfl (m_X11_inLeastTerms X.2.1 E N b0 a4 σ _ h16) ?_
    change Zz E X YX11_eye (some (.int R.1), R.2) r15.2 _ _ [.int r15.1]
    exact z_iret C dX11_eye_84 rfl (by rw [← Option.some.inj hf])
  have hJ43 : ∀ (a1 a2 a3 : Int32) (σ : Sg), f_X11_eye_J43 N a1 a2 a3 σ = some R → Zz E X YX11_eye (some (.int R.1), R.2) σ 43 [(0, .ref (E.2.1 0)), (1, .int a1), (2, .int a2), (3, .int a3)] [] := by
    intro a1 a2 a3 σ hf
    unfold f_X11_eye_J43 at hf
    refine z_aload_n C dX11_eye_43 0 rfl ?_
    obtain ⟨r10, h11, hf⟩ := bd_some hf
    refine z_callV (Y2 := YX11_lawNow) (CC := RX11) (T := TX11) (N := 8) (ci := 10) (As := []) C lk_X11_lawNow (by decide) wc_main rfl t_477 t_479 p_16 (Nat.le_of_ble_eq_true rfl) (Nat.le_of_ble_eq_true rfl) dX11_eye_44 (Nat.le_of_ble_eq_true rfl) rfl rfl (m_X11_lawNow X.2.1 E N σ _ h11) ?_
    change Zz E X YX11_eye (some (.int R.1), R.2) r10.2 _ _ [.ref (E.2.1 r10.1)]
    refine z_aload_n C dX11_eye_47 0 rfl ?_
    refine z_get (v := .ref (E.2.1 1)) (T := TX11) (N := 8) (ci := 10) C (by decide) wc_main rfl in_X11 0 (by decide) t_233 rfl dX11_eye_48 ?_
    refine z_getN (v := .ref (E.2.1 2)) (T := TX9) (N := 11) (ci := 8) C (lt_st st_1) (wc_st st_1) rfl in_X9 0 (by decide) n_78 rfl dX11_eye_51 ?_
    refine z_iload_n C dX11_eye_54 1 rfl ?_
    refine z_iload_n C dX11_eye_55 2 rfl ?_
    refine z_aload_n C dX11_eye_56 0 rfl ?_
    refine z_get (v := .ref (E.2.1 1)) (T := TX11) (N := 8) (ci := 10) C (by decide) wc_main rfl in_X11 0 (by decide) t_233 rfl dX11_eye_57 ?_
    refine z_getN (v := .int (r10.2 1 8)) (T := TX9) (N := 11) (ci := 8) C (lt_st st_1) (wc_st st_1) rfl in_X9 8 (by decide) n_104 rfl dX11_eye_60 ?_
    obtain ⟨r12, h13, hf⟩ := bd_some hf
    refine z_law_X0_chance (As := [.ref (E.2.1 2), .int a1, .int a2, .int (r10.2 1 8)]) C (la_now h11) t_743 (Nat.le_of_ble_eq_true rfl) (Nat.le_of_ble_eq_true rfl) dX11_eye_63 (Nat.le_of_ble_eq_true rfl) rfl rfl (m_X0_chance X.2.1 E N r10.1 2 (la_now h11) pe_2 a1 a2 (r10.2 1 8) r10.2 _ h13) ?_
    change Zz E X YX11_eye (some (.int R.1), R.2) r12.2 _ _ [.int r12.1]
    refine z_istore (lv' := [(4, .int r12.1), (0, .ref (E.2.1 0)), (1, .int a1), (2, .int a2), (3, .int a3)]) C dX11_eye_66 (by decide) rfl ?_
    refine z_iload_n C dX11_eye_68 4 rfl ?_
    refine z_if_ne (tgt := 77) C dX11_eye_69 (by decide) (fun h14 => ?_) (fun h14 => ?_)
    · replace hf := ifn hf h14
      refine z_bipush (v := 100) C dX11_eye_77 (by decide) ?_
      refine z_sub [(4, .int r12.1)] [0] rfl ?_
      exact hJ79 r12.1 100 r12.2 hf
    · replace hf := ifp hf h14
      refine z_iload C dX11_eye_72 0 rfl ?_
      refine z_goto (tgt := 79) C dX11_eye_74 (by decide) ?_
      refine z_sub [(4, .int r12.1)] [0] rfl ?_
      exact hJ79 r12.1 r12.1 r12.2 hf
  unfold f_X11_eye at hf
  refine z_aload_n C dX11_eye_0 0 rfl ?_
  refine z_get (v := .ref (E.2.1 1)) (T := TX11) (N := 8) (ci := 10) C (by decide) wc_main rfl in_X11 0 (by decide) t_233 rfl dX11_eye_1 ?_
  refine z_getN (v := .ref (E.2.1 2)) (T := TX9) (N := 11) (ci := 8) C (lt_st st_1) (wc_st st_1) rfl in_X9 0 (by decide) n_78 rfl dX11_eye_4 ?_
  refine z_iload_n C dX11_eye_7 1 rfl ?_
  obtain ⟨r1, h2, hf⟩ := bd_some hf
  refine z_callV (Y2 := YX5_has) (CC := RX5) (T := TX5) (N := 3) (ci := 4) (As := [.int x1]) C lk_X5_has (lt_pe pe_2) (wc_pe pe_2) rfl t_448 t_424 t_425 (Nat.le_of_ble_eq_true rfl) (Nat.le_of_ble_eq_true rfl) dX11_eye_8 (Nat.le_of_ble_eq_true rfl) rfl rfl (m_X5_has X.2.1 E N 2 pe_2 x1 σ _ h2) ?_
  change Zz E X YX11_eye (some (.int R.1), R.2) r1.2 _ _ [.int r1.1]
  refine z_if_eq (tgt := 21) C dX11_eye_11 (by decide) (fun h3 => ?_) (fun h3 => ?_)
  · replace hf := ifp hf h3
    refine z_sub [(0, .ref (E.2.1 0))] [0] rfl ?_
    exact hJ21 r1.2 hf
  · replace hf := ifn hf h3
    refine z_iload_n C dX11_eye_14 2 rfl ?_
    obtain ⟨r6, h7, hf⟩ := bd_some hf
    refine z_callS (Y2 := YX11_isLetter) (As := [.int x2]) C lk_X11_isLetter t_474 t_475 (Nat.le_of_ble_eq_true rfl) (Nat.le_of_ble_eq_true rfl) dX11_eye_15 (Nat.le_of_ble_eq_true rfl) rfl rfl (m_X11_isLetter X.2.1 E N x2 r1.2 _ h7) ?_
    change Zz E X YX11_eye (some (.int R.1), R.2) r6.2 _ _ [.int r6.1]
    refine z_if_ne (tgt := 27) C dX11_eye_18 (by decide) (fun h8 => ?_) (fun h8 => ?_)
    · replace hf := ifn hf h8
      refine z_iload_n C dX11_eye_27 3 rfl ?_
      refine z_if_eq (tgt := 43) C dX11_eye_28 (by decide) (fun h9 => ?_) (fun h9 => ?_)
      · replace hf := ifp hf h9
        refine z_sub [(0, .ref (E.2.1 0)), (1, .int x1), (2, .int x2), (3, .int x3)] [0, 1, 2, 3] rfl ?_
        exact hJ43 x1 x2 x3 r6.2 hf
      · replace hf := ifn hf h9
        refine z_iload_n C dX11_eye_31 3 rfl ?_
        refine z_iconst (v := 1) C dX11_eye_32 (by decide) ?_
        refine z_icmp_eq (tgt := 43) C dX11_eye_33 (by decide) (fun h17 => ?_) (fun h17 => ?_)
        · replace hf := ifp hf h17
          refine z_sub [(0, .ref (E.2.1 0)), (1, .int x1), (2, .int x2), (3, .int x3)] [0, 1, 2, 3] rfl ?_
          exact hJ43 x1 x2 x3 r6.2 hf
        · replace hf := ifn hf h17
          refine z_aload_n C dX11_eye_36 0 rfl ?_
          refine z_bipush (v := (-2)) C dX11_eye_37 (by decide) ?_
          obtain ⟨r18, h19, hf⟩ := bd_some hf
          refine z_callV (Y2 := YX11_refuse) (CC := RX11) (T := TX11) (N := 8) (ci := 10) (As := [.int (-2)]) C lk_X11_refuse (by decide) wc_main rfl t_262 t_264 p_0 (Nat.le_of_ble_eq_true rfl) (Nat.le_of_ble_eq_true rfl) dX11_eye_39 (Nat.le_of_ble_eq_true rfl) rfl rfl (m_X11_refuse X.2.1 E N (-2) r6.2 _ h19) ?_
          change Zz E X YX11_eye (some (.int R.1), R.2) r18.2 _ _ [.int r18.1]
          exact z_iret C dX11_eye_42 rfl (by rw [← Option.some.inj hf])
    · replace hf := ifp hf h8
      refine z_sub [(0, .ref (E.2.1 0))] [0] rfl ?_
      exact hJ21 r6.2 hf
theorem lk_X11_eye {Y : Yv} : Lk Y YX11_eye 3 := ⟨t_742, t_1, ⟨by decide +kernel, by decide +kernel⟩, by decide +kernel⟩
abbrev YX11_surest : Yv := (yX11_surest, cX11_surest, 2, some .int, 4, 110)
def f_X11_surest (N : Nat) (x1 : Int32) (σ : Sg) : Option (Int32 × Sg) :=
  (f_X5_has N 2 x1 σ).bind (fun r1 => if r1.1 = 0 then ((f_X11_refuse N (-1) r1.2).bind (fun r8 => some (r8.1, r8.2))) else ((f_X11_lawNow N r1.2).bind (fun r4 => (f_X2_surestTo N 2 r4.1 x1 (r4.2 1 8) r4.2).bind (fun r6 => some (r6.1, r6.2)))))
set_option maxHeartbeats 4000000 in
set_option maxRecDepth 20000 in
theorem m_X11_surest (l : Launch) (E : Ev) (N : Nat) (x1 : Int32) (σ : Sg) (R : Int32 × Sg) (hf : f_X11_surest N x1 σ = some R) : Ct l E YX11_surest [.ref (E.2.1 0), .int x1] σ (some (.int R.1), R.2) := by
  refine ct_of (by decide +kernel) (Nat.le_of_ble_eq_true rfl) [(0, .ref (E.2.1 0)), (1, .int x1)] rfl (fun X hX C => ?_)
  unfold f_X11_surest at hf
  refine z_aload_n C dX11_surest_0 0 rfl ?_
  refine z_get (v := .ref (E.2.1 1)) (T := TX11) (N := 8) (ci := 10) C (by decide) wc_main rfl in_X11 0 (by decide) t_233 rfl dX11_surest_1 ?_
  refine z_getN (v := .ref (E.2.1 2)) (T := TX9) (N := 11) (ci := 8) C (lt_st st_1) (wc_st st_1) rfl in_X9 0 (by decide) n_78 rfl dX11_surest_4 ?_
  refine z_iload_n C dX11_surest_7 1 rfl ?_
  obtain ⟨r1, h2, hf⟩ := bd_some hf
  refine z_callV (Y2 := YX5_has) (CC := RX5) (T := TX5) (N := 3) (ci := 4) (As := [.int x1]) C lk_X5_has (lt_pe pe_2) (wc_pe pe_2) rfl t_448 t_424 t_425 (Nat.le_of_ble_eq_true rfl) (Nat.le_of_ble_eq_true rfl) dX11_surest_8 (Nat.le_of_ble_eq_true rfl) rfl rfl (m_X5_has X.2.1 E N 2 pe_2 x1 σ _ h2) ?_
  change Zz E X YX11_surest (some (.int R.1), R.2) r1.2 _ _ [.int r1.1]
  refine z_if_ne (tgt := 20) C dX11_surest_11 (by decide) (fun h3 => ?_) (fun h3 => ?_)
  · replace hf := ifn hf h3
    refine z_aload_n C dX11_surest_20 0 rfl ?_
    refine z_get (v := .ref (E.2.1 53)) (T := TX11) (N := 8) (ci := 10) C (by decide) wc_main rfl in_X11 3 (by decide) t_236 rfl dX11_surest_21 ?_
    refine z_aload_n C dX11_surest_24 0 rfl ?_
    refine z_get (v := .ref (E.2.1 1)) (T := TX11) (N := 8) (ci := 10) C (by decide) wc_main rfl in_X11 0 (by decide) t_233 rfl dX11_surest_25 ?_
    refine z_getN (v := .ref (E.2.1 2)) (T := TX9) (N := 11) (ci := 8) C (lt_st st_1) (wc_st st_1) rfl in_X9 0 (by decide) n_78 rfl dX11_surest_28 ?_
    refine z_aload_n C dX11_surest_31 0 rfl ?_
    obtain ⟨r4, h5, hf⟩ := bd_some hf
    refine z_callV (Y2 := YX11_lawNow) (CC := RX11) (T := TX11) (N := 8) (ci := 10) (As := []) C lk_X11_lawNow (by decide) wc_main rfl t_477 t_479 p_16 (Nat.le_of_ble_eq_true rfl) (Nat.le_of_ble_eq_true rfl) dX11_surest_32 (Nat.le_of_ble_eq_true rfl) rfl rfl (m_X11_lawNow X.2.1 E N r1.2 _ h5) ?_
    change Zz E X YX11_surest (some (.int R.1), R.2) r4.2 _ _ [.ref (E.2.1 r4.1), .ref (E.2.1 2), .ref (E.2.1 53)]
    refine z_iload_n C dX11_surest_35 1 rfl ?_
    refine z_aload_n C dX11_surest_36 0 rfl ?_
    refine z_get (v := .ref (E.2.1 1)) (T := TX11) (N := 8) (ci := 10) C (by decide) wc_main rfl in_X11 0 (by decide) t_233 rfl dX11_surest_37 ?_
    refine z_getN (v := .int (r4.2 1 8)) (T := TX9) (N := 11) (ci := 8) C (lt_st st_1) (wc_st st_1) rfl in_X9 8 (by decide) n_104 rfl dX11_surest_40 ?_
    obtain ⟨r6, h7, hf⟩ := bd_some hf
    refine z_callV (Y2 := YX2_surestTo) (CC := RX2) (T := TX2) (N := 5) (ci := 1) (As := [.ref (E.2.1 2), .ref (E.2.1 r4.1), .int x1, .int (r4.2 1 8)]) C lk_X2_surestTo (by decide) wc_mi rfl t_759 t_760 t_761 (Nat.le_of_ble_eq_true rfl) (Nat.le_of_ble_eq_true rfl) dX11_surest_43 (Nat.le_of_ble_eq_true rfl) rfl rfl (m_X2_surestTo X.2.1 E N 2 r4.1 pe_2 (la_now h5) x1 (r4.2 1 8) r4.2 _ h7) ?_
    change Zz E X YX11_surest (some (.int R.1), R.2) r6.2 _ _ [.int r6.1]
    exact z_iret C dX11_surest_46 rfl (by rw [← Option.some.inj hf])
  · replace hf := ifp hf h3
    refine z_aload_n C dX11_surest_14 0 rfl ?_
    refine z_iconst (v := (-1)) C dX11_surest_15 (by decide) ?_
    obtain ⟨r8, h9, hf⟩ := bd_some hf
    refine z_callV (Y2 := YX11_refuse) (CC := RX11) (T := TX11) (N := 8) (ci := 10) (As := [.int (-1)]) C lk_X11_refuse (by decide) wc_main rfl t_262 t_264 p_0 (Nat.le_of_ble_eq_true rfl) (Nat.le_of_ble_eq_true rfl) dX11_surest_16 (Nat.le_of_ble_eq_true rfl) rfl rfl (m_X11_refuse X.2.1 E N (-1) r1.2 _ h9) ?_
    change Zz E X YX11_surest (some (.int R.1), R.2) r8.2 _ _ [.int r8.1]
    exact z_iret C dX11_surest_19 rfl (by rw [← Option.some.inj hf])
theorem lk_X11_surest {Y : Yv} : Lk Y YX11_surest 1 := ⟨t_758, t_1, ⟨by decide +kernel, by decide +kernel⟩, by decide +kernel⟩
abbrev YX11_morning : Yv := (yX11_morning, cX11_morning, 5, some .int, 6, 163)
def f_X11_morning_B4 (N : Nat) (rec : Int32 → Int32 → Sg → Option (Int32 × Sg)) (a1 a2 : Int32) (σ : Sg) : Option (Int32 × Sg) :=
  if (σ 5 1) ≤ a2 then (some (a1, σ)) else ((f_X11_lawNow N σ).bind (fun r2 => (f_X2_written N 1 r2.1 a2 r2.2).bind (fun r4 => (f_X11_lawNow N r4.2).bind (fun r6 => (f_X0_deliver N r6.1 2 r4.1 r6.2).bind (fun r8 => nm (sgs r8.2 1 10 ((r8.2 1 10) + 1)) (fun σ10 => (f_X4_get N 7 a2 σ10).bind (fun r12 => if r8.1 = r12.1 then (rec (a1 + 1) (a2 + 1) r12.2) else (rec a1 (a2 + 1) r12.2))))))))
def f_X11_morning_L4 (N : Nat) : Nat → Int32 → Int32 → Sg → Option (Int32 × Sg)
  | 0 => fun _ _ _ => none
  | k + 1 => fun a1 a2 σ => f_X11_morning_B4 N (f_X11_morning_L4 N k) a1 a2 σ
def f_X11_morning (N : Nat) (σ : Sg) : Option (Int32 × Sg) :=
  (f_X11_morning_L4 N N 0 0 σ).bind (fun s15 => some (s15.1, s15.2))
set_option maxHeartbeats 4000000 in
set_option maxRecDepth 20000 in
theorem m_X11_morning (l : Launch) (E : Ev) (N : Nat) (σ : Sg) (R : Int32 × Sg) (hf : f_X11_morning N σ = some R) : Ct l E YX11_morning [.ref (E.2.1 0)] σ (some (.int R.1), R.2) := by
  refine ct_of (by decide +kernel) (Nat.le_of_ble_eq_true rfl) [(0, .ref (E.2.1 0))] rfl (fun X hX C => ?_)
  have hL4 : ∀ (k : Nat) (a1 a2 : Int32) (σ : Sg) (Q4 : Int32 × Sg), f_X11_morning_L4 N k a1 a2 σ = some Q4 → (Zz E X YX11_morning (some (.int R.1), R.2) Q4.2 90 [(1, .int Q4.1)] []) → Zz E X YX11_morning (some (.int R.1), R.2) σ 4 [(0, .ref (E.2.1 0)), (1, .int a1), (2, .int a2)] [] := by
    intro k
    induction k with
    | zero =>
      intro a1 a2 σ Q4 hf
      have hf : (none : Option (Int32 × Sg)) = some Q4 := hf
      cases hf
    | succ k ih =>
      intro a1 a2 σ Q4 hf hx4
      have hf : f_X11_morning_B4 N (f_X11_morning_L4 N k) a1 a2 σ = some Q4 := hf
      unfold f_X11_morning_B4 at hf
      refine z_iload_n C dX11_morning_4 2 rfl ?_
      refine z_aload_n C dX11_morning_5 0 rfl ?_
      refine z_get (v := .ref (E.2.1 1)) (T := TX11) (N := 8) (ci := 10) C (by decide) wc_main rfl in_X11 0 (by decide) t_233 rfl dX11_morning_6 ?_
      refine z_getN (v := .ref (E.2.1 5)) (T := TX9) (N := 11) (ci := 8) C (lt_st st_1) (wc_st st_1) rfl in_X9 1 (by decide) n_82 rfl dX11_morning_9 ?_
      refine z_getN (v := .int (σ 5 1)) (T := TX4) (N := 2) (ci := 3) C (lt_nu nu_5) (wc_nu nu_5) rfl in_X4 1 (by decide) n_69 rfl dX11_morning_12 ?_
      refine z_icmp_ge (tgt := 90) C dX11_morning_15 (by decide) (fun h1 => ?_) (fun h1 => ?_)
      · replace hf := ifp hf h1
        refine z_sub [(1, .int a1)] [1] rfl ?_
        obtain rfl := Option.some.inj hf
        exact hx4
      · replace hf := ifn hf h1
        refine z_aload_n C dX11_morning_18 0 rfl ?_
        refine z_get (v := .ref (E.2.1 53)) (T := TX11) (N := 8) (ci := 10) C (by decide) wc_main rfl in_X11 3 (by decide) t_236 rfl dX11_morning_19 ?_
        refine z_aload_n C dX11_morning_22 0 rfl ?_
        refine z_get (v := .ref (E.2.1 1)) (T := TX11) (N := 8) (ci := 10) C (by decide) wc_main rfl in_X11 0 (by decide) t_233 rfl dX11_morning_23 ?_
        refine z_aload_n C dX11_morning_26 0 rfl ?_
        obtain ⟨r2, h3, hf⟩ := bd_some hf
        refine z_callV (Y2 := YX11_lawNow) (CC := RX11) (T := TX11) (N := 8) (ci := 10) (As := []) C lk_X11_lawNow (by decide) wc_main rfl t_477 t_479 p_16 (Nat.le_of_ble_eq_true rfl) (Nat.le_of_ble_eq_true rfl) dX11_morning_27 (Nat.le_of_ble_eq_true rfl) rfl rfl (m_X11_lawNow X.2.1 E N σ _ h3) ?_
        change Zz E X YX11_morning (some (.int R.1), R.2) r2.2 _ _ [.ref (E.2.1 r2.1), .ref (E.2.1 1), .ref (E.2.1 53)]
        refine z_iload_n C dX11_morning_30 2 rfl ?_
        obtain ⟨r4, h5, hf⟩ := bd_some hf
        refine z_callV (Y2 := YX2_written) (CC := RX2) (T := TX2) (N := 5) (ci := 1) (As := [.ref (E.2.1 1), .ref (E.2.1 r2.1), .int a2]) C lk_X2_written (by decide) wc_mi rfl t_768 t_769 t_770 (Nat.le_of_ble_eq_true rfl) (Nat.le_of_ble_eq_true rfl) dX11_morning_31 (Nat.le_of_ble_eq_true rfl) rfl rfl (m_X2_written X.2.1 E N 1 r2.1 st_1 (la_now h3) a2 r2.2 _ h5) ?_
        change Zz E X YX11_morning (some (.int R.1), R.2) r4.2 _ _ [.int r4.1]
        refine z_istore_n (lv' := [(3, .int r4.1), (0, .ref (E.2.1 0)), (1, .int a1), (2, .int a2)]) C dX11_morning_34 (by decide) rfl ?_
        refine z_aload_n C dX11_morning_35 1 rfl ?_
        obtain ⟨r6, h7, hf⟩ := bd_some hf
        refine z_callV (Y2 := YX11_lawNow) (CC := RX11) (T := TX11) (N := 8) (ci := 10) (As := []) C lk_X11_lawNow (by decide) wc_main rfl t_477 t_479 p_16 (Nat.le_of_ble_eq_true rfl) (Nat.le_of_ble_eq_true rfl) dX11_morning_36 (Nat.le_of_ble_eq_true rfl) rfl rfl (m_X11_lawNow X.2.1 E N r4.2 _ h7) ?_
        change Zz E X YX11_morning (some (.int R.1), R.2) r6.2 _ _ [.ref (E.2.1 r6.1)]
        refine z_aload_n C dX11_morning_39 1 rfl ?_
        refine z_get (v := .ref (E.2.1 1)) (T := TX11) (N := 8) (ci := 10) C (by decide) wc_main rfl in_X11 0 (by decide) t_233 rfl dX11_morning_40 ?_
        refine z_getN (v := .ref (E.2.1 2)) (T := TX9) (N := 11) (ci := 8) C (lt_st st_1) (wc_st st_1) rfl in_X9 0 (by decide) n_78 rfl dX11_morning_43 ?_
        refine z_iload_n C dX11_morning_46 0 rfl ?_
        obtain ⟨r8, h9, hf⟩ := bd_some hf
        refine z_law_X0_deliver (As := [.ref (E.2.1 2), .int r4.1]) C (la_now h7) t_522 (Nat.le_of_ble_eq_true rfl) (Nat.le_of_ble_eq_true rfl) dX11_morning_47 (Nat.le_of_ble_eq_true rfl) rfl rfl (m_X0_deliver X.2.1 E N r6.1 2 (la_now h7) pe_2 r4.1 r6.2 _ h9) ?_
        change Zz E X YX11_morning (some (.int R.1), R.2) r8.2 _ _ [.int r8.1]
        refine z_istore (lv' := [(4, .int r8.1), (3, .int r4.1), (0, .ref (E.2.1 0)), (1, .int a1), (2, .int a2)]) C dX11_morning_50 (by decide) rfl ?_
        refine z_aload_n C dX11_morning_52 2 rfl ?_
        refine z_get (v := .ref (E.2.1 1)) (T := TX11) (N := 8) (ci := 10) C (by decide) wc_main rfl in_X11 0 (by decide) t_233 rfl dX11_morning_53 ?_
        refine z_dup C dX11_morning_56 rfl ?_
        refine z_getN (v := .int (r8.2 1 10)) (T := TX9) (N := 11) (ci := 8) C (lt_st st_1) (wc_st st_1) rfl in_X9 10 (by decide) n_109 rfl dX11_morning_57 ?_
        refine z_iconst (v := 1) C dX11_morning_60 (by decide) ?_
        refine z_iadd C dX11_morning_61 ?_
        obtain ⟨σ10, h11, hf⟩ := nm_some hf
        refine z_putN (T := TX9) (N := 11) (ci := 8) (ty := .int) C tyX9 tyX9_ok nmX9 (lt_st st_1) (wc_st st_1) rfl in_X9 10 (by decide) n_109 rfl rfl rfl rfl (Nat.le_of_ble_eq_true rfl) (pw_X9_10 st_1) dX11_morning_62 ?_
        rw [← h11]
        refine z_iload C dX11_morning_65 0 rfl ?_
        refine z_aload_n C dX11_morning_67 2 rfl ?_
        refine z_get (v := .ref (E.2.1 1)) (T := TX11) (N := 8) (ci := 10) C (by decide) wc_main rfl in_X11 0 (by decide) t_233 rfl dX11_morning_68 ?_
        refine z_getN (v := .ref (E.2.1 7)) (T := TX9) (N := 11) (ci := 8) C (lt_st st_1) (wc_st st_1) rfl in_X9 2 (by decide) n_86 rfl dX11_morning_71 ?_
        refine z_iload_n C dX11_morning_74 4 rfl ?_
        obtain ⟨r12, h13, hf⟩ := bd_some hf
        refine z_callV (Y2 := YX4_get) (CC := RX4) (T := TX4) (N := 2) (ci := 3) (As := [.int a2]) C lk_X4_get (lt_nu nu_7) (wc_nu nu_7) rfl t_461 t_302 t_303 (Nat.le_of_ble_eq_true rfl) (Nat.le_of_ble_eq_true rfl) dX11_morning_75 (Nat.le_of_ble_eq_true rfl) rfl rfl (m_X4_get X.2.1 E N 7 nu_7 a2 σ10 _ h13) ?_
        change Zz E X YX11_morning (some (.int R.1), R.2) r12.2 _ _ [.int r12.1, .int r8.1]
        refine z_icmp_ne (tgt := 84) C dX11_morning_78 (by decide) (fun h14 => ?_) (fun h14 => ?_)
        · replace hf := ifn hf h14
          refine z_iinc (v := (a2 + 1)) (lv' := [(2, .int (a2 + 1)), (4, .int r8.1), (3, .int r4.1), (0, .ref (E.2.1 0)), (1, .int a1)]) C dX11_morning_84 4 rfl rfl (by decide) rfl ?_
          refine z_goto (tgt := 4) C dX11_morning_87 (by decide) ?_
          refine z_sub [(0, .ref (E.2.1 0)), (1, .int a1), (2, .int (a2 + 1))] [3, 4, 0] rfl ?_
          exact ih a1 (a2 + 1) r12.2 _ hf hx4
        · replace hf := ifp hf h14
          refine z_iinc (v := (a1 + 1)) (lv' := [(1, .int (a1 + 1)), (4, .int r8.1), (3, .int r4.1), (0, .ref (E.2.1 0)), (2, .int a2)]) C dX11_morning_81 3 rfl rfl (by decide) rfl ?_
          refine z_iinc (v := (a2 + 1)) (lv' := [(2, .int (a2 + 1)), (1, .int (a1 + 1)), (4, .int r8.1), (3, .int r4.1), (0, .ref (E.2.1 0))]) C dX11_morning_84 4 rfl rfl (by decide) rfl ?_
          refine z_goto (tgt := 4) C dX11_morning_87 (by decide) ?_
          refine z_sub [(0, .ref (E.2.1 0)), (1, .int (a1 + 1)), (2, .int (a2 + 1))] [4, 1, 0] rfl ?_
          exact ih (a1 + 1) (a2 + 1) r12.2 _ hf hx4
  unfold f_X11_morning at hf
  refine z_iconst (v := 0) C dX11_morning_0 (by decide) ?_
  refine z_istore_n (lv' := [(1, .int 0), (0, .ref (E.2.1 0))]) C dX11_morning_1 (by decide) rfl ?_
  refine z_iconst (v := 0) C dX11_morning_2 (by decide) ?_
  refine z_istore_n (lv' := [(2, .int 0), (1, .int 0), (0, .ref (E.2.1 0))]) C dX11_morning_3 (by decide) rfl ?_
  refine z_sub [(0, .ref (E.2.1 0)), (1, .int 0), (2, .int 0)] [2, 1, 0] rfl ?_
  obtain ⟨s15, h16, hf⟩ := bd_some hf
  refine hL4 N 0 0 σ _ h16 ?_
  refine z_iload_n C dX11_morning_90 0 rfl ?_
  exact z_iret C dX11_morning_91 rfl (by rw [← Option.some.inj hf])
theorem lk_X11_morning {Y : Yv} : Lk Y YX11_morning 0 := ⟨t_767, t_1, ⟨by decide +kernel, by decide +kernel⟩, by decide +kernel⟩
abbrev YX11_writes : Yv := (yX11_writes, cX11_writes, 2, some .int, 6, 163)
def f_X11_writes (N : Nat) (x1 : Int32) (σ : Sg) : Option (Int32 × Sg) :=
  (f_X9_isWriter N 1 x1 σ).bind (fun r1 => if r1.1 = 0 then ((f_X11_refuse N (-1) r1.2).bind (fun r8 => some (r8.1, r8.2))) else ((f_X11_lawNow N r1.2).bind (fun r4 => (f_X2_written N 1 r4.1 x1 r4.2).bind (fun r6 => some (r6.1, r6.2)))))
set_option maxHeartbeats 4000000 in
set_option maxRecDepth 20000 in
theorem m_X11_writes (l : Launch) (E : Ev) (N : Nat) (x1 : Int32) (σ : Sg) (R : Int32 × Sg) (hf : f_X11_writes N x1 σ = some R) : Ct l E YX11_writes [.ref (E.2.1 0), .int x1] σ (some (.int R.1), R.2) := by
  refine ct_of (by decide +kernel) (Nat.le_of_ble_eq_true rfl) [(0, .ref (E.2.1 0)), (1, .int x1)] rfl (fun X hX C => ?_)
  unfold f_X11_writes at hf
  refine z_aload_n C dX11_writes_0 0 rfl ?_
  refine z_get (v := .ref (E.2.1 1)) (T := TX11) (N := 8) (ci := 10) C (by decide) wc_main rfl in_X11 0 (by decide) t_233 rfl dX11_writes_1 ?_
  refine z_iload_n C dX11_writes_4 1 rfl ?_
  obtain ⟨r1, h2, hf⟩ := bd_some hf
  refine z_callV (Y2 := YX9_isWriter) (CC := RX9) (T := TX9) (N := 11) (ci := 8) (As := [.int x1]) C lk_X9_isWriter (lt_st st_1) (wc_st st_1) rfl t_457 t_458 t_459 (Nat.le_of_ble_eq_true rfl) (Nat.le_of_ble_eq_true rfl) dX11_writes_5 (Nat.le_of_ble_eq_true rfl) rfl rfl (m_X9_isWriter X.2.1 E N 1 st_1 x1 σ _ h2) ?_
  change Zz E X YX11_writes (some (.int R.1), R.2) r1.2 _ _ [.int r1.1]
  refine z_if_ne (tgt := 17) C dX11_writes_8 (by decide) (fun h3 => ?_) (fun h3 => ?_)
  · replace hf := ifn hf h3
    refine z_aload_n C dX11_writes_17 0 rfl ?_
    refine z_get (v := .ref (E.2.1 53)) (T := TX11) (N := 8) (ci := 10) C (by decide) wc_main rfl in_X11 3 (by decide) t_236 rfl dX11_writes_18 ?_
    refine z_aload_n C dX11_writes_21 0 rfl ?_
    refine z_get (v := .ref (E.2.1 1)) (T := TX11) (N := 8) (ci := 10) C (by decide) wc_main rfl in_X11 0 (by decide) t_233 rfl dX11_writes_22 ?_
    refine z_aload_n C dX11_writes_25 0 rfl ?_
    obtain ⟨r4, h5, hf⟩ := bd_some hf
    refine z_callV (Y2 := YX11_lawNow) (CC := RX11) (T := TX11) (N := 8) (ci := 10) (As := []) C lk_X11_lawNow (by decide) wc_main rfl t_477 t_479 p_16 (Nat.le_of_ble_eq_true rfl) (Nat.le_of_ble_eq_true rfl) dX11_writes_26 (Nat.le_of_ble_eq_true rfl) rfl rfl (m_X11_lawNow X.2.1 E N r1.2 _ h5) ?_
    change Zz E X YX11_writes (some (.int R.1), R.2) r4.2 _ _ [.ref (E.2.1 r4.1), .ref (E.2.1 1), .ref (E.2.1 53)]
    refine z_iload_n C dX11_writes_29 1 rfl ?_
    obtain ⟨r6, h7, hf⟩ := bd_some hf
    refine z_callV (Y2 := YX2_written) (CC := RX2) (T := TX2) (N := 5) (ci := 1) (As := [.ref (E.2.1 1), .ref (E.2.1 r4.1), .int x1]) C lk_X2_written (by decide) wc_mi rfl t_768 t_769 t_770 (Nat.le_of_ble_eq_true rfl) (Nat.le_of_ble_eq_true rfl) dX11_writes_30 (Nat.le_of_ble_eq_true rfl) rfl rfl (m_X2_written X.2.1 E N 1 r4.1 st_1 (la_now h5) x1 r4.2 _ h7) ?_
    change Zz E X YX11_writes (some (.int R.1), R.2) r6.2 _ _ [.int r6.1]
    exact z_iret C dX11_writes_33 rfl (by rw [← Option.some.inj hf])
  · replace hf := ifp hf h3
    refine z_aload_n C dX11_writes_11 0 rfl ?_
    refine z_iconst (v := (-1)) C dX11_writes_12 (by decide) ?_
    obtain ⟨r8, h9, hf⟩ := bd_some hf
    refine z_callV (Y2 := YX11_refuse) (CC := RX11) (T := TX11) (N := 8) (ci := 10) (As := [.int (-1)]) C lk_X11_refuse (by decide) wc_main rfl t_262 t_264 p_0 (Nat.le_of_ble_eq_true rfl) (Nat.le_of_ble_eq_true rfl) dX11_writes_13 (Nat.le_of_ble_eq_true rfl) rfl rfl (m_X11_refuse X.2.1 E N (-1) r1.2 _ h9) ?_
    change Zz E X YX11_writes (some (.int R.1), R.2) r8.2 _ _ [.int r8.1]
    exact z_iret C dX11_writes_16 rfl (by rw [← Option.some.inj hf])
theorem lk_X11_writes {Y : Yv} : Lk Y YX11_writes 1 := ⟨t_784, t_1, ⟨by decide +kernel, by decide +kernel⟩, by decide +kernel⟩
abbrev YX11_both : Yv := (yX11_both, cX11_both, 3, some .int, 6, 160)
def f_X11_both_J27 (N : Nat) (σ : Sg) : Option (Int32 × Sg) :=
  (f_X11_refuse N (-1) σ).bind (fun r4 => some (r4.1, r4.2))
def f_X11_both (N : Nat) (x1 x2 : Int32) (σ : Sg) : Option (Int32 × Sg) :=
  (f_X9_isWriter N 1 x1 σ).bind (fun r1 => if r1.1 = 0 then (f_X11_both_J27 N r1.2) else ((f_X9_isWriter N 1 x2 r1.2).bind (fun r6 => if r6.1 = 0 then (f_X11_both_J27 N r6.2) else (if x1 = x2 then (f_X11_both_J27 N r6.2) else ((f_X11_lawNow N r6.2).bind (fun r10 => (f_X2_roundsOfTwo N 1 r10.1 x1 x2 r10.2).bind (fun r12 => some (r12.1, r12.2))))))))
set_option maxHeartbeats 4000000 in
set_option maxRecDepth 20000 in
theorem m_X11_both (l : Launch) (E : Ev) (N : Nat) (x1 x2 : Int32) (σ : Sg) (R : Int32 × Sg) (hf : f_X11_both N x1 x2 σ = some R) : Ct l E YX11_both [.ref (E.2.1 0), .int x1, .int x2] σ (some (.int R.1), R.2) := by
  refine ct_of (by decide +kernel) (Nat.le_of_ble_eq_true rfl) [(0, .ref (E.2.1 0)), (1, .int x1), (2, .int x2)] rfl (fun X hX C => ?_)
  have hJ27 : ∀ (σ : Sg), f_X11_both_J27 N σ = some R → Zz E X YX11_both (some (.int R.1), R.2) σ 27 [(0, .ref (E.2.1 0))] [] := by
    intro σ hf
    unfold f_X11_both_J27 at hf
    refine z_aload_n C dX11_both_27 0 rfl ?_
    refine z_iconst (v := (-1)) C dX11_both_28 (by decide) ?_
    obtain ⟨r4, h5, hf⟩ := bd_some hf
    refine z_callV (Y2 := YX11_refuse) (CC := RX11) (T := TX11) (N := 8) (ci := 10) (As := [.int (-1)]) C lk_X11_refuse (by decide) wc_main rfl t_262 t_264 p_0 (Nat.le_of_ble_eq_true rfl) (Nat.le_of_ble_eq_true rfl) dX11_both_29 (Nat.le_of_ble_eq_true rfl) rfl rfl (m_X11_refuse X.2.1 E N (-1) σ _ h5) ?_
    change Zz E X YX11_both (some (.int R.1), R.2) r4.2 _ _ [.int r4.1]
    exact z_iret C dX11_both_32 rfl (by rw [← Option.some.inj hf])
  unfold f_X11_both at hf
  refine z_aload_n C dX11_both_0 0 rfl ?_
  refine z_get (v := .ref (E.2.1 1)) (T := TX11) (N := 8) (ci := 10) C (by decide) wc_main rfl in_X11 0 (by decide) t_233 rfl dX11_both_1 ?_
  refine z_iload_n C dX11_both_4 1 rfl ?_
  obtain ⟨r1, h2, hf⟩ := bd_some hf
  refine z_callV (Y2 := YX9_isWriter) (CC := RX9) (T := TX9) (N := 11) (ci := 8) (As := [.int x1]) C lk_X9_isWriter (lt_st st_1) (wc_st st_1) rfl t_457 t_458 t_459 (Nat.le_of_ble_eq_true rfl) (Nat.le_of_ble_eq_true rfl) dX11_both_5 (Nat.le_of_ble_eq_true rfl) rfl rfl (m_X9_isWriter X.2.1 E N 1 st_1 x1 σ _ h2) ?_
  change Zz E X YX11_both (some (.int R.1), R.2) r1.2 _ _ [.int r1.1]
  refine z_if_eq (tgt := 27) C dX11_both_8 (by decide) (fun h3 => ?_) (fun h3 => ?_)
  · replace hf := ifp hf h3
    refine z_sub [(0, .ref (E.2.1 0))] [0] rfl ?_
    exact hJ27 r1.2 hf
  · replace hf := ifn hf h3
    refine z_aload_n C dX11_both_11 0 rfl ?_
    refine z_get (v := .ref (E.2.1 1)) (T := TX11) (N := 8) (ci := 10) C (by decide) wc_main rfl in_X11 0 (by decide) t_233 rfl dX11_both_12 ?_
    refine z_iload_n C dX11_both_15 2 rfl ?_
    obtain ⟨r6, h7, hf⟩ := bd_some hf
    refine z_callV (Y2 := YX9_isWriter) (CC := RX9) (T := TX9) (N := 11) (ci := 8) (As := [.int x2]) C lk_X9_isWriter (lt_st st_1) (wc_st st_1) rfl t_457 t_458 t_459 (Nat.le_of_ble_eq_true rfl) (Nat.le_of_ble_eq_true rfl) dX11_both_16 (Nat.le_of_ble_eq_true rfl) rfl rfl (m_X9_isWriter X.2.1 E N 1 st_1 x2 r1.2 _ h7) ?_
    change Zz E X YX11_both (some (.int R.1), R.2) r6.2 _ _ [.int r6.1]
    refine z_if_eq (tgt := 27) C dX11_both_19 (by decide) (fun h8 => ?_) (fun h8 => ?_)
    · replace hf := ifp hf h8
      refine z_sub [(0, .ref (E.2.1 0))] [0] rfl ?_
      exact hJ27 r6.2 hf
    · replace hf := ifn hf h8
      refine z_iload_n C dX11_both_22 1 rfl ?_
      refine z_iload_n C dX11_both_23 2 rfl ?_
      refine z_icmp_ne (tgt := 33) C dX11_both_24 (by decide) (fun h9 => ?_) (fun h9 => ?_)
      · replace hf := ifn hf h9
        refine z_aload_n C dX11_both_33 0 rfl ?_
        refine z_get (v := .ref (E.2.1 53)) (T := TX11) (N := 8) (ci := 10) C (by decide) wc_main rfl in_X11 3 (by decide) t_236 rfl dX11_both_34 ?_
        refine z_aload_n C dX11_both_37 0 rfl ?_
        refine z_get (v := .ref (E.2.1 1)) (T := TX11) (N := 8) (ci := 10) C (by decide) wc_main rfl in_X11 0 (by decide) t_233 rfl dX11_both_38 ?_
        refine z_aload_n C dX11_both_41 0 rfl ?_
        obtain ⟨r10, h11, hf⟩ := bd_some hf
        refine z_callV (Y2 := YX11_lawNow) (CC := RX11) (T := TX11) (N := 8) (ci := 10) (As := []) C lk_X11_lawNow (by decide) wc_main rfl t_477 t_479 p_16 (Nat.le_of_ble_eq_true rfl) (Nat.le_of_ble_eq_true rfl) dX11_both_42 (Nat.le_of_ble_eq_true rfl) rfl rfl (m_X11_lawNow X.2.1 E N r6.2 _ h11) ?_
        change Zz E X YX11_both (some (.int R.1), R.2) r10.2 _ _ [.ref (E.2.1 r10.1), .ref (E.2.1 1), .ref (E.2.1 53)]
        refine z_iload_n C dX11_both_45 1 rfl ?_
        refine z_iload_n C dX11_both_46 2 rfl ?_
        obtain ⟨r12, h13, hf⟩ := bd_some hf
        refine z_callV (Y2 := YX2_roundsOfTwo) (CC := RX2) (T := TX2) (N := 5) (ci := 1) (As := [.ref (E.2.1 1), .ref (E.2.1 r10.1), .int x1, .int x2]) C lk_X2_roundsOfTwo (by decide) wc_mi rfl t_789 t_790 t_791 (Nat.le_of_ble_eq_true rfl) (Nat.le_of_ble_eq_true rfl) dX11_both_47 (Nat.le_of_ble_eq_true rfl) rfl rfl (m_X2_roundsOfTwo X.2.1 E N 1 r10.1 st_1 (la_now h11) x1 x2 r10.2 _ h13) ?_
        change Zz E X YX11_both (some (.int R.1), R.2) r12.2 _ _ [.int r12.1]
        exact z_iret C dX11_both_50 rfl (by rw [← Option.some.inj hf])
      · replace hf := ifp hf h9
        refine z_sub [(0, .ref (E.2.1 0))] [0] rfl ?_
        exact hJ27 r6.2 hf
theorem lk_X11_both {Y : Yv} : Lk Y YX11_both 2 := ⟨t_788, t_1, ⟨by decide +kernel, by decide +kernel⟩, by decide +kernel⟩
abbrev YX11_year : Yv := (yX11_year, cX11_year, 3, some .int, 5, 129)
def f_X11_year (N : Nat) (x1 x2 : Int32) (σ : Sg) : Option (Int32 × Sg) :=
  if 1 ≤ x1 then (if x1 ≤ 30 then ((f_X11_lawNow N σ).bind (fun r3 => (f_X2_needBehindDays N 2 r3.1 x1 x2 r3.2).bind (fun r5 => some (r5.1, r5.2)))) else ((f_X11_refuse N (-6) σ).bind (fun r7 => some (r7.1, r7.2)))) else ((f_X11_refuse N (-4) σ).bind (fun r9 => some (r9.1, r9.2)))
set_option maxHeartbeats 4000000 in
set_option maxRecDepth 20000 in
theorem m_X11_year (l : Launch) (E : Ev) (N : Nat) (x1 x2 : Int32) (σ : Sg) (R : Int32 × Sg) (hf : f_X11_year N x1 x2 σ = some R) : Ct l E YX11_year [.ref (E.2.1 0), .int x1, .int x2] σ (some (.int R.1), R.2) := by
  refine ct_of (by decide +kernel) (Nat.le_of_ble_eq_true rfl) [(0, .ref (E.2.1 0)), (1, .int x1), (2, .int x2)] rfl (fun X hX C => ?_)
  unfold f_X11_year at hf
  refine z_iload_n C dX11_year_0 1 rfl ?_
  refine z_iconst (v := 1) C dX11_year_1 (by decide) ?_
  refine z_icmp_ge (tgt := 12) C dX11_year_2 (by decide) (fun h1 => ?_) (fun h1 => ?_)
  · replace hf := ifp hf h1
    refine z_iload_n C dX11_year_12 1 rfl ?_
    refine z_bipush (v := 30) C dX11_year_13 (by decide) ?_
    refine z_icmp_le (tgt := 25) C dX11_year_15 (by decide) (fun h2 => ?_) (fun h2 => ?_)
    · replace hf := ifp hf h2
      refine z_aload_n C dX11_year_25 0 rfl ?_
      refine z_get (v := .ref (E.2.1 53)) (T := TX11) (N := 8) (ci := 10) C (by decide) wc_main rfl in_X11 3 (by decide) t_236 rfl dX11_year_26 ?_
      refine z_aload_n C dX11_year_29 0 rfl ?_
      refine z_get (v := .ref (E.2.1 1)) (T := TX11) (N := 8) (ci := 10) C (by decide) wc_main rfl in_X11 0 (by decide) t_233 rfl dX11_year_30 ?_
      refine z_getN (v := .ref (E.2.1 2)) (T := TX9) (N := 11) (ci := 8) C (lt_st st_1) (wc_st st_1) rfl in_X9 0 (by decide) n_78 rfl dX11_year_33 ?_
      refine z_aload_n C dX11_year_36 0 rfl ?_
      obtain ⟨r3, h4, hf⟩ := bd_some hf
      refine z_callV (Y2 := YX11_lawNow) (CC := RX11) (T := TX11) (N := 8) (ci := 10) (As := []) C lk_X11_lawNow (by decide) wc_main rfl t_477 t_479 p_16 (Nat.le_of_ble_eq_true rfl) (Nat.le_of_ble_eq_true rfl) dX11_year_37 (Nat.le_of_ble_eq_true rfl) rfl rfl (m_X11_lawNow X.2.1 E N σ _ h4) ?_
      change Zz E X YX11_year (some (.int R.1), R.2) r3.2 _ _ [.ref (E.2.1 r3.1), .ref (E.2.1 2), .ref (E.2.1 53)]
      refine z_iload_n C dX11_year_40 1 rfl ?_
      refine z_iload_n C dX11_year_41 2 rfl ?_
      obtain ⟨r5, h6, hf⟩ := bd_some hf
      refine z_callV (Y2 := YX2_needBehindDays) (CC := RX2) (T := TX2) (N := 5) (ci := 1) (As := [.ref (E.2.1 2), .ref (E.2.1 r3.1), .int x1, .int x2]) C lk_X2_needBehindDays (by decide) wc_mi rfl t_801 t_802 t_803 (Nat.le_of_ble_eq_true rfl) (Nat.le_of_ble_eq_true rfl) dX11_year_42 (Nat.le_of_ble_eq_true rfl) rfl rfl (m_X2_needBehindDays X.2.1 E N 2 r3.1 pe_2 (la_now h4) x1 x2 r3.2 _ h6) ?_
      change Zz E X YX11_year (some (.int R.1), R.2) r5.2 _ _ [.int r5.1]
      exact z_iret C dX11_year_45 rfl (by rw [← Option.some.inj hf])
    · replace hf := ifn hf h2
      refine z_aload_n C dX11_year_18 0 rfl ?_
      refine z_bipush (v := (-6)) C dX11_year_19 (by decide) ?_
      obtain ⟨r7, h8, hf⟩ := bd_some hf
      refine z_callV (Y2 := YX11_refuse) (CC := RX11) (T := TX11) (N := 8) (ci := 10) (As := [.int (-6)]) C lk_X11_refuse (by decide) wc_main rfl t_262 t_264 p_0 (Nat.le_of_ble_eq_true rfl) (Nat.le_of_ble_eq_true rfl) dX11_year_21 (Nat.le_of_ble_eq_true rfl) rfl rfl (m_X11_refuse X.2.1 E N (-6) σ _ h8) ?_
      change Zz E X YX11_year (some (.int R.1), R.2) r7.2 _ _ [.int r7.1]
      exact z_iret C dX11_year_24 rfl (by rw [← Option.some.inj hf])
  · replace hf := ifn hf h1
    refine z_aload_n C dX11_year_5 0 rfl ?_
    refine z_bipush (v := (-4)) C dX11_year_6 (by decide) ?_
    obtain ⟨r9, h10, hf⟩ := bd_some hf
    refine z_callV (Y2 := YX11_refuse) (CC := RX11) (T := TX11) (N := 8) (ci := 10) (As := [.int (-4)]) C lk_X11_refuse (by decide) wc_main rfl t_262 t_264 p_0 (Nat.le_of_ble_eq_true rfl) (Nat.le_of_ble_eq_true rfl) dX11_year_8 (Nat.le_of_ble_eq_true rfl) rfl rfl (m_X11_refuse X.2.1 E N (-4) σ _ h10) ?_
    change Zz E X YX11_year (some (.int R.1), R.2) r9.2 _ _ [.int r9.1]
    exact z_iret C dX11_year_11 rfl (by rw [← Option.some.inj hf])
theorem lk_X11_year {Y : Yv} : Lk Y YX11_year 2 := ⟨t_800, t_1, ⟨by decide +kernel, by decide +kernel⟩, by decide +kernel⟩
abbrev YX11_row : Yv := (yX11_row, cX11_row, 2, some .int, 1, 21)
def f_X11_row_J27 (N : Nat) (σ : Sg) : Option (Int32 × Sg) :=
  (f_X11_refuse N (-6) σ).bind (fun r3 => some (r3.1, r3.2))
def f_X11_row (N : Nat) (x1 : Int32) (σ : Sg) : Option (Int32 × Sg) :=
  if 0 ≤ x1 then (if 9 < x1 then (f_X11_row_J27 N σ) else ((f_X4_isFull N 70 σ).bind (fun r5 => if r5.1 = 0 then ((f_X4_add N 70 x1 r5.2).bind (fun r8 => some ((r8 70 1), r8))) else (f_X11_row_J27 N r5.2)))) else ((f_X11_refuse N (-4) σ).bind (fun r10 => some (r10.1, r10.2)))
set_option maxHeartbeats 4000000 in
set_option maxRecDepth 20000 in
theorem m_X11_row (l : Launch) (E : Ev) (N : Nat) (x1 : Int32) (σ : Sg) (R : Int32 × Sg) (hf : f_X11_row N x1 σ = some R) : Ct l E YX11_row [.ref (E.2.1 0), .int x1] σ (some (.int R.1), R.2) := by
  refine ct_of (by decide +kernel) (Nat.le_of_ble_eq_true rfl) [(0, .ref (E.2.1 0)), (1, .int x1)] rfl (fun X hX C => ?_)
  have hJ27 : ∀ (σ : Sg), f_X11_row_J27 N σ = some R → Zz E X YX11_row (some (.int R.1), R.2) σ 27 [(0, .ref (E.2.1 0))] [] := by
    intro σ hf
    unfold f_X11_row_J27 at hf
    refine z_aload_n C dX11_row_27 0 rfl ?_
    refine z_bipush (v := (-6)) C dX11_row_28 (by decide) ?_
    obtain ⟨r3, h4, hf⟩ := bd_some hf
    refine z_callV (Y2 := YX11_refuse) (CC := RX11) (T := TX11) (N := 8) (ci := 10) (As := [.int (-6)]) C lk_X11_refuse (by decide) wc_main rfl t_262 t_264 p_0 (Nat.le_of_ble_eq_true rfl) (Nat.le_of_ble_eq_true rfl) dX11_row_30 (Nat.le_of_ble_eq_true rfl) rfl rfl (m_X11_refuse X.2.1 E N (-6) σ _ h4) ?_
    change Zz E X YX11_row (some (.int R.1), R.2) r3.2 _ _ [.int r3.1]
    exact z_iret C dX11_row_33 rfl (by rw [← Option.some.inj hf])
  unfold f_X11_row at hf
  refine z_iload_n C dX11_row_0 1 rfl ?_
  refine z_if_ge (tgt := 11) C dX11_row_1 (by decide) (fun h1 => ?_) (fun h1 => ?_)
  · replace hf := ifp hf h1
    refine z_iload_n C dX11_row_11 1 rfl ?_
    refine z_bipush (v := 9) C dX11_row_12 (by decide) ?_
    refine z_icmp_gt (tgt := 27) C dX11_row_14 (by decide) (fun h2 => ?_) (fun h2 => ?_)
    · replace hf := ifp hf h2
      refine z_sub [(0, .ref (E.2.1 0))] [0] rfl ?_
      exact hJ27 σ hf
    · replace hf := ifn hf h2
      refine z_aload_n C dX11_row_17 0 rfl ?_
      refine z_get (v := .ref (E.2.1 70)) (T := TX11) (N := 8) (ci := 10) C (by decide) wc_main rfl in_X11 5 (by decide) t_238 rfl dX11_row_18 ?_
      obtain ⟨r5, h6, hf⟩ := bd_some hf
      refine z_callV (Y2 := YX4_isFull) (CC := RX4) (T := TX4) (N := 2) (ci := 3) (As := []) C lk_X4_isFull (lt_nu nu_70) (wc_nu nu_70) rfl t_266 t_267 t_268 (Nat.le_of_ble_eq_true rfl) (Nat.le_of_ble_eq_true rfl) dX11_row_21 (Nat.le_of_ble_eq_true rfl) rfl rfl (m_X4_isFull X.2.1 E N 70 nu_70 σ _ h6) ?_
      change Zz E X YX11_row (some (.int R.1), R.2) r5.2 _ _ [.int r5.1]
      refine z_if_eq (tgt := 34) C dX11_row_24 (by decide) (fun h7 => ?_) (fun h7 => ?_)
      · replace hf := ifp hf h7
        refine z_aload_n C dX11_row_34 0 rfl ?_
        refine z_get (v := .ref (E.2.1 70)) (T := TX11) (N := 8) (ci := 10) C (by decide) wc_main rfl in_X11 5 (by decide) t_238 rfl dX11_row_35 ?_
        refine z_iload_n C dX11_row_38 1 rfl ?_
        obtain ⟨r8, h9, hf⟩ := bd_some hf
        refine z_callV (Y2 := YX4_add) (CC := RX4) (T := TX4) (N := 2) (ci := 3) (As := [.int x1]) C lk_X4_add (lt_nu nu_70) (wc_nu nu_70) rfl t_270 t_271 t_272 (Nat.le_of_ble_eq_true rfl) (Nat.le_of_ble_eq_true rfl) dX11_row_39 (Nat.le_of_ble_eq_true rfl) rfl rfl (m_X4_add X.2.1 E N 70 nu_70 x1 r5.2 _ h9) ?_
        change Zz E X YX11_row (some (.int R.1), R.2) r8 _ _ []
        refine z_aload_n C dX11_row_42 0 rfl ?_
        refine z_get (v := .ref (E.2.1 70)) (T := TX11) (N := 8) (ci := 10) C (by decide) wc_main rfl in_X11 5 (by decide) t_238 rfl dX11_row_43 ?_
        refine z_getN (v := .int (r8 70 1)) (T := TX4) (N := 2) (ci := 3) C (lt_nu nu_70) (wc_nu nu_70) rfl in_X4 1 (by decide) n_69 rfl dX11_row_46 ?_
        exact z_iret C dX11_row_49 rfl (by rw [← Option.some.inj hf])
      · replace hf := ifn hf h7
        refine z_sub [(0, .ref (E.2.1 0))] [0] rfl ?_
        exact hJ27 r5.2 hf
  · replace hf := ifn hf h1
    refine z_aload_n C dX11_row_4 0 rfl ?_
    refine z_bipush (v := (-4)) C dX11_row_5 (by decide) ?_
    obtain ⟨r10, h11, hf⟩ := bd_some hf
    refine z_callV (Y2 := YX11_refuse) (CC := RX11) (T := TX11) (N := 8) (ci := 10) (As := [.int (-4)]) C lk_X11_refuse (by decide) wc_main rfl t_262 t_264 p_0 (Nat.le_of_ble_eq_true rfl) (Nat.le_of_ble_eq_true rfl) dX11_row_7 (Nat.le_of_ble_eq_true rfl) rfl rfl (m_X11_refuse X.2.1 E N (-4) σ _ h11) ?_
    change Zz E X YX11_row (some (.int R.1), R.2) r10.2 _ _ [.int r10.1]
    exact z_iret C dX11_row_10 rfl (by rw [← Option.some.inj hf])
theorem lk_X11_row {Y : Yv} : Lk Y YX11_row 1 := ⟨t_817, t_1, ⟨by decide +kernel, by decide +kernel⟩, by decide +kernel⟩
abbrev YX11_judge : Yv := (yX11_judge, cX11_judge, 2, some .int, 5, 128)
def f_X11_judge (N : Nat) (σ : Sg) : Option (Int32 × Sg) :=
  (f_X11_lawNow N σ).bind (fun r1 => (f_X2_firstNotSo N 2 r1.1 11 70 r1.2).bind (fun r3 => (f_X4_clear N 70 r3.2).bind (fun r5 => some (r3.1, r5))))
set_option maxHeartbeats 4000000 in
set_option maxRecDepth 20000 in
theorem m_X11_judge (l : Launch) (E : Ev) (N : Nat) (σ : Sg) (R : Int32 × Sg) (hf : f_X11_judge N σ = some R) : Ct l E YX11_judge [.ref (E.2.1 0)] σ (some (.int R.1), R.2) := by
  refine ct_of (by decide +kernel) (Nat.le_of_ble_eq_true rfl) [(0, .ref (E.2.1 0))] rfl (fun X hX C => ?_)
  unfold f_X11_judge at hf
  refine z_aload_n C dX11_judge_0 0 rfl ?_
  refine z_get (v := .ref (E.2.1 53)) (T := TX11) (N := 8) (ci := 10) C (by decide) wc_main rfl in_X11 3 (by decide) t_236 rfl dX11_judge_1 ?_
  refine z_aload_n C dX11_judge_4 0 rfl ?_
  refine z_get (v := .ref (E.2.1 1)) (T := TX11) (N := 8) (ci := 10) C (by decide) wc_main rfl in_X11 0 (by decide) t_233 rfl dX11_judge_5 ?_
  refine z_getN (v := .ref (E.2.1 2)) (T := TX9) (N := 11) (ci := 8) C (lt_st st_1) (wc_st st_1) rfl in_X9 0 (by decide) n_78 rfl dX11_judge_8 ?_
  refine z_aload_n C dX11_judge_11 0 rfl ?_
  obtain ⟨r1, h2, hf⟩ := bd_some hf
  refine z_callV (Y2 := YX11_lawNow) (CC := RX11) (T := TX11) (N := 8) (ci := 10) (As := []) C lk_X11_lawNow (by decide) wc_main rfl t_477 t_479 p_16 (Nat.le_of_ble_eq_true rfl) (Nat.le_of_ble_eq_true rfl) dX11_judge_12 (Nat.le_of_ble_eq_true rfl) rfl rfl (m_X11_lawNow X.2.1 E N σ _ h2) ?_
  change Zz E X YX11_judge (some (.int R.1), R.2) r1.2 _ _ [.ref (E.2.1 r1.1), .ref (E.2.1 2), .ref (E.2.1 53)]
  refine z_aload_n C dX11_judge_15 0 rfl ?_
  refine z_get (v := .ref (E.2.1 1)) (T := TX11) (N := 8) (ci := 10) C (by decide) wc_main rfl in_X11 0 (by decide) t_233 rfl dX11_judge_16 ?_
  refine z_getN (v := .ref (E.2.1 11)) (T := TX9) (N := 11) (ci := 8) C (lt_st st_1) (wc_st st_1) rfl in_X9 4 (by decide) n_94 rfl dX11_judge_19 ?_
  refine z_aload_n C dX11_judge_22 0 rfl ?_
  refine z_get (v := .ref (E.2.1 70)) (T := TX11) (N := 8) (ci := 10) C (by decide) wc_main rfl in_X11 5 (by decide) t_238 rfl dX11_judge_23 ?_
  obtain ⟨r3, h4, hf⟩ := bd_some hf
  refine z_callV (Y2 := YX2_firstNotSo) (CC := RX2) (T := TX2) (N := 5) (ci := 1) (As := [.ref (E.2.1 2), .ref (E.2.1 r1.1), .ref (E.2.1 11), .ref (E.2.1 70)]) C lk_X2_firstNotSo (by decide) wc_mi rfl t_822 t_823 t_824 (Nat.le_of_ble_eq_true rfl) (Nat.le_of_ble_eq_true rfl) dX11_judge_26 (Nat.le_of_ble_eq_true rfl) rfl rfl (m_X2_firstNotSo X.2.1 E N 2 r1.1 11 70 pe_2 (la_now h2) nu_11 nu_70 r1.2 _ h4) ?_
  change Zz E X YX11_judge (some (.int R.1), R.2) r3.2 _ _ [.int r3.1]
  refine z_istore_n (lv' := [(1, .int r3.1), (0, .ref (E.2.1 0))]) C dX11_judge_29 (by decide) rfl ?_
  refine z_aload_n C dX11_judge_30 1 rfl ?_
  refine z_get (v := .ref (E.2.1 70)) (T := TX11) (N := 8) (ci := 10) C (by decide) wc_main rfl in_X11 5 (by decide) t_238 rfl dX11_judge_31 ?_
  obtain ⟨r5, h6, hf⟩ := bd_some hf
  refine z_callV (Y2 := YX4_clear) (CC := RX4) (T := TX4) (N := 2) (ci := 3) (As := []) C lk_X4_clear (lt_nu nu_70) (wc_nu nu_70) rfl t_438 t_298 t_299 (Nat.le_of_ble_eq_true rfl) (Nat.le_of_ble_eq_true rfl) dX11_judge_34 (Nat.le_of_ble_eq_true rfl) rfl rfl (m_X4_clear X.2.1 E N 70 nu_70 r3.2 _ h6) ?_
  change Zz E X YX11_judge (some (.int R.1), R.2) r5 _ _ []
  refine z_iload_n C dX11_judge_37 0 rfl ?_
  exact z_iret C dX11_judge_38 rfl (by rw [← Option.some.inj hf])
theorem lk_X11_judge {Y : Yv} : Lk Y YX11_judge 0 := ⟨t_821, t_1, ⟨by decide +kernel, by decide +kernel⟩, by decide +kernel⟩
abbrev YX11_image : Yv := (yX11_image, cX11_image, 1, some .int, 3, 64)
def f_X11_image (N : Nat) (σ : Sg) : Option (Int32 × Sg) :=
  (f_X9_takeFrom N 17 1 σ).bind (fun r1 => nm (sgs r1 0 7 1) (fun σ3 => some ((σ3 1 9), σ3)))
set_option maxHeartbeats 4000000 in
set_option maxRecDepth 20000 in
theorem m_X11_image (l : Launch) (E : Ev) (N : Nat) (σ : Sg) (R : Int32 × Sg) (hf : f_X11_image N σ = some R) : Ct l E YX11_image [.ref (E.2.1 0)] σ (some (.int R.1), R.2) := by
  refine ct_of (by decide +kernel) (Nat.le_of_ble_eq_true rfl) [(0, .ref (E.2.1 0))] rfl (fun X hX C => ?_)
  unfold f_X11_image at hf
  refine z_aload_n C dX11_image_0 0 rfl ?_
  refine z_get (v := .ref (E.2.1 17)) (T := TX11) (N := 8) (ci := 10) C (by decide) wc_main rfl in_X11 1 (by decide) t_234 rfl dX11_image_1 ?_
  refine z_aload_n C dX11_image_4 0 rfl ?_
  refine z_get (v := .ref (E.2.1 1)) (T := TX11) (N := 8) (ci := 10) C (by decide) wc_main rfl in_X11 0 (by decide) t_233 rfl dX11_image_5 ?_
  obtain ⟨r1, h2, hf⟩ := bd_some hf
  refine z_callV (Y2 := YX9_takeFrom) (CC := RX9) (T := TX9) (N := 11) (ci := 8) (As := [.ref (E.2.1 1)]) C lk_X9_takeFrom (lt_st st_17) (wc_st st_17) rfl t_830 t_283 t_284 (Nat.le_of_ble_eq_true rfl) (Nat.le_of_ble_eq_true rfl) dX11_image_8 (Nat.le_of_ble_eq_true rfl) rfl rfl (m_X9_takeFrom X.2.1 E N 17 1 st_17 st_1 σ _ h2) ?_
  change Zz E X YX11_image (some (.int R.1), R.2) r1 _ _ []
  refine z_aload_n C dX11_image_11 0 rfl ?_
  refine z_iconst (v := 1) C dX11_image_12 (by decide) ?_
  obtain ⟨σ3, h4, hf⟩ := nm_some hf
  refine z_put (T := TX11) (N := 8) (ci := 10) (ty := .boolean) C tyX11 tyX11_ok nmX11 (by decide) wc_main rfl in_X11 7 (by decide) t_240 rfl rfl rfl rfl (Nat.le_of_ble_eq_true rfl) (pw_X11_7) dX11_image_13 ?_
  rw [← h4]
  refine z_aload_n C dX11_image_16 0 rfl ?_
  refine z_get (v := .ref (E.2.1 1)) (T := TX11) (N := 8) (ci := 10) C (by decide) wc_main rfl in_X11 0 (by decide) t_233 rfl dX11_image_17 ?_
  refine z_getN (v := .int (σ3 1 9)) (T := TX9) (N := 11) (ci := 8) C (lt_st st_1) (wc_st st_1) rfl in_X9 9 (by decide) n_106 rfl dX11_image_20 ?_
  exact z_iret C dX11_image_23 rfl (by rw [← Option.some.inj hf])
theorem lk_X11_image {Y : Yv} : Lk Y YX11_image 0 := ⟨t_829, t_1, ⟨by decide +kernel, by decide +kernel⟩, by decide +kernel⟩
abbrev YX11_on : Yv := (yX11_on, cX11_on, 1, some .int, 3, 64)
def f_X11_on (N : Nat) (σ : Sg) : Option (Int32 × Sg) :=
  if (σ 0 7) = 0 then ((f_X11_refuse N (-3) σ).bind (fun r4 => some (r4.1, r4.2))) else ((f_X9_takeFrom N 1 17 σ).bind (fun r2 => some ((r2 1 9), r2)))
set_option maxHeartbeats 4000000 in
set_option maxRecDepth 20000 in
theorem m_X11_on (l : Launch) (E : Ev) (N : Nat) (σ : Sg) (R : Int32 × Sg) (hf : f_X11_on N σ = some R) : Ct l E YX11_on [.ref (E.2.1 0)] σ (some (.int R.1), R.2) := by
  refine ct_of (by decide +kernel) (Nat.le_of_ble_eq_true rfl) [(0, .ref (E.2.1 0))] rfl (fun X hX C => ?_)
  unfold f_X11_on at hf
  refine z_aload_n C dX11_on_0 0 rfl ?_
  refine z_get (v := .int (σ 0 7)) (T := TX11) (N := 8) (ci := 10) C (by decide) wc_main rfl in_X11 7 (by decide) t_240 rfl dX11_on_1 ?_
  refine z_if_ne (tgt := 14) C dX11_on_4 (by decide) (fun h1 => ?_) (fun h1 => ?_)
  · replace hf := ifn hf h1
    refine z_aload_n C dX11_on_14 0 rfl ?_
    refine z_get (v := .ref (E.2.1 1)) (T := TX11) (N := 8) (ci := 10) C (by decide) wc_main rfl in_X11 0 (by decide) t_233 rfl dX11_on_15 ?_
    refine z_aload_n C dX11_on_18 0 rfl ?_
    refine z_get (v := .ref (E.2.1 17)) (T := TX11) (N := 8) (ci := 10) C (by decide) wc_main rfl in_X11 1 (by decide) t_234 rfl dX11_on_19 ?_
    obtain ⟨r2, h3, hf⟩ := bd_some hf
    refine z_callV (Y2 := YX9_takeFrom) (CC := RX9) (T := TX9) (N := 11) (ci := 8) (As := [.ref (E.2.1 17)]) C lk_X9_takeFrom (lt_st st_1) (wc_st st_1) rfl t_830 t_283 t_284 (Nat.le_of_ble_eq_true rfl) (Nat.le_of_ble_eq_true rfl) dX11_on_22 (Nat.le_of_ble_eq_true rfl) rfl rfl (m_X9_takeFrom X.2.1 E N 1 17 st_1 st_17 σ _ h3) ?_
    change Zz E X YX11_on (some (.int R.1), R.2) r2 _ _ []
    refine z_aload_n C dX11_on_25 0 rfl ?_
    refine z_get (v := .ref (E.2.1 1)) (T := TX11) (N := 8) (ci := 10) C (by decide) wc_main rfl in_X11 0 (by decide) t_233 rfl dX11_on_26 ?_
    refine z_getN (v := .int (r2 1 9)) (T := TX9) (N := 11) (ci := 8) C (lt_st st_1) (wc_st st_1) rfl in_X9 9 (by decide) n_106 rfl dX11_on_29 ?_
    exact z_iret C dX11_on_32 rfl (by rw [← Option.some.inj hf])
  · replace hf := ifp hf h1
    refine z_aload_n C dX11_on_7 0 rfl ?_
    refine z_bipush (v := (-3)) C dX11_on_8 (by decide) ?_
    obtain ⟨r4, h5, hf⟩ := bd_some hf
    refine z_callV (Y2 := YX11_refuse) (CC := RX11) (T := TX11) (N := 8) (ci := 10) (As := [.int (-3)]) C lk_X11_refuse (by decide) wc_main rfl t_262 t_264 p_0 (Nat.le_of_ble_eq_true rfl) (Nat.le_of_ble_eq_true rfl) dX11_on_10 (Nat.le_of_ble_eq_true rfl) rfl rfl (m_X11_refuse X.2.1 E N (-3) σ _ h5) ?_
    change Zz E X YX11_on (some (.int R.1), R.2) r4.2 _ _ [.int r4.1]
    exact z_iret C dX11_on_13 rfl (by rw [← Option.some.inj hf])
theorem lk_X11_on {Y : Yv} : Lk Y YX11_on 0 := ⟨t_834, t_1, ⟨by decide +kernel, by decide +kernel⟩, by decide +kernel⟩
abbrev YX11_count : Yv := (yX11_count, cX11_count, 2, some .int, 0, 0)
def f_X11_count (N : Nat) (x1 : Int32) (σ : Sg) : Option (Int32 × Sg) :=
  if x1 = 0 then (some ((σ 2 2), σ)) else (if x1 = 1 then (some ((σ 5 1), σ)) else (if x1 = 2 then (some ((σ 11 1), σ)) else (if x1 = 3 then (some ((σ 13 1), σ)) else (if x1 = 4 then (some ((σ 1 9), σ)) else (if x1 = 5 then (some ((σ 70 1), σ)) else (if x1 = 6 then (some ((σ 34 1), σ)) else (if x1 = 7 then (some ((σ 1 10), σ)) else (if x1 ≤ 10 then (some ((-9), σ)) else (if 7 ≤ (x1 - 10) then (some ((-9), σ)) else (ga (x1 - 10) 7 (some ((σ 72 (Int32.toNatClampNeg (x1 - 10))), σ))))))))))))
set_option maxHeartbeats 4000000 in
set_option maxRecDepth 20000 in
theorem m_X11_count (l : Launch) (E : Ev) (N : Nat) (x1 : Int32) (σ : Sg) (R : Int32 × Sg) (hf : f_X11_count N x1 σ = some R) : Ct l E YX11_count [.ref (E.2.1 0), .int x1] σ (some (.int R.1), R.2) := by
  refine ct_of (by decide +kernel) (Nat.le_of_ble_eq_true rfl) [(0, .ref (E.2.1 0)), (1, .int x1)] rfl (fun X hX C => ?_)
  unfold f_X11_count at hf
  refine z_iload_n C dX11_count_0 1 rfl ?_
  by_cases h1 : x1 = 0
  · replace hf := ifp hf h1
    refine z_tabIn (x := x1) (off := 47) (tgt := 48) C dX11_count_1 (by rw [h1]; decide) (by rw [h1]; decide) (by rw [h1]; decide) (by decide) ?_
    refine z_aload_n C dX11_count_48 0 rfl ?_
    refine z_get (v := .ref (E.2.1 1)) (T := TX11) (N := 8) (ci := 10) C (by decide) wc_main rfl in_X11 0 (by decide) t_233 rfl dX11_count_49 ?_
    refine z_getN (v := .ref (E.2.1 2)) (T := TX9) (N := 11) (ci := 8) C (lt_st st_1) (wc_st st_1) rfl in_X9 0 (by decide) n_78 rfl dX11_count_52 ?_
    refine z_getN (v := .int (σ 2 2)) (T := TX5) (N := 3) (ci := 4) C (lt_pe pe_2) (wc_pe pe_2) rfl in_X5 2 (by decide) n_51 rfl dX11_count_55 ?_
    exact z_iret C dX11_count_58 rfl (by rw [← Option.some.inj hf])
  · replace hf := ifn hf h1
    by_cases h2 : x1 = 1
    · replace hf := ifp hf h2
      refine z_tabIn (x := x1) (off := 58) (tgt := 59) C dX11_count_1 (by rw [h2]; decide) (by rw [h2]; decide) (by rw [h2]; decide) (by decide) ?_
      refine z_aload_n C dX11_count_59 0 rfl ?_
      refine z_get (v := .ref (E.2.1 1)) (T := TX11) (N := 8) (ci := 10) C (by decide) wc_main rfl in_X11 0 (by decide) t_233 rfl dX11_count_60 ?_
      refine z_getN (v := .ref (E.2.1 5)) (T := TX9) (N := 11) (ci := 8) C (lt_st st_1) (wc_st st_1) rfl in_X9 1 (by decide) n_82 rfl dX11_count_63 ?_
      refine z_getN (v := .int (σ 5 1)) (T := TX4) (N := 2) (ci := 3) C (lt_nu nu_5) (wc_nu nu_5) rfl in_X4 1 (by decide) n_69 rfl dX11_count_66 ?_
      exact z_iret C dX11_count_69 rfl (by rw [← Option.some.inj hf])
    · replace hf := ifn hf h2
      by_cases h3 : x1 = 2
      · replace hf := ifp hf h3
        refine z_tabIn (x := x1) (off := 69) (tgt := 70) C dX11_count_1 (by rw [h3]; decide) (by rw [h3]; decide) (by rw [h3]; decide) (by decide) ?_
        refine z_aload_n C dX11_count_70 0 rfl ?_
        refine z_get (v := .ref (E.2.1 1)) (T := TX11) (N := 8) (ci := 10) C (by decide) wc_main rfl in_X11 0 (by decide) t_233 rfl dX11_count_71 ?_
        refine z_getN (v := .ref (E.2.1 11)) (T := TX9) (N := 11) (ci := 8) C (lt_st st_1) (wc_st st_1) rfl in_X9 4 (by decide) n_94 rfl dX11_count_74 ?_
        refine z_getN (v := .int (σ 11 1)) (T := TX4) (N := 2) (ci := 3) C (lt_nu nu_11) (wc_nu nu_11) rfl in_X4 1 (by decide) n_69 rfl dX11_count_77 ?_
        exact z_iret C dX11_count_80 rfl (by rw [← Option.some.inj hf])
      · replace hf := ifn hf h3
        by_cases h4 : x1 = 3
        · replace hf := ifp hf h4
          refine z_tabIn (x := x1) (off := 80) (tgt := 81) C dX11_count_1 (by rw [h4]; decide) (by rw [h4]; decide) (by rw [h4]; decide) (by decide) ?_
          refine z_aload_n C dX11_count_81 0 rfl ?_
          refine z_get (v := .ref (E.2.1 1)) (T := TX11) (N := 8) (ci := 10) C (by decide) wc_main rfl in_X11 0 (by decide) t_233 rfl dX11_count_82 ?_
          refine z_getN (v := .ref (E.2.1 13)) (T := TX9) (N := 11) (ci := 8) C (lt_st st_1) (wc_st st_1) rfl in_X9 5 (by decide) n_97 rfl dX11_count_85 ?_
          refine z_getN (v := .int (σ 13 1)) (T := TX4) (N := 2) (ci := 3) C (lt_nu nu_13) (wc_nu nu_13) rfl in_X4 1 (by decide) n_69 rfl dX11_count_88 ?_
          exact z_iret C dX11_count_91 rfl (by rw [← Option.some.inj hf])
        · replace hf := ifn hf h4
          by_cases h5 : x1 = 4
          · replace hf := ifp hf h5
            refine z_tabIn (x := x1) (off := 91) (tgt := 92) C dX11_count_1 (by rw [h5]; decide) (by rw [h5]; decide) (by rw [h5]; decide) (by decide) ?_
            refine z_aload_n C dX11_count_92 0 rfl ?_
            refine z_get (v := .ref (E.2.1 1)) (T := TX11) (N := 8) (ci := 10) C (by decide) wc_main rfl in_X11 0 (by decide) t_233 rfl dX11_count_93 ?_
            refine z_getN (v := .int (σ 1 9)) (T := TX9) (N := 11) (ci := 8) C (lt_st st_1) (wc_st st_1) rfl in_X9 9 (by decide) n_106 rfl dX11_count_96 ?_
            exact z_iret C dX11_count_99 rfl (by rw [← Option.some.inj hf])
          · replace hf := ifn hf h5
            by_cases h6 : x1 = 5
            · replace hf := ifp hf h6
              refine z_tabIn (x := x1) (off := 99) (tgt := 100) C dX11_count_1 (by rw [h6]; decide) (by rw [h6]; decide) (by rw [h6]; decide) (by decide) ?_
              refine z_aload_n C dX11_count_100 0 rfl ?_
              refine z_get (v := .ref (E.2.1 70)) (T := TX11) (N := 8) (ci := 10) C (by decide) wc_main rfl in_X11 5 (by decide) t_238 rfl dX11_count_101 ?_
              refine z_getN (v := .int (σ 70 1)) (T := TX4) (N := 2) (ci := 3) C (lt_nu nu_70) (wc_nu nu_70) rfl in_X4 1 (by decide) n_69 rfl dX11_count_104 ?_
              exact z_iret C dX11_count_107 rfl (by rw [← Option.some.inj hf])
            · replace hf := ifn hf h6
              by_cases h7 : x1 = 6
              · replace hf := ifp hf h7
                refine z_tabIn (x := x1) (off := 107) (tgt := 108) C dX11_count_1 (by rw [h7]; decide) (by rw [h7]; decide) (by rw [h7]; decide) (by decide) ?_
                refine z_aload_n C dX11_count_108 0 rfl ?_
                refine z_get (v := .ref (E.2.1 33)) (T := TX11) (N := 8) (ci := 10) C (by decide) wc_main rfl in_X11 2 (by decide) t_235 rfl dX11_count_109 ?_
                refine z_getN (v := .ref (E.2.1 34)) (T := TX7) (N := 4) (ci := 6) C (by decide) wc_rd rfl in_X7 0 (by decide) n_144 rfl dX11_count_112 ?_
                refine z_getN (v := .int (σ 34 1)) (T := TX4) (N := 2) (ci := 3) C (lt_nu nu_34) (wc_nu nu_34) rfl in_X4 1 (by decide) n_69 rfl dX11_count_115 ?_
                exact z_iret C dX11_count_118 rfl (by rw [← Option.some.inj hf])
              · replace hf := ifn hf h7
                by_cases h8 : x1 = 7
                · replace hf := ifp hf h8
                  refine z_tabIn (x := x1) (off := 118) (tgt := 119) C dX11_count_1 (by rw [h8]; decide) (by rw [h8]; decide) (by rw [h8]; decide) (by decide) ?_
                  refine z_aload_n C dX11_count_119 0 rfl ?_
                  refine z_get (v := .ref (E.2.1 1)) (T := TX11) (N := 8) (ci := 10) C (by decide) wc_main rfl in_X11 0 (by decide) t_233 rfl dX11_count_120 ?_
                  refine z_getN (v := .int (σ 1 10)) (T := TX9) (N := 11) (ci := 8) C (lt_st st_1) (wc_st st_1) rfl in_X9 10 (by decide) n_109 rfl dX11_count_123 ?_
                  exact z_iret C dX11_count_126 rfl (by rw [← Option.some.inj hf])
                · replace hf := ifn hf h8
                  refine z_tabOut (x := x1) (tgt := 127) C dX11_count_1 (by have eh1 := lv_neT (a := 0) h1 (by decide); have eh2 := lv_neT (a := 1) h2 (by decide); have eh3 := lv_neT (a := 2) h3 (by decide); have eh4 := lv_neT (a := 3) h4 (by decide); have eh5 := lv_neT (a := 4) h5 (by decide); have eh6 := lv_neT (a := 5) h6 (by decide); have eh7 := lv_neT (a := 6) h7 (by decide); have eh8 := lv_neT (a := 7) h8 (by decide); omega) (by decide) ?_
                  refine z_iload_n C dX11_count_127 1 rfl ?_
                  refine z_bipush (v := 10) C dX11_count_128 (by decide) ?_
                  refine z_icmp_le (tgt := 157) C dX11_count_130 (by decide) (fun h9 => ?_) (fun h9 => ?_)
                  · replace hf := ifp hf h9
                    refine z_bipush (v := (-9)) C dX11_count_157 (by decide) ?_
                    exact z_iret C dX11_count_159 rfl (by rw [← Option.some.inj hf])
                  · replace hf := ifn hf h9
                    refine z_iload_n C dX11_count_133 1 rfl ?_
                    refine z_bipush (v := 10) C dX11_count_134 (by decide) ?_
                    refine z_isub C dX11_count_136 ?_
                    refine z_aload_n C dX11_count_137 0 rfl ?_
                    refine z_get (v := .ref (E.2.1 72)) (T := TX11) (N := 8) (ci := 10) C (by decide) wc_main rfl in_X11 6 (by decide) t_239 rfl dX11_count_138 ?_
                    refine z_alen (v := 7) C ka_72 rfl dX11_count_141 ?_
                    refine z_icmp_ge (tgt := 157) C dX11_count_142 (by decide) (fun h10 => ?_) (fun h10 => ?_)
                    · replace hf := ifp hf h10
                      refine z_bipush (v := (-9)) C dX11_count_157 (by decide) ?_
                      exact z_iret C dX11_count_159 rfl (by rw [← Option.some.inj hf])
                    · replace hf := ifn hf h10
                      refine z_aload_n C dX11_count_145 0 rfl ?_
                      refine z_get (v := .ref (E.2.1 72)) (T := TX11) (N := 8) (ci := 10) C (by decide) wc_main rfl in_X11 6 (by decide) t_239 rfl dX11_count_146 ?_
                      refine z_iload_n C dX11_count_149 1 rfl ?_
                      refine z_bipush (v := 10) C dX11_count_150 (by decide) ?_
                      refine z_isub C dX11_count_152 ?_
                      obtain ⟨h11, hf⟩ := ga_some hf
                      refine z_iald C ka_72 h11 dX11_count_153 ?_
                      refine z_goto (tgt := 159) C dX11_count_154 (by decide) ?_
                      exact z_iret C dX11_count_159 rfl (by rw [← Option.some.inj hf])
theorem lk_X11_count {Y : Yv} : Lk Y YX11_count 1 := ⟨t_838, t_1, ⟨by decide +kernel, by decide +kernel⟩, by decide +kernel⟩
