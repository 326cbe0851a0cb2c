abbrev YX0_init : Yv := (yX0_init, cX0_init, 2, none, 1, 12)
theorem lk_X0_init {Y : Yv} : Lk Y YX0_init 1 := ⟨t_193, t_7, ⟨by decide +kernel, by decide +kernel⟩, by decide +kernel⟩
abbrev YX1_init : Yv := (yX1_init, cX1_init, 1, none, 3, 54)
theorem lk_X1_init {Y : Yv} : Lk Y YX1_init 0 := ⟨t_203, t_9, ⟨by decide +kernel, by decide +kernel⟩, by decide +kernel⟩
abbrev YX2_init : Yv := (yX2_init, cX2_init, 1, none, 2, 33)
theorem lk_X2_init {Y : Yv} : Lk Y YX2_init 0 := ⟨t_161, t_6, ⟨by decide +kernel, by decide +kernel⟩, by decide +kernel⟩
abbrev YX3_init : Yv := (yX3_init, cX3_init, 1, none, 2, 33)
theorem lk_X3_init {Y : Yv} : Lk Y YX3_init 0 := ⟨t_211, t_10, ⟨by decide +kernel, by decide +kernel⟩, by decide +kernel⟩
abbrev YX4_init : Yv := (yX4_init, cX4_init, 2, none, 1, 12)
theorem lk_X4_init {Y : Yv} : Lk Y YX4_init 1 := ⟨t_64, t_4, ⟨by decide +kernel, by decide +kernel⟩, by decide +kernel⟩
abbrev YX5_init : Yv := (yX5_init, cX5_init, 1, none, 1, 12)
theorem lk_X5_init {Y : Yv} : Lk Y YX5_init 0 := ⟨t_39, t_3, ⟨by decide +kernel, by decide +kernel⟩, by decide +kernel⟩
abbrev YX6_init : Yv := (yX6_init, cX6_init, 1, none, 4, 74)
theorem lk_X6_init {Y : Yv} : Lk Y YX6_init 0 := ⟨t_227, t_12, ⟨by decide +kernel, by decide +kernel⟩, by decide +kernel⟩
abbrev YX7_init : Yv := (yX7_init, cX7_init, 1, none, 3, 53)
theorem lk_X7_init {Y : Yv} : Lk Y YX7_init 0 := ⟨t_137, t_5, ⟨by decide +kernel, by decide +kernel⟩, by decide +kernel⟩
abbrev YX8_init : Yv := (yX8_init, cX8_init, 1, none, 3, 54)
theorem lk_X8_init {Y : Yv} : Lk Y YX8_init 0 := ⟨t_219, t_11, ⟨by decide +kernel, by decide +kernel⟩, by decide +kernel⟩
abbrev YX9_init : Yv := (yX9_init, cX9_init, 1, none, 2, 33)
theorem lk_X9_init {Y : Yv} : Lk Y YX9_init 0 := ⟨t_33, t_2, ⟨by decide +kernel, by decide +kernel⟩, by decide +kernel⟩
abbrev YX10_init : Yv := (yX10_init, cX10_init, 2, none, 2, 33)
theorem lk_X10_init {Y : Yv} : Lk Y YX10_init 1 := ⟨t_190, t_8, ⟨by decide +kernel, by decide +kernel⟩, by decide +kernel⟩
abbrev YX11_init : Yv := (yX11_init, cX11_init, 1, none, 5, 94)
theorem lk_X11_init {Y : Yv} : Lk Y YX11_init 0 := ⟨t_25, t_1, ⟨by decide +kernel, by decide +kernel⟩, by decide +kernel⟩
abbrev YX12_init : Yv := (yX12_init, cX12_init, 1, none, 1, 12)
theorem lk_X12_init {Y : Yv} : Lk Y YX12_init 0 := ⟨t_843, t_13, ⟨by decide +kernel, by decide +kernel⟩, by decide +kernel⟩
theorem wc_a0 {E : Ev} {q n : Nat} (h : kd q = (8, n)) : wc E σ0 q = .inl (E.2.2 0, n, .inl (fun _ => 0)) := by rw [wc_arr h, s0a h]
theorem w0_nu {E : Ev} {o : Nat} (h : kd o = (3, 0)) : wc E σ0 o = .inr (3, [.ref (E.2.1 (o + 1)), .int 0]) := by
  have hz := s0z (q := o) (by rw [h]; decide)
  unfold wc
  rw [h]
  show Sum.inr (3, fs_3 E σ0 o) = _
  simp only [fs_3, hz]
theorem w0_pe {E : Ev} {o : Nat} (h : kd o = (2, 0)) : wc E σ0 o = .inr (4, [.ref (E.2.1 (o + 1)), .ref (E.2.1 (o + 2)), .int 0]) := by
  have hz := s0z (q := o) (by rw [h]; decide)
  unfold wc
  rw [h]
  show Sum.inr (4, fs_2 E σ0 o) = _
  simp only [fs_2, hz]
theorem w0_st {E : Ev} {o : Nat} (h : kd o = (1, 0)) : wc E σ0 o = .inr (8, [.ref (E.2.1 (o + 1)), .ref (E.2.1 (o + 4)), .ref (E.2.1 (o + 6)), .ref (E.2.1 (o + 8)), .ref (E.2.1 (o + 10)), .ref (E.2.1 (o + 12)), .ref (E.2.1 (o + 14)), .int 0, .int 0, .int 0, .int 0]) := by
  have hz := s0z (q := o) (by rw [h]; decide)
  unfold wc
  rw [h]
  show Sum.inr (8, fs_1 E σ0 o) = _
  simp only [fs_1, hz]
theorem at_pre {pre l : va_W} {n j : Nat} (h : pre.length = n) : (pre ++ l)[n + j]? = l[j]? := by
  rw [List.getElem?_append_right (by omega)]
  congr 1
  omega
theorem set_pre {pre l : va_W} {n j : Nat} {x : Nat × va_E} (h : pre.length = n) : (pre ++ l).set (n + j) x = pre ++ l.set j x := by
  rw [List.set_append_right _ _ (by omega)]
  congr 2
  omega
theorem sl_len (E : Ev) (i n : Nat) : (sl E i n).length = n := by simp [sl]
set_option maxRecDepth 20000 in
theorem cn_X0_X10 (l : Launch) (E : Ev) (hE : Ad E) (q : Nat) (x : Int32) : Cn l E YX0_init 0 0 q [.ref (E.2.1 q), .int x] (.inr (9, [.int 0])) ([(E.2.1 q, .inr (9, [.int x]))], q + 1) := by
  refine cn_of hE (by decide +kernel) (Nat.le_of_ble_eq_true rfl) [(0, .ref (E.2.1 q)), (1, .int x)] rfl (fun X hX C => ?_)
  refine zn_aload_n C dX0_init_0 0 rfl ?_
  refine zn_obj C t_194 t_27 t_28 dX0_init_1 (Nat.le_of_ble_eq_true rfl) (Nat.le_of_ble_eq_true rfl) ?_
  refine zn_aload_n C dX0_init_4 0 rfl ?_
  refine zn_iload_n C dX0_init_5 1 rfl ?_
  refine zn_putF (TT := TX10) (N := 1) (ci := 9) (ty := .int) (tl := []) C tyX10 tyX10_ok nmX10 rfl in_X10 0 (by decide) t_195 rfl rfl rfl (by decide +kernel) rfl rfl (Nat.le_of_ble_eq_true rfl) rfl dX0_init_6 ?_
  exact zn_vret C dX0_init_9 rfl rfl rfl rfl
set_option maxRecDepth 20000 in
theorem cn_X10_X10 (l : Launch) (E : Ev) (hE : Ad E) (q : Nat) (x : Int32) : Cn l E YX10_init 0 0 q [.ref (E.2.1 q), .int x] (.inr (9, [.int 0])) ([(E.2.1 q, .inr (9, [.int x]))], q + 1) := by
  refine cn_of hE (by decide +kernel) (Nat.le_of_ble_eq_true rfl) [(0, .ref (E.2.1 q)), (1, .int x)] rfl (fun X hX C => ?_)
  refine zn_aload_n C dX10_init_0 0 rfl ?_
  refine zn_iload_n C dX10_init_1 1 rfl ?_
  refine zn_init (Y2 := YX0_init) (mc2 := 0) (ms2 := 0) (p := q) (pre := []) (As := [.int x]) C lk_X0_init rfl rfl t_191 t_192 (Nat.le_refl _) (Nat.le_of_ble_eq_true rfl) (Nat.le_of_ble_eq_true rfl) (Nat.le_of_ble_eq_true rfl) (Nat.le_of_ble_eq_true rfl) dX10_init_2 (Nat.le_of_ble_eq_true rfl) rfl rfl (cn_X0_X10 X.2.1 E hE q x) ?_
  exact zn_vret C dX10_init_5 rfl rfl rfl rfl
set_option maxRecDepth 20000 in
theorem cn_X0_X1 (l : Launch) (E : Ev) (hE : Ad E) (q : Nat) (x : Int32) : Cn l E YX0_init 0 0 q [.ref (E.2.1 q), .int x] (.inr (0, [.int 0])) ([(E.2.1 q, .inr (0, [.int x]))], q + 1) := by
  refine cn_of hE (by decide +kernel) (Nat.le_of_ble_eq_true rfl) [(0, .ref (E.2.1 q)), (1, .int x)] rfl (fun X hX C => ?_)
  refine zn_aload_n C dX0_init_0 0 rfl ?_
  refine zn_obj C t_194 t_27 t_28 dX0_init_1 (Nat.le_of_ble_eq_true rfl) (Nat.le_of_ble_eq_true rfl) ?_
  refine zn_aload_n C dX0_init_4 0 rfl ?_
  refine zn_iload_n C dX0_init_5 1 rfl ?_
  refine zn_putF (TT := TX1) (N := 1) (ci := 0) (ty := .int) (tl := []) C tyX1 tyX1_ok nmX1 rfl in_X1 0 (by decide) t_195 rfl rfl rfl (by decide +kernel) rfl rfl (Nat.le_of_ble_eq_true rfl) rfl dX0_init_6 ?_
  exact zn_vret C dX0_init_9 rfl rfl rfl rfl
set_option maxRecDepth 20000 in
theorem cn_X10_X1 (l : Launch) (E : Ev) (hE : Ad E) (q : Nat) (x : Int32) : Cn l E YX10_init 0 0 q [.ref (E.2.1 q), .int x] (.inr (0, [.int 0])) ([(E.2.1 q, .inr (0, [.int x]))], q + 1) := by
  refine cn_of hE (by decide +kernel) (Nat.le_of_ble_eq_true rfl) [(0, .ref (E.2.1 q)), (1, .int x)] rfl (fun X hX C => ?_)
  refine zn_aload_n C dX10_init_0 0 rfl ?_
  refine zn_iload_n C dX10_init_1 1 rfl ?_
  refine zn_init (Y2 := YX0_init) (mc2 := 0) (ms2 := 0) (p := q) (pre := []) (As := [.int x]) C lk_X0_init rfl rfl t_191 t_192 (Nat.le_refl _) (Nat.le_of_ble_eq_true rfl) (Nat.le_of_ble_eq_true rfl) (Nat.le_of_ble_eq_true rfl) (Nat.le_of_ble_eq_true rfl) dX10_init_2 (Nat.le_of_ble_eq_true rfl) rfl rfl (cn_X0_X1 X.2.1 E hE q x) ?_
  exact zn_vret C dX10_init_5 rfl rfl rfl rfl
set_option maxRecDepth 20000 in
theorem cn_X1_X1 (l : Launch) (E : Ev) (hE : Ad E) (q : Nat) : Cn l E YX1_init 0 0 q [.ref (E.2.1 q)] (.inr (0, [.int 0])) ([(E.2.1 q, .inr (0, [.int 0]))], q + 1) := by
  refine cn_of hE (by decide +kernel) (Nat.le_of_ble_eq_true rfl) [(0, .ref (E.2.1 q))] rfl (fun X hX C => ?_)
  refine zn_aload_n C dX1_init_0 0 rfl ?_
  refine zn_iconst (v := 0) C dX1_init_1 (by decide) ?_
  refine zn_init (Y2 := YX10_init) (mc2 := 0) (ms2 := 0) (p := q) (pre := []) (As := [.int 0]) C lk_X10_init rfl rfl t_204 t_189 (Nat.le_refl _) (Nat.le_of_ble_eq_true rfl) (Nat.le_of_ble_eq_true rfl) (Nat.le_of_ble_eq_true rfl) (Nat.le_of_ble_eq_true rfl) dX1_init_2 (Nat.le_of_ble_eq_true rfl) rfl rfl (cn_X10_X1 X.2.1 E hE q 0) ?_
  exact zn_vret C dX1_init_5 rfl rfl rfl rfl
set_option maxRecDepth 20000 in
theorem cn_X0_X3 (l : Launch) (E : Ev) (hE : Ad E) (q : Nat) (x : Int32) : Cn l E YX0_init 0 0 q [.ref (E.2.1 q), .int x] (.inr (2, [.int 0])) ([(E.2.1 q, .inr (2, [.int x]))], q + 1) := by
  refine cn_of hE (by decide +kernel) (Nat.le_of_ble_eq_true rfl) [(0, .ref (E.2.1 q)), (1, .int x)] rfl (fun X hX C => ?_)
  refine zn_aload_n C dX0_init_0 0 rfl ?_
  refine zn_obj C t_194 t_27 t_28 dX0_init_1 (Nat.le_of_ble_eq_true rfl) (Nat.le_of_ble_eq_true rfl) ?_
  refine zn_aload_n C dX0_init_4 0 rfl ?_
  refine zn_iload_n C dX0_init_5 1 rfl ?_
  refine zn_putF (TT := TX3) (N := 1) (ci := 2) (ty := .int) (tl := []) C tyX3 tyX3_ok nmX3 rfl in_X3 0 (by decide) t_195 rfl rfl rfl (by decide +kernel) rfl rfl (Nat.le_of_ble_eq_true rfl) rfl dX0_init_6 ?_
  exact zn_vret C dX0_init_9 rfl rfl rfl rfl
set_option maxRecDepth 20000 in
theorem cn_X3_X3 (l : Launch) (E : Ev) (hE : Ad E) (q : Nat) : Cn l E YX3_init 0 0 q [.ref (E.2.1 q)] (.inr (2, [.int 0])) ([(E.2.1 q, .inr (2, [.int 0]))], q + 1) := by
  refine cn_of hE (by decide +kernel) (Nat.le_of_ble_eq_true rfl) [(0, .ref (E.2.1 q))] rfl (fun X hX C => ?_)
  refine zn_aload_n C dX3_init_0 0 rfl ?_
  refine zn_iconst (v := 0) C dX3_init_1 (by decide) ?_
  refine zn_init (Y2 := YX0_init) (mc2 := 0) (ms2 := 0) (p := q) (pre := []) (As := [.int 0]) C lk_X0_init rfl rfl t_212 t_192 (Nat.le_refl _) (Nat.le_of_ble_eq_true rfl) (Nat.le_of_ble_eq_true rfl) (Nat.le_of_ble_eq_true rfl) (Nat.le_of_ble_eq_true rfl) dX3_init_2 (Nat.le_of_ble_eq_true rfl) rfl rfl (cn_X0_X3 X.2.1 E hE q 0) ?_
  exact zn_vret C dX3_init_5 rfl rfl rfl rfl
set_option maxRecDepth 20000 in
theorem cn_X0_X8 (l : Launch) (E : Ev) (hE : Ad E) (q : Nat) (x : Int32) : Cn l E YX0_init 0 0 q [.ref (E.2.1 q), .int x] (.inr (7, [.int 0])) ([(E.2.1 q, .inr (7, [.int x]))], q + 1) := by
  refine cn_of hE (by decide +kernel) (Nat.le_of_ble_eq_true rfl) [(0, .ref (E.2.1 q)), (1, .int x)] rfl (fun X hX C => ?_)
  refine zn_aload_n C dX0_init_0 0 rfl ?_
  refine zn_obj C t_194 t_27 t_28 dX0_init_1 (Nat.le_of_ble_eq_true rfl) (Nat.le_of_ble_eq_true rfl) ?_
  refine zn_aload_n C dX0_init_4 0 rfl ?_
  refine zn_iload_n C dX0_init_5 1 rfl ?_
  refine zn_putF (TT := TX8) (N := 1) (ci := 7) (ty := .int) (tl := []) C tyX8 tyX8_ok nmX8 rfl in_X8 0 (by decide) t_195 rfl rfl rfl (by decide +kernel) rfl rfl (Nat.le_of_ble_eq_true rfl) rfl dX0_init_6 ?_
  exact zn_vret C dX0_init_9 rfl rfl rfl rfl
set_option maxRecDepth 20000 in
theorem cn_X10_X8 (l : Launch) (E : Ev) (hE : Ad E) (q : Nat) (x : Int32) : Cn l E YX10_init 0 0 q [.ref (E.2.1 q), .int x] (.inr (7, [.int 0])) ([(E.2.1 q, .inr (7, [.int x]))], q + 1) := by
  refine cn_of hE (by decide +kernel) (Nat.le_of_ble_eq_true rfl) [(0, .ref (E.2.1 q)), (1, .int x)] rfl (fun X hX C => ?_)
  refine zn_aload_n C dX10_init_0 0 rfl ?_
  refine zn_iload_n C dX10_init_1 1 rfl ?_
  refine zn_init (Y2 := YX0_init) (mc2 := 0) (ms2 := 0) (p := q) (pre := []) (As := [.int x]) C lk_X0_init rfl rfl t_191 t_192 (Nat.le_refl _) (Nat.le_of_ble_eq_true rfl) (Nat.le_of_ble_eq_true rfl) (Nat.le_of_ble_eq_true rfl) (Nat.le_of_ble_eq_true rfl) dX10_init_2 (Nat.le_of_ble_eq_true rfl) rfl rfl (cn_X0_X8 X.2.1 E hE q x) ?_
  exact zn_vret C dX10_init_5 rfl rfl rfl rfl
set_option maxRecDepth 20000 in
theorem cn_X8_X8 (l : Launch) (E : Ev) (hE : Ad E) (q : Nat) : Cn l E YX8_init 0 0 q [.ref (E.2.1 q)] (.inr (7, [.int 0])) ([(E.2.1 q, .inr (7, [.int 1]))], q + 1) := by
  refine cn_of hE (by decide +kernel) (Nat.le_of_ble_eq_true rfl) [(0, .ref (E.2.1 q))] rfl (fun X hX C => ?_)
  refine zn_aload_n C dX8_init_0 0 rfl ?_
  refine zn_iconst (v := 1) C dX8_init_1 (by decide) ?_
  refine zn_init (Y2 := YX10_init) (mc2 := 0) (ms2 := 0) (p := q) (pre := []) (As := [.int 1]) C lk_X10_init rfl rfl t_220 t_189 (Nat.le_refl _) (Nat.le_of_ble_eq_true rfl) (Nat.le_of_ble_eq_true rfl) (Nat.le_of_ble_eq_true rfl) (Nat.le_of_ble_eq_true rfl) dX8_init_2 (Nat.le_of_ble_eq_true rfl) rfl rfl (cn_X10_X8 X.2.1 E hE q 1) ?_
  exact zn_vret C dX8_init_5 rfl rfl rfl rfl
set_option maxRecDepth 20000 in
theorem cn_X0_X6 (l : Launch) (E : Ev) (hE : Ad E) (q : Nat) (x : Int32) : Cn l E YX0_init 0 0 q [.ref (E.2.1 q), .int x] (.inr (5, [.int 0])) ([(E.2.1 q, .inr (5, [.int x]))], q + 1) := by
  refine cn_of hE (by decide +kernel) (Nat.le_of_ble_eq_true rfl) [(0, .ref (E.2.1 q)), (1, .int x)] rfl (fun X hX C => ?_)
  refine zn_aload_n C dX0_init_0 0 rfl ?_
  refine zn_obj C t_194 t_27 t_28 dX0_init_1 (Nat.le_of_ble_eq_true rfl) (Nat.le_of_ble_eq_true rfl) ?_
  refine zn_aload_n C dX0_init_4 0 rfl ?_
  refine zn_iload_n C dX0_init_5 1 rfl ?_
  refine zn_putF (TT := TX6) (N := 1) (ci := 5) (ty := .int) (tl := []) C tyX6 tyX6_ok nmX6 rfl in_X6 0 (by decide) t_195 rfl rfl rfl (by decide +kernel) rfl rfl (Nat.le_of_ble_eq_true rfl) rfl dX0_init_6 ?_
  exact zn_vret C dX0_init_9 rfl rfl rfl rfl
set_option maxRecDepth 20000 in
theorem cn_X10_X6 (l : Launch) (E : Ev) (hE : Ad E) (q : Nat) (x : Int32) : Cn l E YX10_init 0 0 q [.ref (E.2.1 q), .int x] (.inr (5, [.int 0])) ([(E.2.1 q, .inr (5, [.int x]))], q + 1) := by
  refine cn_of hE (by decide +kernel) (Nat.le_of_ble_eq_true rfl) [(0, .ref (E.2.1 q)), (1, .int x)] rfl (fun X hX C => ?_)
  refine zn_aload_n C dX10_init_0 0 rfl ?_
  refine zn_iload_n C dX10_init_1 1 rfl ?_
  refine zn_init (Y2 := YX0_init) (mc2 := 0) (ms2 := 0) (p := q) (pre := []) (As := [.int x]) C lk_X0_init rfl rfl t_191 t_192 (Nat.le_refl _) (Nat.le_of_ble_eq_true rfl) (Nat.le_of_ble_eq_true rfl) (Nat.le_of_ble_eq_true rfl) (Nat.le_of_ble_eq_true rfl) dX10_init_2 (Nat.le_of_ble_eq_true rfl) rfl rfl (cn_X0_X6 X.2.1 E hE q x) ?_
  exact zn_vret C dX10_init_5 rfl rfl rfl rfl
set_option maxRecDepth 20000 in
theorem cn_X1_X6 (l : Launch) (E : Ev) (hE : Ad E) (q : Nat) : Cn l E YX1_init 0 0 q [.ref (E.2.1 q)] (.inr (5, [.int 0])) ([(E.2.1 q, .inr (5, [.int 0]))], q + 1) := by
  refine cn_of hE (by decide +kernel) (Nat.le_of_ble_eq_true rfl) [(0, .ref (E.2.1 q))] rfl (fun X hX C => ?_)
  refine zn_aload_n C dX1_init_0 0 rfl ?_
  refine zn_iconst (v := 0) C dX1_init_1 (by decide) ?_
  refine zn_init (Y2 := YX10_init) (mc2 := 0) (ms2 := 0) (p := q) (pre := []) (As := [.int 0]) C lk_X10_init rfl rfl t_204 t_189 (Nat.le_refl _) (Nat.le_of_ble_eq_true rfl) (Nat.le_of_ble_eq_true rfl) (Nat.le_of_ble_eq_true rfl) (Nat.le_of_ble_eq_true rfl) dX1_init_2 (Nat.le_of_ble_eq_true rfl) rfl rfl (cn_X10_X6 X.2.1 E hE q 0) ?_
  exact zn_vret C dX1_init_5 rfl rfl rfl rfl
set_option maxRecDepth 20000 in
theorem cn_X6_X6 (l : Launch) (E : Ev) (hE : Ad E) (q : Nat) : Cn l E YX6_init 0 0 q [.ref (E.2.1 q)] (.inr (5, [.int 0])) ([(E.2.1 q, .inr (5, [.int 0]))], q + 1) := by
  refine cn_of hE (by decide +kernel) (Nat.le_of_ble_eq_true rfl) [(0, .ref (E.2.1 q))] rfl (fun X hX C => ?_)
  refine zn_aload_n C dX6_init_0 0 rfl ?_
  refine zn_init (Y2 := YX1_init) (mc2 := 0) (ms2 := 0) (p := q) (pre := []) (As := []) C lk_X1_init rfl rfl t_228 t_202 (Nat.le_refl _) (Nat.le_of_ble_eq_true rfl) (Nat.le_of_ble_eq_true rfl) (Nat.le_of_ble_eq_true rfl) (Nat.le_of_ble_eq_true rfl) dX6_init_1 (Nat.le_of_ble_eq_true rfl) rfl rfl (cn_X1_X6 X.2.1 E hE q) ?_
  exact zn_vret C dX6_init_4 rfl rfl rfl rfl
set_option maxRecDepth 20000 in
theorem cn_X4 (l : Launch) (E : Ev) (hE : Ad E) (o n : Nat) (h0 : kd o = (3, 0)) (h1 : kd (o + 1) = (8, n)) (hn : 0 < n) (hm : n < 1000) : Cn l E YX4_init 1 n o [.ref (E.2.1 o), .int (nI n)] (.inr (3, [.null, .int 0])) (sl E o 2, o + 2) := by
  refine cn_of hE (by decide +kernel) (Nat.le_of_ble_eq_true rfl) [(0, .ref (E.2.1 o)), (1, .int (nI n))] rfl (fun X hX C => ?_)
  refine zn_aload_n C dX4_init_0 0 rfl ?_
  refine zn_obj C t_65 t_27 t_28 dX4_init_1 (Nat.le_of_ble_eq_true rfl) (Nat.le_of_ble_eq_true rfl) ?_
  refine zn_aload_n C dX4_init_4 0 rfl ?_
  refine zn_iload_n C dX4_init_5 1 rfl ?_
  refine zn_if_le (tgt := 13) C dX4_init_6 (by decide) (nI_nle hn (by omega)) ?_
  refine zn_iload_n C dX4_init_9 1 rfl ?_
  refine zn_goto (tgt := 14) C dX4_init_10 (by decide) ?_
  refine zn_newa (N := n) C t_59 (nI_pos (by omega)) (nI_clamp (by omega)) (by show n * 4 ≤ 536870912; omega) (Nat.le_of_ble_eq_true rfl) (by omega) (by omega) dX4_init_14 ?_
  refine zn_eq (ws' := (E.2.1 o, .inr (3, [.null, .int 0])) :: [(E.2.1 (o + 1), .inl (E.2.2 0, n, .inl (fun _ => 0)))]) rfl rfl ?_
  refine zn_putF (TT := TX4) (N := 2) (ci := 3) (ty := .array .int) C tyX4 tyX4_ok nmX4 rfl in_X4 0 (by decide) t_66 rfl rfl rfl (by decide +kernel) rfl rfl (Nat.le_of_ble_eq_true rfl) rfl dX4_init_16 ?_
  refine zn_eq (ws' := sl E o 2) (nx' := o + 2) (by rw [← sl_cons E o 1 (w0_nu h0), sl_one, wc_a0 h1]; rfl) rfl ?_
  exact zn_vret C dX4_init_19 rfl rfl (by omega) rfl
set_option maxHeartbeats 4000000 in
set_option maxRecDepth 20000 in
theorem cn_X5 (l : Launch) (E : Ev) (hE : Ad E) (o : Nat) (h0 : kd o = (2, 0)) (h1 : kd (o + 1) = (8, 24)) (h2 : kd (o + 2) = (8, 6)) : Cn l E YX5_init 2 30 o [.ref (E.2.1 o)] (.inr (4, [.null, .null, .int 0])) (sl E o 3, (o + 3)) := by
  refine cn_of hE (by decide +kernel) (Nat.le_of_ble_eq_true rfl) [(0, .ref (E.2.1 o))] rfl (fun X hX C => ?_)
  refine zn_eq (ws' := ((E.2.1 o, (.inr (4, [.null, .null, .int 0]) : va_E)) :: sl E (o + 1) 0)) (nx' := (o + 1)) rfl rfl ?_
  refine zn_aload_n C dX5_init_0 0 rfl ?_
  refine zn_obj C t_40 t_27 t_28 dX5_init_1 (Nat.le_of_ble_eq_true rfl) (Nat.le_of_ble_eq_true rfl) ?_
  refine zn_aload_n C dX5_init_4 0 rfl ?_
  refine zn_bipush (v := 24) C dX5_init_5 (by decide) ?_
  refine zn_newa (N := 24) C t_59 (by decide) (by decide) (by decide) (Nat.le_of_ble_eq_true rfl) (Nat.le_of_ble_eq_true rfl) (by omega) dX5_init_7 ?_
  refine zn_eq (ws' := ((E.2.1 o, (.inr (4, [.null, .null, .int 0]) : va_E)) :: sl E (o + 1) 1)) (nx' := (o + 2)) (by rw [List.cons_append, sl_snoc E (o + 1) 0 (j := (o + 1)) rfl (wc_a0 h1)]) rfl ?_
  refine zn_putF (TT := TX5) (N := 3) (ci := 4) (ty := (.array .int)) C tyX5 tyX5_ok nmX5 rfl in_X5 0 (by decide) t_41 rfl rfl rfl (by decide +kernel) rfl rfl (Nat.le_of_ble_eq_true rfl) rfl dX5_init_9 ?_
  refine zn_eq (ws' := ((E.2.1 o, (.inr (4, [.ref (E.2.1 (o + 1)), .null, .int 0]) : va_E)) :: sl E (o + 1) 1)) (nx' := (o + 2)) rfl rfl ?_
  refine zn_aload_n C dX5_init_12 0 rfl ?_
  refine zn_bipush (v := 6) C dX5_init_13 (by decide) ?_
  refine zn_newa (N := 6) C t_59 (by decide) (by decide) (by decide) (Nat.le_of_ble_eq_true rfl) (Nat.le_of_ble_eq_true rfl) (by omega) dX5_init_15 ?_
  refine zn_eq (ws' := ((E.2.1 o, (.inr (4, [.ref (E.2.1 (o + 1)), .null, .int 0]) : va_E)) :: sl E (o + 1) 2)) (nx' := (o + 3)) (by rw [List.cons_append, sl_snoc E (o + 1) 1 (j := (o + 2)) rfl (wc_a0 h2)]) rfl ?_
  refine zn_putF (TT := TX5) (N := 3) (ci := 4) (ty := (.array .int)) C tyX5 tyX5_ok nmX5 rfl in_X5 1 (by decide) t_45 rfl rfl rfl (by decide +kernel) rfl rfl (Nat.le_of_ble_eq_true rfl) rfl dX5_init_17 ?_
  refine zn_eq (ws' := ((E.2.1 o, (.inr (4, [.ref (E.2.1 (o + 1)), .ref (E.2.1 (o + 2)), .int 0]) : va_E)) :: sl E (o + 1) 2)) (nx' := (o + 3)) rfl rfl ?_
  refine zn_eq (ws' := sl E o 3) (nx' := (o + 3)) (sl_cons E o 2 (w0_pe h0)) rfl ?_
  exact zn_vret C dX5_init_20 rfl rfl rfl rfl
set_option maxHeartbeats 4000000 in
set_option maxRecDepth 20000 in
theorem cn_X9 (l : Launch) (E : Ev) (hE : Ad E) (s : Nat) (hk : ∀ j, j < 16 → kd (s + j) = kd (1 + j)) : Cn l E YX9_init 15 74 s [.ref (E.2.1 s)] (.inr (8, [.null, .null, .null, .null, .null, .null, .null, .int 0, .int 0, .int 0, .int 0])) (sl E s 16, (s + 16)) := by
  refine cn_of hE (by decide +kernel) (Nat.le_of_ble_eq_true rfl) [(0, .ref (E.2.1 s))] rfl (fun X hX C => ?_)
  refine zn_eq (ws' := ((E.2.1 s, (.inr (8, [.null, .null, .null, .null, .null, .null, .null, .int 0, .int 0, .int 0, .int 0]) : va_E)) :: sl E (s + 1) 0)) (nx' := (s + 1)) rfl rfl ?_
  refine zn_aload_n C dX9_init_0 0 rfl ?_
  refine zn_obj C t_34 t_27 t_28 dX9_init_1 (Nat.le_of_ble_eq_true rfl) (Nat.le_of_ble_eq_true rfl) ?_
  refine zn_aload_n C dX9_init_4 0 rfl ?_
  refine zn_new (CC := RX5) (TT := TX5) (N := 3) (ci := 4) (fs := [.null, .null, .int 0]) C tyX5 tyX5_ok rfl in_X5 t_35 t_36 t_3 (by decide +kernel) (Nat.le_of_ble_eq_true rfl) (Nat.le_of_ble_eq_true rfl) (by omega) dX9_init_5 ?_
  refine zn_dup C dX9_init_8 rfl ?_
  refine zn_initN (Y2 := YX5_init) (mc2 := 2) (ms2 := 30) (p := (s + 1)) (pre := ((E.2.1 s, (.inr (8, [.null, .null, .null, .null, .null, .null, .null, .int 0, .int 0, .int 0, .int 0]) : va_E)) :: sl E (s + 1) 0)) (As := []) C lk_X5_init rfl rfl n_37 t_38 (by omega) (Nat.le_of_ble_eq_true rfl) (Nat.le_of_ble_eq_true rfl) (Nat.le_of_ble_eq_true rfl) (Nat.le_of_ble_eq_true rfl) dX9_init_9 (Nat.le_of_ble_eq_true rfl) rfl rfl (cn_X5 X.2.1 E hE (s + 1) (hk 1 (by decide)) (hk 2 (by decide)) (hk 3 (by decide))) ?_
  refine zn_eq (ws' := ((E.2.1 s, (.inr (8, [.null, .null, .null, .null, .null, .null, .null, .int 0, .int 0, .int 0, .int 0]) : va_E)) :: sl E (s + 1) 3)) (nx' := (s + 4)) (by rw [List.cons_append, sl_app E (s + 1) 0 3 (j := (s + 1)) rfl]) rfl ?_
  refine zn_putF (TT := TX9) (N := 11) (ci := 8) (ty := (.object "ToWhoNeeds$People")) C tyX9 tyX9_ok nmX9 rfl in_X9 0 (by decide) t_77 rfl rfl rfl (by decide +kernel) rfl rfl (Nat.le_of_ble_eq_true rfl) rfl dX9_init_12 ?_
  refine zn_eq (ws' := ((E.2.1 s, (.inr (8, [.ref (E.2.1 (s + 1)), .null, .null, .null, .null, .null, .null, .int 0, .int 0, .int 0, .int 0]) : va_E)) :: sl E (s + 1) 3)) (nx' := (s + 4)) rfl rfl ?_
  refine zn_aload_n C dX9_init_15 0 rfl ?_
  refine zn_new (CC := RX4) (TT := TX4) (N := 2) (ci := 3) (fs := [.null, .int 0]) C tyX4 tyX4_ok rfl in_X4 t_60 t_61 t_4 (by decide +kernel) (Nat.le_of_ble_eq_true rfl) (Nat.le_of_ble_eq_true rfl) (by omega) dX9_init_16 ?_
  refine zn_dup C dX9_init_19 rfl ?_
  refine zn_iconst (v := 4) C dX9_init_20 (by decide) ?_
  refine zn_init (Y2 := YX4_init) (mc2 := 1) (ms2 := 4) (p := (s + 4)) (pre := ((E.2.1 s, (.inr (8, [.ref (E.2.1 (s + 1)), .null, .null, .null, .null, .null, .null, .int 0, .int 0, .int 0, .int 0]) : va_E)) :: sl E (s + 1) 3)) (As := [.int 4]) C lk_X4_init rfl rfl t_62 t_63 (by omega) (Nat.le_of_ble_eq_true rfl) (Nat.le_of_ble_eq_true rfl) (Nat.le_of_ble_eq_true rfl) (Nat.le_of_ble_eq_true rfl) dX9_init_21 (Nat.le_of_ble_eq_true rfl) rfl rfl (cn_X4 X.2.1 E hE (s + 4) 4 (hk 4 (by decide)) (hk 5 (by decide)) (by decide) (by decide)) ?_
  refine zn_eq (ws' := ((E.2.1 s, (.inr (8, [.ref (E.2.1 (s + 1)), .null, .null, .null, .null, .null, .null, .int 0, .int 0, .int 0, .int 0]) : va_E)) :: sl E (s + 1) 5)) (nx' := (s + 6)) (by rw [List.cons_append, sl_app E (s + 1) 3 2 (j := (s + 4)) rfl]) rfl ?_
  refine zn_putF (TT := TX9) (N := 11) (ci := 8) (ty := (.object "ToWhoNeeds$Numbers")) C tyX9 tyX9_ok nmX9 rfl in_X9 1 (by decide) t_81 rfl rfl rfl (by decide +kernel) rfl rfl (Nat.le_of_ble_eq_true rfl) rfl dX9_init_24 ?_
  refine zn_eq (ws' := ((E.2.1 s, (.inr (8, [.ref (E.2.1 (s + 1)), .ref (E.2.1 (s + 4)), .null, .null, .null, .null, .null, .int 0, .int 0, .int 0, .int 0]) : va_E)) :: sl E (s + 1) 5)) (nx' := (s + 6)) rfl rfl ?_
  refine zn_aload_n C dX9_init_27 0 rfl ?_
  refine zn_new (CC := RX4) (TT := TX4) (N := 2) (ci := 3) (fs := [.null, .int 0]) C tyX4 tyX4_ok rfl in_X4 t_60 t_61 t_4 (by decide +kernel) (Nat.le_of_ble_eq_true rfl) (Nat.le_of_ble_eq_true rfl) (by omega) dX9_init_28 ?_
  refine zn_dup C dX9_init_31 rfl ?_
  refine zn_iconst (v := 4) C dX9_init_32 (by decide) ?_
  refine zn_init (Y2 := YX4_init) (mc2 := 1) (ms2 := 4) (p := (s + 6)) (pre := ((E.2.1 s, (.inr (8, [.ref (E.2.1 (s + 1)), .ref (E.2.1 (s + 4)), .null, .null, .null, .null, .null, .int 0, .int 0, .int 0, .int 0]) : va_E)) :: sl E (s + 1) 5)) (As := [.int 4]) C lk_X4_init rfl rfl t_62 t_63 (by omega) (Nat.le_of_ble_eq_true rfl) (Nat.le_of_ble_eq_true rfl) (Nat.le_of_ble_eq_true rfl) (Nat.le_of_ble_eq_true rfl) dX9_init_33 (Nat.le_of_ble_eq_true rfl) rfl rfl (cn_X4 X.2.1 E hE (s + 6) 4 (hk 6 (by decide)) (hk 7 (by decide)) (by decide) (by decide)) ?_
  refine zn_eq (ws' := ((E.2.1 s, (.inr (8, [.ref (E.2.1 (s + 1)), .ref (E.2.1 (s + 4)), .null, .null, .null, .null, .null, .int 0, .int 0, .int 0, .int 0]) : va_E)) :: sl E (s + 1) 7)) (nx' := (s + 8)) (by rw [List.cons_append, sl_app E (s + 1) 5 2 (j := (s + 6)) rfl]) rfl ?_
  refine zn_putF (TT := TX9) (N := 11) (ci := 8) (ty := (.object "ToWhoNeeds$Numbers")) C tyX9 tyX9_ok nmX9 rfl in_X9 2 (by decide) t_85 rfl rfl rfl (by decide +kernel) rfl rfl (Nat.le_of_ble_eq_true rfl) rfl dX9_init_36 ?_
  refine zn_eq (ws' := ((E.2.1 s, (.inr (8, [.ref (E.2.1 (s + 1)), .ref (E.2.1 (s + 4)), .ref (E.2.1 (s + 6)), .null, .null, .null, .null, .int 0, .int 0, .int 0, .int 0]) : va_E)) :: sl E (s + 1) 7)) (nx' := (s + 8)) rfl rfl ?_
  refine zn_aload_n C dX9_init_39 0 rfl ?_
  refine zn_new (CC := RX4) (TT := TX4) (N := 2) (ci := 3) (fs := [.null, .int 0]) C tyX4 tyX4_ok rfl in_X4 t_60 t_61 t_4 (by decide +kernel) (Nat.le_of_ble_eq_true rfl) (Nat.le_of_ble_eq_true rfl) (by omega) dX9_init_40 ?_
  refine zn_dup C dX9_init_43 rfl ?_
  refine zn_iconst (v := 4) C dX9_init_44 (by decide) ?_
  refine zn_init (Y2 := YX4_init) (mc2 := 1) (ms2 := 4) (p := (s + 8)) (pre := ((E.2.1 s, (.inr (8, [.ref (E.2.1 (s + 1)), .ref (E.2.1 (s + 4)), .ref (E.2.1 (s + 6)), .null, .null, .null, .null, .int 0, .int 0, .int 0, .int 0]) : va_E)) :: sl E (s + 1) 7)) (As := [.int 4]) C lk_X4_init rfl rfl t_62 t_63 (by omega) (Nat.le_of_ble_eq_true rfl) (Nat.le_of_ble_eq_true rfl) (Nat.le_of_ble_eq_true rfl) (Nat.le_of_ble_eq_true rfl) dX9_init_45 (Nat.le_of_ble_eq_true rfl) rfl rfl (cn_X4 X.2.1 E hE (s + 8) 4 (hk 8 (by decide)) (hk 9 (by decide)) (by decide) (by decide)) ?_
  refine zn_eq (ws' := ((E.2.1 s, (.inr (8, [.ref (E.2.1 (s + 1)), .ref (E.2.1 (s + 4)), .ref (E.2.1 (s + 6)), .null, .null, .null, .null, .int 0, .int 0, .int 0, .int 0]) : va_E)) :: sl E (s + 1) 9)) (nx' := (s + 10)) (by rw [List.cons_append, sl_app E (s + 1) 7 2 (j := (s + 8)) rfl]) rfl ?_
  refine zn_putF (TT := TX9) (N := 11) (ci := 8) (ty := (.object "ToWhoNeeds$Numbers")) C tyX9 tyX9_ok nmX9 rfl in_X9 3 (by decide) t_89 rfl rfl rfl (by decide +kernel) rfl rfl (Nat.le_of_ble_eq_true rfl) rfl dX9_init_48 ?_
  refine zn_eq (ws' := ((E.2.1 s, (.inr (8, [.ref (E.2.1 (s + 1)), .ref (E.2.1 (s + 4)), .ref (E.2.1 (s + 6)), .ref (E.2.1 (s + 8)), .null, .null, .null, .int 0, .int 0, .int 0, .int 0]) : va_E)) :: sl E (s + 1) 9)) (nx' := (s + 10)) rfl rfl ?_
  refine zn_aload_n C dX9_init_51 0 rfl ?_
  refine zn_new (CC := RX4) (TT := TX4) (N := 2) (ci := 3) (fs := [.null, .int 0]) C tyX4 tyX4_ok rfl in_X4 t_60 t_61 t_4 (by decide +kernel) (Nat.le_of_ble_eq_true rfl) (Nat.le_of_ble_eq_true rfl) (by omega) dX9_init_52 ?_
  refine zn_dup C dX9_init_55 rfl ?_
  refine zn_iconst (v := 5) C dX9_init_56 (by decide) ?_
  refine zn_init (Y2 := YX4_init) (mc2 := 1) (ms2 := 5) (p := (s + 10)) (pre := ((E.2.1 s, (.inr (8, [.ref (E.2.1 (s + 1)), .ref (E.2.1 (s + 4)), .ref (E.2.1 (s + 6)), .ref (E.2.1 (s + 8)), .null, .null, .null, .int 0, .int 0, .int 0, .int 0]) : va_E)) :: sl E (s + 1) 9)) (As := [.int 5]) C lk_X4_init rfl rfl t_62 t_63 (by omega) (Nat.le_of_ble_eq_true rfl) (Nat.le_of_ble_eq_true rfl) (Nat.le_of_ble_eq_true rfl) (Nat.le_of_ble_eq_true rfl) dX9_init_57 (Nat.le_of_ble_eq_true rfl) rfl rfl (cn_X4 X.2.1 E hE (s + 10) 5 (hk 10 (by decide)) (hk 11 (by decide)) (by decide) (by decide)) ?_
  refine zn_eq (ws' := ((E.2.1 s, (.inr (8, [.ref (E.2.1 (s + 1)), .ref (E.2.1 (s + 4)), .ref (E.2.1 (s + 6)), .ref (E.2.1 (s + 8)), .null, .null, .null, .int 0, .int 0, .int 0, .int 0]) : va_E)) :: sl E (s + 1) 11)) (nx' := (s + 12)) (by rw [List.cons_append, sl_app E (s + 1) 9 2 (j := (s + 10)) rfl]) rfl ?_
  refine zn_putF (TT := TX9) (N := 11) (ci := 8) (ty := (.object "ToWhoNeeds$Numbers")) C tyX9 tyX9_ok nmX9 rfl in_X9 4 (by decide) t_93 rfl rfl rfl (by decide +kernel) rfl rfl (Nat.le_of_ble_eq_true rfl) rfl dX9_init_60 ?_
  refine zn_eq (ws' := ((E.2.1 s, (.inr (8, [.ref (E.2.1 (s + 1)), .ref (E.2.1 (s + 4)), .ref (E.2.1 (s + 6)), .ref (E.2.1 (s + 8)), .ref (E.2.1 (s + 10)), .null, .null, .int 0, .int 0, .int 0, .int 0]) : va_E)) :: sl E (s + 1) 11)) (nx' := (s + 12)) rfl rfl ?_
  refine zn_aload_n C dX9_init_63 0 rfl ?_
  refine zn_new (CC := RX4) (TT := TX4) (N := 2) (ci := 3) (fs := [.null, .int 0]) C tyX4 tyX4_ok rfl in_X4 t_60 t_61 t_4 (by decide +kernel) (Nat.le_of_ble_eq_true rfl) (Nat.le_of_ble_eq_true rfl) (by omega) dX9_init_64 ?_
  refine zn_dup C dX9_init_67 rfl ?_
  refine zn_bipush (v := 6) C dX9_init_68 (by decide) ?_
  refine zn_init (Y2 := YX4_init) (mc2 := 1) (ms2 := 6) (p := (s + 12)) (pre := ((E.2.1 s, (.inr (8, [.ref (E.2.1 (s + 1)), .ref (E.2.1 (s + 4)), .ref (E.2.1 (s + 6)), .ref (E.2.1 (s + 8)), .ref (E.2.1 (s + 10)), .null, .null, .int 0, .int 0, .int 0, .int 0]) : va_E)) :: sl E (s + 1) 11)) (As := [.int 6]) C lk_X4_init rfl rfl t_62 t_63 (by omega) (Nat.le_of_ble_eq_true rfl) (Nat.le_of_ble_eq_true rfl) (Nat.le_of_ble_eq_true rfl) (Nat.le_of_ble_eq_true rfl) dX9_init_70 (Nat.le_of_ble_eq_true rfl) rfl rfl (cn_X4 X.2.1 E hE (s + 12) 6 (hk 12 (by decide)) (hk 13 (by decide)) (by decide) (by decide)) ?_
  refine zn_eq (ws' := ((E.2.1 s, (.inr (8, [.ref (E.2.1 (s + 1)), .ref (E.2.1 (s + 4)), .ref (E.2.1 (s + 6)), .ref (E.2.1 (s + 8)), .ref (E.2.1 (s + 10)), .null, .null, .int 0, .int 0, .int 0, .int 0]) : va_E)) :: sl E (s + 1) 13)) (nx' := (s + 14)) (by rw [List.cons_append, sl_app E (s + 1) 11 2 (j := (s + 12)) rfl]) rfl ?_
  refine zn_putF (TT := TX9) (N := 11) (ci := 8) (ty := (.object "ToWhoNeeds$Numbers")) C tyX9 tyX9_ok nmX9 rfl in_X9 5 (by decide) t_95 rfl rfl rfl (by decide +kernel) rfl rfl (Nat.le_of_ble_eq_true rfl) rfl dX9_init_73 ?_
  refine zn_eq (ws' := ((E.2.1 s, (.inr (8, [.ref (E.2.1 (s + 1)), .ref (E.2.1 (s + 4)), .ref (E.2.1 (s + 6)), .ref (E.2.1 (s + 8)), .ref (E.2.1 (s + 10)), .ref (E.2.1 (s + 12)), .null, .int 0, .int 0, .int 0, .int 0]) : va_E)) :: sl E (s + 1) 13)) (nx' := (s + 14)) rfl rfl ?_
  refine zn_aload_n C dX9_init_76 0 rfl ?_
  refine zn_new (CC := RX4) (TT := TX4) (N := 2) (ci := 3) (fs := [.null, .int 0]) C tyX4 tyX4_ok rfl in_X4 t_60 t_61 t_4 (by decide +kernel) (Nat.le_of_ble_eq_true rfl) (Nat.le_of_ble_eq_true rfl) (by omega) dX9_init_77 ?_
  refine zn_dup C dX9_init_80 rfl ?_
  refine zn_bipush (v := 6) C dX9_init_81 (by decide) ?_
  refine zn_init (Y2 := YX4_init) (mc2 := 1) (ms2 := 6) (p := (s + 14)) (pre := ((E.2.1 s, (.inr (8, [.ref (E.2.1 (s + 1)), .ref (E.2.1 (s + 4)), .ref (E.2.1 (s + 6)), .ref (E.2.1 (s + 8)), .ref (E.2.1 (s + 10)), .ref (E.2.1 (s + 12)), .null, .int 0, .int 0, .int 0, .int 0]) : va_E)) :: sl E (s + 1) 13)) (As := [.int 6]) C lk_X4_init rfl rfl t_62 t_63 (by omega) (Nat.le_of_ble_eq_true rfl) (Nat.le_of_ble_eq_true rfl) (Nat.le_of_ble_eq_true rfl) (Nat.le_of_ble_eq_true rfl) dX9_init_83 (Nat.le_of_ble_eq_true rfl) rfl rfl (cn_X4 X.2.1 E hE (s + 14) 6 (hk 14 (by decide)) (hk 15 (by decide)) (by decide) (by decide)) ?_
  refine zn_eq (ws' := ((E.2.1 s, (.inr (8, [.ref (E.2.1 (s + 1)), .ref (E.2.1 (s + 4)), .ref (E.2.1 (s + 6)), .ref (E.2.1 (s + 8)), .ref (E.2.1 (s + 10)), .ref (E.2.1 (s + 12)), .null, .int 0, .int 0, .int 0, .int 0]) : va_E)) :: sl E (s + 1) 15)) (nx' := (s + 16)) (by rw [List.cons_append, sl_app E (s + 1) 13 2 (j := (s + 14)) rfl]) rfl ?_
  refine zn_putF (TT := TX9) (N := 11) (ci := 8) (ty := (.object "ToWhoNeeds$Numbers")) C tyX9 tyX9_ok nmX9 rfl in_X9 6 (by decide) t_98 rfl rfl rfl (by decide +kernel) rfl rfl (Nat.le_of_ble_eq_true rfl) rfl dX9_init_86 ?_
  refine zn_eq (ws' := ((E.2.1 s, (.inr (8, [.ref (E.2.1 (s + 1)), .ref (E.2.1 (s + 4)), .ref (E.2.1 (s + 6)), .ref (E.2.1 (s + 8)), .ref (E.2.1 (s + 10)), .ref (E.2.1 (s + 12)), .ref (E.2.1 (s + 14)), .int 0, .int 0, .int 0, .int 0]) : va_E)) :: sl E (s + 1) 15)) (nx' := (s + 16)) rfl rfl ?_
  refine zn_eq (ws' := sl E s 16) (nx' := (s + 16)) (sl_cons E s 15 (w0_st (hk 0 (by decide)))) rfl ?_
  exact zn_vret C dX9_init_89 rfl rfl rfl rfl
set_option maxHeartbeats 4000000 in
set_option maxRecDepth 20000 in
theorem cn_X7 (l : Launch) (E : Ev) (hE : Ad E) : Cn l E YX7_init 19 156 33 [.ref (E.2.1 33)] (.inr (6, [.null, .null, .null, .int 0])) (sl E 33 20, 53) := by
  refine cn_of hE (by decide +kernel) (Nat.le_of_ble_eq_true rfl) [(0, .ref (E.2.1 33))] rfl (fun X hX C => ?_)
  refine zn_eq (ws' := ((E.2.1 33, (.inr (6, [.null, .null, .null, .int 0]) : va_E)) :: sl E 34 0)) (nx' := 34) rfl rfl ?_
  refine zn_aload_n C dX7_init_0 0 rfl ?_
  refine zn_obj C t_138 t_27 t_28 dX7_init_1 (Nat.le_of_ble_eq_true rfl) (Nat.le_of_ble_eq_true rfl) ?_
  refine zn_aload_n C dX7_init_4 0 rfl ?_
  refine zn_new (CC := RX4) (TT := TX4) (N := 2) (ci := 3) (fs := [.null, .int 0]) C tyX4 tyX4_ok rfl in_X4 t_139 t_61 t_4 (by decide +kernel) (Nat.le_of_ble_eq_true rfl) (Nat.le_of_ble_eq_true rfl) (by omega) dX7_init_5 ?_
  refine zn_dup C dX7_init_8 rfl ?_
  refine zn_bipush (v := 64) C dX7_init_9 (by decide) ?_
  refine zn_init (Y2 := YX4_init) (mc2 := 1) (ms2 := 64) (p := 34) (pre := ((E.2.1 33, (.inr (6, [.null, .null, .null, .int 0]) : va_E)) :: sl E 34 0)) (As := [.int 64]) C lk_X4_init rfl rfl t_140 t_63 (by omega) (Nat.le_of_ble_eq_true rfl) (Nat.le_of_ble_eq_true rfl) (Nat.le_of_ble_eq_true rfl) (Nat.le_of_ble_eq_true rfl) dX7_init_11 (Nat.le_of_ble_eq_true rfl) rfl rfl (cn_X4 X.2.1 E hE 34 64 rfl rfl (by decide) (by decide)) ?_
  refine zn_eq (ws' := ((E.2.1 33, (.inr (6, [.null, .null, .null, .int 0]) : va_E)) :: sl E 34 2)) (nx' := 36) (by rw [List.cons_append, sl_app E 34 0 2 (j := 34) rfl]) rfl ?_
  refine zn_putF (TT := TX7) (N := 4) (ci := 6) (ty := (.object "ToWhoNeeds$Numbers")) C tyX7 tyX7_ok nmX7 rfl in_X7 0 (by decide) t_143 rfl rfl rfl (by decide +kernel) rfl rfl (Nat.le_of_ble_eq_true rfl) rfl dX7_init_14 ?_
  refine zn_eq (ws' := ((E.2.1 33, (.inr (6, [.ref (E.2.1 34), .null, .null, .int 0]) : va_E)) :: sl E 34 2)) (nx' := 36) rfl rfl ?_
  refine zn_aload_n C dX7_init_17 0 rfl ?_
  refine zn_new (CC := RX9) (TT := TX9) (N := 11) (ci := 8) (fs := [.null, .null, .null, .null, .null, .null, .null, .int 0, .int 0, .int 0, .int 0]) C tyX9 tyX9_ok rfl in_X9 t_141 t_30 t_2 (by decide +kernel) (Nat.le_of_ble_eq_true rfl) (Nat.le_of_ble_eq_true rfl) (by omega) dX7_init_18 ?_
  refine zn_dup C dX7_init_21 rfl ?_
  refine zn_initN (Y2 := YX9_init) (mc2 := 15) (ms2 := 74) (p := 36) (pre := ((E.2.1 33, (.inr (6, [.ref (E.2.1 34), .null, .null, .int 0]) : va_E)) :: sl E 34 2)) (As := []) C lk_X9_init rfl rfl n_142 t_32 (by omega) (Nat.le_of_ble_eq_true rfl) (Nat.le_of_ble_eq_true rfl) (Nat.le_of_ble_eq_true rfl) (Nat.le_of_ble_eq_true rfl) dX7_init_22 (Nat.le_of_ble_eq_true rfl) rfl rfl (cn_X9 X.2.1 E hE 36 (by decide)) ?_
  refine zn_eq (ws' := ((E.2.1 33, (.inr (6, [.ref (E.2.1 34), .null, .null, .int 0]) : va_E)) :: sl E 34 18)) (nx' := 52) (by rw [List.cons_append, sl_app E 34 2 16 (j := 36) rfl]) rfl ?_
  refine zn_putF (TT := TX7) (N := 4) (ci := 6) (ty := (.object "ToWhoNeeds$State")) C tyX7 tyX7_ok nmX7 rfl in_X7 1 (by decide) t_145 rfl rfl rfl (by decide +kernel) rfl rfl (Nat.le_of_ble_eq_true rfl) rfl dX7_init_25 ?_
  refine zn_eq (ws' := ((E.2.1 33, (.inr (6, [.ref (E.2.1 34), .ref (E.2.1 36), .null, .int 0]) : va_E)) :: sl E 34 18)) (nx' := 52) rfl rfl ?_
  refine zn_aload_n C dX7_init_28 0 rfl ?_
  refine zn_iconst (v := 5) C dX7_init_29 (by decide) ?_
  refine zn_newa (N := 5) C t_59 (by decide) (by decide) (by decide) (Nat.le_of_ble_eq_true rfl) (Nat.le_of_ble_eq_true rfl) (by omega) dX7_init_30 ?_
  refine zn_eq (ws' := ((E.2.1 33, (.inr (6, [.ref (E.2.1 34), .ref (E.2.1 36), .null, .int 0]) : va_E)) :: sl E 34 19)) (nx' := 53) (by rw [List.cons_append, sl_snoc E 34 18 (j := 52) rfl (wc_a0 rfl)]) rfl ?_
  refine zn_putF (TT := TX7) (N := 4) (ci := 6) (ty := (.array .int)) C tyX7 tyX7_ok nmX7 rfl in_X7 2 (by decide) t_146 rfl rfl rfl (by decide +kernel) rfl rfl (Nat.le_of_ble_eq_true rfl) rfl dX7_init_32 ?_
  refine zn_eq (ws' := ((E.2.1 33, (.inr (6, [.ref (E.2.1 34), .ref (E.2.1 36), .ref (E.2.1 52), .int 0]) : va_E)) :: sl E 34 19)) (nx' := 53) rfl rfl ?_
  refine zn_eq (ws' := sl E 33 20) (nx' := 53) (sl_cons E 33 19 rfl) rfl ?_
  exact zn_vret C dX7_init_35 rfl rfl rfl rfl
set_option maxHeartbeats 4000000 in
set_option maxRecDepth 20000 in
theorem cn_X2 (l : Launch) (E : Ev) (hE : Ad E) : Cn l E YX2_init 10 80 53 [.ref (E.2.1 53)] (.inr (1, [.null, .null, .null, .null, .int 0])) (sl E 53 11, 64) := by
  refine cn_of hE (by decide +kernel) (Nat.le_of_ble_eq_true rfl) [(0, .ref (E.2.1 53))] rfl (fun X hX C => ?_)
  refine zn_eq (ws' := ((E.2.1 53, (.inr (1, [.null, .null, .null, .null, .int 0]) : va_E)) :: sl E 54 0)) (nx' := 54) rfl rfl ?_
  refine zn_aload_n C dX2_init_0 0 rfl ?_
  refine zn_obj C t_162 t_27 t_28 dX2_init_1 (Nat.le_of_ble_eq_true rfl) (Nat.le_of_ble_eq_true rfl) ?_
  refine zn_aload_n C dX2_init_4 0 rfl ?_
  refine zn_new (CC := RX5) (TT := TX5) (N := 3) (ci := 4) (fs := [.null, .null, .int 0]) C tyX5 tyX5_ok rfl in_X5 t_163 t_36 t_3 (by decide +kernel) (Nat.le_of_ble_eq_true rfl) (Nat.le_of_ble_eq_true rfl) (by omega) dX2_init_5 ?_
  refine zn_dup C dX2_init_8 rfl ?_
  refine zn_initN (Y2 := YX5_init) (mc2 := 2) (ms2 := 30) (p := 54) (pre := ((E.2.1 53, (.inr (1, [.null, .null, .null, .null, .int 0]) : va_E)) :: sl E 54 0)) (As := []) C lk_X5_init rfl rfl n_164 t_38 (by omega) (Nat.le_of_ble_eq_true rfl) (Nat.le_of_ble_eq_true rfl) (Nat.le_of_ble_eq_true rfl) (Nat.le_of_ble_eq_true rfl) dX2_init_9 (Nat.le_of_ble_eq_true rfl) rfl rfl (cn_X5 X.2.1 E hE 54 rfl rfl rfl) ?_
  refine zn_eq (ws' := ((E.2.1 53, (.inr (1, [.null, .null, .null, .null, .int 0]) : va_E)) :: sl E 54 3)) (nx' := 57) (by rw [List.cons_append, sl_app E 54 0 3 (j := 54) rfl]) rfl ?_
  refine zn_putF (TT := TX2) (N := 5) (ci := 1) (ty := (.object "ToWhoNeeds$People")) C tyX2 tyX2_ok nmX2 rfl in_X2 0 (by decide) t_167 rfl rfl rfl (by decide +kernel) rfl rfl (Nat.le_of_ble_eq_true rfl) rfl dX2_init_12 ?_
  refine zn_eq (ws' := ((E.2.1 53, (.inr (1, [.ref (E.2.1 54), .null, .null, .null, .int 0]) : va_E)) :: sl E 54 3)) (nx' := 57) rfl rfl ?_
  refine zn_aload_n C dX2_init_15 0 rfl ?_
  refine zn_new (CC := RX5) (TT := TX5) (N := 3) (ci := 4) (fs := [.null, .null, .int 0]) C tyX5 tyX5_ok rfl in_X5 t_163 t_36 t_3 (by decide +kernel) (Nat.le_of_ble_eq_true rfl) (Nat.le_of_ble_eq_true rfl) (by omega) dX2_init_16 ?_
  refine zn_dup C dX2_init_19 rfl ?_
  refine zn_initN (Y2 := YX5_init) (mc2 := 2) (ms2 := 30) (p := 57) (pre := ((E.2.1 53, (.inr (1, [.ref (E.2.1 54), .null, .null, .null, .int 0]) : va_E)) :: sl E 54 3)) (As := []) C lk_X5_init rfl rfl n_164 t_38 (by omega) (Nat.le_of_ble_eq_true rfl) (Nat.le_of_ble_eq_true rfl) (Nat.le_of_ble_eq_true rfl) (Nat.le_of_ble_eq_true rfl) dX2_init_20 (Nat.le_of_ble_eq_true rfl) rfl rfl (cn_X5 X.2.1 E hE 57 rfl rfl rfl) ?_
  refine zn_eq (ws' := ((E.2.1 53, (.inr (1, [.ref (E.2.1 54), .null, .null, .null, .int 0]) : va_E)) :: sl E 54 6)) (nx' := 60) (by rw [List.cons_append, sl_app E 54 3 3 (j := 57) rfl]) rfl ?_
  refine zn_putF (TT := TX2) (N := 5) (ci := 1) (ty := (.object "ToWhoNeeds$People")) C tyX2 tyX2_ok nmX2 rfl in_X2 1 (by decide) t_168 rfl rfl rfl (by decide +kernel) rfl rfl (Nat.le_of_ble_eq_true rfl) rfl dX2_init_23 ?_
  refine zn_eq (ws' := ((E.2.1 53, (.inr (1, [.ref (E.2.1 54), .ref (E.2.1 57), .null, .null, .int 0]) : va_E)) :: sl E 54 6)) (nx' := 60) rfl rfl ?_
  refine zn_aload_n C dX2_init_26 0 rfl ?_
  refine zn_new (CC := RX4) (TT := TX4) (N := 2) (ci := 3) (fs := [.null, .int 0]) C tyX4 tyX4_ok rfl in_X4 t_165 t_61 t_4 (by decide +kernel) (Nat.le_of_ble_eq_true rfl) (Nat.le_of_ble_eq_true rfl) (by omega) dX2_init_27 ?_
  refine zn_dup C dX2_init_30 rfl ?_
  refine zn_iconst (v := 5) C dX2_init_31 (by decide) ?_
  refine zn_init (Y2 := YX4_init) (mc2 := 1) (ms2 := 5) (p := 60) (pre := ((E.2.1 53, (.inr (1, [.ref (E.2.1 54), .ref (E.2.1 57), .null, .null, .int 0]) : va_E)) :: sl E 54 6)) (As := [.int 5]) C lk_X4_init rfl rfl t_166 t_63 (by omega) (Nat.le_of_ble_eq_true rfl) (Nat.le_of_ble_eq_true rfl) (Nat.le_of_ble_eq_true rfl) (Nat.le_of_ble_eq_true rfl) dX2_init_32 (Nat.le_of_ble_eq_true rfl) rfl rfl (cn_X4 X.2.1 E hE 60 5 rfl rfl (by decide) (by decide)) ?_
  refine zn_eq (ws' := ((E.2.1 53, (.inr (1, [.ref (E.2.1 54), .ref (E.2.1 57), .null, .null, .int 0]) : va_E)) :: sl E 54 8)) (nx' := 62) (by rw [List.cons_append, sl_app E 54 6 2 (j := 60) rfl]) rfl ?_
  refine zn_putF (TT := TX2) (N := 5) (ci := 1) (ty := (.object "ToWhoNeeds$Numbers")) C tyX2 tyX2_ok nmX2 rfl in_X2 2 (by decide) t_169 rfl rfl rfl (by decide +kernel) rfl rfl (Nat.le_of_ble_eq_true rfl) rfl dX2_init_35 ?_
  refine zn_eq (ws' := ((E.2.1 53, (.inr (1, [.ref (E.2.1 54), .ref (E.2.1 57), .ref (E.2.1 60), .null, .int 0]) : va_E)) :: sl E 54 8)) (nx' := 62) rfl rfl ?_
  refine zn_aload_n C dX2_init_38 0 rfl ?_
  refine zn_new (CC := RX4) (TT := TX4) (N := 2) (ci := 3) (fs := [.null, .int 0]) C tyX4 tyX4_ok rfl in_X4 t_165 t_61 t_4 (by decide +kernel) (Nat.le_of_ble_eq_true rfl) (Nat.le_of_ble_eq_true rfl) (by omega) dX2_init_39 ?_
  refine zn_dup C dX2_init_42 rfl ?_
  refine zn_iconst (v := 5) C dX2_init_43 (by decide) ?_
  refine zn_init (Y2 := YX4_init) (mc2 := 1) (ms2 := 5) (p := 62) (pre := ((E.2.1 53, (.inr (1, [.ref (E.2.1 54), .ref (E.2.1 57), .ref (E.2.1 60), .null, .int 0]) : va_E)) :: sl E 54 8)) (As := [.int 5]) C lk_X4_init rfl rfl t_166 t_63 (by omega) (Nat.le_of_ble_eq_true rfl) (Nat.le_of_ble_eq_true rfl) (Nat.le_of_ble_eq_true rfl) (Nat.le_of_ble_eq_true rfl) dX2_init_44 (Nat.le_of_ble_eq_true rfl) rfl rfl (cn_X4 X.2.1 E hE 62 5 rfl rfl (by decide) (by decide)) ?_
  refine zn_eq (ws' := ((E.2.1 53, (.inr (1, [.ref (E.2.1 54), .ref (E.2.1 57), .ref (E.2.1 60), .null, .int 0]) : va_E)) :: sl E 54 10)) (nx' := 64) (by rw [List.cons_append, sl_app E 54 8 2 (j := 62) rfl]) rfl ?_
  refine zn_putF (TT := TX2) (N := 5) (ci := 1) (ty := (.object "ToWhoNeeds$Numbers")) C tyX2 tyX2_ok nmX2 rfl in_X2 3 (by decide) t_170 rfl rfl rfl (by decide +kernel) rfl rfl (Nat.le_of_ble_eq_true rfl) rfl dX2_init_47 ?_
  refine zn_eq (ws' := ((E.2.1 53, (.inr (1, [.ref (E.2.1 54), .ref (E.2.1 57), .ref (E.2.1 60), .ref (E.2.1 62), .int 0]) : va_E)) :: sl E 54 10)) (nx' := 64) rfl rfl ?_
  refine zn_eq (ws' := sl E 53 11) (nx' := 64) (sl_cons E 53 10 rfl) rfl ?_
  exact zn_vret C dX2_init_50 rfl rfl rfl rfl
set_option maxHeartbeats 4000000 in
set_option maxRecDepth 20000 in
theorem cn_X11 (l : Launch) (E : Ev) (hE : Ad E) : Cn l E YX11_init 72 442 0 [.ref (E.2.1 0)] (.inr (10, [.null, .null, .null, .null, .null, .null, .null, .int 0])) (sl E 0 73, 73) := by
  refine cn_of hE (by decide +kernel) (Nat.le_of_ble_eq_true rfl) [(0, .ref (E.2.1 0))] rfl (fun X hX C => ?_)
  refine zn_eq (ws' := ((E.2.1 0, (.inr (10, [.null, .null, .null, .null, .null, .null, .null, .int 0]) : va_E)) :: sl E 1 0)) (nx' := 1) rfl rfl ?_
  refine zn_aload_n C dX11_init_0 0 rfl ?_
  refine zn_obj C t_26 t_27 t_28 dX11_init_1 (Nat.le_of_ble_eq_true rfl) (Nat.le_of_ble_eq_true rfl) ?_
  refine zn_aload_n C dX11_init_4 0 rfl ?_
  refine zn_new (CC := RX9) (TT := TX9) (N := 11) (ci := 8) (fs := [.null, .null, .null, .null, .null, .null, .null, .int 0, .int 0, .int 0, .int 0]) C tyX9 tyX9_ok rfl in_X9 t_29 t_30 t_2 (by decide +kernel) (Nat.le_of_ble_eq_true rfl) (Nat.le_of_ble_eq_true rfl) (by omega) dX11_init_5 ?_
  refine zn_dup C dX11_init_8 rfl ?_
  refine zn_initN (Y2 := YX9_init) (mc2 := 15) (ms2 := 74) (p := 1) (pre := ((E.2.1 0, (.inr (10, [.null, .null, .null, .null, .null, .null, .null, .int 0]) : va_E)) :: sl E 1 0)) (As := []) C lk_X9_init rfl rfl n_31 t_32 (by omega) (Nat.le_of_ble_eq_true rfl) (Nat.le_of_ble_eq_true rfl) (Nat.le_of_ble_eq_true rfl) (Nat.le_of_ble_eq_true rfl) dX11_init_9 (Nat.le_of_ble_eq_true rfl) rfl rfl (cn_X9 X.2.1 E hE 1 (by decide)) ?_
  refine zn_eq (ws' := ((E.2.1 0, (.inr (10, [.null, .null, .null, .null, .null, .null, .null, .int 0]) : va_E)) :: sl E 1 16)) (nx' := 17) (by rw [List.cons_append, sl_app E 1 0 16 (j := 1) rfl]) rfl ?_
  refine zn_putF (TT := TX11) (N := 8) (ci := 10) (ty := (.object "ToWhoNeeds$State")) C tyX11 tyX11_ok nmX11 rfl in_X11 0 (by decide) t_233 rfl rfl rfl (by decide +kernel) rfl rfl (Nat.le_of_ble_eq_true rfl) rfl dX11_init_12 ?_
  refine zn_eq (ws' := ((E.2.1 0, (.inr (10, [.ref (E.2.1 1), .null, .null, .null, .null, .null, .null, .int 0]) : va_E)) :: sl E 1 16)) (nx' := 17) rfl rfl ?_
  refine zn_aload_n C dX11_init_15 0 rfl ?_
  refine zn_new (CC := RX9) (TT := TX9) (N := 11) (ci := 8) (fs := [.null, .null, .null, .null, .null, .null, .null, .int 0, .int 0, .int 0, .int 0]) C tyX9 tyX9_ok rfl in_X9 t_29 t_30 t_2 (by decide +kernel) (Nat.le_of_ble_eq_true rfl) (Nat.le_of_ble_eq_true rfl) (by omega) dX11_init_16 ?_
  refine zn_dup C dX11_init_19 rfl ?_
  refine zn_initN (Y2 := YX9_init) (mc2 := 15) (ms2 := 74) (p := 17) (pre := ((E.2.1 0, (.inr (10, [.ref (E.2.1 1), .null, .null, .null, .null, .null, .null, .int 0]) : va_E)) :: sl E 1 16)) (As := []) C lk_X9_init rfl rfl n_31 t_32 (by omega) (Nat.le_of_ble_eq_true rfl) (Nat.le_of_ble_eq_true rfl) (Nat.le_of_ble_eq_true rfl) (Nat.le_of_ble_eq_true rfl) dX11_init_20 (Nat.le_of_ble_eq_true rfl) rfl rfl (cn_X9 X.2.1 E hE 17 (by decide)) ?_
  refine zn_eq (ws' := ((E.2.1 0, (.inr (10, [.ref (E.2.1 1), .null, .null, .null, .null, .null, .null, .int 0]) : va_E)) :: sl E 1 32)) (nx' := 33) (by rw [List.cons_append, sl_app E 1 16 16 (j := 17) rfl]) rfl ?_
  refine zn_putF (TT := TX11) (N := 8) (ci := 10) (ty := (.object "ToWhoNeeds$State")) C tyX11 tyX11_ok nmX11 rfl in_X11 1 (by decide) t_234 rfl rfl rfl (by decide +kernel) rfl rfl (Nat.le_of_ble_eq_true rfl) rfl dX11_init_23 ?_
  refine zn_eq (ws' := ((E.2.1 0, (.inr (10, [.ref (E.2.1 1), .ref (E.2.1 17), .null, .null, .null, .null, .null, .int 0]) : va_E)) :: sl E 1 32)) (nx' := 33) rfl rfl ?_
  refine zn_aload_n C dX11_init_26 0 rfl ?_
  refine zn_new (CC := RX7) (TT := TX7) (N := 4) (ci := 6) (fs := [.null, .null, .null, .int 0]) C tyX7 tyX7_ok rfl in_X7 t_133 t_134 t_5 (by decide +kernel) (Nat.le_of_ble_eq_true rfl) (Nat.le_of_ble_eq_true rfl) (by omega) dX11_init_27 ?_
  refine zn_dup C dX11_init_30 rfl ?_
  refine zn_initN (Y2 := YX7_init) (mc2 := 19) (ms2 := 156) (p := 33) (pre := ((E.2.1 0, (.inr (10, [.ref (E.2.1 1), .ref (E.2.1 17), .null, .null, .null, .null, .null, .int 0]) : va_E)) :: sl E 1 32)) (As := []) C lk_X7_init rfl rfl n_135 t_136 (by omega) (Nat.le_of_ble_eq_true rfl) (Nat.le_of_ble_eq_true rfl) (Nat.le_of_ble_eq_true rfl) (Nat.le_of_ble_eq_true rfl) dX11_init_31 (Nat.le_of_ble_eq_true rfl) rfl rfl (cn_X7 X.2.1 E hE) ?_
  refine zn_eq (ws' := ((E.2.1 0, (.inr (10, [.ref (E.2.1 1), .ref (E.2.1 17), .null, .null, .null, .null, .null, .int 0]) : va_E)) :: sl E 1 52)) (nx' := 53) (by rw [List.cons_append, sl_app E 1 32 20 (j := 33) rfl]) rfl ?_
  refine zn_putF (TT := TX11) (N := 8) (ci := 10) (ty := (.object "ToWhoNeeds$Reader")) C tyX11 tyX11_ok nmX11 rfl in_X11 2 (by decide) t_235 rfl rfl rfl (by decide +kernel) rfl rfl (Nat.le_of_ble_eq_true rfl) rfl dX11_init_34 ?_
  refine zn_eq (ws' := ((E.2.1 0, (.inr (10, [.ref (E.2.1 1), .ref (E.2.1 17), .ref (E.2.1 33), .null, .null, .null, .null, .int 0]) : va_E)) :: sl E 1 52)) (nx' := 53) rfl rfl ?_
  refine zn_aload_n C dX11_init_37 0 rfl ?_
  refine zn_new (CC := RX2) (TT := TX2) (N := 5) (ci := 1) (fs := [.null, .null, .null, .null, .int 0]) C tyX2 tyX2_ok rfl in_X2 t_157 t_158 t_6 (by decide +kernel) (Nat.le_of_ble_eq_true rfl) (Nat.le_of_ble_eq_true rfl) (by omega) dX11_init_38 ?_
  refine zn_dup C dX11_init_41 rfl ?_
  refine zn_initN (Y2 := YX2_init) (mc2 := 10) (ms2 := 80) (p := 53) (pre := ((E.2.1 0, (.inr (10, [.ref (E.2.1 1), .ref (E.2.1 17), .ref (E.2.1 33), .null, .null, .null, .null, .int 0]) : va_E)) :: sl E 1 52)) (As := []) C lk_X2_init rfl rfl n_159 t_160 (by omega) (Nat.le_of_ble_eq_true rfl) (Nat.le_of_ble_eq_true rfl) (Nat.le_of_ble_eq_true rfl) (Nat.le_of_ble_eq_true rfl) dX11_init_42 (Nat.le_of_ble_eq_true rfl) rfl rfl (cn_X2 X.2.1 E hE) ?_
  refine zn_eq (ws' := ((E.2.1 0, (.inr (10, [.ref (E.2.1 1), .ref (E.2.1 17), .ref (E.2.1 33), .null, .null, .null, .null, .int 0]) : va_E)) :: sl E 1 63)) (nx' := 64) (by rw [List.cons_append, sl_app E 1 52 11 (j := 53) rfl]) rfl ?_
  refine zn_putF (TT := TX11) (N := 8) (ci := 10) (ty := (.object "ToWhoNeeds$Mind")) C tyX11 tyX11_ok nmX11 rfl in_X11 3 (by decide) t_236 rfl rfl rfl (by decide +kernel) rfl rfl (Nat.le_of_ble_eq_true rfl) rfl dX11_init_45 ?_
  refine zn_eq (ws' := ((E.2.1 0, (.inr (10, [.ref (E.2.1 1), .ref (E.2.1 17), .ref (E.2.1 33), .ref (E.2.1 53), .null, .null, .null, .int 0]) : va_E)) :: sl E 1 63)) (nx' := 64) rfl rfl ?_
  refine zn_aload_n C dX11_init_48 0 rfl ?_
  refine zn_iconst (v := 5) C dX11_init_49 (by decide) ?_
  refine zn_newq C t_184 (Nat.le_of_ble_eq_true rfl) (Nat.le_of_ble_eq_true rfl) (by omega) dX11_init_50 ?_
  refine zn_eq (ws' := (((E.2.1 0, (.inr (10, [.ref (E.2.1 1), .ref (E.2.1 17), .ref (E.2.1 33), .ref (E.2.1 53), .null, .null, .null, .int 0]) : va_E)) :: sl E 1 63) ++ [(E.2.1 64, (.inl (E.2.2 1, 5, .inr (.inr (.inr (.inr (fun _ => none))))) : va_E))])) (nx' := 65) rfl rfl ?_
  refine zn_dup C dX11_init_53 rfl ?_
  refine zn_iconst (v := 0) C dX11_init_54 (by decide) ?_
  refine zn_new (CC := RX10) (TT := TX10) (N := 1) (ci := 9) (fs := [.int 0]) C tyX10 tyX10_ok rfl in_X10 t_186 t_187 t_8 (by decide +kernel) (Nat.le_of_ble_eq_true rfl) (Nat.le_of_ble_eq_true rfl) (by omega) dX11_init_55 ?_
  refine zn_dup C dX11_init_58 rfl ?_
  refine zn_iconst (v := 0) C dX11_init_59 (by decide) ?_
  refine zn_init (Y2 := YX10_init) (mc2 := 0) (ms2 := 0) (p := 65) (pre := (((E.2.1 0, (.inr (10, [.ref (E.2.1 1), .ref (E.2.1 17), .ref (E.2.1 33), .ref (E.2.1 53), .null, .null, .null, .int 0]) : va_E)) :: sl E 1 63) ++ [(E.2.1 64, (.inl (E.2.2 1, 5, .inr (.inr (.inr (.inr (fun _ => none))))) : va_E))])) (As := [.int 0]) C lk_X10_init rfl rfl t_188 t_189 (by omega) (Nat.le_of_ble_eq_true rfl) (Nat.le_of_ble_eq_true rfl) (Nat.le_of_ble_eq_true rfl) (Nat.le_of_ble_eq_true rfl) dX11_init_60 (Nat.le_of_ble_eq_true rfl) rfl rfl (cn_X10_X10 X.2.1 E hE 65 0) ?_
  refine zn_eq (ws' := (((E.2.1 0, (.inr (10, [.ref (E.2.1 1), .ref (E.2.1 17), .ref (E.2.1 33), .ref (E.2.1 53), .null, .null, .null, .int 0]) : va_E)) :: sl E 1 63) ++ [(E.2.1 64, (.inl (E.2.2 1, 5, .inr (.inr (.inr (.inr (fun _ => none))))) : va_E)), (E.2.1 65, (.inr (9, [.int 0]) : va_E))])) (nx' := 66) (by simp only [List.append_assoc, List.cons_append, List.nil_append]) rfl ?_
  refine zn_astq (q0 := 64 + 0) (qk := 64 + 1) (ci := 9) (r := (RX10, TX10, 1)) (ws' := (((E.2.1 0, (.inr (10, [.ref (E.2.1 1), .ref (E.2.1 17), .ref (E.2.1 33), .ref (E.2.1 53), .null, .null, .null, .int 0]) : va_E)) :: sl E 1 63) ++ [(E.2.1 64, (.inl (E.2.2 1, 5, .inr (.inr (.inr (.inr (va_up (fun _ => none) (Int32.toNatClampNeg 0) (some (E.2.1 65))))))) : va_E)), (E.2.1 65, (.inr (9, [.int 0]) : va_E))])) C (at_pre (by simp only [List.length_cons, sl_len])) (by decide +kernel) (at_pre (by simp only [List.length_cons, sl_len])) rfl (by unfold vp_in; decide) (set_pre (by simp only [List.length_cons, sl_len])) rfl dX11_init_63 ?_
  refine zn_dup C dX11_init_64 rfl ?_
  refine zn_iconst (v := 1) C dX11_init_65 (by decide) ?_
  refine zn_new (CC := RX1) (TT := TX1) (N := 1) (ci := 0) (fs := [.int 0]) C tyX1 tyX1_ok rfl in_X1 t_199 t_200 t_9 (by decide +kernel) (Nat.le_of_ble_eq_true rfl) (Nat.le_of_ble_eq_true rfl) (by omega) dX11_init_66 ?_
  refine zn_dup C dX11_init_69 rfl ?_
  refine zn_init (Y2 := YX1_init) (mc2 := 0) (ms2 := 0) (p := 66) (pre := (((E.2.1 0, (.inr (10, [.ref (E.2.1 1), .ref (E.2.1 17), .ref (E.2.1 33), .ref (E.2.1 53), .null, .null, .null, .int 0]) : va_E)) :: sl E 1 63) ++ [(E.2.1 64, (.inl (E.2.2 1, 5, .inr (.inr (.inr (.inr (va_up (fun _ => none) (Int32.toNatClampNeg 0) (some (E.2.1 65))))))) : va_E)), (E.2.1 65, (.inr (9, [.int 0]) : va_E))])) (As := []) C lk_X1_init rfl rfl t_201 t_202 (by omega) (Nat.le_of_ble_eq_true rfl) (Nat.le_of_ble_eq_true rfl) (Nat.le_of_ble_eq_true rfl) (Nat.le_of_ble_eq_true rfl) dX11_init_70 (Nat.le_of_ble_eq_true rfl) rfl rfl (cn_X1_X1 X.2.1 E hE 66) ?_
  refine zn_eq (ws' := (((E.2.1 0, (.inr (10, [.ref (E.2.1 1), .ref (E.2.1 17), .ref (E.2.1 33), .ref (E.2.1 53), .null, .null, .null, .int 0]) : va_E)) :: sl E 1 63) ++ [(E.2.1 64, (.inl (E.2.2 1, 5, .inr (.inr (.inr (.inr (va_up (fun _ => none) (Int32.toNatClampNeg 0) (some (E.2.1 65))))))) : va_E)), (E.2.1 65, (.inr (9, [.int 0]) : va_E)), (E.2.1 66, (.inr (0, [.int 0]) : va_E))])) (nx' := 67) (by simp only [List.append_assoc, List.cons_append, List.nil_append]) rfl ?_
  refine zn_astq (q0 := 64 + 0) (qk := 64 + 2) (ci := 0) (r := (RX1, TX1, 1)) (ws' := (((E.2.1 0, (.inr (10, [.ref (E.2.1 1), .ref (E.2.1 17), .ref (E.2.1 33), .ref (E.2.1 53), .null, .null, .null, .int 0]) : va_E)) :: sl E 1 63) ++ [(E.2.1 64, (.inl (E.2.2 1, 5, .inr (.inr (.inr (.inr (va_up (va_up (fun _ => none) (Int32.toNatClampNeg 0) (some (E.2.1 65))) (Int32.toNatClampNeg 1) (some (E.2.1 66))))))) : va_E)), (E.2.1 65, (.inr (9, [.int 0]) : va_E)), (E.2.1 66, (.inr (0, [.int 0]) : va_E))])) C (at_pre (by simp only [List.length_cons, sl_len])) (by decide +kernel) (at_pre (by simp only [List.length_cons, sl_len])) rfl (by unfold vp_in; decide) (set_pre (by simp only [List.length_cons, sl_len])) rfl dX11_init_73 ?_
  refine zn_dup C dX11_init_74 rfl ?_
  refine zn_iconst (v := 2) C dX11_init_75 (by decide) ?_
  refine zn_new (CC := RX3) (TT := TX3) (N := 1) (ci := 2) (fs := [.int 0]) C tyX3 tyX3_ok rfl in_X3 t_207 t_208 t_10 (by decide +kernel) (Nat.le_of_ble_eq_true rfl) (Nat.le_of_ble_eq_true rfl) (by omega) dX11_init_76 ?_
  refine zn_dup C dX11_init_79 rfl ?_
  refine zn_init (Y2 := YX3_init) (mc2 := 0) (ms2 := 0) (p := 67) (pre := (((E.2.1 0, (.inr (10, [.ref (E.2.1 1), .ref (E.2.1 17), .ref (E.2.1 33), .ref (E.2.1 53), .null, .null, .null, .int 0]) : va_E)) :: sl E 1 63) ++ [(E.2.1 64, (.inl (E.2.2 1, 5, .inr (.inr (.inr (.inr (va_up (va_up (fun _ => none) (Int32.toNatClampNeg 0) (some (E.2.1 65))) (Int32.toNatClampNeg 1) (some (E.2.1 66))))))) : va_E)), (E.2.1 65, (.inr (9, [.int 0]) : va_E)), (E.2.1 66, (.inr (0, [.int 0]) : va_E))])) (As := []) C lk_X3_init rfl rfl t_209 t_210 (by omega) (Nat.le_of_ble_eq_true rfl) (Nat.le_of_ble_eq_true rfl) (Nat.le_of_ble_eq_true rfl) (Nat.le_of_ble_eq_true rfl) dX11_init_80 (Nat.le_of_ble_eq_true rfl) rfl rfl (cn_X3_X3 X.2.1 E hE 67) ?_
  refine zn_eq (ws' := (((E.2.1 0, (.inr (10, [.ref (E.2.1 1), .ref (E.2.1 17), .ref (E.2.1 33), .ref (E.2.1 53), .null, .null, .null, .int 0]) : va_E)) :: sl E 1 63) ++ [(E.2.1 64, (.inl (E.2.2 1, 5, .inr (.inr (.inr (.inr (va_up (va_up (fun _ => none) (Int32.toNatClampNeg 0) (some (E.2.1 65))) (Int32.toNatClampNeg 1) (some (E.2.1 66))))))) : va_E)), (E.2.1 65, (.inr (9, [.int 0]) : va_E)), (E.2.1 66, (.inr (0, [.int 0]) : va_E)), (E.2.1 67, (.inr (2, [.int 0]) : va_E))])) (nx' := 68) (by simp only [List.append_assoc, List.cons_append, List.nil_append]) rfl ?_
  refine zn_astq (q0 := 64 + 0) (qk := 64 + 3) (ci := 2) (r := (RX3, TX3, 1)) (ws' := (((E.2.1 0, (.inr (10, [.ref (E.2.1 1), .ref (E.2.1 17), .ref (E.2.1 33), .ref (E.2.1 53), .null, .null, .null, .int 0]) : va_E)) :: sl E 1 63) ++ [(E.2.1 64, (.inl (E.2.2 1, 5, .inr (.inr (.inr (.inr (va_up (va_up (va_up (fun _ => none) (Int32.toNatClampNeg 0) (some (E.2.1 65))) (Int32.toNatClampNeg 1) (some (E.2.1 66))) (Int32.toNatClampNeg 2) (some (E.2.1 67))))))) : va_E)), (E.2.1 65, (.inr (9, [.int 0]) : va_E)), (E.2.1 66, (.inr (0, [.int 0]) : va_E)), (E.2.1 67, (.inr (2, [.int 0]) : va_E))])) C (at_pre (by simp only [List.length_cons, sl_len])) (by decide +kernel) (at_pre (by simp only [List.length_cons, sl_len])) rfl (by unfold vp_in; decide) (set_pre (by simp only [List.length_cons, sl_len])) rfl dX11_init_83 ?_
  refine zn_dup C dX11_init_84 rfl ?_
  refine zn_iconst (v := 3) C dX11_init_85 (by decide) ?_
  refine zn_new (CC := RX8) (TT := TX8) (N := 1) (ci := 7) (fs := [.int 0]) C tyX8 tyX8_ok rfl in_X8 t_215 t_216 t_11 (by decide +kernel) (Nat.le_of_ble_eq_true rfl) (Nat.le_of_ble_eq_true rfl) (by omega) dX11_init_86 ?_
  refine zn_dup C dX11_init_89 rfl ?_
  refine zn_init (Y2 := YX8_init) (mc2 := 0) (ms2 := 0) (p := 68) (pre := (((E.2.1 0, (.inr (10, [.ref (E.2.1 1), .ref (E.2.1 17), .ref (E.2.1 33), .ref (E.2.1 53), .null, .null, .null, .int 0]) : va_E)) :: sl E 1 63) ++ [(E.2.1 64, (.inl (E.2.2 1, 5, .inr (.inr (.inr (.inr (va_up (va_up (va_up (fun _ => none) (Int32.toNatClampNeg 0) (some (E.2.1 65))) (Int32.toNatClampNeg 1) (some (E.2.1 66))) (Int32.toNatClampNeg 2) (some (E.2.1 67))))))) : va_E)), (E.2.1 65, (.inr (9, [.int 0]) : va_E)), (E.2.1 66, (.inr (0, [.int 0]) : va_E)), (E.2.1 67, (.inr (2, [.int 0]) : va_E))])) (As := []) C lk_X8_init rfl rfl t_217 t_218 (by omega) (Nat.le_of_ble_eq_true rfl) (Nat.le_of_ble_eq_true rfl) (Nat.le_of_ble_eq_true rfl) (Nat.le_of_ble_eq_true rfl) dX11_init_90 (Nat.le_of_ble_eq_true rfl) rfl rfl (cn_X8_X8 X.2.1 E hE 68) ?_
  refine zn_eq (ws' := (((E.2.1 0, (.inr (10, [.ref (E.2.1 1), .ref (E.2.1 17), .ref (E.2.1 33), .ref (E.2.1 53), .null, .null, .null, .int 0]) : va_E)) :: sl E 1 63) ++ [(E.2.1 64, (.inl (E.2.2 1, 5, .inr (.inr (.inr (.inr (va_up (va_up (va_up (fun _ => none) (Int32.toNatClampNeg 0) (some (E.2.1 65))) (Int32.toNatClampNeg 1) (some (E.2.1 66))) (Int32.toNatClampNeg 2) (some (E.2.1 67))))))) : va_E)), (E.2.1 65, (.inr (9, [.int 0]) : va_E)), (E.2.1 66, (.inr (0, [.int 0]) : va_E)), (E.2.1 67, (.inr (2, [.int 0]) : va_E)), (E.2.1 68, (.inr (7, [.int 1]) : va_E))])) (nx' := 69) (by simp only [List.append_assoc, List.cons_append, List.nil_append]) rfl ?_
  refine zn_astq (q0 := 64 + 0) (qk := 64 + 4) (ci := 7) (r := (RX8, TX8, 1)) (ws' := (((E.2.1 0, (.inr (10, [.ref (E.2.1 1), .ref (E.2.1 17), .ref (E.2.1 33), .ref (E.2.1 53), .null, .null, .null, .int 0]) : va_E)) :: sl E 1 63) ++ [(E.2.1 64, (.inl (E.2.2 1, 5, .inr (.inr (.inr (.inr (va_up (va_up (va_up (va_up (fun _ => none) (Int32.toNatClampNeg 0) (some (E.2.1 65))) (Int32.toNatClampNeg 1) (some (E.2.1 66))) (Int32.toNatClampNeg 2) (some (E.2.1 67))) (Int32.toNatClampNeg 3) (some (E.2.1 68))))))) : va_E)), (E.2.1 65, (.inr (9, [.int 0]) : va_E)), (E.2.1 66, (.inr (0, [.int 0]) : va_E)), (E.2.1 67, (.inr (2, [.int 0]) : va_E)), (E.2.1 68, (.inr (7, [.int 1]) : va_E))])) C (at_pre (by simp only [List.length_cons, sl_len])) (by decide +kernel) (at_pre (by simp only [List.length_cons, sl_len])) rfl (by unfold vp_in; decide) (set_pre (by simp only [List.length_cons, sl_len])) rfl dX11_init_93 ?_
  refine zn_dup C dX11_init_94 rfl ?_
  refine zn_iconst (v := 4) C dX11_init_95 (by decide) ?_
  refine zn_new (CC := RX6) (TT := TX6) (N := 1) (ci := 5) (fs := [.int 0]) C tyX6 tyX6_ok rfl in_X6 t_223 t_224 t_12 (by decide +kernel) (Nat.le_of_ble_eq_true rfl) (Nat.le_of_ble_eq_true rfl) (by omega) dX11_init_96 ?_
  refine zn_dup C dX11_init_99 rfl ?_
  refine zn_initN (Y2 := YX6_init) (mc2 := 0) (ms2 := 0) (p := 69) (pre := (((E.2.1 0, (.inr (10, [.ref (E.2.1 1), .ref (E.2.1 17), .ref (E.2.1 33), .ref (E.2.1 53), .null, .null, .null, .int 0]) : va_E)) :: sl E 1 63) ++ [(E.2.1 64, (.inl (E.2.2 1, 5, .inr (.inr (.inr (.inr (va_up (va_up (va_up (va_up (fun _ => none) (Int32.toNatClampNeg 0) (some (E.2.1 65))) (Int32.toNatClampNeg 1) (some (E.2.1 66))) (Int32.toNatClampNeg 2) (some (E.2.1 67))) (Int32.toNatClampNeg 3) (some (E.2.1 68))))))) : va_E)), (E.2.1 65, (.inr (9, [.int 0]) : va_E)), (E.2.1 66, (.inr (0, [.int 0]) : va_E)), (E.2.1 67, (.inr (2, [.int 0]) : va_E)), (E.2.1 68, (.inr (7, [.int 1]) : va_E))])) (As := []) C lk_X6_init rfl rfl n_225 t_226 (by omega) (Nat.le_of_ble_eq_true rfl) (Nat.le_of_ble_eq_true rfl) (Nat.le_of_ble_eq_true rfl) (Nat.le_of_ble_eq_true rfl) dX11_init_100 (Nat.le_of_ble_eq_true rfl) rfl rfl (cn_X6_X6 X.2.1 E hE 69) ?_
  refine zn_eq (ws' := (((E.2.1 0, (.inr (10, [.ref (E.2.1 1), .ref (E.2.1 17), .ref (E.2.1 33), .ref (E.2.1 53), .null, .null, .null, .int 0]) : va_E)) :: sl E 1 63) ++ [(E.2.1 64, (.inl (E.2.2 1, 5, .inr (.inr (.inr (.inr (va_up (va_up (va_up (va_up (fun _ => none) (Int32.toNatClampNeg 0) (some (E.2.1 65))) (Int32.toNatClampNeg 1) (some (E.2.1 66))) (Int32.toNatClampNeg 2) (some (E.2.1 67))) (Int32.toNatClampNeg 3) (some (E.2.1 68))))))) : va_E)), (E.2.1 65, (.inr (9, [.int 0]) : va_E)), (E.2.1 66, (.inr (0, [.int 0]) : va_E)), (E.2.1 67, (.inr (2, [.int 0]) : va_E)), (E.2.1 68, (.inr (7, [.int 1]) : va_E)), (E.2.1 69, (.inr (5, [.int 0]) : va_E))])) (nx' := 70) (by simp only [List.append_assoc, List.cons_append, List.nil_append]) rfl ?_
  refine zn_astq (q0 := 64 + 0) (qk := 64 + 5) (ci := 5) (r := (RX6, TX6, 1)) (ws' := (((E.2.1 0, (.inr (10, [.ref (E.2.1 1), .ref (E.2.1 17), .ref (E.2.1 33), .ref (E.2.1 53), .null, .null, .null, .int 0]) : va_E)) :: sl E 1 63) ++ [(E.2.1 64, (.inl (E.2.2 1, 5, .inr (.inr (.inr (.inr (va_up (va_up (va_up (va_up (va_up (fun _ => none) (Int32.toNatClampNeg 0) (some (E.2.1 65))) (Int32.toNatClampNeg 1) (some (E.2.1 66))) (Int32.toNatClampNeg 2) (some (E.2.1 67))) (Int32.toNatClampNeg 3) (some (E.2.1 68))) (Int32.toNatClampNeg 4) (some (E.2.1 69))))))) : va_E)), (E.2.1 65, (.inr (9, [.int 0]) : va_E)), (E.2.1 66, (.inr (0, [.int 0]) : va_E)), (E.2.1 67, (.inr (2, [.int 0]) : va_E)), (E.2.1 68, (.inr (7, [.int 1]) : va_E)), (E.2.1 69, (.inr (5, [.int 0]) : va_E))])) C (at_pre (by simp only [List.length_cons, sl_len])) (by decide +kernel) (at_pre (by simp only [List.length_cons, sl_len])) rfl (by unfold vp_in; decide) (set_pre (by simp only [List.length_cons, sl_len])) rfl dX11_init_103 ?_
  have hfa : (va_up (va_up (va_up (va_up (va_up (fun _ => none) (Int32.toNatClampNeg 0) (some (E.2.1 65))) (Int32.toNatClampNeg 1) (some (E.2.1 66))) (Int32.toNatClampNeg 2) (some (E.2.1 67))) (Int32.toNatClampNeg 3) (some (E.2.1 68))) (Int32.toNatClampNeg 4) (some (E.2.1 69))) = lawsAt E := by
    funext j
    unfold lawsAt va_up
    by_cases h0 : j = 0
    · subst h0; rfl
    by_cases h1 : j = 1
    · subst h1; rfl
    by_cases h2 : j = 2
    · subst h2; rfl
    by_cases h3 : j = 3
    · subst h3; rfl
    by_cases h4 : j = 4
    · subst h4; rfl
    rw [if_neg (show ¬ j < 5 by omega)]
    rw [if_neg (show ¬ j = Int32.toNatClampNeg 4 from h4), if_neg (show ¬ j = Int32.toNatClampNeg 3 from h3), if_neg (show ¬ j = Int32.toNatClampNeg 2 from h2), if_neg (show ¬ j = Int32.toNatClampNeg 1 from h1), if_neg (show ¬ j = Int32.toNatClampNeg 0 from h0)]
  refine zn_eq (ws' := ((E.2.1 0, (.inr (10, [.ref (E.2.1 1), .ref (E.2.1 17), .ref (E.2.1 33), .ref (E.2.1 53), .null, .null, .null, .int 0]) : va_E)) :: sl E 1 69)) (nx' := 70) (by rw [hfa, List.cons_append, ← sl_app E 1 63 6 (j := 64) rfl]; rfl) rfl ?_
  refine zn_putF (TT := TX11) (N := 8) (ci := 10) (ty := (.array (.object "ToWhoNeeds$Law"))) C tyX11 tyX11_ok nmX11 rfl in_X11 4 (by decide) t_237 rfl rfl rfl (by decide +kernel) rfl rfl (Nat.le_of_ble_eq_true rfl) rfl dX11_init_104 ?_
  refine zn_eq (ws' := ((E.2.1 0, (.inr (10, [.ref (E.2.1 1), .ref (E.2.1 17), .ref (E.2.1 33), .ref (E.2.1 53), .ref (E.2.1 64), .null, .null, .int 0]) : va_E)) :: sl E 1 69)) (nx' := 70) rfl rfl ?_
  refine zn_aload_n C dX11_init_107 0 rfl ?_
  refine zn_new (CC := RX4) (TT := TX4) (N := 2) (ci := 3) (fs := [.null, .int 0]) C tyX4 tyX4_ok rfl in_X4 t_231 t_61 t_4 (by decide +kernel) (Nat.le_of_ble_eq_true rfl) (Nat.le_of_ble_eq_true rfl) (by omega) dX11_init_108 ?_
  refine zn_dup C dX11_init_111 rfl ?_
  refine zn_bipush (v := 8) C dX11_init_112 (by decide) ?_
  refine zn_init (Y2 := YX4_init) (mc2 := 1) (ms2 := 8) (p := 70) (pre := ((E.2.1 0, (.inr (10, [.ref (E.2.1 1), .ref (E.2.1 17), .ref (E.2.1 33), .ref (E.2.1 53), .ref (E.2.1 64), .null, .null, .int 0]) : va_E)) :: sl E 1 69)) (As := [.int 8]) C lk_X4_init rfl rfl t_232 t_63 (by omega) (Nat.le_of_ble_eq_true rfl) (Nat.le_of_ble_eq_true rfl) (Nat.le_of_ble_eq_true rfl) (Nat.le_of_ble_eq_true rfl) dX11_init_114 (Nat.le_of_ble_eq_true rfl) rfl rfl (cn_X4 X.2.1 E hE 70 8 rfl rfl (by decide) (by decide)) ?_
  refine zn_eq (ws' := ((E.2.1 0, (.inr (10, [.ref (E.2.1 1), .ref (E.2.1 17), .ref (E.2.1 33), .ref (E.2.1 53), .ref (E.2.1 64), .null, .null, .int 0]) : va_E)) :: sl E 1 71)) (nx' := 72) (by rw [List.cons_append, sl_app E 1 69 2 (j := 70) rfl]) rfl ?_
  refine zn_putF (TT := TX11) (N := 8) (ci := 10) (ty := (.object "ToWhoNeeds$Numbers")) C tyX11 tyX11_ok nmX11 rfl in_X11 5 (by decide) t_238 rfl rfl rfl (by decide +kernel) rfl rfl (Nat.le_of_ble_eq_true rfl) rfl dX11_init_117 ?_
  refine zn_eq (ws' := ((E.2.1 0, (.inr (10, [.ref (E.2.1 1), .ref (E.2.1 17), .ref (E.2.1 33), .ref (E.2.1 53), .ref (E.2.1 64), .ref (E.2.1 70), .null, .int 0]) : va_E)) :: sl E 1 71)) (nx' := 72) rfl rfl ?_
  refine zn_aload_n C dX11_init_120 0 rfl ?_
  refine zn_bipush (v := 7) C dX11_init_121 (by decide) ?_
  refine zn_newa (N := 7) C t_59 (by decide) (by decide) (by decide) (Nat.le_of_ble_eq_true rfl) (Nat.le_of_ble_eq_true rfl) (by omega) dX11_init_123 ?_
  refine zn_eq (ws' := ((E.2.1 0, (.inr (10, [.ref (E.2.1 1), .ref (E.2.1 17), .ref (E.2.1 33), .ref (E.2.1 53), .ref (E.2.1 64), .ref (E.2.1 70), .null, .int 0]) : va_E)) :: sl E 1 72)) (nx' := 73) (by rw [List.cons_append, sl_snoc E 1 71 (j := 72) rfl (wc_a0 rfl)]) rfl ?_
  refine zn_putF (TT := TX11) (N := 8) (ci := 10) (ty := (.array .int)) C tyX11 tyX11_ok nmX11 rfl in_X11 6 (by decide) t_239 rfl rfl rfl (by decide +kernel) rfl rfl (Nat.le_of_ble_eq_true rfl) rfl dX11_init_125 ?_
  refine zn_eq (ws' := ((E.2.1 0, (.inr (10, [.ref (E.2.1 1), .ref (E.2.1 17), .ref (E.2.1 33), .ref (E.2.1 53), .ref (E.2.1 64), .ref (E.2.1 70), .ref (E.2.1 72), .int 0]) : va_E)) :: sl E 1 72)) (nx' := 73) rfl rfl ?_
  refine zn_eq (ws' := sl E 0 73) (nx' := 73) (sl_cons E 0 72 rfl) rfl ?_
  exact zn_vret C dX11_init_128 rfl rfl rfl rfl
set_option maxHeartbeats 4000000 in
set_option maxRecDepth 20000 in
theorem cn_X12 (l : Launch) (E : Ev) (hE : Ad E) : Cn l E YX12_init 22 792 73 [.ref (E.2.1 73)] (.inr (11, [.null, .null, .null, .null, .null, .null, .null, .null, .null, .int 0, .int 0, .int 0, .int 0, .int 0, .int 0, .int 0, .int 0, .null, .null, .null, .null, .null, .null, .null, .null, .int 0, .int 0, .int 0, .null, .null, .int 0, .int 0, .int 0, .int 0, .null, .null, .int 0, .null, .int 0])) (sl E 73 23, 96) := by
  refine cn_of hE (by decide +kernel) (Nat.le_of_ble_eq_true rfl) [(0, .ref (E.2.1 73))] rfl (fun X hX C => ?_)
  refine zn_eq (ws' := ((E.2.1 73, (.inr (11, [.null, .null, .null, .null, .null, .null, .null, .null, .null, .int 0, .int 0, .int 0, .int 0, .int 0, .int 0, .int 0, .int 0, .null, .null, .null, .null, .null, .null, .null, .null, .int 0, .int 0, .int 0, .null, .null, .int 0, .int 0, .int 0, .int 0, .null, .null, .int 0, .null, .int 0]) : va_E)) :: sl E 74 0)) (nx' := 74) rfl rfl ?_
  refine zn_aload_n C dX12_init_0 0 rfl ?_
  refine zn_obj C t_844 t_27 t_28 dX12_init_1 (Nat.le_of_ble_eq_true rfl) (Nat.le_of_ble_eq_true rfl) ?_
  refine zn_aload_n C dX12_init_4 0 rfl ?_
  refine zn_bipush (v := 7) C dX12_init_5 (by decide) ?_
  refine zn_newa (N := 7) C t_59 (by decide) (by decide) (by decide) (Nat.le_of_ble_eq_true rfl) (Nat.le_of_ble_eq_true rfl) (by omega) dX12_init_7 ?_
  refine zn_eq (ws' := ((E.2.1 73, (.inr (11, [.null, .null, .null, .null, .null, .null, .null, .null, .null, .int 0, .int 0, .int 0, .int 0, .int 0, .int 0, .int 0, .int 0, .null, .null, .null, .null, .null, .null, .null, .null, .int 0, .int 0, .int 0, .null, .null, .int 0, .int 0, .int 0, .int 0, .null, .null, .int 0, .null, .int 0]) : va_E)) :: sl E 74 1)) (nx' := 75) (by rw [List.cons_append, sl_snoc E 74 0 (j := 74) rfl (wc_a0 rfl)]) rfl ?_
  refine zn_putF (TT := TX12) (N := 39) (ci := 11) (ty := (.array .int)) C tyX12 tyX12_ok nmX12 rfl in_X12 0 (by decide) t_845 rfl rfl rfl (by decide +kernel) rfl rfl (Nat.le_of_ble_eq_true rfl) rfl dX12_init_9 ?_
  refine zn_eq (ws' := ((E.2.1 73, (.inr (11, [.ref (E.2.1 74), .null, .null, .null, .null, .null, .null, .null, .null, .int 0, .int 0, .int 0, .int 0, .int 0, .int 0, .int 0, .int 0, .null, .null, .null, .null, .null, .null, .null, .null, .int 0, .int 0, .int 0, .null, .null, .int 0, .int 0, .int 0, .int 0, .null, .null, .int 0, .null, .int 0]) : va_E)) :: sl E 74 1)) (nx' := 75) rfl rfl ?_
  refine zn_aload_n C dX12_init_12 0 rfl ?_
  refine zn_bipush (v := 24) C dX12_init_13 (by decide) ?_
  refine zn_newa (N := 24) C t_59 (by decide) (by decide) (by decide) (Nat.le_of_ble_eq_true rfl) (Nat.le_of_ble_eq_true rfl) (by omega) dX12_init_15 ?_
  refine zn_eq (ws' := ((E.2.1 73, (.inr (11, [.ref (E.2.1 74), .null, .null, .null, .null, .null, .null, .null, .null, .int 0, .int 0, .int 0, .int 0, .int 0, .int 0, .int 0, .int 0, .null, .null, .null, .null, .null, .null, .null, .null, .int 0, .int 0, .int 0, .null, .null, .int 0, .int 0, .int 0, .int 0, .null, .null, .int 0, .null, .int 0]) : va_E)) :: sl E 74 2)) (nx' := 76) (by rw [List.cons_append, sl_snoc E 74 1 (j := 75) rfl (wc_a0 rfl)]) rfl ?_
  refine zn_putF (TT := TX12) (N := 39) (ci := 11) (ty := (.array .int)) C tyX12 tyX12_ok nmX12 rfl in_X12 1 (by decide) t_846 rfl rfl rfl (by decide +kernel) rfl rfl (Nat.le_of_ble_eq_true rfl) rfl dX12_init_17 ?_
  refine zn_eq (ws' := ((E.2.1 73, (.inr (11, [.ref (E.2.1 74), .ref (E.2.1 75), .null, .null, .null, .null, .null, .null, .null, .int 0, .int 0, .int 0, .int 0, .int 0, .int 0, .int 0, .int 0, .null, .null, .null, .null, .null, .null, .null, .null, .int 0, .int 0, .int 0, .null, .null, .int 0, .int 0, .int 0, .int 0, .null, .null, .int 0, .null, .int 0]) : va_E)) :: sl E 74 2)) (nx' := 76) rfl rfl ?_
  refine zn_aload_n C dX12_init_20 0 rfl ?_
  refine zn_bipush (v := 6) C dX12_init_21 (by decide) ?_
  refine zn_newa (N := 6) C t_59 (by decide) (by decide) (by decide) (Nat.le_of_ble_eq_true rfl) (Nat.le_of_ble_eq_true rfl) (by omega) dX12_init_23 ?_
  refine zn_eq (ws' := ((E.2.1 73, (.inr (11, [.ref (E.2.1 74), .ref (E.2.1 75), .null, .null, .null, .null, .null, .null, .null, .int 0, .int 0, .int 0, .int 0, .int 0, .int 0, .int 0, .int 0, .null, .null, .null, .null, .null, .null, .null, .null, .int 0, .int 0, .int 0, .null, .null, .int 0, .int 0, .int 0, .int 0, .null, .null, .int 0, .null, .int 0]) : va_E)) :: sl E 74 3)) (nx' := 77) (by rw [List.cons_append, sl_snoc E 74 2 (j := 76) rfl (wc_a0 rfl)]) rfl ?_
  refine zn_putF (TT := TX12) (N := 39) (ci := 11) (ty := (.array .int)) C tyX12 tyX12_ok nmX12 rfl in_X12 2 (by decide) t_847 rfl rfl rfl (by decide +kernel) rfl rfl (Nat.le_of_ble_eq_true rfl) rfl dX12_init_25 ?_
  refine zn_eq (ws' := ((E.2.1 73, (.inr (11, [.ref (E.2.1 74), .ref (E.2.1 75), .ref (E.2.1 76), .null, .null, .null, .null, .null, .null, .int 0, .int 0, .int 0, .int 0, .int 0, .int 0, .int 0, .int 0, .null, .null, .null, .null, .null, .null, .null, .null, .int 0, .int 0, .int 0, .null, .null, .int 0, .int 0, .int 0, .int 0, .null, .null, .int 0, .null, .int 0]) : va_E)) :: sl E 74 3)) (nx' := 77) rfl rfl ?_
  refine zn_aload_n C dX12_init_28 0 rfl ?_
  refine zn_iconst (v := 4) C dX12_init_29 (by decide) ?_
  refine zn_newa (N := 4) C t_59 (by decide) (by decide) (by decide) (Nat.le_of_ble_eq_true rfl) (Nat.le_of_ble_eq_true rfl) (by omega) dX12_init_30 ?_
  refine zn_eq (ws' := ((E.2.1 73, (.inr (11, [.ref (E.2.1 74), .ref (E.2.1 75), .ref (E.2.1 76), .null, .null, .null, .null, .null, .null, .int 0, .int 0, .int 0, .int 0, .int 0, .int 0, .int 0, .int 0, .null, .null, .null, .null, .null, .null, .null, .null, .int 0, .int 0, .int 0, .null, .null, .int 0, .int 0, .int 0, .int 0, .null, .null, .int 0, .null, .int 0]) : va_E)) :: sl E 74 4)) (nx' := 78) (by rw [List.cons_append, sl_snoc E 74 3 (j := 77) rfl (wc_a0 rfl)]) rfl ?_
  refine zn_putF (TT := TX12) (N := 39) (ci := 11) (ty := (.array .int)) C tyX12 tyX12_ok nmX12 rfl in_X12 3 (by decide) t_848 rfl rfl rfl (by decide +kernel) rfl rfl (Nat.le_of_ble_eq_true rfl) rfl dX12_init_32 ?_
  refine zn_eq (ws' := ((E.2.1 73, (.inr (11, [.ref (E.2.1 74), .ref (E.2.1 75), .ref (E.2.1 76), .ref (E.2.1 77), .null, .null, .null, .null, .null, .int 0, .int 0, .int 0, .int 0, .int 0, .int 0, .int 0, .int 0, .null, .null, .null, .null, .null, .null, .null, .null, .int 0, .int 0, .int 0, .null, .null, .int 0, .int 0, .int 0, .int 0, .null, .null, .int 0, .null, .int 0]) : va_E)) :: sl E 74 4)) (nx' := 78) rfl rfl ?_
  refine zn_aload_n C dX12_init_35 0 rfl ?_
  refine zn_iconst (v := 4) C dX12_init_36 (by decide) ?_
  refine zn_newa (N := 4) C t_59 (by decide) (by decide) (by decide) (Nat.le_of_ble_eq_true rfl) (Nat.le_of_ble_eq_true rfl) (by omega) dX12_init_37 ?_
  refine zn_eq (ws' := ((E.2.1 73, (.inr (11, [.ref (E.2.1 74), .ref (E.2.1 75), .ref (E.2.1 76), .ref (E.2.1 77), .null, .null, .null, .null, .null, .int 0, .int 0, .int 0, .int 0, .int 0, .int 0, .int 0, .int 0, .null, .null, .null, .null, .null, .null, .null, .null, .int 0, .int 0, .int 0, .null, .null, .int 0, .int 0, .int 0, .int 0, .null, .null, .int 0, .null, .int 0]) : va_E)) :: sl E 74 5)) (nx' := 79) (by rw [List.cons_append, sl_snoc E 74 4 (j := 78) rfl (wc_a0 rfl)]) rfl ?_
  refine zn_putF (TT := TX12) (N := 39) (ci := 11) (ty := (.array .int)) C tyX12 tyX12_ok nmX12 rfl in_X12 4 (by decide) t_849 rfl rfl rfl (by decide +kernel) rfl rfl (Nat.le_of_ble_eq_true rfl) rfl dX12_init_39 ?_
  refine zn_eq (ws' := ((E.2.1 73, (.inr (11, [.ref (E.2.1 74), .ref (E.2.1 75), .ref (E.2.1 76), .ref (E.2.1 77), .ref (E.2.1 78), .null, .null, .null, .null, .int 0, .int 0, .int 0, .int 0, .int 0, .int 0, .int 0, .int 0, .null, .null, .null, .null, .null, .null, .null, .null, .int 0, .int 0, .int 0, .null, .null, .int 0, .int 0, .int 0, .int 0, .null, .null, .int 0, .null, .int 0]) : va_E)) :: sl E 74 5)) (nx' := 79) rfl rfl ?_
  refine zn_aload_n C dX12_init_42 0 rfl ?_
  refine zn_iconst (v := 4) C dX12_init_43 (by decide) ?_
  refine zn_newa (N := 4) C t_59 (by decide) (by decide) (by decide) (Nat.le_of_ble_eq_true rfl) (Nat.le_of_ble_eq_true rfl) (by omega) dX12_init_44 ?_
  refine zn_eq (ws' := ((E.2.1 73, (.inr (11, [.ref (E.2.1 74), .ref (E.2.1 75), .ref (E.2.1 76), .ref (E.2.1 77), .ref (E.2.1 78), .null, .null, .null, .null, .int 0, .int 0, .int 0, .int 0, .int 0, .int 0, .int 0, .int 0, .null, .null, .null, .null, .null, .null, .null, .null, .int 0, .int 0, .int 0, .null, .null, .int 0, .int 0, .int 0, .int 0, .null, .null, .int 0, .null, .int 0]) : va_E)) :: sl E 74 6)) (nx' := 80) (by rw [List.cons_append, sl_snoc E 74 5 (j := 79) rfl (wc_a0 rfl)]) rfl ?_
  refine zn_putF (TT := TX12) (N := 39) (ci := 11) (ty := (.array .int)) C tyX12 tyX12_ok nmX12 rfl in_X12 5 (by decide) t_850 rfl rfl rfl (by decide +kernel) rfl rfl (Nat.le_of_ble_eq_true rfl) rfl dX12_init_46 ?_
  refine zn_eq (ws' := ((E.2.1 73, (.inr (11, [.ref (E.2.1 74), .ref (E.2.1 75), .ref (E.2.1 76), .ref (E.2.1 77), .ref (E.2.1 78), .ref (E.2.1 79), .null, .null, .null, .int 0, .int 0, .int 0, .int 0, .int 0, .int 0, .int 0, .int 0, .null, .null, .null, .null, .null, .null, .null, .null, .int 0, .int 0, .int 0, .null, .null, .int 0, .int 0, .int 0, .int 0, .null, .null, .int 0, .null, .int 0]) : va_E)) :: sl E 74 6)) (nx' := 80) rfl rfl ?_
  refine zn_aload_n C dX12_init_49 0 rfl ?_
  refine zn_iconst (v := 5) C dX12_init_50 (by decide) ?_
  refine zn_newa (N := 5) C t_59 (by decide) (by decide) (by decide) (Nat.le_of_ble_eq_true rfl) (Nat.le_of_ble_eq_true rfl) (by omega) dX12_init_51 ?_
  refine zn_eq (ws' := ((E.2.1 73, (.inr (11, [.ref (E.2.1 74), .ref (E.2.1 75), .ref (E.2.1 76), .ref (E.2.1 77), .ref (E.2.1 78), .ref (E.2.1 79), .null, .null, .null, .int 0, .int 0, .int 0, .int 0, .int 0, .int 0, .int 0, .int 0, .null, .null, .null, .null, .null, .null, .null, .null, .int 0, .int 0, .int 0, .null, .null, .int 0, .int 0, .int 0, .int 0, .null, .null, .int 0, .null, .int 0]) : va_E)) :: sl E 74 7)) (nx' := 81) (by rw [List.cons_append, sl_snoc E 74 6 (j := 80) rfl (wc_a0 rfl)]) rfl ?_
  refine zn_putF (TT := TX12) (N := 39) (ci := 11) (ty := (.array .int)) C tyX12 tyX12_ok nmX12 rfl in_X12 6 (by decide) t_851 rfl rfl rfl (by decide +kernel) rfl rfl (Nat.le_of_ble_eq_true rfl) rfl dX12_init_53 ?_
  refine zn_eq (ws' := ((E.2.1 73, (.inr (11, [.ref (E.2.1 74), .ref (E.2.1 75), .ref (E.2.1 76), .ref (E.2.1 77), .ref (E.2.1 78), .ref (E.2.1 79), .ref (E.2.1 80), .null, .null, .int 0, .int 0, .int 0, .int 0, .int 0, .int 0, .int 0, .int 0, .null, .null, .null, .null, .null, .null, .null, .null, .int 0, .int 0, .int 0, .null, .null, .int 0, .int 0, .int 0, .int 0, .null, .null, .int 0, .null, .int 0]) : va_E)) :: sl E 74 7)) (nx' := 81) rfl rfl ?_
  refine zn_aload_n C dX12_init_56 0 rfl ?_
  refine zn_bipush (v := 6) C dX12_init_57 (by decide) ?_
  refine zn_newa (N := 6) C t_59 (by decide) (by decide) (by decide) (Nat.le_of_ble_eq_true rfl) (Nat.le_of_ble_eq_true rfl) (by omega) dX12_init_59 ?_
  refine zn_eq (ws' := ((E.2.1 73, (.inr (11, [.ref (E.2.1 74), .ref (E.2.1 75), .ref (E.2.1 76), .ref (E.2.1 77), .ref (E.2.1 78), .ref (E.2.1 79), .ref (E.2.1 80), .null, .null, .int 0, .int 0, .int 0, .int 0, .int 0, .int 0, .int 0, .int 0, .null, .null, .null, .null, .null, .null, .null, .null, .int 0, .int 0, .int 0, .null, .null, .int 0, .int 0, .int 0, .int 0, .null, .null, .int 0, .null, .int 0]) : va_E)) :: sl E 74 8)) (nx' := 82) (by rw [List.cons_append, sl_snoc E 74 7 (j := 81) rfl (wc_a0 rfl)]) rfl ?_
  refine zn_putF (TT := TX12) (N := 39) (ci := 11) (ty := (.array .int)) C tyX12 tyX12_ok nmX12 rfl in_X12 7 (by decide) t_852 rfl rfl rfl (by decide +kernel) rfl rfl (Nat.le_of_ble_eq_true rfl) rfl dX12_init_61 ?_
  refine zn_eq (ws' := ((E.2.1 73, (.inr (11, [.ref (E.2.1 74), .ref (E.2.1 75), .ref (E.2.1 76), .ref (E.2.1 77), .ref (E.2.1 78), .ref (E.2.1 79), .ref (E.2.1 80), .ref (E.2.1 81), .null, .int 0, .int 0, .int 0, .int 0, .int 0, .int 0, .int 0, .int 0, .null, .null, .null, .null, .null, .null, .null, .null, .int 0, .int 0, .int 0, .null, .null, .int 0, .int 0, .int 0, .int 0, .null, .null, .int 0, .null, .int 0]) : va_E)) :: sl E 74 8)) (nx' := 82) rfl rfl ?_
  refine zn_aload_n C dX12_init_64 0 rfl ?_
  refine zn_bipush (v := 6) C dX12_init_65 (by decide) ?_
  refine zn_newa (N := 6) C t_59 (by decide) (by decide) (by decide) (Nat.le_of_ble_eq_true rfl) (Nat.le_of_ble_eq_true rfl) (by omega) dX12_init_67 ?_
  refine zn_eq (ws' := ((E.2.1 73, (.inr (11, [.ref (E.2.1 74), .ref (E.2.1 75), .ref (E.2.1 76), .ref (E.2.1 77), .ref (E.2.1 78), .ref (E.2.1 79), .ref (E.2.1 80), .ref (E.2.1 81), .null, .int 0, .int 0, .int 0, .int 0, .int 0, .int 0, .int 0, .int 0, .null, .null, .null, .null, .null, .null, .null, .null, .int 0, .int 0, .int 0, .null, .null, .int 0, .int 0, .int 0, .int 0, .null, .null, .int 0, .null, .int 0]) : va_E)) :: sl E 74 9)) (nx' := 83) (by rw [List.cons_append, sl_snoc E 74 8 (j := 82) rfl (wc_a0 rfl)]) rfl ?_
  refine zn_putF (TT := TX12) (N := 39) (ci := 11) (ty := (.array .int)) C tyX12 tyX12_ok nmX12 rfl in_X12 8 (by decide) t_853 rfl rfl rfl (by decide +kernel) rfl rfl (Nat.le_of_ble_eq_true rfl) rfl dX12_init_69 ?_
  refine zn_eq (ws' := ((E.2.1 73, (.inr (11, [.ref (E.2.1 74), .ref (E.2.1 75), .ref (E.2.1 76), .ref (E.2.1 77), .ref (E.2.1 78), .ref (E.2.1 79), .ref (E.2.1 80), .ref (E.2.1 81), .ref (E.2.1 82), .int 0, .int 0, .int 0, .int 0, .int 0, .int 0, .int 0, .int 0, .null, .null, .null, .null, .null, .null, .null, .null, .int 0, .int 0, .int 0, .null, .null, .int 0, .int 0, .int 0, .int 0, .null, .null, .int 0, .null, .int 0]) : va_E)) :: sl E 74 9)) (nx' := 83) rfl rfl ?_
  refine zn_aload_n C dX12_init_72 0 rfl ?_
  refine zn_bipush (v := 64) C dX12_init_73 (by decide) ?_
  refine zn_newa (N := 64) C t_59 (by decide) (by decide) (by decide) (Nat.le_of_ble_eq_true rfl) (Nat.le_of_ble_eq_true rfl) (by omega) dX12_init_75 ?_
  refine zn_eq (ws' := ((E.2.1 73, (.inr (11, [.ref (E.2.1 74), .ref (E.2.1 75), .ref (E.2.1 76), .ref (E.2.1 77), .ref (E.2.1 78), .ref (E.2.1 79), .ref (E.2.1 80), .ref (E.2.1 81), .ref (E.2.1 82), .int 0, .int 0, .int 0, .int 0, .int 0, .int 0, .int 0, .int 0, .null, .null, .null, .null, .null, .null, .null, .null, .int 0, .int 0, .int 0, .null, .null, .int 0, .int 0, .int 0, .int 0, .null, .null, .int 0, .null, .int 0]) : va_E)) :: sl E 74 10)) (nx' := 84) (by rw [List.cons_append, sl_snoc E 74 9 (j := 83) rfl (wc_a0 rfl)]) rfl ?_
  refine zn_putF (TT := TX12) (N := 39) (ci := 11) (ty := (.array .int)) C tyX12 tyX12_ok nmX12 rfl in_X12 17 (by decide) t_862 rfl rfl rfl (by decide +kernel) rfl rfl (Nat.le_of_ble_eq_true rfl) rfl dX12_init_77 ?_
  refine zn_eq (ws' := ((E.2.1 73, (.inr (11, [.ref (E.2.1 74), .ref (E.2.1 75), .ref (E.2.1 76), .ref (E.2.1 77), .ref (E.2.1 78), .ref (E.2.1 79), .ref (E.2.1 80), .ref (E.2.1 81), .ref (E.2.1 82), .int 0, .int 0, .int 0, .int 0, .int 0, .int 0, .int 0, .int 0, .ref (E.2.1 83), .null, .null, .null, .null, .null, .null, .null, .int 0, .int 0, .int 0, .null, .null, .int 0, .int 0, .int 0, .int 0, .null, .null, .int 0, .null, .int 0]) : va_E)) :: sl E 74 10)) (nx' := 84) rfl rfl ?_
  refine zn_aload_n C dX12_init_80 0 rfl ?_
  refine zn_bipush (v := 32) C dX12_init_81 (by decide) ?_
  refine zn_newa (N := 32) C t_59 (by decide) (by decide) (by decide) (Nat.le_of_ble_eq_true rfl) (Nat.le_of_ble_eq_true rfl) (by omega) dX12_init_83 ?_
  refine zn_eq (ws' := ((E.2.1 73, (.inr (11, [.ref (E.2.1 74), .ref (E.2.1 75), .ref (E.2.1 76), .ref (E.2.1 77), .ref (E.2.1 78), .ref (E.2.1 79), .ref (E.2.1 80), .ref (E.2.1 81), .ref (E.2.1 82), .int 0, .int 0, .int 0, .int 0, .int 0, .int 0, .int 0, .int 0, .ref (E.2.1 83), .null, .null, .null, .null, .null, .null, .null, .int 0, .int 0, .int 0, .null, .null, .int 0, .int 0, .int 0, .int 0, .null, .null, .int 0, .null, .int 0]) : va_E)) :: sl E 74 11)) (nx' := 85) (by rw [List.cons_append, sl_snoc E 74 10 (j := 84) rfl (wc_a0 rfl)]) rfl ?_
  refine zn_putF (TT := TX12) (N := 39) (ci := 11) (ty := (.array .int)) C tyX12 tyX12_ok nmX12 rfl in_X12 18 (by decide) t_863 rfl rfl rfl (by decide +kernel) rfl rfl (Nat.le_of_ble_eq_true rfl) rfl dX12_init_85 ?_
  refine zn_eq (ws' := ((E.2.1 73, (.inr (11, [.ref (E.2.1 74), .ref (E.2.1 75), .ref (E.2.1 76), .ref (E.2.1 77), .ref (E.2.1 78), .ref (E.2.1 79), .ref (E.2.1 80), .ref (E.2.1 81), .ref (E.2.1 82), .int 0, .int 0, .int 0, .int 0, .int 0, .int 0, .int 0, .int 0, .ref (E.2.1 83), .ref (E.2.1 84), .null, .null, .null, .null, .null, .null, .int 0, .int 0, .int 0, .null, .null, .int 0, .int 0, .int 0, .int 0, .null, .null, .int 0, .null, .int 0]) : va_E)) :: sl E 74 11)) (nx' := 85) rfl rfl ?_
  refine zn_aload_n C dX12_init_88 0 rfl ?_
  refine zn_bipush (v := 32) C dX12_init_89 (by decide) ?_
  refine zn_newa (N := 32) C t_59 (by decide) (by decide) (by decide) (Nat.le_of_ble_eq_true rfl) (Nat.le_of_ble_eq_true rfl) (by omega) dX12_init_91 ?_
  refine zn_eq (ws' := ((E.2.1 73, (.inr (11, [.ref (E.2.1 74), .ref (E.2.1 75), .ref (E.2.1 76), .ref (E.2.1 77), .ref (E.2.1 78), .ref (E.2.1 79), .ref (E.2.1 80), .ref (E.2.1 81), .ref (E.2.1 82), .int 0, .int 0, .int 0, .int 0, .int 0, .int 0, .int 0, .int 0, .ref (E.2.1 83), .ref (E.2.1 84), .null, .null, .null, .null, .null, .null, .int 0, .int 0, .int 0, .null, .null, .int 0, .int 0, .int 0, .int 0, .null, .null, .int 0, .null, .int 0]) : va_E)) :: sl E 74 12)) (nx' := 86) (by rw [List.cons_append, sl_snoc E 74 11 (j := 85) rfl (wc_a0 rfl)]) rfl ?_
  refine zn_putF (TT := TX12) (N := 39) (ci := 11) (ty := (.array .int)) C tyX12 tyX12_ok nmX12 rfl in_X12 19 (by decide) t_864 rfl rfl rfl (by decide +kernel) rfl rfl (Nat.le_of_ble_eq_true rfl) rfl dX12_init_93 ?_
  refine zn_eq (ws' := ((E.2.1 73, (.inr (11, [.ref (E.2.1 74), .ref (E.2.1 75), .ref (E.2.1 76), .ref (E.2.1 77), .ref (E.2.1 78), .ref (E.2.1 79), .ref (E.2.1 80), .ref (E.2.1 81), .ref (E.2.1 82), .int 0, .int 0, .int 0, .int 0, .int 0, .int 0, .int 0, .int 0, .ref (E.2.1 83), .ref (E.2.1 84), .ref (E.2.1 85), .null, .null, .null, .null, .null, .int 0, .int 0, .int 0, .null, .null, .int 0, .int 0, .int 0, .int 0, .null, .null, .int 0, .null, .int 0]) : va_E)) :: sl E 74 12)) (nx' := 86) rfl rfl ?_
  refine zn_aload_n C dX12_init_96 0 rfl ?_
  refine zn_bipush (v := 32) C dX12_init_97 (by decide) ?_
  refine zn_newa (N := 32) C t_59 (by decide) (by decide) (by decide) (Nat.le_of_ble_eq_true rfl) (Nat.le_of_ble_eq_true rfl) (by omega) dX12_init_99 ?_
  refine zn_eq (ws' := ((E.2.1 73, (.inr (11, [.ref (E.2.1 74), .ref (E.2.1 75), .ref (E.2.1 76), .ref (E.2.1 77), .ref (E.2.1 78), .ref (E.2.1 79), .ref (E.2.1 80), .ref (E.2.1 81), .ref (E.2.1 82), .int 0, .int 0, .int 0, .int 0, .int 0, .int 0, .int 0, .int 0, .ref (E.2.1 83), .ref (E.2.1 84), .ref (E.2.1 85), .null, .null, .null, .null, .null, .int 0, .int 0, .int 0, .null, .null, .int 0, .int 0, .int 0, .int 0, .null, .null, .int 0, .null, .int 0]) : va_E)) :: sl E 74 13)) (nx' := 87) (by rw [List.cons_append, sl_snoc E 74 12 (j := 86) rfl (wc_a0 rfl)]) rfl ?_
  refine zn_putF (TT := TX12) (N := 39) (ci := 11) (ty := (.array .int)) C tyX12 tyX12_ok nmX12 rfl in_X12 20 (by decide) t_865 rfl rfl rfl (by decide +kernel) rfl rfl (Nat.le_of_ble_eq_true rfl) rfl dX12_init_101 ?_
  refine zn_eq (ws' := ((E.2.1 73, (.inr (11, [.ref (E.2.1 74), .ref (E.2.1 75), .ref (E.2.1 76), .ref (E.2.1 77), .ref (E.2.1 78), .ref (E.2.1 79), .ref (E.2.1 80), .ref (E.2.1 81), .ref (E.2.1 82), .int 0, .int 0, .int 0, .int 0, .int 0, .int 0, .int 0, .int 0, .ref (E.2.1 83), .ref (E.2.1 84), .ref (E.2.1 85), .ref (E.2.1 86), .null, .null, .null, .null, .int 0, .int 0, .int 0, .null, .null, .int 0, .int 0, .int 0, .int 0, .null, .null, .int 0, .null, .int 0]) : va_E)) :: sl E 74 13)) (nx' := 87) rfl rfl ?_
  refine zn_aload_n C dX12_init_104 0 rfl ?_
  refine zn_bipush (v := 32) C dX12_init_105 (by decide) ?_
  refine zn_newa (N := 32) C t_59 (by decide) (by decide) (by decide) (Nat.le_of_ble_eq_true rfl) (Nat.le_of_ble_eq_true rfl) (by omega) dX12_init_107 ?_
  refine zn_eq (ws' := ((E.2.1 73, (.inr (11, [.ref (E.2.1 74), .ref (E.2.1 75), .ref (E.2.1 76), .ref (E.2.1 77), .ref (E.2.1 78), .ref (E.2.1 79), .ref (E.2.1 80), .ref (E.2.1 81), .ref (E.2.1 82), .int 0, .int 0, .int 0, .int 0, .int 0, .int 0, .int 0, .int 0, .ref (E.2.1 83), .ref (E.2.1 84), .ref (E.2.1 85), .ref (E.2.1 86), .null, .null, .null, .null, .int 0, .int 0, .int 0, .null, .null, .int 0, .int 0, .int 0, .int 0, .null, .null, .int 0, .null, .int 0]) : va_E)) :: sl E 74 14)) (nx' := 88) (by rw [List.cons_append, sl_snoc E 74 13 (j := 87) rfl (wc_a0 rfl)]) rfl ?_
  refine zn_putF (TT := TX12) (N := 39) (ci := 11) (ty := (.array .int)) C tyX12 tyX12_ok nmX12 rfl in_X12 21 (by decide) t_866 rfl rfl rfl (by decide +kernel) rfl rfl (Nat.le_of_ble_eq_true rfl) rfl dX12_init_109 ?_
  refine zn_eq (ws' := ((E.2.1 73, (.inr (11, [.ref (E.2.1 74), .ref (E.2.1 75), .ref (E.2.1 76), .ref (E.2.1 77), .ref (E.2.1 78), .ref (E.2.1 79), .ref (E.2.1 80), .ref (E.2.1 81), .ref (E.2.1 82), .int 0, .int 0, .int 0, .int 0, .int 0, .int 0, .int 0, .int 0, .ref (E.2.1 83), .ref (E.2.1 84), .ref (E.2.1 85), .ref (E.2.1 86), .ref (E.2.1 87), .null, .null, .null, .int 0, .int 0, .int 0, .null, .null, .int 0, .int 0, .int 0, .int 0, .null, .null, .int 0, .null, .int 0]) : va_E)) :: sl E 74 14)) (nx' := 88) rfl rfl ?_
  refine zn_aload_n C dX12_init_112 0 rfl ?_
  refine zn_bipush (v := 32) C dX12_init_113 (by decide) ?_
  refine zn_newa (N := 32) C t_59 (by decide) (by decide) (by decide) (Nat.le_of_ble_eq_true rfl) (Nat.le_of_ble_eq_true rfl) (by omega) dX12_init_115 ?_
  refine zn_eq (ws' := ((E.2.1 73, (.inr (11, [.ref (E.2.1 74), .ref (E.2.1 75), .ref (E.2.1 76), .ref (E.2.1 77), .ref (E.2.1 78), .ref (E.2.1 79), .ref (E.2.1 80), .ref (E.2.1 81), .ref (E.2.1 82), .int 0, .int 0, .int 0, .int 0, .int 0, .int 0, .int 0, .int 0, .ref (E.2.1 83), .ref (E.2.1 84), .ref (E.2.1 85), .ref (E.2.1 86), .ref (E.2.1 87), .null, .null, .null, .int 0, .int 0, .int 0, .null, .null, .int 0, .int 0, .int 0, .int 0, .null, .null, .int 0, .null, .int 0]) : va_E)) :: sl E 74 15)) (nx' := 89) (by rw [List.cons_append, sl_snoc E 74 14 (j := 88) rfl (wc_a0 rfl)]) rfl ?_
  refine zn_putF (TT := TX12) (N := 39) (ci := 11) (ty := (.array .int)) C tyX12 tyX12_ok nmX12 rfl in_X12 22 (by decide) t_867 rfl rfl rfl (by decide +kernel) rfl rfl (Nat.le_of_ble_eq_true rfl) rfl dX12_init_117 ?_
  refine zn_eq (ws' := ((E.2.1 73, (.inr (11, [.ref (E.2.1 74), .ref (E.2.1 75), .ref (E.2.1 76), .ref (E.2.1 77), .ref (E.2.1 78), .ref (E.2.1 79), .ref (E.2.1 80), .ref (E.2.1 81), .ref (E.2.1 82), .int 0, .int 0, .int 0, .int 0, .int 0, .int 0, .int 0, .int 0, .ref (E.2.1 83), .ref (E.2.1 84), .ref (E.2.1 85), .ref (E.2.1 86), .ref (E.2.1 87), .ref (E.2.1 88), .null, .null, .int 0, .int 0, .int 0, .null, .null, .int 0, .int 0, .int 0, .int 0, .null, .null, .int 0, .null, .int 0]) : va_E)) :: sl E 74 15)) (nx' := 89) rfl rfl ?_
  refine zn_aload_n C dX12_init_120 0 rfl ?_
  refine zn_bipush (v := 32) C dX12_init_121 (by decide) ?_
  refine zn_newa (N := 32) C t_59 (by decide) (by decide) (by decide) (Nat.le_of_ble_eq_true rfl) (Nat.le_of_ble_eq_true rfl) (by omega) dX12_init_123 ?_
  refine zn_eq (ws' := ((E.2.1 73, (.inr (11, [.ref (E.2.1 74), .ref (E.2.1 75), .ref (E.2.1 76), .ref (E.2.1 77), .ref (E.2.1 78), .ref (E.2.1 79), .ref (E.2.1 80), .ref (E.2.1 81), .ref (E.2.1 82), .int 0, .int 0, .int 0, .int 0, .int 0, .int 0, .int 0, .int 0, .ref (E.2.1 83), .ref (E.2.1 84), .ref (E.2.1 85), .ref (E.2.1 86), .ref (E.2.1 87), .ref (E.2.1 88), .null, .null, .int 0, .int 0, .int 0, .null, .null, .int 0, .int 0, .int 0, .int 0, .null, .null, .int 0, .null, .int 0]) : va_E)) :: sl E 74 16)) (nx' := 90) (by rw [List.cons_append, sl_snoc E 74 15 (j := 89) rfl (wc_a0 rfl)]) rfl ?_
  refine zn_putF (TT := TX12) (N := 39) (ci := 11) (ty := (.array .int)) C tyX12 tyX12_ok nmX12 rfl in_X12 23 (by decide) t_868 rfl rfl rfl (by decide +kernel) rfl rfl (Nat.le_of_ble_eq_true rfl) rfl dX12_init_125 ?_
  refine zn_eq (ws' := ((E.2.1 73, (.inr (11, [.ref (E.2.1 74), .ref (E.2.1 75), .ref (E.2.1 76), .ref (E.2.1 77), .ref (E.2.1 78), .ref (E.2.1 79), .ref (E.2.1 80), .ref (E.2.1 81), .ref (E.2.1 82), .int 0, .int 0, .int 0, .int 0, .int 0, .int 0, .int 0, .int 0, .ref (E.2.1 83), .ref (E.2.1 84), .ref (E.2.1 85), .ref (E.2.1 86), .ref (E.2.1 87), .ref (E.2.1 88), .ref (E.2.1 89), .null, .int 0, .int 0, .int 0, .null, .null, .int 0, .int 0, .int 0, .int 0, .null, .null, .int 0, .null, .int 0]) : va_E)) :: sl E 74 16)) (nx' := 90) rfl rfl ?_
  refine zn_aload_n C dX12_init_128 0 rfl ?_
  refine zn_bipush (v := 32) C dX12_init_129 (by decide) ?_
  refine zn_newa (N := 32) C t_59 (by decide) (by decide) (by decide) (Nat.le_of_ble_eq_true rfl) (Nat.le_of_ble_eq_true rfl) (by omega) dX12_init_131 ?_
  refine zn_eq (ws' := ((E.2.1 73, (.inr (11, [.ref (E.2.1 74), .ref (E.2.1 75), .ref (E.2.1 76), .ref (E.2.1 77), .ref (E.2.1 78), .ref (E.2.1 79), .ref (E.2.1 80), .ref (E.2.1 81), .ref (E.2.1 82), .int 0, .int 0, .int 0, .int 0, .int 0, .int 0, .int 0, .int 0, .ref (E.2.1 83), .ref (E.2.1 84), .ref (E.2.1 85), .ref (E.2.1 86), .ref (E.2.1 87), .ref (E.2.1 88), .ref (E.2.1 89), .null, .int 0, .int 0, .int 0, .null, .null, .int 0, .int 0, .int 0, .int 0, .null, .null, .int 0, .null, .int 0]) : va_E)) :: sl E 74 17)) (nx' := 91) (by rw [List.cons_append, sl_snoc E 74 16 (j := 90) rfl (wc_a0 rfl)]) rfl ?_
  refine zn_putF (TT := TX12) (N := 39) (ci := 11) (ty := (.array .int)) C tyX12 tyX12_ok nmX12 rfl in_X12 24 (by decide) t_869 rfl rfl rfl (by decide +kernel) rfl rfl (Nat.le_of_ble_eq_true rfl) rfl dX12_init_133 ?_
  refine zn_eq (ws' := ((E.2.1 73, (.inr (11, [.ref (E.2.1 74), .ref (E.2.1 75), .ref (E.2.1 76), .ref (E.2.1 77), .ref (E.2.1 78), .ref (E.2.1 79), .ref (E.2.1 80), .ref (E.2.1 81), .ref (E.2.1 82), .int 0, .int 0, .int 0, .int 0, .int 0, .int 0, .int 0, .int 0, .ref (E.2.1 83), .ref (E.2.1 84), .ref (E.2.1 85), .ref (E.2.1 86), .ref (E.2.1 87), .ref (E.2.1 88), .ref (E.2.1 89), .ref (E.2.1 90), .int 0, .int 0, .int 0, .null, .null, .int 0, .int 0, .int 0, .int 0, .null, .null, .int 0, .null, .int 0]) : va_E)) :: sl E 74 17)) (nx' := 91) rfl rfl ?_
  refine zn_aload_n C dX12_init_136 0 rfl ?_
  refine zn_sipush (v := 300) C dX12_init_137 (by decide) ?_
  refine zn_newa (N := 300) C t_59 (by decide) (by decide) (by decide) (Nat.le_of_ble_eq_true rfl) (Nat.le_of_ble_eq_true rfl) (by omega) dX12_init_140 ?_
  refine zn_eq (ws' := ((E.2.1 73, (.inr (11, [.ref (E.2.1 74), .ref (E.2.1 75), .ref (E.2.1 76), .ref (E.2.1 77), .ref (E.2.1 78), .ref (E.2.1 79), .ref (E.2.1 80), .ref (E.2.1 81), .ref (E.2.1 82), .int 0, .int 0, .int 0, .int 0, .int 0, .int 0, .int 0, .int 0, .ref (E.2.1 83), .ref (E.2.1 84), .ref (E.2.1 85), .ref (E.2.1 86), .ref (E.2.1 87), .ref (E.2.1 88), .ref (E.2.1 89), .ref (E.2.1 90), .int 0, .int 0, .int 0, .null, .null, .int 0, .int 0, .int 0, .int 0, .null, .null, .int 0, .null, .int 0]) : va_E)) :: sl E 74 18)) (nx' := 92) (by rw [List.cons_append, sl_snoc E 74 17 (j := 91) rfl (wc_a0 rfl)]) rfl ?_
  refine zn_putF (TT := TX12) (N := 39) (ci := 11) (ty := (.array .int)) C tyX12 tyX12_ok nmX12 rfl in_X12 28 (by decide) t_873 rfl rfl rfl (by decide +kernel) rfl rfl (Nat.le_of_ble_eq_true rfl) rfl dX12_init_142 ?_
  refine zn_eq (ws' := ((E.2.1 73, (.inr (11, [.ref (E.2.1 74), .ref (E.2.1 75), .ref (E.2.1 76), .ref (E.2.1 77), .ref (E.2.1 78), .ref (E.2.1 79), .ref (E.2.1 80), .ref (E.2.1 81), .ref (E.2.1 82), .int 0, .int 0, .int 0, .int 0, .int 0, .int 0, .int 0, .int 0, .ref (E.2.1 83), .ref (E.2.1 84), .ref (E.2.1 85), .ref (E.2.1 86), .ref (E.2.1 87), .ref (E.2.1 88), .ref (E.2.1 89), .ref (E.2.1 90), .int 0, .int 0, .int 0, .ref (E.2.1 91), .null, .int 0, .int 0, .int 0, .int 0, .null, .null, .int 0, .null, .int 0]) : va_E)) :: sl E 74 18)) (nx' := 92) rfl rfl ?_
  refine zn_aload_n C dX12_init_145 0 rfl ?_
  refine zn_bipush (v := 120) C dX12_init_146 (by decide) ?_
  refine zn_newa (N := 120) C t_59 (by decide) (by decide) (by decide) (Nat.le_of_ble_eq_true rfl) (Nat.le_of_ble_eq_true rfl) (by omega) dX12_init_148 ?_
  refine zn_eq (ws' := ((E.2.1 73, (.inr (11, [.ref (E.2.1 74), .ref (E.2.1 75), .ref (E.2.1 76), .ref (E.2.1 77), .ref (E.2.1 78), .ref (E.2.1 79), .ref (E.2.1 80), .ref (E.2.1 81), .ref (E.2.1 82), .int 0, .int 0, .int 0, .int 0, .int 0, .int 0, .int 0, .int 0, .ref (E.2.1 83), .ref (E.2.1 84), .ref (E.2.1 85), .ref (E.2.1 86), .ref (E.2.1 87), .ref (E.2.1 88), .ref (E.2.1 89), .ref (E.2.1 90), .int 0, .int 0, .int 0, .ref (E.2.1 91), .null, .int 0, .int 0, .int 0, .int 0, .null, .null, .int 0, .null, .int 0]) : va_E)) :: sl E 74 19)) (nx' := 93) (by rw [List.cons_append, sl_snoc E 74 18 (j := 92) rfl (wc_a0 rfl)]) rfl ?_
  refine zn_putF (TT := TX12) (N := 39) (ci := 11) (ty := (.array .int)) C tyX12 tyX12_ok nmX12 rfl in_X12 29 (by decide) t_874 rfl rfl rfl (by decide +kernel) rfl rfl (Nat.le_of_ble_eq_true rfl) rfl dX12_init_150 ?_
  refine zn_eq (ws' := ((E.2.1 73, (.inr (11, [.ref (E.2.1 74), .ref (E.2.1 75), .ref (E.2.1 76), .ref (E.2.1 77), .ref (E.2.1 78), .ref (E.2.1 79), .ref (E.2.1 80), .ref (E.2.1 81), .ref (E.2.1 82), .int 0, .int 0, .int 0, .int 0, .int 0, .int 0, .int 0, .int 0, .ref (E.2.1 83), .ref (E.2.1 84), .ref (E.2.1 85), .ref (E.2.1 86), .ref (E.2.1 87), .ref (E.2.1 88), .ref (E.2.1 89), .ref (E.2.1 90), .int 0, .int 0, .int 0, .ref (E.2.1 91), .ref (E.2.1 92), .int 0, .int 0, .int 0, .int 0, .null, .null, .int 0, .null, .int 0]) : va_E)) :: sl E 74 19)) (nx' := 93) rfl rfl ?_
  refine zn_aload_n C dX12_init_153 0 rfl ?_
  refine zn_iconst (v := 5) C dX12_init_154 (by decide) ?_
  refine zn_newa (N := 5) C t_59 (by decide) (by decide) (by decide) (Nat.le_of_ble_eq_true rfl) (Nat.le_of_ble_eq_true rfl) (by omega) dX12_init_155 ?_
  refine zn_eq (ws' := ((E.2.1 73, (.inr (11, [.ref (E.2.1 74), .ref (E.2.1 75), .ref (E.2.1 76), .ref (E.2.1 77), .ref (E.2.1 78), .ref (E.2.1 79), .ref (E.2.1 80), .ref (E.2.1 81), .ref (E.2.1 82), .int 0, .int 0, .int 0, .int 0, .int 0, .int 0, .int 0, .int 0, .ref (E.2.1 83), .ref (E.2.1 84), .ref (E.2.1 85), .ref (E.2.1 86), .ref (E.2.1 87), .ref (E.2.1 88), .ref (E.2.1 89), .ref (E.2.1 90), .int 0, .int 0, .int 0, .ref (E.2.1 91), .ref (E.2.1 92), .int 0, .int 0, .int 0, .int 0, .null, .null, .int 0, .null, .int 0]) : va_E)) :: sl E 74 20)) (nx' := 94) (by rw [List.cons_append, sl_snoc E 74 19 (j := 93) rfl (wc_a0 rfl)]) rfl ?_
  refine zn_putF (TT := TX12) (N := 39) (ci := 11) (ty := (.array .int)) C tyX12 tyX12_ok nmX12 rfl in_X12 34 (by decide) t_879 rfl rfl rfl (by decide +kernel) rfl rfl (Nat.le_of_ble_eq_true rfl) rfl dX12_init_157 ?_
  refine zn_eq (ws' := ((E.2.1 73, (.inr (11, [.ref (E.2.1 74), .ref (E.2.1 75), .ref (E.2.1 76), .ref (E.2.1 77), .ref (E.2.1 78), .ref (E.2.1 79), .ref (E.2.1 80), .ref (E.2.1 81), .ref (E.2.1 82), .int 0, .int 0, .int 0, .int 0, .int 0, .int 0, .int 0, .int 0, .ref (E.2.1 83), .ref (E.2.1 84), .ref (E.2.1 85), .ref (E.2.1 86), .ref (E.2.1 87), .ref (E.2.1 88), .ref (E.2.1 89), .ref (E.2.1 90), .int 0, .int 0, .int 0, .ref (E.2.1 91), .ref (E.2.1 92), .int 0, .int 0, .int 0, .int 0, .ref (E.2.1 93), .null, .int 0, .null, .int 0]) : va_E)) :: sl E 74 20)) (nx' := 94) rfl rfl ?_
  refine zn_aload_n C dX12_init_160 0 rfl ?_
  refine zn_iconst (v := 5) C dX12_init_161 (by decide) ?_
  refine zn_newa (N := 5) C t_59 (by decide) (by decide) (by decide) (Nat.le_of_ble_eq_true rfl) (Nat.le_of_ble_eq_true rfl) (by omega) dX12_init_162 ?_
  refine zn_eq (ws' := ((E.2.1 73, (.inr (11, [.ref (E.2.1 74), .ref (E.2.1 75), .ref (E.2.1 76), .ref (E.2.1 77), .ref (E.2.1 78), .ref (E.2.1 79), .ref (E.2.1 80), .ref (E.2.1 81), .ref (E.2.1 82), .int 0, .int 0, .int 0, .int 0, .int 0, .int 0, .int 0, .int 0, .ref (E.2.1 83), .ref (E.2.1 84), .ref (E.2.1 85), .ref (E.2.1 86), .ref (E.2.1 87), .ref (E.2.1 88), .ref (E.2.1 89), .ref (E.2.1 90), .int 0, .int 0, .int 0, .ref (E.2.1 91), .ref (E.2.1 92), .int 0, .int 0, .int 0, .int 0, .ref (E.2.1 93), .null, .int 0, .null, .int 0]) : va_E)) :: sl E 74 21)) (nx' := 95) (by rw [List.cons_append, sl_snoc E 74 20 (j := 94) rfl (wc_a0 rfl)]) rfl ?_
  refine zn_putF (TT := TX12) (N := 39) (ci := 11) (ty := (.array .int)) C tyX12 tyX12_ok nmX12 rfl in_X12 35 (by decide) t_880 rfl rfl rfl (by decide +kernel) rfl rfl (Nat.le_of_ble_eq_true rfl) rfl dX12_init_164 ?_
  refine zn_eq (ws' := ((E.2.1 73, (.inr (11, [.ref (E.2.1 74), .ref (E.2.1 75), .ref (E.2.1 76), .ref (E.2.1 77), .ref (E.2.1 78), .ref (E.2.1 79), .ref (E.2.1 80), .ref (E.2.1 81), .ref (E.2.1 82), .int 0, .int 0, .int 0, .int 0, .int 0, .int 0, .int 0, .int 0, .ref (E.2.1 83), .ref (E.2.1 84), .ref (E.2.1 85), .ref (E.2.1 86), .ref (E.2.1 87), .ref (E.2.1 88), .ref (E.2.1 89), .ref (E.2.1 90), .int 0, .int 0, .int 0, .ref (E.2.1 91), .ref (E.2.1 92), .int 0, .int 0, .int 0, .int 0, .ref (E.2.1 93), .ref (E.2.1 94), .int 0, .null, .int 0]) : va_E)) :: sl E 74 21)) (nx' := 95) rfl rfl ?_
  refine zn_aload_n C dX12_init_167 0 rfl ?_
  refine zn_bipush (v := 8) C dX12_init_168 (by decide) ?_
  refine zn_newa (N := 8) C t_59 (by decide) (by decide) (by decide) (Nat.le_of_ble_eq_true rfl) (Nat.le_of_ble_eq_true rfl) (by omega) dX12_init_170 ?_
  refine zn_eq (ws' := ((E.2.1 73, (.inr (11, [.ref (E.2.1 74), .ref (E.2.1 75), .ref (E.2.1 76), .ref (E.2.1 77), .ref (E.2.1 78), .ref (E.2.1 79), .ref (E.2.1 80), .ref (E.2.1 81), .ref (E.2.1 82), .int 0, .int 0, .int 0, .int 0, .int 0, .int 0, .int 0, .int 0, .ref (E.2.1 83), .ref (E.2.1 84), .ref (E.2.1 85), .ref (E.2.1 86), .ref (E.2.1 87), .ref (E.2.1 88), .ref (E.2.1 89), .ref (E.2.1 90), .int 0, .int 0, .int 0, .ref (E.2.1 91), .ref (E.2.1 92), .int 0, .int 0, .int 0, .int 0, .ref (E.2.1 93), .ref (E.2.1 94), .int 0, .null, .int 0]) : va_E)) :: sl E 74 22)) (nx' := 96) (by rw [List.cons_append, sl_snoc E 74 21 (j := 95) rfl (wc_a0 rfl)]) rfl ?_
  refine zn_putF (TT := TX12) (N := 39) (ci := 11) (ty := (.array .int)) C tyX12 tyX12_ok nmX12 rfl in_X12 37 (by decide) t_882 rfl rfl rfl (by decide +kernel) rfl rfl (Nat.le_of_ble_eq_true rfl) rfl dX12_init_172 ?_
  refine zn_eq (ws' := ((E.2.1 73, (.inr (11, [.ref (E.2.1 74), .ref (E.2.1 75), .ref (E.2.1 76), .ref (E.2.1 77), .ref (E.2.1 78), .ref (E.2.1 79), .ref (E.2.1 80), .ref (E.2.1 81), .ref (E.2.1 82), .int 0, .int 0, .int 0, .int 0, .int 0, .int 0, .int 0, .int 0, .ref (E.2.1 83), .ref (E.2.1 84), .ref (E.2.1 85), .ref (E.2.1 86), .ref (E.2.1 87), .ref (E.2.1 88), .ref (E.2.1 89), .ref (E.2.1 90), .int 0, .int 0, .int 0, .ref (E.2.1 91), .ref (E.2.1 92), .int 0, .int 0, .int 0, .int 0, .ref (E.2.1 93), .ref (E.2.1 94), .int 0, .ref (E.2.1 95), .int 0]) : va_E)) :: sl E 74 22)) (nx' := 96) rfl rfl ?_
  refine zn_eq (ws' := sl E 73 23) (nx' := 96) (sl_cons E 73 22 rfl) rfl ?_
  exact zn_vret C dX12_init_175 rfl rfl rfl rfl
