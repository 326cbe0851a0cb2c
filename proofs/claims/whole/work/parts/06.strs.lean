section ZSTR
variable {E : Ev} {X : Xv} {Y : Yv} {P : Pv} {σ : Sg} {pc : Nat} {lv : List (Nat × Value)} {st : List Value}
def kiL : List Int32 := [112, 97, 109, 116, 104]
def kch (i : Int32) : Int32 := kiL.getD i.toNatClampNeg 0
theorem z_ldcS (C : Cx E X Y) (ho : Y.1.cls = "ToWhoNeeds$Reader") (d : decode Y.2.1 pc = .ok (.ldc 80, 2)) (k : Zz E X Y P σ (pc + 2) lv (.ref (E.2.2 4) :: st)) : Zz E X Y P σ pc lv st := fun H locs ls hP hS hl => va_ldcS C.1 C.2.1 (own := "ToWhoNeeds$Reader") (by rw [← ho]; exact C.2.2.2.2.1) C.2.2.2.2.2.2.2.2.2.2.2.2.1.1 d (k H locs ls hP hS hl)
theorem z_getSv (C : Cx E X Y) {i : Nat} (hw : Cond.fieldLink Y.1.cls i "java/lang/String" "value" "[B" ∈ WT) (d : decode Y.2.1 pc = .ok (.getfield i, 3)) (k : Zz E X Y P σ (pc + 3) lv (.ref (E.2.2 5) :: st)) : Zz E X Y P σ pc lv (.ref (E.2.2 4) :: st) := fun H locs ls hP hS hl => vk_getf C.1 C.2.1 (C.2.2.2.2.2.2.2.2.2.2.2.2.1.2.1 0 (by decide)).2.2.1 hS C.2.2.2.2.1 (C.2.2.2.2.2.1 _ hw) (fun _ h => h) d (k H locs ls hP hS hl)
theorem z_getSc (C : Cx E X Y) {i : Nat} (hw : Cond.fieldLink Y.1.cls i "java/lang/String" "coder" "B" ∈ WT) (d : decode Y.2.1 pc = .ok (.getfield i, 3)) (k : Zz E X Y P σ (pc + 3) lv (.int 0 :: st)) : Zz E X Y P σ pc lv (.ref (E.2.2 4) :: st) := fun H locs ls hP hS hl => vk_getf C.1 C.2.1 (C.2.2.2.2.2.2.2.2.2.2.2.2.1.2.1 0 (by decide)).2.1 hS C.2.2.2.2.1 (C.2.2.2.2.2.1 _ hw) (fun _ h => h) d (k H locs ls hP hS hl)
theorem z_alenS (C : Cx E X Y) (d : decode Y.2.1 pc = .ok (.arraylength, 1)) (k : Zz E X Y P σ (pc + 1) lv (.int 5 :: st)) : Zz E X Y P σ pc lv (.ref (E.2.2 5) :: st) := fun H locs ls hP hS hl => va_tlen C.1 C.2.1 (C.2.2.2.2.2.2.2.2.2.2.2.2.1.2.1 0 (by decide)).2.2.2 hS rfl d (k H locs ls hP hS hl)
theorem z_baldS (C : Cx E X Y) {i : Int32} (hin : vp_in i 5) (d : decode Y.2.1 pc = .ok (.baload, 1)) (k : Zz E X Y P σ (pc + 1) lv (.int (kch i) :: st)) : Zz E X Y P σ pc lv (.int i :: .ref (E.2.2 5) :: st) := fun H locs ls hP hS hl => va_tb C.1 C.2.1 (C.2.2.2.2.2.2.2.2.2.2.2.2.1.2.1 0 (by decide)).2.2.2 hS hin rfl d (k H locs ls hP hS hl)
theorem z_getsC (C : Cx E X Y) {i : Nat} (hw : Cond.fieldLink Y.1.cls i "java/lang/String" "COMPACT_STRINGS" "Z" ∈ WT) (d : decode Y.2.1 pc = .ok (.getstatic i, 3)) (k : Zz E X Y P σ (pc + 3) lv (.int 1 :: st)) : Zz E X Y P σ pc lv st := fun H locs ls hP hS hl => va_gets C.1 C.2.1 C.2.2.2.2.2.2.2.2.2.2.2.2.2.1 hS C.2.2.2.2.1 (C.2.2.2.2.2.1 _ hw) (fun _ h => h) d (k H locs ls hP hS hl)
theorem z_getsF (C : Cx E X Y) {i : Nat} (hw : Cond.fieldLink Y.1.cls i "jdk/internal/util/Preconditions" "SIOOBE_FORMATTER" "Ljava/util/function/BiFunction;" ∈ WT) (d : decode Y.2.1 pc = .ok (.getstatic i, 3)) (k : ∀ v : Value, v.category = 1 → lg_sl [v] = [.val v] → Zz E X Y P σ (pc + 3) lv (v :: st)) : Zz E X Y P σ pc lv st := by
  intro H locs ls hP hS hl
  rcases C.2.2.2.2.2.2.2.2.2.2.2.2.2.2 with h | ⟨t, h⟩
  · exact va_gets C.1 C.2.1 h hS C.2.2.2.2.1 (C.2.2.2.2.2.1 _ hw) (fun _ h => h) d (k .null rfl rfl H locs ls hP hS hl)
  · exact va_gets C.1 C.2.1 h hS C.2.2.2.2.1 (C.2.2.2.2.2.1 _ hw) (fun _ h => h) d (k (.ref t) rfl rfl H locs ls hP hS hl)
theorem z_i2c (C : Cx E X Y) {x v : Int32} (d : decode Y.2.1 pc = .ok (.i2c, 1)) (hv : (x.toUInt32 % 65536).toInt32 = v) (k : Zz E X Y P σ (pc + 1) lv (.int v :: st)) : Zz E X Y P σ pc lv (.int x :: st) := fun H locs ls hP hS hl => lv_i2c C.1 C.2.1 d hv (k H locs ls hP hS hl)
theorem z_callT (C : Cx E X Y) {Y2 : Yv} {P2 : Pv} {i n : Nat} {As stk : List Value} (hL : Lk Y Y2 n) (hw1 : Cond.methodLink Y.1.cls i Y2.1 ∈ WT) (hw2 : Cond.instanceMethod Y2.1 ∈ WT) (hw3 : Cond.selects "java/lang/String" Y2.1 Y2.1 ∈ WT) (hfr : Y2.2.2.2.2.1 + 1 ≤ Y.2.2.2.2.1) (hlo : 8 + (Y2.2.2.1 + 11) + Y2.2.2.2.2.2 ≤ Y.2.2.2.2.2) (d : decode Y.2.1 pc = .ok (.invokevirtual i, 3)) (hst : (st.map fun v => v.category).sum ≤ 8) (hn : As.length = n) (hs : stk = As.reverse ++ .ref (E.2.2 4) :: st) (hM : Ct X.2.1 E Y2 (.ref (E.2.2 4) :: As) σ P2) (k : Zz E X Y P P2.2 (pc + 3) lv (P2.1.toList ++ st)) : Zz E X Y P σ pc lv stk := by
  subst hs
  intro H locs ls hP hS hl
  have hA := C.2.2.2.2.2.2.2
  have hts := C.2.2.2.2.2.1
  refine z_go (va_runV (As := As) (rest := st) (n := n) (bytes := Y2.2.1) (maxL := Y2.2.2.1) (ret := Y2.2.2.2.1) (C := "java/lang/String") ⟨C.1, C.2.1, C.2.2.2.1, C.2.2.2.2.1, hts⟩ hM ⟨⟨rfl, rfl, hfr, hlo, pay_in hts (wt_good hL.1), List.mem_cons_self, hts _ hL.1, hts _ hL.2.1, hL.2.2.1, len_of hL.2.2.2, hts _ hw1⟩, hts _ hw2, hts _ hw3⟩ ⟨pre_blind, vk_recv (i := 0) hA.2.2.2.2.2.1.2 (by decide) hS, fun U hU hW => ⟨rfl, hA.mov hS hU hW, by rw [hU]; exact hP⟩⟩ rfl hn hl.1 rfl (by show 2 * 0 + _ ≤ 8; omega) d ⟨Nat.le_refl _, Nat.le_refl _⟩) hS (fun H1 locs1 hP1 hS1 => k H1 locs1 ls hP1 hS1 hl)
end ZSTR
abbrev YJ0_coder_7d493 : Yv := (yJ0_coder_7d493, cJ0_coder_7d493, 1, some .byte, 0, 0)
theorem lk_J0_coder_7d493 {Y : Yv} : Lk Y YJ0_coder_7d493 0 := ⟨t_343, t_15, ⟨by decide +kernel, by decide +kernel⟩, by decide +kernel⟩
abbrev YJ0_isLatin1_aae02 : Yv := (yJ0_isLatin1_aae02, cJ0_isLatin1_aae02, 1, some .boolean, 0, 0)
theorem lk_J0_isLatin1_aae02 {Y : Yv} : Lk Y YJ0_isLatin1_aae02 0 := ⟨t_353, t_15, ⟨by decide +kernel, by decide +kernel⟩, by decide +kernel⟩
abbrev YJ3_checkIndex_8e157 : Yv := (yJ3_checkIndex_8e157, cJ3_checkIndex_8e157, 3, some .int, 0, 0)
theorem lk_J3_checkIndex_8e157 {Y : Yv} : Lk Y YJ3_checkIndex_8e157 3 := ⟨t_364, t_17, ⟨by decide +kernel, by decide +kernel⟩, by decide +kernel⟩
abbrev YJ0_length_8abf5 : Yv := (yJ0_length_8abf5, cJ0_length_8abf5, 1, some .int, 1, 20)
theorem lk_J0_length_8abf5 {Y : Yv} : Lk Y YJ0_length_8abf5 0 := ⟨t_339, t_15, ⟨by decide +kernel, by decide +kernel⟩, by decide +kernel⟩
abbrev YJ0_checkIndex_df160 : Yv := (yJ0_checkIndex_df160, cJ0_checkIndex_df160, 2, none, 1, 22)
theorem lk_J0_checkIndex_df160 {Y : Yv} : Lk Y YJ0_checkIndex_df160 2 := ⟨t_359, t_15, ⟨by decide +kernel, by decide +kernel⟩, by decide +kernel⟩
abbrev YJ1_charAt_3b067 : Yv := (yJ1_charAt_3b067, cJ1_charAt_3b067, 2, some .char, 2, 43)
theorem lk_J1_charAt_3b067 {Y : Yv} : Lk Y YJ1_charAt_3b067 2 := ⟨t_356, t_16, ⟨by decide +kernel, by decide +kernel⟩, by decide +kernel⟩
abbrev YJ0_charAt_5068e : Yv := (yJ0_charAt_5068e, cJ0_charAt_5068e, 2, some .char, 3, 64)
theorem lk_J0_charAt_5068e {Y : Yv} : Lk Y YJ0_charAt_5068e 1 := ⟨t_349, t_15, ⟨by decide +kernel, by decide +kernel⟩, by decide +kernel⟩
set_option maxRecDepth 20000 in
theorem m_J0_coder_7d493 (l : Launch) (E : Ev) (σ : Sg) : Ct l E YJ0_coder_7d493 [.ref (E.2.2 4)] σ (some (.int 0), σ) := by
  refine ct_of (by decide +kernel) (Nat.le_of_ble_eq_true rfl) [(0, .ref (E.2.2 4))] rfl (fun X hX C => ?_)
  refine z_getsC C t_344 dJ0_coder_7d493_0 ?_
  refine z_if_eq (tgt := 13) C dJ0_coder_7d493_3 (by decide) (fun h => absurd h (by decide)) (fun _ => ?_)
  refine z_aload_n C dJ0_coder_7d493_6 0 rfl ?_
  refine z_getSc C t_1295 dJ0_coder_7d493_7 ?_
  refine z_goto (tgt := 14) C dJ0_coder_7d493_10 (by decide) ?_
  exact z_zret C dJ0_coder_7d493_14 rfl rfl rfl
set_option maxRecDepth 20000 in
theorem m_J0_isLatin1_aae02 (l : Launch) (E : Ev) (σ : Sg) : Ct l E YJ0_isLatin1_aae02 [.ref (E.2.2 4)] σ (some (.int 1), σ) := by
  refine ct_of (by decide +kernel) (Nat.le_of_ble_eq_true rfl) [(0, .ref (E.2.2 4))] rfl (fun X hX C => ?_)
  refine z_getsC C t_344 dJ0_isLatin1_aae02_0 ?_
  refine z_if_eq (tgt := 17) C dJ0_isLatin1_aae02_3 (by decide) (fun h => absurd h (by decide)) (fun _ => ?_)
  refine z_aload_n C dJ0_isLatin1_aae02_6 0 rfl ?_
  refine z_getSc C t_1295 dJ0_isLatin1_aae02_7 ?_
  refine z_if_ne (tgt := 17) C dJ0_isLatin1_aae02_10 (by decide) (fun h => absurd rfl h) (fun _ => ?_)
  refine z_iconst (v := 1) C dJ0_isLatin1_aae02_13 (by decide) ?_
  refine z_goto (tgt := 18) C dJ0_isLatin1_aae02_14 (by decide) ?_
  exact z_zret C dJ0_isLatin1_aae02_18 rfl rfl rfl
set_option maxRecDepth 20000 in
theorem m_J0_length_8abf5 (l : Launch) (E : Ev) (σ : Sg) : Ct l E YJ0_length_8abf5 [.ref (E.2.2 4)] σ (some (.int 5), σ) := by
  refine ct_of (by decide +kernel) (Nat.le_of_ble_eq_true rfl) [(0, .ref (E.2.2 4))] rfl (fun X hX C => ?_)
  refine z_aload_n C dJ0_length_8abf5_0 0 rfl ?_
  refine z_getSv C t_1294 dJ0_length_8abf5_1 ?_
  refine z_alenS C dJ0_length_8abf5_4 ?_
  refine z_aload_n C dJ0_length_8abf5_5 0 rfl ?_
  refine z_callT (Y2 := YJ0_coder_7d493) (As := []) C lk_J0_coder_7d493 t_340 t_341 t_342 (Nat.le_of_ble_eq_true rfl) (Nat.le_of_ble_eq_true rfl) dJ0_length_8abf5_6 (Nat.le_of_ble_eq_true rfl) rfl rfl (m_J0_coder_7d493 X.2.1 E σ) ?_
  change Zz E X YJ0_length_8abf5 (some (.int 5), σ) σ _ _ [.int 0, .int 5]
  refine z_ishr C dJ0_length_8abf5_9 ?_
  exact z_iret C dJ0_length_8abf5_10 rfl rfl
set_option maxRecDepth 20000 in
theorem m_J3_checkIndex_8e157 (l : Launch) (E : Ev) (σ : Sg) (x1 x2 : Int32) (v : Value) (hv : lg_sl [v] = [.val v]) (hc : v.category = 1) (h0 : ¬ x1 < 0) (h1 : x1 < x2) : Ct l E YJ3_checkIndex_8e157 [.int x1, .int x2, v] σ (some (.int x1), σ) := by
  have hlv : lv_args 0 [.int x1, .int x2, v] = [(0, .int x1), (1, .int x2), (2, v)] := by simp [lv_args, Value.category]
  have hle : (lg_sl [.int x1, .int x2, v]).length ≤ 3 := by
    have e : lg_sl [.int x1, .int x2, v] = [.val (.int x1), .val (.int x2)] ++ lg_sl [v] := rfl
    rw [e, hv]
    exact Nat.le_of_ble_eq_true rfl
  refine ct_of (by decide +kernel) hle [(0, .int x1), (1, .int x2), (2, v)] hlv (fun X hX C => ?_)
  refine z_iload_n C dJ3_checkIndex_8e157_0 0 rfl ?_
  refine z_if_lt (tgt := 9) C dJ3_checkIndex_8e157_1 (by decide) (fun h => absurd h h0) (fun _ => ?_)
  refine z_iload_n C dJ3_checkIndex_8e157_4 0 rfl ?_
  refine z_iload_n C dJ3_checkIndex_8e157_5 1 rfl ?_
  refine z_icmp_lt (tgt := 16) C dJ3_checkIndex_8e157_6 (by decide) (fun _ => ?_) (fun h => absurd h1 h)
  refine z_iload_n C dJ3_checkIndex_8e157_16 0 rfl ?_
  exact z_iret C dJ3_checkIndex_8e157_17 rfl rfl
set_option maxRecDepth 20000 in
theorem m_J0_checkIndex_df160 (l : Launch) (E : Ev) (σ : Sg) (x1 x2 : Int32) (h0 : ¬ x1 < 0) (h1 : x1 < x2) : Ct l E YJ0_checkIndex_df160 [.int x1, .int x2] σ (none, σ) := by
  refine ct_of (by decide +kernel) (Nat.le_of_ble_eq_true rfl) [(0, .int x1), (1, .int x2)] rfl (fun X hX C => ?_)
  refine z_iload_n C dJ0_checkIndex_df160_0 0 rfl ?_
  refine z_iload_n C dJ0_checkIndex_df160_1 1 rfl ?_
  refine z_getsF C t_360 dJ0_checkIndex_df160_2 (fun v hc hv => ?_)
  refine z_callS (Y2 := YJ3_checkIndex_8e157) (As := [.int x1, .int x2, v]) C lk_J3_checkIndex_8e157 t_362 t_363 (Nat.le_of_ble_eq_true rfl) (Nat.le_of_ble_eq_true rfl) dJ0_checkIndex_df160_5 (Nat.le_of_ble_eq_true rfl) rfl rfl (m_J3_checkIndex_8e157 X.2.1 E σ x1 x2 v hv hc h0 h1) ?_
  change Zz E X YJ0_checkIndex_df160 (none, σ) σ _ _ [.int x1]
  refine z_pop C dJ0_checkIndex_df160_8 rfl ?_
  exact z_vret C dJ0_checkIndex_df160_9 rfl rfl
theorem kch_ok {i : Int32} (h : vp_in i 5) : ((kch i &&& 255).toUInt32 % 65536).toInt32 = kch i ∧ narrow .char (.int (kch i)) = .int (kch i) ∧ ¬ i < 0 ∧ i < 5 := by
  have h1 := vp_nat h
  have h0 : ¬ i < 0 := fun q => h (Or.inl q)
  obtain ⟨j, hj, rfl⟩ := nI_of h0
  rw [nI_clamp hj] at h1
  unfold kch
  rw [nI_clamp hj]
  have hc : j = 0 ∨ j = 1 ∨ j = 2 ∨ j = 3 ∨ j = 4 := by omega
  rcases hc with rfl | rfl | rfl | rfl | rfl <;> exact ⟨by decide, by decide, by decide, by decide⟩
set_option maxRecDepth 20000 in
theorem m_J1_charAt_3b067 (l : Launch) (E : Ev) (σ : Sg) (x2 : Int32) (h : vp_in x2 5) : Ct l E YJ1_charAt_3b067 [.ref (E.2.2 5), .int x2] σ (some (.int (kch x2)), σ) := by
  obtain ⟨k1, k2, k3, k4⟩ := kch_ok h
  refine ct_of (by decide +kernel) (Nat.le_of_ble_eq_true rfl) [(0, .ref (E.2.2 5)), (1, .int x2)] rfl (fun X hX C => ?_)
  refine z_iload_n C dJ1_charAt_3b067_0 1 rfl ?_
  refine z_aload_n C dJ1_charAt_3b067_1 0 rfl ?_
  refine z_alenS C dJ1_charAt_3b067_2 ?_
  refine z_callS (Y2 := YJ0_checkIndex_df160) (As := [.int x2, .int 5]) C lk_J0_checkIndex_df160 t_357 t_358 (Nat.le_of_ble_eq_true rfl) (Nat.le_of_ble_eq_true rfl) dJ1_charAt_3b067_3 (Nat.le_of_ble_eq_true rfl) rfl rfl (m_J0_checkIndex_df160 X.2.1 E σ x2 5 k3 k4) ?_
  change Zz E X YJ1_charAt_3b067 (some (.int (kch x2)), σ) σ _ _ []
  refine z_aload_n C dJ1_charAt_3b067_6 0 rfl ?_
  refine z_iload_n C dJ1_charAt_3b067_7 1 rfl ?_
  refine z_baldS C h dJ1_charAt_3b067_8 ?_
  refine z_sipush (v := 255) C dJ1_charAt_3b067_9 (by decide) ?_
  refine z_iand C dJ1_charAt_3b067_12 ?_
  refine z_i2c (v := kch x2) C dJ1_charAt_3b067_13 k1 ?_
  exact z_zret C dJ1_charAt_3b067_14 rfl k2 rfl
set_option maxRecDepth 20000 in
theorem m_J0_charAt_5068e (l : Launch) (E : Ev) (σ : Sg) (x1 : Int32) (h : vp_in x1 5) : Ct l E YJ0_charAt_5068e [.ref (E.2.2 4), .int x1] σ (some (.int (kch x1)), σ) := by
  obtain ⟨k1, k2, k3, k4⟩ := kch_ok h
  refine ct_of (by decide +kernel) (Nat.le_of_ble_eq_true rfl) [(0, .ref (E.2.2 4)), (1, .int x1)] rfl (fun X hX C => ?_)
  refine z_aload_n C dJ0_charAt_5068e_0 0 rfl ?_
  refine z_callT (Y2 := YJ0_isLatin1_aae02) (As := []) C lk_J0_isLatin1_aae02 t_350 t_351 t_352 (Nat.le_of_ble_eq_true rfl) (Nat.le_of_ble_eq_true rfl) dJ0_charAt_5068e_1 (Nat.le_of_ble_eq_true rfl) rfl rfl (m_J0_isLatin1_aae02 X.2.1 E σ) ?_
  change Zz E X YJ0_charAt_5068e (some (.int (kch x1)), σ) σ _ _ [.int 1]
  refine z_if_eq (tgt := 16) C dJ0_charAt_5068e_4 (by decide) (fun h => absurd h (by decide)) (fun _ => ?_)
  refine z_aload_n C dJ0_charAt_5068e_7 0 rfl ?_
  refine z_getSv C t_1294 dJ0_charAt_5068e_8 ?_
  refine z_iload_n C dJ0_charAt_5068e_11 1 rfl ?_
  refine z_callS (Y2 := YJ1_charAt_3b067) (As := [.ref (E.2.2 5), .int x1]) C lk_J1_charAt_3b067 t_354 t_355 (Nat.le_of_ble_eq_true rfl) (Nat.le_of_ble_eq_true rfl) dJ0_charAt_5068e_12 (Nat.le_of_ble_eq_true rfl) rfl rfl (m_J1_charAt_3b067 X.2.1 E σ x1 h) ?_
  change Zz E X YJ0_charAt_5068e (some (.int (kch x1)), σ) σ _ _ [.int (kch x1)]
  exact z_zret C dJ0_charAt_5068e_15 rfl k2 rfl
