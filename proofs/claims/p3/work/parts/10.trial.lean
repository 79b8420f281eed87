set_option maxHeartbeats 4000000 in
set_option maxRecDepth 100000 in
theorem cTr_isFilled {P : List Nat} {K : Nat → Nat} {I0 : Nat → Nat → Int32} {O : Nat → Nat → Option Nat} {J0 : Nat → Nat → Int64} (hV : IV P K I0 O) {a0 : Nat} (h0 : a0 ∈ P ∧ K a0 = 7) {x1 : Int32} : Con yTr_isFilled bTr_isFilled 2 (some .boolean) ({ frames := 0, cells := 0, slots := 0, locals := 0 } : Room) P K I0 O J0 [.ref a0, .int x1] (SPo frP 2 (fun z _ => Int32.toInt z = 1 ∨ ((Int32.toInt x1 = 0 → Int32.toInt (I0 a0 3) < 8) ∧ (¬ Int32.toInt x1 = 0 → Int32.toInt (I0 a0 4) < 8))) P K I0 O J0) := by
  refine Con.ofG mfTr_isFilled (Nat.le_of_ble_eq_true rfl) ?_
  intro X C E
  have r1 := rg x1
  have hV0 : SV frP P K O I0 J0 I0 J0 := SV.rf hV
  refine g_iload_n C dTr_isFilled_0 rfl ?_
  have jn_15 : ∀  (s0_15 : Int32), ((Int32.toInt x1 = 0 → Int32.toInt s0_15 = Int32.toInt (I0 a0 3)) ∧ (¬ Int32.toInt x1 = 0 → Int32.toInt s0_15 = Int32.toInt (I0 a0 4))) → GG X 2 P K I0 O J0 0 0 15 [(0, .ref a0), (1, .int x1)] [.int s0_15] := by
    intro s0_15 jv0_15
    refine g_bipush (v := Int32.ofInt (8)) C dTr_isFilled_15 (by decide) ?_
    refine gt_icmp_lt 24 C dTr_isFilled_17 (by decide) rfl (ofI (by decide)) (fun c_17 => ?_) (fun c_17 => ?_)
    · skip
      refine g_iconst (v := Int32.ofInt (0)) C dTr_isFilled_24 (by decide) ?_
      exact s_zret C E dTr_isFilled_25 ⟨Nat.zero_le _, Nat.zero_le _⟩ hV0 (Or.inl (ofI (by decide))) (by have hci : Int32.toInt (Int32.ofInt (0)) = 0 := ofI (by decide); (try dsimp only); omega)
    · skip
      refine g_iconst (v := Int32.ofInt (1)) C dTr_isFilled_20 (by decide) ?_
      refine g_goto 25 C dTr_isFilled_21 (by decide) ?_
      exact s_zret C E dTr_isFilled_25 ⟨Nat.zero_le _, Nat.zero_le _⟩ hV0 (Or.inr (ofI (by decide))) (by have hci : Int32.toInt (Int32.ofInt (1)) = 1 := ofI (by decide); (try dsimp only); omega)
  refine gt_if_eq 11 C dTr_isFilled_1 (by decide) rfl (fun c_1 => ?_) (fun c_1 => ?_)
  · skip
    refine g_aload_n C dTr_isFilled_11 rfl ?_
    refine g_geti C dTr_isFilled_12 fl_Tr_23 h0 ?_
    exact g_sub (jn_15 (I0 a0 3)  (by omega) ) ⟨rfl, rfl, trivial⟩
  · skip
    refine g_aload_n C dTr_isFilled_4 rfl ?_
    refine g_geti C dTr_isFilled_5 fl_Tr_19 h0 ?_
    refine g_goto 15 C dTr_isFilled_8 (by decide) ?_
    exact g_sub (jn_15 (I0 a0 4)  (by omega) ) ⟨rfl, rfl, trivial⟩
set_option maxHeartbeats 4000000 in
set_option maxRecDepth 100000 in
theorem cTr_lacksRow {P : List Nat} {K : Nat → Nat} {I0 : Nat → Nat → Int32} {O : Nat → Nat → Option Nat} {J0 : Nat → Nat → Int64} (hV : IV P K I0 O) {a0 : Nat} (h0 : a0 ∈ P ∧ K a0 = 7) : Con yTr_lacksRow bTr_lacksRow 1 (some .boolean) ({ frames := 0, cells := 0, slots := 0, locals := 0 } : Room) P K I0 O J0 [.ref a0] (SPo frP 2 (tt) P K I0 O J0) := by
  refine Con.ofG mfTr_lacksRow (Nat.le_of_ble_eq_true rfl) ?_
  intro X C E
  have hV0 : SV frP P K O I0 J0 I0 J0 := SV.rf hV
  refine g_aload_n C dTr_lacksRow_0 rfl ?_
  refine g_geti C dTr_lacksRow_1 fl_Tr_23 h0 ?_
  have jn_14 :  GG X 1 P K I0 O J0 0 0 14 [(0, .ref a0)] [] := by
    refine g_iconst (v := Int32.ofInt (1)) C dTr_lacksRow_14 (by decide) ?_
    refine g_goto 19 C dTr_lacksRow_15 (by decide) ?_
    exact s_zret C E dTr_lacksRow_19 ⟨Nat.zero_le _, Nat.zero_le _⟩ hV0 (Or.inr (ofI (by decide))) trivial
  refine gt_if_eq 14 C dTr_lacksRow_4 (by decide) rfl (fun c_4 => ?_) (fun c_4 => ?_)
  · skip
    exact g_sub (jn_14    ) ⟨rfl, trivial⟩
  · skip
    refine g_aload_n C dTr_lacksRow_7 rfl ?_
    refine g_geti C dTr_lacksRow_8 fl_Tr_19 h0 ?_
    refine gt_if_ne 18 C dTr_lacksRow_11 (by decide) rfl (fun c_11 => ?_) (fun c_11 => ?_)
    · skip
      refine g_iconst (v := Int32.ofInt (0)) C dTr_lacksRow_18 (by decide) ?_
      exact s_zret C E dTr_lacksRow_19 ⟨Nat.zero_le _, Nat.zero_le _⟩ hV0 (Or.inl (ofI (by decide))) trivial
    · skip
      exact g_sub (jn_14    ) ⟨rfl, trivial⟩
set_option maxHeartbeats 4000000 in
set_option maxRecDepth 100000 in
theorem cTr_add {P : List Nat} {K : Nat → Nat} {I0 : Nat → Nat → Int32} {O : Nat → Nat → Option Nat} {J0 : Nat → Nat → Int64} (hV : IV P K I0 O) {a0 : Nat} (h0 : a0 ∈ P ∧ K a0 = 7) {x1 : Int32} {x2 : Int32} : Con yTr_add bTr_add 3 (some .int) ({ frames := 1, cells := 0, slots := 0, locals := 21 } : Room) P K I0 O J0 [.ref a0, .int x1, .int x2] (SPo frN 1 (tt) P K I0 O J0) := by
  refine Con.ofG mfTr_add (Nat.le_of_ble_eq_true rfl) ?_
  intro X C E
  have r1 := rg x1
  have r2 := rg x2
  have hV0 : SV frN P K O I0 J0 I0 J0 := SV.rf hV
  refine g_aload_n C dTr_add_0 rfl ?_
  refine g_iload_n C dTr_add_1 rfl ?_
  refine s_callV_zp (av := fun ad => [.int x1]) C dTr_add_2 mfTr_isFilled mvTr_isFilled ln_Tr_26 h0 (by decide) rfl (cTr_isFilled hV0.1 h0) rfl rfl (Nat.le_of_ble_eq_true rfl) ⟨Nat.le_of_ble_eq_true rfl, Nat.le_of_ble_eq_true rfl⟩ ⟨rfl, rfl⟩ ⟨Nat.zero_le _, Nat.zero_le _⟩ (fun z_2 b_2 p_2 => ?_)
  have rz_2 := rg z_2
  have u_2 := b_2
  unfold B01 at u_2
  try dsimp only at p_2
  refine gt_if_eq 11 C dTr_add_5 (by decide) rfl (fun c_5 => ?_) (fun c_5 => ?_)
  · skip
    refine g_iload_n C dTr_add_11 rfl ?_
    refine gt_if_eq 40 C dTr_add_12 (by decide) rfl (fun c_12 => ?_) (fun c_12 => ?_)
    · skip
      refine g_aload_n C dTr_add_40 rfl ?_
      refine gt_getr C dTr_add_41 fl_Tr_9 h0 hV0.1.1 rfl (fun b_41 q_41 hb_41 => ?_)
      refine g_aload_n C dTr_add_44 rfl ?_
      refine g_geti C dTr_add_45 fl_Tr_23 h0 ?_
      have o_45 := hV0.1.2 a0 h0.1 3
      rw [h0.2] at o_45
      have o_45 : 0 ≤ (I0 a0 3).toInt ∧ (I0 a0 3).toInt ≤ 8 := o_45
      refine g_iload_n C dTr_add_48 rfl ?_
      refine gt_iast C dTr_add_49 hb_41 (by decide) rfl rfl (n := 8) rfl (by omega) hV0 rfl trivial (fun Iw2 eIw2 hVw2 => ?_)
      have tkw2_a0_3 : (Iw2 a0 3).toInt = (I0 a0 3).toInt := by rw [eIw2, up2_ne _ _ (fun z => by have q := h0.2; rw [z.1, hb_41.2] at q; exact absurd q (by decide))]
      have tkw2_a0_4 : (Iw2 a0 4).toInt = (I0 a0 4).toInt := by rw [eIw2, up2_ne _ _ (fun z => by have q := h0.2; rw [z.1, hb_41.2] at q; exact absurd q (by decide))]
      refine g_aload_n C dTr_add_50 rfl ?_
      refine g_dup C dTr_add_51 rfl ?_
      refine g_geti C dTr_add_52 fl_Tr_23 h0 ?_
      have o_52 := hVw2.1.2 a0 h0.1 3
      rw [h0.2] at o_52
      have o_52 : 0 ≤ (Iw2 a0 3).toInt ∧ (Iw2 a0 3).toInt ≤ 8 := o_52
      refine g_iconst (v := Int32.ofInt (1)) C dTr_add_55 (by decide) ?_
      first | refine n_iadd C dTr_add_56 rfl (ofI (by decide)) (by omega) (fun z_56 e_56 => ?_) | refine a_iadd C dTr_add_56 (fun z_56 => ?_)
      refine gt_puti C dTr_add_57 fl_Tr_23 h0 hVw2 rfl (by show 0 ≤ Int32.toInt _ ∧ Int32.toInt _ ≤ 8; omega) rfl (Or.inl rfl) (fun Iw3 eIw3 hVw3 => ?_)
      have tkw3_a0_3 : (Iw3 a0 3).toInt = z_56.toInt := by rw [eIw3, up2_self]
      have tkw3_a0_4 : (Iw3 a0 4).toInt = (Iw2 a0 4).toInt := by rw [eIw3, up2_ne _ _ (fun z => absurd z.2 (by decide))]
      refine g_aload_n C dTr_add_60 rfl ?_
      refine g_geti C dTr_add_61 fl_Tr_23 h0 ?_
      have o_61 := hVw3.1.2 a0 h0.1 3
      rw [h0.2] at o_61
      have o_61 : 0 ≤ (Iw3 a0 3).toInt ∧ (Iw3 a0 3).toInt ≤ 8 := o_61
      exact s_iret C E dTr_add_64 ⟨Nat.zero_le _, Nat.zero_le _⟩ hVw3 trivial
    · skip
      refine g_aload_n C dTr_add_15 rfl ?_
      refine gt_getr C dTr_add_16 fl_Tr_13 h0 hV0.1.1 rfl (fun b_16 q_16 hb_16 => ?_)
      refine g_aload_n C dTr_add_19 rfl ?_
      refine g_geti C dTr_add_20 fl_Tr_19 h0 ?_
      have o_20 := hV0.1.2 a0 h0.1 4
      rw [h0.2] at o_20
      have o_20 : 0 ≤ (I0 a0 4).toInt ∧ (I0 a0 4).toInt ≤ 8 := o_20
      refine g_iload_n C dTr_add_23 rfl ?_
      refine gt_iast C dTr_add_24 hb_16 (by decide) rfl rfl (n := 8) rfl (by omega) hV0 rfl trivial (fun Iw4 eIw4 hVw4 => ?_)
      have tkw4_a0_3 : (Iw4 a0 3).toInt = (I0 a0 3).toInt := by rw [eIw4, up2_ne _ _ (fun z => by have q := h0.2; rw [z.1, hb_16.2] at q; exact absurd q (by decide))]
      have tkw4_a0_4 : (Iw4 a0 4).toInt = (I0 a0 4).toInt := by rw [eIw4, up2_ne _ _ (fun z => by have q := h0.2; rw [z.1, hb_16.2] at q; exact absurd q (by decide))]
      refine g_aload_n C dTr_add_25 rfl ?_
      refine g_dup C dTr_add_26 rfl ?_
      refine g_geti C dTr_add_27 fl_Tr_19 h0 ?_
      have o_27 := hVw4.1.2 a0 h0.1 4
      rw [h0.2] at o_27
      have o_27 : 0 ≤ (Iw4 a0 4).toInt ∧ (Iw4 a0 4).toInt ≤ 8 := o_27
      refine g_iconst (v := Int32.ofInt (1)) C dTr_add_30 (by decide) ?_
      first | refine n_iadd C dTr_add_31 rfl (ofI (by decide)) (by omega) (fun z_31 e_31 => ?_) | refine a_iadd C dTr_add_31 (fun z_31 => ?_)
      refine gt_puti C dTr_add_32 fl_Tr_19 h0 hVw4 rfl (by show 0 ≤ Int32.toInt _ ∧ Int32.toInt _ ≤ 8; omega) rfl (Or.inl rfl) (fun Iw5 eIw5 hVw5 => ?_)
      have tkw5_a0_3 : (Iw5 a0 3).toInt = (Iw4 a0 3).toInt := by rw [eIw5, up2_ne _ _ (fun z => absurd z.2 (by decide))]
      have tkw5_a0_4 : (Iw5 a0 4).toInt = z_31.toInt := by rw [eIw5, up2_self]
      refine g_aload_n C dTr_add_35 rfl ?_
      refine g_geti C dTr_add_36 fl_Tr_19 h0 ?_
      have o_36 := hVw5.1.2 a0 h0.1 4
      rw [h0.2] at o_36
      have o_36 : 0 ≤ (Iw5 a0 4).toInt ∧ (Iw5 a0 4).toInt ≤ 8 := o_36
      exact s_iret C E dTr_add_39 ⟨Nat.zero_le _, Nat.zero_le _⟩ hVw5 trivial
  · skip
    refine g_bipush (v := Int32.ofInt (8)) C dTr_add_8 (by decide) ?_
    exact s_iret C E dTr_add_10 ⟨Nat.zero_le _, Nat.zero_le _⟩ hV0 trivial
set_option maxHeartbeats 4000000 in
set_option maxRecDepth 100000 in
theorem cTr_drop {P : List Nat} {K : Nat → Nat} {I0 : Nat → Nat → Int32} {O : Nat → Nat → Option Nat} {J0 : Nat → Nat → Int64} (hV : IV P K I0 O) {a0 : Nat} (h0 : a0 ∈ P ∧ K a0 = 7) : Con yTr_drop bTr_drop 2 (some .int) ({ frames := 0, cells := 0, slots := 0, locals := 0 } : Room) P K I0 O J0 [.ref a0] (SPo frN 1 (tt) P K I0 O J0) := by
  refine Con.ofG mfTr_drop (Nat.le_of_ble_eq_true rfl) ?_
  intro X C E
  have hV0 : SV frN P K O I0 J0 I0 J0 := SV.rf hV
  refine g_aload_n C dTr_drop_0 rfl ?_
  refine g_geti C dTr_drop_1 fl_Tr_23 h0 ?_
  refine g_aload_n C dTr_drop_4 rfl ?_
  refine g_geti C dTr_drop_5 fl_Tr_19 h0 ?_
  first | refine n_iadd C dTr_drop_8 rfl rfl (by omega) (fun z_8 e_8 => ?_) | refine a_iadd C dTr_drop_8 (fun z_8 => ?_)
  refine g_istore_n (i := 1) C dTr_drop_9 rfl (by decide) ?_
  refine g_aload_n C dTr_drop_10 rfl ?_
  refine g_iconst (v := Int32.ofInt (0)) C dTr_drop_11 (by decide) ?_
  refine gt_puti C dTr_drop_12 fl_Tr_23 h0 hV0 rfl (by show 0 ≤ Int32.toInt _ ∧ Int32.toInt _ ≤ 8; rw [ofI (by decide)]; omega) rfl (Or.inl rfl) (fun Iw1 eIw1 hVw1 => ?_)
  refine g_aload_n C dTr_drop_15 rfl ?_
  refine g_iconst (v := Int32.ofInt (0)) C dTr_drop_16 (by decide) ?_
  refine gt_puti C dTr_drop_17 fl_Tr_19 h0 hVw1 rfl (by show 0 ≤ Int32.toInt _ ∧ Int32.toInt _ ≤ 8; rw [ofI (by decide)]; omega) rfl (Or.inl rfl) (fun Iw2 eIw2 hVw2 => ?_)
  refine g_iload_n C dTr_drop_20 rfl ?_
  exact s_iret C E dTr_drop_21 ⟨Nat.zero_le _, Nat.zero_le _⟩ hVw2 trivial
set_option maxHeartbeats 4000000 in
set_option maxRecDepth 100000 in
theorem cTr_countFrom (n : Nat) : ∀ {P : List Nat} {K : Nat → Nat} {I0 : Nat → Nat → Int32} {O : Nat → Nat → Option Nat} {J0 : Nat → Nat → Int64} (hV : IV P K I0 O) {a0 : Nat} (h0 : a0 ∈ P ∧ K a0 = 27) {x1 : Int32} {x2 : Int32} {x3 : Int32} {x4 : Int32} (pr0 : 0 ≤ Int32.toInt x1 ∧ Int32.toInt x1 ≤ 16 ∧ 17 - Int32.toInt x1 ≤ (n : Int)), Con yTr_countFrom bTr_countFrom 5 (some .int) ({ frames := 0 + n, cells := 0, slots := 0, locals := 0 + 24 * n } : Room) P K I0 O J0 [.ref a0, .int x1, .int x2, .int x3, .int x4] (SPo frP 1 (tt) P K I0 O J0) := by
  induction n with
  | zero =>
    intro P K I0 O J0 hV a0 h0 x1 x2 x3 x4 pr0
    exfalso; omega
  | succ n ih =>
    intro P K I0 O J0 hV a0 h0 x1 x2 x3 x4 pr0
    refine Con.ofG mfTr_countFrom (Nat.le_of_ble_eq_true rfl) ?_
    intro X C E
    have r1 := rg x1
    have r2 := rg x2
    have r3 := rg x3
    have r4 := rg x4
    have hV0 : SV frP P K O I0 J0 I0 J0 := SV.rf hV
    refine g_iload_n C dTr_countFrom_0 rfl ?_
    refine gt_if_gt 15 C dTr_countFrom_1 (by decide) rfl (fun c_1 => ?_) (fun c_1 => ?_)
    · skip
      refine g_iload_n C dTr_countFrom_15 rfl ?_
      refine gt_if_lt 37 C dTr_countFrom_16 (by decide) rfl (fun c_16 => ?_) (fun c_16 => ?_)
      · skip
        refine g_iconst (v := Int32.ofInt (0)) C dTr_countFrom_37 (by decide) ?_
        exact s_iret C E dTr_countFrom_38 ⟨Nat.zero_le _, Nat.zero_le _⟩ hV0 trivial
      · skip
        refine g_iload_n C dTr_countFrom_19 rfl ?_
        refine g_iload_n C dTr_countFrom_20 rfl ?_
        refine gt_icmp_ge 37 C dTr_countFrom_21 (by decide) rfl rfl (fun c_21 => ?_) (fun c_21 => ?_)
        · skip
          refine g_iconst (v := Int32.ofInt (0)) C dTr_countFrom_37 (by decide) ?_
          exact s_iret C E dTr_countFrom_38 ⟨Nat.zero_le _, Nat.zero_le _⟩ hV0 trivial
        · skip
          refine g_iload_n C dTr_countFrom_24 rfl ?_
          refine g_aload_n C dTr_countFrom_25 rfl ?_
          refine gt_alen C dTr_countFrom_26 h0 (by decide) (by decide) (by decide) (n := 16) rfl (fun z_26 e_26 => ?_)
          refine gt_icmp_ge 37 C dTr_countFrom_27 (by decide) rfl rfl (fun c_27 => ?_) (fun c_27 => ?_)
          · skip
            refine g_iconst (v := Int32.ofInt (0)) C dTr_countFrom_37 (by decide) ?_
            exact s_iret C E dTr_countFrom_38 ⟨Nat.zero_le _, Nat.zero_le _⟩ hV0 trivial
          · skip
            refine g_iload_n C dTr_countFrom_30 rfl ?_
            refine g_iload_n C dTr_countFrom_31 rfl ?_
            refine g_iload_n C dTr_countFrom_32 rfl ?_
            first | refine n_isub C dTr_countFrom_33 rfl rfl (by omega) (fun z_33 e_33 => ?_) | refine a_isub C dTr_countFrom_33 (fun z_33 => ?_)
            refine gt_icmp_le 39 C dTr_countFrom_34 (by decide) rfl rfl (fun c_34 => ?_) (fun c_34 => ?_)
            · skip
              refine g_aload_n C dTr_countFrom_39 rfl ?_
              refine g_iload_n C dTr_countFrom_40 rfl ?_
              refine g_iconst (v := Int32.ofInt (1)) C dTr_countFrom_41 (by decide) ?_
              first | refine n_iadd C dTr_countFrom_42 rfl (ofI (by decide)) (by omega) (fun z_42 e_42 => ?_) | refine a_iadd C dTr_countFrom_42 (fun z_42 => ?_)
              refine g_iload_n C dTr_countFrom_43 rfl ?_
              refine g_iload_n C dTr_countFrom_44 rfl ?_
              refine g_iconst (v := Int32.ofInt (1)) C dTr_countFrom_45 (by decide) ?_
              first | refine n_isub C dTr_countFrom_46 rfl (ofI (by decide)) (by omega) (fun z_46 e_46 => ?_) | refine a_isub C dTr_countFrom_46 (fun z_46 => ?_)
              refine g_iload C dTr_countFrom_47 rfl ?_
              refine g_aload_n C dTr_countFrom_49 rfl ?_
              refine g_iload_n C dTr_countFrom_50 rfl ?_
              refine gt_iald C dTr_countFrom_51 h0 (by decide) rfl rfl (n := 16) rfl (by omega) ?_
              first | refine n_isub C dTr_countFrom_52 rfl rfl (by omega) (fun z_52 e_52 => ?_) | refine a_isub C dTr_countFrom_52 (fun z_52 => ?_)
              refine s_callS_ip (av := fun ad => [.ref a0, .int z_42, .int x2, .int z_46, .int z_52]) C dTr_countFrom_53 mfTr_countFrom msTr_countFrom ln_Tr_30 (ih hV0.1 h0 (by omega)) rfl rfl (Nat.le_of_ble_eq_true rfl) ⟨by dsimp only; omega, by dsimp only; omega⟩ ⟨rfl, rfl⟩ ⟨Nat.zero_le _, Nat.zero_le _⟩ (fun z_53 p_53 => ?_)
              have rz_53 := rg z_53
              refine g_aload_n C dTr_countFrom_56 rfl ?_
              refine g_iload_n C dTr_countFrom_57 rfl ?_
              refine g_iconst (v := Int32.ofInt (1)) C dTr_countFrom_58 (by decide) ?_
              first | refine n_iadd C dTr_countFrom_59 rfl (ofI (by decide)) (by omega) (fun z_59 e_59 => ?_) | refine a_iadd C dTr_countFrom_59 (fun z_59 => ?_)
              refine g_iload_n C dTr_countFrom_60 rfl ?_
              refine g_iload_n C dTr_countFrom_61 rfl ?_
              refine g_iload C dTr_countFrom_62 rfl ?_
              refine s_callS_ip (av := fun ad => [.ref a0, .int z_59, .int x2, .int x3, .int x4]) C dTr_countFrom_64 mfTr_countFrom msTr_countFrom ln_Tr_30 (ih hV0.1 h0 (by omega)) rfl rfl (Nat.le_of_ble_eq_true rfl) ⟨by dsimp only; omega, by dsimp only; omega⟩ ⟨rfl, rfl⟩ ⟨Nat.zero_le _, Nat.zero_le _⟩ (fun z_64 p_64 => ?_)
              have rz_64 := rg z_64
              first | refine n_iadd C dTr_countFrom_67 rfl rfl (by omega) (fun z_67 e_67 => ?_) | refine a_iadd C dTr_countFrom_67 (fun z_67 => ?_)
              exact s_iret C E dTr_countFrom_68 ⟨Nat.zero_le _, Nat.zero_le _⟩ hV0 trivial
            · skip
              refine g_iconst (v := Int32.ofInt (0)) C dTr_countFrom_37 (by decide) ?_
              exact s_iret C E dTr_countFrom_38 ⟨Nat.zero_le _, Nat.zero_le _⟩ hV0 trivial
    · skip
      refine g_iload C dTr_countFrom_4 rfl ?_
      refine gt_if_gt 13 C dTr_countFrom_6 (by decide) rfl (fun c_6 => ?_) (fun c_6 => ?_)
      · skip
        refine g_iconst (v := Int32.ofInt (0)) C dTr_countFrom_13 (by decide) ?_
        exact s_iret C E dTr_countFrom_14 ⟨Nat.zero_le _, Nat.zero_le _⟩ hV0 trivial
      · skip
        refine g_iconst (v := Int32.ofInt (1)) C dTr_countFrom_9 (by decide) ?_
        refine g_goto 14 C dTr_countFrom_10 (by decide) ?_
        exact s_iret C E dTr_countFrom_14 ⟨Nat.zero_le _, Nat.zero_le _⟩ hV0 trivial
set_option maxHeartbeats 4000000 in
set_option maxRecDepth 100000 in
theorem cTr_countNoLess {P : List Nat} {K : Nat → Nat} {I0 : Nat → Nat → Int32} {O : Nat → Nat → Option Nat} {J0 : Nat → Nat → Int64} (hV : IV P K I0 O) {a0 : Nat} (h0 : a0 ∈ P ∧ K a0 = 7) : Con yTr_countNoLess bTr_countNoLess 3 (some .int) ({ frames := 18, cells := 0, slots := 0, locals := 432 } : Room) P K I0 O J0 [.ref a0] (SPo frN 1 (tt) P K I0 O J0) := by
  refine Con.ofG mfTr_countNoLess (Nat.le_of_ble_eq_true rfl) ?_
  intro X C E
  have hV0 : SV frN P K O I0 J0 I0 J0 := SV.rf hV
  refine g_iconst (v := Int32.ofInt (0)) C dTr_countNoLess_0 (by decide) ?_
  refine g_istore_n (i := 1) C dTr_countNoLess_1 rfl (by decide) ?_
  refine g_iconst (v := Int32.ofInt (0)) C dTr_countNoLess_2 (by decide) ?_
  refine g_istore_n (i := 2) C dTr_countNoLess_3 rfl (by decide) ?_
  have lp_4 : ∀ (nn_4 : Nat) (x1_4 : Int32) (x2_4 : Int32) (Iw1 : Nat → Nat → Int32) (Jw1 : Nat → Nat → Int64), Int.toNat (8 - x2_4.toInt) = nn_4 → (0 ≤ Int32.toInt x2_4 ∧ Int32.toInt x2_4 ≤ 8) → SV frN P K O I0 J0 Iw1 Jw1 → GG X 3 P K Iw1 O Jw1 0 0 4 [(0, .ref a0), (1, .int x1_4), (2, .int x2_4)] [] := by
    intro nn_4
    induction nn_4 using Nat.strongRecOn with
    | ind nn_4 ih_4 =>
    intro x1_4 x2_4 Iw1 Jw1 hn_4 iv0_4 hVw1
    have rg1_4 := rg x1_4
    have rg2_4 := rg x2_4
    refine g_iload_n C dTr_countNoLess_4 rfl ?_
    refine g_aload_n C dTr_countNoLess_5 rfl ?_
    refine g_geti C dTr_countNoLess_6 fl_Tr_19 h0 ?_
    have o_6 := hVw1.1.2 a0 h0.1 4
    rw [h0.2] at o_6
    have o_6 : 0 ≤ (Iw1 a0 4).toInt ∧ (Iw1 a0 4).toInt ≤ 8 := o_6
    have jn_45 : ∀ (y1_45 : Int32) (y2_45 : Int32)  (Iw2 : Nat → Nat → Int32) (Jw2 : Nat → Nat → Int64),  SV frN P K O I0 J0 Iw2 Jw2 → GG X 3 P K Iw2 O Jw2 0 0 45 [(0, .ref a0), (1, .int y1_45), (2, .int y2_45)] [] := by
      intro y1_45 y2_45 Iw2 Jw2 hVw2
      refine g_iconst (v := Int32.ofInt (0)) C dTr_countNoLess_45 (by decide) ?_
      refine g_istore_n (i := 2) C dTr_countNoLess_46 rfl (by decide) ?_
      have lp_47 : ∀ (nn_47 : Nat) (x2_47 : Int32) (Iw3 : Nat → Nat → Int32) (Jw3 : Nat → Nat → Int64), Int.toNat (8 - x2_47.toInt) = nn_47 → (0 ≤ Int32.toInt x2_47 ∧ Int32.toInt x2_47 ≤ 8) → SV frN P K O I0 J0 Iw3 Jw3 → GG X 3 P K Iw3 O Jw3 0 0 47 [(0, .ref a0), (1, .int y1_45), (2, .int x2_47)] [] := by
        intro nn_47
        induction nn_47 using Nat.strongRecOn with
        | ind nn_47 ih_47 =>
        intro x2_47 Iw3 Jw3 hn_47 iv0_47 hVw3
        have rg2_47 := rg x2_47
        refine g_iload_n C dTr_countNoLess_47 rfl ?_
        refine g_aload_n C dTr_countNoLess_48 rfl ?_
        refine g_geti C dTr_countNoLess_49 fl_Tr_23 h0 ?_
        have o_49 := hVw3.1.2 a0 h0.1 3
        rw [h0.2] at o_49
        have o_49 : 0 ≤ (Iw3 a0 3).toInt ∧ (Iw3 a0 3).toInt ≤ 8 := o_49
        have jn_98 : ∀ (y2_98 : Int32)  (Iw4 : Nat → Nat → Int32) (Jw4 : Nat → Nat → Int64),  SV frN P K O I0 J0 Iw4 Jw4 → GG X 3 P K Iw4 O Jw4 0 0 98 [(0, .ref a0), (1, .int y1_45), (2, .int y2_98)] [] := by
          intro y2_98 Iw4 Jw4 hVw4
          refine g_aload_n C dTr_countNoLess_98 rfl ?_
          refine gt_getr C dTr_countNoLess_99 fl_Tr_16 h0 hVw4.1.1 rfl (fun b_99 q_99 hb_99 => ?_)
          refine g_iconst (v := Int32.ofInt (0)) C dTr_countNoLess_102 (by decide) ?_
          refine g_aload_n C dTr_countNoLess_103 rfl ?_
          refine g_geti C dTr_countNoLess_104 fl_Tr_23 h0 ?_
          have o_104 := hVw4.1.2 a0 h0.1 3
          rw [h0.2] at o_104
          have o_104 : 0 ≤ (Iw4 a0 3).toInt ∧ (Iw4 a0 3).toInt ≤ 8 := o_104
          refine g_aload_n C dTr_countNoLess_107 rfl ?_
          refine g_geti C dTr_countNoLess_108 fl_Tr_19 h0 ?_
          have o_108 := hVw4.1.2 a0 h0.1 4
          rw [h0.2] at o_108
          have o_108 : 0 ≤ (Iw4 a0 4).toInt ∧ (Iw4 a0 4).toInt ≤ 8 := o_108
          first | refine n_iadd C dTr_countNoLess_111 rfl rfl (by omega) (fun z_111 e_111 => ?_) | refine a_iadd C dTr_countNoLess_111 (fun z_111 => ?_)
          refine g_aload_n C dTr_countNoLess_112 rfl ?_
          refine g_geti C dTr_countNoLess_113 fl_Tr_19 h0 ?_
          have o_113 := hVw4.1.2 a0 h0.1 4
          rw [h0.2] at o_113
          have o_113 : 0 ≤ (Iw4 a0 4).toInt ∧ (Iw4 a0 4).toInt ≤ 8 := o_113
          refine g_iload_n C dTr_countNoLess_116 rfl ?_
          refine s_callS_ip (av := fun ad => [.ref b_99, .int (Int32.ofInt (0)), .int z_111, .int (Iw4 a0 4), .int y1_45]) C dTr_countNoLess_117 mfTr_countFrom msTr_countFrom ln_Tr_30 (cTr_countFrom 17 hVw4.1 hb_99 (by have hk1 : Int32.toInt (Int32.ofInt (0)) = 0 := ofI (by decide); omega)) rfl rfl (Nat.le_of_ble_eq_true rfl) ⟨Nat.le_of_ble_eq_true rfl, Nat.le_of_ble_eq_true rfl⟩ ⟨rfl, rfl⟩ ⟨Nat.zero_le _, Nat.zero_le _⟩ (fun z_117 p_117 => ?_)
          have rz_117 := rg z_117
          exact s_iret C E dTr_countNoLess_120 ⟨Nat.zero_le _, Nat.zero_le _⟩ hVw4 trivial
        refine gt_icmp_ge 98 C dTr_countNoLess_52 (by decide) rfl rfl (fun c_52 => ?_) (fun c_52 => ?_)
        · skip
          exact g_sub (jn_98 x2_47 Iw3 Jw3  hVw3) ⟨rfl, rfl, rfl, trivial⟩
        · skip
          refine g_iload_n C dTr_countNoLess_55 rfl ?_
          refine g_bipush (v := Int32.ofInt (8)) C dTr_countNoLess_56 (by decide) ?_
          refine gt_icmp_ge 98 C dTr_countNoLess_58 (by decide) rfl (ofI (by decide)) (fun c_58 => ?_) (fun c_58 => ?_)
          · skip
            exact g_sub (jn_98 x2_47 Iw3 Jw3  hVw3) ⟨rfl, rfl, rfl, trivial⟩
          · skip
            refine g_aload_n C dTr_countNoLess_61 rfl ?_
            refine g_geti C dTr_countNoLess_62 fl_Tr_19 h0 ?_
            have o_62 := hVw3.1.2 a0 h0.1 4
            rw [h0.2] at o_62
            have o_62 : 0 ≤ (Iw3 a0 4).toInt ∧ (Iw3 a0 4).toInt ≤ 8 := o_62
            refine g_iload_n C dTr_countNoLess_65 rfl ?_
            first | refine n_iadd C dTr_countNoLess_66 rfl rfl (by omega) (fun z_66 e_66 => ?_) | refine a_iadd C dTr_countNoLess_66 (fun z_66 => ?_)
            refine g_aload_n C dTr_countNoLess_67 rfl ?_
            refine gt_getr C dTr_countNoLess_68 fl_Tr_16 h0 hVw3.1.1 rfl (fun b_68 q_68 hb_68 => ?_)
            refine gt_alen C dTr_countNoLess_71 hb_68 (by decide) (by decide) (by decide) (n := 16) rfl (fun z_71 e_71 => ?_)
            refine gt_icmp_ge 98 C dTr_countNoLess_72 (by decide) rfl rfl (fun c_72 => ?_) (fun c_72 => ?_)
            · skip
              exact g_sub (jn_98 x2_47 Iw3 Jw3  hVw3) ⟨rfl, rfl, rfl, trivial⟩
            · skip
              refine g_aload_n C dTr_countNoLess_75 rfl ?_
              refine gt_getS C dTr_countNoLess_76 fl_Tr_16 h0 q_68 ?_
              refine g_aload_n C dTr_countNoLess_79 rfl ?_
              refine g_geti C dTr_countNoLess_80 fl_Tr_19 h0 ?_
              have o_80 := hVw3.1.2 a0 h0.1 4
              rw [h0.2] at o_80
              have o_80 : 0 ≤ (Iw3 a0 4).toInt ∧ (Iw3 a0 4).toInt ≤ 8 := o_80
              refine g_iload_n C dTr_countNoLess_83 rfl ?_
              first | refine n_iadd C dTr_countNoLess_84 rfl rfl (by omega) (fun z_84 e_84 => ?_) | refine a_iadd C dTr_countNoLess_84 (fun z_84 => ?_)
              refine g_aload_n C dTr_countNoLess_85 rfl ?_
              refine gt_getr C dTr_countNoLess_86 fl_Tr_9 h0 hVw3.1.1 rfl (fun b_86 q_86 hb_86 => ?_)
              refine g_iload_n C dTr_countNoLess_89 rfl ?_
              refine gt_iald C dTr_countNoLess_90 hb_86 (by decide) rfl rfl (n := 8) rfl (by omega) ?_
              refine gt_iast C dTr_countNoLess_91 hb_68 (by decide) rfl rfl (n := 16) rfl (by omega) hVw3 rfl trivial (fun Iw6 eIw6 hVw6 => ?_)
              first | refine n_iinc C dTr_countNoLess_92 rfl rfl (by decide) (by decide) (by omega) (fun z_92 e_92 => ?_) | refine a_iinc C dTr_countNoLess_92 rfl (by decide) (fun z_92 => ?_)
              refine g_goto 47 C dTr_countNoLess_95 (by decide) ?_
              exact g_sub (ih_47 _ (by omega) z_92 Iw6 Jw3 rfl (by omega) hVw6) ⟨rfl, rfl, rfl, trivial⟩
      exact g_sub (lp_47 _ (Int32.ofInt (0)) Iw2 Jw2 rfl (by have hci : Int32.toInt (Int32.ofInt (0)) = 0 := ofI (by decide); omega) hVw2) ⟨rfl, rfl, rfl, trivial⟩
    refine gt_icmp_ge 45 C dTr_countNoLess_9 (by decide) rfl rfl (fun c_9 => ?_) (fun c_9 => ?_)
    · skip
      exact g_sub (jn_45 x1_4 x2_4 Iw1 Jw1  hVw1) ⟨rfl, rfl, rfl, trivial⟩
    · skip
      refine g_iload_n C dTr_countNoLess_12 rfl ?_
      refine g_bipush (v := Int32.ofInt (8)) C dTr_countNoLess_13 (by decide) ?_
      refine gt_icmp_ge 45 C dTr_countNoLess_15 (by decide) rfl (ofI (by decide)) (fun c_15 => ?_) (fun c_15 => ?_)
      · skip
        exact g_sub (jn_45 x1_4 x2_4 Iw1 Jw1  hVw1) ⟨rfl, rfl, rfl, trivial⟩
      · skip
        refine g_aload_n C dTr_countNoLess_18 rfl ?_
        refine gt_getr C dTr_countNoLess_19 fl_Tr_16 h0 hVw1.1.1 rfl (fun b_19 q_19 hb_19 => ?_)
        refine g_iload_n C dTr_countNoLess_22 rfl ?_
        refine g_aload_n C dTr_countNoLess_23 rfl ?_
        refine gt_getr C dTr_countNoLess_24 fl_Tr_13 h0 hVw1.1.1 rfl (fun b_24 q_24 hb_24 => ?_)
        refine g_iload_n C dTr_countNoLess_27 rfl ?_
        refine gt_iald C dTr_countNoLess_28 hb_24 (by decide) rfl rfl (n := 8) rfl (by omega) ?_
        refine gt_iast C dTr_countNoLess_29 hb_19 (by decide) rfl rfl (n := 16) rfl (by omega) hVw1 rfl trivial (fun Iw7 eIw7 hVw7 => ?_)
        refine g_iload_n C dTr_countNoLess_30 rfl ?_
        refine g_aload_n C dTr_countNoLess_31 rfl ?_
        refine gt_getS C dTr_countNoLess_32 fl_Tr_13 h0 q_24 ?_
        refine g_iload_n C dTr_countNoLess_35 rfl ?_
        refine gt_iald C dTr_countNoLess_36 hb_24 (by decide) rfl rfl (n := 8) rfl (by omega) ?_
        first | refine n_iadd C dTr_countNoLess_37 rfl rfl (by omega) (fun z_37 e_37 => ?_) | refine a_iadd C dTr_countNoLess_37 (fun z_37 => ?_)
        refine g_istore_n (i := 1) C dTr_countNoLess_38 rfl (by decide) ?_
        first | refine n_iinc C dTr_countNoLess_39 rfl rfl (by decide) (by decide) (by omega) (fun z_39 e_39 => ?_) | refine a_iinc C dTr_countNoLess_39 rfl (by decide) (fun z_39 => ?_)
        refine g_goto 4 C dTr_countNoLess_42 (by decide) ?_
        exact g_sub (ih_4 _ (by omega) z_37 z_39 Iw7 Jw1 rfl (by omega) hVw7) ⟨rfl, rfl, rfl, trivial⟩
  exact g_sub (lp_4 _ (Int32.ofInt (0)) (Int32.ofInt (0)) I0 J0 rfl (by have hci : Int32.toInt (Int32.ofInt (0)) = 0 := ofI (by decide); omega) hV0) ⟨rfl, rfl, rfl, trivial⟩
set_option maxHeartbeats 4000000 in
set_option maxRecDepth 100000 in
theorem cTr_countAll {P : List Nat} {K : Nat → Nat} {I0 : Nat → Nat → Int32} {O : Nat → Nat → Option Nat} {J0 : Nat → Nat → Int64} (hV : IV P K I0 O) {a0 : Nat} (h0 : a0 ∈ P ∧ K a0 = 7) : Con yTr_countAll bTr_countAll 4 (some .int) ({ frames := 0, cells := 0, slots := 0, locals := 0 } : Room) P K I0 O J0 [.ref a0] (SPo frP 1 (tt) P K I0 O J0) := by
  refine Con.ofG mfTr_countAll (Nat.le_of_ble_eq_true rfl) ?_
  intro X C E
  have hV0 : SV frP P K O I0 J0 I0 J0 := SV.rf hV
  refine g_lconst (v := 1) C dTr_countAll_0 (by decide) ?_
  refine g_lstore_n (i := 1) C dTr_countAll_1 rfl (by decide) ?_
  refine g_iconst (v := Int32.ofInt (1)) C dTr_countAll_2 (by decide) ?_
  refine g_istore_n (i := 3) C dTr_countAll_3 rfl (by decide) ?_
  have lp_4 : ∀ (nn_4 : Nat) (x1_4 : Int64) (x3_4 : Int32), Int.toNat (9 - x3_4.toInt) = nn_4 → (1 ≤ Int32.toInt x3_4 ∧ Int32.toInt x3_4 ≤ 9) → GG X 4 P K I0 O J0 0 0 4 [(0, .ref a0), (1, .long x1_4), (3, .int x3_4)] [] := by
    intro nn_4
    induction nn_4 using Nat.strongRecOn with
    | ind nn_4 ih_4 =>
    intro x1_4 x3_4  hn_4 iv0_4 
    have rg3_4 := rg x3_4
    refine g_iload_n C dTr_countAll_4 rfl ?_
    refine g_aload_n C dTr_countAll_5 rfl ?_
    refine g_geti C dTr_countAll_6 fl_Tr_19 h0 ?_
    have o_6 := hV0.1.2 a0 h0.1 4
    rw [h0.2] at o_6
    have o_6 : 0 ≤ (I0 a0 4).toInt ∧ (I0 a0 4).toInt ≤ 8 := o_6
    refine gt_icmp_gt 31 C dTr_countAll_9 (by decide) rfl rfl (fun c_9 => ?_) (fun c_9 => ?_)
    · skip
      refine g_lload_n C dTr_countAll_31 rfl ?_
      refine a_l2i C dTr_countAll_32 (fun z_32 => ?_)
      exact s_iret C E dTr_countAll_33 ⟨Nat.zero_le _, Nat.zero_le _⟩ hV0 trivial
    · skip
      refine g_lload_n C dTr_countAll_12 rfl ?_
      refine g_aload_n C dTr_countAll_13 rfl ?_
      refine g_geti C dTr_countAll_14 fl_Tr_23 h0 ?_
      have o_14 := hV0.1.2 a0 h0.1 3
      rw [h0.2] at o_14
      have o_14 : 0 ≤ (I0 a0 3).toInt ∧ (I0 a0 3).toInt ≤ 8 := o_14
      refine g_iload_n C dTr_countAll_17 rfl ?_
      first | refine n_iadd C dTr_countAll_18 rfl rfl (by omega) (fun z_18 e_18 => ?_) | refine a_iadd C dTr_countAll_18 (fun z_18 => ?_)
      refine gt_i2l C dTr_countAll_19 (fun z_19 e_19 => ?_)
      refine a_lmul C dTr_countAll_20 (fun z_20 => ?_)
      refine g_iload_n C dTr_countAll_21 rfl ?_
      refine gt_i2l C dTr_countAll_22 (fun z_22 e_22 => ?_)
      refine a_ldiv C dTr_countAll_23 (by omega) (fun z_23 => ?_)
      refine g_lstore_n (i := 1) C dTr_countAll_24 rfl (by decide) ?_
      first | refine n_iinc C dTr_countAll_25 rfl rfl (by decide) (by decide) (by omega) (fun z_25 e_25 => ?_) | refine a_iinc C dTr_countAll_25 rfl (by decide) (fun z_25 => ?_)
      refine g_goto 4 C dTr_countAll_28 (by decide) ?_
      exact g_sub (ih_4 _ (by omega) z_23 z_25  rfl (by omega) ) ⟨rfl, rfl, rfl, trivial⟩
  exact g_sub (lp_4 _ (1 : Int64) (Int32.ofInt (1))  rfl (by have hci : Int32.toInt (Int32.ofInt (1)) = 1 := ofI (by decide); omega) ) ⟨rfl, rfl, rfl, trivial⟩
