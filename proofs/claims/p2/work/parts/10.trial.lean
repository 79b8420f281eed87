set_option maxHeartbeats 4000000 in
set_option maxRecDepth 100000 in
theorem cTr_isFilled {P : List Nat} {K : Nat → Nat} {I0 : Nat → Nat → Int32} {O : Nat → Nat → Option Nat} {J0 : Nat → Nat → Int64} (hV : IV P K I0 O) {a0 : Nat} (h0 : a0 ∈ P ∧ K a0 = 7) {x1 : Int32} : Con yTr_isFilled bTr_isFilled 2 (some .boolean) ({ frames := 0, cells := 0, slots := 0, locals := 0 } : Room) P K I0 O J0 [.ref a0, .int x1] (SPo frP 2 (fun z => Int32.toInt z = 1 ∨ ((Int32.toInt x1 = 0 → Int32.toInt (I0 a0 3) < 8) ∧ (¬ Int32.toInt x1 = 0 → Int32.toInt (I0 a0 4) < 8))) P K I0 O J0) := by
  refine Con.ofG mfTr_isFilled (Nat.le_of_ble_eq_true rfl) ?_
  intro X C E
  have r1 := rg x1
  have hV0 : SV frP P K O I0 J0 I0 J0 := SV.rf hV
  refine g_iload_n C dTr_isFilled_0 rfl ?_
  have jn_15 : ∀  (s0_15 : Int32) (Iw1 : Nat → Nat → Int32) (Jw1 : Nat → Nat → Int64), ((Int32.toInt x1 = 0 → Int32.toInt s0_15 = Int32.toInt (I0 a0 3)) ∧ (¬ Int32.toInt x1 = 0 → Int32.toInt s0_15 = Int32.toInt (I0 a0 4))) → SV frP P K O I0 J0 Iw1 Jw1 → GG X 2 P K Iw1 O Jw1 0 0 15 [(0, .ref a0), (1, .int x1)] [.int s0_15] := by
    intro  s0_15 Iw1 Jw1 jv0_15 hVw1
    refine g_bipush (v := Int32.ofInt (8)) C dTr_isFilled_15 (by decide) ?_
    refine gt_icmp_lt 24 C dTr_isFilled_17 (by decide) rfl (ofI (by decide)) (fun c_17 => ?_) (fun c_17 => ?_)
    · skip
      refine g_iconst (v := Int32.ofInt (0)) C dTr_isFilled_24 (by decide) ?_
      exact s_zret C E dTr_isFilled_25 ⟨Nat.zero_le _, Nat.zero_le _⟩ hVw1 (Or.inl (ofI (by decide))) (by have hci : Int32.toInt (Int32.ofInt (0)) = 0 := ofI (by decide); (try dsimp only); omega)
    · skip
      refine g_iconst (v := Int32.ofInt (1)) C dTr_isFilled_20 (by decide) ?_
      refine g_goto 25 C dTr_isFilled_21 (by decide) ?_
      exact s_zret C E dTr_isFilled_25 ⟨Nat.zero_le _, Nat.zero_le _⟩ hVw1 (Or.inr (ofI (by decide))) (by have hci : Int32.toInt (Int32.ofInt (1)) = 1 := ofI (by decide); (try dsimp only); omega)
  refine gt_if_eq 11 C dTr_isFilled_1 (by decide) rfl (fun c_1 => ?_) (fun c_1 => ?_)
  · skip
    refine g_aload_n C dTr_isFilled_11 rfl ?_
    refine g_geti C dTr_isFilled_12 fl_Tr_23 h0 ?_
    exact g_sub (jn_15 (I0 a0 3) I0 J0 (by omega) hV0) ⟨rfl, rfl, trivial⟩
  · skip
    refine g_aload_n C dTr_isFilled_4 rfl ?_
    refine g_geti C dTr_isFilled_5 fl_Tr_19 h0 ?_
    refine g_goto 15 C dTr_isFilled_8 (by decide) ?_
    exact g_sub (jn_15 (I0 a0 4) I0 J0 (by omega) hV0) ⟨rfl, rfl, trivial⟩
set_option maxHeartbeats 4000000 in
set_option maxRecDepth 100000 in
theorem cTr_lacksRow {P : List Nat} {K : Nat → Nat} {I0 : Nat → Nat → Int32} {O : Nat → Nat → Option Nat} {J0 : Nat → Nat → Int64} (hV : IV P K I0 O) {a0 : Nat} (h0 : a0 ∈ P ∧ K a0 = 7) : Con yTr_lacksRow bTr_lacksRow 1 (some .boolean) ({ frames := 0, cells := 0, slots := 0, locals := 0 } : Room) P K I0 O J0 [.ref a0] (SPo frP 2 (tt) P K I0 O J0) := by
  refine Con.ofG mfTr_lacksRow (Nat.le_of_ble_eq_true rfl) ?_
  intro X C E
  have hV0 : SV frP P K O I0 J0 I0 J0 := SV.rf hV
  refine g_aload_n C dTr_lacksRow_0 rfl ?_
  refine g_geti C dTr_lacksRow_1 fl_Tr_23 h0 ?_
  have jn_14 : ∀   (Iw1 : Nat → Nat → Int32) (Jw1 : Nat → Nat → Int64),  SV frP P K O I0 J0 Iw1 Jw1 → GG X 1 P K Iw1 O Jw1 0 0 14 [(0, .ref a0)] [] := by
    intro   Iw1 Jw1  hVw1
    refine g_iconst (v := Int32.ofInt (1)) C dTr_lacksRow_14 (by decide) ?_
    refine g_goto 19 C dTr_lacksRow_15 (by decide) ?_
    exact s_zret C E dTr_lacksRow_19 ⟨Nat.zero_le _, Nat.zero_le _⟩ hVw1 (Or.inr (ofI (by decide))) trivial
  refine gt_if_eq 14 C dTr_lacksRow_4 (by decide) rfl (fun c_4 => ?_) (fun c_4 => ?_)
  · skip
    exact g_sub (jn_14  I0 J0  hV0) ⟨rfl, trivial⟩
  · skip
    refine g_aload_n C dTr_lacksRow_7 rfl ?_
    refine g_geti C dTr_lacksRow_8 fl_Tr_19 h0 ?_
    refine gt_if_ne 18 C dTr_lacksRow_11 (by decide) rfl (fun c_11 => ?_) (fun c_11 => ?_)
    · skip
      refine g_iconst (v := Int32.ofInt (0)) C dTr_lacksRow_18 (by decide) ?_
      exact s_zret C E dTr_lacksRow_19 ⟨Nat.zero_le _, Nat.zero_le _⟩ hV0 (Or.inl (ofI (by decide))) trivial
    · skip
      exact g_sub (jn_14  I0 J0  hV0) ⟨rfl, trivial⟩
set_option maxHeartbeats 4000000 in
set_option maxRecDepth 100000 in
theorem cTr_add {P : List Nat} {K : Nat → Nat} {I0 : Nat → Nat → Int32} {O : Nat → Nat → Option Nat} {J0 : Nat → Nat → Int64} (hV : IV P K I0 O) {a0 : Nat} (h0 : a0 ∈ P ∧ K a0 = 7) {x1 : Int32} {x2 : Int32} : Con yTr_add bTr_add 3 (some .int) ({ frames := 1, cells := 0, slots := 0, locals := 21 } : Room) P K I0 O J0 [.ref a0, .int x1, .int x2] (SPo frN 1 (tt) P K I0 O J0) := by
  refine Con.ofG mfTr_add (Nat.le_of_ble_eq_true rfl) ?_
  intro X C E
  have r1 := rg x1
  have r2 := rg x2
  have hV0 : SV frN P K O I0 J0 I0 J0 := SV.rf hV
  refine g_aload_n C dTr_add_0 rfl ?_
  refine g_iload_n C dTr_add_1 rfl ?_
  refine s_callV_zp (av := [.int x1]) C dTr_add_2 mfTr_isFilled mvTr_isFilled ln_Tr_26 h0 (by decide) rfl (cTr_isFilled hV0.1 h0) rfl rfl (Nat.le_of_ble_eq_true rfl) ⟨Nat.le_of_ble_eq_true rfl, Nat.le_of_ble_eq_true rfl⟩ ⟨rfl, rfl⟩ ⟨Nat.zero_le _, Nat.zero_le _⟩ (fun z_2 b_2 p_2 => ?_)
  have u_2 := b_2
  unfold B01 at u_2
  try dsimp only at p_2
  refine gt_if_eq 11 C dTr_add_5 (by decide) rfl (fun c_5 => ?_) (fun c_5 => ?_)
  · skip
    refine g_iload_n C dTr_add_11 rfl ?_
    refine gt_if_eq 40 C dTr_add_12 (by decide) rfl (fun c_12 => ?_) (fun c_12 => ?_)
    · skip
      refine g_aload_n C dTr_add_40 rfl ?_
      refine gt_getr C dTr_add_41 fl_Tr_9 h0 hV0.1.1 rfl (fun b_41 q_41 hb_41 => ?_)
      refine g_aload_n C dTr_add_44 rfl ?_
      refine g_geti C dTr_add_45 fl_Tr_23 h0 ?_
      have o_45 := hV0.1.2 a0 h0.1 3
      rw [h0.2] at o_45
      have o_45 : 0 ≤ (I0 a0 3).toInt ∧ (I0 a0 3).toInt ≤ 8 := o_45
      refine g_iload_n C dTr_add_48 rfl ?_
      refine gt_iast C dTr_add_49 hb_41 (by decide) rfl rfl (n := 8) rfl (by omega) hV0 rfl trivial (fun Iw2 eIw2 hVw2 => ?_)
      have tkw2_3 : (Iw2 a0 3).toInt = (I0 a0 3).toInt := by rw [eIw2, up2_ne _ _ (fun z => by have q := h0.2; rw [z.1, hb_41.2] at q; exact absurd q (by decide))]
      have tkw2_4 : (Iw2 a0 4).toInt = (I0 a0 4).toInt := by rw [eIw2, up2_ne _ _ (fun z => by have q := h0.2; rw [z.1, hb_41.2] at q; exact absurd q (by decide))]
      refine g_aload_n C dTr_add_50 rfl ?_
      refine g_dup C dTr_add_51 rfl ?_
      refine g_geti C dTr_add_52 fl_Tr_23 h0 ?_
      have o_52 := hVw2.1.2 a0 h0.1 3
      rw [h0.2] at o_52
      have o_52 : 0 ≤ (Iw2 a0 3).toInt ∧ (Iw2 a0 3).toInt ≤ 8 := o_52
      refine g_iconst (v := Int32.ofInt (1)) C dTr_add_55 (by decide) ?_
      first | refine n_iadd C dTr_add_56 rfl (ofI (by decide)) (by omega) (fun z_56 e_56 => ?_) | refine a_iadd C dTr_add_56 (fun z_56 => ?_)
      refine gt_puti C dTr_add_57 fl_Tr_23 h0 hVw2 rfl (by show 0 ≤ Int32.toInt _ ∧ Int32.toInt _ ≤ 8; omega) rfl (Or.inl rfl) (fun Iw3 eIw3 hVw3 => ?_)
      have tkw3_3 : (Iw3 a0 3).toInt = z_56.toInt := by rw [eIw3, up2_self]
      have tkw3_4 : (Iw3 a0 4).toInt = (Iw2 a0 4).toInt := by rw [eIw3, up2_ne _ _ (fun z => absurd z.2 (by decide))]
      refine g_aload_n C dTr_add_60 rfl ?_
      refine g_geti C dTr_add_61 fl_Tr_23 h0 ?_
      have o_61 := hVw3.1.2 a0 h0.1 3
      rw [h0.2] at o_61
      have o_61 : 0 ≤ (Iw3 a0 3).toInt ∧ (Iw3 a0 3).toInt ≤ 8 := o_61
      exact s_iret C E dTr_add_64 ⟨Nat.zero_le _, Nat.zero_le _⟩ hVw3 trivial
    · skip
      refine g_aload_n C dTr_add_15 rfl ?_
      refine gt_getr C dTr_add_16 fl_Tr_13 h0 hV0.1.1 rfl (fun b_16 q_16 hb_16 => ?_)
      refine g_aload_n C dTr_add_19 rfl ?_
      refine g_geti C dTr_add_20 fl_Tr_19 h0 ?_
      have o_20 := hV0.1.2 a0 h0.1 4
      rw [h0.2] at o_20
      have o_20 : 0 ≤ (I0 a0 4).toInt ∧ (I0 a0 4).toInt ≤ 8 := o_20
      refine g_iload_n C dTr_add_23 rfl ?_
      refine gt_iast C dTr_add_24 hb_16 (by decide) rfl rfl (n := 8) rfl (by omega) hV0 rfl trivial (fun Iw4 eIw4 hVw4 => ?_)
      have tkw4_3 : (Iw4 a0 3).toInt = (I0 a0 3).toInt := by rw [eIw4, up2_ne _ _ (fun z => by have q := h0.2; rw [z.1, hb_16.2] at q; exact absurd q (by decide))]
      have tkw4_4 : (Iw4 a0 4).toInt = (I0 a0 4).toInt := by rw [eIw4, up2_ne _ _ (fun z => by have q := h0.2; rw [z.1, hb_16.2] at q; exact absurd q (by decide))]
      refine g_aload_n C dTr_add_25 rfl ?_
      refine g_dup C dTr_add_26 rfl ?_
      refine g_geti C dTr_add_27 fl_Tr_19 h0 ?_
      have o_27 := hVw4.1.2 a0 h0.1 4
      rw [h0.2] at o_27
      have o_27 : 0 ≤ (Iw4 a0 4).toInt ∧ (Iw4 a0 4).toInt ≤ 8 := o_27
      refine g_iconst (v := Int32.ofInt (1)) C dTr_add_30 (by decide) ?_
      first | refine n_iadd C dTr_add_31 rfl (ofI (by decide)) (by omega) (fun z_31 e_31 => ?_) | refine a_iadd C dTr_add_31 (fun z_31 => ?_)
      refine gt_puti C dTr_add_32 fl_Tr_19 h0 hVw4 rfl (by show 0 ≤ Int32.toInt _ ∧ Int32.toInt _ ≤ 8; omega) rfl (Or.inl rfl) (fun Iw5 eIw5 hVw5 => ?_)
      have tkw5_3 : (Iw5 a0 3).toInt = (Iw4 a0 3).toInt := by rw [eIw5, up2_ne _ _ (fun z => absurd z.2 (by decide))]
      have tkw5_4 : (Iw5 a0 4).toInt = z_31.toInt := by rw [eIw5, up2_self]
      refine g_aload_n C dTr_add_35 rfl ?_
      refine g_geti C dTr_add_36 fl_Tr_19 h0 ?_
      have o_36 := hVw5.1.2 a0 h0.1 4
      rw [h0.2] at o_36
      have o_36 : 0 ≤ (Iw5 a0 4).toInt ∧ (Iw5 a0 4).toInt ≤ 8 := o_36
      exact s_iret C E dTr_add_39 ⟨Nat.zero_le _, Nat.zero_le _⟩ hVw5 trivial
  · skip
    refine g_bipush (v := Int32.ofInt (8)) C dTr_add_8 (by decide) ?_
    exact s_iret C E dTr_add_10 ⟨Nat.zero_le _, Nat.zero_le _⟩ hV0 trivial
set_option maxHeartbeats 4000000 in
set_option maxRecDepth 100000 in
theorem cTr_drop {P : List Nat} {K : Nat → Nat} {I0 : Nat → Nat → Int32} {O : Nat → Nat → Option Nat} {J0 : Nat → Nat → Int64} (hV : IV P K I0 O) {a0 : Nat} (h0 : a0 ∈ P ∧ K a0 = 7) : Con yTr_drop bTr_drop 2 (some .int) ({ frames := 0, cells := 0, slots := 0, locals := 0 } : Room) P K I0 O J0 [.ref a0] (SPo frN 1 (tt) P K I0 O J0) := by
  refine Con.ofG mfTr_drop (Nat.le_of_ble_eq_true rfl) ?_
  intro X C E
  have hV0 : SV frN P K O I0 J0 I0 J0 := SV.rf hV
  refine g_aload_n C dTr_drop_0 rfl ?_
  refine g_geti C dTr_drop_1 fl_Tr_23 h0 ?_
  refine g_aload_n C dTr_drop_4 rfl ?_
  refine g_geti C dTr_drop_5 fl_Tr_19 h0 ?_
  first | refine n_iadd C dTr_drop_8 rfl rfl (by omega) (fun z_8 e_8 => ?_) | refine a_iadd C dTr_drop_8 (fun z_8 => ?_)
  refine g_istore_n (i := 1) C dTr_drop_9 rfl (by decide) ?_
  refine g_aload_n C dTr_drop_10 rfl ?_
  refine g_iconst (v := Int32.ofInt (0)) C dTr_drop_11 (by decide) ?_
  refine gt_puti C dTr_drop_12 fl_Tr_23 h0 hV0 rfl (by show 0 ≤ Int32.toInt _ ∧ Int32.toInt _ ≤ 8; rw [ofI (by decide)]; omega) rfl (Or.inl rfl) (fun Iw1 eIw1 hVw1 => ?_)
  refine g_aload_n C dTr_drop_15 rfl ?_
  refine g_iconst (v := Int32.ofInt (0)) C dTr_drop_16 (by decide) ?_
  refine gt_puti C dTr_drop_17 fl_Tr_19 h0 hVw1 rfl (by show 0 ≤ Int32.toInt _ ∧ Int32.toInt _ ≤ 8; rw [ofI (by decide)]; omega) rfl (Or.inl rfl) (fun Iw2 eIw2 hVw2 => ?_)
  refine g_iload_n C dTr_drop_20 rfl ?_
  exact s_iret C E dTr_drop_21 ⟨Nat.zero_le _, Nat.zero_le _⟩ hVw2 trivial
set_option maxHeartbeats 4000000 in
set_option maxRecDepth 100000 in
theorem cTr_countAll {P : List Nat} {K : Nat → Nat} {I0 : Nat → Nat → Int32} {O : Nat → Nat → Option Nat} {J0 : Nat → Nat → Int64} (hV : IV P K I0 O) {a0 : Nat} (h0 : a0 ∈ P ∧ K a0 = 7) : Con yTr_countAll bTr_countAll 4 (some .int) ({ frames := 0, cells := 0, slots := 0, locals := 0 } : Room) P K I0 O J0 [.ref a0] (SPo frP 1 (tt) P K I0 O J0) := by
  refine Con.ofG mfTr_countAll (Nat.le_of_ble_eq_true rfl) ?_
  intro X C E
  have hV0 : SV frP P K O I0 J0 I0 J0 := SV.rf hV
  refine g_lconst (v := 1) C dTr_countAll_0 (by decide) ?_
  refine g_lstore_n (i := 1) C dTr_countAll_1 rfl (by decide) ?_
  refine g_iconst (v := Int32.ofInt (1)) C dTr_countAll_2 (by decide) ?_
  refine g_istore_n (i := 3) C dTr_countAll_3 rfl (by decide) ?_
  have lp_4 : ∀ (nn_4 : Nat) (x1_4 : Int64) (x3_4 : Int32) (Iw1 : Nat → Nat → Int32) (Jw1 : Nat → Nat → Int64), Int.toNat (9 - x3_4.toInt) = nn_4 → (1 ≤ Int32.toInt x3_4 ∧ Int32.toInt x3_4 ≤ 9) → SV frP P K O I0 J0 Iw1 Jw1 → GG X 4 P K Iw1 O Jw1 0 0 4 [(0, .ref a0), (1, .long x1_4), (3, .int x3_4)] [] := by
    intro nn_4
    induction nn_4 using Nat.strongRecOn with
    | ind nn_4 ih_4 =>
    intro x1_4 x3_4 Iw1 Jw1 hn_4 iv0_4 hVw1
    have rg3_4 := rg x3_4
    refine g_iload_n C dTr_countAll_4 rfl ?_
    refine g_aload_n C dTr_countAll_5 rfl ?_
    refine g_geti C dTr_countAll_6 fl_Tr_19 h0 ?_
    have o_6 := hVw1.1.2 a0 h0.1 4
    rw [h0.2] at o_6
    have o_6 : 0 ≤ (Iw1 a0 4).toInt ∧ (Iw1 a0 4).toInt ≤ 8 := o_6
    refine gt_icmp_gt 31 C dTr_countAll_9 (by decide) rfl rfl (fun c_9 => ?_) (fun c_9 => ?_)
    · skip
      refine g_lload_n C dTr_countAll_31 rfl ?_
      refine a_l2i C dTr_countAll_32 (fun z_32 => ?_)
      exact s_iret C E dTr_countAll_33 ⟨Nat.zero_le _, Nat.zero_le _⟩ hVw1 trivial
    · skip
      refine g_lload_n C dTr_countAll_12 rfl ?_
      refine g_aload_n C dTr_countAll_13 rfl ?_
      refine g_geti C dTr_countAll_14 fl_Tr_23 h0 ?_
      have o_14 := hVw1.1.2 a0 h0.1 3
      rw [h0.2] at o_14
      have o_14 : 0 ≤ (Iw1 a0 3).toInt ∧ (Iw1 a0 3).toInt ≤ 8 := o_14
      refine g_iload_n C dTr_countAll_17 rfl ?_
      first | refine n_iadd C dTr_countAll_18 rfl rfl (by omega) (fun z_18 e_18 => ?_) | refine a_iadd C dTr_countAll_18 (fun z_18 => ?_)
      refine gt_i2l C dTr_countAll_19 (fun z_19 e_19 => ?_)
      refine a_lmul C dTr_countAll_20 (fun z_20 => ?_)
      refine g_iload_n C dTr_countAll_21 rfl ?_
      refine gt_i2l C dTr_countAll_22 (fun z_22 e_22 => ?_)
      refine a_ldiv C dTr_countAll_23 (by omega) (fun z_23 => ?_)
      refine g_lstore_n (i := 1) C dTr_countAll_24 rfl (by decide) ?_
      first | refine n_iinc C dTr_countAll_25 rfl rfl (by decide) (by decide) (by omega) (fun z_25 e_25 => ?_) | refine a_iinc C dTr_countAll_25 rfl (by decide) (fun z_25 => ?_)
      refine g_goto 4 C dTr_countAll_28 (by decide) ?_
      exact g_sub (ih_4 _ (by omega) z_23 z_25 Iw1 Jw1 rfl (by omega) hVw1) ⟨rfl, rfl, rfl, trivial⟩
  exact g_sub (lp_4 _ (1 : Int64) (Int32.ofInt (1)) I0 J0 rfl (by have hci : Int32.toInt (Int32.ofInt (1)) = 1 := ofI (by decide); omega) hV0) ⟨rfl, rfl, rfl, trivial⟩
