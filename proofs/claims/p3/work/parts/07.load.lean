set_option maxHeartbeats 4000000 in
set_option maxRecDepth 100000 in
theorem cMl_makeEmpty {P : List Nat} {K : Nat → Nat} {I0 : Nat → Nat → Int32} {O : Nat → Nat → Option Nat} {J0 : Nat → Nat → Int64} (hV : IV P K I0 O) {a0 : Nat} (h0 : a0 ∈ P ∧ K a0 = 3) : Con yMl_makeEmpty bMl_makeEmpty 1 none ({ frames := 1, cells := 0, slots := 0, locals := 21 } : Room) P K I0 O J0 [.ref a0] (SPo frN 0 (tt) P K I0 O J0) := by
  refine Con.ofG mfMl_makeEmpty (Nat.le_of_ble_eq_true rfl) ?_
  intro X C E
  have hV0 : SV frN P K O I0 J0 I0 J0 := SV.rf hV
  refine g_aload_n C dMl_makeEmpty_0 rfl ?_
  refine g_iconst (v := Int32.ofInt (0)) C dMl_makeEmpty_1 (by decide) ?_
  refine gt_puti C dMl_makeEmpty_2 fl_Ml_31 h0 hV0 rfl trivial rfl (Or.inl rfl) (fun Iw1 eIw1 hVw1 => ?_)
  refine g_aload_n C dMl_makeEmpty_5 rfl ?_
  refine g_iconst (v := Int32.ofInt (0)) C dMl_makeEmpty_6 (by decide) ?_
  refine gt_puti C dMl_makeEmpty_7 fl_Ml_34 h0 hVw1 rfl trivial rfl (Or.inl rfl) (fun Iw2 eIw2 hVw2 => ?_)
  refine g_aload_n C dMl_makeEmpty_10 rfl ?_
  refine g_iconst (v := Int32.ofInt (-1)) C dMl_makeEmpty_11 (by decide) ?_
  refine gt_puti C dMl_makeEmpty_12 fl_Ml_9 h0 hVw2 rfl trivial rfl (Or.inl rfl) (fun Iw3 eIw3 hVw3 => ?_)
  refine g_aload_n C dMl_makeEmpty_15 rfl ?_
  refine g_iconst (v := Int32.ofInt (0)) C dMl_makeEmpty_16 (by decide) ?_
  refine gt_puti C dMl_makeEmpty_17 fl_Ml_37 h0 hVw3 rfl trivial rfl (Or.inl rfl) (fun Iw4 eIw4 hVw4 => ?_)
  refine g_aload_n C dMl_makeEmpty_20 rfl ?_
  refine g_iconst (v := Int32.ofInt (0)) C dMl_makeEmpty_21 (by decide) ?_
  refine gt_puti C dMl_makeEmpty_22 fl_Ml_40 h0 hVw4 rfl trivial rfl (Or.inl rfl) (fun Iw5 eIw5 hVw5 => ?_)
  refine g_aload_n C dMl_makeEmpty_25 rfl ?_
  refine g_iconst (v := Int32.ofInt (0)) C dMl_makeEmpty_26 (by decide) ?_
  refine gt_puti C dMl_makeEmpty_27 fl_Ml_43 h0 hVw5 rfl trivial rfl (Or.inl rfl) (fun Iw6 eIw6 hVw6 => ?_)
  refine g_aload_n C dMl_makeEmpty_30 rfl ?_
  refine g_iconst (v := Int32.ofInt (0)) C dMl_makeEmpty_31 (by decide) ?_
  refine gt_puti C dMl_makeEmpty_32 fl_Ml_46 h0 hVw6 rfl trivial rfl (Or.inl rfl) (fun Iw7 eIw7 hVw7 => ?_)
  refine g_aload_n C dMl_makeEmpty_35 rfl ?_
  refine g_iconst (v := Int32.ofInt (0)) C dMl_makeEmpty_36 (by decide) ?_
  refine gt_puti C dMl_makeEmpty_37 fl_Ml_49 h0 hVw7 rfl (by show 0 ≤ Int32.toInt _ ∧ Int32.toInt _ ≤ 5; rw [ofI (by decide)]; omega) rfl (Or.inl rfl) (fun Iw8 eIw8 hVw8 => ?_)
  refine g_aload_n C dMl_makeEmpty_40 rfl ?_
  refine g_iconst (v := Int32.ofInt (0)) C dMl_makeEmpty_41 (by decide) ?_
  refine gt_puti C dMl_makeEmpty_42 fl_Ml_52 h0 hVw8 rfl (by show 0 ≤ Int32.toInt _ ∧ Int32.toInt _ ≤ 4; rw [ofI (by decide)]; omega) rfl (Or.inl rfl) (fun Iw9 eIw9 hVw9 => ?_)
  refine g_aload_n C dMl_makeEmpty_45 rfl ?_
  refine g_iconst (v := Int32.ofInt (0)) C dMl_makeEmpty_46 (by decide) ?_
  refine gt_puti C dMl_makeEmpty_47 fl_Ml_55 h0 hVw9 rfl trivial rfl (Or.inl rfl) (fun Iw10 eIw10 hVw10 => ?_)
  refine g_aload_n C dMl_makeEmpty_50 rfl ?_
  refine gt_getr C dMl_makeEmpty_51 fl_Ml_15 h0 hVw10.1.1 rfl (fun b_51 q_51 hb_51 => ?_)
  refine s_callS_v (av := fun ad => [.ref b_51]) C dMl_makeEmpty_54 mfRM_wipe msRM_wipe ln_Ml_58 hVw10 fr_NN (cRM_wipe hVw10.1 hb_51 ⟨by decide, rfl, rfl, fun _ _ => trivial, by decide⟩) rfl rfl (Nat.le_of_ble_eq_true rfl) ⟨Nat.le_of_ble_eq_true rfl, Nat.le_of_ble_eq_true rfl⟩ ⟨rfl, rfl⟩ ⟨Nat.zero_le _, Nat.zero_le _⟩ (fun Iw11 Jw11 hVw11 hFw11 p_54 => ?_)
  refine g_aload_n C dMl_makeEmpty_57 rfl ?_
  refine gt_getr C dMl_makeEmpty_58 fl_Ml_19 h0 hVw11.1.1 rfl (fun b_58 q_58 hb_58 => ?_)
  refine s_callS_v (av := fun ad => [.ref b_58]) C dMl_makeEmpty_61 mfRM_wipe msRM_wipe ln_Ml_58 hVw11 fr_NN (cRM_wipe hVw11.1 hb_58 ⟨by decide, rfl, rfl, fun _ _ => trivial, by decide⟩) rfl rfl (Nat.le_of_ble_eq_true rfl) ⟨Nat.le_of_ble_eq_true rfl, Nat.le_of_ble_eq_true rfl⟩ ⟨rfl, rfl⟩ ⟨Nat.zero_le _, Nat.zero_le _⟩ (fun Iw12 Jw12 hVw12 hFw12 p_61 => ?_)
  refine g_aload_n C dMl_makeEmpty_64 rfl ?_
  refine gt_getr C dMl_makeEmpty_65 fl_Ml_22 h0 hVw12.1.1 rfl (fun b_65 q_65 hb_65 => ?_)
  refine s_callS_v (av := fun ad => [.ref b_65]) C dMl_makeEmpty_68 mfRM_wipe msRM_wipe ln_Ml_58 hVw12 fr_NN (cRM_wipe hVw12.1 hb_65 ⟨by decide, rfl, rfl, fun _ _ => trivial, by decide⟩) rfl rfl (Nat.le_of_ble_eq_true rfl) ⟨Nat.le_of_ble_eq_true rfl, Nat.le_of_ble_eq_true rfl⟩ ⟨rfl, rfl⟩ ⟨Nat.zero_le _, Nat.zero_le _⟩ (fun Iw13 Jw13 hVw13 hFw13 p_68 => ?_)
  refine g_aload_n C dMl_makeEmpty_71 rfl ?_
  refine gt_getr C dMl_makeEmpty_72 fl_Ml_25 h0 hVw13.1.1 rfl (fun b_72 q_72 hb_72 => ?_)
  refine s_callS_v (av := fun ad => [.ref b_72]) C dMl_makeEmpty_75 mfRM_wipe msRM_wipe ln_Ml_58 hVw13 fr_NN (cRM_wipe hVw13.1 hb_72 ⟨by decide, rfl, rfl, fun _ _ => trivial, by decide⟩) rfl rfl (Nat.le_of_ble_eq_true rfl) ⟨Nat.le_of_ble_eq_true rfl, Nat.le_of_ble_eq_true rfl⟩ ⟨rfl, rfl⟩ ⟨Nat.zero_le _, Nat.zero_le _⟩ (fun Iw14 Jw14 hVw14 hFw14 p_75 => ?_)
  refine g_aload_n C dMl_makeEmpty_78 rfl ?_
  refine gt_getr C dMl_makeEmpty_79 fl_Ml_28 h0 hVw14.1.1 rfl (fun b_79 q_79 hb_79 => ?_)
  refine s_callS_v (av := fun ad => [.ref b_79]) C dMl_makeEmpty_82 mfRM_wipe msRM_wipe ln_Ml_58 hVw14 fr_NN (cRM_wipe hVw14.1 hb_79 ⟨by decide, rfl, rfl, fun _ _ => trivial, by decide⟩) rfl rfl (Nat.le_of_ble_eq_true rfl) ⟨Nat.le_of_ble_eq_true rfl, Nat.le_of_ble_eq_true rfl⟩ ⟨rfl, rfl⟩ ⟨Nat.zero_le _, Nat.zero_le _⟩ (fun Iw15 Jw15 hVw15 hFw15 p_82 => ?_)
  exact s_vret C E dMl_makeEmpty_85 ⟨Nat.zero_le _, Nat.zero_le _⟩ hVw15 trivial
set_option maxHeartbeats 4000000 in
set_option maxRecDepth 100000 in
theorem cMl_lacksLine {P : List Nat} {K : Nat → Nat} {I0 : Nat → Nat → Int32} {O : Nat → Nat → Option Nat} {J0 : Nat → Nat → Int64} (hV : IV P K I0 O) {a0 : Nat} (h0 : a0 ∈ P ∧ K a0 = 3) : Con yMl_lacksLine bMl_lacksLine 1 (some .boolean) ({ frames := 0, cells := 0, slots := 0, locals := 0 } : Room) P K I0 O J0 [.ref a0] (SPo frP 2 (tt) P K I0 O J0) := by
  refine Con.ofG mfMl_lacksLine (Nat.le_of_ble_eq_true rfl) ?_
  intro X C E
  have hV0 : SV frP P K O I0 J0 I0 J0 := SV.rf hV
  refine g_aload_n C dMl_lacksLine_0 rfl ?_
  refine g_geti C dMl_lacksLine_1 fl_Ml_31 h0 ?_
  have jn_51 :  GG X 1 P K I0 O J0 0 0 51 [(0, .ref a0)] [] := by
    refine g_iconst (v := Int32.ofInt (1)) C dMl_lacksLine_51 (by decide) ?_
    refine g_goto 56 C dMl_lacksLine_52 (by decide) ?_
    exact s_zret C E dMl_lacksLine_56 ⟨Nat.zero_le _, Nat.zero_le _⟩ hV0 (Or.inr (ofI (by decide))) trivial
  refine gt_if_eq 51 C dMl_lacksLine_4 (by decide) rfl (fun c_4 => ?_) (fun c_4 => ?_)
  · skip
    exact g_sub (jn_51    ) ⟨rfl, trivial⟩
  · skip
    refine g_aload_n C dMl_lacksLine_7 rfl ?_
    refine g_geti C dMl_lacksLine_8 fl_Ml_9 h0 ?_
    refine g_iconst (v := Int32.ofInt (-1)) C dMl_lacksLine_11 (by decide) ?_
    refine gt_icmp_eq 51 C dMl_lacksLine_12 (by decide) rfl (ofI (by decide)) (fun c_12 => ?_) (fun c_12 => ?_)
    · skip
      exact g_sub (jn_51    ) ⟨rfl, trivial⟩
    · skip
      refine g_aload_n C dMl_lacksLine_15 rfl ?_
      refine g_geti C dMl_lacksLine_16 fl_Ml_40 h0 ?_
      refine gt_if_eq 51 C dMl_lacksLine_19 (by decide) rfl (fun c_19 => ?_) (fun c_19 => ?_)
      · skip
        exact g_sub (jn_51    ) ⟨rfl, trivial⟩
      · skip
        refine g_aload_n C dMl_lacksLine_22 rfl ?_
        refine g_geti C dMl_lacksLine_23 fl_Ml_43 h0 ?_
        refine gt_if_eq 51 C dMl_lacksLine_26 (by decide) rfl (fun c_26 => ?_) (fun c_26 => ?_)
        · skip
          exact g_sub (jn_51    ) ⟨rfl, trivial⟩
        · skip
          refine g_aload_n C dMl_lacksLine_29 rfl ?_
          refine g_geti C dMl_lacksLine_30 fl_Ml_55 h0 ?_
          refine gt_if_eq 51 C dMl_lacksLine_33 (by decide) rfl (fun c_33 => ?_) (fun c_33 => ?_)
          · skip
            exact g_sub (jn_51    ) ⟨rfl, trivial⟩
          · skip
            refine g_aload_n C dMl_lacksLine_36 rfl ?_
            refine g_geti C dMl_lacksLine_37 fl_Ml_49 h0 ?_
            refine g_iconst (v := Int32.ofInt (2)) C dMl_lacksLine_40 (by decide) ?_
            refine gt_icmp_lt 51 C dMl_lacksLine_41 (by decide) rfl (ofI (by decide)) (fun c_41 => ?_) (fun c_41 => ?_)
            · skip
              exact g_sub (jn_51    ) ⟨rfl, trivial⟩
            · skip
              refine g_aload_n C dMl_lacksLine_44 rfl ?_
              refine g_geti C dMl_lacksLine_45 fl_Ml_52 h0 ?_
              refine gt_if_ne 55 C dMl_lacksLine_48 (by decide) rfl (fun c_48 => ?_) (fun c_48 => ?_)
              · skip
                refine g_iconst (v := Int32.ofInt (0)) C dMl_lacksLine_55 (by decide) ?_
                exact s_zret C E dMl_lacksLine_56 ⟨Nat.zero_le _, Nat.zero_le _⟩ hV0 (Or.inl (ofI (by decide))) trivial
              · skip
                exact g_sub (jn_51    ) ⟨rfl, trivial⟩
set_option maxHeartbeats 4000000 in
set_option maxRecDepth 100000 in
theorem cMl_priceAt {P : List Nat} {K : Nat → Nat} {I0 : Nat → Nat → Int32} {O : Nat → Nat → Option Nat} {J0 : Nat → Nat → Int64} (hV : IV P K I0 O) {a0 : Nat} (h0 : a0 ∈ P ∧ K a0 = 3) {x1 : Int32} : Con yMl_priceAt bMl_priceAt 2 (some .int) ({ frames := 0, cells := 0, slots := 0, locals := 0 } : Room) P K I0 O J0 [.ref a0, .int x1] (SPo frP 1 (tt) P K I0 O J0) := by
  refine Con.ofG mfMl_priceAt (Nat.le_of_ble_eq_true rfl) ?_
  intro X C E
  have r1 := rg x1
  have hV0 : SV frP P K O I0 J0 I0 J0 := SV.rf hV
  refine g_iload_n C dMl_priceAt_0 rfl ?_
  refine gt_if_lt 21 C dMl_priceAt_1 (by decide) rfl (fun c_1 => ?_) (fun c_1 => ?_)
  · skip
    refine g_iconst (v := Int32.ofInt (0)) C dMl_priceAt_21 (by decide) ?_
    exact s_iret C E dMl_priceAt_22 ⟨Nat.zero_le _, Nat.zero_le _⟩ hV0 trivial
  · skip
    refine g_aload_n C dMl_priceAt_4 rfl ?_
    refine g_geti C dMl_priceAt_5 fl_Ml_55 h0 ?_
    refine g_iconst (v := Int32.ofInt (1)) C dMl_priceAt_8 (by decide) ?_
    refine gt_icmp_lt 21 C dMl_priceAt_9 (by decide) rfl (ofI (by decide)) (fun c_9 => ?_) (fun c_9 => ?_)
    · skip
      refine g_iconst (v := Int32.ofInt (0)) C dMl_priceAt_21 (by decide) ?_
      exact s_iret C E dMl_priceAt_22 ⟨Nat.zero_le _, Nat.zero_le _⟩ hV0 trivial
    · skip
      refine g_aload_n C dMl_priceAt_12 rfl ?_
      refine g_geti C dMl_priceAt_13 fl_Ml_55 h0 ?_
      refine g_bipush (v := Int32.ofInt (6)) C dMl_priceAt_16 (by decide) ?_
      refine gt_icmp_le 23 C dMl_priceAt_18 (by decide) rfl (ofI (by decide)) (fun c_18 => ?_) (fun c_18 => ?_)
      · skip
        refine g_aload_n C dMl_priceAt_23 rfl ?_
        refine gt_getr C dMl_priceAt_24 fl_Ml_15 h0 hV0.1.1 rfl (fun b_24 q_24 hb_24 => ?_)
        refine g_iload_n C dMl_priceAt_27 rfl ?_
        refine g_aload_n C dMl_priceAt_28 rfl ?_
        refine g_geti C dMl_priceAt_29 fl_Ml_55 h0 ?_
        refine gt_irem ((I0 a0 9).toInt) C dMl_priceAt_32 rfl rfl (by omega) (fun z_32 e_32 => ?_)
        refine gt_iald C dMl_priceAt_33 hb_24 (by decide) rfl rfl (n := 6) rfl (by omega) ?_
        exact s_iret C E dMl_priceAt_34 ⟨Nat.zero_le _, Nat.zero_le _⟩ hV0 trivial
      · skip
        refine g_iconst (v := Int32.ofInt (0)) C dMl_priceAt_21 (by decide) ?_
        exact s_iret C E dMl_priceAt_22 ⟨Nat.zero_le _, Nat.zero_le _⟩ hV0 trivial
set_option maxHeartbeats 4000000 in
set_option maxRecDepth 100000 in
theorem cMl_hardOf {P : List Nat} {K : Nat → Nat} {I0 : Nat → Nat → Int32} {O : Nat → Nat → Option Nat} {J0 : Nat → Nat → Int64} (hV : IV P K I0 O) {a0 : Nat} (h0 : a0 ∈ P ∧ K a0 = 3) {x1 : Int32} : Con yMl_hardOf bMl_hardOf 2 (some .int) ({ frames := 0, cells := 0, slots := 0, locals := 0 } : Room) P K I0 O J0 [.ref a0, .int x1] (SPo frP 1 (tt) P K I0 O J0) := by
  refine Con.ofG mfMl_hardOf (Nat.le_of_ble_eq_true rfl) ?_
  intro X C E
  have r1 := rg x1
  have hV0 : SV frP P K O I0 J0 I0 J0 := SV.rf hV
  refine g_iload_n C dMl_hardOf_0 rfl ?_
  refine gt_if_lt 18 C dMl_hardOf_1 (by decide) rfl (fun c_1 => ?_) (fun c_1 => ?_)
  · skip
    refine g_iconst (v := Int32.ofInt (0)) C dMl_hardOf_18 (by decide) ?_
    exact s_iret C E dMl_hardOf_19 ⟨Nat.zero_le _, Nat.zero_le _⟩ hV0 trivial
  · skip
    refine g_iload_n C dMl_hardOf_4 rfl ?_
    refine g_iconst (v := Int32.ofInt (4)) C dMl_hardOf_5 (by decide) ?_
    refine gt_icmp_ge 18 C dMl_hardOf_6 (by decide) rfl (ofI (by decide)) (fun c_6 => ?_) (fun c_6 => ?_)
    · skip
      refine g_iconst (v := Int32.ofInt (0)) C dMl_hardOf_18 (by decide) ?_
      exact s_iret C E dMl_hardOf_19 ⟨Nat.zero_le _, Nat.zero_le _⟩ hV0 trivial
    · skip
      refine g_aload_n C dMl_hardOf_9 rfl ?_
      refine gt_getr C dMl_hardOf_10 fl_Ml_25 h0 hV0.1.1 rfl (fun b_10 q_10 hb_10 => ?_)
      refine g_iload_n C dMl_hardOf_13 rfl ?_
      refine gt_iald C dMl_hardOf_14 hb_10 (by decide) rfl rfl (n := 4) rfl (by omega) ?_
      refine g_goto 19 C dMl_hardOf_15 (by decide) ?_
      exact s_iret C E dMl_hardOf_19 ⟨Nat.zero_le _, Nat.zero_le _⟩ hV0 trivial
set_option maxHeartbeats 4000000 in
set_option maxRecDepth 100000 in
theorem cMl_tonsOf {P : List Nat} {K : Nat → Nat} {I0 : Nat → Nat → Int32} {O : Nat → Nat → Option Nat} {J0 : Nat → Nat → Int64} (hV : IV P K I0 O) {a0 : Nat} (h0 : a0 ∈ P ∧ K a0 = 3) {x1 : Int32} {x2 : Int32} : Con yMl_tonsOf bMl_tonsOf 3 (some .int) ({ frames := 0, cells := 0, slots := 0, locals := 0 } : Room) P K I0 O J0 [.ref a0, .int x1, .int x2] (SPo frP 1 (tt) P K I0 O J0) := by
  refine Con.ofG mfMl_tonsOf (Nat.le_of_ble_eq_true rfl) ?_
  intro X C E
  have r1 := rg x1
  have r2 := rg x2
  have hV0 : SV frP P K O I0 J0 I0 J0 := SV.rf hV
  refine g_iload_n C dMl_tonsOf_0 rfl ?_
  refine gt_if_lt 18 C dMl_tonsOf_1 (by decide) rfl (fun c_1 => ?_) (fun c_1 => ?_)
  · skip
    refine g_iconst (v := Int32.ofInt (0)) C dMl_tonsOf_18 (by decide) ?_
    exact s_iret C E dMl_tonsOf_19 ⟨Nat.zero_le _, Nat.zero_le _⟩ hV0 trivial
  · skip
    refine g_iload_n C dMl_tonsOf_4 rfl ?_
    refine g_iconst (v := Int32.ofInt (4)) C dMl_tonsOf_5 (by decide) ?_
    refine gt_icmp_ge 18 C dMl_tonsOf_6 (by decide) rfl (ofI (by decide)) (fun c_6 => ?_) (fun c_6 => ?_)
    · skip
      refine g_iconst (v := Int32.ofInt (0)) C dMl_tonsOf_18 (by decide) ?_
      exact s_iret C E dMl_tonsOf_19 ⟨Nat.zero_le _, Nat.zero_le _⟩ hV0 trivial
    · skip
      refine g_iload_n C dMl_tonsOf_9 rfl ?_
      refine gt_if_lt 18 C dMl_tonsOf_10 (by decide) rfl (fun c_10 => ?_) (fun c_10 => ?_)
      · skip
        refine g_iconst (v := Int32.ofInt (0)) C dMl_tonsOf_18 (by decide) ?_
        exact s_iret C E dMl_tonsOf_19 ⟨Nat.zero_le _, Nat.zero_le _⟩ hV0 trivial
      · skip
        refine g_iload_n C dMl_tonsOf_13 rfl ?_
        refine g_iconst (v := Int32.ofInt (5)) C dMl_tonsOf_14 (by decide) ?_
        refine gt_icmp_lt 20 C dMl_tonsOf_15 (by decide) rfl (ofI (by decide)) (fun c_15 => ?_) (fun c_15 => ?_)
        · skip
          refine g_aload_n C dMl_tonsOf_20 rfl ?_
          refine gt_getr C dMl_tonsOf_21 fl_Ml_28 h0 hV0.1.1 rfl (fun b_21 q_21 hb_21 => ?_)
          refine g_iload_n C dMl_tonsOf_24 rfl ?_
          refine g_iconst (v := Int32.ofInt (5)) C dMl_tonsOf_25 (by decide) ?_
          first | refine n_imul C dMl_tonsOf_26 rfl (ofI (by decide)) (by omega) (fun z_26 e_26 => ?_) | refine a_imul C dMl_tonsOf_26 (fun z_26 => ?_)
          refine g_iload_n C dMl_tonsOf_27 rfl ?_
          first | refine n_iadd C dMl_tonsOf_28 rfl rfl (by omega) (fun z_28 e_28 => ?_) | refine a_iadd C dMl_tonsOf_28 (fun z_28 => ?_)
          refine gt_iald C dMl_tonsOf_29 hb_21 (by decide) rfl rfl (n := 20) rfl (by omega) ?_
          exact s_iret C E dMl_tonsOf_30 ⟨Nat.zero_le _, Nat.zero_le _⟩ hV0 trivial
        · skip
          refine g_iconst (v := Int32.ofInt (0)) C dMl_tonsOf_18 (by decide) ?_
          exact s_iret C E dMl_tonsOf_19 ⟨Nat.zero_le _, Nat.zero_le _⟩ hV0 trivial
set_option maxHeartbeats 4000000 in
set_option maxRecDepth 100000 in
theorem cLd_makeEmpty {P : List Nat} {K : Nat → Nat} {I0 : Nat → Nat → Int32} {O : Nat → Nat → Option Nat} {J0 : Nat → Nat → Int64} (hV : IV P K I0 O) {a0 : Nat} (h0 : a0 ∈ P ∧ K a0 = 2) : Con yLd_makeEmpty bLd_makeEmpty 1 none ({ frames := 1, cells := 0, slots := 0, locals := 21 } : Room) P K I0 O J0 [.ref a0] (SPo frN 0 (tt) P K I0 O J0) := by
  refine Con.ofG mfLd_makeEmpty (Nat.le_of_ble_eq_true rfl) ?_
  intro X C E
  have hV0 : SV frN P K O I0 J0 I0 J0 := SV.rf hV
  refine g_aload_n C dLd_makeEmpty_0 rfl ?_
  refine gt_getr C dLd_makeEmpty_1 fl_Ld_9 h0 hV0.1.1 rfl (fun b_1 q_1 hb_1 => ?_)
  refine s_callS_v (av := fun ad => [.ref b_1]) C dLd_makeEmpty_4 mfRM_wipe msRM_wipe ln_Ld_21 hV0 fr_NN (cRM_wipe hV0.1 hb_1 ⟨by decide, rfl, rfl, fun _ _ => trivial, by decide⟩) rfl rfl (Nat.le_of_ble_eq_true rfl) ⟨Nat.le_of_ble_eq_true rfl, Nat.le_of_ble_eq_true rfl⟩ ⟨rfl, rfl⟩ ⟨Nat.zero_le _, Nat.zero_le _⟩ (fun Iw1 Jw1 hVw1 hFw1 p_4 => ?_)
  refine g_aload_n C dLd_makeEmpty_7 rfl ?_
  refine gt_getr C dLd_makeEmpty_8 fl_Ld_15 h0 hVw1.1.1 rfl (fun b_8 q_8 hb_8 => ?_)
  refine s_callS_v (av := fun ad => [.ref b_8]) C dLd_makeEmpty_11 mfRM_wipe msRM_wipe ln_Ld_21 hVw1 fr_NN (cRM_wipe hVw1.1 hb_8 ⟨by decide, rfl, rfl, fun _ _ => trivial, by decide⟩) rfl rfl (Nat.le_of_ble_eq_true rfl) ⟨Nat.le_of_ble_eq_true rfl, Nat.le_of_ble_eq_true rfl⟩ ⟨rfl, rfl⟩ ⟨Nat.zero_le _, Nat.zero_le _⟩ (fun Iw2 Jw2 hVw2 hFw2 p_11 => ?_)
  refine g_aload_n C dLd_makeEmpty_14 rfl ?_
  refine gt_getr C dLd_makeEmpty_15 fl_Ld_18 h0 hVw2.1.1 rfl (fun b_15 q_15 hb_15 => ?_)
  refine s_callS_v (av := fun ad => [.ref b_15]) C dLd_makeEmpty_18 mfRM_wipe msRM_wipe ln_Ld_21 hVw2 fr_NN (cRM_wipe hVw2.1 hb_15 ⟨by decide, rfl, rfl, fun _ _ => trivial, by decide⟩) rfl rfl (Nat.le_of_ble_eq_true rfl) ⟨Nat.le_of_ble_eq_true rfl, Nat.le_of_ble_eq_true rfl⟩ ⟨rfl, rfl⟩ ⟨Nat.zero_le _, Nat.zero_le _⟩ (fun Iw3 Jw3 hVw3 hFw3 p_18 => ?_)
  exact s_vret C E dLd_makeEmpty_21 ⟨Nat.zero_le _, Nat.zero_le _⟩ hVw3 trivial
set_option maxHeartbeats 4000000 in
set_option maxRecDepth 100000 in
theorem cLd_copyFrom {P : List Nat} {K : Nat → Nat} {I0 : Nat → Nat → Int32} {O : Nat → Nat → Option Nat} {J0 : Nat → Nat → Int64} (hV : IV P K I0 O) {a0 : Nat} (h0 : a0 ∈ P ∧ K a0 = 2) {a1 : Nat} (h1 : a1 ∈ P ∧ K a1 = 2) : Con yLd_copyFrom bLd_copyFrom 2 none ({ frames := 1, cells := 0, slots := 0, locals := 22 } : Room) P K I0 O J0 [.ref a0, .ref a1] (SPo frN 0 (tt) P K I0 O J0) := by
  refine Con.ofG mfLd_copyFrom (Nat.le_of_ble_eq_true rfl) ?_
  intro X C E
  have hV0 : SV frN P K O I0 J0 I0 J0 := SV.rf hV
  refine g_aload_n C dLd_copyFrom_0 rfl ?_
  refine gt_getr C dLd_copyFrom_1 fl_Ld_9 h1 hV0.1.1 rfl (fun b_1 q_1 hb_1 => ?_)
  refine g_aload_n C dLd_copyFrom_4 rfl ?_
  refine gt_getr C dLd_copyFrom_5 fl_Ld_9 h0 hV0.1.1 rfl (fun b_5 q_5 hb_5 => ?_)
  refine s_callS_v (av := fun ad => [.ref b_1, .ref b_5]) C dLd_copyFrom_8 mfRM_copyRow msRM_copyRow ln_Ld_25 hV0 fr_NN (cRM_copyRow hV0.1 hb_1 ⟨by decide, rfl, rfl, fun _ _ => trivial, by decide⟩ hb_5 ⟨by decide, rfl, rfl, fun _ _ => trivial, by decide⟩) rfl rfl (Nat.le_of_ble_eq_true rfl) ⟨Nat.le_of_ble_eq_true rfl, Nat.le_of_ble_eq_true rfl⟩ ⟨rfl, rfl⟩ ⟨Nat.zero_le _, Nat.zero_le _⟩ (fun Iw1 Jw1 hVw1 hFw1 p_8 => ?_)
  refine g_aload_n C dLd_copyFrom_11 rfl ?_
  refine gt_getr C dLd_copyFrom_12 fl_Ld_15 h1 hVw1.1.1 rfl (fun b_12 q_12 hb_12 => ?_)
  refine g_aload_n C dLd_copyFrom_15 rfl ?_
  refine gt_getr C dLd_copyFrom_16 fl_Ld_15 h0 hVw1.1.1 rfl (fun b_16 q_16 hb_16 => ?_)
  refine s_callS_v (av := fun ad => [.ref b_12, .ref b_16]) C dLd_copyFrom_19 mfRM_copyRow msRM_copyRow ln_Ld_25 hVw1 fr_NN (cRM_copyRow hVw1.1 hb_12 ⟨by decide, rfl, rfl, fun _ _ => trivial, by decide⟩ hb_16 ⟨by decide, rfl, rfl, fun _ _ => trivial, by decide⟩) rfl rfl (Nat.le_of_ble_eq_true rfl) ⟨Nat.le_of_ble_eq_true rfl, Nat.le_of_ble_eq_true rfl⟩ ⟨rfl, rfl⟩ ⟨Nat.zero_le _, Nat.zero_le _⟩ (fun Iw2 Jw2 hVw2 hFw2 p_19 => ?_)
  refine g_aload_n C dLd_copyFrom_22 rfl ?_
  refine gt_getr C dLd_copyFrom_23 fl_Ld_18 h1 hVw2.1.1 rfl (fun b_23 q_23 hb_23 => ?_)
  refine g_aload_n C dLd_copyFrom_26 rfl ?_
  refine gt_getr C dLd_copyFrom_27 fl_Ld_18 h0 hVw2.1.1 rfl (fun b_27 q_27 hb_27 => ?_)
  refine s_callS_v (av := fun ad => [.ref b_23, .ref b_27]) C dLd_copyFrom_30 mfRM_copyRow msRM_copyRow ln_Ld_25 hVw2 fr_NN (cRM_copyRow hVw2.1 hb_23 ⟨by decide, rfl, rfl, fun _ _ => trivial, by decide⟩ hb_27 ⟨by decide, rfl, rfl, fun _ _ => trivial, by decide⟩) rfl rfl (Nat.le_of_ble_eq_true rfl) ⟨Nat.le_of_ble_eq_true rfl, Nat.le_of_ble_eq_true rfl⟩ ⟨rfl, rfl⟩ ⟨Nat.zero_le _, Nat.zero_le _⟩ (fun Iw3 Jw3 hVw3 hFw3 p_30 => ?_)
  exact s_vret C E dLd_copyFrom_33 ⟨Nat.zero_le _, Nat.zero_le _⟩ hVw3 trivial
set_option maxHeartbeats 4000000 in
set_option maxRecDepth 100000 in
theorem cLd_takeBack {P : List Nat} {K : Nat → Nat} {I0 : Nat → Nat → Int32} {O : Nat → Nat → Option Nat} {J0 : Nat → Nat → Int64} (hV : IV P K I0 O) {a0 : Nat} (h0 : a0 ∈ P ∧ K a0 = 2) : Con yLd_takeBack bLd_takeBack 2 none ({ frames := 0, cells := 0, slots := 0, locals := 0 } : Room) P K I0 O J0 [.ref a0] (SPo frN 0 (tt) P K I0 O J0) := by
  refine Con.ofG mfLd_takeBack (Nat.le_of_ble_eq_true rfl) ?_
  intro X C E
  have hV0 : SV frN P K O I0 J0 I0 J0 := SV.rf hV
  refine g_iconst (v := Int32.ofInt (0)) C dLd_takeBack_0 (by decide) ?_
  refine g_istore_n (i := 1) C dLd_takeBack_1 rfl (by decide) ?_
  have lp_2 : ∀ (nn_2 : Nat) (x1_2 : Int32) (Iw1 : Nat → Nat → Int32) (Jw1 : Nat → Nat → Int64), Int.toNat (5 - x1_2.toInt) = nn_2 → (0 ≤ Int32.toInt x1_2 ∧ Int32.toInt x1_2 ≤ 5) → SV frN P K O I0 J0 Iw1 Jw1 → GG X 2 P K Iw1 O Jw1 0 0 2 [(0, .ref a0), (1, .int x1_2)] [] := by
    intro nn_2
    induction nn_2 using Nat.strongRecOn with
    | ind nn_2 ih_2 =>
    intro x1_2 Iw1 Jw1 hn_2 iv0_2 hVw1
    have rg1_2 := rg x1_2
    refine g_iload_n C dLd_takeBack_2 rfl ?_
    refine g_iconst (v := Int32.ofInt (5)) C dLd_takeBack_3 (by decide) ?_
    refine gt_icmp_ge 35 C dLd_takeBack_4 (by decide) rfl (ofI (by decide)) (fun c_4 => ?_) (fun c_4 => ?_)
    · skip
      exact s_vret C E dLd_takeBack_35 ⟨Nat.zero_le _, Nat.zero_le _⟩ hVw1 trivial
    · skip
      refine g_aload_n C dLd_takeBack_7 rfl ?_
      refine gt_getr C dLd_takeBack_8 fl_Ld_9 h0 hVw1.1.1 rfl (fun b_8 q_8 hb_8 => ?_)
      refine g_iload_n C dLd_takeBack_11 rfl ?_
      refine g_dup2 C dLd_takeBack_12 rfl rfl ?_
      refine gt_iald C dLd_takeBack_13 hb_8 (by decide) rfl rfl (n := 5) rfl (by omega) ?_
      refine g_aload_n C dLd_takeBack_14 rfl ?_
      refine gt_getr C dLd_takeBack_15 fl_Ld_15 h0 hVw1.1.1 rfl (fun b_15 q_15 hb_15 => ?_)
      refine g_iload_n C dLd_takeBack_18 rfl ?_
      refine gt_iald C dLd_takeBack_19 hb_15 (by decide) rfl rfl (n := 5) rfl (by omega) ?_
      first | refine n_iadd C dLd_takeBack_20 rfl rfl (by omega) (fun z_20 e_20 => ?_) | refine a_iadd C dLd_takeBack_20 (fun z_20 => ?_)
      refine gt_iast C dLd_takeBack_21 hb_8 (by decide) rfl rfl (n := 5) rfl (by omega) hVw1 rfl trivial (fun Iw2 eIw2 hVw2 => ?_)
      refine g_aload_n C dLd_takeBack_22 rfl ?_
      refine gt_getS C dLd_takeBack_23 fl_Ld_15 h0 q_15 ?_
      refine g_iload_n C dLd_takeBack_26 rfl ?_
      refine g_iconst (v := Int32.ofInt (0)) C dLd_takeBack_27 (by decide) ?_
      refine gt_iast C dLd_takeBack_28 hb_15 (by decide) rfl rfl (n := 5) rfl (by omega) hVw2 rfl trivial (fun Iw3 eIw3 hVw3 => ?_)
      first | refine n_iinc C dLd_takeBack_29 rfl rfl (by decide) (by decide) (by omega) (fun z_29 e_29 => ?_) | refine a_iinc C dLd_takeBack_29 rfl (by decide) (fun z_29 => ?_)
      refine g_goto 2 C dLd_takeBack_32 (by decide) ?_
      exact g_sub (ih_2 _ (by omega) z_29 Iw3 Jw1 rfl (by omega) hVw3) ⟨rfl, rfl, trivial⟩
  exact g_sub (lp_2 _ (Int32.ofInt (0)) I0 J0 rfl (by have hci : Int32.toInt (Int32.ofInt (0)) = 0 := ofI (by decide); omega) hV0) ⟨rfl, rfl, trivial⟩
set_option maxHeartbeats 4000000 in
set_option maxRecDepth 100000 in
theorem cLd_breakUp {P : List Nat} {K : Nat → Nat} {I0 : Nat → Nat → Int32} {O : Nat → Nat → Option Nat} {J0 : Nat → Nat → Int64} (hV : IV P K I0 O) {a0 : Nat} (h0 : a0 ∈ P ∧ K a0 = 2) {a1 : Nat} (h1 : a1 ∈ P ∧ K a1 = 3) {x2 : Int32} : Con yLd_breakUp bLd_breakUp 7 none ({ frames := 1, cells := 0, slots := 0, locals := 22 } : Room) P K I0 O J0 [.ref a0, .ref a1, .int x2] (SPo frN 0 (tt) P K I0 O J0) := by
  refine Con.ofG mfLd_breakUp (Nat.le_of_ble_eq_true rfl) ?_
  intro X C E
  have r2 := rg x2
  have hV0 : SV frN P K O I0 J0 I0 J0 := SV.rf hV
  refine g_aload_n C dLd_breakUp_0 rfl ?_
  refine g_geti C dLd_breakUp_1 fl_Ld_29 h1 ?_
  have o_1 := hV0.1.2 a1 h1.1 7
  rw [h1.2] at o_1
  have o_1 : 0 ≤ (I0 a1 7).toInt ∧ (I0 a1 7).toInt ≤ 5 := o_1
  refine g_iconst (v := Int32.ofInt (5)) C dLd_breakUp_4 (by decide) ?_
  refine gt_min C dLd_breakUp_5 ml_Ld_35 (Nat.le_of_ble_eq_true rfl) ⟨Nat.le_of_ble_eq_true rfl, Nat.le_of_ble_eq_true rfl⟩ ⟨Nat.zero_le _, Nat.zero_le _⟩ (fun z_5 e_5 => ?_)
  have k_5 : Int32.toInt (Int32.ofInt (5)) = 5 := ofI (by decide)
  refine g_iconst (v := Int32.ofInt (1)) C dLd_breakUp_8 (by decide) ?_
  first | refine n_isub C dLd_breakUp_9 rfl (ofI (by decide)) (by omega) (fun z_9 e_9 => ?_) | refine a_isub C dLd_breakUp_9 (fun z_9 => ?_)
  refine g_istore_n (i := 3) C dLd_breakUp_10 rfl (by decide) ?_
  refine g_iload_n C dLd_breakUp_11 rfl ?_
  refine g_iconst (v := Int32.ofInt (1)) C dLd_breakUp_12 (by decide) ?_
  first | refine n_isub C dLd_breakUp_13 rfl (ofI (by decide)) (by omega) (fun z_13 e_13 => ?_) | refine a_isub C dLd_breakUp_13 (fun z_13 => ?_)
  refine g_istore C dLd_breakUp_14 (by decide) ?_
  have lp_16 : ∀ (nn_16 : Nat) (x4_16 : Int32) (Iw1 : Nat → Nat → Int32) (Jw1 : Nat → Nat → Int64), Int.toNat (x4_16.toInt + 3) = nn_16 → (-2 ≤ Int32.toInt x4_16 ∧ Int32.toInt x4_16 ≤ 3) → SV frN P K O I0 J0 Iw1 Jw1 → GG X 7 P K Iw1 O Jw1 0 0 16 [(0, .ref a0), (1, .ref a1), (2, .int x2), (3, .int z_9), (4, .int x4_16)] [] := by
    intro nn_16
    induction nn_16 using Nat.strongRecOn with
    | ind nn_16 ih_16 =>
    intro x4_16 Iw1 Jw1 hn_16 iv0_16 hVw1
    have rg4_16 := rg x4_16
    refine g_iload C dLd_breakUp_16 rfl ?_
    refine gt_if_lt 131 C dLd_breakUp_18 (by decide) rfl (fun c_18 => ?_) (fun c_18 => ?_)
    · skip
      exact s_vret C E dLd_breakUp_131 ⟨Nat.zero_le _, Nat.zero_le _⟩ hVw1 trivial
    · skip
      refine g_aload_n C dLd_breakUp_21 rfl ?_
      refine gt_getr C dLd_breakUp_22 fl_Ld_9 h0 hVw1.1.1 rfl (fun b_22 q_22 hb_22 => ?_)
      refine g_iload C dLd_breakUp_25 rfl ?_
      refine gt_iald C dLd_breakUp_27 hb_22 (by decide) rfl rfl (n := 5) rfl (by omega) ?_
      refine g_aload_n C dLd_breakUp_28 rfl ?_
      refine gt_getr C dLd_breakUp_29 fl_Ld_41 h1 hVw1.1.1 rfl (fun b_29 q_29 hb_29 => ?_)
      refine g_iload C dLd_breakUp_32 rfl ?_
      refine gt_iald C dLd_breakUp_34 hb_29 (by decide) rfl rfl (n := 5) rfl (by omega) ?_
      refine g_iload_n C dLd_breakUp_35 rfl ?_
      refine a_imul C dLd_breakUp_36 (fun z_36 => ?_)
      refine g_sipush (v := Int32.ofInt (10000)) C dLd_breakUp_37 (by decide) ?_
      refine s_callS_ip (av := fun ad => [.int (Iw1 b_22 x4_16.toNatClampNeg), .int z_36, .int (Int32.ofInt (10000))]) C dLd_breakUp_40 mfRM_share msRM_share ln_Ld_44 (cRM_share hVw1.1 ) rfl rfl (Nat.le_of_ble_eq_true rfl) ⟨Nat.le_of_ble_eq_true rfl, Nat.le_of_ble_eq_true rfl⟩ ⟨rfl, rfl⟩ ⟨Nat.zero_le _, Nat.zero_le _⟩ (fun z_40 p_40 => ?_)
      have rz_40 := rg z_40
      refine g_istore C dLd_breakUp_43 (by decide) ?_
      refine g_iload C dLd_breakUp_45 rfl ?_
      refine g_iconst (v := Int32.ofInt (2)) C dLd_breakUp_47 (by decide) ?_
      first | refine n_iadd C dLd_breakUp_48 rfl (ofI (by decide)) (by omega) (fun z_48 e_48 => ?_) | refine a_iadd C dLd_breakUp_48 (fun z_48 => ?_)
      refine g_iload_n C dLd_breakUp_49 rfl ?_
      have jn_72 : ∀  (s0_72 : Int32) (Iw3 : Nat → Nat → Int32) (Jw3 : Nat → Nat → Int64),  SV frN P K O I0 J0 Iw3 Jw3 → GG X 7 P K Iw3 O Jw3 0 0 72 [(0, .ref a0), (1, .ref a1), (2, .int x2), (3, .int z_9), (4, .int x4_16), (5, .int z_40)] [.int s0_72] := by
        intro s0_72 Iw3 Jw3 hVw3
        refine g_istore C dLd_breakUp_72 (by decide) ?_
        refine g_aload_n C dLd_breakUp_74 rfl ?_
        refine gt_getS C dLd_breakUp_75 fl_Ld_9 h0 q_22 ?_
        refine g_iload C dLd_breakUp_78 rfl ?_
        refine g_dup2 C dLd_breakUp_80 rfl rfl ?_
        refine gt_iald C dLd_breakUp_81 hb_22 (by decide) rfl rfl (n := 5) rfl (by omega) ?_
        refine g_iload C dLd_breakUp_82 rfl ?_
        first | refine n_isub C dLd_breakUp_84 rfl rfl (by omega) (fun z_84 e_84 => ?_) | refine a_isub C dLd_breakUp_84 (fun z_84 => ?_)
        refine gt_iast C dLd_breakUp_85 hb_22 (by decide) rfl rfl (n := 5) rfl (by omega) hVw3 rfl trivial (fun Iw4 eIw4 hVw4 => ?_)
        refine g_aload_n C dLd_breakUp_86 rfl ?_
        refine gt_getS C dLd_breakUp_87 fl_Ld_9 h0 q_22 ?_
        refine g_iload C dLd_breakUp_90 rfl ?_
        refine g_iconst (v := Int32.ofInt (1)) C dLd_breakUp_92 (by decide) ?_
        first | refine n_iadd C dLd_breakUp_93 rfl (ofI (by decide)) (by omega) (fun z_93 e_93 => ?_) | refine a_iadd C dLd_breakUp_93 (fun z_93 => ?_)
        refine g_dup2 C dLd_breakUp_94 rfl rfl ?_
        refine gt_iald C dLd_breakUp_95 hb_22 (by decide) rfl rfl (n := 5) rfl (by omega) ?_
        refine g_iload C dLd_breakUp_96 rfl ?_
        first | refine n_iadd C dLd_breakUp_98 rfl rfl (by omega) (fun z_98 e_98 => ?_) | refine a_iadd C dLd_breakUp_98 (fun z_98 => ?_)
        refine gt_iast C dLd_breakUp_99 hb_22 (by decide) rfl rfl (n := 5) rfl (by omega) hVw4 rfl trivial (fun Iw5 eIw5 hVw5 => ?_)
        refine g_iload C dLd_breakUp_100 rfl ?_
        refine g_iconst (v := Int32.ofInt (2)) C dLd_breakUp_102 (by decide) ?_
        first | refine n_iadd C dLd_breakUp_103 rfl (ofI (by decide)) (by omega) (fun z_103 e_103 => ?_) | refine a_iadd C dLd_breakUp_103 (fun z_103 => ?_)
        refine g_iload_n C dLd_breakUp_104 rfl ?_
        have jn_125 : ∀   (Iw6 : Nat → Nat → Int32) (Jw6 : Nat → Nat → Int64),  SV frN P K O I0 J0 Iw6 Jw6 → GG X 7 P K Iw6 O Jw6 0 0 125 [(0, .ref a0), (1, .ref a1), (2, .int x2), (3, .int z_9), (4, .int x4_16), (5, .int z_40), (6, .int s0_72)] [] := by
          intro Iw6 Jw6 hVw6
          first | refine n_iinc C dLd_breakUp_125 rfl rfl (by decide) (by decide) (by omega) (fun z_125 e_125 => ?_) | refine a_iinc C dLd_breakUp_125 rfl (by decide) (fun z_125 => ?_)
          refine g_goto 16 C dLd_breakUp_128 (by decide) ?_
          exact g_sub (ih_16 _ (by omega) z_125 Iw6 Jw6 rfl (by omega) hVw6) ⟨rfl, rfl, rfl, rfl, rfl, trivial⟩
        refine gt_icmp_gt 125 C dLd_breakUp_105 (by decide) rfl rfl (fun c_105 => ?_) (fun c_105 => ?_)
        · skip
          exact g_sub (jn_125  Iw5 Jw3  hVw5) ⟨rfl, rfl, rfl, rfl, rfl, rfl, rfl, trivial⟩
        · skip
          refine g_aload_n C dLd_breakUp_108 rfl ?_
          refine gt_getS C dLd_breakUp_109 fl_Ld_9 h0 q_22 ?_
          refine g_iload C dLd_breakUp_112 rfl ?_
          refine g_iconst (v := Int32.ofInt (2)) C dLd_breakUp_114 (by decide) ?_
          first | refine n_iadd C dLd_breakUp_115 rfl (ofI (by decide)) (by omega) (fun z_115 e_115 => ?_) | refine a_iadd C dLd_breakUp_115 (fun z_115 => ?_)
          refine g_dup2 C dLd_breakUp_116 rfl rfl ?_
          refine gt_iald C dLd_breakUp_117 hb_22 (by decide) rfl rfl (n := 5) rfl (by omega) ?_
          refine g_iload C dLd_breakUp_118 rfl ?_
          refine g_iload C dLd_breakUp_120 rfl ?_
          first | refine n_isub C dLd_breakUp_122 rfl rfl (by omega) (fun z_122 e_122 => ?_) | refine a_isub C dLd_breakUp_122 (fun z_122 => ?_)
          first | refine n_iadd C dLd_breakUp_123 rfl rfl (by omega) (fun z_123 e_123 => ?_) | refine a_iadd C dLd_breakUp_123 (fun z_123 => ?_)
          refine gt_iast C dLd_breakUp_124 hb_22 (by decide) rfl rfl (n := 5) rfl (by omega) hVw5 rfl trivial (fun Iw7 eIw7 hVw7 => ?_)
          exact g_sub (jn_125  Iw7 Jw3  hVw7) ⟨rfl, rfl, rfl, rfl, rfl, rfl, rfl, trivial⟩
      refine gt_icmp_le 58 C dLd_breakUp_50 (by decide) rfl rfl (fun c_50 => ?_) (fun c_50 => ?_)
      · skip
        refine g_iload C dLd_breakUp_58 rfl ?_
        refine g_aload_n C dLd_breakUp_60 rfl ?_
        refine gt_getr C dLd_breakUp_61 fl_Ld_48 h1 hVw1.1.1 rfl (fun b_61 q_61 hb_61 => ?_)
        refine g_iload C dLd_breakUp_64 rfl ?_
        refine gt_iald C dLd_breakUp_66 hb_61 (by decide) rfl rfl (n := 5) rfl (by omega) ?_
        refine g_bipush (v := Int32.ofInt (100)) C dLd_breakUp_67 (by decide) ?_
        refine s_callS_ip (av := fun ad => [.int z_40, .int (Iw1 b_61 x4_16.toNatClampNeg), .int (Int32.ofInt (100))]) C dLd_breakUp_69 mfRM_share msRM_share ln_Ld_44 (cRM_share hVw1.1 ) rfl rfl (Nat.le_of_ble_eq_true rfl) ⟨Nat.le_of_ble_eq_true rfl, Nat.le_of_ble_eq_true rfl⟩ ⟨rfl, rfl⟩ ⟨Nat.zero_le _, Nat.zero_le _⟩ (fun z_69 p_69 => ?_)
        have rz_69 := rg z_69
        exact g_sub (jn_72 z_69 Iw1 Jw1  hVw1) ⟨rfl, rfl, rfl, rfl, rfl, rfl, trivial⟩
      · skip
        refine g_iload C dLd_breakUp_53 rfl ?_
        refine g_goto 72 C dLd_breakUp_55 (by decide) ?_
        exact g_sub (jn_72 z_40 Iw1 Jw1  hVw1) ⟨rfl, rfl, rfl, rfl, rfl, rfl, trivial⟩
  exact g_sub (lp_16 _ z_13 I0 J0 rfl (by omega) hV0) ⟨rfl, rfl, rfl, rfl, rfl, trivial⟩
set_option maxHeartbeats 4000000 in
set_option maxRecDepth 100000 in
theorem cLd_sift {P : List Nat} {K : Nat → Nat} {I0 : Nat → Nat → Int32} {O : Nat → Nat → Option Nat} {J0 : Nat → Nat → Int64} (hV : IV P K I0 O) {a0 : Nat} (h0 : a0 ∈ P ∧ K a0 = 2) {a1 : Nat} (h1 : a1 ∈ P ∧ K a1 = 3) {x2 : Int32} {x3 : Int32} : Con yLd_sift bLd_sift 7 none ({ frames := 1, cells := 0, slots := 0, locals := 22 } : Room) P K I0 O J0 [.ref a0, .ref a1, .int x2, .int x3] (SPo frN 0 (tt) P K I0 O J0) := by
  refine Con.ofG mfLd_sift (Nat.le_of_ble_eq_true rfl) ?_
  intro X C E
  have r2 := rg x2
  have r3 := rg x3
  have hV0 : SV frN P K O I0 J0 I0 J0 := SV.rf hV
  refine g_iload_n C dLd_sift_0 rfl ?_
  refine g_aload_n C dLd_sift_1 rfl ?_
  refine g_geti C dLd_sift_2 fl_Ld_51 h1 ?_
  refine a_imul C dLd_sift_5 (fun z_5 => ?_)
  refine g_bipush (v := Int32.ofInt (100)) C dLd_sift_6 (by decide) ?_
  refine gt_min C dLd_sift_8 ml_Ld_35 (Nat.le_of_ble_eq_true rfl) ⟨Nat.le_of_ble_eq_true rfl, Nat.le_of_ble_eq_true rfl⟩ ⟨Nat.zero_le _, Nat.zero_le _⟩ (fun z_8 e_8 => ?_)
  have k_8 : Int32.toInt (Int32.ofInt (100)) = 100 := ofI (by decide)
  refine g_istore C dLd_sift_11 (by decide) ?_
  refine g_iconst (v := Int32.ofInt (0)) C dLd_sift_13 (by decide) ?_
  refine g_istore C dLd_sift_14 (by decide) ?_
  have lp_16 : ∀ (nn_16 : Nat) (x5_16 : Int32) (Iw1 : Nat → Nat → Int32) (Jw1 : Nat → Nat → Int64), Int.toNat (5 - x5_16.toInt) = nn_16 → (0 ≤ Int32.toInt x5_16 ∧ Int32.toInt x5_16 ≤ 5) → SV frN P K O I0 J0 Iw1 Jw1 → GG X 7 P K Iw1 O Jw1 0 0 16 [(0, .ref a0), (1, .ref a1), (2, .int x2), (3, .int x3), (4, .int z_8), (5, .int x5_16)] [] := by
    intro nn_16
    induction nn_16 using Nat.strongRecOn with
    | ind nn_16 ih_16 =>
    intro x5_16 Iw1 Jw1 hn_16 iv0_16 hVw1
    have rg5_16 := rg x5_16
    refine g_iload C dLd_sift_16 rfl ?_
    refine g_iconst (v := Int32.ofInt (5)) C dLd_sift_18 (by decide) ?_
    refine gt_icmp_ge 108 C dLd_sift_19 (by decide) rfl (ofI (by decide)) (fun c_19 => ?_) (fun c_19 => ?_)
    · skip
      exact s_vret C E dLd_sift_108 ⟨Nat.zero_le _, Nat.zero_le _⟩ hVw1 trivial
    · skip
      refine g_aload_n C dLd_sift_22 rfl ?_
      refine gt_getr C dLd_sift_23 fl_Ld_9 h0 hVw1.1.1 rfl (fun b_23 q_23 hb_23 => ?_)
      refine g_iload C dLd_sift_26 rfl ?_
      refine gt_iald C dLd_sift_28 hb_23 (by decide) rfl rfl (n := 5) rfl (by omega) ?_
      refine g_bipush (v := Int32.ofInt (20)) C dLd_sift_29 (by decide) ?_
      refine g_bipush (v := Int32.ofInt (10)) C dLd_sift_31 (by decide) ?_
      refine g_iload_n C dLd_sift_33 rfl ?_
      first | refine n_imul C dLd_sift_34 (ofI (by decide)) rfl (by omega) (fun z_34 e_34 => ?_) | refine a_imul C dLd_sift_34 (fun z_34 => ?_)
      first | refine n_iadd C dLd_sift_35 (ofI (by decide)) rfl (by omega) (fun z_35 e_35 => ?_) | refine a_iadd C dLd_sift_35 (fun z_35 => ?_)
      refine g_bipush (v := Int32.ofInt (100)) C dLd_sift_36 (by decide) ?_
      refine s_callS_ip (av := fun ad => [.int (Iw1 b_23 x5_16.toNatClampNeg), .int z_35, .int (Int32.ofInt (100))]) C dLd_sift_38 mfRM_share msRM_share ln_Ld_44 (cRM_share hVw1.1 ) rfl rfl (Nat.le_of_ble_eq_true rfl) ⟨Nat.le_of_ble_eq_true rfl, Nat.le_of_ble_eq_true rfl⟩ ⟨rfl, rfl⟩ ⟨Nat.zero_le _, Nat.zero_le _⟩ (fun z_38 p_38 => ?_)
      have rz_38 := rg z_38
      refine g_istore C dLd_sift_41 (by decide) ?_
      refine g_aload_n C dLd_sift_43 rfl ?_
      refine gt_getS C dLd_sift_44 fl_Ld_9 h0 q_23 ?_
      refine g_iload C dLd_sift_47 rfl ?_
      refine g_dup2 C dLd_sift_49 rfl rfl ?_
      refine gt_iald C dLd_sift_50 hb_23 (by decide) rfl rfl (n := 5) rfl (by omega) ?_
      refine g_iload C dLd_sift_51 rfl ?_
      first | refine n_isub C dLd_sift_53 rfl rfl (by omega) (fun z_53 e_53 => ?_) | refine a_isub C dLd_sift_53 (fun z_53 => ?_)
      refine gt_iast C dLd_sift_54 hb_23 (by decide) rfl rfl (n := 5) rfl (by omega) hVw1 rfl trivial (fun Iw3 eIw3 hVw3 => ?_)
      refine g_aload_n C dLd_sift_55 rfl ?_
      refine gt_getr C dLd_sift_56 fl_Ld_18 h0 hVw3.1.1 rfl (fun b_56 q_56 hb_56 => ?_)
      refine g_iload C dLd_sift_59 rfl ?_
      refine g_iload C dLd_sift_61 rfl ?_
      refine g_aload_n C dLd_sift_63 rfl ?_
      refine g_geti C dLd_sift_64 fl_Ld_54 h1 ?_
      have jn_84 : ∀  (s0_84 : Int32) (Iw4 : Nat → Nat → Int32) (Jw4 : Nat → Nat → Int64),  SV frN P K O I0 J0 Iw4 Jw4 → GG X 7 P K Iw4 O Jw4 0 0 84 [(0, .ref a0), (1, .ref a1), (2, .int x2), (3, .int x3), (4, .int z_8), (5, .int x5_16), (6, .int z_38)] [.int s0_84, .int x5_16, .ref b_56] := by
        intro s0_84 Iw4 Jw4 hVw4
        refine gt_iast C dLd_sift_84 hb_56 (by decide) rfl rfl (n := 5) rfl (by omega) hVw4 rfl trivial (fun Iw5 eIw5 hVw5 => ?_)
        refine g_aload_n C dLd_sift_85 rfl ?_
        refine gt_getr C dLd_sift_86 fl_Ld_15 h0 hVw5.1.1 rfl (fun b_86 q_86 hb_86 => ?_)
        refine g_iload C dLd_sift_89 rfl ?_
        refine g_iload C dLd_sift_91 rfl ?_
        refine g_aload_n C dLd_sift_93 rfl ?_
        refine gt_getS C dLd_sift_94 fl_Ld_18 h0 q_56 ?_
        refine g_iload C dLd_sift_97 rfl ?_
        refine gt_iald C dLd_sift_99 hb_56 (by decide) rfl rfl (n := 5) rfl (by omega) ?_
        first | refine n_isub C dLd_sift_100 rfl rfl (by omega) (fun z_100 e_100 => ?_) | refine a_isub C dLd_sift_100 (fun z_100 => ?_)
        refine gt_iast C dLd_sift_101 hb_86 (by decide) rfl rfl (n := 5) rfl (by omega) hVw5 rfl trivial (fun Iw6 eIw6 hVw6 => ?_)
        first | refine n_iinc C dLd_sift_102 rfl rfl (by decide) (by decide) (by omega) (fun z_102 e_102 => ?_) | refine a_iinc C dLd_sift_102 rfl (by decide) (fun z_102 => ?_)
        refine g_goto 16 C dLd_sift_105 (by decide) ?_
        exact g_sub (ih_16 _ (by omega) z_102 Iw6 Jw4 rfl (by omega) hVw6) ⟨rfl, rfl, rfl, rfl, rfl, rfl, trivial⟩
      refine gt_icmp_ge 82 C dLd_sift_67 (by decide) rfl rfl (fun c_67 => ?_) (fun c_67 => ?_)
      · skip
        refine g_iload C dLd_sift_82 rfl ?_
        exact g_sub (jn_84 z_38 Iw3 Jw1  hVw3) ⟨rfl, rfl, rfl, rfl, rfl, rfl, rfl, trivial⟩
      · skip
        refine g_iload C dLd_sift_70 rfl ?_
        refine g_iload C dLd_sift_72 rfl ?_
        refine g_bipush (v := Int32.ofInt (100)) C dLd_sift_74 (by decide) ?_
        refine s_callS_ip (av := fun ad => [.int z_38, .int z_8, .int (Int32.ofInt (100))]) C dLd_sift_76 mfRM_share msRM_share ln_Ld_44 (cRM_share hVw3.1 ) rfl rfl (Nat.le_of_ble_eq_true rfl) ⟨Nat.le_of_ble_eq_true rfl, Nat.le_of_ble_eq_true rfl⟩ ⟨rfl, rfl⟩ ⟨Nat.zero_le _, Nat.zero_le _⟩ (fun z_76 p_76 => ?_)
        have rz_76 := rg z_76
        refine g_goto 84 C dLd_sift_79 (by decide) ?_
        exact g_sub (jn_84 z_76 Iw3 Jw1  hVw3) ⟨rfl, rfl, rfl, rfl, rfl, rfl, rfl, trivial⟩
  exact g_sub (lp_16 _ (Int32.ofInt (0)) I0 J0 rfl (by have hci : Int32.toInt (Int32.ofInt (0)) = 0 := ofI (by decide); omega) hV0) ⟨rfl, rfl, rfl, rfl, rfl, rfl, trivial⟩
set_option maxHeartbeats 4000000 in
set_option maxRecDepth 100000 in
theorem cLd_digOut {P : List Nat} {K : Nat → Nat} {I0 : Nat → Nat → Int32} {O : Nat → Nat → Option Nat} {J0 : Nat → Nat → Int64} (hV : IV P K I0 O) {a0 : Nat} (h0 : a0 ∈ P ∧ K a0 = 2) : Con yLd_digOut bLd_digOut 4 (some .int) ({ frames := 1, cells := 0, slots := 0, locals := 21 } : Room) P K I0 O J0 [.ref a0] (SPo frN 1 (tt) P K I0 O J0) := by
  refine Con.ofG mfLd_digOut (Nat.le_of_ble_eq_true rfl) ?_
  intro X C E
  have hV0 : SV frN P K O I0 J0 I0 J0 := SV.rf hV
  refine g_iconst (v := Int32.ofInt (0)) C dLd_digOut_0 (by decide) ?_
  refine g_istore_n (i := 1) C dLd_digOut_1 rfl (by decide) ?_
  refine g_iconst (v := Int32.ofInt (0)) C dLd_digOut_2 (by decide) ?_
  refine g_istore_n (i := 2) C dLd_digOut_3 rfl (by decide) ?_
  have lp_4 : ∀ (nn_4 : Nat) (x1_4 : Int32) (x2_4 : Int32) (Iw1 : Nat → Nat → Int32) (Jw1 : Nat → Nat → Int64), Int.toNat (5 - x2_4.toInt) = nn_4 → (0 ≤ Int32.toInt x2_4 ∧ Int32.toInt x2_4 ≤ 5) → SV frN P K O I0 J0 Iw1 Jw1 → GG X 4 P K Iw1 O Jw1 0 0 4 [(0, .ref a0), (1, .int x1_4), (2, .int x2_4)] [] := by
    intro nn_4
    induction nn_4 using Nat.strongRecOn with
    | ind nn_4 ih_4 =>
    intro x1_4 x2_4 Iw1 Jw1 hn_4 iv0_4 hVw1
    have rg1_4 := rg x1_4
    have rg2_4 := rg x2_4
    refine g_iload_n C dLd_digOut_4 rfl ?_
    refine g_iconst (v := Int32.ofInt (5)) C dLd_digOut_5 (by decide) ?_
    refine gt_icmp_ge 50 C dLd_digOut_6 (by decide) rfl (ofI (by decide)) (fun c_6 => ?_) (fun c_6 => ?_)
    · skip
      refine g_iload_n C dLd_digOut_50 rfl ?_
      exact s_iret C E dLd_digOut_51 ⟨Nat.zero_le _, Nat.zero_le _⟩ hVw1 trivial
    · skip
      refine g_aload_n C dLd_digOut_9 rfl ?_
      refine gt_getr C dLd_digOut_10 fl_Ld_9 h0 hVw1.1.1 rfl (fun b_10 q_10 hb_10 => ?_)
      refine g_iload_n C dLd_digOut_13 rfl ?_
      refine gt_iald C dLd_digOut_14 hb_10 (by decide) rfl rfl (n := 5) rfl (by omega) ?_
      refine g_aload_n C dLd_digOut_15 rfl ?_
      refine gt_getS C dLd_digOut_16 fl_Ld_9 h0 q_10 ?_
      refine g_iload_n C dLd_digOut_19 rfl ?_
      refine gt_iald C dLd_digOut_20 hb_10 (by decide) rfl rfl (n := 5) rfl (by omega) ?_
      refine g_bipush (v := Int32.ofInt (10)) C dLd_digOut_21 (by decide) ?_
      refine gt_idiv 10 C dLd_digOut_23 rfl (ofI (by decide)) (by decide) (fun z_23 e_23 => ?_)
      refine g_iconst (v := Int32.ofInt (1)) C dLd_digOut_24 (by decide) ?_
      first | refine n_iadd C dLd_digOut_25 rfl (ofI (by decide)) (by omega) (fun z_25 e_25 => ?_) | refine a_iadd C dLd_digOut_25 (fun z_25 => ?_)
      refine gt_min C dLd_digOut_26 ml_Ld_35 (Nat.le_of_ble_eq_true rfl) ⟨Nat.le_of_ble_eq_true rfl, Nat.le_of_ble_eq_true rfl⟩ ⟨Nat.zero_le _, Nat.zero_le _⟩ (fun z_26 e_26 => ?_)
      refine g_istore_n (i := 3) C dLd_digOut_29 rfl (by decide) ?_
      refine g_aload_n C dLd_digOut_30 rfl ?_
      refine gt_getS C dLd_digOut_31 fl_Ld_9 h0 q_10 ?_
      refine g_iload_n C dLd_digOut_34 rfl ?_
      refine g_dup2 C dLd_digOut_35 rfl rfl ?_
      refine gt_iald C dLd_digOut_36 hb_10 (by decide) rfl rfl (n := 5) rfl (by omega) ?_
      refine g_iload_n C dLd_digOut_37 rfl ?_
      first | refine n_isub C dLd_digOut_38 rfl rfl (by omega) (fun z_38 e_38 => ?_) | refine a_isub C dLd_digOut_38 (fun z_38 => ?_)
      refine gt_iast C dLd_digOut_39 hb_10 (by decide) rfl rfl (n := 5) rfl (by omega) hVw1 rfl trivial (fun Iw2 eIw2 hVw2 => ?_)
      refine g_iload_n C dLd_digOut_40 rfl ?_
      refine g_iload_n C dLd_digOut_41 rfl ?_
      first | refine n_iadd C dLd_digOut_42 rfl rfl (by omega) (fun z_42 e_42 => ?_) | refine a_iadd C dLd_digOut_42 (fun z_42 => ?_)
      refine g_istore_n (i := 1) C dLd_digOut_43 rfl (by decide) ?_
      first | refine n_iinc C dLd_digOut_44 rfl rfl (by decide) (by decide) (by omega) (fun z_44 e_44 => ?_) | refine a_iinc C dLd_digOut_44 rfl (by decide) (fun z_44 => ?_)
      refine g_goto 4 C dLd_digOut_47 (by decide) ?_
      exact g_sub (ih_4 _ (by omega) z_42 z_44 Iw2 Jw1 rfl (by omega) hVw2) ⟨rfl, rfl, rfl, trivial⟩
  exact g_sub (lp_4 _ (Int32.ofInt (0)) (Int32.ofInt (0)) I0 J0 rfl (by have hci : Int32.toInt (Int32.ofInt (0)) = 0 := ofI (by decide); omega) hV0) ⟨rfl, rfl, rfl, trivial⟩
