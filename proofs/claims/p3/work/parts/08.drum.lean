set_option maxHeartbeats 4000000 in
set_option maxRecDepth 100000 in
theorem cDr_beginEmpty {P : List Nat} {K : Nat → Nat} {I0 : Nat → Nat → Int32} {O : Nat → Nat → Option Nat} {J0 : Nat → Nat → Int64} (hV : IV P K I0 O) {a0 : Nat} (h0 : a0 ∈ P ∧ K a0 = 0) : Con yDr_beginEmpty bDr_beginEmpty 1 none ({ frames := 2, cells := 0, slots := 0, locals := 41 } : Room) P K I0 O J0 [.ref a0] (SPo frN 0 (tt) P K I0 O J0) := by
  refine Con.ofG mfDr_beginEmpty (Nat.le_of_ble_eq_true rfl) ?_
  intro X C E
  have hV0 : SV frN P K O I0 J0 I0 J0 := SV.rf hV
  refine g_aload_n C dDr_beginEmpty_0 rfl ?_
  refine gt_getr C dDr_beginEmpty_1 fl_Dr_12 h0 hV0.1.1 rfl (fun b_1 q_1 hb_1 => ?_)
  refine s_callV_v (av := fun ad => []) C dDr_beginEmpty_4 mfLd_makeEmpty mvLd_makeEmpty ln_Dr_22 hb_1 (by decide) rfl hV0 fr_NN (cLd_makeEmpty hV0.1 hb_1) rfl rfl (Nat.le_of_ble_eq_true rfl) ⟨Nat.le_of_ble_eq_true rfl, Nat.le_of_ble_eq_true rfl⟩ ⟨rfl, rfl⟩ ⟨Nat.zero_le _, Nat.zero_le _⟩ (fun Iw1 Jw1 hVw1 hFw1 p_4 => ?_)
  refine g_aload_n C dDr_beginEmpty_7 rfl ?_
  refine gt_getr C dDr_beginEmpty_8 fl_Dr_18 h0 hVw1.1.1 rfl (fun b_8 q_8 hb_8 => ?_)
  refine s_callS_v (av := fun ad => [.ref b_8]) C dDr_beginEmpty_11 mfRM_wipe msRM_wipe ln_Dr_25 hVw1 fr_NN (cRM_wipe hVw1.1 hb_8 ⟨by decide, rfl, rfl, fun _ _ => trivial, by decide⟩) rfl rfl (Nat.le_of_ble_eq_true rfl) ⟨Nat.le_of_ble_eq_true rfl, Nat.le_of_ble_eq_true rfl⟩ ⟨rfl, rfl⟩ ⟨Nat.zero_le _, Nat.zero_le _⟩ (fun Iw2 Jw2 hVw2 hFw2 p_11 => ?_)
  refine g_aload_n C dDr_beginEmpty_14 rfl ?_
  refine g_iconst (v := Int32.ofInt (0)) C dDr_beginEmpty_15 (by decide) ?_
  refine gt_puti C dDr_beginEmpty_16 fl_Dr_29 h0 hVw2 rfl trivial rfl (Or.inl rfl) (fun Iw3 eIw3 hVw3 => ?_)
  refine g_aload_n C dDr_beginEmpty_19 rfl ?_
  refine g_iconst (v := Int32.ofInt (0)) C dDr_beginEmpty_20 (by decide) ?_
  refine gt_puti C dDr_beginEmpty_21 fl_Dr_33 h0 hVw3 rfl trivial rfl (Or.inl rfl) (fun Iw4 eIw4 hVw4 => ?_)
  refine g_aload_n C dDr_beginEmpty_24 rfl ?_
  refine g_iconst (v := Int32.ofInt (0)) C dDr_beginEmpty_25 (by decide) ?_
  refine gt_puti C dDr_beginEmpty_26 fl_Dr_36 h0 hVw4 rfl trivial rfl (Or.inl rfl) (fun Iw5 eIw5 hVw5 => ?_)
  refine g_aload_n C dDr_beginEmpty_29 rfl ?_
  refine g_iconst (v := Int32.ofInt (0)) C dDr_beginEmpty_30 (by decide) ?_
  refine gt_puti C dDr_beginEmpty_31 fl_Dr_39 h0 hVw5 rfl (Or.inl (ofI (by decide))) rfl (Or.inr ⟨rfl, (Or.inl (ofI (by decide)))⟩) (fun Iw6 eIw6 hVw6 => ?_)
  refine g_aload_n C dDr_beginEmpty_34 rfl ?_
  refine g_iconst (v := Int32.ofInt (0)) C dDr_beginEmpty_35 (by decide) ?_
  refine gt_puti C dDr_beginEmpty_36 fl_Dr_43 h0 hVw6 rfl trivial rfl (Or.inl rfl) (fun Iw7 eIw7 hVw7 => ?_)
  refine g_aload_n C dDr_beginEmpty_39 rfl ?_
  refine g_iconst (v := Int32.ofInt (0)) C dDr_beginEmpty_40 (by decide) ?_
  refine gt_puti C dDr_beginEmpty_41 fl_Dr_46 h0 hVw7 rfl trivial rfl (Or.inl rfl) (fun Iw8 eIw8 hVw8 => ?_)
  refine g_aload_n C dDr_beginEmpty_44 rfl ?_
  refine g_iconst (v := Int32.ofInt (0)) C dDr_beginEmpty_45 (by decide) ?_
  refine gt_puti C dDr_beginEmpty_46 fl_Dr_49 h0 hVw8 rfl trivial rfl (Or.inl rfl) (fun Iw9 eIw9 hVw9 => ?_)
  refine g_aload_n C dDr_beginEmpty_49 rfl ?_
  refine g_iconst (v := Int32.ofInt (0)) C dDr_beginEmpty_50 (by decide) ?_
  refine gt_puti C dDr_beginEmpty_51 fl_Dr_52 h0 hVw9 rfl trivial rfl (Or.inl rfl) (fun Iw10 eIw10 hVw10 => ?_)
  refine g_aload_n C dDr_beginEmpty_54 rfl ?_
  refine g_iconst (v := Int32.ofInt (0)) C dDr_beginEmpty_55 (by decide) ?_
  refine gt_puti C dDr_beginEmpty_56 fl_Dr_55 h0 hVw10 rfl trivial rfl (Or.inl rfl) (fun Iw11 eIw11 hVw11 => ?_)
  refine g_aload_n C dDr_beginEmpty_59 rfl ?_
  refine g_iconst (v := Int32.ofInt (0)) C dDr_beginEmpty_60 (by decide) ?_
  refine gt_puti C dDr_beginEmpty_61 fl_Dr_58 h0 hVw11 rfl trivial rfl (Or.inl rfl) (fun Iw12 eIw12 hVw12 => ?_)
  refine g_aload_n C dDr_beginEmpty_64 rfl ?_
  refine g_iconst (v := Int32.ofInt (0)) C dDr_beginEmpty_65 (by decide) ?_
  refine gt_puti C dDr_beginEmpty_66 fl_Dr_61 h0 hVw12 rfl trivial rfl (Or.inl rfl) (fun Iw13 eIw13 hVw13 => ?_)
  refine g_aload_n C dDr_beginEmpty_69 rfl ?_
  refine g_iconst (v := Int32.ofInt (0)) C dDr_beginEmpty_70 (by decide) ?_
  refine gt_puti C dDr_beginEmpty_71 fl_Dr_64 h0 hVw13 rfl trivial rfl (Or.inl rfl) (fun Iw14 eIw14 hVw14 => ?_)
  refine g_aload_n C dDr_beginEmpty_74 rfl ?_
  refine g_iconst (v := Int32.ofInt (0)) C dDr_beginEmpty_75 (by decide) ?_
  refine gt_puti C dDr_beginEmpty_76 fl_Dr_67 h0 hVw14 rfl trivial rfl (Or.inl rfl) (fun Iw15 eIw15 hVw15 => ?_)
  refine g_aload_n C dDr_beginEmpty_79 rfl ?_
  refine g_iconst (v := Int32.ofInt (0)) C dDr_beginEmpty_80 (by decide) ?_
  refine gt_puti C dDr_beginEmpty_81 fl_Dr_70 h0 hVw15 rfl trivial rfl (Or.inl rfl) (fun Iw16 eIw16 hVw16 => ?_)
  refine g_aload_n C dDr_beginEmpty_84 rfl ?_
  refine g_iconst (v := Int32.ofInt (0)) C dDr_beginEmpty_85 (by decide) ?_
  refine gt_puti C dDr_beginEmpty_86 fl_Dr_73 h0 hVw16 rfl trivial rfl (Or.inl rfl) (fun Iw17 eIw17 hVw17 => ?_)
  exact s_vret C E dDr_beginEmpty_89 ⟨Nat.zero_le _, Nat.zero_le _⟩ hVw17 trivial
set_option maxHeartbeats 4000000 in
set_option maxRecDepth 100000 in
theorem cDr_beginStart {P : List Nat} {K : Nat → Nat} {I0 : Nat → Nat → Int32} {O : Nat → Nat → Option Nat} {J0 : Nat → Nat → Int64} (hV : IV P K I0 O) {a0 : Nat} (h0 : a0 ∈ P ∧ K a0 = 0) {a1 : Nat} (h1 : a1 ∈ P ∧ K a1 = 3) {x2 : Int32} : Con yDr_beginStart bDr_beginStart 5 none ({ frames := 3, cells := 0, slots := 0, locals := 61 } : Room) P K I0 O J0 [.ref a0, .ref a1, .int x2] (SPo frN 0 (tt) P K I0 O J0) := by
  refine Con.ofG mfDr_beginStart (Nat.le_of_ble_eq_true rfl) ?_
  intro X C E
  have r2 := rg x2
  have hV0 : SV frN P K O I0 J0 I0 J0 := SV.rf hV
  refine g_aload_n C dDr_beginStart_0 rfl ?_
  refine s_callV_v (av := fun ad => []) C dDr_beginStart_1 mfDr_beginEmpty mvDr_beginEmpty ln_Dr_76 h0 (by decide) rfl hV0 fr_NN (cDr_beginEmpty hV0.1 h0) rfl rfl (Nat.le_of_ble_eq_true rfl) ⟨Nat.le_of_ble_eq_true rfl, Nat.le_of_ble_eq_true rfl⟩ ⟨rfl, rfl⟩ ⟨Nat.zero_le _, Nat.zero_le _⟩ (fun Iw1 Jw1 hVw1 hFw1 p_1 => ?_)
  refine g_aload_n C dDr_beginStart_4 rfl ?_
  refine g_iload_n C dDr_beginStart_5 rfl ?_
  refine g_iconst (v := Int32.ofInt (0)) C dDr_beginStart_6 (by decide) ?_
  refine s_callS_ip (av := fun ad => [.int x2, .int (Int32.ofInt (0))]) C dDr_beginStart_7 mfRM_partOfStart msRM_partOfStart ln_Dr_79 (cRM_partOfStart hVw1.1 ) rfl rfl (Nat.le_of_ble_eq_true rfl) ⟨Nat.le_of_ble_eq_true rfl, Nat.le_of_ble_eq_true rfl⟩ ⟨rfl, rfl⟩ ⟨Nat.zero_le _, Nat.zero_le _⟩ (fun z_7 p_7 => ?_)
  have rz_7 := rg z_7
  refine gt_puti C dDr_beginStart_10 fl_Dr_36 h0 hVw1 rfl trivial rfl (Or.inl rfl) (fun Iw3 eIw3 hVw3 => ?_)
  refine g_aload_n C dDr_beginStart_13 rfl ?_
  refine g_aload_n C dDr_beginStart_14 rfl ?_
  refine g_geti C dDr_beginStart_15 fl_Dr_83 h1 ?_
  refine g_iload_n C dDr_beginStart_18 rfl ?_
  refine g_iconst (v := Int32.ofInt (1)) C dDr_beginStart_19 (by decide) ?_
  refine s_callS_ip (av := fun ad => [.int x2, .int (Int32.ofInt (1))]) C dDr_beginStart_20 mfRM_partOfStart msRM_partOfStart ln_Dr_79 (cRM_partOfStart hVw3.1 ) rfl rfl (Nat.le_of_ble_eq_true rfl) ⟨Nat.le_of_ble_eq_true rfl, Nat.le_of_ble_eq_true rfl⟩ ⟨rfl, rfl⟩ ⟨Nat.zero_le _, Nat.zero_le _⟩ (fun z_20 p_20 => ?_)
  have rz_20 := rg z_20
  refine g_iconst (v := Int32.ofInt (4)) C dDr_beginStart_23 (by decide) ?_
  refine s_callS_ip (av := fun ad => [.int (Iw3 a1 4), .int z_20, .int (Int32.ofInt (4))]) C dDr_beginStart_24 mfRM_share msRM_share ln_Dr_88 (cRM_share hVw3.1 ) rfl rfl (Nat.le_of_ble_eq_true rfl) ⟨Nat.le_of_ble_eq_true rfl, Nat.le_of_ble_eq_true rfl⟩ ⟨rfl, rfl⟩ ⟨Nat.zero_le _, Nat.zero_le _⟩ (fun z_24 p_24 => ?_)
  have rz_24 := rg z_24
  refine gt_puti C dDr_beginStart_27 fl_Dr_33 h0 hVw3 rfl trivial rfl (Or.inl rfl) (fun Iw6 eIw6 hVw6 => ?_)
  refine g_aload_n C dDr_beginStart_30 rfl ?_
  refine g_aload_n C dDr_beginStart_31 rfl ?_
  refine g_geti C dDr_beginStart_32 fl_Dr_92 h1 ?_
  refine g_iconst (v := Int32.ofInt (2)) C dDr_beginStart_35 (by decide) ?_
  refine gt_idiv 2 C dDr_beginStart_36 rfl (ofI (by decide)) (by decide) (fun z_36 e_36 => ?_)
  refine gt_puti C dDr_beginStart_37 fl_Dr_29 h0 hVw6 rfl trivial rfl (Or.inl rfl) (fun Iw7 eIw7 hVw7 => ?_)
  refine g_iload_n C dDr_beginStart_40 rfl ?_
  refine g_iconst (v := Int32.ofInt (2)) C dDr_beginStart_41 (by decide) ?_
  refine s_callS_ip (av := fun ad => [.int x2, .int (Int32.ofInt (2))]) C dDr_beginStart_42 mfRM_partOfStart msRM_partOfStart ln_Dr_79 (cRM_partOfStart hVw7.1 ) rfl rfl (Nat.le_of_ble_eq_true rfl) ⟨Nat.le_of_ble_eq_true rfl, Nat.le_of_ble_eq_true rfl⟩ ⟨rfl, rfl⟩ ⟨Nat.zero_le _, Nat.zero_le _⟩ (fun z_42 p_42 => ?_)
  have rz_42 := rg z_42
  refine g_istore_n (i := 3) C dDr_beginStart_45 rfl (by decide) ?_
  refine g_iconst (v := Int32.ofInt (0)) C dDr_beginStart_46 (by decide) ?_
  refine g_istore C dDr_beginStart_47 (by decide) ?_
  have lp_49 : ∀ (nn_49 : Nat) (x4_49 : Int32) (Iw9 : Nat → Nat → Int32) (Jw9 : Nat → Nat → Int64), Int.toNat (5 - x4_49.toInt) = nn_49 → (0 ≤ Int32.toInt x4_49 ∧ Int32.toInt x4_49 ≤ 5) → SV frN P K O I0 J0 Iw9 Jw9 → GG X 5 P K Iw9 O Jw9 0 0 49 [(0, .ref a0), (1, .ref a1), (2, .int x2), (3, .int z_42), (4, .int x4_49)] [] := by
    intro nn_49
    induction nn_49 using Nat.strongRecOn with
    | ind nn_49 ih_49 =>
    intro x4_49 Iw9 Jw9 hn_49 iv0_49 hVw9
    have rg4_49 := rg x4_49
    refine g_iload C dDr_beginStart_49 rfl ?_
    refine g_iconst (v := Int32.ofInt (5)) C dDr_beginStart_51 (by decide) ?_
    refine gt_icmp_ge 80 C dDr_beginStart_52 (by decide) rfl (ofI (by decide)) (fun c_52 => ?_) (fun c_52 => ?_)
    · skip
      exact s_vret C E dDr_beginStart_80 ⟨Nat.zero_le _, Nat.zero_le _⟩ hVw9 trivial
    · skip
      refine g_aload_n C dDr_beginStart_55 rfl ?_
      refine gt_getr C dDr_beginStart_56 fl_Dr_12 h0 hVw9.1.1 rfl (fun b_56 q_56 hb_56 => ?_)
      refine gt_getr C dDr_beginStart_59 fl_Dr_95 hb_56 hVw9.1.1 rfl (fun b_59 q_59 hb_59 => ?_)
      refine g_iload C dDr_beginStart_62 rfl ?_
      refine g_iload_n C dDr_beginStart_64 rfl ?_
      refine g_aload_n C dDr_beginStart_65 rfl ?_
      refine g_iconst (v := Int32.ofInt (0)) C dDr_beginStart_66 (by decide) ?_
      refine g_iload C dDr_beginStart_67 rfl ?_
      refine s_callV_ip (av := fun ad => [.int (Int32.ofInt (0)), .int x4_49]) C dDr_beginStart_69 mfMl_tonsOf mvMl_tonsOf ln_Dr_98 h1 (by decide) rfl (cMl_tonsOf hVw9.1 h1) rfl rfl (Nat.le_of_ble_eq_true rfl) ⟨Nat.le_of_ble_eq_true rfl, Nat.le_of_ble_eq_true rfl⟩ ⟨rfl, rfl⟩ ⟨Nat.zero_le _, Nat.zero_le _⟩ (fun z_69 p_69 => ?_)
      have rz_69 := rg z_69
      refine a_imul C dDr_beginStart_72 (fun z_72 => ?_)
      refine gt_iast C dDr_beginStart_73 hb_59 (by decide) rfl rfl (n := 5) rfl (by omega) hVw9 rfl trivial (fun Iw11 eIw11 hVw11 => ?_)
      first | refine n_iinc C dDr_beginStart_74 rfl rfl (by decide) (by decide) (by omega) (fun z_74 e_74 => ?_) | refine a_iinc C dDr_beginStart_74 rfl (by decide) (fun z_74 => ?_)
      refine g_goto 49 C dDr_beginStart_77 (by decide) ?_
      exact g_sub (ih_49 _ (by omega) z_74 Iw11 Jw9 rfl (by omega) hVw11) ⟨rfl, rfl, rfl, rfl, rfl, trivial⟩
  exact g_sub (lp_49 _ (Int32.ofInt (0)) Iw7 Jw1 rfl (by have hci : Int32.toInt (Int32.ofInt (0)) = 0 := ofI (by decide); omega) hVw7) ⟨rfl, rfl, rfl, rfl, rfl, trivial⟩
set_option maxHeartbeats 4000000 in
set_option maxRecDepth 100000 in
theorem cDr_copyFrom {P : List Nat} {K : Nat → Nat} {I0 : Nat → Nat → Int32} {O : Nat → Nat → Option Nat} {J0 : Nat → Nat → Int64} (hV : IV P K I0 O) {a0 : Nat} (h0 : a0 ∈ P ∧ K a0 = 0) {a1 : Nat} (h1 : a1 ∈ P ∧ K a1 = 0) : Con yDr_copyFrom bDr_copyFrom 2 none ({ frames := 2, cells := 0, slots := 0, locals := 43 } : Room) P K I0 O J0 [.ref a0, .ref a1] (SPo frN 0 (tt) P K I0 O J0) := by
  refine Con.ofG mfDr_copyFrom (Nat.le_of_ble_eq_true rfl) ?_
  intro X C E
  have hV0 : SV frN P K O I0 J0 I0 J0 := SV.rf hV
  refine g_aload_n C dDr_copyFrom_0 rfl ?_
  refine gt_getr C dDr_copyFrom_1 fl_Dr_12 h0 hV0.1.1 rfl (fun b_1 q_1 hb_1 => ?_)
  refine g_aload_n C dDr_copyFrom_4 rfl ?_
  refine gt_getr C dDr_copyFrom_5 fl_Dr_12 h1 hV0.1.1 rfl (fun b_5 q_5 hb_5 => ?_)
  refine s_callV_v (av := fun ad => [.ref b_5]) C dDr_copyFrom_8 mfLd_copyFrom mvLd_copyFrom ln_Dr_101 hb_1 (by decide) rfl hV0 fr_NN (cLd_copyFrom hV0.1 hb_1 hb_5) rfl rfl (Nat.le_of_ble_eq_true rfl) ⟨Nat.le_of_ble_eq_true rfl, Nat.le_of_ble_eq_true rfl⟩ ⟨rfl, rfl⟩ ⟨Nat.zero_le _, Nat.zero_le _⟩ (fun Iw1 Jw1 hVw1 hFw1 p_8 => ?_)
  refine g_aload_n C dDr_copyFrom_11 rfl ?_
  refine gt_getr C dDr_copyFrom_12 fl_Dr_18 h1 hVw1.1.1 rfl (fun b_12 q_12 hb_12 => ?_)
  refine g_aload_n C dDr_copyFrom_15 rfl ?_
  refine gt_getr C dDr_copyFrom_16 fl_Dr_18 h0 hVw1.1.1 rfl (fun b_16 q_16 hb_16 => ?_)
  refine s_callS_v (av := fun ad => [.ref b_12, .ref b_16]) C dDr_copyFrom_19 mfRM_copyRow msRM_copyRow ln_Dr_105 hVw1 fr_NN (cRM_copyRow hVw1.1 hb_12 ⟨by decide, rfl, rfl, fun _ _ => trivial, by decide⟩ hb_16 ⟨by decide, rfl, rfl, fun _ _ => trivial, by decide⟩) rfl rfl (Nat.le_of_ble_eq_true rfl) ⟨Nat.le_of_ble_eq_true rfl, Nat.le_of_ble_eq_true rfl⟩ ⟨rfl, rfl⟩ ⟨Nat.zero_le _, Nat.zero_le _⟩ (fun Iw2 Jw2 hVw2 hFw2 p_19 => ?_)
  refine g_aload_n C dDr_copyFrom_22 rfl ?_
  refine g_aload_n C dDr_copyFrom_23 rfl ?_
  refine g_geti C dDr_copyFrom_24 fl_Dr_29 h1 ?_
  refine gt_puti C dDr_copyFrom_27 fl_Dr_29 h0 hVw2 rfl trivial rfl (Or.inl rfl) (fun Iw3 eIw3 hVw3 => ?_)
  refine g_aload_n C dDr_copyFrom_30 rfl ?_
  refine g_aload_n C dDr_copyFrom_31 rfl ?_
  refine g_geti C dDr_copyFrom_32 fl_Dr_33 h1 ?_
  refine gt_puti C dDr_copyFrom_35 fl_Dr_33 h0 hVw3 rfl trivial rfl (Or.inl rfl) (fun Iw4 eIw4 hVw4 => ?_)
  refine g_aload_n C dDr_copyFrom_38 rfl ?_
  refine g_aload_n C dDr_copyFrom_39 rfl ?_
  refine g_geti C dDr_copyFrom_40 fl_Dr_36 h1 ?_
  refine gt_puti C dDr_copyFrom_43 fl_Dr_36 h0 hVw4 rfl trivial rfl (Or.inl rfl) (fun Iw5 eIw5 hVw5 => ?_)
  refine g_aload_n C dDr_copyFrom_46 rfl ?_
  refine g_aload_n C dDr_copyFrom_47 rfl ?_
  refine g_geti C dDr_copyFrom_48 fl_Dr_39 h1 ?_
  have o_48 := hVw5.1.2 a1 h1.1 5
  rw [h1.2] at o_48
  have o_48 : B01 (Iw5 a1 5) := o_48
  refine gt_puti C dDr_copyFrom_51 fl_Dr_39 h0 hVw5 rfl (by first | assumption | (unfold B01; omega)) rfl (Or.inr ⟨rfl, (by first | assumption | (unfold B01; omega))⟩) (fun Iw6 eIw6 hVw6 => ?_)
  refine g_aload_n C dDr_copyFrom_54 rfl ?_
  refine g_aload_n C dDr_copyFrom_55 rfl ?_
  refine g_geti C dDr_copyFrom_56 fl_Dr_43 h1 ?_
  refine gt_puti C dDr_copyFrom_59 fl_Dr_43 h0 hVw6 rfl trivial rfl (Or.inl rfl) (fun Iw7 eIw7 hVw7 => ?_)
  refine g_aload_n C dDr_copyFrom_62 rfl ?_
  refine g_aload_n C dDr_copyFrom_63 rfl ?_
  refine g_geti C dDr_copyFrom_64 fl_Dr_46 h1 ?_
  refine gt_puti C dDr_copyFrom_67 fl_Dr_46 h0 hVw7 rfl trivial rfl (Or.inl rfl) (fun Iw8 eIw8 hVw8 => ?_)
  refine g_aload_n C dDr_copyFrom_70 rfl ?_
  refine g_aload_n C dDr_copyFrom_71 rfl ?_
  refine g_geti C dDr_copyFrom_72 fl_Dr_49 h1 ?_
  refine gt_puti C dDr_copyFrom_75 fl_Dr_49 h0 hVw8 rfl trivial rfl (Or.inl rfl) (fun Iw9 eIw9 hVw9 => ?_)
  refine g_aload_n C dDr_copyFrom_78 rfl ?_
  refine g_aload_n C dDr_copyFrom_79 rfl ?_
  refine g_geti C dDr_copyFrom_80 fl_Dr_52 h1 ?_
  refine gt_puti C dDr_copyFrom_83 fl_Dr_52 h0 hVw9 rfl trivial rfl (Or.inl rfl) (fun Iw10 eIw10 hVw10 => ?_)
  refine g_aload_n C dDr_copyFrom_86 rfl ?_
  refine g_aload_n C dDr_copyFrom_87 rfl ?_
  refine g_geti C dDr_copyFrom_88 fl_Dr_55 h1 ?_
  refine gt_puti C dDr_copyFrom_91 fl_Dr_55 h0 hVw10 rfl trivial rfl (Or.inl rfl) (fun Iw11 eIw11 hVw11 => ?_)
  refine g_aload_n C dDr_copyFrom_94 rfl ?_
  refine g_aload_n C dDr_copyFrom_95 rfl ?_
  refine g_geti C dDr_copyFrom_96 fl_Dr_58 h1 ?_
  refine gt_puti C dDr_copyFrom_99 fl_Dr_58 h0 hVw11 rfl trivial rfl (Or.inl rfl) (fun Iw12 eIw12 hVw12 => ?_)
  refine g_aload_n C dDr_copyFrom_102 rfl ?_
  refine g_aload_n C dDr_copyFrom_103 rfl ?_
  refine g_geti C dDr_copyFrom_104 fl_Dr_61 h1 ?_
  refine gt_puti C dDr_copyFrom_107 fl_Dr_61 h0 hVw12 rfl trivial rfl (Or.inl rfl) (fun Iw13 eIw13 hVw13 => ?_)
  refine g_aload_n C dDr_copyFrom_110 rfl ?_
  refine g_aload_n C dDr_copyFrom_111 rfl ?_
  refine g_geti C dDr_copyFrom_112 fl_Dr_64 h1 ?_
  refine gt_puti C dDr_copyFrom_115 fl_Dr_64 h0 hVw13 rfl trivial rfl (Or.inl rfl) (fun Iw14 eIw14 hVw14 => ?_)
  refine g_aload_n C dDr_copyFrom_118 rfl ?_
  refine g_aload_n C dDr_copyFrom_119 rfl ?_
  refine g_geti C dDr_copyFrom_120 fl_Dr_67 h1 ?_
  refine gt_puti C dDr_copyFrom_123 fl_Dr_67 h0 hVw14 rfl trivial rfl (Or.inl rfl) (fun Iw15 eIw15 hVw15 => ?_)
  refine g_aload_n C dDr_copyFrom_126 rfl ?_
  refine g_aload_n C dDr_copyFrom_127 rfl ?_
  refine g_geti C dDr_copyFrom_128 fl_Dr_70 h1 ?_
  refine gt_puti C dDr_copyFrom_131 fl_Dr_70 h0 hVw15 rfl trivial rfl (Or.inl rfl) (fun Iw16 eIw16 hVw16 => ?_)
  refine g_aload_n C dDr_copyFrom_134 rfl ?_
  refine g_aload_n C dDr_copyFrom_135 rfl ?_
  refine g_geti C dDr_copyFrom_136 fl_Dr_73 h1 ?_
  refine gt_puti C dDr_copyFrom_139 fl_Dr_73 h0 hVw16 rfl trivial rfl (Or.inl rfl) (fun Iw17 eIw17 hVw17 => ?_)
  exact s_vret C E dDr_copyFrom_142 ⟨Nat.zero_le _, Nat.zero_le _⟩ hVw17 trivial
set_option maxHeartbeats 4000000 in
set_option maxRecDepth 100000 in
theorem cDr_wentWell {P : List Nat} {K : Nat → Nat} {I0 : Nat → Nat → Int32} {O : Nat → Nat → Option Nat} {J0 : Nat → Nat → Int64} (hV : IV P K I0 O) {a0 : Nat} (h0 : a0 ∈ P ∧ K a0 = 0) : Con yDr_wentWell bDr_wentWell 1 (some .boolean) ({ frames := 0, cells := 0, slots := 0, locals := 0 } : Room) P K I0 O J0 [.ref a0] (SPo frP 2 (tt) P K I0 O J0) := by
  refine Con.ofG mfDr_wentWell (Nat.le_of_ble_eq_true rfl) ?_
  intro X C E
  have hV0 : SV frP P K O I0 J0 I0 J0 := SV.rf hV
  refine g_aload_n C dDr_wentWell_0 rfl ?_
  refine g_geti C dDr_wentWell_1 fl_Dr_39 h0 ?_
  refine gt_if_ne 18 C dDr_wentWell_4 (by decide) rfl (fun c_4 => ?_) (fun c_4 => ?_)
  · skip
    refine g_iconst (v := Int32.ofInt (0)) C dDr_wentWell_18 (by decide) ?_
    exact s_zret C E dDr_wentWell_19 ⟨Nat.zero_le _, Nat.zero_le _⟩ hV0 (Or.inl (ofI (by decide))) trivial
  · skip
    refine g_aload_n C dDr_wentWell_7 rfl ?_
    refine g_geti C dDr_wentWell_8 fl_Dr_58 h0 ?_
    refine gt_if_ne 18 C dDr_wentWell_11 (by decide) rfl (fun c_11 => ?_) (fun c_11 => ?_)
    · skip
      refine g_iconst (v := Int32.ofInt (0)) C dDr_wentWell_18 (by decide) ?_
      exact s_zret C E dDr_wentWell_19 ⟨Nat.zero_le _, Nat.zero_le _⟩ hV0 (Or.inl (ofI (by decide))) trivial
    · skip
      refine g_iconst (v := Int32.ofInt (1)) C dDr_wentWell_14 (by decide) ?_
      refine g_goto 19 C dDr_wentWell_15 (by decide) ?_
      exact s_zret C E dDr_wentWell_19 ⟨Nat.zero_le _, Nat.zero_le _⟩ hV0 (Or.inr (ofI (by decide))) trivial
set_option maxHeartbeats 4000000 in
set_option maxRecDepth 100000 in
theorem cDr_takeOre {P : List Nat} {K : Nat → Nat} {I0 : Nat → Nat → Int32} {O : Nat → Nat → Option Nat} {J0 : Nat → Nat → Int64} (hV : IV P K I0 O) {a0 : Nat} (h0 : a0 ∈ P ∧ K a0 = 0) {a1 : Nat} (h1 : a1 ∈ P ∧ K a1 = 3) {x2 : Int32} {x3 : Int32} : Con yDr_takeOre bDr_takeOre 6 none ({ frames := 1, cells := 0, slots := 0, locals := 22 } : Room) P K I0 O J0 [.ref a0, .ref a1, .int x2, .int x3] (SPo frN 0 (tt) P K I0 O J0) := by
  refine Con.ofG mfDr_takeOre (Nat.le_of_ble_eq_true rfl) ?_
  intro X C E
  have r2 := rg x2
  have r3 := rg x3
  have hV0 : SV frN P K O I0 J0 I0 J0 := SV.rf hV
  refine g_iconst (v := Int32.ofInt (0)) C dDr_takeOre_0 (by decide) ?_
  refine g_istore C dDr_takeOre_1 (by decide) ?_
  have lp_3 : ∀ (nn_3 : Nat) (x4_3 : Int32) (Iw1 : Nat → Nat → Int32) (Jw1 : Nat → Nat → Int64), Int.toNat (5 - x4_3.toInt) = nn_3 → (0 ≤ Int32.toInt x4_3 ∧ Int32.toInt x4_3 ≤ 5) → SV frN P K O I0 J0 Iw1 Jw1 → GG X 6 P K Iw1 O Jw1 0 0 3 [(0, .ref a0), (1, .ref a1), (2, .int x2), (3, .int x3), (4, .int x4_3)] [] := by
    intro nn_3
    induction nn_3 using Nat.strongRecOn with
    | ind nn_3 ih_3 =>
    intro x4_3 Iw1 Jw1 hn_3 iv0_3 hVw1
    have rg4_3 := rg x4_3
    refine g_iload C dDr_takeOre_3 rfl ?_
    refine g_iconst (v := Int32.ofInt (5)) C dDr_takeOre_5 (by decide) ?_
    refine gt_icmp_ge 52 C dDr_takeOre_6 (by decide) rfl (ofI (by decide)) (fun c_6 => ?_) (fun c_6 => ?_)
    · skip
      exact s_vret C E dDr_takeOre_52 ⟨Nat.zero_le _, Nat.zero_le _⟩ hVw1 trivial
    · skip
      refine g_iload_n C dDr_takeOre_9 rfl ?_
      refine g_aload_n C dDr_takeOre_10 rfl ?_
      refine g_iload_n C dDr_takeOre_11 rfl ?_
      refine g_iload C dDr_takeOre_12 rfl ?_
      refine s_callV_ip (av := fun ad => [.int x3, .int x4_3]) C dDr_takeOre_14 mfMl_tonsOf mvMl_tonsOf ln_Dr_98 h1 (by decide) rfl (cMl_tonsOf hVw1.1 h1) rfl rfl (Nat.le_of_ble_eq_true rfl) ⟨Nat.le_of_ble_eq_true rfl, Nat.le_of_ble_eq_true rfl⟩ ⟨rfl, rfl⟩ ⟨Nat.zero_le _, Nat.zero_le _⟩ (fun z_14 p_14 => ?_)
      have rz_14 := rg z_14
      refine a_imul C dDr_takeOre_17 (fun z_17 => ?_)
      refine g_istore C dDr_takeOre_18 (by decide) ?_
      refine g_aload_n C dDr_takeOre_20 rfl ?_
      refine gt_getr C dDr_takeOre_21 fl_Dr_12 h0 hVw1.1.1 rfl (fun b_21 q_21 hb_21 => ?_)
      refine gt_getr C dDr_takeOre_24 fl_Dr_95 hb_21 hVw1.1.1 rfl (fun b_24 q_24 hb_24 => ?_)
      refine g_iload C dDr_takeOre_27 rfl ?_
      refine g_dup2 C dDr_takeOre_29 rfl rfl ?_
      refine gt_iald C dDr_takeOre_30 hb_24 (by decide) rfl rfl (n := 5) rfl (by omega) ?_
      refine g_iload C dDr_takeOre_31 rfl ?_
      first | refine n_iadd C dDr_takeOre_33 rfl rfl (by omega) (fun z_33 e_33 => ?_) | refine a_iadd C dDr_takeOre_33 (fun z_33 => ?_)
      refine gt_iast C dDr_takeOre_34 hb_24 (by decide) rfl rfl (n := 5) rfl (by omega) hVw1 rfl trivial (fun Iw3 eIw3 hVw3 => ?_)
      refine g_aload_n C dDr_takeOre_35 rfl ?_
      refine g_dup C dDr_takeOre_36 rfl ?_
      refine g_geti C dDr_takeOre_37 fl_Dr_73 h0 ?_
      refine g_iload C dDr_takeOre_40 rfl ?_
      first | refine n_iadd C dDr_takeOre_42 rfl rfl (by omega) (fun z_42 e_42 => ?_) | refine a_iadd C dDr_takeOre_42 (fun z_42 => ?_)
      refine gt_puti C dDr_takeOre_43 fl_Dr_73 h0 hVw3 rfl trivial rfl (Or.inl rfl) (fun Iw4 eIw4 hVw4 => ?_)
      first | refine n_iinc C dDr_takeOre_46 rfl rfl (by decide) (by decide) (by omega) (fun z_46 e_46 => ?_) | refine a_iinc C dDr_takeOre_46 rfl (by decide) (fun z_46 => ?_)
      refine g_goto 3 C dDr_takeOre_49 (by decide) ?_
      exact g_sub (ih_3 _ (by omega) z_46 Iw4 Jw1 rfl (by omega) hVw4) ⟨rfl, rfl, rfl, rfl, rfl, trivial⟩
  exact g_sub (lp_3 _ (Int32.ofInt (0)) I0 J0 rfl (by have hci : Int32.toInt (Int32.ofInt (0)) = 0 := ofI (by decide); omega) hV0) ⟨rfl, rfl, rfl, rfl, rfl, trivial⟩
set_option maxHeartbeats 4000000 in
set_option maxRecDepth 100000 in
theorem cDr_standStill {P : List Nat} {K : Nat → Nat} {I0 : Nat → Nat → Int32} {O : Nat → Nat → Option Nat} {J0 : Nat → Nat → Int64} (hV : IV P K I0 O) {a0 : Nat} (h0 : a0 ∈ P ∧ K a0 = 0) : Con yDr_standStill bDr_standStill 1 none ({ frames := 2, cells := 0, slots := 0, locals := 44 } : Room) P K I0 O J0 [.ref a0] (SPo frN 0 (tt) P K I0 O J0) := by
  refine Con.ofG mfDr_standStill (Nat.le_of_ble_eq_true rfl) ?_
  intro X C E
  have hV0 : SV frN P K O I0 J0 I0 J0 := SV.rf hV
  refine g_aload_n C dDr_standStill_0 rfl ?_
  refine g_dup C dDr_standStill_1 rfl ?_
  refine g_geti C dDr_standStill_2 fl_Dr_64 h0 ?_
  refine g_aload_n C dDr_standStill_5 rfl ?_
  refine gt_getr C dDr_standStill_6 fl_Dr_12 h0 hV0.1.1 rfl (fun b_6 q_6 hb_6 => ?_)
  refine s_callV_i (av := fun ad => []) C dDr_standStill_9 mfLd_digOut mvLd_digOut ln_Dr_156 hb_6 (by decide) rfl hV0 fr_NN (cLd_digOut hV0.1 hb_6) rfl rfl (Nat.le_of_ble_eq_true rfl) ⟨Nat.le_of_ble_eq_true rfl, Nat.le_of_ble_eq_true rfl⟩ ⟨rfl, rfl⟩ ⟨Nat.zero_le _, Nat.zero_le _⟩ (fun Iw1 Jw1 hVw1 hFw1 z_9 p_9 => ?_)
  have rz_9 := rg z_9
  first | refine n_iadd C dDr_standStill_12 rfl rfl (by omega) (fun z_12 e_12 => ?_) | refine a_iadd C dDr_standStill_12 (fun z_12 => ?_)
  refine gt_puti C dDr_standStill_13 fl_Dr_64 h0 hVw1 rfl trivial rfl (Or.inl rfl) (fun Iw2 eIw2 hVw2 => ?_)
  refine g_aload_n C dDr_standStill_16 rfl ?_
  refine gt_getS C dDr_standStill_17 fl_Dr_12 h0 q_6 ?_
  refine gt_getr C dDr_standStill_20 fl_Dr_160 hb_6 hVw2.1.1 rfl (fun b_20 q_20 hb_20 => ?_)
  refine s_callS_v (av := fun ad => [.ref b_20]) C dDr_standStill_23 mfRM_wipe msRM_wipe ln_Dr_25 hVw2 fr_NN (cRM_wipe hVw2.1 hb_20 ⟨by decide, rfl, rfl, fun _ _ => trivial, by decide⟩) rfl rfl (Nat.le_of_ble_eq_true rfl) ⟨Nat.le_of_ble_eq_true rfl, Nat.le_of_ble_eq_true rfl⟩ ⟨rfl, rfl⟩ ⟨Nat.zero_le _, Nat.zero_le _⟩ (fun Iw3 Jw3 hVw3 hFw3 p_23 => ?_)
  refine g_aload_n C dDr_standStill_26 rfl ?_
  refine g_iconst (v := Int32.ofInt (0)) C dDr_standStill_27 (by decide) ?_
  refine gt_puti C dDr_standStill_28 fl_Dr_49 h0 hVw3 rfl trivial rfl (Or.inl rfl) (fun Iw4 eIw4 hVw4 => ?_)
  refine g_aload_n C dDr_standStill_31 rfl ?_
  refine g_iconst (v := Int32.ofInt (0)) C dDr_standStill_32 (by decide) ?_
  refine gt_puti C dDr_standStill_33 fl_Dr_52 h0 hVw4 rfl trivial rfl (Or.inl rfl) (fun Iw5 eIw5 hVw5 => ?_)
  exact s_vret C E dDr_standStill_36 ⟨Nat.zero_le _, Nat.zero_le _⟩ hVw5 trivial
set_option maxHeartbeats 4000000 in
set_option maxRecDepth 100000 in
theorem cDr_effectOf {P : List Nat} {K : Nat → Nat} {I0 : Nat → Nat → Int32} {O : Nat → Nat → Option Nat} {J0 : Nat → Nat → Int64} (hV : IV P K I0 O) {a0 : Nat} (h0 : a0 ∈ P ∧ K a0 = 0) {a1 : Nat} (h1 : a1 ∈ P ∧ K a1 = 3) {x2 : Int32} : Con yDr_effectOf bDr_effectOf 7 (some .int) ({ frames := 1, cells := 0, slots := 0, locals := 22 } : Room) P K I0 O J0 [.ref a0, .ref a1, .int x2] (SPo frP 1 (tt) P K I0 O J0) := by
  refine Con.ofG mfDr_effectOf (Nat.le_of_ble_eq_true rfl) ?_
  intro X C E
  have r2 := rg x2
  have hV0 : SV frP P K O I0 J0 I0 J0 := SV.rf hV
  refine g_bipush (v := Int32.ofInt (100)) C dDr_effectOf_0 (by decide) ?_
  refine g_aload_n C dDr_effectOf_2 rfl ?_
  refine g_geti C dDr_effectOf_3 fl_Dr_46 h0 ?_
  refine g_aload_n C dDr_effectOf_6 rfl ?_
  refine g_geti C dDr_effectOf_7 fl_Dr_120 h1 ?_
  refine s_callS_ip (av := fun ad => [.int (Int32.ofInt (100)), .int (I0 a0 7), .int (I0 a1 0)]) C dDr_effectOf_10 mfRM_share msRM_share ln_Dr_88 (cRM_share hV0.1 ) rfl rfl (Nat.le_of_ble_eq_true rfl) ⟨Nat.le_of_ble_eq_true rfl, Nat.le_of_ble_eq_true rfl⟩ ⟨rfl, rfl⟩ ⟨Nat.zero_le _, Nat.zero_le _⟩ (fun z_10 p_10 => ?_)
  have rz_10 := rg z_10
  refine g_bipush (v := Int32.ofInt (50)) C dDr_effectOf_13 (by decide) ?_
  first | refine n_isub C dDr_effectOf_15 rfl (ofI (by decide)) (by omega) (fun z_15 e_15 => ?_) | refine a_isub C dDr_effectOf_15 (fun z_15 => ?_)
  refine g_istore_n (i := 3) C dDr_effectOf_16 rfl (by decide) ?_
  refine g_bipush (v := Int32.ofInt (100)) C dDr_effectOf_17 (by decide) ?_
  refine g_iload_n C dDr_effectOf_19 rfl ?_
  refine a_abs C dDr_effectOf_20 ml_Dr_163 (Nat.le_of_ble_eq_true rfl) ⟨Nat.le_of_ble_eq_true rfl, Nat.le_of_ble_eq_true rfl⟩ ⟨Nat.zero_le _, Nat.zero_le _⟩ (fun z_20 => ?_)
  first | refine n_isub C dDr_effectOf_23 (ofI (by decide)) rfl (by omega) (fun z_23 e_23 => ?_) | refine a_isub C dDr_effectOf_23 (fun z_23 => ?_)
  refine g_istore C dDr_effectOf_24 (by decide) ?_
  refine g_aload_n C dDr_effectOf_26 rfl ?_
  refine g_geti C dDr_effectOf_27 fl_Dr_83 h1 ?_
  refine g_aload_n C dDr_effectOf_30 rfl ?_
  refine g_geti C dDr_effectOf_31 fl_Dr_33 h0 ?_
  first | refine n_isub C dDr_effectOf_34 rfl rfl (by omega) (fun z_34 e_34 => ?_) | refine a_isub C dDr_effectOf_34 (fun z_34 => ?_)
  refine g_aload_n C dDr_effectOf_35 rfl ?_
  refine g_geti C dDr_effectOf_36 fl_Dr_83 h1 ?_
  refine g_iconst (v := Int32.ofInt (2)) C dDr_effectOf_39 (by decide) ?_
  refine gt_idiv 2 C dDr_effectOf_40 rfl (ofI (by decide)) (by decide) (fun z_40 e_40 => ?_)
  refine gt_max C dDr_effectOf_41 ml_Dr_147 (Nat.le_of_ble_eq_true rfl) ⟨Nat.le_of_ble_eq_true rfl, Nat.le_of_ble_eq_true rfl⟩ ⟨Nat.zero_le _, Nat.zero_le _⟩ (fun z_41 e_41 => ?_)
  refine g_istore C dDr_effectOf_44 (by decide) ?_
  refine g_iload C dDr_effectOf_46 rfl ?_
  refine g_iload C dDr_effectOf_48 rfl ?_
  refine g_aload_n C dDr_effectOf_50 rfl ?_
  refine g_geti C dDr_effectOf_51 fl_Dr_83 h1 ?_
  refine s_callS_ip (av := fun ad => [.int z_23, .int z_41, .int (I0 a1 4)]) C dDr_effectOf_54 mfRM_share msRM_share ln_Dr_88 (cRM_share hV0.1 ) rfl rfl (Nat.le_of_ble_eq_true rfl) ⟨Nat.le_of_ble_eq_true rfl, Nat.le_of_ble_eq_true rfl⟩ ⟨rfl, rfl⟩ ⟨Nat.zero_le _, Nat.zero_le _⟩ (fun z_54 p_54 => ?_)
  have rz_54 := rg z_54
  refine g_istore C dDr_effectOf_57 (by decide) ?_
  refine g_iload C dDr_effectOf_59 rfl ?_
  refine g_bipush (v := Int32.ofInt (10)) C dDr_effectOf_61 (by decide) ?_
  refine g_bipush (v := Int32.ofInt (9)) C dDr_effectOf_63 (by decide) ?_
  refine g_aload_n C dDr_effectOf_65 rfl ?_
  refine g_iload_n C dDr_effectOf_66 rfl ?_
  refine s_callV_ip (av := fun ad => [.int x2]) C dDr_effectOf_67 mfMl_hardOf mvMl_hardOf ln_Dr_166 h1 (by decide) rfl (cMl_hardOf hV0.1 h1) rfl rfl (Nat.le_of_ble_eq_true rfl) ⟨Nat.le_of_ble_eq_true rfl, Nat.le_of_ble_eq_true rfl⟩ ⟨rfl, rfl⟩ ⟨Nat.zero_le _, Nat.zero_le _⟩ (fun z_67 p_67 => ?_)
  have rz_67 := rg z_67
  first | refine n_iadd C dDr_effectOf_70 (ofI (by decide)) rfl (by omega) (fun z_70 e_70 => ?_) | refine a_iadd C dDr_effectOf_70 (fun z_70 => ?_)
  refine s_callS_ip (av := fun ad => [.int z_54, .int (Int32.ofInt (10)), .int z_70]) C dDr_effectOf_71 mfRM_share msRM_share ln_Dr_88 (cRM_share hV0.1 ) rfl rfl (Nat.le_of_ble_eq_true rfl) ⟨Nat.le_of_ble_eq_true rfl, Nat.le_of_ble_eq_true rfl⟩ ⟨rfl, rfl⟩ ⟨Nat.zero_le _, Nat.zero_le _⟩ (fun z_71 p_71 => ?_)
  have rz_71 := rg z_71
  exact s_iret C E dDr_effectOf_74 ⟨Nat.zero_le _, Nat.zero_le _⟩ hV0 trivial
set_option maxHeartbeats 4000000 in
set_option maxRecDepth 100000 in
theorem cDr_fillBin {P : List Nat} {K : Nat → Nat} {I0 : Nat → Nat → Int32} {O : Nat → Nat → Option Nat} {J0 : Nat → Nat → Int64} (hV : IV P K I0 O) {a0 : Nat} (h0 : a0 ∈ P ∧ K a0 = 0) {a1 : Nat} (h1 : a1 ∈ P ∧ K a1 = 3) : Con yDr_fillBin bDr_fillBin 3 none ({ frames := 0, cells := 0, slots := 0, locals := 0 } : Room) P K I0 O J0 [.ref a0, .ref a1] (SPo frN 0 (tt) P K I0 O J0) := by
  refine Con.ofG mfDr_fillBin (Nat.le_of_ble_eq_true rfl) ?_
  intro X C E
  have hV0 : SV frN P K O I0 J0 I0 J0 := SV.rf hV
  refine g_iconst (v := Int32.ofInt (0)) C dDr_fillBin_0 (by decide) ?_
  refine g_istore_n (i := 2) C dDr_fillBin_1 rfl (by decide) ?_
  have lp_2 : ∀ (nn_2 : Nat) (x2_2 : Int32) (Iw1 : Nat → Nat → Int32) (Jw1 : Nat → Nat → Int64), Int.toNat (5 - x2_2.toInt) = nn_2 → (0 ≤ Int32.toInt x2_2 ∧ Int32.toInt x2_2 ≤ 5) → SV frN P K O I0 J0 Iw1 Jw1 → GG X 3 P K Iw1 O Jw1 0 0 2 [(0, .ref a0), (1, .ref a1), (2, .int x2_2)] [] := by
    intro nn_2
    induction nn_2 using Nat.strongRecOn with
    | ind nn_2 ih_2 =>
    intro x2_2 Iw1 Jw1 hn_2 iv0_2 hVw1
    have rg2_2 := rg x2_2
    refine g_iload_n C dDr_fillBin_2 rfl ?_
    refine g_iconst (v := Int32.ofInt (5)) C dDr_fillBin_3 (by decide) ?_
    refine gt_icmp_ge 49 C dDr_fillBin_4 (by decide) rfl (ofI (by decide)) (fun c_4 => ?_) (fun c_4 => ?_)
    · skip
      refine g_aload_n C dDr_fillBin_49 rfl ?_
      refine g_geti C dDr_fillBin_50 fl_Dr_29 h0 ?_
      refine g_aload_n C dDr_fillBin_53 rfl ?_
      refine g_geti C dDr_fillBin_54 fl_Dr_92 h1 ?_
      refine gt_icmp_le 86 C dDr_fillBin_57 (by decide) rfl rfl (fun c_57 => ?_) (fun c_57 => ?_)
      · skip
        exact s_vret C E dDr_fillBin_86 ⟨Nat.zero_le _, Nat.zero_le _⟩ hVw1 trivial
      · skip
        refine g_aload_n C dDr_fillBin_60 rfl ?_
        refine g_dup C dDr_fillBin_61 rfl ?_
        refine g_geti C dDr_fillBin_62 fl_Dr_64 h0 ?_
        refine g_aload_n C dDr_fillBin_65 rfl ?_
        refine g_geti C dDr_fillBin_66 fl_Dr_29 h0 ?_
        refine g_aload_n C dDr_fillBin_69 rfl ?_
        refine g_geti C dDr_fillBin_70 fl_Dr_92 h1 ?_
        first | refine n_isub C dDr_fillBin_73 rfl rfl (by omega) (fun z_73 e_73 => ?_) | refine a_isub C dDr_fillBin_73 (fun z_73 => ?_)
        first | refine n_iadd C dDr_fillBin_74 rfl rfl (by omega) (fun z_74 e_74 => ?_) | refine a_iadd C dDr_fillBin_74 (fun z_74 => ?_)
        refine gt_puti C dDr_fillBin_75 fl_Dr_64 h0 hVw1 rfl trivial rfl (Or.inl rfl) (fun Iw2 eIw2 hVw2 => ?_)
        refine g_aload_n C dDr_fillBin_78 rfl ?_
        refine g_aload_n C dDr_fillBin_79 rfl ?_
        refine g_geti C dDr_fillBin_80 fl_Dr_92 h1 ?_
        refine gt_puti C dDr_fillBin_83 fl_Dr_29 h0 hVw2 rfl trivial rfl (Or.inl rfl) (fun Iw3 eIw3 hVw3 => ?_)
        exact s_vret C E dDr_fillBin_86 ⟨Nat.zero_le _, Nat.zero_le _⟩ hVw3 trivial
    · skip
      refine g_aload_n C dDr_fillBin_7 rfl ?_
      refine g_dup C dDr_fillBin_8 rfl ?_
      refine g_geti C dDr_fillBin_9 fl_Dr_29 h0 ?_
      refine g_aload_n C dDr_fillBin_12 rfl ?_
      refine gt_getr C dDr_fillBin_13 fl_Dr_12 h0 hVw1.1.1 rfl (fun b_13 q_13 hb_13 => ?_)
      refine gt_getr C dDr_fillBin_16 fl_Dr_160 hb_13 hVw1.1.1 rfl (fun b_16 q_16 hb_16 => ?_)
      refine g_iload_n C dDr_fillBin_19 rfl ?_
      refine gt_iald C dDr_fillBin_20 hb_16 (by decide) rfl rfl (n := 5) rfl (by omega) ?_
      first | refine n_iadd C dDr_fillBin_21 rfl rfl (by omega) (fun z_21 e_21 => ?_) | refine a_iadd C dDr_fillBin_21 (fun z_21 => ?_)
      refine gt_puti C dDr_fillBin_22 fl_Dr_29 h0 hVw1 rfl trivial rfl (Or.inl rfl) (fun Iw4 eIw4 hVw4 => ?_)
      refine g_aload_n C dDr_fillBin_25 rfl ?_
      refine gt_getr C dDr_fillBin_26 fl_Dr_18 h0 hVw4.1.1 rfl (fun b_26 q_26 hb_26 => ?_)
      refine g_iload_n C dDr_fillBin_29 rfl ?_
      refine g_dup2 C dDr_fillBin_30 rfl rfl ?_
      refine gt_iald C dDr_fillBin_31 hb_26 (by decide) rfl rfl (n := 5) rfl (by omega) ?_
      refine g_aload_n C dDr_fillBin_32 rfl ?_
      refine gt_getS C dDr_fillBin_33 fl_Dr_12 h0 q_13 ?_
      refine gt_getS C dDr_fillBin_36 fl_Dr_160 hb_13 q_16 ?_
      refine g_iload_n C dDr_fillBin_39 rfl ?_
      refine gt_iald C dDr_fillBin_40 hb_16 (by decide) rfl rfl (n := 5) rfl (by omega) ?_
      first | refine n_iadd C dDr_fillBin_41 rfl rfl (by omega) (fun z_41 e_41 => ?_) | refine a_iadd C dDr_fillBin_41 (fun z_41 => ?_)
      refine gt_iast C dDr_fillBin_42 hb_26 (by decide) rfl rfl (n := 5) rfl (by omega) hVw4 rfl trivial (fun Iw5 eIw5 hVw5 => ?_)
      first | refine n_iinc C dDr_fillBin_43 rfl rfl (by decide) (by decide) (by omega) (fun z_43 e_43 => ?_) | refine a_iinc C dDr_fillBin_43 rfl (by decide) (fun z_43 => ?_)
      refine g_goto 2 C dDr_fillBin_46 (by decide) ?_
      exact g_sub (ih_2 _ (by omega) z_43 Iw5 Jw1 rfl (by omega) hVw5) ⟨rfl, rfl, rfl, trivial⟩
  exact g_sub (lp_2 _ (Int32.ofInt (0)) I0 J0 rfl (by have hci : Int32.toInt (Int32.ofInt (0)) = 0 := ofI (by decide); omega) hV0) ⟨rfl, rfl, rfl, trivial⟩
set_option maxHeartbeats 4000000 in
set_option maxRecDepth 100000 in
theorem cDr_drawFromBin {P : List Nat} {K : Nat → Nat} {I0 : Nat → Nat → Int32} {O : Nat → Nat → Option Nat} {J0 : Nat → Nat → Int64} (hV : IV P K I0 O) {a0 : Nat} (h0 : a0 ∈ P ∧ K a0 = 0) {a1 : Nat} (h1 : a1 ∈ P ∧ K a1 = 3) : Con yDr_drawFromBin bDr_drawFromBin 3 none ({ frames := 1, cells := 0, slots := 0, locals := 21 } : Room) P K I0 O J0 [.ref a0, .ref a1] (SPo frN 0 (tt) P K I0 O J0) := by
  refine Con.ofG mfDr_drawFromBin (Nat.le_of_ble_eq_true rfl) ?_
  intro X C E
  have hV0 : SV frN P K O I0 J0 I0 J0 := SV.rf hV
  refine g_aload_n C dDr_drawFromBin_0 rfl ?_
  refine g_geti C dDr_drawFromBin_1 fl_Dr_29 h0 ?_
  refine g_aload_n C dDr_drawFromBin_4 rfl ?_
  refine g_geti C dDr_drawFromBin_5 fl_Dr_169 h1 ?_
  refine gt_min C dDr_drawFromBin_8 ml_Dr_172 (Nat.le_of_ble_eq_true rfl) ⟨Nat.le_of_ble_eq_true rfl, Nat.le_of_ble_eq_true rfl⟩ ⟨Nat.zero_le _, Nat.zero_le _⟩ (fun z_8 e_8 => ?_)
  refine g_istore_n (i := 2) C dDr_drawFromBin_11 rfl (by decide) ?_
  refine g_aload_n C dDr_drawFromBin_12 rfl ?_
  refine g_dup C dDr_drawFromBin_13 rfl ?_
  refine g_geti C dDr_drawFromBin_14 fl_Dr_29 h0 ?_
  refine g_iload_n C dDr_drawFromBin_17 rfl ?_
  first | refine n_isub C dDr_drawFromBin_18 rfl rfl (by omega) (fun z_18 e_18 => ?_) | refine a_isub C dDr_drawFromBin_18 (fun z_18 => ?_)
  refine gt_puti C dDr_drawFromBin_19 fl_Dr_29 h0 hV0 rfl trivial rfl (Or.inl rfl) (fun Iw1 eIw1 hVw1 => ?_)
  refine g_aload_n C dDr_drawFromBin_22 rfl ?_
  refine g_dup C dDr_drawFromBin_23 rfl ?_
  refine g_geti C dDr_drawFromBin_24 fl_Dr_67 h0 ?_
  refine g_iload_n C dDr_drawFromBin_27 rfl ?_
  first | refine n_iadd C dDr_drawFromBin_28 rfl rfl (by omega) (fun z_28 e_28 => ?_) | refine a_iadd C dDr_drawFromBin_28 (fun z_28 => ?_)
  refine gt_puti C dDr_drawFromBin_29 fl_Dr_67 h0 hVw1 rfl trivial rfl (Or.inl rfl) (fun Iw2 eIw2 hVw2 => ?_)
  refine g_aload_n C dDr_drawFromBin_32 rfl ?_
  refine g_aload_n C dDr_drawFromBin_33 rfl ?_
  refine g_geti C dDr_drawFromBin_34 fl_Dr_169 h1 ?_
  refine g_iload_n C dDr_drawFromBin_37 rfl ?_
  first | refine n_isub C dDr_drawFromBin_38 rfl rfl (by omega) (fun z_38 e_38 => ?_) | refine a_isub C dDr_drawFromBin_38 (fun z_38 => ?_)
  refine gt_puti C dDr_drawFromBin_39 fl_Dr_58 h0 hVw2 rfl trivial rfl (Or.inl rfl) (fun Iw3 eIw3 hVw3 => ?_)
  refine g_aload_n C dDr_drawFromBin_42 rfl ?_
  refine g_dup C dDr_drawFromBin_43 rfl ?_
  refine g_geti C dDr_drawFromBin_44 fl_Dr_61 h0 ?_
  refine g_aload_n C dDr_drawFromBin_47 rfl ?_
  refine g_geti C dDr_drawFromBin_48 fl_Dr_58 h0 ?_
  first | refine n_iadd C dDr_drawFromBin_51 rfl rfl (by omega) (fun z_51 e_51 => ?_) | refine a_iadd C dDr_drawFromBin_51 (fun z_51 => ?_)
  refine gt_puti C dDr_drawFromBin_52 fl_Dr_61 h0 hVw3 rfl trivial rfl (Or.inl rfl) (fun Iw4 eIw4 hVw4 => ?_)
  exact s_vret C E dDr_drawFromBin_55 ⟨Nat.zero_le _, Nat.zero_le _⟩ hVw4 trivial
set_option maxHeartbeats 4000000 in
set_option maxRecDepth 100000 in
theorem cDr_runHour {P : List Nat} {K : Nat → Nat} {I0 : Nat → Nat → Int32} {O : Nat → Nat → Option Nat} {J0 : Nat → Nat → Int64} (hV : IV P K I0 O) {a0 : Nat} (h0 : a0 ∈ P ∧ K a0 = 0) {a1 : Nat} (h1 : a1 ∈ P ∧ K a1 = 3) {a2 κ2 : Nat} (h2 : a2 ∈ P ∧ K a2 = κ2) (p2 : PL frN κ2) {x3 : Int32} (pr0 : Int32.toInt x3 ≤ 1000) : Con yDr_runHour bDr_runHour 4 none ({ frames := 3, cells := 0, slots := 0, locals := 64 } : Room) P K I0 O J0 [.ref a0, .ref a1, .ref a2, .int x3] (SPo frN 0 (tt) P K I0 O J0) := by
  refine Con.ofG mfDr_runHour (Nat.le_of_ble_eq_true rfl) ?_
  intro X C E
  have r3 := rg x3
  have pb2 := p2.2.2.2.2
  have hV0 : SV frN P K O I0 J0 I0 J0 := SV.rf hV
  refine g_iload_n C dDr_runHour_0 rfl ?_
  refine gt_if_lt 12 C dDr_runHour_1 (by decide) rfl (fun c_1 => ?_) (fun c_1 => ?_)
  · skip
    exact s_vret C E dDr_runHour_12 ⟨Nat.zero_le _, Nat.zero_le _⟩ hV0 trivial
  · skip
    refine g_iload_n C dDr_runHour_4 rfl ?_
    refine g_iconst (v := Int32.ofInt (3)) C dDr_runHour_5 (by decide) ?_
    first | refine n_iadd C dDr_runHour_6 rfl (ofI (by decide)) (by omega) (fun z_6 e_6 => ?_) | refine a_iadd C dDr_runHour_6 (fun z_6 => ?_)
    refine g_aload_n C dDr_runHour_7 rfl ?_
    refine gt_alen C dDr_runHour_8 h2 p2.1 (by rw [p2.2.1]; decide) p2.2.2.2.2 rfl (fun z_8 e_8 => ?_)
    refine gt_icmp_le 13 C dDr_runHour_9 (by decide) rfl rfl (fun c_9 => ?_) (fun c_9 => ?_)
    · skip
      refine g_aload_n C dDr_runHour_13 rfl ?_
      refine g_geti C dDr_runHour_14 fl_Dr_39 h0 ?_
      have jn_35 : ∀   (Iw1 : Nat → Nat → Int32) (Jw1 : Nat → Nat → Int64),  SV frN P K O I0 J0 Iw1 Jw1 → GG X 4 P K Iw1 O Jw1 0 0 35 [(0, .ref a0), (1, .ref a1), (2, .ref a2), (3, .int x3)] [] := by
        intro Iw1 Jw1 hVw1
        refine g_aload_n C dDr_runHour_35 rfl ?_
        refine gt_getr C dDr_runHour_36 fl_Dr_12 h0 hVw1.1.1 rfl (fun b_36 q_36 hb_36 => ?_)
        refine s_callV_v (av := fun ad => []) C dDr_runHour_39 mfLd_takeBack mvLd_takeBack ln_Dr_113 hb_36 (by decide) rfl hVw1 fr_NN (cLd_takeBack hVw1.1 hb_36) rfl rfl (Nat.le_of_ble_eq_true rfl) ⟨Nat.le_of_ble_eq_true rfl, Nat.le_of_ble_eq_true rfl⟩ ⟨rfl, rfl⟩ ⟨Nat.zero_le _, Nat.zero_le _⟩ (fun Iw2 Jw2 hVw2 hFw2 p_39 => ?_)
        refine g_aload_n C dDr_runHour_42 rfl ?_
        refine g_aload_n C dDr_runHour_43 rfl ?_
        refine gt_getS C dDr_runHour_44 fl_Dr_12 h0 q_36 ?_
        refine gt_getr C dDr_runHour_47 fl_Dr_95 hb_36 hVw2.1.1 rfl (fun b_47 q_47 hb_47 => ?_)
        refine s_callS_ip (av := fun ad => [.ref b_47]) C dDr_runHour_50 mfRM_sumOf msRM_sumOf ln_Dr_116 (cRM_sumOf hVw2.1 hb_47 ⟨by decide, rfl, rfl, fun _ _ => trivial, by decide⟩) rfl rfl (Nat.le_of_ble_eq_true rfl) ⟨Nat.le_of_ble_eq_true rfl, Nat.le_of_ble_eq_true rfl⟩ ⟨rfl, rfl⟩ ⟨Nat.zero_le _, Nat.zero_le _⟩ (fun z_50 p_50 => ?_)
        have rz_50 := rg z_50
        refine gt_puti C dDr_runHour_53 fl_Dr_46 h0 hVw2 rfl trivial rfl (Or.inl rfl) (fun Iw4 eIw4 hVw4 => ?_)
        refine g_aload_n C dDr_runHour_56 rfl ?_
        refine g_aload_n C dDr_runHour_57 rfl ?_
        refine g_geti C dDr_runHour_58 fl_Dr_46 h0 ?_
        refine g_aload_n C dDr_runHour_61 rfl ?_
        refine g_geti C dDr_runHour_62 fl_Dr_120 h1 ?_
        have jn_73 : ∀  (s0_73 : Int32) (Iw5 : Nat → Nat → Int32) (Jw5 : Nat → Nat → Int64), (B01 s0_73) → SV frN P K O I0 J0 Iw5 Jw5 → GG X 4 P K Iw5 O Jw5 0 0 73 [(0, .ref a0), (1, .ref a1), (2, .ref a2), (3, .int x3)] [.int s0_73, .ref a0] := by
          intro s0_73 Iw5 Jw5 jv0_73 hVw5
          refine gt_puti C dDr_runHour_73 fl_Dr_39 h0 hVw5 rfl (by first | assumption | (unfold B01; omega)) rfl (Or.inr ⟨rfl, (by first | assumption | (unfold B01; omega))⟩) (fun Iw6 eIw6 hVw6 => ?_)
          refine g_aload_n C dDr_runHour_76 rfl ?_
          refine g_geti C dDr_runHour_77 fl_Dr_39 h0 ?_
          have jn_150 : ∀   (Iw7 : Nat → Nat → Int32) (Jw7 : Nat → Nat → Int64),  SV frN P K O I0 J0 Iw7 Jw7 → GG X 4 P K Iw7 O Jw7 0 0 150 [(0, .ref a0), (1, .ref a1), (2, .ref a2), (3, .int x3)] [] := by
            intro Iw7 Jw7 hVw7
            refine g_aload_n C dDr_runHour_150 rfl ?_
            refine g_aload_n C dDr_runHour_151 rfl ?_
            refine s_callV_v (av := fun ad => [.ref a1]) C dDr_runHour_152 mfDr_fillBin mvDr_fillBin ln_Dr_137 h0 (by decide) rfl hVw7 fr_NN (cDr_fillBin hVw7.1 h0 h1) rfl rfl (Nat.le_of_ble_eq_true rfl) ⟨Nat.le_of_ble_eq_true rfl, Nat.le_of_ble_eq_true rfl⟩ ⟨rfl, rfl⟩ ⟨Nat.zero_le _, Nat.zero_le _⟩ (fun Iw8 Jw8 hVw8 hFw8 p_152 => ?_)
            refine g_aload_n C dDr_runHour_155 rfl ?_
            refine g_aload_n C dDr_runHour_156 rfl ?_
            refine s_callV_v (av := fun ad => [.ref a1]) C dDr_runHour_157 mfDr_drawFromBin mvDr_drawFromBin ln_Dr_141 h0 (by decide) rfl hVw8 fr_NN (cDr_drawFromBin hVw8.1 h0 h1) rfl rfl (Nat.le_of_ble_eq_true rfl) ⟨Nat.le_of_ble_eq_true rfl, Nat.le_of_ble_eq_true rfl⟩ ⟨rfl, rfl⟩ ⟨Nat.zero_le _, Nat.zero_le _⟩ (fun Iw9 Jw9 hVw9 hFw9 p_157 => ?_)
            refine g_aload_n C dDr_runHour_160 rfl ?_
            refine g_aload_n C dDr_runHour_161 rfl ?_
            refine g_geti C dDr_runHour_162 fl_Dr_144 h1 ?_
            refine g_aload_n C dDr_runHour_165 rfl ?_
            refine g_geti C dDr_runHour_166 fl_Dr_144 h1 ?_
            refine g_aload_n C dDr_runHour_169 rfl ?_
            refine g_geti C dDr_runHour_170 fl_Dr_46 h0 ?_
            refine g_aload_n C dDr_runHour_173 rfl ?_
            refine g_geti C dDr_runHour_174 fl_Dr_120 h1 ?_
            refine s_callS_ip (av := fun ad => [.int (Iw9 a1 1), .int (Iw9 a0 7), .int (Iw9 a1 0)]) C dDr_runHour_177 mfRM_share msRM_share ln_Dr_88 (cRM_share hVw9.1 ) rfl rfl (Nat.le_of_ble_eq_true rfl) ⟨Nat.le_of_ble_eq_true rfl, Nat.le_of_ble_eq_true rfl⟩ ⟨rfl, rfl⟩ ⟨Nat.zero_le _, Nat.zero_le _⟩ (fun z_177 p_177 => ?_)
            have rz_177 := rg z_177
            first | refine n_isub C dDr_runHour_180 rfl rfl (by omega) (fun z_180 e_180 => ?_) | refine a_isub C dDr_runHour_180 (fun z_180 => ?_)
            refine g_iconst (v := Int32.ofInt (0)) C dDr_runHour_181 (by decide) ?_
            refine gt_max C dDr_runHour_182 ml_Dr_147 (Nat.le_of_ble_eq_true rfl) ⟨Nat.le_of_ble_eq_true rfl, Nat.le_of_ble_eq_true rfl⟩ ⟨Nat.zero_le _, Nat.zero_le _⟩ (fun z_182 e_182 => ?_)
            have k_182 : Int32.toInt (Int32.ofInt (0)) = 0 := ofI (by decide)
            refine gt_puti C dDr_runHour_185 fl_Dr_55 h0 hVw9 rfl trivial rfl (Or.inl rfl) (fun Iw11 eIw11 hVw11 => ?_)
            refine g_aload_n C dDr_runHour_188 rfl ?_
            refine g_dup C dDr_runHour_189 rfl ?_
            refine g_geti C dDr_runHour_190 fl_Dr_70 h0 ?_
            refine g_aload_n C dDr_runHour_193 rfl ?_
            refine g_geti C dDr_runHour_194 fl_Dr_52 h0 ?_
            refine g_aload_n C dDr_runHour_197 rfl ?_
            refine g_aload_n C dDr_runHour_198 rfl ?_
            refine g_geti C dDr_runHour_199 fl_Dr_43 h0 ?_
            refine s_callV_ip (av := fun ad => [.int (Iw11 a0 6)]) C dDr_runHour_202 mfMl_priceAt mvMl_priceAt ln_Dr_152 h1 (by decide) rfl (cMl_priceAt hVw11.1 h1) rfl rfl (Nat.le_of_ble_eq_true rfl) ⟨Nat.le_of_ble_eq_true rfl, Nat.le_of_ble_eq_true rfl⟩ ⟨rfl, rfl⟩ ⟨Nat.zero_le _, Nat.zero_le _⟩ (fun z_202 p_202 => ?_)
            have rz_202 := rg z_202
            refine a_imul C dDr_runHour_205 (fun z_205 => ?_)
            first | refine n_iadd C dDr_runHour_206 rfl rfl (by omega) (fun z_206 e_206 => ?_) | refine a_iadd C dDr_runHour_206 (fun z_206 => ?_)
            refine gt_puti C dDr_runHour_207 fl_Dr_70 h0 hVw11 rfl trivial rfl (Or.inl rfl) (fun Iw13 eIw13 hVw13 => ?_)
            refine g_aload_n C dDr_runHour_210 rfl ?_
            refine g_dup C dDr_runHour_211 rfl ?_
            refine g_geti C dDr_runHour_212 fl_Dr_33 h0 ?_
            refine g_iconst (v := Int32.ofInt (1)) C dDr_runHour_215 (by decide) ?_
            first | refine n_iadd C dDr_runHour_216 rfl (ofI (by decide)) (by omega) (fun z_216 e_216 => ?_) | refine a_iadd C dDr_runHour_216 (fun z_216 => ?_)
            refine gt_puti C dDr_runHour_217 fl_Dr_33 h0 hVw13 rfl trivial rfl (Or.inl rfl) (fun Iw14 eIw14 hVw14 => ?_)
            refine g_aload_n C dDr_runHour_220 rfl ?_
            refine g_dup C dDr_runHour_221 rfl ?_
            refine g_geti C dDr_runHour_222 fl_Dr_43 h0 ?_
            refine g_iconst (v := Int32.ofInt (1)) C dDr_runHour_225 (by decide) ?_
            first | refine n_iadd C dDr_runHour_226 rfl (ofI (by decide)) (by omega) (fun z_226 e_226 => ?_) | refine a_iadd C dDr_runHour_226 (fun z_226 => ?_)
            refine gt_puti C dDr_runHour_227 fl_Dr_43 h0 hVw14 rfl trivial rfl (Or.inl rfl) (fun Iw15 eIw15 hVw15 => ?_)
            exact s_vret C E dDr_runHour_230 ⟨Nat.zero_le _, Nat.zero_le _⟩ hVw15 trivial
          refine gt_if_eq 90 C dDr_runHour_80 (by decide) rfl (fun c_80 => ?_) (fun c_80 => ?_)
          · skip
            refine g_aload_n C dDr_runHour_90 rfl ?_
            refine g_aload_n C dDr_runHour_91 rfl ?_
            refine g_aload_n C dDr_runHour_92 rfl ?_
            refine g_aload_n C dDr_runHour_93 rfl ?_
            refine g_iload_n C dDr_runHour_94 rfl ?_
            refine g_iconst (v := Int32.ofInt (2)) C dDr_runHour_95 (by decide) ?_
            first | refine n_iadd C dDr_runHour_96 rfl (ofI (by decide)) (by omega) (fun z_96 e_96 => ?_) | refine a_iadd C dDr_runHour_96 (fun z_96 => ?_)
            refine gt_iald C dDr_runHour_97 h2 p2.1 p2.2.1 rfl rfl (by omega) ?_
            refine s_callV_ip (av := fun ad => [.ref a1, .int (Iw6 a2 z_96.toNatClampNeg)]) C dDr_runHour_98 mfDr_effectOf mvDr_effectOf ln_Dr_126 h0 (by decide) rfl (cDr_effectOf hVw6.1 h0 h1) rfl rfl (Nat.le_of_ble_eq_true rfl) ⟨Nat.le_of_ble_eq_true rfl, Nat.le_of_ble_eq_true rfl⟩ ⟨rfl, rfl⟩ ⟨Nat.zero_le _, Nat.zero_le _⟩ (fun z_98 p_98 => ?_)
            have rz_98 := rg z_98
            refine gt_puti C dDr_runHour_101 fl_Dr_49 h0 hVw6 rfl trivial rfl (Or.inl rfl) (fun Iw17 eIw17 hVw17 => ?_)
            refine g_aload_n C dDr_runHour_104 rfl ?_
            refine g_aload_n C dDr_runHour_105 rfl ?_
            refine g_geti C dDr_runHour_106 fl_Dr_46 h0 ?_
            refine g_aload_n C dDr_runHour_109 rfl ?_
            refine g_geti C dDr_runHour_110 fl_Dr_49 h0 ?_
            refine g_bipush (v := Int32.ofInt (100)) C dDr_runHour_113 (by decide) ?_
            refine s_callS_ip (av := fun ad => [.int (Iw17 a0 7), .int (Iw17 a0 8), .int (Int32.ofInt (100))]) C dDr_runHour_115 mfRM_share msRM_share ln_Dr_88 (cRM_share hVw17.1 ) rfl rfl (Nat.le_of_ble_eq_true rfl) ⟨Nat.le_of_ble_eq_true rfl, Nat.le_of_ble_eq_true rfl⟩ ⟨rfl, rfl⟩ ⟨Nat.zero_le _, Nat.zero_le _⟩ (fun z_115 p_115 => ?_)
            have rz_115 := rg z_115
            refine gt_puti C dDr_runHour_118 fl_Dr_52 h0 hVw17 rfl trivial rfl (Or.inl rfl) (fun Iw19 eIw19 hVw19 => ?_)
            refine g_aload_n C dDr_runHour_121 rfl ?_
            refine gt_getS C dDr_runHour_122 fl_Dr_12 h0 q_36 ?_
            refine g_aload_n C dDr_runHour_125 rfl ?_
            refine g_aload_n C dDr_runHour_126 rfl ?_
            refine g_geti C dDr_runHour_127 fl_Dr_49 h0 ?_
            refine s_callV_v (av := fun ad => [.ref a1, .int (Iw19 a0 8)]) C dDr_runHour_130 mfLd_breakUp mvLd_breakUp ln_Dr_130 hb_36 (by decide) rfl hVw19 fr_NN (cLd_breakUp hVw19.1 hb_36 h1) rfl rfl (Nat.le_of_ble_eq_true rfl) ⟨Nat.le_of_ble_eq_true rfl, Nat.le_of_ble_eq_true rfl⟩ ⟨rfl, rfl⟩ ⟨Nat.zero_le _, Nat.zero_le _⟩ (fun Iw20 Jw20 hVw20 hFw20 p_130 => ?_)
            refine g_aload_n C dDr_runHour_133 rfl ?_
            refine gt_getS C dDr_runHour_134 fl_Dr_12 h0 q_36 ?_
            refine g_aload_n C dDr_runHour_137 rfl ?_
            refine g_aload_n C dDr_runHour_138 rfl ?_
            refine g_iload_n C dDr_runHour_139 rfl ?_
            refine g_iconst (v := Int32.ofInt (1)) C dDr_runHour_140 (by decide) ?_
            first | refine n_iadd C dDr_runHour_141 rfl (ofI (by decide)) (by omega) (fun z_141 e_141 => ?_) | refine a_iadd C dDr_runHour_141 (fun z_141 => ?_)
            refine gt_iald C dDr_runHour_142 h2 p2.1 p2.2.1 rfl rfl (by omega) ?_
            refine g_aload_n C dDr_runHour_143 rfl ?_
            refine g_geti C dDr_runHour_144 fl_Dr_36 h0 ?_
            refine s_callV_v (av := fun ad => [.ref a1, .int (Iw20 a2 z_141.toNatClampNeg), .int (Iw20 a0 4)]) C dDr_runHour_147 mfLd_sift mvLd_sift ln_Dr_134 hb_36 (by decide) rfl hVw20 fr_NN (cLd_sift hVw20.1 hb_36 h1) rfl rfl (Nat.le_of_ble_eq_true rfl) ⟨Nat.le_of_ble_eq_true rfl, Nat.le_of_ble_eq_true rfl⟩ ⟨rfl, rfl⟩ ⟨Nat.zero_le _, Nat.zero_le _⟩ (fun Iw21 Jw21 hVw21 hFw21 p_147 => ?_)
            exact g_sub (jn_150  Iw21 Jw21  hVw21) ⟨rfl, rfl, rfl, rfl, trivial⟩
          · skip
            refine g_aload_n C dDr_runHour_83 rfl ?_
            refine s_callV_v (av := fun ad => []) C dDr_runHour_84 mfDr_standStill mvDr_standStill ln_Dr_123 h0 (by decide) rfl hVw6 fr_NN (cDr_standStill hVw6.1 h0) rfl rfl (Nat.le_of_ble_eq_true rfl) ⟨Nat.le_of_ble_eq_true rfl, Nat.le_of_ble_eq_true rfl⟩ ⟨rfl, rfl⟩ ⟨Nat.zero_le _, Nat.zero_le _⟩ (fun Iw22 Jw22 hVw22 hFw22 p_84 => ?_)
            refine g_goto 150 C dDr_runHour_87 (by decide) ?_
            exact g_sub (jn_150  Iw22 Jw22  hVw22) ⟨rfl, rfl, rfl, rfl, trivial⟩
        refine gt_icmp_le 72 C dDr_runHour_65 (by decide) rfl rfl (fun c_65 => ?_) (fun c_65 => ?_)
        · skip
          refine g_iconst (v := Int32.ofInt (0)) C dDr_runHour_72 (by decide) ?_
          exact g_sub (jn_73 (Int32.ofInt (0)) Iw4 Jw2 (Or.inl (ofI (by decide))) hVw4) ⟨rfl, rfl, rfl, rfl, trivial⟩
        · skip
          refine g_iconst (v := Int32.ofInt (1)) C dDr_runHour_68 (by decide) ?_
          refine g_goto 73 C dDr_runHour_69 (by decide) ?_
          exact g_sub (jn_73 (Int32.ofInt (1)) Iw4 Jw2 (Or.inr (ofI (by decide))) hVw4) ⟨rfl, rfl, rfl, rfl, trivial⟩
      refine gt_if_ne 35 C dDr_runHour_17 (by decide) rfl (fun c_17 => ?_) (fun c_17 => ?_)
      · skip
        exact g_sub (jn_35  I0 J0  hV0) ⟨rfl, rfl, rfl, rfl, trivial⟩
      · skip
        refine g_aload_n C dDr_runHour_20 rfl ?_
        refine g_aload_n C dDr_runHour_21 rfl ?_
        refine g_aload_n C dDr_runHour_22 rfl ?_
        refine g_iload_n C dDr_runHour_23 rfl ?_
        refine g_iconst (v := Int32.ofInt (0)) C dDr_runHour_24 (by decide) ?_
        first | refine n_iadd C dDr_runHour_25 rfl (ofI (by decide)) (by omega) (fun z_25 e_25 => ?_) | refine a_iadd C dDr_runHour_25 (fun z_25 => ?_)
        refine gt_iald C dDr_runHour_26 h2 p2.1 p2.2.1 rfl rfl (by omega) ?_
        refine g_aload_n C dDr_runHour_27 rfl ?_
        refine g_iload_n C dDr_runHour_28 rfl ?_
        refine g_iconst (v := Int32.ofInt (2)) C dDr_runHour_29 (by decide) ?_
        first | refine n_iadd C dDr_runHour_30 rfl (ofI (by decide)) (by omega) (fun z_30 e_30 => ?_) | refine a_iadd C dDr_runHour_30 (fun z_30 => ?_)
        refine gt_iald C dDr_runHour_31 h2 p2.1 p2.2.1 rfl rfl (by omega) ?_
        refine s_callV_v (av := fun ad => [.ref a1, .int (I0 a2 z_25.toNatClampNeg), .int (I0 a2 z_30.toNatClampNeg)]) C dDr_runHour_32 mfDr_takeOre mvDr_takeOre ln_Dr_109 h0 (by decide) rfl hV0 fr_NN (cDr_takeOre hV0.1 h0 h1) rfl rfl (Nat.le_of_ble_eq_true rfl) ⟨Nat.le_of_ble_eq_true rfl, Nat.le_of_ble_eq_true rfl⟩ ⟨rfl, rfl⟩ ⟨Nat.zero_le _, Nat.zero_le _⟩ (fun Iw23 Jw23 hVw23 hFw23 p_32 => ?_)
        exact g_sub (jn_35  Iw23 Jw23  hVw23) ⟨rfl, rfl, rfl, rfl, trivial⟩
    · skip
      exact s_vret C E dDr_runHour_12 ⟨Nat.zero_le _, Nat.zero_le _⟩ hV0 trivial
