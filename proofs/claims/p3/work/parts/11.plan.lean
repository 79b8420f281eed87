set_option maxHeartbeats 4000000 in
set_option maxRecDepth 100000 in
theorem cPl_drop {P : List Nat} {K : Nat → Nat} {I0 : Nat → Nat → Int32} {O : Nat → Nat → Option Nat} {J0 : Nat → Nat → Int64} (hV : IV P K I0 O) {a0 : Nat} (h0 : a0 ∈ P ∧ K a0 = 4) : Con yPl_drop bPl_drop 1 none ({ frames := 0, cells := 0, slots := 0, locals := 0 } : Room) P K I0 O J0 [.ref a0] (SPo frN 0 (tt) P K I0 O J0) := by
  refine Con.ofG mfPl_drop (Nat.le_of_ble_eq_true rfl) ?_
  intro X C E
  have hV0 : SV frN P K O I0 J0 I0 J0 := SV.rf hV
  refine g_aload_n C dPl_drop_0 rfl ?_
  refine g_iconst (v := Int32.ofInt (0)) C dPl_drop_1 (by decide) ?_
  refine gt_puti C dPl_drop_2 fl_Pl_38 h0 hV0 rfl trivial rfl (Or.inl rfl) (fun Iw1 eIw1 hVw1 => ?_)
  exact s_vret C E dPl_drop_5 ⟨Nat.zero_le _, Nat.zero_le _⟩ hVw1 trivial
set_option maxHeartbeats 4000000 in
set_option maxRecDepth 100000 in
theorem cPl_keptRate {P : List Nat} {K : Nat → Nat} {I0 : Nat → Nat → Int32} {O : Nat → Nat → Option Nat} {J0 : Nat → Nat → Int64} (hV : IV P K I0 O) {a0 : Nat} (h0 : a0 ∈ P ∧ K a0 = 4) {x1 : Int32} : Con yPl_keptRate bPl_keptRate 2 (some .int) ({ frames := 0, cells := 0, slots := 0, locals := 0 } : Room) P K I0 O J0 [.ref a0, .int x1] (SPo frP 1 (tt) P K I0 O J0) := by
  refine Con.ofG mfPl_keptRate (Nat.le_of_ble_eq_true rfl) ?_
  intro X C E
  have r1 := rg x1
  have hV0 : SV frP P K O I0 J0 I0 J0 := SV.rf hV
  refine g_iload_n C dPl_keptRate_0 rfl ?_
  refine gt_if_lt 26 C dPl_keptRate_1 (by decide) rfl (fun c_1 => ?_) (fun c_1 => ?_)
  · skip
    refine g_iconst (v := Int32.ofInt (-1)) C dPl_keptRate_26 (by decide) ?_
    exact s_iret C E dPl_keptRate_27 ⟨Nat.zero_le _, Nat.zero_le _⟩ hV0 trivial
  · skip
    refine g_iload_n C dPl_keptRate_4 rfl ?_
    refine g_aload_n C dPl_keptRate_5 rfl ?_
    refine g_geti C dPl_keptRate_6 fl_Pl_38 h0 ?_
    refine gt_icmp_ge 26 C dPl_keptRate_9 (by decide) rfl rfl (fun c_9 => ?_) (fun c_9 => ?_)
    · skip
      refine g_iconst (v := Int32.ofInt (-1)) C dPl_keptRate_26 (by decide) ?_
      exact s_iret C E dPl_keptRate_27 ⟨Nat.zero_le _, Nat.zero_le _⟩ hV0 trivial
    · skip
      refine g_iload_n C dPl_keptRate_12 rfl ?_
      refine g_iconst (v := Int32.ofInt (5)) C dPl_keptRate_13 (by decide) ?_
      refine gt_icmp_ge 26 C dPl_keptRate_14 (by decide) rfl (ofI (by decide)) (fun c_14 => ?_) (fun c_14 => ?_)
      · skip
        refine g_iconst (v := Int32.ofInt (-1)) C dPl_keptRate_26 (by decide) ?_
        exact s_iret C E dPl_keptRate_27 ⟨Nat.zero_le _, Nat.zero_le _⟩ hV0 trivial
      · skip
        refine g_aload_n C dPl_keptRate_17 rfl ?_
        refine gt_getr C dPl_keptRate_18 fl_Pl_27 h0 hV0.1.1 rfl (fun b_18 q_18 hb_18 => ?_)
        refine g_iload_n C dPl_keptRate_21 rfl ?_
        refine gt_iald C dPl_keptRate_22 hb_18 (by decide) rfl rfl (n := 5) rfl (by omega) ?_
        refine g_goto 27 C dPl_keptRate_23 (by decide) ?_
        exact s_iret C E dPl_keptRate_27 ⟨Nat.zero_le _, Nat.zero_le _⟩ hV0 trivial
set_option maxHeartbeats 4000000 in
set_option maxRecDepth 100000 in
theorem cPl_keepBest {P : List Nat} {K : Nat → Nat} {I0 : Nat → Nat → Int32} {O : Nat → Nat → Option Nat} {J0 : Nat → Nat → Int64} (hV : IV P K I0 O) {a0 : Nat} (h0 : a0 ∈ P ∧ K a0 = 4) {x1 : Int32} : Con yPl_keepBest bPl_keepBest 2 none ({ frames := 1, cells := 0, slots := 0, locals := 22 } : Room) P K I0 O J0 [.ref a0, .int x1] (SPo frN 0 (tt) P K I0 O J0) := by
  refine Con.ofG mfPl_keepBest (Nat.le_of_ble_eq_true rfl) ?_
  intro X C E
  have r1 := rg x1
  have hV0 : SV frN P K O I0 J0 I0 J0 := SV.rf hV
  refine g_aload_n C dPl_keepBest_0 rfl ?_
  refine gt_getr C dPl_keepBest_1 fl_Pl_21 h0 hV0.1.1 rfl (fun b_1 q_1 hb_1 => ?_)
  refine g_aload_n C dPl_keepBest_4 rfl ?_
  refine gt_getr C dPl_keepBest_5 fl_Pl_24 h0 hV0.1.1 rfl (fun b_5 q_5 hb_5 => ?_)
  refine s_callS_v (av := fun ad => [.ref b_1, .ref b_5]) C dPl_keepBest_8 mfRM_copyRow msRM_copyRow ln_Pl_46 hV0 fr_NN (cRM_copyRow hV0.1 hb_1 ⟨by decide, rfl, rfl, fun _ _ => trivial, by decide⟩ hb_5 ⟨by decide, rfl, rfl, fun _ _ => trivial, by decide⟩) rfl rfl (Nat.le_of_ble_eq_true rfl) ⟨Nat.le_of_ble_eq_true rfl, Nat.le_of_ble_eq_true rfl⟩ ⟨rfl, rfl⟩ ⟨Nat.zero_le _, Nat.zero_le _⟩ (fun Iw1 Jw1 hVw1 hFw1 p_8 => ?_)
  refine g_aload_n C dPl_keepBest_11 rfl ?_
  refine g_iload_n C dPl_keepBest_12 rfl ?_
  refine gt_puti C dPl_keepBest_13 fl_Pl_58 h0 hVw1 rfl trivial rfl (Or.inl rfl) (fun Iw2 eIw2 hVw2 => ?_)
  refine g_aload_n C dPl_keepBest_16 rfl ?_
  refine g_iconst (v := Int32.ofInt (1)) C dPl_keepBest_17 (by decide) ?_
  refine gt_puti C dPl_keepBest_18 fl_Pl_50 h0 hVw2 rfl (Or.inr (ofI (by decide))) rfl (Or.inr ⟨rfl, (Or.inr (ofI (by decide)))⟩) (fun Iw3 eIw3 hVw3 => ?_)
  exact s_vret C E dPl_keepBest_21 ⟨Nat.zero_le _, Nat.zero_le _⟩ hVw3 trivial
set_option maxHeartbeats 4000000 in
set_option maxRecDepth 100000 in
theorem cPl_search (n : Nat) : ∀ {P : List Nat} {K : Nat → Nat} {I0 : Nat → Nat → Int32} {O : Nat → Nat → Option Nat} {J0 : Nat → Nat → Int64} (hV : IV P K I0 O) {a0 : Nat} (h0 : a0 ∈ P ∧ K a0 = 4) {a1 : Nat} (h1 : a1 ∈ P ∧ K a1 = 3) {x2 : Int32} {x3 : Int32} (pr0 : 0 ≤ Int32.toInt x2 ∧ Int32.toInt x2 ≤ 5 ∧ 6 - Int32.toInt x2 ≤ (n : Int)), Con yPl_search bPl_search 7 none ({ frames := 4 + n, cells := 0, slots := 0, locals := 87 + 26 * n } : Room) P K I0 O J0 [.ref a0, .ref a1, .int x2, .int x3] (SPo frN 0 (tt) P K I0 O J0) := by
  induction n with
  | zero =>
    intro P K I0 O J0 hV a0 h0 a1 h1 x2 x3 pr0
    exfalso; omega
  | succ n ih =>
    intro P K I0 O J0 hV a0 h0 a1 h1 x2 x3 pr0
    refine Con.ofG mfPl_search (Nat.le_of_ble_eq_true rfl) ?_
    intro X C E
    have r2 := rg x2
    have r3 := rg x3
    have hV0 : SV frN P K O I0 J0 I0 J0 := SV.rf hV
    refine g_iload_n C dPl_search_0 rfl ?_
    refine gt_if_lt 9 C dPl_search_1 (by decide) rfl (fun c_1 => ?_) (fun c_1 => ?_)
    · skip
      exact s_vret C E dPl_search_9 ⟨Nat.zero_le _, Nat.zero_le _⟩ hV0 trivial
    · skip
      refine g_iload_n C dPl_search_4 rfl ?_
      refine g_iconst (v := Int32.ofInt (5)) C dPl_search_5 (by decide) ?_
      refine gt_icmp_le 10 C dPl_search_6 (by decide) rfl (ofI (by decide)) (fun c_6 => ?_) (fun c_6 => ?_)
      · skip
        refine g_aload_n C dPl_search_10 rfl ?_
        refine gt_getr C dPl_search_11 fl_Pl_11 h0 hV0.1.1 rfl (fun b_11 q_11 hb_11 => ?_)
        refine g_iload_n C dPl_search_14 rfl ?_
        refine gt_aald C dPl_search_15 hb_11 hV0.1.1 rfl (by omega) (fun b_15 q_15 hb_15 => ?_)
        refine g_astore C dPl_search_16 (by decide) ?_
        refine g_aload C dPl_search_18 rfl ?_
        refine g_ifnonnull 24 C dPl_search_20 (by decide) ?_
        refine g_iload_n C dPl_search_24 rfl ?_
        refine g_iload_n C dPl_search_25 rfl ?_
        have jn_34 : ∀   (Iw1 : Nat → Nat → Int32) (Jw1 : Nat → Nat → Int64),  SV frN P K O I0 J0 Iw1 Jw1 → GG X 7 P K Iw1 O Jw1 0 0 34 [(0, .ref a0), (1, .ref a1), (2, .int x2), (3, .int x3), (4, .ref b_15)] [] := by
          intro Iw1 Jw1 hVw1
          refine g_aload_n C dPl_search_34 rfl ?_
          refine g_aload C dPl_search_35 rfl ?_
          refine g_geti C dPl_search_37 fl_Pl_61 hb_15 ?_
          refine s_callV_v (av := fun ad => [.int (Iw1 b_15 15)]) C dPl_search_40 mfPl_keepBest mvPl_keepBest ln_Pl_64 h0 (by decide) rfl hVw1 fr_NN (cPl_keepBest hVw1.1 h0) rfl rfl (Nat.le_of_ble_eq_true rfl) ⟨by dsimp only; omega, by dsimp only; omega⟩ ⟨rfl, rfl⟩ ⟨Nat.zero_le _, Nat.zero_le _⟩ (fun Iw2 Jw2 hVw2 hFw2 p_40 => ?_)
          exact s_vret C E dPl_search_43 ⟨Nat.zero_le _, Nat.zero_le _⟩ hVw2 trivial
        refine gt_icmp_ge 34 C dPl_search_26 (by decide) rfl rfl (fun c_26 => ?_) (fun c_26 => ?_)
        · skip
          exact g_sub (jn_34  I0 J0  hV0) ⟨rfl, rfl, rfl, rfl, rfl, trivial⟩
        · skip
          refine g_iload_n C dPl_search_29 rfl ?_
          refine g_iconst (v := Int32.ofInt (5)) C dPl_search_30 (by decide) ?_
          refine gt_icmp_lt 44 C dPl_search_31 (by decide) rfl (ofI (by decide)) (fun c_31 => ?_) (fun c_31 => ?_)
          · skip
            refine g_aload_n C dPl_search_44 rfl ?_
            refine gt_getS C dPl_search_45 fl_Pl_11 h0 q_11 ?_
            refine g_iload_n C dPl_search_48 rfl ?_
            refine g_iconst (v := Int32.ofInt (1)) C dPl_search_49 (by decide) ?_
            first | refine n_iadd C dPl_search_50 rfl (ofI (by decide)) (by omega) (fun z_50 e_50 => ?_) | refine a_iadd C dPl_search_50 (fun z_50 => ?_)
            refine gt_aald C dPl_search_51 hb_11 hV0.1.1 rfl (by omega) (fun b_51 q_51 hb_51 => ?_)
            refine g_astore C dPl_search_52 (by decide) ?_
            refine g_iconst (v := Int32.ofInt (0)) C dPl_search_54 (by decide) ?_
            refine g_istore C dPl_search_55 (by decide) ?_
            have lp_57 : ∀ (nn_57 : Nat) (x6_57 : Int32) (Iw3 : Nat → Nat → Int32) (Jw3 : Nat → Nat → Int64), Int.toNat (4 - x6_57.toInt) = nn_57 → (0 ≤ Int32.toInt x6_57 ∧ Int32.toInt x6_57 ≤ 4) → SV frN P K O I0 J0 Iw3 Jw3 → GG X 7 P K Iw3 O Jw3 0 0 57 [(0, .ref a0), (1, .ref a1), (2, .int x2), (3, .int x3), (4, .ref b_15), (5, .ref b_51), (6, .int x6_57)] [] := by
              intro nn_57
              induction nn_57 using Nat.strongRecOn with
              | ind nn_57 ih_57 =>
              intro x6_57 Iw3 Jw3 hn_57 iv0_57 hVw3
              have rg6_57 := rg x6_57
              refine g_iload C dPl_search_57 rfl ?_
              refine g_iconst (v := Int32.ofInt (3)) C dPl_search_59 (by decide) ?_
              refine gt_icmp_gt 144 C dPl_search_60 (by decide) rfl (ofI (by decide)) (fun c_60 => ?_) (fun c_60 => ?_)
              · skip
                exact s_vret C E dPl_search_144 ⟨Nat.zero_le _, Nat.zero_le _⟩ hVw3 trivial
              · skip
                refine g_aload C dPl_search_63 rfl ?_
                refine g_ifnull C dPl_search_65 ?_
                refine g_aload_n C dPl_search_68 rfl ?_
                refine gt_getr C dPl_search_69 fl_Pl_17 h0 hVw3.1.1 rfl (fun b_69 q_69 hb_69 => ?_)
                refine g_iconst (v := Int32.ofInt (0)) C dPl_search_72 (by decide) ?_
                refine g_iload C dPl_search_73 rfl ?_
                refine gt_iastc (c := 0) C dPl_search_75 hb_69 (by decide) rfl (ofI (by decide)) (n := 3) rfl (by decide) (by decide) hVw3 rfl trivial (fun Iw4 eIw4 hVw4 => ?_)
                refine g_aload C dPl_search_76 rfl ?_
                refine g_aload C dPl_search_78 rfl ?_
                refine s_callV_v (av := fun ad => [.ref b_15]) C dPl_search_80 mfDr_copyFrom mvDr_copyFrom ln_Pl_42 hb_51 (by decide) rfl hVw4 fr_NN (cDr_copyFrom hVw4.1 hb_51 hb_15) rfl rfl (Nat.le_of_ble_eq_true rfl) ⟨by dsimp only; omega, by dsimp only; omega⟩ ⟨rfl, rfl⟩ ⟨Nat.zero_le _, Nat.zero_le _⟩ (fun Iw5 Jw5 hVw5 hFw5 p_80 => ?_)
                refine g_aload C dPl_search_83 rfl ?_
                refine g_aload_n C dPl_search_85 rfl ?_
                refine g_aload_n C dPl_search_86 rfl ?_
                refine gt_getS C dPl_search_87 fl_Pl_17 h0 q_69 ?_
                refine g_iconst (v := Int32.ofInt (0)) C dPl_search_90 (by decide) ?_
                refine s_callV_v (av := fun ad => [.ref a1, .ref b_69, .int (Int32.ofInt (0))]) C dPl_search_91 mfDr_runHour mvDr_runHour ln_Pl_68 hb_51 (by decide) rfl hVw5 fr_NN (cDr_runHour hVw5.1 hb_51 h1 hb_69 ⟨by decide, rfl, rfl, fun _ _ => trivial, by decide⟩ (by have hk3 : Int32.toInt (Int32.ofInt (0)) = 0 := ofI (by decide); omega)) rfl rfl (Nat.le_of_ble_eq_true rfl) ⟨by dsimp only; omega, by dsimp only; omega⟩ ⟨rfl, rfl⟩ ⟨Nat.zero_le _, Nat.zero_le _⟩ (fun Iw6 Jw6 hVw6 hFw6 p_91 => ?_)
                refine g_aload C dPl_search_94 rfl ?_
                refine s_callV_zp (av := fun ad => []) C dPl_search_96 mfDr_wentWell mvDr_wentWell ln_Pl_72 hb_51 (by decide) rfl (cDr_wentWell hVw6.1 hb_51) rfl rfl (Nat.le_of_ble_eq_true rfl) ⟨by dsimp only; omega, by dsimp only; omega⟩ ⟨rfl, rfl⟩ ⟨Nat.zero_le _, Nat.zero_le _⟩ (fun z_96 b_96 p_96 => ?_)
                have rz_96 := rg z_96
                have u_96 := b_96
                unfold B01 at u_96
                have jn_138 : ∀   (Iw8 : Nat → Nat → Int32) (Jw8 : Nat → Nat → Int64),  SV frN P K O I0 J0 Iw8 Jw8 → GG X 7 P K Iw8 O Jw8 0 0 138 [(0, .ref a0), (1, .ref a1), (2, .int x2), (3, .int x3), (4, .ref b_15), (5, .ref b_51), (6, .int x6_57)] [] := by
                  intro Iw8 Jw8 hVw8
                  first | refine n_iinc C dPl_search_138 rfl rfl (by decide) (by decide) (by omega) (fun z_138 e_138 => ?_) | refine a_iinc C dPl_search_138 rfl (by decide) (fun z_138 => ?_)
                  refine g_goto 57 C dPl_search_141 (by decide) ?_
                  exact g_sub (ih_57 _ (by omega) z_138 Iw8 Jw8 rfl (by omega) hVw8) ⟨rfl, rfl, rfl, rfl, rfl, rfl, rfl, trivial⟩
                refine gt_if_eq 138 C dPl_search_99 (by decide) rfl (fun c_99 => ?_) (fun c_99 => ?_)
                · skip
                  exact g_sub (jn_138  Iw6 Jw6  hVw6) ⟨rfl, rfl, rfl, rfl, rfl, rfl, rfl, trivial⟩
                · skip
                  refine g_aload_n C dPl_search_102 rfl ?_
                  refine g_geti C dPl_search_103 fl_Pl_50 h0 ?_
                  have jn_121 : ∀   (Iw9 : Nat → Nat → Int32) (Jw9 : Nat → Nat → Int64),  SV frN P K O I0 J0 Iw9 Jw9 → GG X 7 P K Iw9 O Jw9 0 0 121 [(0, .ref a0), (1, .ref a1), (2, .int x2), (3, .int x3), (4, .ref b_15), (5, .ref b_51), (6, .int x6_57)] [] := by
                    intro Iw9 Jw9 hVw9
                    refine g_aload_n C dPl_search_121 rfl ?_
                    refine gt_getr C dPl_search_122 fl_Pl_21 h0 hVw9.1.1 rfl (fun b_122 q_122 hb_122 => ?_)
                    refine g_iload_n C dPl_search_125 rfl ?_
                    refine g_iload C dPl_search_126 rfl ?_
                    refine gt_iast C dPl_search_128 hb_122 (by decide) rfl rfl (n := 5) rfl (by omega) hVw9 rfl trivial (fun Iw10 eIw10 hVw10 => ?_)
                    refine g_aload_n C dPl_search_129 rfl ?_
                    refine g_aload_n C dPl_search_130 rfl ?_
                    refine g_iload_n C dPl_search_131 rfl ?_
                    refine g_iconst (v := Int32.ofInt (1)) C dPl_search_132 (by decide) ?_
                    first | refine n_iadd C dPl_search_133 rfl (ofI (by decide)) (by omega) (fun z_133 e_133 => ?_) | refine a_iadd C dPl_search_133 (fun z_133 => ?_)
                    refine g_iload_n C dPl_search_134 rfl ?_
                    refine s_callS_v (av := fun ad => [.ref a0, .ref a1, .int z_133, .int x3]) C dPl_search_135 mfPl_search msPl_search ln_Pl_54 hVw10 fr_NN (ih hVw10.1 h0 h1 (by omega)) rfl rfl (Nat.le_of_ble_eq_true rfl) ⟨by dsimp only; omega, by dsimp only; omega⟩ ⟨rfl, rfl⟩ ⟨Nat.zero_le _, Nat.zero_le _⟩ (fun Iw11 Jw11 hVw11 hFw11 p_135 => ?_)
                    exact g_sub (jn_138  Iw11 Jw11  hVw11) ⟨rfl, rfl, rfl, rfl, rfl, rfl, rfl, trivial⟩
                  refine gt_if_eq 121 C dPl_search_106 (by decide) rfl (fun c_106 => ?_) (fun c_106 => ?_)
                  · skip
                    exact g_sub (jn_121  Iw6 Jw6  hVw6) ⟨rfl, rfl, rfl, rfl, rfl, rfl, rfl, trivial⟩
                  · skip
                    refine g_aload C dPl_search_109 rfl ?_
                    refine g_geti C dPl_search_111 fl_Pl_61 hb_51 ?_
                    refine g_aload_n C dPl_search_114 rfl ?_
                    refine g_geti C dPl_search_115 fl_Pl_58 h0 ?_
                    refine gt_icmp_ge 138 C dPl_search_118 (by decide) rfl rfl (fun c_118 => ?_) (fun c_118 => ?_)
                    · skip
                      exact g_sub (jn_138  Iw6 Jw6  hVw6) ⟨rfl, rfl, rfl, rfl, rfl, rfl, rfl, trivial⟩
                    · skip
                      exact g_sub (jn_121  Iw6 Jw6  hVw6) ⟨rfl, rfl, rfl, rfl, rfl, rfl, rfl, trivial⟩
            exact g_sub (lp_57 _ (Int32.ofInt (0)) I0 J0 rfl (by have hci : Int32.toInt (Int32.ofInt (0)) = 0 := ofI (by decide); omega) hV0) ⟨rfl, rfl, rfl, rfl, rfl, rfl, rfl, trivial⟩
          · skip
            exact g_sub (jn_34  I0 J0  hV0) ⟨rfl, rfl, rfl, rfl, rfl, trivial⟩
      · skip
        exact s_vret C E dPl_search_9 ⟨Nat.zero_le _, Nat.zero_le _⟩ hV0 trivial
set_option maxHeartbeats 4000000 in
set_option maxRecDepth 100000 in
theorem cPl_findCheapest {P : List Nat} {K : Nat → Nat} {I0 : Nat → Nat → Int32} {O : Nat → Nat → Option Nat} {J0 : Nat → Nat → Int64} (hV : IV P K I0 O) {a0 : Nat} (h0 : a0 ∈ P ∧ K a0 = 4) {a1 : Nat} (h1 : a1 ∈ P ∧ K a1 = 3) {a2 : Nat} (h2 : a2 ∈ P ∧ K a2 = 0) {a3 κ3 : Nat} (h3 : a3 ∈ P ∧ K a3 = κ3) (p3 : PL frN κ3) {x4 : Int32} : Con yPl_findCheapest bPl_findCheapest 6 (some .int) ({ frames := 11, cells := 0, slots := 0, locals := 269 } : Room) P K I0 O J0 [.ref a0, .ref a1, .ref a2, .ref a3, .int x4] (SPo frN 1 (tt) P K I0 O J0) := by
  refine Con.ofG mfPl_findCheapest (Nat.le_of_ble_eq_true rfl) ?_
  intro X C E
  have r4 := rg x4
  have pb3 := p3.2.2.2.2
  have hV0 : SV frN P K O I0 J0 I0 J0 := SV.rf hV
  refine g_aload_n C dPl_findCheapest_0 rfl ?_
  refine gt_getr C dPl_findCheapest_1 fl_Pl_11 h0 hV0.1.1 rfl (fun b_1 q_1 hb_1 => ?_)
  refine g_iconst (v := Int32.ofInt (0)) C dPl_findCheapest_4 (by decide) ?_
  refine gt_aald C dPl_findCheapest_5 hb_1 hV0.1.1 (ofI (by decide)) (by omega) (fun b_5 q_5 hb_5 => ?_)
  refine g_astore C dPl_findCheapest_6 (by decide) ?_
  refine g_aload C dPl_findCheapest_8 rfl ?_
  refine g_ifnonnull 15 C dPl_findCheapest_10 (by decide) ?_
  refine g_aload C dPl_findCheapest_15 rfl ?_
  refine g_aload_n C dPl_findCheapest_17 rfl ?_
  refine s_callV_v (av := fun ad => [.ref a2]) C dPl_findCheapest_18 mfDr_copyFrom mvDr_copyFrom ln_Pl_42 hb_5 (by decide) rfl hV0 fr_NN (cDr_copyFrom hV0.1 hb_5 h2) rfl rfl (Nat.le_of_ble_eq_true rfl) ⟨Nat.le_of_ble_eq_true rfl, Nat.le_of_ble_eq_true rfl⟩ ⟨rfl, rfl⟩ ⟨Nat.zero_le _, Nat.zero_le _⟩ (fun Iw1 Jw1 hVw1 hFw1 p_18 => ?_)
  refine g_aload_n C dPl_findCheapest_21 rfl ?_
  refine g_aload_n C dPl_findCheapest_22 rfl ?_
  refine gt_getr C dPl_findCheapest_23 fl_Pl_17 h0 hVw1.1.1 rfl (fun b_23 q_23 hb_23 => ?_)
  refine s_callS_v (av := fun ad => [.ref a3, .ref b_23]) C dPl_findCheapest_26 mfRM_copyRow msRM_copyRow ln_Pl_46 hVw1 fr_NN (cRM_copyRow hVw1.1 h3 p3 hb_23 ⟨by decide, rfl, rfl, fun _ _ => trivial, by decide⟩) rfl rfl (Nat.le_of_ble_eq_true rfl) ⟨Nat.le_of_ble_eq_true rfl, Nat.le_of_ble_eq_true rfl⟩ ⟨rfl, rfl⟩ ⟨Nat.zero_le _, Nat.zero_le _⟩ (fun Iw2 Jw2 hVw2 hFw2 p_26 => ?_)
  refine g_aload_n C dPl_findCheapest_29 rfl ?_
  refine g_iconst (v := Int32.ofInt (0)) C dPl_findCheapest_30 (by decide) ?_
  refine gt_puti C dPl_findCheapest_31 fl_Pl_50 h0 hVw2 rfl (Or.inl (ofI (by decide))) rfl (Or.inr ⟨rfl, (Or.inl (ofI (by decide)))⟩) (fun Iw3 eIw3 hVw3 => ?_)
  refine g_aload_n C dPl_findCheapest_34 rfl ?_
  refine g_aload_n C dPl_findCheapest_35 rfl ?_
  refine g_iconst (v := Int32.ofInt (0)) C dPl_findCheapest_36 (by decide) ?_
  refine g_iload C dPl_findCheapest_37 rfl ?_
  refine s_callS_v (av := fun ad => [.ref a0, .ref a1, .int (Int32.ofInt (0)), .int x4]) C dPl_findCheapest_39 mfPl_search msPl_search ln_Pl_54 hVw3 fr_NN (cPl_search 6 hVw3.1 h0 h1 (by have hk2 : Int32.toInt (Int32.ofInt (0)) = 0 := ofI (by decide); omega)) rfl rfl (Nat.le_of_ble_eq_true rfl) ⟨Nat.le_of_ble_eq_true rfl, Nat.le_of_ble_eq_true rfl⟩ ⟨rfl, rfl⟩ ⟨Nat.zero_le _, Nat.zero_le _⟩ (fun Iw4 Jw4 hVw4 hFw4 p_39 => ?_)
  refine g_aload_n C dPl_findCheapest_42 rfl ?_
  refine g_geti C dPl_findCheapest_43 fl_Pl_50 h0 ?_
  refine gt_if_ne 51 C dPl_findCheapest_46 (by decide) rfl (fun c_46 => ?_) (fun c_46 => ?_)
  · skip
    refine g_aload_n C dPl_findCheapest_51 rfl ?_
    refine gt_getr C dPl_findCheapest_52 fl_Pl_24 h0 hVw4.1.1 rfl (fun b_52 q_52 hb_52 => ?_)
    refine g_aload_n C dPl_findCheapest_55 rfl ?_
    refine gt_getr C dPl_findCheapest_56 fl_Pl_27 h0 hVw4.1.1 rfl (fun b_56 q_56 hb_56 => ?_)
    refine s_callS_v (av := fun ad => [.ref b_52, .ref b_56]) C dPl_findCheapest_59 mfRM_copyRow msRM_copyRow ln_Pl_46 hVw4 fr_NN (cRM_copyRow hVw4.1 hb_52 ⟨by decide, rfl, rfl, fun _ _ => trivial, by decide⟩ hb_56 ⟨by decide, rfl, rfl, fun _ _ => trivial, by decide⟩) rfl rfl (Nat.le_of_ble_eq_true rfl) ⟨Nat.le_of_ble_eq_true rfl, Nat.le_of_ble_eq_true rfl⟩ ⟨rfl, rfl⟩ ⟨Nat.zero_le _, Nat.zero_le _⟩ (fun Iw5 Jw5 hVw5 hFw5 p_59 => ?_)
    refine g_aload_n C dPl_findCheapest_62 rfl ?_
    refine g_iload C dPl_findCheapest_63 rfl ?_
    refine gt_puti C dPl_findCheapest_65 fl_Pl_38 h0 hVw5 rfl trivial rfl (Or.inl rfl) (fun Iw6 eIw6 hVw6 => ?_)
    refine g_aload_n C dPl_findCheapest_68 rfl ?_
    refine g_geti C dPl_findCheapest_69 fl_Pl_58 h0 ?_
    refine g_aload_n C dPl_findCheapest_72 rfl ?_
    refine g_geti C dPl_findCheapest_73 fl_Pl_61 h2 ?_
    first | refine n_isub C dPl_findCheapest_76 rfl rfl (by omega) (fun z_76 e_76 => ?_) | refine a_isub C dPl_findCheapest_76 (fun z_76 => ?_)
    exact s_iret C E dPl_findCheapest_77 ⟨Nat.zero_le _, Nat.zero_le _⟩ hVw6 trivial
  · skip
    refine g_iconst (v := Int32.ofInt (-1)) C dPl_findCheapest_49 (by decide) ?_
    exact s_iret C E dPl_findCheapest_50 ⟨Nat.zero_le _, Nat.zero_le _⟩ hVw4 trivial
set_option maxHeartbeats 4000000 in
set_option maxRecDepth 100000 in
theorem cPl_leastRate {P : List Nat} {K : Nat → Nat} {I0 : Nat → Nat → Int32} {O : Nat → Nat → Option Nat} {J0 : Nat → Nat → Int64} (hV : IV P K I0 O) {a0 : Nat} (h0 : a0 ∈ P ∧ K a0 = 4) {a1 : Nat} (h1 : a1 ∈ P ∧ K a1 = 3) : Con yPl_leastRate bPl_leastRate 3 (some .int) ({ frames := 4, cells := 0, slots := 0, locals := 87 } : Room) P K I0 O J0 [.ref a0, .ref a1] (SPo frN 1 (tt) P K I0 O J0) := by
  refine Con.ofG mfPl_leastRate (Nat.le_of_ble_eq_true rfl) ?_
  intro X C E
  have hV0 : SV frN P K O I0 J0 I0 J0 := SV.rf hV
  refine g_iconst (v := Int32.ofInt (0)) C dPl_leastRate_0 (by decide) ?_
  refine g_istore_n (i := 2) C dPl_leastRate_1 rfl (by decide) ?_
  have lp_2 : ∀ (nn_2 : Nat) (x2_2 : Int32) (Iw1 : Nat → Nat → Int32) (Jw1 : Nat → Nat → Int64), Int.toNat (4 - x2_2.toInt) = nn_2 → (0 ≤ Int32.toInt x2_2 ∧ Int32.toInt x2_2 ≤ 4) → SV frN P K O I0 J0 Iw1 Jw1 → GG X 3 P K Iw1 O Jw1 0 0 2 [(0, .ref a0), (1, .ref a1), (2, .int x2_2)] [] := by
    intro nn_2
    induction nn_2 using Nat.strongRecOn with
    | ind nn_2 ih_2 =>
    intro x2_2 Iw1 Jw1 hn_2 iv0_2 hVw1
    have rg2_2 := rg x2_2
    refine g_iload_n C dPl_leastRate_2 rfl ?_
    refine g_iconst (v := Int32.ofInt (3)) C dPl_leastRate_3 (by decide) ?_
    refine gt_icmp_gt 56 C dPl_leastRate_4 (by decide) rfl (ofI (by decide)) (fun c_4 => ?_) (fun c_4 => ?_)
    · skip
      refine g_iconst (v := Int32.ofInt (0)) C dPl_leastRate_56 (by decide) ?_
      exact s_iret C E dPl_leastRate_57 ⟨Nat.zero_le _, Nat.zero_le _⟩ hVw1 trivial
    · skip
      refine g_aload_n C dPl_leastRate_7 rfl ?_
      refine gt_getr C dPl_leastRate_8 fl_Pl_17 h0 hVw1.1.1 rfl (fun b_8 q_8 hb_8 => ?_)
      refine g_iconst (v := Int32.ofInt (0)) C dPl_leastRate_11 (by decide) ?_
      refine g_iload_n C dPl_leastRate_12 rfl ?_
      refine gt_iastc (c := 0) C dPl_leastRate_13 hb_8 (by decide) rfl (ofI (by decide)) (n := 3) rfl (by decide) (by decide) hVw1 rfl trivial (fun Iw2 eIw2 hVw2 => ?_)
      refine g_aload_n C dPl_leastRate_14 rfl ?_
      refine gt_getr C dPl_leastRate_15 fl_Pl_31 h0 hVw2.1.1 rfl (fun b_15 q_15 hb_15 => ?_)
      refine g_aload_n C dPl_leastRate_18 rfl ?_
      refine gt_getr C dPl_leastRate_19 fl_Pl_35 h0 hVw2.1.1 rfl (fun b_19 q_19 hb_19 => ?_)
      refine s_callV_v (av := fun ad => [.ref b_19]) C dPl_leastRate_22 mfDr_copyFrom mvDr_copyFrom ln_Pl_42 hb_15 (by decide) rfl hVw2 fr_NN (cDr_copyFrom hVw2.1 hb_15 hb_19) rfl rfl (Nat.le_of_ble_eq_true rfl) ⟨Nat.le_of_ble_eq_true rfl, Nat.le_of_ble_eq_true rfl⟩ ⟨rfl, rfl⟩ ⟨Nat.zero_le _, Nat.zero_le _⟩ (fun Iw3 Jw3 hVw3 hFw3 p_22 => ?_)
      refine g_aload_n C dPl_leastRate_25 rfl ?_
      refine gt_getS C dPl_leastRate_26 fl_Pl_31 h0 q_15 ?_
      refine g_aload_n C dPl_leastRate_29 rfl ?_
      refine g_aload_n C dPl_leastRate_30 rfl ?_
      refine gt_getS C dPl_leastRate_31 fl_Pl_17 h0 q_8 ?_
      refine g_iconst (v := Int32.ofInt (0)) C dPl_leastRate_34 (by decide) ?_
      refine s_callV_v (av := fun ad => [.ref a1, .ref b_8, .int (Int32.ofInt (0))]) C dPl_leastRate_35 mfDr_runHour mvDr_runHour ln_Pl_68 hb_15 (by decide) rfl hVw3 fr_NN (cDr_runHour hVw3.1 hb_15 h1 hb_8 ⟨by decide, rfl, rfl, fun _ _ => trivial, by decide⟩ (by have hk3 : Int32.toInt (Int32.ofInt (0)) = 0 := ofI (by decide); omega)) rfl rfl (Nat.le_of_ble_eq_true rfl) ⟨Nat.le_of_ble_eq_true rfl, Nat.le_of_ble_eq_true rfl⟩ ⟨rfl, rfl⟩ ⟨Nat.zero_le _, Nat.zero_le _⟩ (fun Iw4 Jw4 hVw4 hFw4 p_35 => ?_)
      refine g_aload_n C dPl_leastRate_38 rfl ?_
      refine gt_getS C dPl_leastRate_39 fl_Pl_31 h0 q_15 ?_
      refine s_callV_zp (av := fun ad => []) C dPl_leastRate_42 mfDr_wentWell mvDr_wentWell ln_Pl_72 hb_15 (by decide) rfl (cDr_wentWell hVw4.1 hb_15) rfl rfl (Nat.le_of_ble_eq_true rfl) ⟨Nat.le_of_ble_eq_true rfl, Nat.le_of_ble_eq_true rfl⟩ ⟨rfl, rfl⟩ ⟨Nat.zero_le _, Nat.zero_le _⟩ (fun z_42 b_42 p_42 => ?_)
      have rz_42 := rg z_42
      have u_42 := b_42
      unfold B01 at u_42
      refine gt_if_eq 50 C dPl_leastRate_45 (by decide) rfl (fun c_45 => ?_) (fun c_45 => ?_)
      · skip
        first | refine n_iinc C dPl_leastRate_50 rfl rfl (by decide) (by decide) (by omega) (fun z_50 e_50 => ?_) | refine a_iinc C dPl_leastRate_50 rfl (by decide) (fun z_50 => ?_)
        refine g_goto 2 C dPl_leastRate_53 (by decide) ?_
        exact g_sub (ih_2 _ (by omega) z_50 Iw4 Jw4 rfl (by omega) hVw4) ⟨rfl, rfl, rfl, trivial⟩
      · skip
        refine g_iload_n C dPl_leastRate_48 rfl ?_
        exact s_iret C E dPl_leastRate_49 ⟨Nat.zero_le _, Nat.zero_le _⟩ hVw4 trivial
  exact g_sub (lp_2 _ (Int32.ofInt (0)) I0 J0 rfl (by have hci : Int32.toInt (Int32.ofInt (0)) = 0 := ofI (by decide); omega) hV0) ⟨rfl, rfl, rfl, trivial⟩
set_option maxHeartbeats 4000000 in
set_option maxRecDepth 100000 in
theorem cPl_keepRule {P : List Nat} {K : Nat → Nat} {I0 : Nat → Nat → Int32} {O : Nat → Nat → Option Nat} {J0 : Nat → Nat → Int64} (hV : IV P K I0 O) {a0 : Nat} (h0 : a0 ∈ P ∧ K a0 = 4) {a1 : Nat} (h1 : a1 ∈ P ∧ K a1 = 3) {a2 : Nat} (h2 : a2 ∈ P ∧ K a2 = 0) {a3 κ3 : Nat} (h3 : a3 ∈ P ∧ K a3 = κ3) (p3 : PL frN κ3) {x4 : Int32} : Con yPl_keepRule bPl_keepRule 6 none ({ frames := 5, cells := 0, slots := 0, locals := 109 } : Room) P K I0 O J0 [.ref a0, .ref a1, .ref a2, .ref a3, .int x4] (SPo frN 0 (tt) P K I0 O J0) := by
  refine Con.ofG mfPl_keepRule (Nat.le_of_ble_eq_true rfl) ?_
  intro X C E
  have r4 := rg x4
  have pb3 := p3.2.2.2.2
  have hV0 : SV frN P K O I0 J0 I0 J0 := SV.rf hV
  refine g_aload_n C dPl_keepRule_0 rfl ?_
  refine gt_getr C dPl_keepRule_1 fl_Pl_35 h0 hV0.1.1 rfl (fun b_1 q_1 hb_1 => ?_)
  refine g_aload_n C dPl_keepRule_4 rfl ?_
  refine s_callV_v (av := fun ad => [.ref a2]) C dPl_keepRule_5 mfDr_copyFrom mvDr_copyFrom ln_Pl_42 hb_1 (by decide) rfl hV0 fr_NN (cDr_copyFrom hV0.1 hb_1 h2) rfl rfl (Nat.le_of_ble_eq_true rfl) ⟨Nat.le_of_ble_eq_true rfl, Nat.le_of_ble_eq_true rfl⟩ ⟨rfl, rfl⟩ ⟨Nat.zero_le _, Nat.zero_le _⟩ (fun Iw1 Jw1 hVw1 hFw1 p_5 => ?_)
  refine g_aload_n C dPl_keepRule_8 rfl ?_
  refine g_aload_n C dPl_keepRule_9 rfl ?_
  refine gt_getr C dPl_keepRule_10 fl_Pl_17 h0 hVw1.1.1 rfl (fun b_10 q_10 hb_10 => ?_)
  refine s_callS_v (av := fun ad => [.ref a3, .ref b_10]) C dPl_keepRule_13 mfRM_copyRow msRM_copyRow ln_Pl_46 hVw1 fr_NN (cRM_copyRow hVw1.1 h3 p3 hb_10 ⟨by decide, rfl, rfl, fun _ _ => trivial, by decide⟩) rfl rfl (Nat.le_of_ble_eq_true rfl) ⟨Nat.le_of_ble_eq_true rfl, Nat.le_of_ble_eq_true rfl⟩ ⟨rfl, rfl⟩ ⟨Nat.zero_le _, Nat.zero_le _⟩ (fun Iw2 Jw2 hVw2 hFw2 p_13 => ?_)
  refine g_iconst (v := Int32.ofInt (0)) C dPl_keepRule_16 (by decide) ?_
  refine g_istore C dPl_keepRule_17 (by decide) ?_
  have lp_19 : ∀ (nn_19 : Nat) (x5_19 : Int32) (Iw3 : Nat → Nat → Int32) (Jw3 : Nat → Nat → Int64), Int.toNat (5 - x5_19.toInt) = nn_19 → (0 ≤ Int32.toInt x5_19 ∧ Int32.toInt x5_19 ≤ 5) → SV frN P K O I0 J0 Iw3 Jw3 → GG X 6 P K Iw3 O Jw3 0 0 19 [(0, .ref a0), (1, .ref a1), (2, .ref a2), (3, .ref a3), (4, .int x4), (5, .int x5_19)] [] := by
    intro nn_19
    induction nn_19 using Nat.strongRecOn with
    | ind nn_19 ih_19 =>
    intro x5_19 Iw3 Jw3 hn_19 iv0_19 hVw3
    have rg5_19 := rg x5_19
    refine g_iload C dPl_keepRule_19 rfl ?_
    refine g_iload C dPl_keepRule_21 rfl ?_
    refine gt_icmp_ge 62 C dPl_keepRule_23 (by decide) rfl rfl (fun c_23 => ?_) (fun c_23 => ?_)
    · skip
      exact s_vret C E dPl_keepRule_62 ⟨Nat.zero_le _, Nat.zero_le _⟩ hVw3 trivial
    · skip
      refine g_iload C dPl_keepRule_26 rfl ?_
      refine g_iconst (v := Int32.ofInt (5)) C dPl_keepRule_28 (by decide) ?_
      refine gt_icmp_ge 62 C dPl_keepRule_29 (by decide) rfl (ofI (by decide)) (fun c_29 => ?_) (fun c_29 => ?_)
      · skip
        exact s_vret C E dPl_keepRule_62 ⟨Nat.zero_le _, Nat.zero_le _⟩ hVw3 trivial
      · skip
        refine g_aload_n C dPl_keepRule_32 rfl ?_
        refine gt_getS C dPl_keepRule_33 fl_Pl_17 h0 q_10 ?_
        refine g_iconst (v := Int32.ofInt (0)) C dPl_keepRule_36 (by decide) ?_
        refine g_aload_n C dPl_keepRule_37 rfl ?_
        refine g_aload_n C dPl_keepRule_38 rfl ?_
        refine s_callV_i (av := fun ad => [.ref a1]) C dPl_keepRule_39 mfPl_leastRate mvPl_leastRate ln_Pl_76 h0 (by decide) rfl hVw3 fr_NN (cPl_leastRate hVw3.1 h0 h1) rfl rfl (Nat.le_of_ble_eq_true rfl) ⟨Nat.le_of_ble_eq_true rfl, Nat.le_of_ble_eq_true rfl⟩ ⟨rfl, rfl⟩ ⟨Nat.zero_le _, Nat.zero_le _⟩ (fun Iw4 Jw4 hVw4 hFw4 z_39 p_39 => ?_)
        have rz_39 := rg z_39
        refine gt_iastc (c := 0) C dPl_keepRule_42 hb_10 (by decide) rfl (ofI (by decide)) (n := 3) rfl (by decide) (by decide) hVw4 rfl trivial (fun Iw5 eIw5 hVw5 => ?_)
        refine g_aload_n C dPl_keepRule_43 rfl ?_
        refine gt_getS C dPl_keepRule_44 fl_Pl_35 h0 q_1 ?_
        refine g_aload_n C dPl_keepRule_47 rfl ?_
        refine g_aload_n C dPl_keepRule_48 rfl ?_
        refine gt_getS C dPl_keepRule_49 fl_Pl_17 h0 q_10 ?_
        refine g_iconst (v := Int32.ofInt (0)) C dPl_keepRule_52 (by decide) ?_
        refine s_callV_v (av := fun ad => [.ref a1, .ref b_10, .int (Int32.ofInt (0))]) C dPl_keepRule_53 mfDr_runHour mvDr_runHour ln_Pl_68 hb_1 (by decide) rfl hVw5 fr_NN (cDr_runHour hVw5.1 hb_1 h1 hb_10 ⟨by decide, rfl, rfl, fun _ _ => trivial, by decide⟩ (by have hk3 : Int32.toInt (Int32.ofInt (0)) = 0 := ofI (by decide); omega)) rfl rfl (Nat.le_of_ble_eq_true rfl) ⟨Nat.le_of_ble_eq_true rfl, Nat.le_of_ble_eq_true rfl⟩ ⟨rfl, rfl⟩ ⟨Nat.zero_le _, Nat.zero_le _⟩ (fun Iw6 Jw6 hVw6 hFw6 p_53 => ?_)
        first | refine n_iinc C dPl_keepRule_56 rfl rfl (by decide) (by decide) (by omega) (fun z_56 e_56 => ?_) | refine a_iinc C dPl_keepRule_56 rfl (by decide) (fun z_56 => ?_)
        refine g_goto 19 C dPl_keepRule_59 (by decide) ?_
        exact g_sub (ih_19 _ (by omega) z_56 Iw6 Jw6 rfl (by omega) hVw6) ⟨rfl, rfl, rfl, rfl, rfl, rfl, trivial⟩
  exact g_sub (lp_19 _ (Int32.ofInt (0)) Iw2 Jw2 rfl (by have hci : Int32.toInt (Int32.ofInt (0)) = 0 := ofI (by decide); omega) hVw2) ⟨rfl, rfl, rfl, rfl, rfl, rfl, trivial⟩
