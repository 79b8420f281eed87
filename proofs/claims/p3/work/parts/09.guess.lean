set_option maxHeartbeats 4000000 in
set_option maxRecDepth 100000 in
theorem cGu_makeStale {P : List Nat} {K : Nat → Nat} {I0 : Nat → Nat → Int32} {O : Nat → Nat → Option Nat} {J0 : Nat → Nat → Int64} (hV : IV P K I0 O) {a0 : Nat} (h0 : a0 ∈ P ∧ K a0 = 1) : Con yGu_makeStale bGu_makeStale 2 none ({ frames := 0, cells := 0, slots := 0, locals := 0 } : Room) P K I0 O J0 [.ref a0] (SPo frN 0 (tt) P K I0 O J0) := by
  refine Con.ofG mfGu_makeStale (Nat.le_of_ble_eq_true rfl) ?_
  intro X C E
  have hV0 : SV frN P K O I0 J0 I0 J0 := SV.rf hV
  refine g_iconst (v := Int32.ofInt (0)) C dGu_makeStale_0 (by decide) ?_
  refine g_istore_n (i := 1) C dGu_makeStale_1 rfl (by decide) ?_
  have lp_2 : ∀ (nn_2 : Nat) (x1_2 : Int32) (Iw1 : Nat → Nat → Int32) (Jw1 : Nat → Nat → Int64), Int.toNat (100 - x1_2.toInt) = nn_2 → (0 ≤ Int32.toInt x1_2 ∧ Int32.toInt x1_2 ≤ 100) → SV frN P K O I0 J0 Iw1 Jw1 → GG X 2 P K Iw1 O Jw1 0 0 2 [(0, .ref a0), (1, .int x1_2)] [] := by
    intro nn_2
    induction nn_2 using Nat.strongRecOn with
    | ind nn_2 ih_2 =>
    intro x1_2 Iw1 Jw1 hn_2 iv0_2 hVw1
    have rg1_2 := rg x1_2
    refine g_iload_n C dGu_makeStale_2 rfl ?_
    refine g_bipush (v := Int32.ofInt (100)) C dGu_makeStale_3 (by decide) ?_
    refine gt_icmp_ge 21 C dGu_makeStale_5 (by decide) rfl (ofI (by decide)) (fun c_5 => ?_) (fun c_5 => ?_)
    · skip
      exact s_vret C E dGu_makeStale_21 ⟨Nat.zero_le _, Nat.zero_le _⟩ hVw1 trivial
    · skip
      refine g_aload_n C dGu_makeStale_8 rfl ?_
      refine gt_getr C dGu_makeStale_9 fl_Gu_15 h0 hVw1.1.1 rfl (fun b_9 q_9 hb_9 => ?_)
      refine g_iload_n C dGu_makeStale_12 rfl ?_
      refine g_iconst (v := Int32.ofInt (0)) C dGu_makeStale_13 (by decide) ?_
      refine gt_zast C dGu_makeStale_14 hb_9 (by decide) rfl rfl (n := 100) rfl (by omega) hVw1 rfl trivial (fun Iw2 eIw2 hVw2 => ?_)
      first | refine n_iinc C dGu_makeStale_15 rfl rfl (by decide) (by decide) (by omega) (fun z_15 e_15 => ?_) | refine a_iinc C dGu_makeStale_15 rfl (by decide) (fun z_15 => ?_)
      refine g_goto 2 C dGu_makeStale_18 (by decide) ?_
      exact g_sub (ih_2 _ (by omega) z_15 Iw2 Jw1 rfl (by omega) hVw2) ⟨rfl, rfl, trivial⟩
  exact g_sub (lp_2 _ (Int32.ofInt (0)) I0 J0 rfl (by have hci : Int32.toInt (Int32.ofInt (0)) = 0 := ofI (by decide); omega) hV0) ⟨rfl, rfl, trivial⟩
set_option maxHeartbeats 4000000 in
set_option maxRecDepth 100000 in
theorem cGu_tellOne {P : List Nat} {K : Nat → Nat} {I0 : Nat → Nat → Int32} {O : Nat → Nat → Option Nat} {J0 : Nat → Nat → Int64} (hV : IV P K I0 O) {a0 : Nat} (h0 : a0 ∈ P ∧ K a0 = 1) {a1 : Nat} (h1 : a1 ∈ P ∧ K a1 = 3) {a2 κ2 : Nat} (h2 : a2 ∈ P ∧ K a2 = κ2) (p2 : PL frN κ2) {x3 : Int32} : Con yGu_tellOne bGu_tellOne 7 none ({ frames := 4, cells := 0, slots := 0, locals := 87 } : Room) P K I0 O J0 [.ref a0, .ref a1, .ref a2, .int x3] (SPo frN 0 (tt) P K I0 O J0) := by
  refine Con.ofG mfGu_tellOne (Nat.le_of_ble_eq_true rfl) ?_
  intro X C E
  have r3 := rg x3
  have pb2 := p2.2.2.2.2
  have hV0 : SV frN P K O I0 J0 I0 J0 := SV.rf hV
  refine g_iload_n C dGu_tellOne_0 rfl ?_
  refine gt_if_lt 19 C dGu_tellOne_1 (by decide) rfl (fun c_1 => ?_) (fun c_1 => ?_)
  · skip
    exact s_vret C E dGu_tellOne_19 ⟨Nat.zero_le _, Nat.zero_le _⟩ hV0 trivial
  · skip
    refine g_iload_n C dGu_tellOne_4 rfl ?_
    refine g_bipush (v := Int32.ofInt (100)) C dGu_tellOne_5 (by decide) ?_
    refine gt_icmp_ge 19 C dGu_tellOne_7 (by decide) rfl (ofI (by decide)) (fun c_7 => ?_) (fun c_7 => ?_)
    · skip
      exact s_vret C E dGu_tellOne_19 ⟨Nat.zero_le _, Nat.zero_le _⟩ hV0 trivial
    · skip
      refine g_aload_n C dGu_tellOne_10 rfl ?_
      refine gt_getr C dGu_tellOne_11 fl_Gu_15 h0 hV0.1.1 rfl (fun b_11 q_11 hb_11 => ?_)
      refine g_iload_n C dGu_tellOne_14 rfl ?_
      refine gt_zald C dGu_tellOne_15 hb_11 (by decide) rfl rfl (n := 100) rfl (by omega) ?_
      refine gt_if_eq 20 C dGu_tellOne_16 (by decide) rfl (fun c_16 => ?_) (fun c_16 => ?_)
      · skip
        refine g_aload_n C dGu_tellOne_20 rfl ?_
        refine gt_getr C dGu_tellOne_21 fl_Gu_22 h0 hV0.1.1 rfl (fun b_21 q_21 hb_21 => ?_)
        refine g_aload_n C dGu_tellOne_24 rfl ?_
        refine g_iload_n C dGu_tellOne_25 rfl ?_
        refine s_callV_v (av := fun ad => [.ref a1, .int x3]) C dGu_tellOne_26 mfDr_beginStart mvDr_beginStart ln_Gu_30 hb_21 (by decide) rfl hV0 fr_NN (cDr_beginStart hV0.1 hb_21 h1) rfl rfl (Nat.le_of_ble_eq_true rfl) ⟨Nat.le_of_ble_eq_true rfl, Nat.le_of_ble_eq_true rfl⟩ ⟨rfl, rfl⟩ ⟨Nat.zero_le _, Nat.zero_le _⟩ (fun Iw1 Jw1 hVw1 hFw1 p_26 => ?_)
        refine g_iconst (v := Int32.ofInt (0)) C dGu_tellOne_29 (by decide) ?_
        refine g_istore C dGu_tellOne_30 (by decide) ?_
        have lp_32 : ∀ (nn_32 : Nat) (x4_32 : Int32) (Iw2 : Nat → Nat → Int32) (Jw2 : Nat → Nat → Int64), Int.toNat (12 - x4_32.toInt) = nn_32 → (0 ≤ Int32.toInt x4_32 ∧ Int32.toInt x4_32 ≤ 12) → SV frN P K O I0 J0 Iw2 Jw2 → GG X 7 P K Iw2 O Jw2 0 0 32 [(0, .ref a0), (1, .ref a1), (2, .ref a2), (3, .int x3), (4, .int x4_32)] [] := by
          intro nn_32
          induction nn_32 using Nat.strongRecOn with
          | ind nn_32 ih_32 =>
          intro x4_32 Iw2 Jw2 hn_32 iv0_32 hVw2
          have rg4_32 := rg x4_32
          refine g_iload C dGu_tellOne_32 rfl ?_
          refine g_bipush (v := Int32.ofInt (12)) C dGu_tellOne_34 (by decide) ?_
          refine gt_icmp_ge 140 C dGu_tellOne_36 (by decide) rfl (ofI (by decide)) (fun c_36 => ?_) (fun c_36 => ?_)
          · skip
            refine g_aload_n C dGu_tellOne_140 rfl ?_
            refine gt_getS C dGu_tellOne_141 fl_Gu_15 h0 q_11 ?_
            refine g_iload_n C dGu_tellOne_144 rfl ?_
            refine g_iconst (v := Int32.ofInt (1)) C dGu_tellOne_145 (by decide) ?_
            refine gt_zast C dGu_tellOne_146 hb_11 (by decide) rfl rfl (n := 100) rfl (by omega) hVw2 rfl trivial (fun Iw3 eIw3 hVw3 => ?_)
            exact s_vret C E dGu_tellOne_147 ⟨Nat.zero_le _, Nat.zero_le _⟩ hVw3 trivial
          · skip
            refine g_aload_n C dGu_tellOne_39 rfl ?_
            refine gt_getS C dGu_tellOne_40 fl_Gu_22 h0 q_21 ?_
            refine g_aload_n C dGu_tellOne_43 rfl ?_
            refine g_aload_n C dGu_tellOne_44 rfl ?_
            refine g_iload C dGu_tellOne_45 rfl ?_
            refine g_iconst (v := Int32.ofInt (3)) C dGu_tellOne_47 (by decide) ?_
            first | refine n_imul C dGu_tellOne_48 rfl (ofI (by decide)) (by omega) (fun z_48 e_48 => ?_) | refine a_imul C dGu_tellOne_48 (fun z_48 => ?_)
            refine s_callV_v (av := fun ad => [.ref a1, .ref a2, .int z_48]) C dGu_tellOne_49 mfDr_runHour mvDr_runHour ln_Gu_34 hb_21 (by decide) rfl hVw2 fr_NN (cDr_runHour hVw2.1 hb_21 h1 h2 p2 (by omega)) rfl rfl (Nat.le_of_ble_eq_true rfl) ⟨Nat.le_of_ble_eq_true rfl, Nat.le_of_ble_eq_true rfl⟩ ⟨rfl, rfl⟩ ⟨Nat.zero_le _, Nat.zero_le _⟩ (fun Iw4 Jw4 hVw4 hFw4 p_49 => ?_)
            refine g_iload_n C dGu_tellOne_52 rfl ?_
            refine g_bipush (v := Int32.ofInt (12)) C dGu_tellOne_53 (by decide) ?_
            first | refine n_imul C dGu_tellOne_55 rfl (ofI (by decide)) (by omega) (fun z_55 e_55 => ?_) | refine a_imul C dGu_tellOne_55 (fun z_55 => ?_)
            refine g_iload C dGu_tellOne_56 rfl ?_
            first | refine n_iadd C dGu_tellOne_58 rfl rfl (by omega) (fun z_58 e_58 => ?_) | refine a_iadd C dGu_tellOne_58 (fun z_58 => ?_)
            refine g_bipush (v := Int32.ofInt (7)) C dGu_tellOne_59 (by decide) ?_
            first | refine n_imul C dGu_tellOne_61 rfl (ofI (by decide)) (by omega) (fun z_61 e_61 => ?_) | refine a_imul C dGu_tellOne_61 (fun z_61 => ?_)
            refine g_istore C dGu_tellOne_62 (by decide) ?_
            refine g_aload_n C dGu_tellOne_64 rfl ?_
            refine gt_getr C dGu_tellOne_65 fl_Gu_11 h0 hVw4.1.1 rfl (fun b_65 q_65 hb_65 => ?_)
            refine g_iload C dGu_tellOne_68 rfl ?_
            refine g_aload_n C dGu_tellOne_70 rfl ?_
            refine gt_getS C dGu_tellOne_71 fl_Gu_22 h0 q_21 ?_
            refine g_geti C dGu_tellOne_74 fl_Gu_37 hb_21 ?_
            refine gt_iast C dGu_tellOne_77 hb_65 (by decide) rfl rfl (n := 8400) rfl (by omega) hVw4 rfl trivial (fun Iw5 eIw5 hVw5 => ?_)
            refine g_aload_n C dGu_tellOne_78 rfl ?_
            refine gt_getS C dGu_tellOne_79 fl_Gu_11 h0 q_65 ?_
            refine g_iload C dGu_tellOne_82 rfl ?_
            refine g_iconst (v := Int32.ofInt (1)) C dGu_tellOne_84 (by decide) ?_
            first | refine n_iadd C dGu_tellOne_85 rfl (ofI (by decide)) (by omega) (fun z_85 e_85 => ?_) | refine a_iadd C dGu_tellOne_85 (fun z_85 => ?_)
            refine g_aload_n C dGu_tellOne_86 rfl ?_
            refine gt_getS C dGu_tellOne_87 fl_Gu_22 h0 q_21 ?_
            refine g_geti C dGu_tellOne_90 fl_Gu_41 hb_21 ?_
            refine gt_iast C dGu_tellOne_93 hb_65 (by decide) rfl rfl (n := 8400) rfl (by omega) hVw5 rfl trivial (fun Iw6 eIw6 hVw6 => ?_)
            refine g_iconst (v := Int32.ofInt (0)) C dGu_tellOne_94 (by decide) ?_
            refine g_istore C dGu_tellOne_95 (by decide) ?_
            have lp_97 : ∀ (nn_97 : Nat) (x6_97 : Int32) (Iw7 : Nat → Nat → Int32) (Jw7 : Nat → Nat → Int64), Int.toNat (5 - x6_97.toInt) = nn_97 → (0 ≤ Int32.toInt x6_97 ∧ Int32.toInt x6_97 ≤ 5) → SV frN P K O I0 J0 Iw7 Jw7 → GG X 7 P K Iw7 O Jw7 0 0 97 [(0, .ref a0), (1, .ref a1), (2, .ref a2), (3, .int x3), (4, .int x4_32), (5, .int z_61), (6, .int x6_97)] [] := by
              intro nn_97
              induction nn_97 using Nat.strongRecOn with
              | ind nn_97 ih_97 =>
              intro x6_97 Iw7 Jw7 hn_97 iv0_97 hVw7
              have rg6_97 := rg x6_97
              refine g_iload C dGu_tellOne_97 rfl ?_
              refine g_iconst (v := Int32.ofInt (5)) C dGu_tellOne_99 (by decide) ?_
              refine gt_icmp_ge 134 C dGu_tellOne_100 (by decide) rfl (ofI (by decide)) (fun c_100 => ?_) (fun c_100 => ?_)
              · skip
                first | refine n_iinc C dGu_tellOne_134 rfl rfl (by decide) (by decide) (by omega) (fun z_134 e_134 => ?_) | refine a_iinc C dGu_tellOne_134 rfl (by decide) (fun z_134 => ?_)
                refine g_goto 32 C dGu_tellOne_137 (by decide) ?_
                exact g_sub (ih_32 _ (by omega) z_134 Iw7 Jw7 rfl (by omega) hVw7) ⟨rfl, rfl, rfl, rfl, rfl, trivial⟩
              · skip
                refine g_aload_n C dGu_tellOne_103 rfl ?_
                refine gt_getS C dGu_tellOne_104 fl_Gu_11 h0 q_65 ?_
                refine g_iload C dGu_tellOne_107 rfl ?_
                refine g_iconst (v := Int32.ofInt (2)) C dGu_tellOne_109 (by decide) ?_
                first | refine n_iadd C dGu_tellOne_110 rfl (ofI (by decide)) (by omega) (fun z_110 e_110 => ?_) | refine a_iadd C dGu_tellOne_110 (fun z_110 => ?_)
                refine g_iload C dGu_tellOne_111 rfl ?_
                first | refine n_iadd C dGu_tellOne_113 rfl rfl (by omega) (fun z_113 e_113 => ?_) | refine a_iadd C dGu_tellOne_113 (fun z_113 => ?_)
                refine g_aload_n C dGu_tellOne_114 rfl ?_
                refine gt_getS C dGu_tellOne_115 fl_Gu_22 h0 q_21 ?_
                refine gt_getr C dGu_tellOne_118 fl_Gu_44 hb_21 hVw7.1.1 rfl (fun b_118 q_118 hb_118 => ?_)
                refine gt_getr C dGu_tellOne_121 fl_Gu_48 hb_118 hVw7.1.1 rfl (fun b_121 q_121 hb_121 => ?_)
                refine g_iload C dGu_tellOne_124 rfl ?_
                refine gt_iald C dGu_tellOne_126 hb_121 (by decide) rfl rfl (n := 5) rfl (by omega) ?_
                refine gt_iast C dGu_tellOne_127 hb_65 (by decide) rfl rfl (n := 8400) rfl (by omega) hVw7 rfl trivial (fun Iw8 eIw8 hVw8 => ?_)
                first | refine n_iinc C dGu_tellOne_128 rfl rfl (by decide) (by decide) (by omega) (fun z_128 e_128 => ?_) | refine a_iinc C dGu_tellOne_128 rfl (by decide) (fun z_128 => ?_)
                refine g_goto 97 C dGu_tellOne_131 (by decide) ?_
                exact g_sub (ih_97 _ (by omega) z_128 Iw8 Jw7 rfl (by omega) hVw8) ⟨rfl, rfl, rfl, rfl, rfl, rfl, rfl, trivial⟩
            exact g_sub (lp_97 _ (Int32.ofInt (0)) Iw6 Jw4 rfl (by have hci : Int32.toInt (Int32.ofInt (0)) = 0 := ofI (by decide); omega) hVw6) ⟨rfl, rfl, rfl, rfl, rfl, rfl, rfl, trivial⟩
        exact g_sub (lp_32 _ (Int32.ofInt (0)) Iw1 Jw1 rfl (by have hci : Int32.toInt (Int32.ofInt (0)) = 0 := ofI (by decide); omega) hVw1) ⟨rfl, rfl, rfl, rfl, rfl, trivial⟩
      · skip
        exact s_vret C E dGu_tellOne_19 ⟨Nat.zero_le _, Nat.zero_le _⟩ hV0 trivial
set_option maxHeartbeats 4000000 in
set_option maxRecDepth 100000 in
theorem cGu_tellAll {P : List Nat} {K : Nat → Nat} {I0 : Nat → Nat → Int32} {O : Nat → Nat → Option Nat} {J0 : Nat → Nat → Int64} (hV : IV P K I0 O) {a0 : Nat} (h0 : a0 ∈ P ∧ K a0 = 1) {a1 : Nat} (h1 : a1 ∈ P ∧ K a1 = 3) {a2 κ2 : Nat} (h2 : a2 ∈ P ∧ K a2 = κ2) (p2 : PL frN κ2) : Con yGu_tellAll bGu_tellAll 4 none ({ frames := 5, cells := 0, slots := 0, locals := 113 } : Room) P K I0 O J0 [.ref a0, .ref a1, .ref a2] (SPo frN 0 (tt) P K I0 O J0) := by
  refine Con.ofG mfGu_tellAll (Nat.le_of_ble_eq_true rfl) ?_
  intro X C E
  have pb2 := p2.2.2.2.2
  have hV0 : SV frN P K O I0 J0 I0 J0 := SV.rf hV
  refine g_iconst (v := Int32.ofInt (0)) C dGu_tellAll_0 (by decide) ?_
  refine g_istore_n (i := 3) C dGu_tellAll_1 rfl (by decide) ?_
  have lp_2 : ∀ (nn_2 : Nat) (x3_2 : Int32) (Iw1 : Nat → Nat → Int32) (Jw1 : Nat → Nat → Int64), Int.toNat (100 - x3_2.toInt) = nn_2 → (0 ≤ Int32.toInt x3_2 ∧ Int32.toInt x3_2 ≤ 100) → SV frN P K O I0 J0 Iw1 Jw1 → GG X 4 P K Iw1 O Jw1 0 0 2 [(0, .ref a0), (1, .ref a1), (2, .ref a2), (3, .int x3_2)] [] := by
    intro nn_2
    induction nn_2 using Nat.strongRecOn with
    | ind nn_2 ih_2 =>
    intro x3_2 Iw1 Jw1 hn_2 iv0_2 hVw1
    have rg3_2 := rg x3_2
    refine g_iload_n C dGu_tellAll_2 rfl ?_
    refine g_bipush (v := Int32.ofInt (100)) C dGu_tellAll_3 (by decide) ?_
    refine gt_icmp_ge 21 C dGu_tellAll_5 (by decide) rfl (ofI (by decide)) (fun c_5 => ?_) (fun c_5 => ?_)
    · skip
      exact s_vret C E dGu_tellAll_21 ⟨Nat.zero_le _, Nat.zero_le _⟩ hVw1 trivial
    · skip
      refine g_aload_n C dGu_tellAll_8 rfl ?_
      refine g_aload_n C dGu_tellAll_9 rfl ?_
      refine g_aload_n C dGu_tellAll_10 rfl ?_
      refine g_iload_n C dGu_tellAll_11 rfl ?_
      refine s_callV_v (av := fun ad => [.ref a1, .ref a2, .int x3_2]) C dGu_tellAll_12 mfGu_tellOne mvGu_tellOne ln_Gu_26 h0 (by decide) rfl hVw1 fr_NN (cGu_tellOne hVw1.1 h0 h1 h2 p2) rfl rfl (Nat.le_of_ble_eq_true rfl) ⟨Nat.le_of_ble_eq_true rfl, Nat.le_of_ble_eq_true rfl⟩ ⟨rfl, rfl⟩ ⟨Nat.zero_le _, Nat.zero_le _⟩ (fun Iw2 Jw2 hVw2 hFw2 p_12 => ?_)
      first | refine n_iinc C dGu_tellAll_15 rfl rfl (by decide) (by decide) (by omega) (fun z_15 e_15 => ?_) | refine a_iinc C dGu_tellAll_15 rfl (by decide) (fun z_15 => ?_)
      refine g_goto 2 C dGu_tellAll_18 (by decide) ?_
      exact g_sub (ih_2 _ (by omega) z_15 Iw2 Jw2 rfl (by omega) hVw2) ⟨rfl, rfl, rfl, rfl, trivial⟩
  exact g_sub (lp_2 _ (Int32.ofInt (0)) I0 J0 rfl (by have hci : Int32.toInt (Int32.ofInt (0)) = 0 := ofI (by decide); omega) hV0) ⟨rfl, rfl, rfl, rfl, trivial⟩
set_option maxHeartbeats 4000000 in
set_option maxRecDepth 100000 in
theorem cGu_toldOf {P : List Nat} {K : Nat → Nat} {I0 : Nat → Nat → Int32} {O : Nat → Nat → Option Nat} {J0 : Nat → Nat → Int64} (hV : IV P K I0 O) {a0 : Nat} (h0 : a0 ∈ P ∧ K a0 = 1) {x1 : Int32} {x2 : Int32} {x3 : Int32} : Con yGu_toldOf bGu_toldOf 4 (some .int) ({ frames := 1, cells := 0, slots := 0, locals := 20 } : Room) P K I0 O J0 [.ref a0, .int x1, .int x2, .int x3] (SPo frP 1 (tt) P K I0 O J0) := by
  refine Con.ofG mfGu_toldOf (Nat.le_of_ble_eq_true rfl) ?_
  intro X C E
  have r1 := rg x1
  have r2 := rg x2
  have r3 := rg x3
  have hV0 : SV frP P K O I0 J0 I0 J0 := SV.rf hV
  refine g_iload_n C dGu_toldOf_0 rfl ?_
  refine gt_if_lt 27 C dGu_toldOf_1 (by decide) rfl (fun c_1 => ?_) (fun c_1 => ?_)
  · skip
    refine g_iconst (v := Int32.ofInt (0)) C dGu_toldOf_27 (by decide) ?_
    exact s_iret C E dGu_toldOf_28 ⟨Nat.zero_le _, Nat.zero_le _⟩ hV0 trivial
  · skip
    refine g_iload_n C dGu_toldOf_4 rfl ?_
    refine g_bipush (v := Int32.ofInt (100)) C dGu_toldOf_5 (by decide) ?_
    refine gt_icmp_ge 27 C dGu_toldOf_7 (by decide) rfl (ofI (by decide)) (fun c_7 => ?_) (fun c_7 => ?_)
    · skip
      refine g_iconst (v := Int32.ofInt (0)) C dGu_toldOf_27 (by decide) ?_
      exact s_iret C E dGu_toldOf_28 ⟨Nat.zero_le _, Nat.zero_le _⟩ hV0 trivial
    · skip
      refine g_iload_n C dGu_toldOf_10 rfl ?_
      refine s_callS_zp (av := fun ad => [.int x2]) C dGu_toldOf_11 mfRM_isHour msRM_isHour ln_Gu_53 (cRM_isHour hV0.1 ) rfl rfl (Nat.le_of_ble_eq_true rfl) ⟨Nat.le_of_ble_eq_true rfl, Nat.le_of_ble_eq_true rfl⟩ ⟨rfl, rfl⟩ ⟨Nat.zero_le _, Nat.zero_le _⟩ (fun z_11 b_11 p_11 => ?_)
      have rz_11 := rg z_11
      have u_11 := b_11
      unfold B01 at u_11
      try dsimp only at p_11
      refine gt_if_eq 27 C dGu_toldOf_14 (by decide) rfl (fun c_14 => ?_) (fun c_14 => ?_)
      · skip
        refine g_iconst (v := Int32.ofInt (0)) C dGu_toldOf_27 (by decide) ?_
        exact s_iret C E dGu_toldOf_28 ⟨Nat.zero_le _, Nat.zero_le _⟩ hV0 trivial
      · skip
        refine g_iload_n C dGu_toldOf_17 rfl ?_
        refine gt_if_lt 27 C dGu_toldOf_18 (by decide) rfl (fun c_18 => ?_) (fun c_18 => ?_)
        · skip
          refine g_iconst (v := Int32.ofInt (0)) C dGu_toldOf_27 (by decide) ?_
          exact s_iret C E dGu_toldOf_28 ⟨Nat.zero_le _, Nat.zero_le _⟩ hV0 trivial
        · skip
          refine g_iload_n C dGu_toldOf_21 rfl ?_
          refine g_bipush (v := Int32.ofInt (7)) C dGu_toldOf_22 (by decide) ?_
          refine gt_icmp_lt 29 C dGu_toldOf_24 (by decide) rfl (ofI (by decide)) (fun c_24 => ?_) (fun c_24 => ?_)
          · skip
            refine g_aload_n C dGu_toldOf_29 rfl ?_
            refine gt_getr C dGu_toldOf_30 fl_Gu_11 h0 hV0.1.1 rfl (fun b_30 q_30 hb_30 => ?_)
            refine g_iload_n C dGu_toldOf_33 rfl ?_
            refine g_bipush (v := Int32.ofInt (12)) C dGu_toldOf_34 (by decide) ?_
            first | refine n_imul C dGu_toldOf_36 rfl (ofI (by decide)) (by omega) (fun z_36 e_36 => ?_) | refine a_imul C dGu_toldOf_36 (fun z_36 => ?_)
            refine g_iload_n C dGu_toldOf_37 rfl ?_
            first | refine n_iadd C dGu_toldOf_38 rfl rfl (by omega) (fun z_38 e_38 => ?_) | refine a_iadd C dGu_toldOf_38 (fun z_38 => ?_)
            refine g_bipush (v := Int32.ofInt (7)) C dGu_toldOf_39 (by decide) ?_
            first | refine n_imul C dGu_toldOf_41 rfl (ofI (by decide)) (by omega) (fun z_41 e_41 => ?_) | refine a_imul C dGu_toldOf_41 (fun z_41 => ?_)
            refine g_iload_n C dGu_toldOf_42 rfl ?_
            first | refine n_iadd C dGu_toldOf_43 rfl rfl (by omega) (fun z_43 e_43 => ?_) | refine a_iadd C dGu_toldOf_43 (fun z_43 => ?_)
            refine gt_iald C dGu_toldOf_44 hb_30 (by decide) rfl rfl (n := 8400) rfl (by omega) ?_
            exact s_iret C E dGu_toldOf_45 ⟨Nat.zero_le _, Nat.zero_le _⟩ hV0 trivial
          · skip
            refine g_iconst (v := Int32.ofInt (0)) C dGu_toldOf_27 (by decide) ?_
            exact s_iret C E dGu_toldOf_28 ⟨Nat.zero_le _, Nat.zero_le _⟩ hV0 trivial
set_option maxHeartbeats 4000000 in
set_option maxRecDepth 100000 in
theorem cSi_isFilled {P : List Nat} {K : Nat → Nat} {I0 : Nat → Nat → Int32} {O : Nat → Nat → Option Nat} {J0 : Nat → Nat → Int64} (hV : IV P K I0 O) {a0 : Nat} (h0 : a0 ∈ P ∧ K a0 = 6) : Con ySi_isFilled bSi_isFilled 1 (some .boolean) ({ frames := 0, cells := 0, slots := 0, locals := 0 } : Room) P K I0 O J0 [.ref a0] (SPo frP 2 (tt) P K I0 O J0) := by
  refine Con.ofG mfSi_isFilled (Nat.le_of_ble_eq_true rfl) ?_
  intro X C E
  have hV0 : SV frP P K O I0 J0 I0 J0 := SV.rf hV
  refine g_aload_n C dSi_isFilled_0 rfl ?_
  refine g_geti C dSi_isFilled_1 fl_Si_27 h0 ?_
  refine g_bipush (v := Int32.ofInt (24)) C dSi_isFilled_4 (by decide) ?_
  refine gt_icmp_lt 13 C dSi_isFilled_6 (by decide) rfl (ofI (by decide)) (fun c_6 => ?_) (fun c_6 => ?_)
  · skip
    refine g_iconst (v := Int32.ofInt (0)) C dSi_isFilled_13 (by decide) ?_
    exact s_zret C E dSi_isFilled_14 ⟨Nat.zero_le _, Nat.zero_le _⟩ hV0 (Or.inl (ofI (by decide))) trivial
  · skip
    refine g_iconst (v := Int32.ofInt (1)) C dSi_isFilled_9 (by decide) ?_
    refine g_goto 14 C dSi_isFilled_10 (by decide) ?_
    exact s_zret C E dSi_isFilled_14 ⟨Nat.zero_le _, Nat.zero_le _⟩ hV0 (Or.inr (ofI (by decide))) trivial
set_option maxHeartbeats 4000000 in
set_option maxRecDepth 100000 in
theorem cSi_note {P : List Nat} {K : Nat → Nat} {I0 : Nat → Nat → Int32} {O : Nat → Nat → Option Nat} {J0 : Nat → Nat → Int64} (hV : IV P K I0 O) {a0 : Nat} (h0 : a0 ∈ P ∧ K a0 = 6) {x1 : Int32} {x2 : Int32} {x3 : Int32} {x4 : Int32} : Con ySi_note bSi_note 5 (some .int) ({ frames := 0, cells := 0, slots := 0, locals := 0 } : Room) P K I0 O J0 [.ref a0, .int x1, .int x2, .int x3, .int x4] (SPo frN 1 (tt) P K I0 O J0) := by
  refine Con.ofG mfSi_note (Nat.le_of_ble_eq_true rfl) ?_
  intro X C E
  have r1 := rg x1
  have r2 := rg x2
  have r3 := rg x3
  have r4 := rg x4
  have hV0 : SV frN P K O I0 J0 I0 J0 := SV.rf hV
  refine g_aload_n C dSi_note_0 rfl ?_
  refine g_geti C dSi_note_1 fl_Si_27 h0 ?_
  refine gt_if_lt 72 C dSi_note_4 (by decide) rfl (fun c_4 => ?_) (fun c_4 => ?_)
  · skip
    refine g_aload_n C dSi_note_72 rfl ?_
    refine g_geti C dSi_note_73 fl_Si_27 h0 ?_
    exact s_iret C E dSi_note_76 ⟨Nat.zero_le _, Nat.zero_le _⟩ hV0 trivial
  · skip
    refine g_aload_n C dSi_note_7 rfl ?_
    refine g_geti C dSi_note_8 fl_Si_27 h0 ?_
    refine g_bipush (v := Int32.ofInt (24)) C dSi_note_11 (by decide) ?_
    refine gt_icmp_ge 72 C dSi_note_13 (by decide) rfl (ofI (by decide)) (fun c_13 => ?_) (fun c_13 => ?_)
    · skip
      refine g_aload_n C dSi_note_72 rfl ?_
      refine g_geti C dSi_note_73 fl_Si_27 h0 ?_
      exact s_iret C E dSi_note_76 ⟨Nat.zero_le _, Nat.zero_le _⟩ hV0 trivial
    · skip
      refine g_aload_n C dSi_note_16 rfl ?_
      refine gt_getr C dSi_note_17 fl_Si_11 h0 hV0.1.1 rfl (fun b_17 q_17 hb_17 => ?_)
      refine g_aload_n C dSi_note_20 rfl ?_
      refine g_geti C dSi_note_21 fl_Si_27 h0 ?_
      refine g_iload_n C dSi_note_24 rfl ?_
      refine gt_iast C dSi_note_25 hb_17 (by decide) rfl rfl (n := 24) rfl (by omega) hV0 rfl trivial (fun Iw1 eIw1 hVw1 => ?_)
      have tkw1_a0_4 : (Iw1 a0 4).toInt = (I0 a0 4).toInt := by rw [eIw1, up2_ne _ _ (fun z => by have q := h0.2; rw [z.1, hb_17.2] at q; exact absurd q (by decide))]
      refine g_aload_n C dSi_note_26 rfl ?_
      refine gt_getr C dSi_note_27 fl_Si_15 h0 hVw1.1.1 rfl (fun b_27 q_27 hb_27 => ?_)
      refine g_aload_n C dSi_note_30 rfl ?_
      refine g_geti C dSi_note_31 fl_Si_27 h0 ?_
      refine g_iload_n C dSi_note_34 rfl ?_
      refine gt_iast C dSi_note_35 hb_27 (by decide) rfl rfl (n := 24) rfl (by omega) hVw1 rfl trivial (fun Iw2 eIw2 hVw2 => ?_)
      have tkw2_a0_4 : (Iw2 a0 4).toInt = (Iw1 a0 4).toInt := by rw [eIw2, up2_ne _ _ (fun z => by have q := h0.2; rw [z.1, hb_27.2] at q; exact absurd q (by decide))]
      refine g_aload_n C dSi_note_36 rfl ?_
      refine gt_getr C dSi_note_37 fl_Si_18 h0 hVw2.1.1 rfl (fun b_37 q_37 hb_37 => ?_)
      refine g_aload_n C dSi_note_40 rfl ?_
      refine g_geti C dSi_note_41 fl_Si_27 h0 ?_
      refine g_iload_n C dSi_note_44 rfl ?_
      refine gt_iast C dSi_note_45 hb_37 (by decide) rfl rfl (n := 24) rfl (by omega) hVw2 rfl trivial (fun Iw3 eIw3 hVw3 => ?_)
      have tkw3_a0_4 : (Iw3 a0 4).toInt = (Iw2 a0 4).toInt := by rw [eIw3, up2_ne _ _ (fun z => by have q := h0.2; rw [z.1, hb_37.2] at q; exact absurd q (by decide))]
      refine g_aload_n C dSi_note_46 rfl ?_
      refine gt_getr C dSi_note_47 fl_Si_21 h0 hVw3.1.1 rfl (fun b_47 q_47 hb_47 => ?_)
      refine g_aload_n C dSi_note_50 rfl ?_
      refine g_geti C dSi_note_51 fl_Si_27 h0 ?_
      refine g_iload C dSi_note_54 rfl ?_
      refine gt_iast C dSi_note_56 hb_47 (by decide) rfl rfl (n := 24) rfl (by omega) hVw3 rfl trivial (fun Iw4 eIw4 hVw4 => ?_)
      have tkw4_a0_4 : (Iw4 a0 4).toInt = (Iw3 a0 4).toInt := by rw [eIw4, up2_ne _ _ (fun z => by have q := h0.2; rw [z.1, hb_47.2] at q; exact absurd q (by decide))]
      refine g_aload_n C dSi_note_57 rfl ?_
      refine g_dup C dSi_note_58 rfl ?_
      refine g_geti C dSi_note_59 fl_Si_27 h0 ?_
      refine g_iconst (v := Int32.ofInt (1)) C dSi_note_62 (by decide) ?_
      first | refine n_iadd C dSi_note_63 rfl (ofI (by decide)) (by omega) (fun z_63 e_63 => ?_) | refine a_iadd C dSi_note_63 (fun z_63 => ?_)
      refine gt_puti C dSi_note_64 fl_Si_27 h0 hVw4 rfl trivial rfl (Or.inl rfl) (fun Iw5 eIw5 hVw5 => ?_)
      have tkw5_a0_4 : (Iw5 a0 4).toInt = z_63.toInt := by rw [eIw5, up2_self]
      refine g_aload_n C dSi_note_67 rfl ?_
      refine g_iconst (v := Int32.ofInt (0)) C dSi_note_68 (by decide) ?_
      refine gt_puti C dSi_note_69 fl_Si_31 h0 hVw5 rfl (Or.inl (ofI (by decide))) rfl (Or.inr ⟨rfl, (Or.inl (ofI (by decide)))⟩) (fun Iw6 eIw6 hVw6 => ?_)
      have tkw6_a0_4 : (Iw6 a0 4).toInt = (Iw5 a0 4).toInt := by rw [eIw6, up2_ne _ _ (fun z => absurd z.2 (by decide))]
      refine g_aload_n C dSi_note_72 rfl ?_
      refine g_geti C dSi_note_73 fl_Si_27 h0 ?_
      exact s_iret C E dSi_note_76 ⟨Nat.zero_le _, Nat.zero_le _⟩ hVw6 trivial
set_option maxHeartbeats 4000000 in
set_option maxRecDepth 100000 in
theorem cSi_drop {P : List Nat} {K : Nat → Nat} {I0 : Nat → Nat → Int32} {O : Nat → Nat → Option Nat} {J0 : Nat → Nat → Int64} (hV : IV P K I0 O) {a0 : Nat} (h0 : a0 ∈ P ∧ K a0 = 6) : Con ySi_drop bSi_drop 2 (some .int) ({ frames := 0, cells := 0, slots := 0, locals := 0 } : Room) P K I0 O J0 [.ref a0] (SPo frN 1 (tt) P K I0 O J0) := by
  refine Con.ofG mfSi_drop (Nat.le_of_ble_eq_true rfl) ?_
  intro X C E
  have hV0 : SV frN P K O I0 J0 I0 J0 := SV.rf hV
  refine g_aload_n C dSi_drop_0 rfl ?_
  refine g_geti C dSi_drop_1 fl_Si_27 h0 ?_
  refine g_istore_n (i := 1) C dSi_drop_4 rfl (by decide) ?_
  refine g_aload_n C dSi_drop_5 rfl ?_
  refine g_iconst (v := Int32.ofInt (0)) C dSi_drop_6 (by decide) ?_
  refine gt_puti C dSi_drop_7 fl_Si_27 h0 hV0 rfl trivial rfl (Or.inl rfl) (fun Iw1 eIw1 hVw1 => ?_)
  refine g_aload_n C dSi_drop_10 rfl ?_
  refine g_iconst (v := Int32.ofInt (0)) C dSi_drop_11 (by decide) ?_
  refine gt_puti C dSi_drop_12 fl_Si_31 h0 hVw1 rfl (Or.inl (ofI (by decide))) rfl (Or.inr ⟨rfl, (Or.inl (ofI (by decide)))⟩) (fun Iw2 eIw2 hVw2 => ?_)
  refine g_iload_n C dSi_drop_15 rfl ?_
  exact s_iret C E dSi_drop_16 ⟨Nat.zero_le _, Nat.zero_le _⟩ hVw2 trivial
set_option maxHeartbeats 4000000 in
set_option maxRecDepth 100000 in
theorem cSi_agrees {P : List Nat} {K : Nat → Nat} {I0 : Nat → Nat → Int32} {O : Nat → Nat → Option Nat} {J0 : Nat → Nat → Int64} (hV : IV P K I0 O) {a0 : Nat} (h0 : a0 ∈ P ∧ K a0 = 6) {a1 : Nat} (h1 : a1 ∈ P ∧ K a1 = 1) {x2 : Int32} {x3 : Int32} {x4 : Int32} : Con ySi_agrees bSi_agrees 8 (some .boolean) ({ frames := 2, cells := 0, slots := 0, locals := 43 } : Room) P K I0 O J0 [.ref a0, .ref a1, .int x2, .int x3, .int x4] (SPo frP 2 (tt) P K I0 O J0) := by
  refine Con.ofG mfSi_agrees (Nat.le_of_ble_eq_true rfl) ?_
  intro X C E
  have r2 := rg x2
  have r3 := rg x3
  have r4 := rg x4
  have hV0 : SV frP P K O I0 J0 I0 J0 := SV.rf hV
  refine g_iconst (v := Int32.ofInt (0)) C dSi_agrees_0 (by decide) ?_
  refine g_istore C dSi_agrees_1 (by decide) ?_
  have lp_3 : ∀ (nn_3 : Nat) (x5_3 : Int32), Int.toNat (24 - x5_3.toInt) = nn_3 → (0 ≤ Int32.toInt x5_3 ∧ Int32.toInt x5_3 ≤ 24) → GG X 8 P K I0 O J0 0 0 3 [(0, .ref a0), (1, .ref a1), (2, .int x2), (3, .int x3), (4, .int x4), (5, .int x5_3)] [] := by
    intro nn_3
    induction nn_3 using Nat.strongRecOn with
    | ind nn_3 ih_3 =>
    intro x5_3  hn_3 iv0_3 
    have rg5_3 := rg x5_3
    refine g_iload C dSi_agrees_3 rfl ?_
    refine g_aload_n C dSi_agrees_5 rfl ?_
    refine g_geti C dSi_agrees_6 fl_Si_27 h0 ?_
    refine gt_icmp_ge 110 C dSi_agrees_9 (by decide) rfl rfl (fun c_9 => ?_) (fun c_9 => ?_)
    · skip
      refine g_iconst (v := Int32.ofInt (1)) C dSi_agrees_110 (by decide) ?_
      exact s_zret C E dSi_agrees_111 ⟨Nat.zero_le _, Nat.zero_le _⟩ hV0 (Or.inr (ofI (by decide))) trivial
    · skip
      refine g_iload C dSi_agrees_12 rfl ?_
      refine g_bipush (v := Int32.ofInt (24)) C dSi_agrees_14 (by decide) ?_
      refine gt_icmp_ge 110 C dSi_agrees_16 (by decide) rfl (ofI (by decide)) (fun c_16 => ?_) (fun c_16 => ?_)
      · skip
        refine g_iconst (v := Int32.ofInt (1)) C dSi_agrees_110 (by decide) ?_
        exact s_zret C E dSi_agrees_111 ⟨Nat.zero_le _, Nat.zero_le _⟩ hV0 (Or.inr (ofI (by decide))) trivial
      · skip
        refine g_aload_n C dSi_agrees_19 rfl ?_
        refine gt_getr C dSi_agrees_20 fl_Si_15 h0 hV0.1.1 rfl (fun b_20 q_20 hb_20 => ?_)
        refine g_iload C dSi_agrees_23 rfl ?_
        refine gt_iald C dSi_agrees_25 hb_20 (by decide) rfl rfl (n := 24) rfl (by omega) ?_
        refine g_iconst (v := Int32.ofInt (2)) C dSi_agrees_26 (by decide) ?_
        have jn_35 : ∀  (s0_35 : Int32),  GG X 8 P K I0 O J0 0 0 35 [(0, .ref a0), (1, .ref a1), (2, .int x2), (3, .int x3), (4, .int x4), (5, .int x5_3)] [.int s0_35] := by
          intro s0_35
          refine g_istore C dSi_agrees_35 (by decide) ?_
          refine g_iload C dSi_agrees_37 rfl ?_
          have jn_65 : ∀  (s0_65 : Int32),  GG X 8 P K I0 O J0 0 0 65 [(0, .ref a0), (1, .ref a1), (2, .int x2), (3, .int x3), (4, .int x4), (5, .int x5_3), (6, .int s0_35)] [.int s0_65] := by
            intro s0_65
            refine g_istore C dSi_agrees_65 (by decide) ?_
            refine g_aload_n C dSi_agrees_67 rfl ?_
            refine g_iload_n C dSi_agrees_68 rfl ?_
            refine g_iload C dSi_agrees_69 rfl ?_
            refine g_aload_n C dSi_agrees_71 rfl ?_
            refine gt_getS C dSi_agrees_72 fl_Si_15 h0 q_20 ?_
            refine g_iload C dSi_agrees_75 rfl ?_
            refine gt_iald C dSi_agrees_77 hb_20 (by decide) rfl rfl (n := 24) rfl (by omega) ?_
            refine s_callV_ip (av := fun ad => [.int x2, .int s0_65, .int (I0 b_20 x5_3.toNatClampNeg)]) C dSi_agrees_78 mfGu_toldOf mvGu_toldOf ln_Si_48 h1 (by decide) rfl (cGu_toldOf hV0.1 h1) rfl rfl (Nat.le_of_ble_eq_true rfl) ⟨Nat.le_of_ble_eq_true rfl, Nat.le_of_ble_eq_true rfl⟩ ⟨rfl, rfl⟩ ⟨Nat.zero_le _, Nat.zero_le _⟩ (fun z_78 p_78 => ?_)
            have rz_78 := rg z_78
            refine g_aload_n C dSi_agrees_81 rfl ?_
            refine gt_getr C dSi_agrees_82 fl_Si_18 h0 hV0.1.1 rfl (fun b_82 q_82 hb_82 => ?_)
            refine g_iload C dSi_agrees_85 rfl ?_
            refine gt_iald C dSi_agrees_87 hb_82 (by decide) rfl rfl (n := 24) rfl (by omega) ?_
            first | refine n_isub C dSi_agrees_88 rfl rfl (by omega) (fun z_88 e_88 => ?_) | refine a_isub C dSi_agrees_88 (fun z_88 => ?_)
            refine a_abs C dSi_agrees_89 ml_Si_51 (Nat.le_of_ble_eq_true rfl) ⟨Nat.le_of_ble_eq_true rfl, Nat.le_of_ble_eq_true rfl⟩ ⟨Nat.zero_le _, Nat.zero_le _⟩ (fun z_89 => ?_)
            refine g_aload_n C dSi_agrees_92 rfl ?_
            refine gt_getr C dSi_agrees_93 fl_Si_21 h0 hV0.1.1 rfl (fun b_93 q_93 hb_93 => ?_)
            refine g_iload C dSi_agrees_96 rfl ?_
            refine gt_iald C dSi_agrees_98 hb_93 (by decide) rfl rfl (n := 24) rfl (by omega) ?_
            refine gt_icmp_le 104 C dSi_agrees_99 (by decide) rfl rfl (fun c_99 => ?_) (fun c_99 => ?_)
            · skip
              first | refine n_iinc C dSi_agrees_104 rfl rfl (by decide) (by decide) (by omega) (fun z_104 e_104 => ?_) | refine a_iinc C dSi_agrees_104 rfl (by decide) (fun z_104 => ?_)
              refine g_goto 3 C dSi_agrees_107 (by decide) ?_
              exact g_sub (ih_3 _ (by omega) z_104  rfl (by omega) ) ⟨rfl, rfl, rfl, rfl, rfl, rfl, trivial⟩
            · skip
              refine g_iconst (v := Int32.ofInt (0)) C dSi_agrees_102 (by decide) ?_
              exact s_zret C E dSi_agrees_103 ⟨Nat.zero_le _, Nat.zero_le _⟩ hV0 (Or.inl (ofI (by decide))) trivial
          refine gt_if_eq 58 C dSi_agrees_39 (by decide) rfl (fun c_39 => ?_) (fun c_39 => ?_)
          · skip
            refine g_aload_n C dSi_agrees_58 rfl ?_
            refine gt_getr C dSi_agrees_59 fl_Si_11 h0 hV0.1.1 rfl (fun b_59 q_59 hb_59 => ?_)
            refine g_iload C dSi_agrees_62 rfl ?_
            refine gt_iald C dSi_agrees_64 hb_59 (by decide) rfl rfl (n := 24) rfl (by omega) ?_
            exact g_sub (jn_65 (I0 b_59 x5_3.toNatClampNeg)   ) ⟨rfl, rfl, rfl, rfl, rfl, rfl, rfl, trivial⟩
          · skip
            refine g_aload_n C dSi_agrees_42 rfl ?_
            refine gt_getr C dSi_agrees_43 fl_Si_11 h0 hV0.1.1 rfl (fun b_43 q_43 hb_43 => ?_)
            refine g_iload C dSi_agrees_46 rfl ?_
            refine gt_iald C dSi_agrees_48 hb_43 (by decide) rfl rfl (n := 24) rfl (by omega) ?_
            refine g_iload_n C dSi_agrees_49 rfl ?_
            refine g_iload C dSi_agrees_50 rfl ?_
            refine s_callS_ip (av := fun ad => [.int (I0 b_43 x5_3.toNatClampNeg), .int x3, .int x4]) C dSi_agrees_52 mfSi_exchanged msSi_exchanged ln_Si_44 (cSi_exchanged hV0.1 ) rfl rfl (Nat.le_of_ble_eq_true rfl) ⟨Nat.le_of_ble_eq_true rfl, Nat.le_of_ble_eq_true rfl⟩ ⟨rfl, rfl⟩ ⟨Nat.zero_le _, Nat.zero_le _⟩ (fun z_52 p_52 => ?_)
            have rz_52 := rg z_52
            refine g_goto 65 C dSi_agrees_55 (by decide) ?_
            exact g_sub (jn_65 z_52   ) ⟨rfl, rfl, rfl, rfl, rfl, rfl, rfl, trivial⟩
        refine gt_icmp_lt 34 C dSi_agrees_27 (by decide) rfl (ofI (by decide)) (fun c_27 => ?_) (fun c_27 => ?_)
        · skip
          refine g_iconst (v := Int32.ofInt (0)) C dSi_agrees_34 (by decide) ?_
          exact g_sub (jn_35 (Int32.ofInt (0))   ) ⟨rfl, rfl, rfl, rfl, rfl, rfl, trivial⟩
        · skip
          refine g_iconst (v := Int32.ofInt (1)) C dSi_agrees_30 (by decide) ?_
          refine g_goto 35 C dSi_agrees_31 (by decide) ?_
          exact g_sub (jn_35 (Int32.ofInt (1))   ) ⟨rfl, rfl, rfl, rfl, rfl, rfl, trivial⟩
  exact g_sub (lp_3 _ (Int32.ofInt (0))  rfl (by have hci : Int32.toInt (Int32.ofInt (0)) = 0 := ofI (by decide); omega) ) ⟨rfl, rfl, rfl, rfl, rfl, rfl, trivial⟩
set_option maxHeartbeats 4000000 in
set_option maxRecDepth 100000 in
theorem cSi_anyAgrees {P : List Nat} {K : Nat → Nat} {I0 : Nat → Nat → Int32} {O : Nat → Nat → Option Nat} {J0 : Nat → Nat → Int64} (hV : IV P K I0 O) {a0 : Nat} (h0 : a0 ∈ P ∧ K a0 = 6) {a1 : Nat} (h1 : a1 ∈ P ∧ K a1 = 1) {x2 : Int32} {x3 : Int32} : Con ySi_anyAgrees bSi_anyAgrees 5 (some .boolean) ({ frames := 3, cells := 0, slots := 0, locals := 70 } : Room) P K I0 O J0 [.ref a0, .ref a1, .int x2, .int x3] (SPo frP 2 (tt) P K I0 O J0) := by
  refine Con.ofG mfSi_anyAgrees (Nat.le_of_ble_eq_true rfl) ?_
  intro X C E
  have r2 := rg x2
  have r3 := rg x3
  have hV0 : SV frP P K O I0 J0 I0 J0 := SV.rf hV
  refine g_iconst (v := Int32.ofInt (0)) C dSi_anyAgrees_0 (by decide) ?_
  refine g_istore C dSi_anyAgrees_1 (by decide) ?_
  have lp_3 : ∀ (nn_3 : Nat) (x4_3 : Int32), Int.toNat (100 - x4_3.toInt) = nn_3 → (0 ≤ Int32.toInt x4_3 ∧ Int32.toInt x4_3 ≤ 100) → GG X 5 P K I0 O J0 0 0 3 [(0, .ref a0), (1, .ref a1), (2, .int x2), (3, .int x3), (4, .int x4_3)] [] := by
    intro nn_3
    induction nn_3 using Nat.strongRecOn with
    | ind nn_3 ih_3 =>
    intro x4_3  hn_3 iv0_3 
    have rg4_3 := rg x4_3
    refine g_iload C dSi_anyAgrees_3 rfl ?_
    refine g_bipush (v := Int32.ofInt (100)) C dSi_anyAgrees_5 (by decide) ?_
    refine gt_icmp_ge 30 C dSi_anyAgrees_7 (by decide) rfl (ofI (by decide)) (fun c_7 => ?_) (fun c_7 => ?_)
    · skip
      refine g_iconst (v := Int32.ofInt (0)) C dSi_anyAgrees_30 (by decide) ?_
      exact s_zret C E dSi_anyAgrees_31 ⟨Nat.zero_le _, Nat.zero_le _⟩ hV0 (Or.inl (ofI (by decide))) trivial
    · skip
      refine g_aload_n C dSi_anyAgrees_10 rfl ?_
      refine g_aload_n C dSi_anyAgrees_11 rfl ?_
      refine g_iload C dSi_anyAgrees_12 rfl ?_
      refine g_iload_n C dSi_anyAgrees_14 rfl ?_
      refine g_iload_n C dSi_anyAgrees_15 rfl ?_
      refine s_callV_zp (av := fun ad => [.ref a1, .int x4_3, .int x2, .int x3]) C dSi_anyAgrees_16 mfSi_agrees mvSi_agrees ln_Si_38 h0 (by decide) rfl (cSi_agrees hV0.1 h0 h1) rfl rfl (Nat.le_of_ble_eq_true rfl) ⟨Nat.le_of_ble_eq_true rfl, Nat.le_of_ble_eq_true rfl⟩ ⟨rfl, rfl⟩ ⟨Nat.zero_le _, Nat.zero_le _⟩ (fun z_16 b_16 p_16 => ?_)
      have rz_16 := rg z_16
      have u_16 := b_16
      unfold B01 at u_16
      refine gt_if_eq 24 C dSi_anyAgrees_19 (by decide) rfl (fun c_19 => ?_) (fun c_19 => ?_)
      · skip
        first | refine n_iinc C dSi_anyAgrees_24 rfl rfl (by decide) (by decide) (by omega) (fun z_24 e_24 => ?_) | refine a_iinc C dSi_anyAgrees_24 rfl (by decide) (fun z_24 => ?_)
        refine g_goto 3 C dSi_anyAgrees_27 (by decide) ?_
        exact g_sub (ih_3 _ (by omega) z_24  rfl (by omega) ) ⟨rfl, rfl, rfl, rfl, rfl, trivial⟩
      · skip
        refine g_iconst (v := Int32.ofInt (1)) C dSi_anyAgrees_22 (by decide) ?_
        exact s_zret C E dSi_anyAgrees_23 ⟨Nat.zero_le _, Nat.zero_le _⟩ hV0 (Or.inr (ofI (by decide))) trivial
  exact g_sub (lp_3 _ (Int32.ofInt (0))  rfl (by have hci : Int32.toInt (Int32.ofInt (0)) = 0 := ofI (by decide); omega) ) ⟨rfl, rfl, rfl, rfl, rfl, trivial⟩
set_option maxHeartbeats 4000000 in
set_option maxRecDepth 100000 in
theorem cSi_fitOf {P : List Nat} {K : Nat → Nat} {I0 : Nat → Nat → Int32} {O : Nat → Nat → Option Nat} {J0 : Nat → Nat → Int64} (hV : IV P K I0 O) {a0 : Nat} (h0 : a0 ∈ P ∧ K a0 = 6) {x1 : Int32} : Con ySi_fitOf bSi_fitOf 2 (some .int) ({ frames := 0, cells := 0, slots := 0, locals := 0 } : Room) P K I0 O J0 [.ref a0, .int x1] (SPo frP 1 (tt) P K I0 O J0) := by
  refine Con.ofG mfSi_fitOf (Nat.le_of_ble_eq_true rfl) ?_
  intro X C E
  have r1 := rg x1
  have hV0 : SV frP P K O I0 J0 I0 J0 := SV.rf hV
  refine g_iload_n C dSi_fitOf_0 rfl ?_
  refine gt_if_lt 27 C dSi_fitOf_1 (by decide) rfl (fun c_1 => ?_) (fun c_1 => ?_)
  · skip
    refine g_iconst (v := Int32.ofInt (0)) C dSi_fitOf_27 (by decide) ?_
    exact s_iret C E dSi_fitOf_28 ⟨Nat.zero_le _, Nat.zero_le _⟩ hV0 trivial
  · skip
    refine g_iload_n C dSi_fitOf_4 rfl ?_
    refine g_aload_n C dSi_fitOf_5 rfl ?_
    refine g_geti C dSi_fitOf_6 fl_Si_35 h0 ?_
    refine gt_icmp_ge 27 C dSi_fitOf_9 (by decide) rfl rfl (fun c_9 => ?_) (fun c_9 => ?_)
    · skip
      refine g_iconst (v := Int32.ofInt (0)) C dSi_fitOf_27 (by decide) ?_
      exact s_iret C E dSi_fitOf_28 ⟨Nat.zero_le _, Nat.zero_le _⟩ hV0 trivial
    · skip
      refine g_iload_n C dSi_fitOf_12 rfl ?_
      refine g_bipush (v := Int32.ofInt (100)) C dSi_fitOf_13 (by decide) ?_
      refine gt_icmp_ge 27 C dSi_fitOf_15 (by decide) rfl (ofI (by decide)) (fun c_15 => ?_) (fun c_15 => ?_)
      · skip
        refine g_iconst (v := Int32.ofInt (0)) C dSi_fitOf_27 (by decide) ?_
        exact s_iret C E dSi_fitOf_28 ⟨Nat.zero_le _, Nat.zero_le _⟩ hV0 trivial
      · skip
        refine g_aload_n C dSi_fitOf_18 rfl ?_
        refine gt_getr C dSi_fitOf_19 fl_Si_24 h0 hV0.1.1 rfl (fun b_19 q_19 hb_19 => ?_)
        refine g_iload_n C dSi_fitOf_22 rfl ?_
        refine gt_iald C dSi_fitOf_23 hb_19 (by decide) rfl rfl (n := 100) rfl (by omega) ?_
        refine g_goto 28 C dSi_fitOf_24 (by decide) ?_
        exact s_iret C E dSi_fitOf_28 ⟨Nat.zero_le _, Nat.zero_le _⟩ hV0 trivial
set_option maxHeartbeats 4000000 in
set_option maxRecDepth 100000 in
theorem cSi_findFits {P : List Nat} {K : Nat → Nat} {I0 : Nat → Nat → Int32} {O : Nat → Nat → Option Nat} {J0 : Nat → Nat → Int64} (hV : IV P K I0 O) {a0 : Nat} (h0 : a0 ∈ P ∧ K a0 = 6) {a1 : Nat} (h1 : a1 ∈ P ∧ K a1 = 1) : Con ySi_findFits bSi_findFits 3 (some .int) ({ frames := 3, cells := 0, slots := 0, locals := 70 } : Room) P K I0 O J0 [.ref a0, .ref a1] (SPo frN 1 (tt) P K I0 O J0) := by
  refine Con.ofG mfSi_findFits (Nat.le_of_ble_eq_true rfl) ?_
  intro X C E
  have hV0 : SV frN P K O I0 J0 I0 J0 := SV.rf hV
  refine g_aload_n C dSi_findFits_0 rfl ?_
  refine g_geti C dSi_findFits_1 fl_Si_31 h0 ?_
  refine gt_if_ne 71 C dSi_findFits_4 (by decide) rfl (fun c_4 => ?_) (fun c_4 => ?_)
  · skip
    refine g_aload_n C dSi_findFits_71 rfl ?_
    refine g_geti C dSi_findFits_72 fl_Si_35 h0 ?_
    exact s_iret C E dSi_findFits_75 ⟨Nat.zero_le _, Nat.zero_le _⟩ hV0 trivial
  · skip
    refine g_aload_n C dSi_findFits_7 rfl ?_
    refine g_iconst (v := Int32.ofInt (0)) C dSi_findFits_8 (by decide) ?_
    refine gt_puti C dSi_findFits_9 fl_Si_35 h0 hV0 rfl trivial rfl (Or.inl rfl) (fun Iw1 eIw1 hVw1 => ?_)
    have tkw1_a0_6 : (Iw1 a0 6).toInt = 0 := by rw [eIw1, up2_self]; exact ofI (by decide)
    refine g_iconst (v := Int32.ofInt (0)) C dSi_findFits_12 (by decide) ?_
    refine g_istore_n (i := 2) C dSi_findFits_13 rfl (by decide) ?_
    have lp_14 : ∀ (nn_14 : Nat) (x2_14 : Int32) (Iw2 : Nat → Nat → Int32) (Jw2 : Nat → Nat → Int64), Int.toNat (100 - x2_14.toInt) = nn_14 → (0 ≤ Int32.toInt x2_14 ∧ Int32.toInt x2_14 ≤ 100) → (0 ≤ Int32.toInt (Iw2 a0 6)) → SV frN P K O I0 J0 Iw2 Jw2 → GG X 3 P K Iw2 O Jw2 0 0 14 [(0, .ref a0), (1, .ref a1), (2, .int x2_14)] [] := by
      intro nn_14
      induction nn_14 using Nat.strongRecOn with
      | ind nn_14 ih_14 =>
      intro x2_14 Iw2 Jw2 hn_14 iv0_14 iv1_14 hVw2
      have rg2_14 := rg x2_14
      refine g_iload_n C dSi_findFits_14 rfl ?_
      refine g_bipush (v := Int32.ofInt (100)) C dSi_findFits_15 (by decide) ?_
      have jn_66 : ∀ (y2_66 : Int32)  (Iw3 : Nat → Nat → Int32) (Jw3 : Nat → Nat → Int64),  SV frN P K O I0 J0 Iw3 Jw3 → GG X 3 P K Iw3 O Jw3 0 0 66 [(0, .ref a0), (1, .ref a1), (2, .int y2_66)] [] := by
        intro y2_66 Iw3 Jw3 hVw3
        refine g_aload_n C dSi_findFits_66 rfl ?_
        refine g_iconst (v := Int32.ofInt (1)) C dSi_findFits_67 (by decide) ?_
        refine gt_puti C dSi_findFits_68 fl_Si_31 h0 hVw3 rfl (Or.inr (ofI (by decide))) rfl (Or.inr ⟨rfl, (Or.inr (ofI (by decide)))⟩) (fun Iw4 eIw4 hVw4 => ?_)
        have tkw4_a0_6 : (Iw4 a0 6).toInt = (Iw3 a0 6).toInt := by rw [eIw4, up2_ne _ _ (fun z => absurd z.2 (by decide))]
        refine g_aload_n C dSi_findFits_71 rfl ?_
        refine g_geti C dSi_findFits_72 fl_Si_35 h0 ?_
        exact s_iret C E dSi_findFits_75 ⟨Nat.zero_le _, Nat.zero_le _⟩ hVw4 trivial
      refine gt_icmp_ge 66 C dSi_findFits_17 (by decide) rfl (ofI (by decide)) (fun c_17 => ?_) (fun c_17 => ?_)
      · skip
        exact g_sub (jn_66 x2_14 Iw2 Jw2  hVw2) ⟨rfl, rfl, rfl, trivial⟩
      · skip
        refine g_aload_n C dSi_findFits_20 rfl ?_
        refine g_geti C dSi_findFits_21 fl_Si_35 h0 ?_
        refine g_bipush (v := Int32.ofInt (100)) C dSi_findFits_24 (by decide) ?_
        refine gt_icmp_ge 66 C dSi_findFits_26 (by decide) rfl (ofI (by decide)) (fun c_26 => ?_) (fun c_26 => ?_)
        · skip
          exact g_sub (jn_66 x2_14 Iw2 Jw2  hVw2) ⟨rfl, rfl, rfl, trivial⟩
        · skip
          refine g_aload_n C dSi_findFits_29 rfl ?_
          refine g_aload_n C dSi_findFits_30 rfl ?_
          refine g_iload_n C dSi_findFits_31 rfl ?_
          refine g_iconst (v := Int32.ofInt (0)) C dSi_findFits_32 (by decide) ?_
          refine g_iconst (v := Int32.ofInt (0)) C dSi_findFits_33 (by decide) ?_
          refine s_callV_zp (av := fun ad => [.ref a1, .int x2_14, .int (Int32.ofInt (0)), .int (Int32.ofInt (0))]) C dSi_findFits_34 mfSi_agrees mvSi_agrees ln_Si_38 h0 (by decide) rfl (cSi_agrees hVw2.1 h0 h1) rfl rfl (Nat.le_of_ble_eq_true rfl) ⟨Nat.le_of_ble_eq_true rfl, Nat.le_of_ble_eq_true rfl⟩ ⟨rfl, rfl⟩ ⟨Nat.zero_le _, Nat.zero_le _⟩ (fun z_34 b_34 p_34 => ?_)
          have rz_34 := rg z_34
          have u_34 := b_34
          unfold B01 at u_34
          have jn_60 : ∀   (Iw6 : Nat → Nat → Int32) (Jw6 : Nat → Nat → Int64), (0 ≤ Int32.toInt (Iw6 a0 6)) → SV frN P K O I0 J0 Iw6 Jw6 → GG X 3 P K Iw6 O Jw6 0 0 60 [(0, .ref a0), (1, .ref a1), (2, .int x2_14)] [] := by
            intro Iw6 Jw6 jv0_60 hVw6
            first | refine n_iinc C dSi_findFits_60 rfl rfl (by decide) (by decide) (by omega) (fun z_60 e_60 => ?_) | refine a_iinc C dSi_findFits_60 rfl (by decide) (fun z_60 => ?_)
            refine g_goto 14 C dSi_findFits_63 (by decide) ?_
            exact g_sub (ih_14 _ (by omega) z_60 Iw6 Jw6 rfl (by omega) (by omega) hVw6) ⟨rfl, rfl, rfl, trivial⟩
          refine gt_if_eq 60 C dSi_findFits_37 (by decide) rfl (fun c_37 => ?_) (fun c_37 => ?_)
          · skip
            exact g_sub (jn_60  Iw2 Jw2 (by omega) hVw2) ⟨rfl, rfl, rfl, trivial⟩
          · skip
            refine g_aload_n C dSi_findFits_40 rfl ?_
            refine gt_getr C dSi_findFits_41 fl_Si_24 h0 hVw2.1.1 rfl (fun b_41 q_41 hb_41 => ?_)
            refine g_aload_n C dSi_findFits_44 rfl ?_
            refine g_geti C dSi_findFits_45 fl_Si_35 h0 ?_
            refine g_iload_n C dSi_findFits_48 rfl ?_
            refine gt_iast C dSi_findFits_49 hb_41 (by decide) rfl rfl (n := 100) rfl (by omega) hVw2 rfl trivial (fun Iw7 eIw7 hVw7 => ?_)
            have tkw7_a0_6 : (Iw7 a0 6).toInt = (Iw2 a0 6).toInt := by rw [eIw7, up2_ne _ _ (fun z => by have q := h0.2; rw [z.1, hb_41.2] at q; exact absurd q (by decide))]
            refine g_aload_n C dSi_findFits_50 rfl ?_
            refine g_dup C dSi_findFits_51 rfl ?_
            refine g_geti C dSi_findFits_52 fl_Si_35 h0 ?_
            refine g_iconst (v := Int32.ofInt (1)) C dSi_findFits_55 (by decide) ?_
            first | refine n_iadd C dSi_findFits_56 rfl (ofI (by decide)) (by omega) (fun z_56 e_56 => ?_) | refine a_iadd C dSi_findFits_56 (fun z_56 => ?_)
            refine gt_puti C dSi_findFits_57 fl_Si_35 h0 hVw7 rfl trivial rfl (Or.inl rfl) (fun Iw8 eIw8 hVw8 => ?_)
            have tkw8_a0_6 : (Iw8 a0 6).toInt = z_56.toInt := by rw [eIw8, up2_self]
            exact g_sub (jn_60  Iw8 Jw2 (by omega) hVw8) ⟨rfl, rfl, rfl, trivial⟩
    exact g_sub (lp_14 _ (Int32.ofInt (0)) Iw1 J0 rfl (by have hci : Int32.toInt (Int32.ofInt (0)) = 0 := ofI (by decide); omega) (by omega) hVw1) ⟨rfl, rfl, rfl, trivial⟩
