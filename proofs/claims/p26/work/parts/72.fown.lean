def B_Gu_makeStale_2 (N : Nat) (O : WO) (a0 : Nat) (rec_2 : Int32 → WI → Option (WI)) (x1_2 : Int32) (I_2 : WI) : Option (WI) := if 100 ≤ (x1_2).toInt then (some I_2) else (if 0 ≤ (x1_2).toInt ∧ (x1_2).toInt < 100 then (lb (up2 I_2 (rf O a0 1) (x1_2).toInt.toNat (vp_nar .boolean (Int32.ofInt (0)))) fun I1 => lb (x1_2 + Int32.ofInt (1)) fun v1_15 => rec_2 (v1_15) I1) else none)
def F_Gu_makeStale (N : Nat) (O : WO) (I0 : WI) (J0 : WJ) (a0 : Nat) : Option (WI) := lp (B_Gu_makeStale_2 N O a0) (fun _ _ => none) N ((Int32.ofInt (0))) I0
set_option maxHeartbeats 4000000 in
set_option maxRecDepth 100000 in
theorem f_Gu_makeStale {P : List Nat} {K : Nat → Nat} {N : Nat} {O : WO} {I0 : WI} {J0 : WJ} (hT : TR P K O) {a0 : Nat} (h0 : a0 ∈ P ∧ K a0 = 1) {I' : WI} (h : F_Gu_makeStale N O I0 J0 a0 = some I') : Con yGu_makeStale bGu_makeStale 2 none ({ frames := 0, cells := 0, slots := 0, locals := 0 } : Room) P K I0 O J0 [.ref a0] (EPo none I' J0 P K O) := by
  refine Con.ofG mfGu_makeStale (Nat.le_of_ble_eq_true rfl) ?_
  intro X C E
  unfold F_Gu_makeStale at h
  refine g_iconst (v := Int32.ofInt (0)) C dGu_makeStale_0 (by decide) ?_
  refine g_istore_n (i := 1) C dGu_makeStale_1 rfl (by decide) ?_
  have lp_2 : ∀ (x1_2 : Int32) (I_2 : WI), lp (B_Gu_makeStale_2 N O a0) (fun _ _ => none) N x1_2 I_2 = some I' → GG X 2 P K I_2 O J0 0 0 2 [(0, .ref a0), (1, .int x1_2)] [] := by
    refine x_lp (fun (rec_2 : Int32 → WI → Option (WI)) => ∀ (x1_2 : Int32) (I_2 : WI), rec_2 x1_2 I_2 = some I' → GG X 2 P K I_2 O J0 0 0 2 [(0, .ref a0), (1, .int x1_2)] []) (fun _ _ h => by cases h) (fun rec_2 hr_2 x1_2 I_2 h => ?_) N
    unfold B_Gu_makeStale_2 at h
    refine g_iload_n C dGu_makeStale_2 rfl ?_
    refine g_bipush (v := Int32.ofInt (100)) C dGu_makeStale_3 (by decide) ?_
    refine gt_icmp_ge 21 C dGu_makeStale_5 (by decide) rfl (ofI (by decide)) (fun c_5 => ?_) (fun c_5 => ?_)
    · have h := x_pos c_5 h
      exact x_vret1 C E dGu_makeStale_21 ⟨Nat.zero_le _, Nat.zero_le _⟩ h
    · have h := x_neg (Int.not_le.mpr c_5) h
      refine g_aload_n C dGu_makeStale_8 rfl ?_
      have t_9 := rf_ok hT h0 (show sp 1 1 = some 21 from rfl)
      refine x_getr C dGu_makeStale_9 fl_Gu_15 h0 hT (show sp 1 1 = some 21 from rfl) ?_
      refine g_iload_n C dGu_makeStale_12 rfl ?_
      refine g_iconst (v := Int32.ofInt (0)) C dGu_makeStale_13 (by decide) ?_
      obtain ⟨g_14, h⟩ := x_g h
      refine x_zast (m := 100) C dGu_makeStale_14 t_9 (by decide) rfl rfl g_14 h (fun I1 h => ?_)
      refine x_iinc C dGu_makeStale_15 rfl (by decide) h (fun v1_15 h => ?_)
      refine g_goto 2 C dGu_makeStale_18 (by decide) ?_
      exact g_sub (hr_2 (v1_15) I1 h) ⟨rfl, rfl, trivial⟩
  exact g_sub (lp_2 ((Int32.ofInt (0))) I0 h) ⟨rfl, rfl, trivial⟩
def B_Gu_tellOne_97 (N : Nat) (O : WO) (a0 : Nat) (x4_32 : Int32) (rec_32 : Int32 → WI → Option (WI)) (v5_62 : Int32) (rec_97 : Int32 → WI → Option (WI)) (x6_97 : Int32) (I_97 : WI) : Option (WI) := if 5 ≤ (x6_97).toInt then (lb (x4_32 + Int32.ofInt (1)) fun v4_134 => rec_32 (v4_134) I_97) else (if 0 ≤ (x6_97).toInt ∧ (x6_97).toInt < 5 then (if 0 ≤ (((v5_62 + (Int32.ofInt (2))) + x6_97)).toInt ∧ (((v5_62 + (Int32.ofInt (2))) + x6_97)).toInt < 8400 then (lb (up2 I_97 (rf O a0 0) (((v5_62 + (Int32.ofInt (2))) + x6_97)).toInt.toNat (I_97 (rf O (rf O (rf O a0 2) 0) 2) (x6_97).toInt.toNat)) fun I6 => lb (x6_97 + Int32.ofInt (1)) fun v6_128 => rec_97 (v6_128) I6) else none) else none)
def B_Gu_tellOne_32 (N : Nat) (O : WO) (a0 : Nat) (a1 : Nat) (a2 : Nat) (x3 : Int32) (J0 : WJ) (rec_32 : Int32 → WI → Option (WI)) (x4_32 : Int32) (I_32 : WI) : Option (WI) := if 12 ≤ (x4_32).toInt then (if 0 ≤ (x3).toInt ∧ (x3).toInt < 100 then (lb (up2 I_32 (rf O a0 1) (x3).toInt.toNat (vp_nar .boolean (Int32.ofInt (1)))) fun I2 => some I2) else none) else (bd1 (F_Dr_runHour N O I_32 J0 (rf O a0 2) a1 a2 19 (x4_32 * (Int32.ofInt (3)))) fun I3 => lb ((((x3 * (Int32.ofInt (12))) + x4_32) * (Int32.ofInt (7)))) fun v5_62 => if 0 ≤ (v5_62).toInt ∧ (v5_62).toInt < 8400 then (lb (up2 I3 (rf O a0 0) (v5_62).toInt.toNat (I3 (rf O a0 2) 10)) fun I4 => if 0 ≤ ((v5_62 + (Int32.ofInt (1)))).toInt ∧ ((v5_62 + (Int32.ofInt (1)))).toInt < 8400 then (lb (up2 I4 (rf O a0 0) ((v5_62 + (Int32.ofInt (1)))).toInt.toNat (I4 (rf O a0 2) 9)) fun I5 => lp (B_Gu_tellOne_97 N O a0 x4_32 rec_32 v5_62) (fun _ _ => none) N ((Int32.ofInt (0))) I5) else none) else none)
def F_Gu_tellOne (N : Nat) (O : WO) (I0 : WI) (J0 : WJ) (a0 : Nat) (a1 : Nat) (a2 : Nat) (x3 : Int32) : Option (WI) := if (x3).toInt < 0 then (some I0) else (if 100 ≤ (x3).toInt then (some I0) else (if 0 ≤ (x3).toInt ∧ (x3).toInt < 100 then (if ((I0 (rf O a0 1) (x3).toInt.toNat)).toInt = 0 then (bd1 (F_Dr_beginStart N O I0 J0 (rf O a0 2) a1 x3) fun I1 => lp (B_Gu_tellOne_32 N O a0 a1 a2 x3 J0) (fun _ _ => none) N ((Int32.ofInt (0))) I1) else (some I0)) else none))
set_option maxHeartbeats 4000000 in
set_option maxRecDepth 100000 in
theorem f_Gu_tellOne {P : List Nat} {K : Nat → Nat} {N : Nat} {O : WO} {I0 : WI} {J0 : WJ} (hT : TR P K O) {a0 : Nat} (h0 : a0 ∈ P ∧ K a0 = 1) {a1 : Nat} (h1 : a1 ∈ P ∧ K a1 = 3) {a2 : Nat} (h2 : a2 ∈ P ∧ K a2 = 19) {x3 : Int32} {I' : WI} (h : F_Gu_tellOne N O I0 J0 a0 a1 a2 x3 = some I') : Con yGu_tellOne bGu_tellOne 7 none ({ frames := 4, cells := 0, slots := 0, locals := 87 } : Room) P K I0 O J0 [.ref a0, .ref a1, .ref a2, .int x3] (EPo none I' J0 P K O) := by
  refine Con.ofG mfGu_tellOne (Nat.le_of_ble_eq_true rfl) ?_
  intro X C E
  unfold F_Gu_tellOne at h
  refine g_iload_n C dGu_tellOne_0 rfl ?_
  refine gt_if_lt 19 C dGu_tellOne_1 (by decide) rfl (fun c_1 => ?_) (fun c_1 => ?_)
  · have h := x_pos c_1 h
    exact x_vret1 C E dGu_tellOne_19 ⟨Nat.zero_le _, Nat.zero_le _⟩ h
  · have h := x_neg (Int.not_lt.mpr c_1) h
    refine g_iload_n C dGu_tellOne_4 rfl ?_
    refine g_bipush (v := Int32.ofInt (100)) C dGu_tellOne_5 (by decide) ?_
    refine gt_icmp_ge 19 C dGu_tellOne_7 (by decide) rfl (ofI (by decide)) (fun c_7 => ?_) (fun c_7 => ?_)
    · have h := x_pos c_7 h
      exact x_vret1 C E dGu_tellOne_19 ⟨Nat.zero_le _, Nat.zero_le _⟩ h
    · have h := x_neg (Int.not_le.mpr c_7) h
      refine g_aload_n C dGu_tellOne_10 rfl ?_
      have t_11 := rf_ok hT h0 (show sp 1 1 = some 21 from rfl)
      refine x_getr C dGu_tellOne_11 fl_Gu_15 h0 hT (show sp 1 1 = some 21 from rfl) ?_
      refine g_iload_n C dGu_tellOne_14 rfl ?_
      obtain ⟨g_15, h⟩ := x_g h
      refine x_zald (m := 100) C dGu_tellOne_15 t_11 (by decide) rfl rfl g_15 ?_
      refine gt_if_eq 20 C dGu_tellOne_16 (by decide) rfl (fun c_16 => ?_) (fun c_16 => ?_)
      · have h := x_pos c_16 h
        refine g_aload_n C dGu_tellOne_20 rfl ?_
        have t_21 := rf_ok hT h0 (show sp 1 2 = some 0 from rfl)
        refine x_getr C dGu_tellOne_21 fl_Gu_22 h0 hT (show sp 1 2 = some 0 from rfl) ?_
        refine g_aload_n C dGu_tellOne_24 rfl ?_
        refine g_iload_n C dGu_tellOne_25 rfl ?_
        obtain ⟨I1, e_26, h⟩ := bd1_some h
        refine x_callVv (av := fun ad => [.ref a1, .int x3]) C dGu_tellOne_26 mfDr_beginStart mvDr_beginStart ln_Gu_30 t_21 (by decide) rfl (f_Dr_beginStart hT t_21 h1 e_26) rfl rfl (Nat.le_of_ble_eq_true rfl) ⟨Nat.le_of_ble_eq_true rfl, Nat.le_of_ble_eq_true rfl⟩ ⟨rfl, rfl⟩ ⟨Nat.zero_le _, Nat.zero_le _⟩ ?_
        refine g_iconst (v := Int32.ofInt (0)) C dGu_tellOne_29 (by decide) ?_
        refine g_istore C dGu_tellOne_30 (by decide) ?_
        have lp_32 : ∀ (x4_32 : Int32) (I_32 : WI), lp (B_Gu_tellOne_32 N O a0 a1 a2 x3 J0) (fun _ _ => none) N x4_32 I_32 = some I' → GG X 7 P K I_32 O J0 0 0 32 [(0, .ref a0), (1, .ref a1), (2, .ref a2), (3, .int x3), (4, .int x4_32)] [] := by
          refine x_lp (fun (rec_32 : Int32 → WI → Option (WI)) => ∀ (x4_32 : Int32) (I_32 : WI), rec_32 x4_32 I_32 = some I' → GG X 7 P K I_32 O J0 0 0 32 [(0, .ref a0), (1, .ref a1), (2, .ref a2), (3, .int x3), (4, .int x4_32)] []) (fun _ _ h => by cases h) (fun rec_32 hr_32 x4_32 I_32 h => ?_) N
          unfold B_Gu_tellOne_32 at h
          refine g_iload C dGu_tellOne_32 rfl ?_
          refine g_bipush (v := Int32.ofInt (12)) C dGu_tellOne_34 (by decide) ?_
          refine gt_icmp_ge 140 C dGu_tellOne_36 (by decide) rfl (ofI (by decide)) (fun c_36 => ?_) (fun c_36 => ?_)
          · have h := x_pos c_36 h
            refine g_aload_n C dGu_tellOne_140 rfl ?_
            have t_141 := rf_ok hT h0 (show sp 1 1 = some 21 from rfl)
            refine x_getr C dGu_tellOne_141 fl_Gu_15 h0 hT (show sp 1 1 = some 21 from rfl) ?_
            refine g_iload_n C dGu_tellOne_144 rfl ?_
            refine g_iconst (v := Int32.ofInt (1)) C dGu_tellOne_145 (by decide) ?_
            obtain ⟨g_146, h⟩ := x_g h
            refine x_zast (m := 100) C dGu_tellOne_146 t_141 (by decide) rfl rfl g_146 h (fun I2 h => ?_)
            exact x_vret1 C E dGu_tellOne_147 ⟨Nat.zero_le _, Nat.zero_le _⟩ h
          · have h := x_neg (Int.not_le.mpr c_36) h
            refine g_aload_n C dGu_tellOne_39 rfl ?_
            have t_40 := rf_ok hT h0 (show sp 1 2 = some 0 from rfl)
            refine x_getr C dGu_tellOne_40 fl_Gu_22 h0 hT (show sp 1 2 = some 0 from rfl) ?_
            refine g_aload_n C dGu_tellOne_43 rfl ?_
            refine g_aload_n C dGu_tellOne_44 rfl ?_
            refine g_iload C dGu_tellOne_45 rfl ?_
            refine g_iconst (v := Int32.ofInt (3)) C dGu_tellOne_47 (by decide) ?_
            refine g_imul C dGu_tellOne_48 ?_
            obtain ⟨I3, e_49, h⟩ := bd1_some h
            refine x_callVv (av := fun ad => [.ref a1, .ref a2, .int (x4_32 * (Int32.ofInt (3)))]) C dGu_tellOne_49 mfDr_runHour mvDr_runHour ln_Gu_34 t_40 (by decide) rfl (f_Dr_runHour hT t_40 h1 h2 ⟨by decide, rfl⟩ e_49) rfl rfl (Nat.le_of_ble_eq_true rfl) ⟨Nat.le_of_ble_eq_true rfl, Nat.le_of_ble_eq_true rfl⟩ ⟨rfl, rfl⟩ ⟨Nat.zero_le _, Nat.zero_le _⟩ ?_
            refine g_iload_n C dGu_tellOne_52 rfl ?_
            refine g_bipush (v := Int32.ofInt (12)) C dGu_tellOne_53 (by decide) ?_
            refine g_imul C dGu_tellOne_55 ?_
            refine g_iload C dGu_tellOne_56 rfl ?_
            refine g_iadd C dGu_tellOne_58 ?_
            refine g_bipush (v := Int32.ofInt (7)) C dGu_tellOne_59 (by decide) ?_
            refine g_imul C dGu_tellOne_61 ?_
            refine x_istore C dGu_tellOne_62 (by decide) h (fun v5_62 h => ?_)
            refine g_aload_n C dGu_tellOne_64 rfl ?_
            have t_65 := rf_ok hT h0 (show sp 1 0 = some 20 from rfl)
            refine x_getr C dGu_tellOne_65 fl_Gu_11 h0 hT (show sp 1 0 = some 20 from rfl) ?_
            refine g_iload C dGu_tellOne_68 rfl ?_
            refine g_aload_n C dGu_tellOne_70 rfl ?_
            have t_71 := rf_ok hT h0 (show sp 1 2 = some 0 from rfl)
            refine x_getr C dGu_tellOne_71 fl_Gu_22 h0 hT (show sp 1 2 = some 0 from rfl) ?_
            refine g_geti C dGu_tellOne_74 fl_Gu_37 t_71 ?_
            obtain ⟨g_77, h⟩ := x_g h
            refine x_iast (m := 8400) C dGu_tellOne_77 t_65 (by decide) rfl rfl g_77 h (fun I4 h => ?_)
            refine g_aload_n C dGu_tellOne_78 rfl ?_
            have t_79 := rf_ok hT h0 (show sp 1 0 = some 20 from rfl)
            refine x_getr C dGu_tellOne_79 fl_Gu_11 h0 hT (show sp 1 0 = some 20 from rfl) ?_
            refine g_iload C dGu_tellOne_82 rfl ?_
            refine g_iconst (v := Int32.ofInt (1)) C dGu_tellOne_84 (by decide) ?_
            refine g_iadd C dGu_tellOne_85 ?_
            refine g_aload_n C dGu_tellOne_86 rfl ?_
            have t_87 := rf_ok hT h0 (show sp 1 2 = some 0 from rfl)
            refine x_getr C dGu_tellOne_87 fl_Gu_22 h0 hT (show sp 1 2 = some 0 from rfl) ?_
            refine g_geti C dGu_tellOne_90 fl_Gu_41 t_87 ?_
            obtain ⟨g_93, h⟩ := x_g h
            refine x_iast (m := 8400) C dGu_tellOne_93 t_79 (by decide) rfl rfl g_93 h (fun I5 h => ?_)
            refine g_iconst (v := Int32.ofInt (0)) C dGu_tellOne_94 (by decide) ?_
            refine g_istore C dGu_tellOne_95 (by decide) ?_
            have lp_97 : ∀ (x6_97 : Int32) (I_97 : WI), lp (B_Gu_tellOne_97 N O a0 x4_32 rec_32 v5_62) (fun _ _ => none) N x6_97 I_97 = some I' → GG X 7 P K I_97 O J0 0 0 97 [(0, .ref a0), (1, .ref a1), (2, .ref a2), (3, .int x3), (4, .int x4_32), (5, .int v5_62), (6, .int x6_97)] [] := by
              refine x_lp (fun (rec_97 : Int32 → WI → Option (WI)) => ∀ (x6_97 : Int32) (I_97 : WI), rec_97 x6_97 I_97 = some I' → GG X 7 P K I_97 O J0 0 0 97 [(0, .ref a0), (1, .ref a1), (2, .ref a2), (3, .int x3), (4, .int x4_32), (5, .int v5_62), (6, .int x6_97)] []) (fun _ _ h => by cases h) (fun rec_97 hr_97 x6_97 I_97 h => ?_) N
              unfold B_Gu_tellOne_97 at h
              refine g_iload C dGu_tellOne_97 rfl ?_
              refine g_iconst (v := Int32.ofInt (5)) C dGu_tellOne_99 (by decide) ?_
              refine gt_icmp_ge 134 C dGu_tellOne_100 (by decide) rfl (ofI (by decide)) (fun c_100 => ?_) (fun c_100 => ?_)
              · have h := x_pos c_100 h
                refine x_iinc C dGu_tellOne_134 rfl (by decide) h (fun v4_134 h => ?_)
                refine g_goto 32 C dGu_tellOne_137 (by decide) ?_
                exact g_sub (hr_32 (v4_134) I_97 h) ⟨rfl, rfl, rfl, rfl, rfl, trivial⟩
              · have h := x_neg (Int.not_le.mpr c_100) h
                refine g_aload_n C dGu_tellOne_103 rfl ?_
                have t_104 := rf_ok hT h0 (show sp 1 0 = some 20 from rfl)
                refine x_getr C dGu_tellOne_104 fl_Gu_11 h0 hT (show sp 1 0 = some 20 from rfl) ?_
                refine g_iload C dGu_tellOne_107 rfl ?_
                refine g_iconst (v := Int32.ofInt (2)) C dGu_tellOne_109 (by decide) ?_
                refine g_iadd C dGu_tellOne_110 ?_
                refine g_iload C dGu_tellOne_111 rfl ?_
                refine g_iadd C dGu_tellOne_113 ?_
                refine g_aload_n C dGu_tellOne_114 rfl ?_
                have t_115 := rf_ok hT h0 (show sp 1 2 = some 0 from rfl)
                refine x_getr C dGu_tellOne_115 fl_Gu_22 h0 hT (show sp 1 2 = some 0 from rfl) ?_
                have t_118 := rf_ok hT t_115 (show sp 0 0 = some 2 from rfl)
                refine x_getr C dGu_tellOne_118 fl_Gu_44 t_115 hT (show sp 0 0 = some 2 from rfl) ?_
                have t_121 := rf_ok hT t_118 (show sp 2 2 = some 11 from rfl)
                refine x_getr C dGu_tellOne_121 fl_Gu_48 t_118 hT (show sp 2 2 = some 11 from rfl) ?_
                refine g_iload C dGu_tellOne_124 rfl ?_
                obtain ⟨g_126, h⟩ := x_g h
                refine x_iald (m := 5) C dGu_tellOne_126 t_121 (by decide) rfl rfl g_126 ?_
                obtain ⟨g_127, h⟩ := x_g h
                refine x_iast (m := 8400) C dGu_tellOne_127 t_104 (by decide) rfl rfl g_127 h (fun I6 h => ?_)
                refine x_iinc C dGu_tellOne_128 rfl (by decide) h (fun v6_128 h => ?_)
                refine g_goto 97 C dGu_tellOne_131 (by decide) ?_
                exact g_sub (hr_97 (v6_128) I6 h) ⟨rfl, rfl, rfl, rfl, rfl, rfl, rfl, trivial⟩
            exact g_sub (lp_97 ((Int32.ofInt (0))) I5 h) ⟨rfl, rfl, rfl, rfl, rfl, rfl, rfl, trivial⟩
        exact g_sub (lp_32 ((Int32.ofInt (0))) I1 h) ⟨rfl, rfl, rfl, rfl, rfl, trivial⟩
      · have h := x_neg c_16 h
        exact x_vret1 C E dGu_tellOne_19 ⟨Nat.zero_le _, Nat.zero_le _⟩ h
def B_Gu_tellAll_2 (N : Nat) (O : WO) (a0 : Nat) (a1 : Nat) (a2 : Nat) (J0 : WJ) (rec_2 : Int32 → WI → Option (WI)) (x3_2 : Int32) (I_2 : WI) : Option (WI) := if 100 ≤ (x3_2).toInt then (some I_2) else (bd1 (F_Gu_tellOne N O I_2 J0 a0 a1 a2 x3_2) fun I1 => lb (x3_2 + Int32.ofInt (1)) fun v3_15 => rec_2 (v3_15) I1)
def F_Gu_tellAll (N : Nat) (O : WO) (I0 : WI) (J0 : WJ) (a0 : Nat) (a1 : Nat) (a2 : Nat) : Option (WI) := lp (B_Gu_tellAll_2 N O a0 a1 a2 J0) (fun _ _ => none) N ((Int32.ofInt (0))) I0
set_option maxHeartbeats 4000000 in
set_option maxRecDepth 100000 in
theorem f_Gu_tellAll {P : List Nat} {K : Nat → Nat} {N : Nat} {O : WO} {I0 : WI} {J0 : WJ} (hT : TR P K O) {a0 : Nat} (h0 : a0 ∈ P ∧ K a0 = 1) {a1 : Nat} (h1 : a1 ∈ P ∧ K a1 = 3) {a2 : Nat} (h2 : a2 ∈ P ∧ K a2 = 19) {I' : WI} (h : F_Gu_tellAll N O I0 J0 a0 a1 a2 = some I') : Con yGu_tellAll bGu_tellAll 4 none ({ frames := 5, cells := 0, slots := 0, locals := 113 } : Room) P K I0 O J0 [.ref a0, .ref a1, .ref a2] (EPo none I' J0 P K O) := by
  refine Con.ofG mfGu_tellAll (Nat.le_of_ble_eq_true rfl) ?_
  intro X C E
  unfold F_Gu_tellAll at h
  refine g_iconst (v := Int32.ofInt (0)) C dGu_tellAll_0 (by decide) ?_
  refine g_istore_n (i := 3) C dGu_tellAll_1 rfl (by decide) ?_
  have lp_2 : ∀ (x3_2 : Int32) (I_2 : WI), lp (B_Gu_tellAll_2 N O a0 a1 a2 J0) (fun _ _ => none) N x3_2 I_2 = some I' → GG X 4 P K I_2 O J0 0 0 2 [(0, .ref a0), (1, .ref a1), (2, .ref a2), (3, .int x3_2)] [] := by
    refine x_lp (fun (rec_2 : Int32 → WI → Option (WI)) => ∀ (x3_2 : Int32) (I_2 : WI), rec_2 x3_2 I_2 = some I' → GG X 4 P K I_2 O J0 0 0 2 [(0, .ref a0), (1, .ref a1), (2, .ref a2), (3, .int x3_2)] []) (fun _ _ h => by cases h) (fun rec_2 hr_2 x3_2 I_2 h => ?_) N
    unfold B_Gu_tellAll_2 at h
    refine g_iload_n C dGu_tellAll_2 rfl ?_
    refine g_bipush (v := Int32.ofInt (100)) C dGu_tellAll_3 (by decide) ?_
    refine gt_icmp_ge 21 C dGu_tellAll_5 (by decide) rfl (ofI (by decide)) (fun c_5 => ?_) (fun c_5 => ?_)
    · have h := x_pos c_5 h
      exact x_vret1 C E dGu_tellAll_21 ⟨Nat.zero_le _, Nat.zero_le _⟩ h
    · have h := x_neg (Int.not_le.mpr c_5) h
      refine g_aload_n C dGu_tellAll_8 rfl ?_
      refine g_aload_n C dGu_tellAll_9 rfl ?_
      refine g_aload_n C dGu_tellAll_10 rfl ?_
      refine g_iload_n C dGu_tellAll_11 rfl ?_
      obtain ⟨I1, e_12, h⟩ := bd1_some h
      refine x_callVv (av := fun ad => [.ref a1, .ref a2, .int x3_2]) C dGu_tellAll_12 mfGu_tellOne mvGu_tellOne ln_Gu_26 h0 (by decide) rfl (f_Gu_tellOne hT h0 h1 h2 e_12) rfl rfl (Nat.le_of_ble_eq_true rfl) ⟨Nat.le_of_ble_eq_true rfl, Nat.le_of_ble_eq_true rfl⟩ ⟨rfl, rfl⟩ ⟨Nat.zero_le _, Nat.zero_le _⟩ ?_
      refine x_iinc C dGu_tellAll_15 rfl (by decide) h (fun v3_15 h => ?_)
      refine g_goto 2 C dGu_tellAll_18 (by decide) ?_
      exact g_sub (hr_2 (v3_15) I1 h) ⟨rfl, rfl, rfl, rfl, trivial⟩
  exact g_sub (lp_2 ((Int32.ofInt (0))) I0 h) ⟨rfl, rfl, rfl, rfl, trivial⟩
def F_Gu_toldOf (N : Nat) (O : WO) (I0 : WI) (J0 : WJ) (a0 : Nat) (x1 : Int32) (x2 : Int32) (x3 : Int32) : Option (Int32) := if (x1).toInt < 0 then (some (Int32.ofInt (0))) else (if 100 ≤ (x1).toInt then (some (Int32.ofInt (0))) else (bd1 (F_RM_isHour N O I0 J0 x2) fun z_11 => if (z_11).toInt = 0 then (some (Int32.ofInt (0))) else (if (x3).toInt < 0 then (some (Int32.ofInt (0))) else (if (x3).toInt < 7 then (if 0 ≤ (((((x1 * (Int32.ofInt (12))) + x2) * (Int32.ofInt (7))) + x3)).toInt ∧ (((((x1 * (Int32.ofInt (12))) + x2) * (Int32.ofInt (7))) + x3)).toInt < 8400 then (some (I0 (rf O a0 0) (((((x1 * (Int32.ofInt (12))) + x2) * (Int32.ofInt (7))) + x3)).toInt.toNat)) else none) else (some (Int32.ofInt (0)))))))
set_option maxHeartbeats 4000000 in
set_option maxRecDepth 100000 in
theorem f_Gu_toldOf {P : List Nat} {K : Nat → Nat} {N : Nat} {O : WO} {I0 : WI} {J0 : WJ} (hT : TR P K O) {a0 : Nat} (h0 : a0 ∈ P ∧ K a0 = 1) {x1 : Int32} {x2 : Int32} {x3 : Int32} {r : Int32} (h : F_Gu_toldOf N O I0 J0 a0 x1 x2 x3 = some r) : Con yGu_toldOf bGu_toldOf 4 (some .int) ({ frames := 1, cells := 0, slots := 0, locals := 20 } : Room) P K I0 O J0 [.ref a0, .int x1, .int x2, .int x3] (EPo (some (.int r)) I0 J0 P K O) := by
  refine Con.ofG mfGu_toldOf (Nat.le_of_ble_eq_true rfl) ?_
  intro X C E
  unfold F_Gu_toldOf at h
  refine g_iload_n C dGu_toldOf_0 rfl ?_
  refine gt_if_lt 27 C dGu_toldOf_1 (by decide) rfl (fun c_1 => ?_) (fun c_1 => ?_)
  · have h := x_pos c_1 h
    refine g_iconst (v := Int32.ofInt (0)) C dGu_toldOf_27 (by decide) ?_
    exact x_iret0 C E dGu_toldOf_28 ⟨Nat.zero_le _, Nat.zero_le _⟩ h
  · have h := x_neg (Int.not_lt.mpr c_1) h
    refine g_iload_n C dGu_toldOf_4 rfl ?_
    refine g_bipush (v := Int32.ofInt (100)) C dGu_toldOf_5 (by decide) ?_
    refine gt_icmp_ge 27 C dGu_toldOf_7 (by decide) rfl (ofI (by decide)) (fun c_7 => ?_) (fun c_7 => ?_)
    · have h := x_pos c_7 h
      refine g_iconst (v := Int32.ofInt (0)) C dGu_toldOf_27 (by decide) ?_
      exact x_iret0 C E dGu_toldOf_28 ⟨Nat.zero_le _, Nat.zero_le _⟩ h
    · have h := x_neg (Int.not_le.mpr c_7) h
      refine g_iload_n C dGu_toldOf_10 rfl ?_
      obtain ⟨z_11, e_11, h⟩ := bd1_some h
      refine x_callSi (av := fun ad => [.int x2]) C dGu_toldOf_11 mfRM_isHour msRM_isHour ln_Gu_53 (f_RM_isHour hT  e_11) rfl rfl (Nat.le_of_ble_eq_true rfl) ⟨Nat.le_of_ble_eq_true rfl, Nat.le_of_ble_eq_true rfl⟩ ⟨rfl, rfl⟩ ⟨Nat.zero_le _, Nat.zero_le _⟩ ?_
      refine gt_if_eq 27 C dGu_toldOf_14 (by decide) rfl (fun c_14 => ?_) (fun c_14 => ?_)
      · have h := x_pos c_14 h
        refine g_iconst (v := Int32.ofInt (0)) C dGu_toldOf_27 (by decide) ?_
        exact x_iret0 C E dGu_toldOf_28 ⟨Nat.zero_le _, Nat.zero_le _⟩ h
      · have h := x_neg c_14 h
        refine g_iload_n C dGu_toldOf_17 rfl ?_
        refine gt_if_lt 27 C dGu_toldOf_18 (by decide) rfl (fun c_18 => ?_) (fun c_18 => ?_)
        · have h := x_pos c_18 h
          refine g_iconst (v := Int32.ofInt (0)) C dGu_toldOf_27 (by decide) ?_
          exact x_iret0 C E dGu_toldOf_28 ⟨Nat.zero_le _, Nat.zero_le _⟩ h
        · have h := x_neg (Int.not_lt.mpr c_18) h
          refine g_iload_n C dGu_toldOf_21 rfl ?_
          refine g_bipush (v := Int32.ofInt (7)) C dGu_toldOf_22 (by decide) ?_
          refine gt_icmp_lt 29 C dGu_toldOf_24 (by decide) rfl (ofI (by decide)) (fun c_24 => ?_) (fun c_24 => ?_)
          · have h := x_pos c_24 h
            refine g_aload_n C dGu_toldOf_29 rfl ?_
            have t_30 := rf_ok hT h0 (show sp 1 0 = some 20 from rfl)
            refine x_getr C dGu_toldOf_30 fl_Gu_11 h0 hT (show sp 1 0 = some 20 from rfl) ?_
            refine g_iload_n C dGu_toldOf_33 rfl ?_
            refine g_bipush (v := Int32.ofInt (12)) C dGu_toldOf_34 (by decide) ?_
            refine g_imul C dGu_toldOf_36 ?_
            refine g_iload_n C dGu_toldOf_37 rfl ?_
            refine g_iadd C dGu_toldOf_38 ?_
            refine g_bipush (v := Int32.ofInt (7)) C dGu_toldOf_39 (by decide) ?_
            refine g_imul C dGu_toldOf_41 ?_
            refine g_iload_n C dGu_toldOf_42 rfl ?_
            refine g_iadd C dGu_toldOf_43 ?_
            obtain ⟨g_44, h⟩ := x_g h
            refine x_iald (m := 8400) C dGu_toldOf_44 t_30 (by decide) rfl rfl g_44 ?_
            exact x_iret0 C E dGu_toldOf_45 ⟨Nat.zero_le _, Nat.zero_le _⟩ h
          · have h := x_neg (Int.not_lt.mpr c_24) h
            refine g_iconst (v := Int32.ofInt (0)) C dGu_toldOf_27 (by decide) ?_
            exact x_iret0 C E dGu_toldOf_28 ⟨Nat.zero_le _, Nat.zero_le _⟩ h
def F_Si_isFilled (N : Nat) (O : WO) (I0 : WI) (J0 : WJ) (a0 : Nat) : Option (Int32) := if ((I0 a0 4)).toInt < 24 then (some (Int32.ofInt (0))) else (some (Int32.ofInt (1)))
set_option maxHeartbeats 4000000 in
set_option maxRecDepth 100000 in
theorem f_Si_isFilled {P : List Nat} {K : Nat → Nat} {N : Nat} {O : WO} {I0 : WI} {J0 : WJ} (hT : TR P K O) {a0 : Nat} (h0 : a0 ∈ P ∧ K a0 = 6) {r : Int32} (h : F_Si_isFilled N O I0 J0 a0 = some r) : Con ySi_isFilled bSi_isFilled 1 (some .boolean) ({ frames := 0, cells := 0, slots := 0, locals := 0 } : Room) P K I0 O J0 [.ref a0] (EPo (some (.int r)) I0 J0 P K O) := by
  refine Con.ofG mfSi_isFilled (Nat.le_of_ble_eq_true rfl) ?_
  intro X C E
  unfold F_Si_isFilled at h
  refine g_aload_n C dSi_isFilled_0 rfl ?_
  refine g_geti C dSi_isFilled_1 fl_Si_27 h0 ?_
  refine g_bipush (v := Int32.ofInt (24)) C dSi_isFilled_4 (by decide) ?_
  refine gt_icmp_lt 13 C dSi_isFilled_6 (by decide) rfl (ofI (by decide)) (fun c_6 => ?_) (fun c_6 => ?_)
  · have h := x_pos c_6 h
    refine g_iconst (v := Int32.ofInt (0)) C dSi_isFilled_13 (by decide) ?_
    exact x_zret0 C E dSi_isFilled_14 (by decide) ⟨Nat.zero_le _, Nat.zero_le _⟩ h
  · have h := x_neg (Int.not_lt.mpr c_6) h
    refine g_iconst (v := Int32.ofInt (1)) C dSi_isFilled_9 (by decide) ?_
    refine g_goto 14 C dSi_isFilled_10 (by decide) ?_
    exact x_zret0 C E dSi_isFilled_14 (by decide) ⟨Nat.zero_le _, Nat.zero_le _⟩ h
def F_Si_note (N : Nat) (O : WO) (I0 : WI) (J0 : WJ) (a0 : Nat) (x1 : Int32) (x2 : Int32) (x3 : Int32) (x4 : Int32) : Option (Int32 × WI) := if ((I0 a0 4)).toInt < 0 then (some ((I0 a0 4), I0)) else (if 24 ≤ ((I0 a0 4)).toInt then (some ((I0 a0 4), I0)) else (if 0 ≤ ((I0 a0 4)).toInt ∧ ((I0 a0 4)).toInt < 24 then (lb (up2 I0 (rf O a0 0) ((I0 a0 4)).toInt.toNat x1) fun I1 => if 0 ≤ ((I1 a0 4)).toInt ∧ ((I1 a0 4)).toInt < 24 then (lb (up2 I1 (rf O a0 1) ((I1 a0 4)).toInt.toNat x2) fun I2 => if 0 ≤ ((I2 a0 4)).toInt ∧ ((I2 a0 4)).toInt < 24 then (lb (up2 I2 (rf O a0 2) ((I2 a0 4)).toInt.toNat x3) fun I3 => if 0 ≤ ((I3 a0 4)).toInt ∧ ((I3 a0 4)).toInt < 24 then (lb (up2 I3 (rf O a0 3) ((I3 a0 4)).toInt.toNat x4) fun I4 => lb (up2 I4 a0 4 ((I4 a0 4) + (Int32.ofInt (1)))) fun I5 => lb (up2 I5 a0 7 (Int32.ofInt (0))) fun I6 => some ((I6 a0 4), I6)) else none) else none) else none) else none))
set_option maxHeartbeats 4000000 in
set_option maxRecDepth 100000 in
theorem f_Si_note {P : List Nat} {K : Nat → Nat} {N : Nat} {O : WO} {I0 : WI} {J0 : WJ} (hT : TR P K O) {a0 : Nat} (h0 : a0 ∈ P ∧ K a0 = 6) {x1 : Int32} {x2 : Int32} {x3 : Int32} {x4 : Int32} {r : Int32} {I' : WI} (h : F_Si_note N O I0 J0 a0 x1 x2 x3 x4 = some (r, I')) : Con ySi_note bSi_note 5 (some .int) ({ frames := 0, cells := 0, slots := 0, locals := 0 } : Room) P K I0 O J0 [.ref a0, .int x1, .int x2, .int x3, .int x4] (EPo (some (.int r)) I' J0 P K O) := by
  refine Con.ofG mfSi_note (Nat.le_of_ble_eq_true rfl) ?_
  intro X C E
  unfold F_Si_note at h
  refine g_aload_n C dSi_note_0 rfl ?_
  refine g_geti C dSi_note_1 fl_Si_27 h0 ?_
  refine gt_if_lt 72 C dSi_note_4 (by decide) rfl (fun c_4 => ?_) (fun c_4 => ?_)
  · have h := x_pos c_4 h
    refine g_aload_n C dSi_note_72 rfl ?_
    refine g_geti C dSi_note_73 fl_Si_27 h0 ?_
    exact x_iret1 C E dSi_note_76 ⟨Nat.zero_le _, Nat.zero_le _⟩ h
  · have h := x_neg (Int.not_lt.mpr c_4) h
    refine g_aload_n C dSi_note_7 rfl ?_
    refine g_geti C dSi_note_8 fl_Si_27 h0 ?_
    refine g_bipush (v := Int32.ofInt (24)) C dSi_note_11 (by decide) ?_
    refine gt_icmp_ge 72 C dSi_note_13 (by decide) rfl (ofI (by decide)) (fun c_13 => ?_) (fun c_13 => ?_)
    · have h := x_pos c_13 h
      refine g_aload_n C dSi_note_72 rfl ?_
      refine g_geti C dSi_note_73 fl_Si_27 h0 ?_
      exact x_iret1 C E dSi_note_76 ⟨Nat.zero_le _, Nat.zero_le _⟩ h
    · have h := x_neg (Int.not_le.mpr c_13) h
      refine g_aload_n C dSi_note_16 rfl ?_
      have t_17 := rf_ok hT h0 (show sp 6 0 = some 22 from rfl)
      refine x_getr C dSi_note_17 fl_Si_11 h0 hT (show sp 6 0 = some 22 from rfl) ?_
      refine g_aload_n C dSi_note_20 rfl ?_
      refine g_geti C dSi_note_21 fl_Si_27 h0 ?_
      refine g_iload_n C dSi_note_24 rfl ?_
      obtain ⟨g_25, h⟩ := x_g h
      refine x_iast (m := 24) C dSi_note_25 t_17 (by decide) rfl rfl g_25 h (fun I1 h => ?_)
      refine g_aload_n C dSi_note_26 rfl ?_
      have t_27 := rf_ok hT h0 (show sp 6 1 = some 22 from rfl)
      refine x_getr C dSi_note_27 fl_Si_15 h0 hT (show sp 6 1 = some 22 from rfl) ?_
      refine g_aload_n C dSi_note_30 rfl ?_
      refine g_geti C dSi_note_31 fl_Si_27 h0 ?_
      refine g_iload_n C dSi_note_34 rfl ?_
      obtain ⟨g_35, h⟩ := x_g h
      refine x_iast (m := 24) C dSi_note_35 t_27 (by decide) rfl rfl g_35 h (fun I2 h => ?_)
      refine g_aload_n C dSi_note_36 rfl ?_
      have t_37 := rf_ok hT h0 (show sp 6 2 = some 22 from rfl)
      refine x_getr C dSi_note_37 fl_Si_18 h0 hT (show sp 6 2 = some 22 from rfl) ?_
      refine g_aload_n C dSi_note_40 rfl ?_
      refine g_geti C dSi_note_41 fl_Si_27 h0 ?_
      refine g_iload_n C dSi_note_44 rfl ?_
      obtain ⟨g_45, h⟩ := x_g h
      refine x_iast (m := 24) C dSi_note_45 t_37 (by decide) rfl rfl g_45 h (fun I3 h => ?_)
      refine g_aload_n C dSi_note_46 rfl ?_
      have t_47 := rf_ok hT h0 (show sp 6 3 = some 22 from rfl)
      refine x_getr C dSi_note_47 fl_Si_21 h0 hT (show sp 6 3 = some 22 from rfl) ?_
      refine g_aload_n C dSi_note_50 rfl ?_
      refine g_geti C dSi_note_51 fl_Si_27 h0 ?_
      refine g_iload C dSi_note_54 rfl ?_
      obtain ⟨g_56, h⟩ := x_g h
      refine x_iast (m := 24) C dSi_note_56 t_47 (by decide) rfl rfl g_56 h (fun I4 h => ?_)
      refine g_aload_n C dSi_note_57 rfl ?_
      refine g_dup C dSi_note_58 rfl ?_
      refine g_geti C dSi_note_59 fl_Si_27 h0 ?_
      refine g_iconst (v := Int32.ofInt (1)) C dSi_note_62 (by decide) ?_
      refine g_iadd C dSi_note_63 ?_
      refine x_puti C dSi_note_64 fl_Si_27 h0 rfl (Or.inl rfl) h (fun I5 h => ?_)
      refine g_aload_n C dSi_note_67 rfl ?_
      refine g_iconst (v := Int32.ofInt (0)) C dSi_note_68 (by decide) ?_
      refine x_puti C dSi_note_69 fl_Si_31 h0 rfl (Or.inr ⟨rfl, by decide⟩) h (fun I6 h => ?_)
      refine g_aload_n C dSi_note_72 rfl ?_
      refine g_geti C dSi_note_73 fl_Si_27 h0 ?_
      exact x_iret1 C E dSi_note_76 ⟨Nat.zero_le _, Nat.zero_le _⟩ h
def F_Si_drop (N : Nat) (O : WO) (I0 : WI) (J0 : WJ) (a0 : Nat) : Option (Int32 × WI) := lb ((I0 a0 4)) fun v1_4 => lb (up2 I0 a0 4 (Int32.ofInt (0))) fun I1 => lb (up2 I1 a0 7 (Int32.ofInt (0))) fun I2 => some (v1_4, I2)
set_option maxHeartbeats 4000000 in
set_option maxRecDepth 100000 in
theorem f_Si_drop {P : List Nat} {K : Nat → Nat} {N : Nat} {O : WO} {I0 : WI} {J0 : WJ} (hT : TR P K O) {a0 : Nat} (h0 : a0 ∈ P ∧ K a0 = 6) {r : Int32} {I' : WI} (h : F_Si_drop N O I0 J0 a0 = some (r, I')) : Con ySi_drop bSi_drop 2 (some .int) ({ frames := 0, cells := 0, slots := 0, locals := 0 } : Room) P K I0 O J0 [.ref a0] (EPo (some (.int r)) I' J0 P K O) := by
  refine Con.ofG mfSi_drop (Nat.le_of_ble_eq_true rfl) ?_
  intro X C E
  unfold F_Si_drop at h
  refine g_aload_n C dSi_drop_0 rfl ?_
  refine g_geti C dSi_drop_1 fl_Si_27 h0 ?_
  refine x_istore_n (i := 1) C dSi_drop_4 rfl (by decide) h (fun v1_4 h => ?_)
  refine g_aload_n C dSi_drop_5 rfl ?_
  refine g_iconst (v := Int32.ofInt (0)) C dSi_drop_6 (by decide) ?_
  refine x_puti C dSi_drop_7 fl_Si_27 h0 rfl (Or.inl rfl) h (fun I1 h => ?_)
  refine g_aload_n C dSi_drop_10 rfl ?_
  refine g_iconst (v := Int32.ofInt (0)) C dSi_drop_11 (by decide) ?_
  refine x_puti C dSi_drop_12 fl_Si_31 h0 rfl (Or.inr ⟨rfl, by decide⟩) h (fun I2 h => ?_)
  refine g_iload_n C dSi_drop_15 rfl ?_
  exact x_iret1 C E dSi_drop_16 ⟨Nat.zero_le _, Nat.zero_le _⟩ h
def F_Si_exchanged (N : Nat) (O : WO) (I0 : WI) (J0 : WJ) (x0 : Int32) (x1 : Int32) (x2 : Int32) : Option (Int32) := if (x0).toInt = (x1).toInt then (some x2) else (if (x0).toInt = (x2).toInt then (some x1) else (some x0))
set_option maxHeartbeats 4000000 in
set_option maxRecDepth 100000 in
theorem f_Si_exchanged {P : List Nat} {K : Nat → Nat} {N : Nat} {O : WO} {I0 : WI} {J0 : WJ} (hT : TR P K O) {x0 : Int32} {x1 : Int32} {x2 : Int32} {r : Int32} (h : F_Si_exchanged N O I0 J0 x0 x1 x2 = some r) : Con ySi_exchanged bSi_exchanged 3 (some .int) ({ frames := 0, cells := 0, slots := 0, locals := 0 } : Room) P K I0 O J0 [.int x0, .int x1, .int x2] (EPo (some (.int r)) I0 J0 P K O) := by
  refine Con.ofG mfSi_exchanged (Nat.le_of_ble_eq_true rfl) ?_
  intro X C E
  unfold F_Si_exchanged at h
  refine g_iload_n C dSi_exchanged_0 rfl ?_
  refine g_iload_n C dSi_exchanged_1 rfl ?_
  refine gt_icmp_ne 7 C dSi_exchanged_2 (by decide) rfl rfl (fun c_2 => ?_) (fun c_2 => ?_)
  · have h := x_neg c_2 h
    refine g_iload_n C dSi_exchanged_7 rfl ?_
    refine g_iload_n C dSi_exchanged_8 rfl ?_
    refine gt_icmp_ne 16 C dSi_exchanged_9 (by decide) rfl rfl (fun c_9 => ?_) (fun c_9 => ?_)
    · have h := x_neg c_9 h
      refine g_iload_n C dSi_exchanged_16 rfl ?_
      exact x_iret0 C E dSi_exchanged_17 ⟨Nat.zero_le _, Nat.zero_le _⟩ h
    · have h := x_pos c_9 h
      refine g_iload_n C dSi_exchanged_12 rfl ?_
      refine g_goto 17 C dSi_exchanged_13 (by decide) ?_
      exact x_iret0 C E dSi_exchanged_17 ⟨Nat.zero_le _, Nat.zero_le _⟩ h
  · have h := x_pos c_2 h
    refine g_iload_n C dSi_exchanged_5 rfl ?_
    exact x_iret0 C E dSi_exchanged_6 ⟨Nat.zero_le _, Nat.zero_le _⟩ h
def B_Si_agrees_3 (N : Nat) (O : WO) (a0 : Nat) (a1 : Nat) (x2 : Int32) (x3 : Int32) (x4 : Int32) (I0 : WI) (J0 : WJ) (rec_3 : Int32 → Option (Int32)) (x5_3 : Int32) : Option (Int32) := if ((I0 a0 4)).toInt ≤ (x5_3).toInt then (some (Int32.ofInt (1))) else (if 24 ≤ (x5_3).toInt then (some (Int32.ofInt (1))) else (if 0 ≤ (x5_3).toInt ∧ (x5_3).toInt < 24 then (jn (fun (s0_35 : Int32) => jn (fun (s0_65 : Int32) => if 0 ≤ (x5_3).toInt ∧ (x5_3).toInt < 24 then (bd1 (F_Gu_toldOf N O I0 J0 a1 x2 s0_65 (I0 (rf O a0 1) (x5_3).toInt.toNat)) fun z_78 => if 0 ≤ (x5_3).toInt ∧ (x5_3).toInt < 24 then (if 0 ≤ (x5_3).toInt ∧ (x5_3).toInt < 24 then (if ((abI (z_78 - (I0 (rf O a0 2) (x5_3).toInt.toNat)))).toInt ≤ ((I0 (rf O a0 3) (x5_3).toInt.toNat)).toInt then (lb (x5_3 + Int32.ofInt (1)) fun v5_104 => rec_3 (v5_104)) else (some (Int32.ofInt (0)))) else none) else none) else none) fun k_65 => if (s0_35).toInt = 0 then (if 0 ≤ (x5_3).toInt ∧ (x5_3).toInt < 24 then (k_65 ((I0 (rf O a0 0) (x5_3).toInt.toNat))) else none) else (if 0 ≤ (x5_3).toInt ∧ (x5_3).toInt < 24 then (bd1 (F_Si_exchanged N O I0 J0 (I0 (rf O a0 0) (x5_3).toInt.toNat) x3 x4) fun z_52 => k_65 (z_52)) else none)) fun k_35 => if ((I0 (rf O a0 1) (x5_3).toInt.toNat)).toInt < 2 then (k_35 ((Int32.ofInt (0)))) else (k_35 ((Int32.ofInt (1))))) else none))
def F_Si_agrees (N : Nat) (O : WO) (I0 : WI) (J0 : WJ) (a0 : Nat) (a1 : Nat) (x2 : Int32) (x3 : Int32) (x4 : Int32) : Option (Int32) := lp (B_Si_agrees_3 N O a0 a1 x2 x3 x4 I0 J0) (fun _ => none) N ((Int32.ofInt (0)))
set_option maxHeartbeats 4000000 in
set_option maxRecDepth 100000 in
theorem f_Si_agrees {P : List Nat} {K : Nat → Nat} {N : Nat} {O : WO} {I0 : WI} {J0 : WJ} (hT : TR P K O) {a0 : Nat} (h0 : a0 ∈ P ∧ K a0 = 6) {a1 : Nat} (h1 : a1 ∈ P ∧ K a1 = 1) {x2 : Int32} {x3 : Int32} {x4 : Int32} {r : Int32} (h : F_Si_agrees N O I0 J0 a0 a1 x2 x3 x4 = some r) : Con ySi_agrees bSi_agrees 8 (some .boolean) ({ frames := 2, cells := 0, slots := 0, locals := 43 } : Room) P K I0 O J0 [.ref a0, .ref a1, .int x2, .int x3, .int x4] (EPo (some (.int r)) I0 J0 P K O) := by
  refine Con.ofG mfSi_agrees (Nat.le_of_ble_eq_true rfl) ?_
  intro X C E
  unfold F_Si_agrees at h
  refine g_iconst (v := Int32.ofInt (0)) C dSi_agrees_0 (by decide) ?_
  refine g_istore C dSi_agrees_1 (by decide) ?_
  have lp_3 : ∀ (x5_3 : Int32), lp (B_Si_agrees_3 N O a0 a1 x2 x3 x4 I0 J0) (fun _ => none) N x5_3 = some r → GG X 8 P K I0 O J0 0 0 3 [(0, .ref a0), (1, .ref a1), (2, .int x2), (3, .int x3), (4, .int x4), (5, .int x5_3)] [] := by
    refine x_lp (fun (rec_3 : Int32 → Option (Int32)) => ∀ (x5_3 : Int32), rec_3 x5_3 = some r → GG X 8 P K I0 O J0 0 0 3 [(0, .ref a0), (1, .ref a1), (2, .int x2), (3, .int x3), (4, .int x4), (5, .int x5_3)] []) (fun _ h => by cases h) (fun rec_3 hr_3 x5_3 h => ?_) N
    unfold B_Si_agrees_3 at h
    refine g_iload C dSi_agrees_3 rfl ?_
    refine g_aload_n C dSi_agrees_5 rfl ?_
    refine g_geti C dSi_agrees_6 fl_Si_27 h0 ?_
    refine gt_icmp_ge 110 C dSi_agrees_9 (by decide) rfl rfl (fun c_9 => ?_) (fun c_9 => ?_)
    · have h := x_pos c_9 h
      refine g_iconst (v := Int32.ofInt (1)) C dSi_agrees_110 (by decide) ?_
      exact x_zret0 C E dSi_agrees_111 (by decide) ⟨Nat.zero_le _, Nat.zero_le _⟩ h
    · have h := x_neg (Int.not_le.mpr c_9) h
      refine g_iload C dSi_agrees_12 rfl ?_
      refine g_bipush (v := Int32.ofInt (24)) C dSi_agrees_14 (by decide) ?_
      refine gt_icmp_ge 110 C dSi_agrees_16 (by decide) rfl (ofI (by decide)) (fun c_16 => ?_) (fun c_16 => ?_)
      · have h := x_pos c_16 h
        refine g_iconst (v := Int32.ofInt (1)) C dSi_agrees_110 (by decide) ?_
        exact x_zret0 C E dSi_agrees_111 (by decide) ⟨Nat.zero_le _, Nat.zero_le _⟩ h
      · have h := x_neg (Int.not_le.mpr c_16) h
        refine g_aload_n C dSi_agrees_19 rfl ?_
        have t_20 := rf_ok hT h0 (show sp 6 1 = some 22 from rfl)
        refine x_getr C dSi_agrees_20 fl_Si_15 h0 hT (show sp 6 1 = some 22 from rfl) ?_
        refine g_iload C dSi_agrees_23 rfl ?_
        obtain ⟨g_25, h⟩ := x_g h
        refine x_iald (m := 24) C dSi_agrees_25 t_20 (by decide) rfl rfl g_25 ?_
        refine g_iconst (v := Int32.ofInt (2)) C dSi_agrees_26 (by decide) ?_
        refine x_jn h (fun (k_35 : Int32 → Option (Int32)) => ∀ (s0_35 : Int32), k_35 s0_35 = some r → GG X 8 P K I0 O J0 0 0 35 [(0, .ref a0), (1, .ref a1), (2, .int x2), (3, .int x3), (4, .int x4), (5, .int x5_3)] [.int s0_35]) (fun s0_35 h => ?_) (fun k_35 hk_35 h => ?_)
        · skip
          refine g_istore C dSi_agrees_35 (by decide) ?_
          refine g_iload C dSi_agrees_37 rfl ?_
          refine x_jn h (fun (k_65 : Int32 → Option (Int32)) => ∀ (s0_65 : Int32), k_65 s0_65 = some r → GG X 8 P K I0 O J0 0 0 65 [(0, .ref a0), (1, .ref a1), (2, .int x2), (3, .int x3), (4, .int x4), (5, .int x5_3), (6, .int s0_35)] [.int s0_65]) (fun s0_65 h => ?_) (fun k_65 hk_65 h => ?_)
          · skip
            refine g_istore C dSi_agrees_65 (by decide) ?_
            refine g_aload_n C dSi_agrees_67 rfl ?_
            refine g_iload_n C dSi_agrees_68 rfl ?_
            refine g_iload C dSi_agrees_69 rfl ?_
            refine g_aload_n C dSi_agrees_71 rfl ?_
            have t_72 := rf_ok hT h0 (show sp 6 1 = some 22 from rfl)
            refine x_getr C dSi_agrees_72 fl_Si_15 h0 hT (show sp 6 1 = some 22 from rfl) ?_
            refine g_iload C dSi_agrees_75 rfl ?_
            obtain ⟨g_77, h⟩ := x_g h
            refine x_iald (m := 24) C dSi_agrees_77 t_72 (by decide) rfl rfl g_77 ?_
            obtain ⟨z_78, e_78, h⟩ := bd1_some h
            refine x_callVi (av := fun ad => [.int x2, .int s0_65, .int (I0 (rf O a0 1) (x5_3).toInt.toNat)]) C dSi_agrees_78 mfGu_toldOf mvGu_toldOf ln_Si_48 h1 (by decide) rfl (f_Gu_toldOf hT h1 e_78) rfl rfl (Nat.le_of_ble_eq_true rfl) ⟨Nat.le_of_ble_eq_true rfl, Nat.le_of_ble_eq_true rfl⟩ ⟨rfl, rfl⟩ ⟨Nat.zero_le _, Nat.zero_le _⟩ ?_
            refine g_aload_n C dSi_agrees_81 rfl ?_
            have t_82 := rf_ok hT h0 (show sp 6 2 = some 22 from rfl)
            refine x_getr C dSi_agrees_82 fl_Si_18 h0 hT (show sp 6 2 = some 22 from rfl) ?_
            refine g_iload C dSi_agrees_85 rfl ?_
            obtain ⟨g_87, h⟩ := x_g h
            refine x_iald (m := 24) C dSi_agrees_87 t_82 (by decide) rfl rfl g_87 ?_
            refine g_isub C dSi_agrees_88 ?_
            refine x_abs C dSi_agrees_89 ml_Si_51 (Nat.le_of_ble_eq_true rfl) ⟨Nat.le_of_ble_eq_true rfl, Nat.le_of_ble_eq_true rfl⟩ ⟨Nat.zero_le _, Nat.zero_le _⟩ ?_
            refine g_aload_n C dSi_agrees_92 rfl ?_
            have t_93 := rf_ok hT h0 (show sp 6 3 = some 22 from rfl)
            refine x_getr C dSi_agrees_93 fl_Si_21 h0 hT (show sp 6 3 = some 22 from rfl) ?_
            refine g_iload C dSi_agrees_96 rfl ?_
            obtain ⟨g_98, h⟩ := x_g h
            refine x_iald (m := 24) C dSi_agrees_98 t_93 (by decide) rfl rfl g_98 ?_
            refine gt_icmp_le 104 C dSi_agrees_99 (by decide) rfl rfl (fun c_99 => ?_) (fun c_99 => ?_)
            · have h := x_pos c_99 h
              refine x_iinc C dSi_agrees_104 rfl (by decide) h (fun v5_104 h => ?_)
              refine g_goto 3 C dSi_agrees_107 (by decide) ?_
              exact g_sub (hr_3 (v5_104) h) ⟨rfl, rfl, rfl, rfl, rfl, rfl, trivial⟩
            · have h := x_neg (Int.not_le.mpr c_99) h
              refine g_iconst (v := Int32.ofInt (0)) C dSi_agrees_102 (by decide) ?_
              exact x_zret0 C E dSi_agrees_103 (by decide) ⟨Nat.zero_le _, Nat.zero_le _⟩ h
          refine gt_if_eq 58 C dSi_agrees_39 (by decide) rfl (fun c_39 => ?_) (fun c_39 => ?_)
          · have h := x_pos c_39 h
            refine g_aload_n C dSi_agrees_58 rfl ?_
            have t_59 := rf_ok hT h0 (show sp 6 0 = some 22 from rfl)
            refine x_getr C dSi_agrees_59 fl_Si_11 h0 hT (show sp 6 0 = some 22 from rfl) ?_
            refine g_iload C dSi_agrees_62 rfl ?_
            obtain ⟨g_64, h⟩ := x_g h
            refine x_iald (m := 24) C dSi_agrees_64 t_59 (by decide) rfl rfl g_64 ?_
            exact g_sub (hk_65 ((I0 (rf O a0 0) (x5_3).toInt.toNat)) h) ⟨rfl, rfl, rfl, rfl, rfl, rfl, rfl, trivial⟩
          · have h := x_neg c_39 h
            refine g_aload_n C dSi_agrees_42 rfl ?_
            have t_43 := rf_ok hT h0 (show sp 6 0 = some 22 from rfl)
            refine x_getr C dSi_agrees_43 fl_Si_11 h0 hT (show sp 6 0 = some 22 from rfl) ?_
            refine g_iload C dSi_agrees_46 rfl ?_
            obtain ⟨g_48, h⟩ := x_g h
            refine x_iald (m := 24) C dSi_agrees_48 t_43 (by decide) rfl rfl g_48 ?_
            refine g_iload_n C dSi_agrees_49 rfl ?_
            refine g_iload C dSi_agrees_50 rfl ?_
            obtain ⟨z_52, e_52, h⟩ := bd1_some h
            refine x_callSi (av := fun ad => [.int (I0 (rf O a0 0) (x5_3).toInt.toNat), .int x3, .int x4]) C dSi_agrees_52 mfSi_exchanged msSi_exchanged ln_Si_44 (f_Si_exchanged hT  e_52) rfl rfl (Nat.le_of_ble_eq_true rfl) ⟨Nat.le_of_ble_eq_true rfl, Nat.le_of_ble_eq_true rfl⟩ ⟨rfl, rfl⟩ ⟨Nat.zero_le _, Nat.zero_le _⟩ ?_
            refine g_goto 65 C dSi_agrees_55 (by decide) ?_
            exact g_sub (hk_65 (z_52) h) ⟨rfl, rfl, rfl, rfl, rfl, rfl, rfl, trivial⟩
        refine gt_icmp_lt 34 C dSi_agrees_27 (by decide) rfl (ofI (by decide)) (fun c_27 => ?_) (fun c_27 => ?_)
        · have h := x_pos c_27 h
          refine g_iconst (v := Int32.ofInt (0)) C dSi_agrees_34 (by decide) ?_
          exact g_sub (hk_35 ((Int32.ofInt (0))) h) ⟨rfl, rfl, rfl, rfl, rfl, rfl, trivial⟩
        · have h := x_neg (Int.not_lt.mpr c_27) h
          refine g_iconst (v := Int32.ofInt (1)) C dSi_agrees_30 (by decide) ?_
          refine g_goto 35 C dSi_agrees_31 (by decide) ?_
          exact g_sub (hk_35 ((Int32.ofInt (1))) h) ⟨rfl, rfl, rfl, rfl, rfl, rfl, trivial⟩
  exact g_sub (lp_3 ((Int32.ofInt (0))) h) ⟨rfl, rfl, rfl, rfl, rfl, rfl, trivial⟩
def B_Si_findFits_14 (N : Nat) (O : WO) (a0 : Nat) (a1 : Nat) (J0 : WJ) (rec_14 : Int32 → WI → Option (Int32 × WI)) (x2_14 : Int32) (I_14 : WI) : Option (Int32 × WI) := jn (fun (y2_66 : Int32) (IJ_66 : WI) => lb (up2 IJ_66 a0 7 (Int32.ofInt (1))) fun I2 => some ((I2 a0 6), I2)) fun k_66 => if 100 ≤ (x2_14).toInt then (k_66 (x2_14) I_14) else (if 100 ≤ ((I_14 a0 6)).toInt then (k_66 (x2_14) I_14) else (bd1 (F_Si_agrees N O I_14 J0 a0 a1 x2_14 (Int32.ofInt (0)) (Int32.ofInt (0))) fun z_34 => jn (fun (IJ_60 : WI) => lb (x2_14 + Int32.ofInt (1)) fun v2_60 => rec_14 (v2_60) IJ_60) fun k_60 => if (z_34).toInt = 0 then (k_60  I_14) else (if 0 ≤ ((I_14 a0 6)).toInt ∧ ((I_14 a0 6)).toInt < 100 then (lb (up2 I_14 (rf O a0 5) ((I_14 a0 6)).toInt.toNat x2_14) fun I4 => lb (up2 I4 a0 6 ((I4 a0 6) + (Int32.ofInt (1)))) fun I5 => k_60  I5) else none)))
def F_Si_findFits (N : Nat) (O : WO) (I0 : WI) (J0 : WJ) (a0 : Nat) (a1 : Nat) : Option (Int32 × WI) := if ((I0 a0 7)).toInt = 0 then (lb (up2 I0 a0 6 (Int32.ofInt (0))) fun I1 => lp (B_Si_findFits_14 N O a0 a1 J0) (fun _ _ => none) N ((Int32.ofInt (0))) I1) else (some ((I0 a0 6), I0))
set_option maxHeartbeats 4000000 in
set_option maxRecDepth 100000 in
theorem f_Si_findFits {P : List Nat} {K : Nat → Nat} {N : Nat} {O : WO} {I0 : WI} {J0 : WJ} (hT : TR P K O) {a0 : Nat} (h0 : a0 ∈ P ∧ K a0 = 6) {a1 : Nat} (h1 : a1 ∈ P ∧ K a1 = 1) {r : Int32} {I' : WI} (h : F_Si_findFits N O I0 J0 a0 a1 = some (r, I')) : Con ySi_findFits bSi_findFits 3 (some .int) ({ frames := 3, cells := 0, slots := 0, locals := 70 } : Room) P K I0 O J0 [.ref a0, .ref a1] (EPo (some (.int r)) I' J0 P K O) := by
  refine Con.ofG mfSi_findFits (Nat.le_of_ble_eq_true rfl) ?_
  intro X C E
  unfold F_Si_findFits at h
  refine g_aload_n C dSi_findFits_0 rfl ?_
  refine g_geti C dSi_findFits_1 fl_Si_31 h0 ?_
  refine gt_if_ne 71 C dSi_findFits_4 (by decide) rfl (fun c_4 => ?_) (fun c_4 => ?_)
  · have h := x_neg c_4 h
    refine g_aload_n C dSi_findFits_71 rfl ?_
    refine g_geti C dSi_findFits_72 fl_Si_35 h0 ?_
    exact x_iret1 C E dSi_findFits_75 ⟨Nat.zero_le _, Nat.zero_le _⟩ h
  · have h := x_pos c_4 h
    refine g_aload_n C dSi_findFits_7 rfl ?_
    refine g_iconst (v := Int32.ofInt (0)) C dSi_findFits_8 (by decide) ?_
    refine x_puti C dSi_findFits_9 fl_Si_35 h0 rfl (Or.inl rfl) h (fun I1 h => ?_)
    refine g_iconst (v := Int32.ofInt (0)) C dSi_findFits_12 (by decide) ?_
    refine g_istore_n (i := 2) C dSi_findFits_13 rfl (by decide) ?_
    have lp_14 : ∀ (x2_14 : Int32) (I_14 : WI), lp (B_Si_findFits_14 N O a0 a1 J0) (fun _ _ => none) N x2_14 I_14 = some (r, I') → GG X 3 P K I_14 O J0 0 0 14 [(0, .ref a0), (1, .ref a1), (2, .int x2_14)] [] := by
      refine x_lp (fun (rec_14 : Int32 → WI → Option (Int32 × WI)) => ∀ (x2_14 : Int32) (I_14 : WI), rec_14 x2_14 I_14 = some (r, I') → GG X 3 P K I_14 O J0 0 0 14 [(0, .ref a0), (1, .ref a1), (2, .int x2_14)] []) (fun _ _ h => by cases h) (fun rec_14 hr_14 x2_14 I_14 h => ?_) N
      unfold B_Si_findFits_14 at h
      refine g_iload_n C dSi_findFits_14 rfl ?_
      refine g_bipush (v := Int32.ofInt (100)) C dSi_findFits_15 (by decide) ?_
      refine x_jn h (fun (k_66 : Int32 → WI → Option (Int32 × WI)) => ∀ (y2_66 : Int32) (IJ_66 : WI), k_66 y2_66 IJ_66 = some (r, I') → GG X 3 P K IJ_66 O J0 0 0 66 [(0, .ref a0), (1, .ref a1), (2, .int y2_66)] []) (fun y2_66 IJ_66 h => ?_) (fun k_66 hk_66 h => ?_)
      · skip
        refine g_aload_n C dSi_findFits_66 rfl ?_
        refine g_iconst (v := Int32.ofInt (1)) C dSi_findFits_67 (by decide) ?_
        refine x_puti C dSi_findFits_68 fl_Si_31 h0 rfl (Or.inr ⟨rfl, by decide⟩) h (fun I2 h => ?_)
        refine g_aload_n C dSi_findFits_71 rfl ?_
        refine g_geti C dSi_findFits_72 fl_Si_35 h0 ?_
        exact x_iret1 C E dSi_findFits_75 ⟨Nat.zero_le _, Nat.zero_le _⟩ h
      refine gt_icmp_ge 66 C dSi_findFits_17 (by decide) rfl (ofI (by decide)) (fun c_17 => ?_) (fun c_17 => ?_)
      · have h := x_pos c_17 h
        exact g_sub (hk_66 (x2_14) I_14 h) ⟨rfl, rfl, rfl, trivial⟩
      · have h := x_neg (Int.not_le.mpr c_17) h
        refine g_aload_n C dSi_findFits_20 rfl ?_
        refine g_geti C dSi_findFits_21 fl_Si_35 h0 ?_
        refine g_bipush (v := Int32.ofInt (100)) C dSi_findFits_24 (by decide) ?_
        refine gt_icmp_ge 66 C dSi_findFits_26 (by decide) rfl (ofI (by decide)) (fun c_26 => ?_) (fun c_26 => ?_)
        · have h := x_pos c_26 h
          exact g_sub (hk_66 (x2_14) I_14 h) ⟨rfl, rfl, rfl, trivial⟩
        · have h := x_neg (Int.not_le.mpr c_26) h
          refine g_aload_n C dSi_findFits_29 rfl ?_
          refine g_aload_n C dSi_findFits_30 rfl ?_
          refine g_iload_n C dSi_findFits_31 rfl ?_
          refine g_iconst (v := Int32.ofInt (0)) C dSi_findFits_32 (by decide) ?_
          refine g_iconst (v := Int32.ofInt (0)) C dSi_findFits_33 (by decide) ?_
          obtain ⟨z_34, e_34, h⟩ := bd1_some h
          refine x_callVi (av := fun ad => [.ref a1, .int x2_14, .int (Int32.ofInt (0)), .int (Int32.ofInt (0))]) C dSi_findFits_34 mfSi_agrees mvSi_agrees ln_Si_38 h0 (by decide) rfl (f_Si_agrees hT h0 h1 e_34) rfl rfl (Nat.le_of_ble_eq_true rfl) ⟨Nat.le_of_ble_eq_true rfl, Nat.le_of_ble_eq_true rfl⟩ ⟨rfl, rfl⟩ ⟨Nat.zero_le _, Nat.zero_le _⟩ ?_
          refine x_jn h (fun (k_60 : WI → Option (Int32 × WI)) => ∀ (IJ_60 : WI), k_60 IJ_60 = some (r, I') → GG X 3 P K IJ_60 O J0 0 0 60 [(0, .ref a0), (1, .ref a1), (2, .int x2_14)] []) (fun IJ_60 h => ?_) (fun k_60 hk_60 h => ?_)
          · skip
            refine x_iinc C dSi_findFits_60 rfl (by decide) h (fun v2_60 h => ?_)
            refine g_goto 14 C dSi_findFits_63 (by decide) ?_
            exact g_sub (hr_14 (v2_60) IJ_60 h) ⟨rfl, rfl, rfl, trivial⟩
          refine gt_if_eq 60 C dSi_findFits_37 (by decide) rfl (fun c_37 => ?_) (fun c_37 => ?_)
          · have h := x_pos c_37 h
            exact g_sub (hk_60  I_14 h) ⟨rfl, rfl, rfl, trivial⟩
          · have h := x_neg c_37 h
            refine g_aload_n C dSi_findFits_40 rfl ?_
            have t_41 := rf_ok hT h0 (show sp 6 5 = some 23 from rfl)
            refine x_getr C dSi_findFits_41 fl_Si_24 h0 hT (show sp 6 5 = some 23 from rfl) ?_
            refine g_aload_n C dSi_findFits_44 rfl ?_
            refine g_geti C dSi_findFits_45 fl_Si_35 h0 ?_
            refine g_iload_n C dSi_findFits_48 rfl ?_
            obtain ⟨g_49, h⟩ := x_g h
            refine x_iast (m := 100) C dSi_findFits_49 t_41 (by decide) rfl rfl g_49 h (fun I4 h => ?_)
            refine g_aload_n C dSi_findFits_50 rfl ?_
            refine g_dup C dSi_findFits_51 rfl ?_
            refine g_geti C dSi_findFits_52 fl_Si_35 h0 ?_
            refine g_iconst (v := Int32.ofInt (1)) C dSi_findFits_55 (by decide) ?_
            refine g_iadd C dSi_findFits_56 ?_
            refine x_puti C dSi_findFits_57 fl_Si_35 h0 rfl (Or.inl rfl) h (fun I5 h => ?_)
            exact g_sub (hk_60  I5 h) ⟨rfl, rfl, rfl, trivial⟩
    exact g_sub (lp_14 ((Int32.ofInt (0))) I1 h) ⟨rfl, rfl, rfl, trivial⟩
def F_Si_fitOf (N : Nat) (O : WO) (I0 : WI) (J0 : WJ) (a0 : Nat) (x1 : Int32) : Option (Int32) := if (x1).toInt < 0 then (some (Int32.ofInt (0))) else (if ((I0 a0 6)).toInt ≤ (x1).toInt then (some (Int32.ofInt (0))) else (if 100 ≤ (x1).toInt then (some (Int32.ofInt (0))) else (if 0 ≤ (x1).toInt ∧ (x1).toInt < 100 then (some (I0 (rf O a0 5) (x1).toInt.toNat)) else none)))
set_option maxHeartbeats 4000000 in
set_option maxRecDepth 100000 in
theorem f_Si_fitOf {P : List Nat} {K : Nat → Nat} {N : Nat} {O : WO} {I0 : WI} {J0 : WJ} (hT : TR P K O) {a0 : Nat} (h0 : a0 ∈ P ∧ K a0 = 6) {x1 : Int32} {r : Int32} (h : F_Si_fitOf N O I0 J0 a0 x1 = some r) : Con ySi_fitOf bSi_fitOf 2 (some .int) ({ frames := 0, cells := 0, slots := 0, locals := 0 } : Room) P K I0 O J0 [.ref a0, .int x1] (EPo (some (.int r)) I0 J0 P K O) := by
  refine Con.ofG mfSi_fitOf (Nat.le_of_ble_eq_true rfl) ?_
  intro X C E
  unfold F_Si_fitOf at h
  refine g_iload_n C dSi_fitOf_0 rfl ?_
  refine gt_if_lt 27 C dSi_fitOf_1 (by decide) rfl (fun c_1 => ?_) (fun c_1 => ?_)
  · have h := x_pos c_1 h
    refine g_iconst (v := Int32.ofInt (0)) C dSi_fitOf_27 (by decide) ?_
    exact x_iret0 C E dSi_fitOf_28 ⟨Nat.zero_le _, Nat.zero_le _⟩ h
  · have h := x_neg (Int.not_lt.mpr c_1) h
    refine g_iload_n C dSi_fitOf_4 rfl ?_
    refine g_aload_n C dSi_fitOf_5 rfl ?_
    refine g_geti C dSi_fitOf_6 fl_Si_35 h0 ?_
    refine gt_icmp_ge 27 C dSi_fitOf_9 (by decide) rfl rfl (fun c_9 => ?_) (fun c_9 => ?_)
    · have h := x_pos c_9 h
      refine g_iconst (v := Int32.ofInt (0)) C dSi_fitOf_27 (by decide) ?_
      exact x_iret0 C E dSi_fitOf_28 ⟨Nat.zero_le _, Nat.zero_le _⟩ h
    · have h := x_neg (Int.not_le.mpr c_9) h
      refine g_iload_n C dSi_fitOf_12 rfl ?_
      refine g_bipush (v := Int32.ofInt (100)) C dSi_fitOf_13 (by decide) ?_
      refine gt_icmp_ge 27 C dSi_fitOf_15 (by decide) rfl (ofI (by decide)) (fun c_15 => ?_) (fun c_15 => ?_)
      · have h := x_pos c_15 h
        refine g_iconst (v := Int32.ofInt (0)) C dSi_fitOf_27 (by decide) ?_
        exact x_iret0 C E dSi_fitOf_28 ⟨Nat.zero_le _, Nat.zero_le _⟩ h
      · have h := x_neg (Int.not_le.mpr c_15) h
        refine g_aload_n C dSi_fitOf_18 rfl ?_
        have t_19 := rf_ok hT h0 (show sp 6 5 = some 23 from rfl)
        refine x_getr C dSi_fitOf_19 fl_Si_24 h0 hT (show sp 6 5 = some 23 from rfl) ?_
        refine g_iload_n C dSi_fitOf_22 rfl ?_
        obtain ⟨g_23, h⟩ := x_g h
        refine x_iald (m := 100) C dSi_fitOf_23 t_19 (by decide) rfl rfl g_23 ?_
        refine g_goto 28 C dSi_fitOf_24 (by decide) ?_
        exact x_iret0 C E dSi_fitOf_28 ⟨Nat.zero_le _, Nat.zero_le _⟩ h
def B_Si_anyAgrees_3 (N : Nat) (O : WO) (a0 : Nat) (a1 : Nat) (x2 : Int32) (x3 : Int32) (I0 : WI) (J0 : WJ) (rec_3 : Int32 → Option (Int32)) (x4_3 : Int32) : Option (Int32) := if 100 ≤ (x4_3).toInt then (some (Int32.ofInt (0))) else (bd1 (F_Si_agrees N O I0 J0 a0 a1 x4_3 x2 x3) fun z_16 => if (z_16).toInt = 0 then (lb (x4_3 + Int32.ofInt (1)) fun v4_24 => rec_3 (v4_24)) else (some (Int32.ofInt (1))))
def F_Si_anyAgrees (N : Nat) (O : WO) (I0 : WI) (J0 : WJ) (a0 : Nat) (a1 : Nat) (x2 : Int32) (x3 : Int32) : Option (Int32) := lp (B_Si_anyAgrees_3 N O a0 a1 x2 x3 I0 J0) (fun _ => none) N ((Int32.ofInt (0)))
set_option maxHeartbeats 4000000 in
set_option maxRecDepth 100000 in
theorem f_Si_anyAgrees {P : List Nat} {K : Nat → Nat} {N : Nat} {O : WO} {I0 : WI} {J0 : WJ} (hT : TR P K O) {a0 : Nat} (h0 : a0 ∈ P ∧ K a0 = 6) {a1 : Nat} (h1 : a1 ∈ P ∧ K a1 = 1) {x2 : Int32} {x3 : Int32} {r : Int32} (h : F_Si_anyAgrees N O I0 J0 a0 a1 x2 x3 = some r) : Con ySi_anyAgrees bSi_anyAgrees 5 (some .boolean) ({ frames := 3, cells := 0, slots := 0, locals := 70 } : Room) P K I0 O J0 [.ref a0, .ref a1, .int x2, .int x3] (EPo (some (.int r)) I0 J0 P K O) := by
  refine Con.ofG mfSi_anyAgrees (Nat.le_of_ble_eq_true rfl) ?_
  intro X C E
  unfold F_Si_anyAgrees at h
  refine g_iconst (v := Int32.ofInt (0)) C dSi_anyAgrees_0 (by decide) ?_
  refine g_istore C dSi_anyAgrees_1 (by decide) ?_
  have lp_3 : ∀ (x4_3 : Int32), lp (B_Si_anyAgrees_3 N O a0 a1 x2 x3 I0 J0) (fun _ => none) N x4_3 = some r → GG X 5 P K I0 O J0 0 0 3 [(0, .ref a0), (1, .ref a1), (2, .int x2), (3, .int x3), (4, .int x4_3)] [] := by
    refine x_lp (fun (rec_3 : Int32 → Option (Int32)) => ∀ (x4_3 : Int32), rec_3 x4_3 = some r → GG X 5 P K I0 O J0 0 0 3 [(0, .ref a0), (1, .ref a1), (2, .int x2), (3, .int x3), (4, .int x4_3)] []) (fun _ h => by cases h) (fun rec_3 hr_3 x4_3 h => ?_) N
    unfold B_Si_anyAgrees_3 at h
    refine g_iload C dSi_anyAgrees_3 rfl ?_
    refine g_bipush (v := Int32.ofInt (100)) C dSi_anyAgrees_5 (by decide) ?_
    refine gt_icmp_ge 30 C dSi_anyAgrees_7 (by decide) rfl (ofI (by decide)) (fun c_7 => ?_) (fun c_7 => ?_)
    · have h := x_pos c_7 h
      refine g_iconst (v := Int32.ofInt (0)) C dSi_anyAgrees_30 (by decide) ?_
      exact x_zret0 C E dSi_anyAgrees_31 (by decide) ⟨Nat.zero_le _, Nat.zero_le _⟩ h
    · have h := x_neg (Int.not_le.mpr c_7) h
      refine g_aload_n C dSi_anyAgrees_10 rfl ?_
      refine g_aload_n C dSi_anyAgrees_11 rfl ?_
      refine g_iload C dSi_anyAgrees_12 rfl ?_
      refine g_iload_n C dSi_anyAgrees_14 rfl ?_
      refine g_iload_n C dSi_anyAgrees_15 rfl ?_
      obtain ⟨z_16, e_16, h⟩ := bd1_some h
      refine x_callVi (av := fun ad => [.ref a1, .int x4_3, .int x2, .int x3]) C dSi_anyAgrees_16 mfSi_agrees mvSi_agrees ln_Si_38 h0 (by decide) rfl (f_Si_agrees hT h0 h1 e_16) rfl rfl (Nat.le_of_ble_eq_true rfl) ⟨Nat.le_of_ble_eq_true rfl, Nat.le_of_ble_eq_true rfl⟩ ⟨rfl, rfl⟩ ⟨Nat.zero_le _, Nat.zero_le _⟩ ?_
      refine gt_if_eq 24 C dSi_anyAgrees_19 (by decide) rfl (fun c_19 => ?_) (fun c_19 => ?_)
      · have h := x_pos c_19 h
        refine x_iinc C dSi_anyAgrees_24 rfl (by decide) h (fun v4_24 h => ?_)
        refine g_goto 3 C dSi_anyAgrees_27 (by decide) ?_
        exact g_sub (hr_3 (v4_24) h) ⟨rfl, rfl, rfl, rfl, rfl, trivial⟩
      · have h := x_neg c_19 h
        refine g_iconst (v := Int32.ofInt (1)) C dSi_anyAgrees_22 (by decide) ?_
        exact x_zret0 C E dSi_anyAgrees_23 (by decide) ⟨Nat.zero_le _, Nat.zero_le _⟩ h
  exact g_sub (lp_3 ((Int32.ofInt (0))) h) ⟨rfl, rfl, rfl, rfl, rfl, trivial⟩
def F_Pl_drop (N : Nat) (O : WO) (I0 : WI) (J0 : WJ) (a0 : Nat) : Option (WI) := lb (up2 I0 a0 7 (Int32.ofInt (0))) fun I1 => some I1
set_option maxHeartbeats 4000000 in
set_option maxRecDepth 100000 in
theorem f_Pl_drop {P : List Nat} {K : Nat → Nat} {N : Nat} {O : WO} {I0 : WI} {J0 : WJ} (hT : TR P K O) {a0 : Nat} (h0 : a0 ∈ P ∧ K a0 = 4) {I' : WI} (h : F_Pl_drop N O I0 J0 a0 = some I') : Con yPl_drop bPl_drop 1 none ({ frames := 0, cells := 0, slots := 0, locals := 0 } : Room) P K I0 O J0 [.ref a0] (EPo none I' J0 P K O) := by
  refine Con.ofG mfPl_drop (Nat.le_of_ble_eq_true rfl) ?_
  intro X C E
  unfold F_Pl_drop at h
  refine g_aload_n C dPl_drop_0 rfl ?_
  refine g_iconst (v := Int32.ofInt (0)) C dPl_drop_1 (by decide) ?_
  refine x_puti C dPl_drop_2 fl_Pl_38 h0 rfl (Or.inl rfl) h (fun I1 h => ?_)
  exact x_vret1 C E dPl_drop_5 ⟨Nat.zero_le _, Nat.zero_le _⟩ h
def F_Pl_keptRate (N : Nat) (O : WO) (I0 : WI) (J0 : WJ) (a0 : Nat) (x1 : Int32) : Option (Int32) := if (x1).toInt < 0 then (some (Int32.ofInt (-1))) else (if ((I0 a0 7)).toInt ≤ (x1).toInt then (some (Int32.ofInt (-1))) else (if 5 ≤ (x1).toInt then (some (Int32.ofInt (-1))) else (if 0 ≤ (x1).toInt ∧ (x1).toInt < 5 then (some (I0 (rf O a0 6) (x1).toInt.toNat)) else none)))
set_option maxHeartbeats 4000000 in
set_option maxRecDepth 100000 in
theorem f_Pl_keptRate {P : List Nat} {K : Nat → Nat} {N : Nat} {O : WO} {I0 : WI} {J0 : WJ} (hT : TR P K O) {a0 : Nat} (h0 : a0 ∈ P ∧ K a0 = 4) {x1 : Int32} {r : Int32} (h : F_Pl_keptRate N O I0 J0 a0 x1 = some r) : Con yPl_keptRate bPl_keptRate 2 (some .int) ({ frames := 0, cells := 0, slots := 0, locals := 0 } : Room) P K I0 O J0 [.ref a0, .int x1] (EPo (some (.int r)) I0 J0 P K O) := by
  refine Con.ofG mfPl_keptRate (Nat.le_of_ble_eq_true rfl) ?_
  intro X C E
  unfold F_Pl_keptRate at h
  refine g_iload_n C dPl_keptRate_0 rfl ?_
  refine gt_if_lt 26 C dPl_keptRate_1 (by decide) rfl (fun c_1 => ?_) (fun c_1 => ?_)
  · have h := x_pos c_1 h
    refine g_iconst (v := Int32.ofInt (-1)) C dPl_keptRate_26 (by decide) ?_
    exact x_iret0 C E dPl_keptRate_27 ⟨Nat.zero_le _, Nat.zero_le _⟩ h
  · have h := x_neg (Int.not_lt.mpr c_1) h
    refine g_iload_n C dPl_keptRate_4 rfl ?_
    refine g_aload_n C dPl_keptRate_5 rfl ?_
    refine g_geti C dPl_keptRate_6 fl_Pl_38 h0 ?_
    refine gt_icmp_ge 26 C dPl_keptRate_9 (by decide) rfl rfl (fun c_9 => ?_) (fun c_9 => ?_)
    · have h := x_pos c_9 h
      refine g_iconst (v := Int32.ofInt (-1)) C dPl_keptRate_26 (by decide) ?_
      exact x_iret0 C E dPl_keptRate_27 ⟨Nat.zero_le _, Nat.zero_le _⟩ h
    · have h := x_neg (Int.not_le.mpr c_9) h
      refine g_iload_n C dPl_keptRate_12 rfl ?_
      refine g_iconst (v := Int32.ofInt (5)) C dPl_keptRate_13 (by decide) ?_
      refine gt_icmp_ge 26 C dPl_keptRate_14 (by decide) rfl (ofI (by decide)) (fun c_14 => ?_) (fun c_14 => ?_)
      · have h := x_pos c_14 h
        refine g_iconst (v := Int32.ofInt (-1)) C dPl_keptRate_26 (by decide) ?_
        exact x_iret0 C E dPl_keptRate_27 ⟨Nat.zero_le _, Nat.zero_le _⟩ h
      · have h := x_neg (Int.not_le.mpr c_14) h
        refine g_aload_n C dPl_keptRate_17 rfl ?_
        have t_18 := rf_ok hT h0 (show sp 4 6 = some 11 from rfl)
        refine x_getr C dPl_keptRate_18 fl_Pl_27 h0 hT (show sp 4 6 = some 11 from rfl) ?_
        refine g_iload_n C dPl_keptRate_21 rfl ?_
        obtain ⟨g_22, h⟩ := x_g h
        refine x_iald (m := 5) C dPl_keptRate_22 t_18 (by decide) rfl rfl g_22 ?_
        refine g_goto 27 C dPl_keptRate_23 (by decide) ?_
        exact x_iret0 C E dPl_keptRate_27 ⟨Nat.zero_le _, Nat.zero_le _⟩ h
def F_Pl_keepBest (N : Nat) (O : WO) (I0 : WI) (J0 : WJ) (a0 : Nat) (x1 : Int32) : Option (WI) := bd1 (F_RM_copyRow N O I0 J0 (rf O a0 2) 11 (rf O a0 3) 11) fun I1 => lb (up2 I1 a0 4 x1) fun I2 => lb (up2 I2 a0 5 (Int32.ofInt (1))) fun I3 => some I3
set_option maxHeartbeats 4000000 in
set_option maxRecDepth 100000 in
theorem f_Pl_keepBest {P : List Nat} {K : Nat → Nat} {N : Nat} {O : WO} {I0 : WI} {J0 : WJ} (hT : TR P K O) {a0 : Nat} (h0 : a0 ∈ P ∧ K a0 = 4) {x1 : Int32} {I' : WI} (h : F_Pl_keepBest N O I0 J0 a0 x1 = some I') : Con yPl_keepBest bPl_keepBest 2 none ({ frames := 1, cells := 0, slots := 0, locals := 22 } : Room) P K I0 O J0 [.ref a0, .int x1] (EPo none I' J0 P K O) := by
  refine Con.ofG mfPl_keepBest (Nat.le_of_ble_eq_true rfl) ?_
  intro X C E
  unfold F_Pl_keepBest at h
  refine g_aload_n C dPl_keepBest_0 rfl ?_
  have t_1 := rf_ok hT h0 (show sp 4 2 = some 11 from rfl)
  refine x_getr C dPl_keepBest_1 fl_Pl_21 h0 hT (show sp 4 2 = some 11 from rfl) ?_
  refine g_aload_n C dPl_keepBest_4 rfl ?_
  have t_5 := rf_ok hT h0 (show sp 4 3 = some 11 from rfl)
  refine x_getr C dPl_keepBest_5 fl_Pl_24 h0 hT (show sp 4 3 = some 11 from rfl) ?_
  obtain ⟨I1, e_8, h⟩ := bd1_some h
  refine x_callSv (av := fun ad => [.ref (rf O a0 2), .ref (rf O a0 3)]) C dPl_keepBest_8 mfRM_copyRow msRM_copyRow ln_Pl_46 (f_RM_copyRow hT t_1 ⟨by decide, rfl⟩ t_5 ⟨by decide, rfl⟩ e_8) rfl rfl (Nat.le_of_ble_eq_true rfl) ⟨Nat.le_of_ble_eq_true rfl, Nat.le_of_ble_eq_true rfl⟩ ⟨rfl, rfl⟩ ⟨Nat.zero_le _, Nat.zero_le _⟩ ?_
  refine g_aload_n C dPl_keepBest_11 rfl ?_
  refine g_iload_n C dPl_keepBest_12 rfl ?_
  refine x_puti C dPl_keepBest_13 fl_Pl_58 h0 rfl (Or.inl rfl) h (fun I2 h => ?_)
  refine g_aload_n C dPl_keepBest_16 rfl ?_
  refine g_iconst (v := Int32.ofInt (1)) C dPl_keepBest_17 (by decide) ?_
  refine x_puti C dPl_keepBest_18 fl_Pl_50 h0 rfl (Or.inr ⟨rfl, by decide⟩) h (fun I3 h => ?_)
  exact x_vret1 C E dPl_keepBest_21 ⟨Nat.zero_le _, Nat.zero_le _⟩ h
def B_Pl_search_57 (N : Nat) (O : WO) (a0 : Nat) (a1 : Nat) (x2 : Int32) (x3 : Int32) (J0 : WJ) (rec_self : Nat → Nat → Int32 → Int32 → WI → Option (WI)) (rec_57 : Int32 → WI → Option (WI)) (x6_57 : Int32) (I_57 : WI) : Option (WI) := if 3 < (x6_57).toInt then (some I_57) else (lb (up2 I_57 (rf O a0 1) 0 x6_57) fun I2 => bd1 (F_Dr_copyFrom N O I2 J0 (rf O (rf O a0 0) ((x2 + (Int32.ofInt (1)))).toInt.toNat) (rf O (rf O a0 0) (x2).toInt.toNat)) fun I3 => bd1 (F_Dr_runHour N O I3 J0 (rf O (rf O a0 0) ((x2 + (Int32.ofInt (1)))).toInt.toNat) a1 (rf O a0 1) 18 (Int32.ofInt (0))) fun I4 => bd1 (F_Dr_wentWell N O I4 J0 (rf O (rf O a0 0) ((x2 + (Int32.ofInt (1)))).toInt.toNat)) fun z_96 => jn (fun (IJ_138 : WI) => lb (x6_57 + Int32.ofInt (1)) fun v6_138 => rec_57 (v6_138) IJ_138) fun k_138 => if (z_96).toInt = 0 then (k_138  I4) else (jn (if 0 ≤ (x2).toInt ∧ (x2).toInt < 5 then (lb (up2 I4 (rf O a0 2) (x2).toInt.toNat x6_57) fun I6 => bd1 (rec_self a0 a1 (x2 + (Int32.ofInt (1))) x3 I6) fun I7 => k_138  I7) else none) fun k_121 => if ((I4 a0 5)).toInt = 0 then (k_121 ) else (if ((I4 a0 4)).toInt ≤ ((I4 (rf O (rf O a0 0) ((x2 + (Int32.ofInt (1)))).toInt.toNat) 15)).toInt then (k_138  I4) else (k_121 ))))
def B_Pl_search_self (N : Nat) (O : WO) (J0 : WJ) (rec_self : Nat → Nat → Int32 → Int32 → WI → Option (WI)) (a0 : Nat) (a1 : Nat) (x2 : Int32) (x3 : Int32) (I0 : WI) : Option (WI) := if (x2).toInt < 0 then (some I0) else (if (x2).toInt ≤ 5 then (if 0 ≤ (x2).toInt ∧ (x2).toInt < 6 then (jn (bd1 (F_Pl_keepBest N O I0 J0 a0 (I0 (rf O (rf O a0 0) (x2).toInt.toNat) 15)) fun I1 => some I1) fun k_34 => if (x3).toInt ≤ (x2).toInt then (k_34 ) else (if (x2).toInt < 5 then (if 0 ≤ ((x2 + (Int32.ofInt (1)))).toInt ∧ ((x2 + (Int32.ofInt (1)))).toInt < 6 then (lp (B_Pl_search_57 N O a0 a1 x2 x3 J0 rec_self) (fun _ _ => none) N ((Int32.ofInt (0))) I0) else none) else (k_34 ))) else none) else (some I0))
def F_Pl_search (N : Nat) (O : WO) (I0 : WI) (J0 : WJ) (a0 : Nat) (a1 : Nat) (x2 : Int32) (x3 : Int32) : Option (WI) := lp (B_Pl_search_self N O J0) (fun _ _ _ _ _ => none) 7 a0 a1 x2 x3 I0
set_option maxHeartbeats 4000000 in
set_option maxRecDepth 100000 in
theorem fr_Pl_search {P : List Nat} {K : Nat → Nat} {N : Nat} {O : WO} {J0 : WJ} (hT : TR P K O) (n : Nat) : ∀ {I0 : WI} {a0 : Nat} (h0 : a0 ∈ P ∧ K a0 = 4) {a1 : Nat} (h1 : a1 ∈ P ∧ K a1 = 3) {x2 : Int32} {x3 : Int32} {I' : WI} (_ : lp (B_Pl_search_self N O J0) (fun _ _ _ _ _ => none) n a0 a1 x2 x3 I0 = some I'), Con yPl_search bPl_search 7 none ({ frames := 4 + n, cells := 0, slots := 0, locals := 87 + 26 * n } : Room) P K I0 O J0 [.ref a0, .ref a1, .int x2, .int x3] (EPo none I' J0 P K O) := by
  induction n with
  | zero => intros; rename_i h; cases h
  | succ n ih =>
    intro I0 a0 h0 a1 h1 x2 x3 I' h
    refine Con.ofG mfPl_search (Nat.le_of_ble_eq_true rfl) ?_
    intro X C E
    replace h : B_Pl_search_self N O J0 (lp (B_Pl_search_self N O J0) (fun _ _ _ _ _ => none) n) a0 a1 x2 x3 I0 = some I' := h
    generalize lp (B_Pl_search_self N O J0) (fun _ _ _ _ _ => none) n = rec_self at h ih
    unfold B_Pl_search_self at h
    refine g_iload_n C dPl_search_0 rfl ?_
    refine gt_if_lt 9 C dPl_search_1 (by decide) rfl (fun c_1 => ?_) (fun c_1 => ?_)
    · have h := x_pos c_1 h
      exact x_vret1 C E dPl_search_9 ⟨Nat.zero_le _, Nat.zero_le _⟩ h
    · have h := x_neg (Int.not_lt.mpr c_1) h
      refine g_iload_n C dPl_search_4 rfl ?_
      refine g_iconst (v := Int32.ofInt (5)) C dPl_search_5 (by decide) ?_
      refine gt_icmp_le 10 C dPl_search_6 (by decide) rfl (ofI (by decide)) (fun c_6 => ?_) (fun c_6 => ?_)
      · have h := x_pos c_6 h
        refine g_aload_n C dPl_search_10 rfl ?_
        have t_11 := rf_ok hT h0 (show sp 4 0 = some 24 from rfl)
        refine x_getr C dPl_search_11 fl_Pl_11 h0 hT (show sp 4 0 = some 24 from rfl) ?_
        refine g_iload_n C dPl_search_14 rfl ?_
        obtain ⟨g_15, h⟩ := x_g h
        have t_15 := rfA_ok (i := x2) hT t_11 g_15
        refine x_aald C dPl_search_15 t_11 hT g_15 ?_
        refine g_astore C dPl_search_16 (by decide) ?_
        refine g_aload C dPl_search_18 rfl ?_
        refine g_ifnonnull 24 C dPl_search_20 (by decide) ?_
        refine g_iload_n C dPl_search_24 rfl ?_
        refine g_iload_n C dPl_search_25 rfl ?_
        refine x_jn h (fun (k_34 : Option (WI)) => k_34  = some I' → GG X 7 P K I0 O J0 0 0 34 [(0, .ref a0), (1, .ref a1), (2, .int x2), (3, .int x3), (4, .ref (rf O (rf O a0 0) (x2).toInt.toNat))] []) (fun  h => ?_) (fun k_34 hk_34 h => ?_)
        · skip
          refine g_aload_n C dPl_search_34 rfl ?_
          refine g_aload C dPl_search_35 rfl ?_
          refine g_geti C dPl_search_37 fl_Pl_61 t_15 ?_
          obtain ⟨I1, e_40, h⟩ := bd1_some h
          refine x_callVv (av := fun ad => [.int (I0 (rf O (rf O a0 0) (x2).toInt.toNat) 15)]) C dPl_search_40 mfPl_keepBest mvPl_keepBest ln_Pl_64 h0 (by decide) rfl (f_Pl_keepBest hT h0 e_40) rfl rfl (Nat.le_of_ble_eq_true rfl) ⟨by dsimp only; omega, by dsimp only; omega⟩ ⟨rfl, rfl⟩ ⟨Nat.zero_le _, Nat.zero_le _⟩ ?_
          exact x_vret1 C E dPl_search_43 ⟨Nat.zero_le _, Nat.zero_le _⟩ h
        refine gt_icmp_ge 34 C dPl_search_26 (by decide) rfl rfl (fun c_26 => ?_) (fun c_26 => ?_)
        · have h := x_pos c_26 h
          exact g_sub (hk_34  h) ⟨rfl, rfl, rfl, rfl, rfl, trivial⟩
        · have h := x_neg (Int.not_le.mpr c_26) h
          refine g_iload_n C dPl_search_29 rfl ?_
          refine g_iconst (v := Int32.ofInt (5)) C dPl_search_30 (by decide) ?_
          refine gt_icmp_lt 44 C dPl_search_31 (by decide) rfl (ofI (by decide)) (fun c_31 => ?_) (fun c_31 => ?_)
          · have h := x_pos c_31 h
            refine g_aload_n C dPl_search_44 rfl ?_
            have t_45 := rf_ok hT h0 (show sp 4 0 = some 24 from rfl)
            refine x_getr C dPl_search_45 fl_Pl_11 h0 hT (show sp 4 0 = some 24 from rfl) ?_
            refine g_iload_n C dPl_search_48 rfl ?_
            refine g_iconst (v := Int32.ofInt (1)) C dPl_search_49 (by decide) ?_
            refine g_iadd C dPl_search_50 ?_
            obtain ⟨g_51, h⟩ := x_g h
            have t_51 := rfA_ok (i := (x2 + (Int32.ofInt (1)))) hT t_45 g_51
            refine x_aald C dPl_search_51 t_45 hT g_51 ?_
            refine g_astore C dPl_search_52 (by decide) ?_
            refine g_iconst (v := Int32.ofInt (0)) C dPl_search_54 (by decide) ?_
            refine g_istore C dPl_search_55 (by decide) ?_
            have lp_57 : ∀ (x6_57 : Int32) (I_57 : WI), lp (B_Pl_search_57 N O a0 a1 x2 x3 J0 rec_self) (fun _ _ => none) N x6_57 I_57 = some I' → GG X 7 P K I_57 O J0 0 0 57 [(0, .ref a0), (1, .ref a1), (2, .int x2), (3, .int x3), (4, .ref (rf O (rf O a0 0) (x2).toInt.toNat)), (5, .ref (rf O (rf O a0 0) ((x2 + (Int32.ofInt (1)))).toInt.toNat)), (6, .int x6_57)] [] := by
              refine x_lp (fun (rec_57 : Int32 → WI → Option (WI)) => ∀ (x6_57 : Int32) (I_57 : WI), rec_57 x6_57 I_57 = some I' → GG X 7 P K I_57 O J0 0 0 57 [(0, .ref a0), (1, .ref a1), (2, .int x2), (3, .int x3), (4, .ref (rf O (rf O a0 0) (x2).toInt.toNat)), (5, .ref (rf O (rf O a0 0) ((x2 + (Int32.ofInt (1)))).toInt.toNat)), (6, .int x6_57)] []) (fun _ _ h => by cases h) (fun rec_57 hr_57 x6_57 I_57 h => ?_) N
              unfold B_Pl_search_57 at h
              refine g_iload C dPl_search_57 rfl ?_
              refine g_iconst (v := Int32.ofInt (3)) C dPl_search_59 (by decide) ?_
              refine gt_icmp_gt 144 C dPl_search_60 (by decide) rfl (ofI (by decide)) (fun c_60 => ?_) (fun c_60 => ?_)
              · have h := x_pos c_60 h
                exact x_vret1 C E dPl_search_144 ⟨Nat.zero_le _, Nat.zero_le _⟩ h
              · have h := x_neg (Int.not_lt.mpr c_60) h
                refine g_aload C dPl_search_63 rfl ?_
                refine g_ifnull C dPl_search_65 ?_
                refine g_aload_n C dPl_search_68 rfl ?_
                have t_69 := rf_ok hT h0 (show sp 4 1 = some 18 from rfl)
                refine x_getr C dPl_search_69 fl_Pl_17 h0 hT (show sp 4 1 = some 18 from rfl) ?_
                refine g_iconst (v := Int32.ofInt (0)) C dPl_search_72 (by decide) ?_
                refine g_iload C dPl_search_73 rfl ?_
                refine x_iastc (m := 3) (c := 0) C dPl_search_75 t_69 (by decide) rfl rfl rfl (by decide) h (fun I2 h => ?_)
                refine g_aload C dPl_search_76 rfl ?_
                refine g_aload C dPl_search_78 rfl ?_
                obtain ⟨I3, e_80, h⟩ := bd1_some h
                refine x_callVv (av := fun ad => [.ref (rf O (rf O a0 0) (x2).toInt.toNat)]) C dPl_search_80 mfDr_copyFrom mvDr_copyFrom ln_Pl_42 t_51 (by decide) rfl (f_Dr_copyFrom hT t_51 t_15 e_80) rfl rfl (Nat.le_of_ble_eq_true rfl) ⟨by dsimp only; omega, by dsimp only; omega⟩ ⟨rfl, rfl⟩ ⟨Nat.zero_le _, Nat.zero_le _⟩ ?_
                refine g_aload C dPl_search_83 rfl ?_
                refine g_aload_n C dPl_search_85 rfl ?_
                refine g_aload_n C dPl_search_86 rfl ?_
                have t_87 := rf_ok hT h0 (show sp 4 1 = some 18 from rfl)
                refine x_getr C dPl_search_87 fl_Pl_17 h0 hT (show sp 4 1 = some 18 from rfl) ?_
                refine g_iconst (v := Int32.ofInt (0)) C dPl_search_90 (by decide) ?_
                obtain ⟨I4, e_91, h⟩ := bd1_some h
                refine x_callVv (av := fun ad => [.ref a1, .ref (rf O a0 1), .int (Int32.ofInt (0))]) C dPl_search_91 mfDr_runHour mvDr_runHour ln_Pl_68 t_51 (by decide) rfl (f_Dr_runHour hT t_51 h1 t_87 ⟨by decide, rfl⟩ e_91) rfl rfl (Nat.le_of_ble_eq_true rfl) ⟨by dsimp only; omega, by dsimp only; omega⟩ ⟨rfl, rfl⟩ ⟨Nat.zero_le _, Nat.zero_le _⟩ ?_
                refine g_aload C dPl_search_94 rfl ?_
                obtain ⟨z_96, e_96, h⟩ := bd1_some h
                refine x_callVi (av := fun ad => []) C dPl_search_96 mfDr_wentWell mvDr_wentWell ln_Pl_72 t_51 (by decide) rfl (f_Dr_wentWell hT t_51 e_96) rfl rfl (Nat.le_of_ble_eq_true rfl) ⟨by dsimp only; omega, by dsimp only; omega⟩ ⟨rfl, rfl⟩ ⟨Nat.zero_le _, Nat.zero_le _⟩ ?_
                refine x_jn h (fun (k_138 : WI → Option (WI)) => ∀ (IJ_138 : WI), k_138 IJ_138 = some I' → GG X 7 P K IJ_138 O J0 0 0 138 [(0, .ref a0), (1, .ref a1), (2, .int x2), (3, .int x3), (4, .ref (rf O (rf O a0 0) (x2).toInt.toNat)), (5, .ref (rf O (rf O a0 0) ((x2 + (Int32.ofInt (1)))).toInt.toNat)), (6, .int x6_57)] []) (fun IJ_138 h => ?_) (fun k_138 hk_138 h => ?_)
                · skip
                  refine x_iinc C dPl_search_138 rfl (by decide) h (fun v6_138 h => ?_)
                  refine g_goto 57 C dPl_search_141 (by decide) ?_
                  exact g_sub (hr_57 (v6_138) IJ_138 h) ⟨rfl, rfl, rfl, rfl, rfl, rfl, rfl, trivial⟩
                refine gt_if_eq 138 C dPl_search_99 (by decide) rfl (fun c_99 => ?_) (fun c_99 => ?_)
                · have h := x_pos c_99 h
                  exact g_sub (hk_138  I4 h) ⟨rfl, rfl, rfl, rfl, rfl, rfl, rfl, trivial⟩
                · have h := x_neg c_99 h
                  refine g_aload_n C dPl_search_102 rfl ?_
                  refine g_geti C dPl_search_103 fl_Pl_50 h0 ?_
                  refine x_jn h (fun (k_121 : Option (WI)) => k_121  = some I' → GG X 7 P K I4 O J0 0 0 121 [(0, .ref a0), (1, .ref a1), (2, .int x2), (3, .int x3), (4, .ref (rf O (rf O a0 0) (x2).toInt.toNat)), (5, .ref (rf O (rf O a0 0) ((x2 + (Int32.ofInt (1)))).toInt.toNat)), (6, .int x6_57)] []) (fun  h => ?_) (fun k_121 hk_121 h => ?_)
                  · skip
                    refine g_aload_n C dPl_search_121 rfl ?_
                    have t_122 := rf_ok hT h0 (show sp 4 2 = some 11 from rfl)
                    refine x_getr C dPl_search_122 fl_Pl_21 h0 hT (show sp 4 2 = some 11 from rfl) ?_
                    refine g_iload_n C dPl_search_125 rfl ?_
                    refine g_iload C dPl_search_126 rfl ?_
                    obtain ⟨g_128, h⟩ := x_g h
                    refine x_iast (m := 5) C dPl_search_128 t_122 (by decide) rfl rfl g_128 h (fun I6 h => ?_)
                    refine g_aload_n C dPl_search_129 rfl ?_
                    refine g_aload_n C dPl_search_130 rfl ?_
                    refine g_iload_n C dPl_search_131 rfl ?_
                    refine g_iconst (v := Int32.ofInt (1)) C dPl_search_132 (by decide) ?_
                    refine g_iadd C dPl_search_133 ?_
                    refine g_iload_n C dPl_search_134 rfl ?_
                    obtain ⟨I7, e_135, h⟩ := bd1_some h
                    refine x_callSv (av := fun ad => [.ref a0, .ref a1, .int (x2 + (Int32.ofInt (1))), .int x3]) C dPl_search_135 mfPl_search msPl_search ln_Pl_54 (ih h0 h1 e_135) rfl rfl (Nat.le_of_ble_eq_true rfl) ⟨by dsimp only; omega, by dsimp only; omega⟩ ⟨rfl, rfl⟩ ⟨Nat.zero_le _, Nat.zero_le _⟩ ?_
                    exact g_sub (hk_138  I7 h) ⟨rfl, rfl, rfl, rfl, rfl, rfl, rfl, trivial⟩
                  refine gt_if_eq 121 C dPl_search_106 (by decide) rfl (fun c_106 => ?_) (fun c_106 => ?_)
                  · have h := x_pos c_106 h
                    exact g_sub (hk_121  h) ⟨rfl, rfl, rfl, rfl, rfl, rfl, rfl, trivial⟩
                  · have h := x_neg c_106 h
                    refine g_aload C dPl_search_109 rfl ?_
                    refine g_geti C dPl_search_111 fl_Pl_61 t_51 ?_
                    refine g_aload_n C dPl_search_114 rfl ?_
                    refine g_geti C dPl_search_115 fl_Pl_58 h0 ?_
                    refine gt_icmp_ge 138 C dPl_search_118 (by decide) rfl rfl (fun c_118 => ?_) (fun c_118 => ?_)
                    · have h := x_pos c_118 h
                      exact g_sub (hk_138  I4 h) ⟨rfl, rfl, rfl, rfl, rfl, rfl, rfl, trivial⟩
                    · have h := x_neg (Int.not_le.mpr c_118) h
                      exact g_sub (hk_121  h) ⟨rfl, rfl, rfl, rfl, rfl, rfl, rfl, trivial⟩
            exact g_sub (lp_57 ((Int32.ofInt (0))) I0 h) ⟨rfl, rfl, rfl, rfl, rfl, rfl, rfl, trivial⟩
          · have h := x_neg (Int.not_lt.mpr c_31) h
            exact g_sub (hk_34  h) ⟨rfl, rfl, rfl, rfl, rfl, trivial⟩
      · have h := x_neg (Int.not_le.mpr c_6) h
        exact x_vret1 C E dPl_search_9 ⟨Nat.zero_le _, Nat.zero_le _⟩ h
theorem f_Pl_search {P : List Nat} {K : Nat → Nat} {N : Nat} {O : WO} {I0 : WI} {J0 : WJ} (hT : TR P K O) {a0 : Nat} (h0 : a0 ∈ P ∧ K a0 = 4) {a1 : Nat} (h1 : a1 ∈ P ∧ K a1 = 3) {x2 : Int32} {x3 : Int32} {I' : WI} (h : F_Pl_search N O I0 J0 a0 a1 x2 x3 = some I') : Con yPl_search bPl_search 7 none ({ frames := 11, cells := 0, slots := 0, locals := 269 } : Room) P K I0 O J0 [.ref a0, .ref a1, .int x2, .int x3] (EPo none I' J0 P K O) := fr_Pl_search hT 7 h0 h1 h
def F_Pl_findCheapest (N : Nat) (O : WO) (I0 : WI) (J0 : WJ) (a0 : Nat) (a1 : Nat) (a2 : Nat) (a3 : Nat) (x4 : Int32) : Option (Int32 × WI) := bd1 (F_Dr_copyFrom N O I0 J0 (rf O (rf O a0 0) ((Int32.ofInt (0))).toInt.toNat) a2) fun I1 => bd1 (F_RM_copyRow N O I1 J0 a3 18 (rf O a0 1) 18) fun I2 => lb (up2 I2 a0 5 (Int32.ofInt (0))) fun I3 => bd1 (F_Pl_search N O I3 J0 a0 a1 (Int32.ofInt (0)) x4) fun I4 => if ((I4 a0 5)).toInt = 0 then (some ((Int32.ofInt (-1)), I4)) else (bd1 (F_RM_copyRow N O I4 J0 (rf O a0 3) 11 (rf O a0 6) 11) fun I5 => lb (up2 I5 a0 7 x4) fun I6 => some (((I6 a0 4) - (I6 a2 15)), I6))
set_option maxHeartbeats 4000000 in
set_option maxRecDepth 100000 in
theorem f_Pl_findCheapest {P : List Nat} {K : Nat → Nat} {N : Nat} {O : WO} {I0 : WI} {J0 : WJ} (hT : TR P K O) {a0 : Nat} (h0 : a0 ∈ P ∧ K a0 = 4) {a1 : Nat} (h1 : a1 ∈ P ∧ K a1 = 3) {a2 : Nat} (h2 : a2 ∈ P ∧ K a2 = 0) {a3 : Nat} (h3 : a3 ∈ P ∧ K a3 = 18) {x4 : Int32} {r : Int32} {I' : WI} (h : F_Pl_findCheapest N O I0 J0 a0 a1 a2 a3 x4 = some (r, I')) : Con yPl_findCheapest bPl_findCheapest 6 (some .int) ({ frames := 12, cells := 0, slots := 0, locals := 295 } : Room) P K I0 O J0 [.ref a0, .ref a1, .ref a2, .ref a3, .int x4] (EPo (some (.int r)) I' J0 P K O) := by
  refine Con.ofG mfPl_findCheapest (Nat.le_of_ble_eq_true rfl) ?_
  intro X C E
  unfold F_Pl_findCheapest at h
  refine g_aload_n C dPl_findCheapest_0 rfl ?_
  have t_1 := rf_ok hT h0 (show sp 4 0 = some 24 from rfl)
  refine x_getr C dPl_findCheapest_1 fl_Pl_11 h0 hT (show sp 4 0 = some 24 from rfl) ?_
  refine g_iconst (v := Int32.ofInt (0)) C dPl_findCheapest_4 (by decide) ?_
  have t_5 := rfA_ok (i := (Int32.ofInt (0))) hT t_1 (by rw [ofI (by decide)]; decide)
  refine x_aald C dPl_findCheapest_5 t_1 hT (by rw [ofI (by decide)]; decide) ?_
  refine g_astore C dPl_findCheapest_6 (by decide) ?_
  refine g_aload C dPl_findCheapest_8 rfl ?_
  refine g_ifnonnull 15 C dPl_findCheapest_10 (by decide) ?_
  refine g_aload C dPl_findCheapest_15 rfl ?_
  refine g_aload_n C dPl_findCheapest_17 rfl ?_
  obtain ⟨I1, e_18, h⟩ := bd1_some h
  refine x_callVv (av := fun ad => [.ref a2]) C dPl_findCheapest_18 mfDr_copyFrom mvDr_copyFrom ln_Pl_42 t_5 (by decide) rfl (f_Dr_copyFrom hT t_5 h2 e_18) rfl rfl (Nat.le_of_ble_eq_true rfl) ⟨Nat.le_of_ble_eq_true rfl, Nat.le_of_ble_eq_true rfl⟩ ⟨rfl, rfl⟩ ⟨Nat.zero_le _, Nat.zero_le _⟩ ?_
  refine g_aload_n C dPl_findCheapest_21 rfl ?_
  refine g_aload_n C dPl_findCheapest_22 rfl ?_
  have t_23 := rf_ok hT h0 (show sp 4 1 = some 18 from rfl)
  refine x_getr C dPl_findCheapest_23 fl_Pl_17 h0 hT (show sp 4 1 = some 18 from rfl) ?_
  obtain ⟨I2, e_26, h⟩ := bd1_some h
  refine x_callSv (av := fun ad => [.ref a3, .ref (rf O a0 1)]) C dPl_findCheapest_26 mfRM_copyRow msRM_copyRow ln_Pl_46 (f_RM_copyRow hT h3 ⟨by decide, rfl⟩ t_23 ⟨by decide, rfl⟩ e_26) rfl rfl (Nat.le_of_ble_eq_true rfl) ⟨Nat.le_of_ble_eq_true rfl, Nat.le_of_ble_eq_true rfl⟩ ⟨rfl, rfl⟩ ⟨Nat.zero_le _, Nat.zero_le _⟩ ?_
  refine g_aload_n C dPl_findCheapest_29 rfl ?_
  refine g_iconst (v := Int32.ofInt (0)) C dPl_findCheapest_30 (by decide) ?_
  refine x_puti C dPl_findCheapest_31 fl_Pl_50 h0 rfl (Or.inr ⟨rfl, by decide⟩) h (fun I3 h => ?_)
  refine g_aload_n C dPl_findCheapest_34 rfl ?_
  refine g_aload_n C dPl_findCheapest_35 rfl ?_
  refine g_iconst (v := Int32.ofInt (0)) C dPl_findCheapest_36 (by decide) ?_
  refine g_iload C dPl_findCheapest_37 rfl ?_
  obtain ⟨I4, e_39, h⟩ := bd1_some h
  refine x_callSv (av := fun ad => [.ref a0, .ref a1, .int (Int32.ofInt (0)), .int x4]) C dPl_findCheapest_39 mfPl_search msPl_search ln_Pl_54 (f_Pl_search hT h0 h1 e_39) rfl rfl (Nat.le_of_ble_eq_true rfl) ⟨Nat.le_of_ble_eq_true rfl, Nat.le_of_ble_eq_true rfl⟩ ⟨rfl, rfl⟩ ⟨Nat.zero_le _, Nat.zero_le _⟩ ?_
  refine g_aload_n C dPl_findCheapest_42 rfl ?_
  refine g_geti C dPl_findCheapest_43 fl_Pl_50 h0 ?_
  refine gt_if_ne 51 C dPl_findCheapest_46 (by decide) rfl (fun c_46 => ?_) (fun c_46 => ?_)
  · have h := x_neg c_46 h
    refine g_aload_n C dPl_findCheapest_51 rfl ?_
    have t_52 := rf_ok hT h0 (show sp 4 3 = some 11 from rfl)
    refine x_getr C dPl_findCheapest_52 fl_Pl_24 h0 hT (show sp 4 3 = some 11 from rfl) ?_
    refine g_aload_n C dPl_findCheapest_55 rfl ?_
    have t_56 := rf_ok hT h0 (show sp 4 6 = some 11 from rfl)
    refine x_getr C dPl_findCheapest_56 fl_Pl_27 h0 hT (show sp 4 6 = some 11 from rfl) ?_
    obtain ⟨I5, e_59, h⟩ := bd1_some h
    refine x_callSv (av := fun ad => [.ref (rf O a0 3), .ref (rf O a0 6)]) C dPl_findCheapest_59 mfRM_copyRow msRM_copyRow ln_Pl_46 (f_RM_copyRow hT t_52 ⟨by decide, rfl⟩ t_56 ⟨by decide, rfl⟩ e_59) rfl rfl (Nat.le_of_ble_eq_true rfl) ⟨Nat.le_of_ble_eq_true rfl, Nat.le_of_ble_eq_true rfl⟩ ⟨rfl, rfl⟩ ⟨Nat.zero_le _, Nat.zero_le _⟩ ?_
    refine g_aload_n C dPl_findCheapest_62 rfl ?_
    refine g_iload C dPl_findCheapest_63 rfl ?_
    refine x_puti C dPl_findCheapest_65 fl_Pl_38 h0 rfl (Or.inl rfl) h (fun I6 h => ?_)
    refine g_aload_n C dPl_findCheapest_68 rfl ?_
    refine g_geti C dPl_findCheapest_69 fl_Pl_58 h0 ?_
    refine g_aload_n C dPl_findCheapest_72 rfl ?_
    refine g_geti C dPl_findCheapest_73 fl_Pl_61 h2 ?_
    refine g_isub C dPl_findCheapest_76 ?_
    exact x_iret1 C E dPl_findCheapest_77 ⟨Nat.zero_le _, Nat.zero_le _⟩ h
  · have h := x_pos c_46 h
    refine g_iconst (v := Int32.ofInt (-1)) C dPl_findCheapest_49 (by decide) ?_
    exact x_iret1 C E dPl_findCheapest_50 ⟨Nat.zero_le _, Nat.zero_le _⟩ h
def B_Pl_leastRate_2 (N : Nat) (O : WO) (a0 : Nat) (a1 : Nat) (J0 : WJ) (rec_2 : Int32 → WI → Option (Int32 × WI)) (x2_2 : Int32) (I_2 : WI) : Option (Int32 × WI) := if 3 < (x2_2).toInt then (some ((Int32.ofInt (0)), I_2)) else (lb (up2 I_2 (rf O a0 1) 0 x2_2) fun I1 => bd1 (F_Dr_copyFrom N O I1 J0 (rf O a0 8) (rf O a0 9)) fun I2 => bd1 (F_Dr_runHour N O I2 J0 (rf O a0 8) a1 (rf O a0 1) 18 (Int32.ofInt (0))) fun I3 => bd1 (F_Dr_wentWell N O I3 J0 (rf O a0 8)) fun z_42 => if (z_42).toInt = 0 then (lb (x2_2 + Int32.ofInt (1)) fun v2_50 => rec_2 (v2_50) I3) else (some (x2_2, I3)))
def F_Pl_leastRate (N : Nat) (O : WO) (I0 : WI) (J0 : WJ) (a0 : Nat) (a1 : Nat) : Option (Int32 × WI) := lp (B_Pl_leastRate_2 N O a0 a1 J0) (fun _ _ => none) N ((Int32.ofInt (0))) I0
set_option maxHeartbeats 4000000 in
set_option maxRecDepth 100000 in
theorem f_Pl_leastRate {P : List Nat} {K : Nat → Nat} {N : Nat} {O : WO} {I0 : WI} {J0 : WJ} (hT : TR P K O) {a0 : Nat} (h0 : a0 ∈ P ∧ K a0 = 4) {a1 : Nat} (h1 : a1 ∈ P ∧ K a1 = 3) {r : Int32} {I' : WI} (h : F_Pl_leastRate N O I0 J0 a0 a1 = some (r, I')) : Con yPl_leastRate bPl_leastRate 3 (some .int) ({ frames := 4, cells := 0, slots := 0, locals := 87 } : Room) P K I0 O J0 [.ref a0, .ref a1] (EPo (some (.int r)) I' J0 P K O) := by
  refine Con.ofG mfPl_leastRate (Nat.le_of_ble_eq_true rfl) ?_
  intro X C E
  unfold F_Pl_leastRate at h
  refine g_iconst (v := Int32.ofInt (0)) C dPl_leastRate_0 (by decide) ?_
  refine g_istore_n (i := 2) C dPl_leastRate_1 rfl (by decide) ?_
  have lp_2 : ∀ (x2_2 : Int32) (I_2 : WI), lp (B_Pl_leastRate_2 N O a0 a1 J0) (fun _ _ => none) N x2_2 I_2 = some (r, I') → GG X 3 P K I_2 O J0 0 0 2 [(0, .ref a0), (1, .ref a1), (2, .int x2_2)] [] := by
    refine x_lp (fun (rec_2 : Int32 → WI → Option (Int32 × WI)) => ∀ (x2_2 : Int32) (I_2 : WI), rec_2 x2_2 I_2 = some (r, I') → GG X 3 P K I_2 O J0 0 0 2 [(0, .ref a0), (1, .ref a1), (2, .int x2_2)] []) (fun _ _ h => by cases h) (fun rec_2 hr_2 x2_2 I_2 h => ?_) N
    unfold B_Pl_leastRate_2 at h
    refine g_iload_n C dPl_leastRate_2 rfl ?_
    refine g_iconst (v := Int32.ofInt (3)) C dPl_leastRate_3 (by decide) ?_
    refine gt_icmp_gt 56 C dPl_leastRate_4 (by decide) rfl (ofI (by decide)) (fun c_4 => ?_) (fun c_4 => ?_)
    · have h := x_pos c_4 h
      refine g_iconst (v := Int32.ofInt (0)) C dPl_leastRate_56 (by decide) ?_
      exact x_iret1 C E dPl_leastRate_57 ⟨Nat.zero_le _, Nat.zero_le _⟩ h
    · have h := x_neg (Int.not_lt.mpr c_4) h
      refine g_aload_n C dPl_leastRate_7 rfl ?_
      have t_8 := rf_ok hT h0 (show sp 4 1 = some 18 from rfl)
      refine x_getr C dPl_leastRate_8 fl_Pl_17 h0 hT (show sp 4 1 = some 18 from rfl) ?_
      refine g_iconst (v := Int32.ofInt (0)) C dPl_leastRate_11 (by decide) ?_
      refine g_iload_n C dPl_leastRate_12 rfl ?_
      refine x_iastc (m := 3) (c := 0) C dPl_leastRate_13 t_8 (by decide) rfl rfl rfl (by decide) h (fun I1 h => ?_)
      refine g_aload_n C dPl_leastRate_14 rfl ?_
      have t_15 := rf_ok hT h0 (show sp 4 8 = some 0 from rfl)
      refine x_getr C dPl_leastRate_15 fl_Pl_31 h0 hT (show sp 4 8 = some 0 from rfl) ?_
      refine g_aload_n C dPl_leastRate_18 rfl ?_
      have t_19 := rf_ok hT h0 (show sp 4 9 = some 0 from rfl)
      refine x_getr C dPl_leastRate_19 fl_Pl_35 h0 hT (show sp 4 9 = some 0 from rfl) ?_
      obtain ⟨I2, e_22, h⟩ := bd1_some h
      refine x_callVv (av := fun ad => [.ref (rf O a0 9)]) C dPl_leastRate_22 mfDr_copyFrom mvDr_copyFrom ln_Pl_42 t_15 (by decide) rfl (f_Dr_copyFrom hT t_15 t_19 e_22) rfl rfl (Nat.le_of_ble_eq_true rfl) ⟨Nat.le_of_ble_eq_true rfl, Nat.le_of_ble_eq_true rfl⟩ ⟨rfl, rfl⟩ ⟨Nat.zero_le _, Nat.zero_le _⟩ ?_
      refine g_aload_n C dPl_leastRate_25 rfl ?_
      have t_26 := rf_ok hT h0 (show sp 4 8 = some 0 from rfl)
      refine x_getr C dPl_leastRate_26 fl_Pl_31 h0 hT (show sp 4 8 = some 0 from rfl) ?_
      refine g_aload_n C dPl_leastRate_29 rfl ?_
      refine g_aload_n C dPl_leastRate_30 rfl ?_
      have t_31 := rf_ok hT h0 (show sp 4 1 = some 18 from rfl)
      refine x_getr C dPl_leastRate_31 fl_Pl_17 h0 hT (show sp 4 1 = some 18 from rfl) ?_
      refine g_iconst (v := Int32.ofInt (0)) C dPl_leastRate_34 (by decide) ?_
      obtain ⟨I3, e_35, h⟩ := bd1_some h
      refine x_callVv (av := fun ad => [.ref a1, .ref (rf O a0 1), .int (Int32.ofInt (0))]) C dPl_leastRate_35 mfDr_runHour mvDr_runHour ln_Pl_68 t_26 (by decide) rfl (f_Dr_runHour hT t_26 h1 t_31 ⟨by decide, rfl⟩ e_35) rfl rfl (Nat.le_of_ble_eq_true rfl) ⟨Nat.le_of_ble_eq_true rfl, Nat.le_of_ble_eq_true rfl⟩ ⟨rfl, rfl⟩ ⟨Nat.zero_le _, Nat.zero_le _⟩ ?_
      refine g_aload_n C dPl_leastRate_38 rfl ?_
      have t_39 := rf_ok hT h0 (show sp 4 8 = some 0 from rfl)
      refine x_getr C dPl_leastRate_39 fl_Pl_31 h0 hT (show sp 4 8 = some 0 from rfl) ?_
      obtain ⟨z_42, e_42, h⟩ := bd1_some h
      refine x_callVi (av := fun ad => []) C dPl_leastRate_42 mfDr_wentWell mvDr_wentWell ln_Pl_72 t_39 (by decide) rfl (f_Dr_wentWell hT t_39 e_42) rfl rfl (Nat.le_of_ble_eq_true rfl) ⟨Nat.le_of_ble_eq_true rfl, Nat.le_of_ble_eq_true rfl⟩ ⟨rfl, rfl⟩ ⟨Nat.zero_le _, Nat.zero_le _⟩ ?_
      refine gt_if_eq 50 C dPl_leastRate_45 (by decide) rfl (fun c_45 => ?_) (fun c_45 => ?_)
      · have h := x_pos c_45 h
        refine x_iinc C dPl_leastRate_50 rfl (by decide) h (fun v2_50 h => ?_)
        refine g_goto 2 C dPl_leastRate_53 (by decide) ?_
        exact g_sub (hr_2 (v2_50) I3 h) ⟨rfl, rfl, rfl, trivial⟩
      · have h := x_neg c_45 h
        refine g_iload_n C dPl_leastRate_48 rfl ?_
        exact x_iret1 C E dPl_leastRate_49 ⟨Nat.zero_le _, Nat.zero_le _⟩ h
  exact g_sub (lp_2 ((Int32.ofInt (0))) I0 h) ⟨rfl, rfl, rfl, trivial⟩
def B_Pl_keepRule_19 (N : Nat) (O : WO) (a0 : Nat) (a1 : Nat) (x4 : Int32) (J0 : WJ) (rec_19 : Int32 → WI → Option (WI)) (x5_19 : Int32) (I_19 : WI) : Option (WI) := if (x4).toInt ≤ (x5_19).toInt then (some I_19) else (if 5 ≤ (x5_19).toInt then (some I_19) else (bd2 (F_Pl_leastRate N O I_19 J0 a0 a1) fun z_39 I3 => lb (up2 I3 (rf O a0 1) 0 z_39) fun I4 => bd1 (F_Dr_runHour N O I4 J0 (rf O a0 9) a1 (rf O a0 1) 18 (Int32.ofInt (0))) fun I5 => lb (x5_19 + Int32.ofInt (1)) fun v5_56 => rec_19 (v5_56) I5))
def F_Pl_keepRule (N : Nat) (O : WO) (I0 : WI) (J0 : WJ) (a0 : Nat) (a1 : Nat) (a2 : Nat) (a3 : Nat) (x4 : Int32) : Option (WI) := bd1 (F_Dr_copyFrom N O I0 J0 (rf O a0 9) a2) fun I1 => bd1 (F_RM_copyRow N O I1 J0 a3 18 (rf O a0 1) 18) fun I2 => lp (B_Pl_keepRule_19 N O a0 a1 x4 J0) (fun _ _ => none) N ((Int32.ofInt (0))) I2
set_option maxHeartbeats 4000000 in
set_option maxRecDepth 100000 in
theorem f_Pl_keepRule {P : List Nat} {K : Nat → Nat} {N : Nat} {O : WO} {I0 : WI} {J0 : WJ} (hT : TR P K O) {a0 : Nat} (h0 : a0 ∈ P ∧ K a0 = 4) {a1 : Nat} (h1 : a1 ∈ P ∧ K a1 = 3) {a2 : Nat} (h2 : a2 ∈ P ∧ K a2 = 0) {a3 : Nat} (h3 : a3 ∈ P ∧ K a3 = 18) {x4 : Int32} {I' : WI} (h : F_Pl_keepRule N O I0 J0 a0 a1 a2 a3 x4 = some I') : Con yPl_keepRule bPl_keepRule 6 none ({ frames := 5, cells := 0, slots := 0, locals := 109 } : Room) P K I0 O J0 [.ref a0, .ref a1, .ref a2, .ref a3, .int x4] (EPo none I' J0 P K O) := by
  refine Con.ofG mfPl_keepRule (Nat.le_of_ble_eq_true rfl) ?_
  intro X C E
  unfold F_Pl_keepRule at h
  refine g_aload_n C dPl_keepRule_0 rfl ?_
  have t_1 := rf_ok hT h0 (show sp 4 9 = some 0 from rfl)
  refine x_getr C dPl_keepRule_1 fl_Pl_35 h0 hT (show sp 4 9 = some 0 from rfl) ?_
  refine g_aload_n C dPl_keepRule_4 rfl ?_
  obtain ⟨I1, e_5, h⟩ := bd1_some h
  refine x_callVv (av := fun ad => [.ref a2]) C dPl_keepRule_5 mfDr_copyFrom mvDr_copyFrom ln_Pl_42 t_1 (by decide) rfl (f_Dr_copyFrom hT t_1 h2 e_5) rfl rfl (Nat.le_of_ble_eq_true rfl) ⟨Nat.le_of_ble_eq_true rfl, Nat.le_of_ble_eq_true rfl⟩ ⟨rfl, rfl⟩ ⟨Nat.zero_le _, Nat.zero_le _⟩ ?_
  refine g_aload_n C dPl_keepRule_8 rfl ?_
  refine g_aload_n C dPl_keepRule_9 rfl ?_
  have t_10 := rf_ok hT h0 (show sp 4 1 = some 18 from rfl)
  refine x_getr C dPl_keepRule_10 fl_Pl_17 h0 hT (show sp 4 1 = some 18 from rfl) ?_
  obtain ⟨I2, e_13, h⟩ := bd1_some h
  refine x_callSv (av := fun ad => [.ref a3, .ref (rf O a0 1)]) C dPl_keepRule_13 mfRM_copyRow msRM_copyRow ln_Pl_46 (f_RM_copyRow hT h3 ⟨by decide, rfl⟩ t_10 ⟨by decide, rfl⟩ e_13) rfl rfl (Nat.le_of_ble_eq_true rfl) ⟨Nat.le_of_ble_eq_true rfl, Nat.le_of_ble_eq_true rfl⟩ ⟨rfl, rfl⟩ ⟨Nat.zero_le _, Nat.zero_le _⟩ ?_
  refine g_iconst (v := Int32.ofInt (0)) C dPl_keepRule_16 (by decide) ?_
  refine g_istore C dPl_keepRule_17 (by decide) ?_
  have lp_19 : ∀ (x5_19 : Int32) (I_19 : WI), lp (B_Pl_keepRule_19 N O a0 a1 x4 J0) (fun _ _ => none) N x5_19 I_19 = some I' → GG X 6 P K I_19 O J0 0 0 19 [(0, .ref a0), (1, .ref a1), (2, .ref a2), (3, .ref a3), (4, .int x4), (5, .int x5_19)] [] := by
    refine x_lp (fun (rec_19 : Int32 → WI → Option (WI)) => ∀ (x5_19 : Int32) (I_19 : WI), rec_19 x5_19 I_19 = some I' → GG X 6 P K I_19 O J0 0 0 19 [(0, .ref a0), (1, .ref a1), (2, .ref a2), (3, .ref a3), (4, .int x4), (5, .int x5_19)] []) (fun _ _ h => by cases h) (fun rec_19 hr_19 x5_19 I_19 h => ?_) N
    unfold B_Pl_keepRule_19 at h
    refine g_iload C dPl_keepRule_19 rfl ?_
    refine g_iload C dPl_keepRule_21 rfl ?_
    refine gt_icmp_ge 62 C dPl_keepRule_23 (by decide) rfl rfl (fun c_23 => ?_) (fun c_23 => ?_)
    · have h := x_pos c_23 h
      exact x_vret1 C E dPl_keepRule_62 ⟨Nat.zero_le _, Nat.zero_le _⟩ h
    · have h := x_neg (Int.not_le.mpr c_23) h
      refine g_iload C dPl_keepRule_26 rfl ?_
      refine g_iconst (v := Int32.ofInt (5)) C dPl_keepRule_28 (by decide) ?_
      refine gt_icmp_ge 62 C dPl_keepRule_29 (by decide) rfl (ofI (by decide)) (fun c_29 => ?_) (fun c_29 => ?_)
      · have h := x_pos c_29 h
        exact x_vret1 C E dPl_keepRule_62 ⟨Nat.zero_le _, Nat.zero_le _⟩ h
      · have h := x_neg (Int.not_le.mpr c_29) h
        refine g_aload_n C dPl_keepRule_32 rfl ?_
        have t_33 := rf_ok hT h0 (show sp 4 1 = some 18 from rfl)
        refine x_getr C dPl_keepRule_33 fl_Pl_17 h0 hT (show sp 4 1 = some 18 from rfl) ?_
        refine g_iconst (v := Int32.ofInt (0)) C dPl_keepRule_36 (by decide) ?_
        refine g_aload_n C dPl_keepRule_37 rfl ?_
        refine g_aload_n C dPl_keepRule_38 rfl ?_
        obtain ⟨z_39, I3, e_39, h⟩ := bd2_some h
        refine x_callVi (av := fun ad => [.ref a1]) C dPl_keepRule_39 mfPl_leastRate mvPl_leastRate ln_Pl_76 h0 (by decide) rfl (f_Pl_leastRate hT h0 h1 e_39) rfl rfl (Nat.le_of_ble_eq_true rfl) ⟨Nat.le_of_ble_eq_true rfl, Nat.le_of_ble_eq_true rfl⟩ ⟨rfl, rfl⟩ ⟨Nat.zero_le _, Nat.zero_le _⟩ ?_
        refine x_iastc (m := 3) (c := 0) C dPl_keepRule_42 t_33 (by decide) rfl rfl rfl (by decide) h (fun I4 h => ?_)
        refine g_aload_n C dPl_keepRule_43 rfl ?_
        have t_44 := rf_ok hT h0 (show sp 4 9 = some 0 from rfl)
        refine x_getr C dPl_keepRule_44 fl_Pl_35 h0 hT (show sp 4 9 = some 0 from rfl) ?_
        refine g_aload_n C dPl_keepRule_47 rfl ?_
        refine g_aload_n C dPl_keepRule_48 rfl ?_
        have t_49 := rf_ok hT h0 (show sp 4 1 = some 18 from rfl)
        refine x_getr C dPl_keepRule_49 fl_Pl_17 h0 hT (show sp 4 1 = some 18 from rfl) ?_
        refine g_iconst (v := Int32.ofInt (0)) C dPl_keepRule_52 (by decide) ?_
        obtain ⟨I5, e_53, h⟩ := bd1_some h
        refine x_callVv (av := fun ad => [.ref a1, .ref (rf O a0 1), .int (Int32.ofInt (0))]) C dPl_keepRule_53 mfDr_runHour mvDr_runHour ln_Pl_68 t_44 (by decide) rfl (f_Dr_runHour hT t_44 h1 t_49 ⟨by decide, rfl⟩ e_53) rfl rfl (Nat.le_of_ble_eq_true rfl) ⟨Nat.le_of_ble_eq_true rfl, Nat.le_of_ble_eq_true rfl⟩ ⟨rfl, rfl⟩ ⟨Nat.zero_le _, Nat.zero_le _⟩ ?_
        refine x_iinc C dPl_keepRule_56 rfl (by decide) h (fun v5_56 h => ?_)
        refine g_goto 19 C dPl_keepRule_59 (by decide) ?_
        exact g_sub (hr_19 (v5_56) I5 h) ⟨rfl, rfl, rfl, rfl, rfl, rfl, trivial⟩
  exact g_sub (lp_19 ((Int32.ofInt (0))) I2 h) ⟨rfl, rfl, rfl, rfl, rfl, rfl, trivial⟩
def F_Tr_isFilled (N : Nat) (O : WO) (I0 : WI) (J0 : WJ) (a0 : Nat) (x1 : Int32) : Option (Int32) := jn (fun (s0_15 : Int32) => if (s0_15).toInt < 8 then (some (Int32.ofInt (0))) else (some (Int32.ofInt (1)))) fun k_15 => if (x1).toInt = 0 then (k_15 ((I0 a0 3))) else (k_15 ((I0 a0 4)))
set_option maxHeartbeats 4000000 in
set_option maxRecDepth 100000 in
theorem f_Tr_isFilled {P : List Nat} {K : Nat → Nat} {N : Nat} {O : WO} {I0 : WI} {J0 : WJ} (hT : TR P K O) {a0 : Nat} (h0 : a0 ∈ P ∧ K a0 = 7) {x1 : Int32} {r : Int32} (h : F_Tr_isFilled N O I0 J0 a0 x1 = some r) : Con yTr_isFilled bTr_isFilled 2 (some .boolean) ({ frames := 0, cells := 0, slots := 0, locals := 0 } : Room) P K I0 O J0 [.ref a0, .int x1] (EPo (some (.int r)) I0 J0 P K O) := by
  refine Con.ofG mfTr_isFilled (Nat.le_of_ble_eq_true rfl) ?_
  intro X C E
  unfold F_Tr_isFilled at h
  refine g_iload_n C dTr_isFilled_0 rfl ?_
  refine x_jn h (fun (k_15 : Int32 → Option (Int32)) => ∀ (s0_15 : Int32), k_15 s0_15 = some r → GG X 2 P K I0 O J0 0 0 15 [(0, .ref a0), (1, .int x1)] [.int s0_15]) (fun s0_15 h => ?_) (fun k_15 hk_15 h => ?_)
  · skip
    refine g_bipush (v := Int32.ofInt (8)) C dTr_isFilled_15 (by decide) ?_
    refine gt_icmp_lt 24 C dTr_isFilled_17 (by decide) rfl (ofI (by decide)) (fun c_17 => ?_) (fun c_17 => ?_)
    · have h := x_pos c_17 h
      refine g_iconst (v := Int32.ofInt (0)) C dTr_isFilled_24 (by decide) ?_
      exact x_zret0 C E dTr_isFilled_25 (by decide) ⟨Nat.zero_le _, Nat.zero_le _⟩ h
    · have h := x_neg (Int.not_lt.mpr c_17) h
      refine g_iconst (v := Int32.ofInt (1)) C dTr_isFilled_20 (by decide) ?_
      refine g_goto 25 C dTr_isFilled_21 (by decide) ?_
      exact x_zret0 C E dTr_isFilled_25 (by decide) ⟨Nat.zero_le _, Nat.zero_le _⟩ h
  refine gt_if_eq 11 C dTr_isFilled_1 (by decide) rfl (fun c_1 => ?_) (fun c_1 => ?_)
  · have h := x_pos c_1 h
    refine g_aload_n C dTr_isFilled_11 rfl ?_
    refine g_geti C dTr_isFilled_12 fl_Tr_23 h0 ?_
    exact g_sub (hk_15 ((I0 a0 3)) h) ⟨rfl, rfl, trivial⟩
  · have h := x_neg c_1 h
    refine g_aload_n C dTr_isFilled_4 rfl ?_
    refine g_geti C dTr_isFilled_5 fl_Tr_19 h0 ?_
    refine g_goto 15 C dTr_isFilled_8 (by decide) ?_
    exact g_sub (hk_15 ((I0 a0 4)) h) ⟨rfl, rfl, trivial⟩
def F_Tr_lacksRow (N : Nat) (O : WO) (I0 : WI) (J0 : WJ) (a0 : Nat) : Option (Int32) := jn (some (Int32.ofInt (1))) fun k_14 => if ((I0 a0 3)).toInt = 0 then (k_14 ) else (if ((I0 a0 4)).toInt = 0 then (k_14 ) else (some (Int32.ofInt (0))))
set_option maxHeartbeats 4000000 in
set_option maxRecDepth 100000 in
theorem f_Tr_lacksRow {P : List Nat} {K : Nat → Nat} {N : Nat} {O : WO} {I0 : WI} {J0 : WJ} (hT : TR P K O) {a0 : Nat} (h0 : a0 ∈ P ∧ K a0 = 7) {r : Int32} (h : F_Tr_lacksRow N O I0 J0 a0 = some r) : Con yTr_lacksRow bTr_lacksRow 1 (some .boolean) ({ frames := 0, cells := 0, slots := 0, locals := 0 } : Room) P K I0 O J0 [.ref a0] (EPo (some (.int r)) I0 J0 P K O) := by
  refine Con.ofG mfTr_lacksRow (Nat.le_of_ble_eq_true rfl) ?_
  intro X C E
  unfold F_Tr_lacksRow at h
  refine g_aload_n C dTr_lacksRow_0 rfl ?_
  refine g_geti C dTr_lacksRow_1 fl_Tr_23 h0 ?_
  refine x_jn h (fun (k_14 : Option (Int32)) => k_14  = some r → GG X 1 P K I0 O J0 0 0 14 [(0, .ref a0)] []) (fun  h => ?_) (fun k_14 hk_14 h => ?_)
  · skip
    refine g_iconst (v := Int32.ofInt (1)) C dTr_lacksRow_14 (by decide) ?_
    refine g_goto 19 C dTr_lacksRow_15 (by decide) ?_
    exact x_zret0 C E dTr_lacksRow_19 (by decide) ⟨Nat.zero_le _, Nat.zero_le _⟩ h
  refine gt_if_eq 14 C dTr_lacksRow_4 (by decide) rfl (fun c_4 => ?_) (fun c_4 => ?_)
  · have h := x_pos c_4 h
    exact g_sub (hk_14  h) ⟨rfl, trivial⟩
  · have h := x_neg c_4 h
    refine g_aload_n C dTr_lacksRow_7 rfl ?_
    refine g_geti C dTr_lacksRow_8 fl_Tr_19 h0 ?_
    refine gt_if_ne 18 C dTr_lacksRow_11 (by decide) rfl (fun c_11 => ?_) (fun c_11 => ?_)
    · have h := x_neg c_11 h
      refine g_iconst (v := Int32.ofInt (0)) C dTr_lacksRow_18 (by decide) ?_
      exact x_zret0 C E dTr_lacksRow_19 (by decide) ⟨Nat.zero_le _, Nat.zero_le _⟩ h
    · have h := x_pos c_11 h
      exact g_sub (hk_14  h) ⟨rfl, trivial⟩
def F_Tr_add (N : Nat) (O : WO) (I0 : WI) (J0 : WJ) (a0 : Nat) (x1 : Int32) (x2 : Int32) : Option (Int32 × WI) := bd1 (F_Tr_isFilled N O I0 J0 a0 x1) fun z_2 => if (z_2).toInt = 0 then (if (x1).toInt = 0 then (if 0 ≤ ((I0 a0 3)).toInt ∧ ((I0 a0 3)).toInt < 8 then (lb (up2 I0 (rf O a0 0) ((I0 a0 3)).toInt.toNat x2) fun I2 => lb (up2 I2 a0 3 ((I2 a0 3) + (Int32.ofInt (1)))) fun I3 => some ((I3 a0 3), I3)) else none) else (if 0 ≤ ((I0 a0 4)).toInt ∧ ((I0 a0 4)).toInt < 8 then (lb (up2 I0 (rf O a0 1) ((I0 a0 4)).toInt.toNat x2) fun I4 => lb (up2 I4 a0 4 ((I4 a0 4) + (Int32.ofInt (1)))) fun I5 => some ((I5 a0 4), I5)) else none)) else (some ((Int32.ofInt (8)), I0))
set_option maxHeartbeats 4000000 in
set_option maxRecDepth 100000 in
theorem f_Tr_add {P : List Nat} {K : Nat → Nat} {N : Nat} {O : WO} {I0 : WI} {J0 : WJ} (hT : TR P K O) {a0 : Nat} (h0 : a0 ∈ P ∧ K a0 = 7) {x1 : Int32} {x2 : Int32} {r : Int32} {I' : WI} (h : F_Tr_add N O I0 J0 a0 x1 x2 = some (r, I')) : Con yTr_add bTr_add 3 (some .int) ({ frames := 1, cells := 0, slots := 0, locals := 21 } : Room) P K I0 O J0 [.ref a0, .int x1, .int x2] (EPo (some (.int r)) I' J0 P K O) := by
  refine Con.ofG mfTr_add (Nat.le_of_ble_eq_true rfl) ?_
  intro X C E
  unfold F_Tr_add at h
  refine g_aload_n C dTr_add_0 rfl ?_
  refine g_iload_n C dTr_add_1 rfl ?_
  obtain ⟨z_2, e_2, h⟩ := bd1_some h
  refine x_callVi (av := fun ad => [.int x1]) C dTr_add_2 mfTr_isFilled mvTr_isFilled ln_Tr_26 h0 (by decide) rfl (f_Tr_isFilled hT h0 e_2) rfl rfl (Nat.le_of_ble_eq_true rfl) ⟨Nat.le_of_ble_eq_true rfl, Nat.le_of_ble_eq_true rfl⟩ ⟨rfl, rfl⟩ ⟨Nat.zero_le _, Nat.zero_le _⟩ ?_
  refine gt_if_eq 11 C dTr_add_5 (by decide) rfl (fun c_5 => ?_) (fun c_5 => ?_)
  · have h := x_pos c_5 h
    refine g_iload_n C dTr_add_11 rfl ?_
    refine gt_if_eq 40 C dTr_add_12 (by decide) rfl (fun c_12 => ?_) (fun c_12 => ?_)
    · have h := x_pos c_12 h
      refine g_aload_n C dTr_add_40 rfl ?_
      have t_41 := rf_ok hT h0 (show sp 7 0 = some 26 from rfl)
      refine x_getr C dTr_add_41 fl_Tr_9 h0 hT (show sp 7 0 = some 26 from rfl) ?_
      refine g_aload_n C dTr_add_44 rfl ?_
      refine g_geti C dTr_add_45 fl_Tr_23 h0 ?_
      refine g_iload_n C dTr_add_48 rfl ?_
      obtain ⟨g_49, h⟩ := x_g h
      refine x_iast (m := 8) C dTr_add_49 t_41 (by decide) rfl rfl g_49 h (fun I2 h => ?_)
      refine g_aload_n C dTr_add_50 rfl ?_
      refine g_dup C dTr_add_51 rfl ?_
      refine g_geti C dTr_add_52 fl_Tr_23 h0 ?_
      refine g_iconst (v := Int32.ofInt (1)) C dTr_add_55 (by decide) ?_
      refine g_iadd C dTr_add_56 ?_
      refine x_puti C dTr_add_57 fl_Tr_23 h0 rfl (Or.inl rfl) h (fun I3 h => ?_)
      refine g_aload_n C dTr_add_60 rfl ?_
      refine g_geti C dTr_add_61 fl_Tr_23 h0 ?_
      exact x_iret1 C E dTr_add_64 ⟨Nat.zero_le _, Nat.zero_le _⟩ h
    · have h := x_neg c_12 h
      refine g_aload_n C dTr_add_15 rfl ?_
      have t_16 := rf_ok hT h0 (show sp 7 1 = some 26 from rfl)
      refine x_getr C dTr_add_16 fl_Tr_13 h0 hT (show sp 7 1 = some 26 from rfl) ?_
      refine g_aload_n C dTr_add_19 rfl ?_
      refine g_geti C dTr_add_20 fl_Tr_19 h0 ?_
      refine g_iload_n C dTr_add_23 rfl ?_
      obtain ⟨g_24, h⟩ := x_g h
      refine x_iast (m := 8) C dTr_add_24 t_16 (by decide) rfl rfl g_24 h (fun I4 h => ?_)
      refine g_aload_n C dTr_add_25 rfl ?_
      refine g_dup C dTr_add_26 rfl ?_
      refine g_geti C dTr_add_27 fl_Tr_19 h0 ?_
      refine g_iconst (v := Int32.ofInt (1)) C dTr_add_30 (by decide) ?_
      refine g_iadd C dTr_add_31 ?_
      refine x_puti C dTr_add_32 fl_Tr_19 h0 rfl (Or.inl rfl) h (fun I5 h => ?_)
      refine g_aload_n C dTr_add_35 rfl ?_
      refine g_geti C dTr_add_36 fl_Tr_19 h0 ?_
      exact x_iret1 C E dTr_add_39 ⟨Nat.zero_le _, Nat.zero_le _⟩ h
  · have h := x_neg c_5 h
    refine g_bipush (v := Int32.ofInt (8)) C dTr_add_8 (by decide) ?_
    exact x_iret1 C E dTr_add_10 ⟨Nat.zero_le _, Nat.zero_le _⟩ h
def F_Tr_drop (N : Nat) (O : WO) (I0 : WI) (J0 : WJ) (a0 : Nat) : Option (Int32 × WI) := lb (((I0 a0 3) + (I0 a0 4))) fun v1_9 => lb (up2 I0 a0 3 (Int32.ofInt (0))) fun I1 => lb (up2 I1 a0 4 (Int32.ofInt (0))) fun I2 => some (v1_9, I2)
set_option maxHeartbeats 4000000 in
set_option maxRecDepth 100000 in
theorem f_Tr_drop {P : List Nat} {K : Nat → Nat} {N : Nat} {O : WO} {I0 : WI} {J0 : WJ} (hT : TR P K O) {a0 : Nat} (h0 : a0 ∈ P ∧ K a0 = 7) {r : Int32} {I' : WI} (h : F_Tr_drop N O I0 J0 a0 = some (r, I')) : Con yTr_drop bTr_drop 2 (some .int) ({ frames := 0, cells := 0, slots := 0, locals := 0 } : Room) P K I0 O J0 [.ref a0] (EPo (some (.int r)) I' J0 P K O) := by
  refine Con.ofG mfTr_drop (Nat.le_of_ble_eq_true rfl) ?_
  intro X C E
  unfold F_Tr_drop at h
  refine g_aload_n C dTr_drop_0 rfl ?_
  refine g_geti C dTr_drop_1 fl_Tr_23 h0 ?_
  refine g_aload_n C dTr_drop_4 rfl ?_
  refine g_geti C dTr_drop_5 fl_Tr_19 h0 ?_
  refine g_iadd C dTr_drop_8 ?_
  refine x_istore_n (i := 1) C dTr_drop_9 rfl (by decide) h (fun v1_9 h => ?_)
  refine g_aload_n C dTr_drop_10 rfl ?_
  refine g_iconst (v := Int32.ofInt (0)) C dTr_drop_11 (by decide) ?_
  refine x_puti C dTr_drop_12 fl_Tr_23 h0 rfl (Or.inl rfl) h (fun I1 h => ?_)
  refine g_aload_n C dTr_drop_15 rfl ?_
  refine g_iconst (v := Int32.ofInt (0)) C dTr_drop_16 (by decide) ?_
  refine x_puti C dTr_drop_17 fl_Tr_19 h0 rfl (Or.inl rfl) h (fun I2 h => ?_)
  refine g_iload_n C dTr_drop_20 rfl ?_
  exact x_iret1 C E dTr_drop_21 ⟨Nat.zero_le _, Nat.zero_le _⟩ h
def B_Tr_countFrom_self (N : Nat) (O : WO) (I0 : WI) (J0 : WJ) (rec_self : Nat → Int32 → Int32 → Int32 → Int32 → Option (Int32)) (a0 : Nat) (x1 : Int32) (x2 : Int32) (x3 : Int32) (x4 : Int32) : Option (Int32) := if 0 < (x3).toInt then (if (x1).toInt < 0 then (some (Int32.ofInt (0))) else (if (x2).toInt ≤ (x1).toInt then (some (Int32.ofInt (0))) else (if 16 ≤ (x1).toInt then (some (Int32.ofInt (0))) else (if (x3).toInt ≤ ((x2 - x1)).toInt then (if 0 ≤ (x1).toInt ∧ (x1).toInt < 16 then (bd1 (rec_self a0 (x1 + (Int32.ofInt (1))) x2 (x3 - (Int32.ofInt (1))) (x4 - (I0 a0 (x1).toInt.toNat))) fun z_53 => bd1 (rec_self a0 (x1 + (Int32.ofInt (1))) x2 x3 x4) fun z_64 => some (z_53 + z_64)) else none) else (some (Int32.ofInt (0))))))) else (if 0 < (x4).toInt then (some (Int32.ofInt (0))) else (some (Int32.ofInt (1))))
def F_Tr_countFrom (N : Nat) (O : WO) (I0 : WI) (J0 : WJ) (a0 : Nat) (x1 : Int32) (x2 : Int32) (x3 : Int32) (x4 : Int32) : Option (Int32) := lp (B_Tr_countFrom_self N O I0 J0) (fun _ _ _ _ _ => none) 18 a0 x1 x2 x3 x4
set_option maxHeartbeats 4000000 in
set_option maxRecDepth 100000 in
theorem fr_Tr_countFrom {P : List Nat} {K : Nat → Nat} {N : Nat} {O : WO} {I0 : WI} {J0 : WJ} (hT : TR P K O) (n : Nat) : ∀ {a0 : Nat} (h0 : a0 ∈ P ∧ K a0 = 27) {x1 : Int32} {x2 : Int32} {x3 : Int32} {x4 : Int32} {r : Int32} (_ : lp (B_Tr_countFrom_self N O I0 J0) (fun _ _ _ _ _ => none) n a0 x1 x2 x3 x4 = some r), Con yTr_countFrom bTr_countFrom 5 (some .int) ({ frames := 0 + n, cells := 0, slots := 0, locals := 0 + 24 * n } : Room) P K I0 O J0 [.ref a0, .int x1, .int x2, .int x3, .int x4] (EPo (some (.int r)) I0 J0 P K O) := by
  induction n with
  | zero => intros; rename_i h; cases h
  | succ n ih =>
    intro  a0 h0 x1 x2 x3 x4 r h
    refine Con.ofG mfTr_countFrom (Nat.le_of_ble_eq_true rfl) ?_
    intro X C E
    replace h : B_Tr_countFrom_self N O I0 J0 (lp (B_Tr_countFrom_self N O I0 J0) (fun _ _ _ _ _ => none) n) a0 x1 x2 x3 x4 = some r := h
    generalize lp (B_Tr_countFrom_self N O I0 J0) (fun _ _ _ _ _ => none) n = rec_self at h ih
    unfold B_Tr_countFrom_self at h
    refine g_iload_n C dTr_countFrom_0 rfl ?_
    refine gt_if_gt 15 C dTr_countFrom_1 (by decide) rfl (fun c_1 => ?_) (fun c_1 => ?_)
    · have h := x_pos c_1 h
      refine g_iload_n C dTr_countFrom_15 rfl ?_
      refine gt_if_lt 37 C dTr_countFrom_16 (by decide) rfl (fun c_16 => ?_) (fun c_16 => ?_)
      · have h := x_pos c_16 h
        refine g_iconst (v := Int32.ofInt (0)) C dTr_countFrom_37 (by decide) ?_
        exact x_iret0 C E dTr_countFrom_38 ⟨Nat.zero_le _, Nat.zero_le _⟩ h
      · have h := x_neg (Int.not_lt.mpr c_16) h
        refine g_iload_n C dTr_countFrom_19 rfl ?_
        refine g_iload_n C dTr_countFrom_20 rfl ?_
        refine gt_icmp_ge 37 C dTr_countFrom_21 (by decide) rfl rfl (fun c_21 => ?_) (fun c_21 => ?_)
        · have h := x_pos c_21 h
          refine g_iconst (v := Int32.ofInt (0)) C dTr_countFrom_37 (by decide) ?_
          exact x_iret0 C E dTr_countFrom_38 ⟨Nat.zero_le _, Nat.zero_le _⟩ h
        · have h := x_neg (Int.not_le.mpr c_21) h
          refine g_iload_n C dTr_countFrom_24 rfl ?_
          refine g_aload_n C dTr_countFrom_25 rfl ?_
          refine x_alenc 16 C dTr_countFrom_26 h0 (by decide) (by decide) (by decide) ?_
          refine gt_icmp_ge 37 C dTr_countFrom_27 (by decide) rfl (ofI (by decide)) (fun c_27 => ?_) (fun c_27 => ?_)
          · have h := x_pos c_27 h
            refine g_iconst (v := Int32.ofInt (0)) C dTr_countFrom_37 (by decide) ?_
            exact x_iret0 C E dTr_countFrom_38 ⟨Nat.zero_le _, Nat.zero_le _⟩ h
          · have h := x_neg (Int.not_le.mpr c_27) h
            refine g_iload_n C dTr_countFrom_30 rfl ?_
            refine g_iload_n C dTr_countFrom_31 rfl ?_
            refine g_iload_n C dTr_countFrom_32 rfl ?_
            refine g_isub C dTr_countFrom_33 ?_
            refine gt_icmp_le 39 C dTr_countFrom_34 (by decide) rfl rfl (fun c_34 => ?_) (fun c_34 => ?_)
            · have h := x_pos c_34 h
              refine g_aload_n C dTr_countFrom_39 rfl ?_
              refine g_iload_n C dTr_countFrom_40 rfl ?_
              refine g_iconst (v := Int32.ofInt (1)) C dTr_countFrom_41 (by decide) ?_
              refine g_iadd C dTr_countFrom_42 ?_
              refine g_iload_n C dTr_countFrom_43 rfl ?_
              refine g_iload_n C dTr_countFrom_44 rfl ?_
              refine g_iconst (v := Int32.ofInt (1)) C dTr_countFrom_45 (by decide) ?_
              refine g_isub C dTr_countFrom_46 ?_
              refine g_iload C dTr_countFrom_47 rfl ?_
              refine g_aload_n C dTr_countFrom_49 rfl ?_
              refine g_iload_n C dTr_countFrom_50 rfl ?_
              obtain ⟨g_51, h⟩ := x_g h
              refine x_iald (m := 16) C dTr_countFrom_51 h0 (by decide) rfl rfl g_51 ?_
              refine g_isub C dTr_countFrom_52 ?_
              obtain ⟨z_53, e_53, h⟩ := bd1_some h
              refine x_callSi (av := fun ad => [.ref a0, .int (x1 + (Int32.ofInt (1))), .int x2, .int (x3 - (Int32.ofInt (1))), .int (x4 - (I0 a0 (x1).toInt.toNat))]) C dTr_countFrom_53 mfTr_countFrom msTr_countFrom ln_Tr_30 (ih h0 e_53) rfl rfl (Nat.le_of_ble_eq_true rfl) ⟨by dsimp only; omega, by dsimp only; omega⟩ ⟨rfl, rfl⟩ ⟨Nat.zero_le _, Nat.zero_le _⟩ ?_
              refine g_aload_n C dTr_countFrom_56 rfl ?_
              refine g_iload_n C dTr_countFrom_57 rfl ?_
              refine g_iconst (v := Int32.ofInt (1)) C dTr_countFrom_58 (by decide) ?_
              refine g_iadd C dTr_countFrom_59 ?_
              refine g_iload_n C dTr_countFrom_60 rfl ?_
              refine g_iload_n C dTr_countFrom_61 rfl ?_
              refine g_iload C dTr_countFrom_62 rfl ?_
              obtain ⟨z_64, e_64, h⟩ := bd1_some h
              refine x_callSi (av := fun ad => [.ref a0, .int (x1 + (Int32.ofInt (1))), .int x2, .int x3, .int x4]) C dTr_countFrom_64 mfTr_countFrom msTr_countFrom ln_Tr_30 (ih h0 e_64) rfl rfl (Nat.le_of_ble_eq_true rfl) ⟨by dsimp only; omega, by dsimp only; omega⟩ ⟨rfl, rfl⟩ ⟨Nat.zero_le _, Nat.zero_le _⟩ ?_
              refine g_iadd C dTr_countFrom_67 ?_
              exact x_iret0 C E dTr_countFrom_68 ⟨Nat.zero_le _, Nat.zero_le _⟩ h
            · have h := x_neg (Int.not_le.mpr c_34) h
              refine g_iconst (v := Int32.ofInt (0)) C dTr_countFrom_37 (by decide) ?_
              exact x_iret0 C E dTr_countFrom_38 ⟨Nat.zero_le _, Nat.zero_le _⟩ h
    · have h := x_neg (Int.not_lt.mpr c_1) h
      refine g_iload C dTr_countFrom_4 rfl ?_
      refine gt_if_gt 13 C dTr_countFrom_6 (by decide) rfl (fun c_6 => ?_) (fun c_6 => ?_)
      · have h := x_pos c_6 h
        refine g_iconst (v := Int32.ofInt (0)) C dTr_countFrom_13 (by decide) ?_
        exact x_iret0 C E dTr_countFrom_14 ⟨Nat.zero_le _, Nat.zero_le _⟩ h
      · have h := x_neg (Int.not_lt.mpr c_6) h
        refine g_iconst (v := Int32.ofInt (1)) C dTr_countFrom_9 (by decide) ?_
        refine g_goto 14 C dTr_countFrom_10 (by decide) ?_
        exact x_iret0 C E dTr_countFrom_14 ⟨Nat.zero_le _, Nat.zero_le _⟩ h
theorem f_Tr_countFrom {P : List Nat} {K : Nat → Nat} {N : Nat} {O : WO} {I0 : WI} {J0 : WJ} (hT : TR P K O) {a0 : Nat} (h0 : a0 ∈ P ∧ K a0 = 27) {x1 : Int32} {x2 : Int32} {x3 : Int32} {x4 : Int32} {r : Int32} (h : F_Tr_countFrom N O I0 J0 a0 x1 x2 x3 x4 = some r) : Con yTr_countFrom bTr_countFrom 5 (some .int) ({ frames := 18, cells := 0, slots := 0, locals := 432 } : Room) P K I0 O J0 [.ref a0, .int x1, .int x2, .int x3, .int x4] (EPo (some (.int r)) I0 J0 P K O) := fr_Tr_countFrom hT 18 h0 h
def B_Tr_countNoLess_47 (N : Nat) (O : WO) (a0 : Nat) (J0 : WJ) (y1_45 : Int32) (rec_47 : Int32 → WI → Option (Int32 × WI)) (x2_47 : Int32) (I_47 : WI) : Option (Int32 × WI) := jn (fun (y2_98 : Int32) (IJ_98 : WI) => bd1 (F_Tr_countFrom N O IJ_98 J0 (rf O a0 2) (Int32.ofInt (0)) ((IJ_98 a0 3) + (IJ_98 a0 4)) (IJ_98 a0 4) y1_45) fun z_117 => some (z_117, IJ_98)) fun k_98 => if ((I_47 a0 3)).toInt ≤ (x2_47).toInt then (k_98 (x2_47) I_47) else (if 8 ≤ (x2_47).toInt then (k_98 (x2_47) I_47) else (if 16 ≤ (((I_47 a0 4) + x2_47)).toInt then (k_98 (x2_47) I_47) else (if 0 ≤ (x2_47).toInt ∧ (x2_47).toInt < 8 then (if 0 ≤ (((I_47 a0 4) + x2_47)).toInt ∧ (((I_47 a0 4) + x2_47)).toInt < 16 then (lb (up2 I_47 (rf O a0 2) (((I_47 a0 4) + x2_47)).toInt.toNat (I_47 (rf O a0 0) (x2_47).toInt.toNat)) fun I2 => lb (x2_47 + Int32.ofInt (1)) fun v2_92 => rec_47 (v2_92) I2) else none) else none)))
def B_Tr_countNoLess_4 (N : Nat) (O : WO) (a0 : Nat) (J0 : WJ) (rec_4 : Int32 → Int32 → WI → Option (Int32 × WI)) (x1_4 : Int32) (x2_4 : Int32) (I_4 : WI) : Option (Int32 × WI) := jn (fun (y1_45 : Int32) (y2_45 : Int32) (IJ_45 : WI) => lp (B_Tr_countNoLess_47 N O a0 J0 y1_45) (fun _ _ => none) N ((Int32.ofInt (0))) IJ_45) fun k_45 => if ((I_4 a0 4)).toInt ≤ (x2_4).toInt then (k_45 (x1_4) (x2_4) I_4) else (if 8 ≤ (x2_4).toInt then (k_45 (x1_4) (x2_4) I_4) else (if 0 ≤ (x2_4).toInt ∧ (x2_4).toInt < 8 then (if 0 ≤ (x2_4).toInt ∧ (x2_4).toInt < 16 then (lb (up2 I_4 (rf O a0 2) (x2_4).toInt.toNat (I_4 (rf O a0 1) (x2_4).toInt.toNat)) fun I3 => if 0 ≤ (x2_4).toInt ∧ (x2_4).toInt < 8 then (lb ((x1_4 + (I3 (rf O a0 1) (x2_4).toInt.toNat))) fun v1_38 => lb (x2_4 + Int32.ofInt (1)) fun v2_39 => rec_4 (v1_38) (v2_39) I3) else none) else none) else none))
def F_Tr_countNoLess (N : Nat) (O : WO) (I0 : WI) (J0 : WJ) (a0 : Nat) : Option (Int32 × WI) := lp (B_Tr_countNoLess_4 N O a0 J0) (fun _ _ _ => none) N ((Int32.ofInt (0))) ((Int32.ofInt (0))) I0
set_option maxHeartbeats 4000000 in
set_option maxRecDepth 100000 in
theorem f_Tr_countNoLess {P : List Nat} {K : Nat → Nat} {N : Nat} {O : WO} {I0 : WI} {J0 : WJ} (hT : TR P K O) {a0 : Nat} (h0 : a0 ∈ P ∧ K a0 = 7) {r : Int32} {I' : WI} (h : F_Tr_countNoLess N O I0 J0 a0 = some (r, I')) : Con yTr_countNoLess bTr_countNoLess 3 (some .int) ({ frames := 19, cells := 0, slots := 0, locals := 456 } : Room) P K I0 O J0 [.ref a0] (EPo (some (.int r)) I' J0 P K O) := by
  refine Con.ofG mfTr_countNoLess (Nat.le_of_ble_eq_true rfl) ?_
  intro X C E
  unfold F_Tr_countNoLess at h
  refine g_iconst (v := Int32.ofInt (0)) C dTr_countNoLess_0 (by decide) ?_
  refine g_istore_n (i := 1) C dTr_countNoLess_1 rfl (by decide) ?_
  refine g_iconst (v := Int32.ofInt (0)) C dTr_countNoLess_2 (by decide) ?_
  refine g_istore_n (i := 2) C dTr_countNoLess_3 rfl (by decide) ?_
  have lp_4 : ∀ (x1_4 : Int32) (x2_4 : Int32) (I_4 : WI), lp (B_Tr_countNoLess_4 N O a0 J0) (fun _ _ _ => none) N x1_4 x2_4 I_4 = some (r, I') → GG X 3 P K I_4 O J0 0 0 4 [(0, .ref a0), (1, .int x1_4), (2, .int x2_4)] [] := by
    refine x_lp (fun (rec_4 : Int32 → Int32 → WI → Option (Int32 × WI)) => ∀ (x1_4 : Int32) (x2_4 : Int32) (I_4 : WI), rec_4 x1_4 x2_4 I_4 = some (r, I') → GG X 3 P K I_4 O J0 0 0 4 [(0, .ref a0), (1, .int x1_4), (2, .int x2_4)] []) (fun _ _ _ h => by cases h) (fun rec_4 hr_4 x1_4 x2_4 I_4 h => ?_) N
    unfold B_Tr_countNoLess_4 at h
    refine g_iload_n C dTr_countNoLess_4 rfl ?_
    refine g_aload_n C dTr_countNoLess_5 rfl ?_
    refine g_geti C dTr_countNoLess_6 fl_Tr_19 h0 ?_
    refine x_jn h (fun (k_45 : Int32 → Int32 → WI → Option (Int32 × WI)) => ∀ (y1_45 : Int32) (y2_45 : Int32) (IJ_45 : WI), k_45 y1_45 y2_45 IJ_45 = some (r, I') → GG X 3 P K IJ_45 O J0 0 0 45 [(0, .ref a0), (1, .int y1_45), (2, .int y2_45)] []) (fun y1_45 y2_45 IJ_45 h => ?_) (fun k_45 hk_45 h => ?_)
    · skip
      refine g_iconst (v := Int32.ofInt (0)) C dTr_countNoLess_45 (by decide) ?_
      refine g_istore_n (i := 2) C dTr_countNoLess_46 rfl (by decide) ?_
      have lp_47 : ∀ (x2_47 : Int32) (I_47 : WI), lp (B_Tr_countNoLess_47 N O a0 J0 y1_45) (fun _ _ => none) N x2_47 I_47 = some (r, I') → GG X 3 P K I_47 O J0 0 0 47 [(0, .ref a0), (1, .int y1_45), (2, .int x2_47)] [] := by
        refine x_lp (fun (rec_47 : Int32 → WI → Option (Int32 × WI)) => ∀ (x2_47 : Int32) (I_47 : WI), rec_47 x2_47 I_47 = some (r, I') → GG X 3 P K I_47 O J0 0 0 47 [(0, .ref a0), (1, .int y1_45), (2, .int x2_47)] []) (fun _ _ h => by cases h) (fun rec_47 hr_47 x2_47 I_47 h => ?_) N
        unfold B_Tr_countNoLess_47 at h
        refine g_iload_n C dTr_countNoLess_47 rfl ?_
        refine g_aload_n C dTr_countNoLess_48 rfl ?_
        refine g_geti C dTr_countNoLess_49 fl_Tr_23 h0 ?_
        refine x_jn h (fun (k_98 : Int32 → WI → Option (Int32 × WI)) => ∀ (y2_98 : Int32) (IJ_98 : WI), k_98 y2_98 IJ_98 = some (r, I') → GG X 3 P K IJ_98 O J0 0 0 98 [(0, .ref a0), (1, .int y1_45), (2, .int y2_98)] []) (fun y2_98 IJ_98 h => ?_) (fun k_98 hk_98 h => ?_)
        · skip
          refine g_aload_n C dTr_countNoLess_98 rfl ?_
          have t_99 := rf_ok hT h0 (show sp 7 2 = some 27 from rfl)
          refine x_getr C dTr_countNoLess_99 fl_Tr_16 h0 hT (show sp 7 2 = some 27 from rfl) ?_
          refine g_iconst (v := Int32.ofInt (0)) C dTr_countNoLess_102 (by decide) ?_
          refine g_aload_n C dTr_countNoLess_103 rfl ?_
          refine g_geti C dTr_countNoLess_104 fl_Tr_23 h0 ?_
          refine g_aload_n C dTr_countNoLess_107 rfl ?_
          refine g_geti C dTr_countNoLess_108 fl_Tr_19 h0 ?_
          refine g_iadd C dTr_countNoLess_111 ?_
          refine g_aload_n C dTr_countNoLess_112 rfl ?_
          refine g_geti C dTr_countNoLess_113 fl_Tr_19 h0 ?_
          refine g_iload_n C dTr_countNoLess_116 rfl ?_
          obtain ⟨z_117, e_117, h⟩ := bd1_some h
          refine x_callSi (av := fun ad => [.ref (rf O a0 2), .int (Int32.ofInt (0)), .int ((IJ_98 a0 3) + (IJ_98 a0 4)), .int (IJ_98 a0 4), .int y1_45]) C dTr_countNoLess_117 mfTr_countFrom msTr_countFrom ln_Tr_30 (f_Tr_countFrom hT t_99 e_117) rfl rfl (Nat.le_of_ble_eq_true rfl) ⟨Nat.le_of_ble_eq_true rfl, Nat.le_of_ble_eq_true rfl⟩ ⟨rfl, rfl⟩ ⟨Nat.zero_le _, Nat.zero_le _⟩ ?_
          exact x_iret1 C E dTr_countNoLess_120 ⟨Nat.zero_le _, Nat.zero_le _⟩ h
        refine gt_icmp_ge 98 C dTr_countNoLess_52 (by decide) rfl rfl (fun c_52 => ?_) (fun c_52 => ?_)
        · have h := x_pos c_52 h
          exact g_sub (hk_98 (x2_47) I_47 h) ⟨rfl, rfl, rfl, trivial⟩
        · have h := x_neg (Int.not_le.mpr c_52) h
          refine g_iload_n C dTr_countNoLess_55 rfl ?_
          refine g_bipush (v := Int32.ofInt (8)) C dTr_countNoLess_56 (by decide) ?_
          refine gt_icmp_ge 98 C dTr_countNoLess_58 (by decide) rfl (ofI (by decide)) (fun c_58 => ?_) (fun c_58 => ?_)
          · have h := x_pos c_58 h
            exact g_sub (hk_98 (x2_47) I_47 h) ⟨rfl, rfl, rfl, trivial⟩
          · have h := x_neg (Int.not_le.mpr c_58) h
            refine g_aload_n C dTr_countNoLess_61 rfl ?_
            refine g_geti C dTr_countNoLess_62 fl_Tr_19 h0 ?_
            refine g_iload_n C dTr_countNoLess_65 rfl ?_
            refine g_iadd C dTr_countNoLess_66 ?_
            refine g_aload_n C dTr_countNoLess_67 rfl ?_
            have t_68 := rf_ok hT h0 (show sp 7 2 = some 27 from rfl)
            refine x_getr C dTr_countNoLess_68 fl_Tr_16 h0 hT (show sp 7 2 = some 27 from rfl) ?_
            refine x_alenc 16 C dTr_countNoLess_71 t_68 (by decide) (by decide) (by decide) ?_
            refine gt_icmp_ge 98 C dTr_countNoLess_72 (by decide) rfl (ofI (by decide)) (fun c_72 => ?_) (fun c_72 => ?_)
            · have h := x_pos c_72 h
              exact g_sub (hk_98 (x2_47) I_47 h) ⟨rfl, rfl, rfl, trivial⟩
            · have h := x_neg (Int.not_le.mpr c_72) h
              refine g_aload_n C dTr_countNoLess_75 rfl ?_
              have t_76 := rf_ok hT h0 (show sp 7 2 = some 27 from rfl)
              refine x_getr C dTr_countNoLess_76 fl_Tr_16 h0 hT (show sp 7 2 = some 27 from rfl) ?_
              refine g_aload_n C dTr_countNoLess_79 rfl ?_
              refine g_geti C dTr_countNoLess_80 fl_Tr_19 h0 ?_
              refine g_iload_n C dTr_countNoLess_83 rfl ?_
              refine g_iadd C dTr_countNoLess_84 ?_
              refine g_aload_n C dTr_countNoLess_85 rfl ?_
              have t_86 := rf_ok hT h0 (show sp 7 0 = some 26 from rfl)
              refine x_getr C dTr_countNoLess_86 fl_Tr_9 h0 hT (show sp 7 0 = some 26 from rfl) ?_
              refine g_iload_n C dTr_countNoLess_89 rfl ?_
              obtain ⟨g_90, h⟩ := x_g h
              refine x_iald (m := 8) C dTr_countNoLess_90 t_86 (by decide) rfl rfl g_90 ?_
              obtain ⟨g_91, h⟩ := x_g h
              refine x_iast (m := 16) C dTr_countNoLess_91 t_76 (by decide) rfl rfl g_91 h (fun I2 h => ?_)
              refine x_iinc C dTr_countNoLess_92 rfl (by decide) h (fun v2_92 h => ?_)
              refine g_goto 47 C dTr_countNoLess_95 (by decide) ?_
              exact g_sub (hr_47 (v2_92) I2 h) ⟨rfl, rfl, rfl, trivial⟩
      exact g_sub (lp_47 ((Int32.ofInt (0))) IJ_45 h) ⟨rfl, rfl, rfl, trivial⟩
    refine gt_icmp_ge 45 C dTr_countNoLess_9 (by decide) rfl rfl (fun c_9 => ?_) (fun c_9 => ?_)
    · have h := x_pos c_9 h
      exact g_sub (hk_45 (x1_4) (x2_4) I_4 h) ⟨rfl, rfl, rfl, trivial⟩
    · have h := x_neg (Int.not_le.mpr c_9) h
      refine g_iload_n C dTr_countNoLess_12 rfl ?_
      refine g_bipush (v := Int32.ofInt (8)) C dTr_countNoLess_13 (by decide) ?_
      refine gt_icmp_ge 45 C dTr_countNoLess_15 (by decide) rfl (ofI (by decide)) (fun c_15 => ?_) (fun c_15 => ?_)
      · have h := x_pos c_15 h
        exact g_sub (hk_45 (x1_4) (x2_4) I_4 h) ⟨rfl, rfl, rfl, trivial⟩
      · have h := x_neg (Int.not_le.mpr c_15) h
        refine g_aload_n C dTr_countNoLess_18 rfl ?_
        have t_19 := rf_ok hT h0 (show sp 7 2 = some 27 from rfl)
        refine x_getr C dTr_countNoLess_19 fl_Tr_16 h0 hT (show sp 7 2 = some 27 from rfl) ?_
        refine g_iload_n C dTr_countNoLess_22 rfl ?_
        refine g_aload_n C dTr_countNoLess_23 rfl ?_
        have t_24 := rf_ok hT h0 (show sp 7 1 = some 26 from rfl)
        refine x_getr C dTr_countNoLess_24 fl_Tr_13 h0 hT (show sp 7 1 = some 26 from rfl) ?_
        refine g_iload_n C dTr_countNoLess_27 rfl ?_
        obtain ⟨g_28, h⟩ := x_g h
        refine x_iald (m := 8) C dTr_countNoLess_28 t_24 (by decide) rfl rfl g_28 ?_
        obtain ⟨g_29, h⟩ := x_g h
        refine x_iast (m := 16) C dTr_countNoLess_29 t_19 (by decide) rfl rfl g_29 h (fun I3 h => ?_)
        refine g_iload_n C dTr_countNoLess_30 rfl ?_
        refine g_aload_n C dTr_countNoLess_31 rfl ?_
        have t_32 := rf_ok hT h0 (show sp 7 1 = some 26 from rfl)
        refine x_getr C dTr_countNoLess_32 fl_Tr_13 h0 hT (show sp 7 1 = some 26 from rfl) ?_
        refine g_iload_n C dTr_countNoLess_35 rfl ?_
        obtain ⟨g_36, h⟩ := x_g h
        refine x_iald (m := 8) C dTr_countNoLess_36 t_32 (by decide) rfl rfl g_36 ?_
        refine g_iadd C dTr_countNoLess_37 ?_
        refine x_istore_n (i := 1) C dTr_countNoLess_38 rfl (by decide) h (fun v1_38 h => ?_)
        refine x_iinc C dTr_countNoLess_39 rfl (by decide) h (fun v2_39 h => ?_)
        refine g_goto 4 C dTr_countNoLess_42 (by decide) ?_
        exact g_sub (hr_4 (v1_38) (v2_39) I3 h) ⟨rfl, rfl, rfl, trivial⟩
  exact g_sub (lp_4 ((Int32.ofInt (0))) ((Int32.ofInt (0))) I0 h) ⟨rfl, rfl, rfl, trivial⟩
def B_Tr_countAll_4 (N : Nat) (O : WO) (a0 : Nat) (I0 : WI) (rec_4 : Int64 → Int32 → Option (Int32)) (x1_4 : Int64) (x3_4 : Int32) : Option (Int32) := if ((I0 a0 4)).toInt < (x3_4).toInt then (some (x1_4).toInt32) else (if ¬ ((x3_4).toInt64).toInt = 0 then (lb (((x1_4 * (((I0 a0 3) + x3_4)).toInt64) / (x3_4).toInt64)) fun v1_24 => lb (x3_4 + Int32.ofInt (1)) fun v3_25 => rec_4 (v1_24) (v3_25)) else none)
def F_Tr_countAll (N : Nat) (O : WO) (I0 : WI) (J0 : WJ) (a0 : Nat) : Option (Int32) := lp (B_Tr_countAll_4 N O a0 I0) (fun _ _ => none) N ((1 : Int64)) ((Int32.ofInt (1)))
set_option maxHeartbeats 4000000 in
set_option maxRecDepth 100000 in
theorem f_Tr_countAll {P : List Nat} {K : Nat → Nat} {N : Nat} {O : WO} {I0 : WI} {J0 : WJ} (hT : TR P K O) {a0 : Nat} (h0 : a0 ∈ P ∧ K a0 = 7) {r : Int32} (h : F_Tr_countAll N O I0 J0 a0 = some r) : Con yTr_countAll bTr_countAll 4 (some .int) ({ frames := 0, cells := 0, slots := 0, locals := 0 } : Room) P K I0 O J0 [.ref a0] (EPo (some (.int r)) I0 J0 P K O) := by
  refine Con.ofG mfTr_countAll (Nat.le_of_ble_eq_true rfl) ?_
  intro X C E
  unfold F_Tr_countAll at h
  refine g_lconst (v := 1) C dTr_countAll_0 (by decide) ?_
  refine g_lstore_n (i := 1) C dTr_countAll_1 rfl (by decide) ?_
  refine g_iconst (v := Int32.ofInt (1)) C dTr_countAll_2 (by decide) ?_
  refine g_istore_n (i := 3) C dTr_countAll_3 rfl (by decide) ?_
  have lp_4 : ∀ (x1_4 : Int64) (x3_4 : Int32), lp (B_Tr_countAll_4 N O a0 I0) (fun _ _ => none) N x1_4 x3_4 = some r → GG X 4 P K I0 O J0 0 0 4 [(0, .ref a0), (1, .long x1_4), (3, .int x3_4)] [] := by
    refine x_lp (fun (rec_4 : Int64 → Int32 → Option (Int32)) => ∀ (x1_4 : Int64) (x3_4 : Int32), rec_4 x1_4 x3_4 = some r → GG X 4 P K I0 O J0 0 0 4 [(0, .ref a0), (1, .long x1_4), (3, .int x3_4)] []) (fun _ _ h => by cases h) (fun rec_4 hr_4 x1_4 x3_4 h => ?_) N
    unfold B_Tr_countAll_4 at h
    refine g_iload_n C dTr_countAll_4 rfl ?_
    refine g_aload_n C dTr_countAll_5 rfl ?_
    refine g_geti C dTr_countAll_6 fl_Tr_19 h0 ?_
    refine gt_icmp_gt 31 C dTr_countAll_9 (by decide) rfl rfl (fun c_9 => ?_) (fun c_9 => ?_)
    · have h := x_pos c_9 h
      refine g_lload_n C dTr_countAll_31 rfl ?_
      refine g_l2i C dTr_countAll_32 ?_
      exact x_iret0 C E dTr_countAll_33 ⟨Nat.zero_le _, Nat.zero_le _⟩ h
    · have h := x_neg (Int.not_lt.mpr c_9) h
      refine g_lload_n C dTr_countAll_12 rfl ?_
      refine g_aload_n C dTr_countAll_13 rfl ?_
      refine g_geti C dTr_countAll_14 fl_Tr_23 h0 ?_
      refine g_iload_n C dTr_countAll_17 rfl ?_
      refine g_iadd C dTr_countAll_18 ?_
      refine g_i2l C dTr_countAll_19 ?_
      refine g_lmul C dTr_countAll_20 ?_
      refine g_iload_n C dTr_countAll_21 rfl ?_
      refine g_i2l C dTr_countAll_22 ?_
      obtain ⟨g_23, h⟩ := x_g h
      refine x_ldiv C dTr_countAll_23 g_23 ?_
      refine x_lstore_n (i := 1) C dTr_countAll_24 rfl (by decide) h (fun v1_24 h => ?_)
      refine x_iinc C dTr_countAll_25 rfl (by decide) h (fun v3_25 h => ?_)
      refine g_goto 4 C dTr_countAll_28 (by decide) ?_
      exact g_sub (hr_4 (v1_24) (v3_25) h) ⟨rfl, rfl, rfl, trivial⟩
  exact g_sub (lp_4 ((1 : Int64)) ((Int32.ofInt (1))) h) ⟨rfl, rfl, rfl, trivial⟩
