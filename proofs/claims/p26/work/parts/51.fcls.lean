def B_RM_wipe_2 (N : Nat) (O : WO) (a0 : Nat) (κ0 : Nat) (rec_2 : Int32 → WI → Option (WI)) (x1_2 : Int32) (I_2 : WI) : Option (WI) := if ((Int32.ofNat (alen κ0))).toInt ≤ (x1_2).toInt then (some I_2) else (if 0 ≤ (x1_2).toInt ∧ (x1_2).toInt < ((alen κ0 : Nat) : Int) then (lb (up2 I_2 a0 (x1_2).toInt.toNat (Int32.ofInt (0))) fun I1 => lb (x1_2 + Int32.ofInt (1)) fun v1_12 => rec_2 (v1_12) I1) else none)
def F_RM_wipe (N : Nat) (O : WO) (I0 : WI) (J0 : WJ) (a0 κ0 : Nat) : Option (WI) := lp (B_RM_wipe_2 N O a0 κ0) (fun _ _ => none) N ((Int32.ofInt (0))) I0
set_option maxHeartbeats 4000000 in
set_option maxRecDepth 100000 in
theorem f_RM_wipe {P : List Nat} {K : Nat → Nat} {N : Nat} {O : WO} {I0 : WI} {J0 : WJ} (hT : TR P K O) {a0 κ0 : Nat} (h0 : a0 ∈ P ∧ K a0 = κ0) (p0 : ¬ κ0 < 11 ∧ aty κ0 = 1) {I' : WI} (h : F_RM_wipe N O I0 J0 a0 κ0 = some I') : Con yRM_wipe bRM_wipe 2 none ({ frames := 0, cells := 0, slots := 0, locals := 0 } : Room) P K I0 O J0 [.ref a0] (EPo none I' J0 P K O) := by
  refine Con.ofG mfRM_wipe (Nat.le_of_ble_eq_true rfl) ?_
  intro X C E
  unfold F_RM_wipe at h
  refine g_iconst (v := Int32.ofInt (0)) C dRM_wipe_0 (by decide) ?_
  refine g_istore_n (i := 1) C dRM_wipe_1 rfl (by decide) ?_
  have lp_2 : ∀ (x1_2 : Int32) (I_2 : WI), lp (B_RM_wipe_2 N O a0 κ0) (fun _ _ => none) N x1_2 I_2 = some I' → GG X 2 P K I_2 O J0 0 0 2 [(0, .ref a0), (1, .int x1_2)] [] := by
    refine x_lp (fun (rec_2 : Int32 → WI → Option (WI)) => ∀ (x1_2 : Int32) (I_2 : WI), rec_2 x1_2 I_2 = some I' → GG X 2 P K I_2 O J0 0 0 2 [(0, .ref a0), (1, .int x1_2)] []) (fun _ _ h => by cases h) (fun rec_2 hr_2 x1_2 I_2 h => ?_) N
    unfold B_RM_wipe_2 at h
    refine g_iload_n C dRM_wipe_2 rfl ?_
    refine g_aload_n C dRM_wipe_3 rfl ?_
    refine x_alen C dRM_wipe_4 h0 p0.1 (by rw [p0.2]; decide) ?_
    refine gt_icmp_ge 18 C dRM_wipe_5 (by decide) rfl rfl (fun c_5 => ?_) (fun c_5 => ?_)
    · have h := x_pos c_5 h
      exact x_vret1 C E dRM_wipe_18 ⟨Nat.zero_le _, Nat.zero_le _⟩ h
    · have h := x_neg (Int.not_le.mpr c_5) h
      refine g_aload_n C dRM_wipe_8 rfl ?_
      refine g_iload_n C dRM_wipe_9 rfl ?_
      refine g_iconst (v := Int32.ofInt (0)) C dRM_wipe_10 (by decide) ?_
      obtain ⟨g_11, h⟩ := x_g h
      refine x_iast (m := (alen κ0)) C dRM_wipe_11 h0 p0.1 p0.2 rfl g_11 h (fun I1 h => ?_)
      refine x_iinc C dRM_wipe_12 rfl (by decide) h (fun v1_12 h => ?_)
      refine g_goto 2 C dRM_wipe_15 (by decide) ?_
      exact g_sub (hr_2 (v1_12) I1 h) ⟨rfl, rfl, trivial⟩
  exact g_sub (lp_2 ((Int32.ofInt (0))) I0 h) ⟨rfl, rfl, trivial⟩
def F_Ml_makeEmpty (N : Nat) (O : WO) (I0 : WI) (J0 : WJ) (a0 : Nat) : Option (WI) := lb (up2 I0 a0 0 (Int32.ofInt (0))) fun I1 => lb (up2 I1 a0 1 (Int32.ofInt (0))) fun I2 => lb (up2 I2 a0 2 (Int32.ofInt (-1))) fun I3 => lb (up2 I3 a0 3 (Int32.ofInt (0))) fun I4 => lb (up2 I4 a0 4 (Int32.ofInt (0))) fun I5 => lb (up2 I5 a0 5 (Int32.ofInt (0))) fun I6 => lb (up2 I6 a0 6 (Int32.ofInt (0))) fun I7 => lb (up2 I7 a0 7 (Int32.ofInt (0))) fun I8 => lb (up2 I8 a0 8 (Int32.ofInt (0))) fun I9 => lb (up2 I9 a0 9 (Int32.ofInt (0))) fun I10 => bd1 (F_RM_wipe N O I10 J0 (rf O a0 10) 13) fun I11 => bd1 (F_RM_wipe N O I11 J0 (rf O a0 11) 11) fun I12 => bd1 (F_RM_wipe N O I12 J0 (rf O a0 12) 11) fun I13 => bd1 (F_RM_wipe N O I13 J0 (rf O a0 13) 12) fun I14 => bd1 (F_RM_wipe N O I14 J0 (rf O a0 14) 14) fun I15 => some I15
set_option maxHeartbeats 4000000 in
set_option maxRecDepth 100000 in
theorem f_Ml_makeEmpty {P : List Nat} {K : Nat → Nat} {N : Nat} {O : WO} {I0 : WI} {J0 : WJ} (hT : TR P K O) {a0 : Nat} (h0 : a0 ∈ P ∧ K a0 = 3) {I' : WI} (h : F_Ml_makeEmpty N O I0 J0 a0 = some I') : Con yMl_makeEmpty bMl_makeEmpty 1 none ({ frames := 1, cells := 0, slots := 0, locals := 21 } : Room) P K I0 O J0 [.ref a0] (EPo none I' J0 P K O) := by
  refine Con.ofG mfMl_makeEmpty (Nat.le_of_ble_eq_true rfl) ?_
  intro X C E
  unfold F_Ml_makeEmpty at h
  refine g_aload_n C dMl_makeEmpty_0 rfl ?_
  refine g_iconst (v := Int32.ofInt (0)) C dMl_makeEmpty_1 (by decide) ?_
  refine x_puti C dMl_makeEmpty_2 fl_Ml_31 h0 rfl (Or.inl rfl) h (fun I1 h => ?_)
  refine g_aload_n C dMl_makeEmpty_5 rfl ?_
  refine g_iconst (v := Int32.ofInt (0)) C dMl_makeEmpty_6 (by decide) ?_
  refine x_puti C dMl_makeEmpty_7 fl_Ml_34 h0 rfl (Or.inl rfl) h (fun I2 h => ?_)
  refine g_aload_n C dMl_makeEmpty_10 rfl ?_
  refine g_iconst (v := Int32.ofInt (-1)) C dMl_makeEmpty_11 (by decide) ?_
  refine x_puti C dMl_makeEmpty_12 fl_Ml_9 h0 rfl (Or.inl rfl) h (fun I3 h => ?_)
  refine g_aload_n C dMl_makeEmpty_15 rfl ?_
  refine g_iconst (v := Int32.ofInt (0)) C dMl_makeEmpty_16 (by decide) ?_
  refine x_puti C dMl_makeEmpty_17 fl_Ml_37 h0 rfl (Or.inl rfl) h (fun I4 h => ?_)
  refine g_aload_n C dMl_makeEmpty_20 rfl ?_
  refine g_iconst (v := Int32.ofInt (0)) C dMl_makeEmpty_21 (by decide) ?_
  refine x_puti C dMl_makeEmpty_22 fl_Ml_40 h0 rfl (Or.inl rfl) h (fun I5 h => ?_)
  refine g_aload_n C dMl_makeEmpty_25 rfl ?_
  refine g_iconst (v := Int32.ofInt (0)) C dMl_makeEmpty_26 (by decide) ?_
  refine x_puti C dMl_makeEmpty_27 fl_Ml_43 h0 rfl (Or.inl rfl) h (fun I6 h => ?_)
  refine g_aload_n C dMl_makeEmpty_30 rfl ?_
  refine g_iconst (v := Int32.ofInt (0)) C dMl_makeEmpty_31 (by decide) ?_
  refine x_puti C dMl_makeEmpty_32 fl_Ml_46 h0 rfl (Or.inl rfl) h (fun I7 h => ?_)
  refine g_aload_n C dMl_makeEmpty_35 rfl ?_
  refine g_iconst (v := Int32.ofInt (0)) C dMl_makeEmpty_36 (by decide) ?_
  refine x_puti C dMl_makeEmpty_37 fl_Ml_49 h0 rfl (Or.inl rfl) h (fun I8 h => ?_)
  refine g_aload_n C dMl_makeEmpty_40 rfl ?_
  refine g_iconst (v := Int32.ofInt (0)) C dMl_makeEmpty_41 (by decide) ?_
  refine x_puti C dMl_makeEmpty_42 fl_Ml_52 h0 rfl (Or.inl rfl) h (fun I9 h => ?_)
  refine g_aload_n C dMl_makeEmpty_45 rfl ?_
  refine g_iconst (v := Int32.ofInt (0)) C dMl_makeEmpty_46 (by decide) ?_
  refine x_puti C dMl_makeEmpty_47 fl_Ml_55 h0 rfl (Or.inl rfl) h (fun I10 h => ?_)
  refine g_aload_n C dMl_makeEmpty_50 rfl ?_
  have t_51 := rf_ok hT h0 (show sp 3 10 = some 13 from rfl)
  refine x_getr C dMl_makeEmpty_51 fl_Ml_15 h0 hT (show sp 3 10 = some 13 from rfl) ?_
  obtain ⟨I11, e_54, h⟩ := bd1_some h
  refine x_callSv (av := fun ad => [.ref (rf O a0 10)]) C dMl_makeEmpty_54 mfRM_wipe msRM_wipe ln_Ml_58 (f_RM_wipe hT t_51 ⟨by decide, rfl⟩ e_54) rfl rfl (Nat.le_of_ble_eq_true rfl) ⟨Nat.le_of_ble_eq_true rfl, Nat.le_of_ble_eq_true rfl⟩ ⟨rfl, rfl⟩ ⟨Nat.zero_le _, Nat.zero_le _⟩ ?_
  refine g_aload_n C dMl_makeEmpty_57 rfl ?_
  have t_58 := rf_ok hT h0 (show sp 3 11 = some 11 from rfl)
  refine x_getr C dMl_makeEmpty_58 fl_Ml_19 h0 hT (show sp 3 11 = some 11 from rfl) ?_
  obtain ⟨I12, e_61, h⟩ := bd1_some h
  refine x_callSv (av := fun ad => [.ref (rf O a0 11)]) C dMl_makeEmpty_61 mfRM_wipe msRM_wipe ln_Ml_58 (f_RM_wipe hT t_58 ⟨by decide, rfl⟩ e_61) rfl rfl (Nat.le_of_ble_eq_true rfl) ⟨Nat.le_of_ble_eq_true rfl, Nat.le_of_ble_eq_true rfl⟩ ⟨rfl, rfl⟩ ⟨Nat.zero_le _, Nat.zero_le _⟩ ?_
  refine g_aload_n C dMl_makeEmpty_64 rfl ?_
  have t_65 := rf_ok hT h0 (show sp 3 12 = some 11 from rfl)
  refine x_getr C dMl_makeEmpty_65 fl_Ml_22 h0 hT (show sp 3 12 = some 11 from rfl) ?_
  obtain ⟨I13, e_68, h⟩ := bd1_some h
  refine x_callSv (av := fun ad => [.ref (rf O a0 12)]) C dMl_makeEmpty_68 mfRM_wipe msRM_wipe ln_Ml_58 (f_RM_wipe hT t_65 ⟨by decide, rfl⟩ e_68) rfl rfl (Nat.le_of_ble_eq_true rfl) ⟨Nat.le_of_ble_eq_true rfl, Nat.le_of_ble_eq_true rfl⟩ ⟨rfl, rfl⟩ ⟨Nat.zero_le _, Nat.zero_le _⟩ ?_
  refine g_aload_n C dMl_makeEmpty_71 rfl ?_
  have t_72 := rf_ok hT h0 (show sp 3 13 = some 12 from rfl)
  refine x_getr C dMl_makeEmpty_72 fl_Ml_25 h0 hT (show sp 3 13 = some 12 from rfl) ?_
  obtain ⟨I14, e_75, h⟩ := bd1_some h
  refine x_callSv (av := fun ad => [.ref (rf O a0 13)]) C dMl_makeEmpty_75 mfRM_wipe msRM_wipe ln_Ml_58 (f_RM_wipe hT t_72 ⟨by decide, rfl⟩ e_75) rfl rfl (Nat.le_of_ble_eq_true rfl) ⟨Nat.le_of_ble_eq_true rfl, Nat.le_of_ble_eq_true rfl⟩ ⟨rfl, rfl⟩ ⟨Nat.zero_le _, Nat.zero_le _⟩ ?_
  refine g_aload_n C dMl_makeEmpty_78 rfl ?_
  have t_79 := rf_ok hT h0 (show sp 3 14 = some 14 from rfl)
  refine x_getr C dMl_makeEmpty_79 fl_Ml_28 h0 hT (show sp 3 14 = some 14 from rfl) ?_
  obtain ⟨I15, e_82, h⟩ := bd1_some h
  refine x_callSv (av := fun ad => [.ref (rf O a0 14)]) C dMl_makeEmpty_82 mfRM_wipe msRM_wipe ln_Ml_58 (f_RM_wipe hT t_79 ⟨by decide, rfl⟩ e_82) rfl rfl (Nat.le_of_ble_eq_true rfl) ⟨Nat.le_of_ble_eq_true rfl, Nat.le_of_ble_eq_true rfl⟩ ⟨rfl, rfl⟩ ⟨Nat.zero_le _, Nat.zero_le _⟩ ?_
  exact x_vret1 C E dMl_makeEmpty_85 ⟨Nat.zero_le _, Nat.zero_le _⟩ h
def F_Ml_lacksLine (N : Nat) (O : WO) (I0 : WI) (J0 : WJ) (a0 : Nat) : Option (Int32) := jn (some (Int32.ofInt (1))) fun k_51 => if ((I0 a0 0)).toInt = 0 then (k_51 ) else (if ((I0 a0 2)).toInt = (-1) then (k_51 ) else (if ((I0 a0 4)).toInt = 0 then (k_51 ) else (if ((I0 a0 5)).toInt = 0 then (k_51 ) else (if ((I0 a0 9)).toInt = 0 then (k_51 ) else (if ((I0 a0 7)).toInt < 2 then (k_51 ) else (if ((I0 a0 8)).toInt = 0 then (k_51 ) else (some (Int32.ofInt (0)))))))))
set_option maxHeartbeats 4000000 in
set_option maxRecDepth 100000 in
theorem f_Ml_lacksLine {P : List Nat} {K : Nat → Nat} {N : Nat} {O : WO} {I0 : WI} {J0 : WJ} (hT : TR P K O) {a0 : Nat} (h0 : a0 ∈ P ∧ K a0 = 3) {r : Int32} (h : F_Ml_lacksLine N O I0 J0 a0 = some r) : Con yMl_lacksLine bMl_lacksLine 1 (some .boolean) ({ frames := 0, cells := 0, slots := 0, locals := 0 } : Room) P K I0 O J0 [.ref a0] (EPo (some (.int r)) I0 J0 P K O) := by
  refine Con.ofG mfMl_lacksLine (Nat.le_of_ble_eq_true rfl) ?_
  intro X C E
  unfold F_Ml_lacksLine at h
  refine g_aload_n C dMl_lacksLine_0 rfl ?_
  refine g_geti C dMl_lacksLine_1 fl_Ml_31 h0 ?_
  refine x_jn h (fun (k_51 : Option (Int32)) => k_51  = some r → GG X 1 P K I0 O J0 0 0 51 [(0, .ref a0)] []) (fun  h => ?_) (fun k_51 hk_51 h => ?_)
  · skip
    refine g_iconst (v := Int32.ofInt (1)) C dMl_lacksLine_51 (by decide) ?_
    refine g_goto 56 C dMl_lacksLine_52 (by decide) ?_
    exact x_zret0 C E dMl_lacksLine_56 (by decide) ⟨Nat.zero_le _, Nat.zero_le _⟩ h
  refine gt_if_eq 51 C dMl_lacksLine_4 (by decide) rfl (fun c_4 => ?_) (fun c_4 => ?_)
  · have h := x_pos c_4 h
    exact g_sub (hk_51  h) ⟨rfl, trivial⟩
  · have h := x_neg c_4 h
    refine g_aload_n C dMl_lacksLine_7 rfl ?_
    refine g_geti C dMl_lacksLine_8 fl_Ml_9 h0 ?_
    refine g_iconst (v := Int32.ofInt (-1)) C dMl_lacksLine_11 (by decide) ?_
    refine gt_icmp_eq 51 C dMl_lacksLine_12 (by decide) rfl (ofI (by decide)) (fun c_12 => ?_) (fun c_12 => ?_)
    · have h := x_pos c_12 h
      exact g_sub (hk_51  h) ⟨rfl, trivial⟩
    · have h := x_neg c_12 h
      refine g_aload_n C dMl_lacksLine_15 rfl ?_
      refine g_geti C dMl_lacksLine_16 fl_Ml_40 h0 ?_
      refine gt_if_eq 51 C dMl_lacksLine_19 (by decide) rfl (fun c_19 => ?_) (fun c_19 => ?_)
      · have h := x_pos c_19 h
        exact g_sub (hk_51  h) ⟨rfl, trivial⟩
      · have h := x_neg c_19 h
        refine g_aload_n C dMl_lacksLine_22 rfl ?_
        refine g_geti C dMl_lacksLine_23 fl_Ml_43 h0 ?_
        refine gt_if_eq 51 C dMl_lacksLine_26 (by decide) rfl (fun c_26 => ?_) (fun c_26 => ?_)
        · have h := x_pos c_26 h
          exact g_sub (hk_51  h) ⟨rfl, trivial⟩
        · have h := x_neg c_26 h
          refine g_aload_n C dMl_lacksLine_29 rfl ?_
          refine g_geti C dMl_lacksLine_30 fl_Ml_55 h0 ?_
          refine gt_if_eq 51 C dMl_lacksLine_33 (by decide) rfl (fun c_33 => ?_) (fun c_33 => ?_)
          · have h := x_pos c_33 h
            exact g_sub (hk_51  h) ⟨rfl, trivial⟩
          · have h := x_neg c_33 h
            refine g_aload_n C dMl_lacksLine_36 rfl ?_
            refine g_geti C dMl_lacksLine_37 fl_Ml_49 h0 ?_
            refine g_iconst (v := Int32.ofInt (2)) C dMl_lacksLine_40 (by decide) ?_
            refine gt_icmp_lt 51 C dMl_lacksLine_41 (by decide) rfl (ofI (by decide)) (fun c_41 => ?_) (fun c_41 => ?_)
            · have h := x_pos c_41 h
              exact g_sub (hk_51  h) ⟨rfl, trivial⟩
            · have h := x_neg (Int.not_lt.mpr c_41) h
              refine g_aload_n C dMl_lacksLine_44 rfl ?_
              refine g_geti C dMl_lacksLine_45 fl_Ml_52 h0 ?_
              refine gt_if_ne 55 C dMl_lacksLine_48 (by decide) rfl (fun c_48 => ?_) (fun c_48 => ?_)
              · have h := x_neg c_48 h
                refine g_iconst (v := Int32.ofInt (0)) C dMl_lacksLine_55 (by decide) ?_
                exact x_zret0 C E dMl_lacksLine_56 (by decide) ⟨Nat.zero_le _, Nat.zero_le _⟩ h
              · have h := x_pos c_48 h
                exact g_sub (hk_51  h) ⟨rfl, trivial⟩
def F_Rd_hasRoomFor (N : Nat) (O : WO) (I0 : WI) (J0 : WJ) (a0 : Nat) (x1 : Int32) : Option (Int32) := if 700 < (((I0 a0 1) + x1)).toInt then (some (Int32.ofInt (0))) else (some (Int32.ofInt (1)))
set_option maxHeartbeats 4000000 in
set_option maxRecDepth 100000 in
theorem f_Rd_hasRoomFor {P : List Nat} {K : Nat → Nat} {N : Nat} {O : WO} {I0 : WI} {J0 : WJ} (hT : TR P K O) {a0 : Nat} (h0 : a0 ∈ P ∧ K a0 = 5) {x1 : Int32} {r : Int32} (h : F_Rd_hasRoomFor N O I0 J0 a0 x1 = some r) : Con yRd_hasRoomFor bRd_hasRoomFor 2 (some .boolean) ({ frames := 0, cells := 0, slots := 0, locals := 0 } : Room) P K I0 O J0 [.ref a0, .int x1] (EPo (some (.int r)) I0 J0 P K O) := by
  refine Con.ofG mfRd_hasRoomFor (Nat.le_of_ble_eq_true rfl) ?_
  intro X C E
  unfold F_Rd_hasRoomFor at h
  refine g_aload_n C dRd_hasRoomFor_0 rfl ?_
  refine g_geti C dRd_hasRoomFor_1 fl_Rd_22 h0 ?_
  refine g_iload_n C dRd_hasRoomFor_4 rfl ?_
  refine g_iadd C dRd_hasRoomFor_5 ?_
  refine g_sipush (v := Int32.ofInt (700)) C dRd_hasRoomFor_6 (by decide) ?_
  refine gt_icmp_gt 16 C dRd_hasRoomFor_9 (by decide) rfl (ofI (by decide)) (fun c_9 => ?_) (fun c_9 => ?_)
  · have h := x_pos c_9 h
    refine g_iconst (v := Int32.ofInt (0)) C dRd_hasRoomFor_16 (by decide) ?_
    exact x_zret0 C E dRd_hasRoomFor_17 (by decide) ⟨Nat.zero_le _, Nat.zero_le _⟩ h
  · have h := x_neg (Int.not_lt.mpr c_9) h
    refine g_iconst (v := Int32.ofInt (1)) C dRd_hasRoomFor_12 (by decide) ?_
    refine g_goto 17 C dRd_hasRoomFor_13 (by decide) ?_
    exact x_zret0 C E dRd_hasRoomFor_17 (by decide) ⟨Nat.zero_le _, Nat.zero_le _⟩ h
def B_Rd_append_3 (N : Nat) (O : WO) (a0 : Nat) (x1 : Int32) (rec_3 : Int32 → WI → Option (WI)) (x2_3 : Int32) (I_3 : WI) : Option (WI) := if (x2_3).toInt < 0 then (some I_3) else (if ((I_3 a0 1)).toInt < 0 then (some I_3) else (if 700 ≤ ((I_3 a0 1)).toInt then (some I_3) else (if 0 ≤ ((I_3 a0 1)).toInt ∧ ((I_3 a0 1)).toInt < 700 then (lb (up2 I_3 (rf O a0 0) ((I_3 a0 1)).toInt.toNat (vp_nar .byte ((x1 >>> (x2_3 &&& 31))).toInt8.toInt32)) fun I1 => lb (up2 I1 a0 1 ((I1 a0 1) + (Int32.ofInt (1)))) fun I2 => lb (x2_3 + Int32.ofInt (-8)) fun v2_47 => rec_3 (v2_47) I2) else none)))
def F_Rd_append (N : Nat) (O : WO) (I0 : WI) (J0 : WJ) (a0 : Nat) (x1 : Int32) : Option (WI) := lp (B_Rd_append_3 N O a0 x1) (fun _ _ => none) N ((Int32.ofInt (24))) I0
set_option maxHeartbeats 4000000 in
set_option maxRecDepth 100000 in
theorem f_Rd_append {P : List Nat} {K : Nat → Nat} {N : Nat} {O : WO} {I0 : WI} {J0 : WJ} (hT : TR P K O) {a0 : Nat} (h0 : a0 ∈ P ∧ K a0 = 5) {x1 : Int32} {I' : WI} (h : F_Rd_append N O I0 J0 a0 x1 = some I') : Con yRd_append bRd_append 3 none ({ frames := 0, cells := 0, slots := 0, locals := 0 } : Room) P K I0 O J0 [.ref a0, .int x1] (EPo none I' J0 P K O) := by
  refine Con.ofG mfRd_append (Nat.le_of_ble_eq_true rfl) ?_
  intro X C E
  unfold F_Rd_append at h
  refine g_bipush (v := Int32.ofInt (24)) C dRd_append_0 (by decide) ?_
  refine g_istore_n (i := 2) C dRd_append_2 rfl (by decide) ?_
  have lp_3 : ∀ (x2_3 : Int32) (I_3 : WI), lp (B_Rd_append_3 N O a0 x1) (fun _ _ => none) N x2_3 I_3 = some I' → GG X 3 P K I_3 O J0 0 0 3 [(0, .ref a0), (1, .int x1), (2, .int x2_3)] [] := by
    refine x_lp (fun (rec_3 : Int32 → WI → Option (WI)) => ∀ (x2_3 : Int32) (I_3 : WI), rec_3 x2_3 I_3 = some I' → GG X 3 P K I_3 O J0 0 0 3 [(0, .ref a0), (1, .int x1), (2, .int x2_3)] []) (fun _ _ h => by cases h) (fun rec_3 hr_3 x2_3 I_3 h => ?_) N
    unfold B_Rd_append_3 at h
    refine g_iload_n C dRd_append_3 rfl ?_
    refine gt_if_lt 53 C dRd_append_4 (by decide) rfl (fun c_4 => ?_) (fun c_4 => ?_)
    · have h := x_pos c_4 h
      exact x_vret1 C E dRd_append_53 ⟨Nat.zero_le _, Nat.zero_le _⟩ h
    · have h := x_neg (Int.not_lt.mpr c_4) h
      refine g_aload_n C dRd_append_7 rfl ?_
      refine g_geti C dRd_append_8 fl_Rd_22 h0 ?_
      refine gt_if_lt 53 C dRd_append_11 (by decide) rfl (fun c_11 => ?_) (fun c_11 => ?_)
      · have h := x_pos c_11 h
        exact x_vret1 C E dRd_append_53 ⟨Nat.zero_le _, Nat.zero_le _⟩ h
      · have h := x_neg (Int.not_lt.mpr c_11) h
        refine g_aload_n C dRd_append_14 rfl ?_
        refine g_geti C dRd_append_15 fl_Rd_22 h0 ?_
        refine g_sipush (v := Int32.ofInt (700)) C dRd_append_18 (by decide) ?_
        refine gt_icmp_ge 53 C dRd_append_21 (by decide) rfl (ofI (by decide)) (fun c_21 => ?_) (fun c_21 => ?_)
        · have h := x_pos c_21 h
          exact x_vret1 C E dRd_append_53 ⟨Nat.zero_le _, Nat.zero_le _⟩ h
        · have h := x_neg (Int.not_le.mpr c_21) h
          refine g_aload_n C dRd_append_24 rfl ?_
          have t_25 := rf_ok hT h0 (show sp 5 0 = some 15 from rfl)
          refine x_getr C dRd_append_25 fl_Rd_11 h0 hT (show sp 5 0 = some 15 from rfl) ?_
          refine g_aload_n C dRd_append_28 rfl ?_
          refine g_geti C dRd_append_29 fl_Rd_22 h0 ?_
          refine g_iload_n C dRd_append_32 rfl ?_
          refine g_iload_n C dRd_append_33 rfl ?_
          refine g_ishr C dRd_append_34 ?_
          refine g_i2b C dRd_append_35 ?_
          obtain ⟨g_36, h⟩ := x_g h
          refine x_bast (m := 700) C dRd_append_36 t_25 (by decide) rfl rfl g_36 h (fun I1 h => ?_)
          refine g_aload_n C dRd_append_37 rfl ?_
          refine g_dup C dRd_append_38 rfl ?_
          refine g_geti C dRd_append_39 fl_Rd_22 h0 ?_
          refine g_iconst (v := Int32.ofInt (1)) C dRd_append_42 (by decide) ?_
          refine g_iadd C dRd_append_43 ?_
          refine x_puti C dRd_append_44 fl_Rd_22 h0 rfl (Or.inl rfl) h (fun I2 h => ?_)
          refine x_iinc C dRd_append_47 rfl (by decide) h (fun v2_47 h => ?_)
          refine g_goto 3 C dRd_append_50 (by decide) ?_
          exact g_sub (hr_3 (v2_47) I2 h) ⟨rfl, rfl, rfl, trivial⟩
  exact g_sub (lp_3 ((Int32.ofInt (24))) I0 h) ⟨rfl, rfl, rfl, trivial⟩
def F_Rd_fail (N : Nat) (O : WO) (I0 : WI) (J0 : WJ) (a0 : Nat) (x1 : Int32) : Option (Int32 × WI) := lb (up2 I0 a0 2 x1) fun I1 => some ((Int32.ofInt (0)), I1)
set_option maxHeartbeats 4000000 in
set_option maxRecDepth 100000 in
theorem f_Rd_fail {P : List Nat} {K : Nat → Nat} {N : Nat} {O : WO} {I0 : WI} {J0 : WJ} (hT : TR P K O) {a0 : Nat} (h0 : a0 ∈ P ∧ K a0 = 5) {x1 : Int32} {r : Int32} {I' : WI} (h : F_Rd_fail N O I0 J0 a0 x1 = some (r, I')) : Con yRd_fail bRd_fail 2 (some .boolean) ({ frames := 0, cells := 0, slots := 0, locals := 0 } : Room) P K I0 O J0 [.ref a0, .int x1] (EPo (some (.int r)) I' J0 P K O) := by
  refine Con.ofG mfRd_fail (Nat.le_of_ble_eq_true rfl) ?_
  intro X C E
  unfold F_Rd_fail at h
  refine g_aload_n C dRd_fail_0 rfl ?_
  refine g_iload_n C dRd_fail_1 rfl ?_
  refine x_puti C dRd_fail_2 fl_Rd_31 h0 rfl (Or.inl rfl) h (fun I1 h => ?_)
  refine g_iconst (v := Int32.ofInt (0)) C dRd_fail_5 (by decide) ?_
  exact x_zret1 C E dRd_fail_6 (by decide) ⟨Nat.zero_le _, Nat.zero_le _⟩ h
def F_Rd_byteAt (N : Nat) (O : WO) (I0 : WI) (J0 : WJ) (a0 : Nat) (x1 : Int32) : Option (Int32) := if (x1).toInt < 0 then (some (Int32.ofInt (-1))) else (if ((I0 a0 4)).toInt ≤ (x1).toInt then (some (Int32.ofInt (-1))) else (if 700 ≤ (x1).toInt then (some (Int32.ofInt (-1))) else (if 0 ≤ (x1).toInt ∧ (x1).toInt < 700 then (some (I0 (rf O a0 0) (x1).toInt.toNat)) else none)))
set_option maxHeartbeats 4000000 in
set_option maxRecDepth 100000 in
theorem f_Rd_byteAt {P : List Nat} {K : Nat → Nat} {N : Nat} {O : WO} {I0 : WI} {J0 : WJ} (hT : TR P K O) {a0 : Nat} (h0 : a0 ∈ P ∧ K a0 = 5) {x1 : Int32} {r : Int32} (h : F_Rd_byteAt N O I0 J0 a0 x1 = some r) : Con yRd_byteAt bRd_byteAt 2 (some .int) ({ frames := 0, cells := 0, slots := 0, locals := 0 } : Room) P K I0 O J0 [.ref a0, .int x1] (EPo (some (.int r)) I0 J0 P K O) := by
  refine Con.ofG mfRd_byteAt (Nat.le_of_ble_eq_true rfl) ?_
  intro X C E
  unfold F_Rd_byteAt at h
  refine g_iload_n C dRd_byteAt_0 rfl ?_
  refine gt_if_lt 28 C dRd_byteAt_1 (by decide) rfl (fun c_1 => ?_) (fun c_1 => ?_)
  · have h := x_pos c_1 h
    refine g_iconst (v := Int32.ofInt (-1)) C dRd_byteAt_28 (by decide) ?_
    exact x_iret0 C E dRd_byteAt_29 ⟨Nat.zero_le _, Nat.zero_le _⟩ h
  · have h := x_neg (Int.not_lt.mpr c_1) h
    refine g_iload_n C dRd_byteAt_4 rfl ?_
    refine g_aload_n C dRd_byteAt_5 rfl ?_
    refine g_geti C dRd_byteAt_6 fl_Rd_34 h0 ?_
    refine gt_icmp_ge 28 C dRd_byteAt_9 (by decide) rfl rfl (fun c_9 => ?_) (fun c_9 => ?_)
    · have h := x_pos c_9 h
      refine g_iconst (v := Int32.ofInt (-1)) C dRd_byteAt_28 (by decide) ?_
      exact x_iret0 C E dRd_byteAt_29 ⟨Nat.zero_le _, Nat.zero_le _⟩ h
    · have h := x_neg (Int.not_le.mpr c_9) h
      refine g_iload_n C dRd_byteAt_12 rfl ?_
      refine g_sipush (v := Int32.ofInt (700)) C dRd_byteAt_13 (by decide) ?_
      refine gt_icmp_ge 28 C dRd_byteAt_16 (by decide) rfl (ofI (by decide)) (fun c_16 => ?_) (fun c_16 => ?_)
      · have h := x_pos c_16 h
        refine g_iconst (v := Int32.ofInt (-1)) C dRd_byteAt_28 (by decide) ?_
        exact x_iret0 C E dRd_byteAt_29 ⟨Nat.zero_le _, Nat.zero_le _⟩ h
      · have h := x_neg (Int.not_le.mpr c_16) h
        refine g_aload_n C dRd_byteAt_19 rfl ?_
        have t_20 := rf_ok hT h0 (show sp 5 0 = some 15 from rfl)
        refine x_getr C dRd_byteAt_20 fl_Rd_11 h0 hT (show sp 5 0 = some 15 from rfl) ?_
        refine g_iload_n C dRd_byteAt_23 rfl ?_
        obtain ⟨g_24, h⟩ := x_g h
        refine x_bald (m := 700) C dRd_byteAt_24 t_20 (by decide) rfl rfl g_24 ?_
        refine g_goto 29 C dRd_byteAt_25 (by decide) ?_
        exact x_iret0 C E dRd_byteAt_29 ⟨Nat.zero_le _, Nat.zero_le _⟩ h
def F_Rd_isLetter (N : Nat) (O : WO) (I0 : WI) (J0 : WJ) (x0 : Int32) : Option (Int32) := if (x0).toInt < 97 then (some (Int32.ofInt (0))) else (if 122 < (x0).toInt then (some (Int32.ofInt (0))) else (some (Int32.ofInt (1))))
set_option maxHeartbeats 4000000 in
set_option maxRecDepth 100000 in
theorem f_Rd_isLetter {P : List Nat} {K : Nat → Nat} {N : Nat} {O : WO} {I0 : WI} {J0 : WJ} (hT : TR P K O) {x0 : Int32} {r : Int32} (h : F_Rd_isLetter N O I0 J0 x0 = some r) : Con yRd_isLetter bRd_isLetter 1 (some .boolean) ({ frames := 0, cells := 0, slots := 0, locals := 0 } : Room) P K I0 O J0 [.int x0] (EPo (some (.int r)) I0 J0 P K O) := by
  refine Con.ofG mfRd_isLetter (Nat.le_of_ble_eq_true rfl) ?_
  intro X C E
  unfold F_Rd_isLetter at h
  refine g_iload_n C dRd_isLetter_0 rfl ?_
  refine g_bipush (v := Int32.ofInt (97)) C dRd_isLetter_1 (by decide) ?_
  refine gt_icmp_lt 16 C dRd_isLetter_3 (by decide) rfl (ofI (by decide)) (fun c_3 => ?_) (fun c_3 => ?_)
  · have h := x_pos c_3 h
    refine g_iconst (v := Int32.ofInt (0)) C dRd_isLetter_16 (by decide) ?_
    exact x_zret0 C E dRd_isLetter_17 (by decide) ⟨Nat.zero_le _, Nat.zero_le _⟩ h
  · have h := x_neg (Int.not_lt.mpr c_3) h
    refine g_iload_n C dRd_isLetter_6 rfl ?_
    refine g_bipush (v := Int32.ofInt (122)) C dRd_isLetter_7 (by decide) ?_
    refine gt_icmp_gt 16 C dRd_isLetter_9 (by decide) rfl (ofI (by decide)) (fun c_9 => ?_) (fun c_9 => ?_)
    · have h := x_pos c_9 h
      refine g_iconst (v := Int32.ofInt (0)) C dRd_isLetter_16 (by decide) ?_
      exact x_zret0 C E dRd_isLetter_17 (by decide) ⟨Nat.zero_le _, Nat.zero_le _⟩ h
    · have h := x_neg (Int.not_lt.mpr c_9) h
      refine g_iconst (v := Int32.ofInt (1)) C dRd_isLetter_12 (by decide) ?_
      refine g_goto 17 C dRd_isLetter_13 (by decide) ?_
      exact x_zret0 C E dRd_isLetter_17 (by decide) ⟨Nat.zero_le _, Nat.zero_le _⟩ h
def F_Rd_isDigit (N : Nat) (O : WO) (I0 : WI) (J0 : WJ) (x0 : Int32) : Option (Int32) := if (x0).toInt < 48 then (some (Int32.ofInt (0))) else (if 57 < (x0).toInt then (some (Int32.ofInt (0))) else (some (Int32.ofInt (1))))
set_option maxHeartbeats 4000000 in
set_option maxRecDepth 100000 in
theorem f_Rd_isDigit {P : List Nat} {K : Nat → Nat} {N : Nat} {O : WO} {I0 : WI} {J0 : WJ} (hT : TR P K O) {x0 : Int32} {r : Int32} (h : F_Rd_isDigit N O I0 J0 x0 = some r) : Con yRd_isDigit bRd_isDigit 1 (some .boolean) ({ frames := 0, cells := 0, slots := 0, locals := 0 } : Room) P K I0 O J0 [.int x0] (EPo (some (.int r)) I0 J0 P K O) := by
  refine Con.ofG mfRd_isDigit (Nat.le_of_ble_eq_true rfl) ?_
  intro X C E
  unfold F_Rd_isDigit at h
  refine g_iload_n C dRd_isDigit_0 rfl ?_
  refine g_bipush (v := Int32.ofInt (48)) C dRd_isDigit_1 (by decide) ?_
  refine gt_icmp_lt 16 C dRd_isDigit_3 (by decide) rfl (ofI (by decide)) (fun c_3 => ?_) (fun c_3 => ?_)
  · have h := x_pos c_3 h
    refine g_iconst (v := Int32.ofInt (0)) C dRd_isDigit_16 (by decide) ?_
    exact x_zret0 C E dRd_isDigit_17 (by decide) ⟨Nat.zero_le _, Nat.zero_le _⟩ h
  · have h := x_neg (Int.not_lt.mpr c_3) h
    refine g_iload_n C dRd_isDigit_6 rfl ?_
    refine g_bipush (v := Int32.ofInt (57)) C dRd_isDigit_7 (by decide) ?_
    refine gt_icmp_gt 16 C dRd_isDigit_9 (by decide) rfl (ofI (by decide)) (fun c_9 => ?_) (fun c_9 => ?_)
    · have h := x_pos c_9 h
      refine g_iconst (v := Int32.ofInt (0)) C dRd_isDigit_16 (by decide) ?_
      exact x_zret0 C E dRd_isDigit_17 (by decide) ⟨Nat.zero_le _, Nat.zero_le _⟩ h
    · have h := x_neg (Int.not_lt.mpr c_9) h
      refine g_iconst (v := Int32.ofInt (1)) C dRd_isDigit_12 (by decide) ?_
      refine g_goto 17 C dRd_isDigit_13 (by decide) ?_
      exact x_zret0 C E dRd_isDigit_17 (by decide) ⟨Nat.zero_le _, Nat.zero_le _⟩ h
def B_Rd_stepWord_0 (N : Nat) (O : WO) (a0 : Nat) (J0 : WJ) (rec_0 : WI → Option (WI)) (I_0 : WI) : Option (WI) := jn (fun (IJ_38 : WI) => jn (fun (s0_58 : Int32) => lb (up2 IJ_38 a0 6 s0_58) fun I1 => some I1) fun k_58 => if (((IJ_38 a0 5) - (IJ_38 a0 3))).toInt ≤ 8 then (k_58 ((Int32.ofInt (2)))) else (k_58 ((Int32.ofInt (1))))) fun k_38 => if ((I_0 a0 4)).toInt ≤ ((I_0 a0 5)).toInt then (k_38  I_0) else (bd1 (F_Rd_byteAt N O I_0 J0 a0 (I_0 a0 5)) fun z_16 => bd1 (F_Rd_isLetter N O I_0 J0 z_16) fun z_19 => if (z_19).toInt = 0 then (k_38  I_0) else (lb (up2 I_0 a0 5 ((I_0 a0 5) + (Int32.ofInt (1)))) fun I4 => rec_0  I4))
def F_Rd_stepWord (N : Nat) (O : WO) (I0 : WI) (J0 : WJ) (a0 : Nat) : Option (WI) := lp (B_Rd_stepWord_0 N O a0 J0) (fun _ => none) N  I0
set_option maxHeartbeats 4000000 in
set_option maxRecDepth 100000 in
theorem f_Rd_stepWord {P : List Nat} {K : Nat → Nat} {N : Nat} {O : WO} {I0 : WI} {J0 : WJ} (hT : TR P K O) {a0 : Nat} (h0 : a0 ∈ P ∧ K a0 = 5) {I' : WI} (h : F_Rd_stepWord N O I0 J0 a0 = some I') : Con yRd_stepWord bRd_stepWord 1 none ({ frames := 1, cells := 0, slots := 0, locals := 21 } : Room) P K I0 O J0 [.ref a0] (EPo none I' J0 P K O) := by
  refine Con.ofG mfRd_stepWord (Nat.le_of_ble_eq_true rfl) ?_
  intro X C E
  unfold F_Rd_stepWord at h
  have lp_0 : ∀ (I_0 : WI), lp (B_Rd_stepWord_0 N O a0 J0) (fun _ => none) N I_0 = some I' → GG X 1 P K I_0 O J0 0 0 0 [(0, .ref a0)] [] := by
    refine x_lp (fun (rec_0 : WI → Option (WI)) => ∀ (I_0 : WI), rec_0 I_0 = some I' → GG X 1 P K I_0 O J0 0 0 0 [(0, .ref a0)] []) (fun _ h => by cases h) (fun rec_0 hr_0 I_0 h => ?_) N
    unfold B_Rd_stepWord_0 at h
    refine g_aload_n C dRd_stepWord_0 rfl ?_
    refine g_geti C dRd_stepWord_1 fl_Rd_37 h0 ?_
    refine g_aload_n C dRd_stepWord_4 rfl ?_
    refine g_geti C dRd_stepWord_5 fl_Rd_34 h0 ?_
    refine x_jn h (fun (k_38 : WI → Option (WI)) => ∀ (IJ_38 : WI), k_38 IJ_38 = some I' → GG X 1 P K IJ_38 O J0 0 0 38 [(0, .ref a0)] []) (fun IJ_38 h => ?_) (fun k_38 hk_38 h => ?_)
    · skip
      refine g_aload_n C dRd_stepWord_38 rfl ?_
      refine g_aload_n C dRd_stepWord_39 rfl ?_
      refine g_geti C dRd_stepWord_40 fl_Rd_37 h0 ?_
      refine g_aload_n C dRd_stepWord_43 rfl ?_
      refine g_geti C dRd_stepWord_44 fl_Rd_62 h0 ?_
      refine g_isub C dRd_stepWord_47 ?_
      refine g_bipush (v := Int32.ofInt (8)) C dRd_stepWord_48 (by decide) ?_
      refine x_jn h (fun (k_58 : Int32 → Option (WI)) => ∀ (s0_58 : Int32), k_58 s0_58 = some I' → GG X 1 P K IJ_38 O J0 0 0 58 [(0, .ref a0)] [.int s0_58, .ref a0]) (fun s0_58 h => ?_) (fun k_58 hk_58 h => ?_)
      · skip
        refine x_puti C dRd_stepWord_58 fl_Rd_47 h0 rfl (Or.inl rfl) h (fun I1 h => ?_)
        exact x_vret1 C E dRd_stepWord_61 ⟨Nat.zero_le _, Nat.zero_le _⟩ h
      refine gt_icmp_le 57 C dRd_stepWord_50 (by decide) rfl (ofI (by decide)) (fun c_50 => ?_) (fun c_50 => ?_)
      · have h := x_pos c_50 h
        refine g_iconst (v := Int32.ofInt (2)) C dRd_stepWord_57 (by decide) ?_
        exact g_sub (hk_58 ((Int32.ofInt (2))) h) ⟨rfl, trivial⟩
      · have h := x_neg (Int.not_le.mpr c_50) h
        refine g_iconst (v := Int32.ofInt (1)) C dRd_stepWord_53 (by decide) ?_
        refine g_goto 58 C dRd_stepWord_54 (by decide) ?_
        exact g_sub (hk_58 ((Int32.ofInt (1))) h) ⟨rfl, trivial⟩
    refine gt_icmp_ge 38 C dRd_stepWord_8 (by decide) rfl rfl (fun c_8 => ?_) (fun c_8 => ?_)
    · have h := x_pos c_8 h
      exact g_sub (hk_38  I_0 h) ⟨rfl, trivial⟩
    · have h := x_neg (Int.not_le.mpr c_8) h
      refine g_aload_n C dRd_stepWord_11 rfl ?_
      refine g_aload_n C dRd_stepWord_12 rfl ?_
      refine g_geti C dRd_stepWord_13 fl_Rd_37 h0 ?_
      obtain ⟨z_16, e_16, h⟩ := bd1_some h
      refine x_callVi (av := fun ad => [.int (I_0 a0 5)]) C dRd_stepWord_16 mfRd_byteAt mvRd_byteAt ln_Rd_65 h0 (by decide) rfl (f_Rd_byteAt hT h0 e_16) rfl rfl (Nat.le_of_ble_eq_true rfl) ⟨Nat.le_of_ble_eq_true rfl, Nat.le_of_ble_eq_true rfl⟩ ⟨rfl, rfl⟩ ⟨Nat.zero_le _, Nat.zero_le _⟩ ?_
      obtain ⟨z_19, e_19, h⟩ := bd1_some h
      refine x_callSi (av := fun ad => [.int z_16]) C dRd_stepWord_19 mfRd_isLetter msRd_isLetter ln_Rd_69 (f_Rd_isLetter hT  e_19) rfl rfl (Nat.le_of_ble_eq_true rfl) ⟨Nat.le_of_ble_eq_true rfl, Nat.le_of_ble_eq_true rfl⟩ ⟨rfl, rfl⟩ ⟨Nat.zero_le _, Nat.zero_le _⟩ ?_
      refine gt_if_eq 38 C dRd_stepWord_22 (by decide) rfl (fun c_22 => ?_) (fun c_22 => ?_)
      · have h := x_pos c_22 h
        exact g_sub (hk_38  I_0 h) ⟨rfl, trivial⟩
      · have h := x_neg c_22 h
        refine g_aload_n C dRd_stepWord_25 rfl ?_
        refine g_dup C dRd_stepWord_26 rfl ?_
        refine g_geti C dRd_stepWord_27 fl_Rd_37 h0 ?_
        refine g_iconst (v := Int32.ofInt (1)) C dRd_stepWord_30 (by decide) ?_
        refine g_iadd C dRd_stepWord_31 ?_
        refine x_puti C dRd_stepWord_32 fl_Rd_37 h0 rfl (Or.inl rfl) h (fun I4 h => ?_)
        refine g_goto 0 C dRd_stepWord_35 (by decide) ?_
        exact g_sub (hr_0  I4 h) ⟨rfl, trivial⟩
  exact g_sub (lp_0  I0 h) ⟨rfl, trivial⟩
def B_Rd_stepWhole_5 (N : Nat) (O : WO) (a0 : Nat) (J0 : WJ) (rec_5 : WI → Option (WI)) (I_5 : WI) : Option (WI) := jn (fun (IJ_66 : WI) => jn (fun (s0_85 : Int32) => lb (up2 IJ_66 a0 6 s0_85) fun I2 => some I2) fun k_85 => if (((IJ_66 a0 5) - (IJ_66 a0 3))).toInt ≤ 3 then (k_85 ((Int32.ofInt (3)))) else (k_85 ((Int32.ofInt (1))))) fun k_66 => if ((I_5 a0 4)).toInt ≤ ((I_5 a0 5)).toInt then (k_66  I_5) else (bd1 (F_Rd_byteAt N O I_5 J0 a0 (I_5 a0 5)) fun z_21 => bd1 (F_Rd_isDigit N O I_5 J0 z_21) fun z_24 => if (z_24).toInt = 0 then (k_66  I_5) else (bd1 (F_Rd_byteAt N O I_5 J0 a0 (I_5 a0 5)) fun z_43 => lb (up2 I_5 a0 7 ((((I_5 a0 7) * (Int32.ofInt (10))) + z_43) - (Int32.ofInt (48)))) fun I6 => lb (up2 I6 a0 5 ((I6 a0 5) + (Int32.ofInt (1)))) fun I7 => rec_5  I7))
def F_Rd_stepWhole (N : Nat) (O : WO) (I0 : WI) (J0 : WJ) (a0 : Nat) : Option (WI) := lb (up2 I0 a0 7 (Int32.ofInt (0))) fun I1 => lp (B_Rd_stepWhole_5 N O a0 J0) (fun _ => none) N  I1
set_option maxHeartbeats 4000000 in
set_option maxRecDepth 100000 in
theorem f_Rd_stepWhole {P : List Nat} {K : Nat → Nat} {N : Nat} {O : WO} {I0 : WI} {J0 : WJ} (hT : TR P K O) {a0 : Nat} (h0 : a0 ∈ P ∧ K a0 = 5) {I' : WI} (h : F_Rd_stepWhole N O I0 J0 a0 = some I') : Con yRd_stepWhole bRd_stepWhole 1 none ({ frames := 1, cells := 0, slots := 0, locals := 21 } : Room) P K I0 O J0 [.ref a0] (EPo none I' J0 P K O) := by
  refine Con.ofG mfRd_stepWhole (Nat.le_of_ble_eq_true rfl) ?_
  intro X C E
  unfold F_Rd_stepWhole at h
  refine g_aload_n C dRd_stepWhole_0 rfl ?_
  refine g_iconst (v := Int32.ofInt (0)) C dRd_stepWhole_1 (by decide) ?_
  refine x_puti C dRd_stepWhole_2 fl_Rd_81 h0 rfl (Or.inl rfl) h (fun I1 h => ?_)
  have lp_5 : ∀ (I_5 : WI), lp (B_Rd_stepWhole_5 N O a0 J0) (fun _ => none) N I_5 = some I' → GG X 1 P K I_5 O J0 0 0 5 [(0, .ref a0)] [] := by
    refine x_lp (fun (rec_5 : WI → Option (WI)) => ∀ (I_5 : WI), rec_5 I_5 = some I' → GG X 1 P K I_5 O J0 0 0 5 [(0, .ref a0)] []) (fun _ h => by cases h) (fun rec_5 hr_5 I_5 h => ?_) N
    unfold B_Rd_stepWhole_5 at h
    refine g_aload_n C dRd_stepWhole_5 rfl ?_
    refine g_geti C dRd_stepWhole_6 fl_Rd_37 h0 ?_
    refine g_aload_n C dRd_stepWhole_9 rfl ?_
    refine g_geti C dRd_stepWhole_10 fl_Rd_34 h0 ?_
    refine x_jn h (fun (k_66 : WI → Option (WI)) => ∀ (IJ_66 : WI), k_66 IJ_66 = some I' → GG X 1 P K IJ_66 O J0 0 0 66 [(0, .ref a0)] []) (fun IJ_66 h => ?_) (fun k_66 hk_66 h => ?_)
    · skip
      refine g_aload_n C dRd_stepWhole_66 rfl ?_
      refine g_aload_n C dRd_stepWhole_67 rfl ?_
      refine g_geti C dRd_stepWhole_68 fl_Rd_37 h0 ?_
      refine g_aload_n C dRd_stepWhole_71 rfl ?_
      refine g_geti C dRd_stepWhole_72 fl_Rd_62 h0 ?_
      refine g_isub C dRd_stepWhole_75 ?_
      refine g_iconst (v := Int32.ofInt (3)) C dRd_stepWhole_76 (by decide) ?_
      refine x_jn h (fun (k_85 : Int32 → Option (WI)) => ∀ (s0_85 : Int32), k_85 s0_85 = some I' → GG X 1 P K IJ_66 O J0 0 0 85 [(0, .ref a0)] [.int s0_85, .ref a0]) (fun s0_85 h => ?_) (fun k_85 hk_85 h => ?_)
      · skip
        refine x_puti C dRd_stepWhole_85 fl_Rd_47 h0 rfl (Or.inl rfl) h (fun I2 h => ?_)
        exact x_vret1 C E dRd_stepWhole_88 ⟨Nat.zero_le _, Nat.zero_le _⟩ h
      refine gt_icmp_le 84 C dRd_stepWhole_77 (by decide) rfl (ofI (by decide)) (fun c_77 => ?_) (fun c_77 => ?_)
      · have h := x_pos c_77 h
        refine g_iconst (v := Int32.ofInt (3)) C dRd_stepWhole_84 (by decide) ?_
        exact g_sub (hk_85 ((Int32.ofInt (3))) h) ⟨rfl, trivial⟩
      · have h := x_neg (Int.not_le.mpr c_77) h
        refine g_iconst (v := Int32.ofInt (1)) C dRd_stepWhole_80 (by decide) ?_
        refine g_goto 85 C dRd_stepWhole_81 (by decide) ?_
        exact g_sub (hk_85 ((Int32.ofInt (1))) h) ⟨rfl, trivial⟩
    refine gt_icmp_ge 66 C dRd_stepWhole_13 (by decide) rfl rfl (fun c_13 => ?_) (fun c_13 => ?_)
    · have h := x_pos c_13 h
      exact g_sub (hk_66  I_5 h) ⟨rfl, trivial⟩
    · have h := x_neg (Int.not_le.mpr c_13) h
      refine g_aload_n C dRd_stepWhole_16 rfl ?_
      refine g_aload_n C dRd_stepWhole_17 rfl ?_
      refine g_geti C dRd_stepWhole_18 fl_Rd_37 h0 ?_
      obtain ⟨z_21, e_21, h⟩ := bd1_some h
      refine x_callVi (av := fun ad => [.int (I_5 a0 5)]) C dRd_stepWhole_21 mfRd_byteAt mvRd_byteAt ln_Rd_65 h0 (by decide) rfl (f_Rd_byteAt hT h0 e_21) rfl rfl (Nat.le_of_ble_eq_true rfl) ⟨Nat.le_of_ble_eq_true rfl, Nat.le_of_ble_eq_true rfl⟩ ⟨rfl, rfl⟩ ⟨Nat.zero_le _, Nat.zero_le _⟩ ?_
      obtain ⟨z_24, e_24, h⟩ := bd1_some h
      refine x_callSi (av := fun ad => [.int z_21]) C dRd_stepWhole_24 mfRd_isDigit msRd_isDigit ln_Rd_75 (f_Rd_isDigit hT  e_24) rfl rfl (Nat.le_of_ble_eq_true rfl) ⟨Nat.le_of_ble_eq_true rfl, Nat.le_of_ble_eq_true rfl⟩ ⟨rfl, rfl⟩ ⟨Nat.zero_le _, Nat.zero_le _⟩ ?_
      refine gt_if_eq 66 C dRd_stepWhole_27 (by decide) rfl (fun c_27 => ?_) (fun c_27 => ?_)
      · have h := x_pos c_27 h
        exact g_sub (hk_66  I_5 h) ⟨rfl, trivial⟩
      · have h := x_neg c_27 h
        refine g_aload_n C dRd_stepWhole_30 rfl ?_
        refine g_aload_n C dRd_stepWhole_31 rfl ?_
        refine g_geti C dRd_stepWhole_32 fl_Rd_81 h0 ?_
        refine g_bipush (v := Int32.ofInt (10)) C dRd_stepWhole_35 (by decide) ?_
        refine g_imul C dRd_stepWhole_37 ?_
        refine g_aload_n C dRd_stepWhole_38 rfl ?_
        refine g_aload_n C dRd_stepWhole_39 rfl ?_
        refine g_geti C dRd_stepWhole_40 fl_Rd_37 h0 ?_
        obtain ⟨z_43, e_43, h⟩ := bd1_some h
        refine x_callVi (av := fun ad => [.int (I_5 a0 5)]) C dRd_stepWhole_43 mfRd_byteAt mvRd_byteAt ln_Rd_65 h0 (by decide) rfl (f_Rd_byteAt hT h0 e_43) rfl rfl (Nat.le_of_ble_eq_true rfl) ⟨Nat.le_of_ble_eq_true rfl, Nat.le_of_ble_eq_true rfl⟩ ⟨rfl, rfl⟩ ⟨Nat.zero_le _, Nat.zero_le _⟩ ?_
        refine g_iadd C dRd_stepWhole_46 ?_
        refine g_bipush (v := Int32.ofInt (48)) C dRd_stepWhole_47 (by decide) ?_
        refine g_isub C dRd_stepWhole_49 ?_
        refine x_puti C dRd_stepWhole_50 fl_Rd_81 h0 rfl (Or.inl rfl) h (fun I6 h => ?_)
        refine g_aload_n C dRd_stepWhole_53 rfl ?_
        refine g_dup C dRd_stepWhole_54 rfl ?_
        refine g_geti C dRd_stepWhole_55 fl_Rd_37 h0 ?_
        refine g_iconst (v := Int32.ofInt (1)) C dRd_stepWhole_58 (by decide) ?_
        refine g_iadd C dRd_stepWhole_59 ?_
        refine x_puti C dRd_stepWhole_60 fl_Rd_37 h0 rfl (Or.inl rfl) h (fun I7 h => ?_)
        refine g_goto 5 C dRd_stepWhole_63 (by decide) ?_
        exact g_sub (hr_5  I7 h) ⟨rfl, trivial⟩
  exact g_sub (lp_5  I1 h) ⟨rfl, trivial⟩
def B_Rd_step_8 (N : Nat) (O : WO) (a0 : Nat) (J0 : WJ) (rec_8 : WI → Option (WI)) (I_8 : WI) : Option (WI) := jn (fun (IJ_45 : WI) => lb (up2 IJ_45 a0 5 (IJ_45 a0 3)) fun I2 => bd1 (F_Rd_byteAt N O I2 J0 a0 (I2 a0 3)) fun z_58 => if ((I2 a0 3)).toInt < ((I2 a0 4)).toInt then (bd1 (F_Rd_isLetter N O I2 J0 z_58) fun z_82 => if (z_82).toInt = 0 then (bd1 (F_Rd_isDigit N O I2 J0 z_58) fun z_96 => if (z_96).toInt = 0 then (jn (fun (s0_127 : Int32) => lb (up2 I2 a0 6 s0_127) fun I6 => lb (up2 I6 a0 5 ((I6 a0 3) + (Int32.ofInt (1)))) fun I7 => some I7) fun k_127 => jn (k_127 ((Int32.ofInt (4)))) fun k_122 => if (z_58).toInt = 59 then (k_122 ) else (if (z_58).toInt = 44 then (k_122 ) else (k_127 ((Int32.ofInt (1)))))) else (bd1 (F_Rd_stepWhole N O I2 J0 a0) fun I8 => some I8)) else (bd1 (F_Rd_stepWord N O I2 J0 a0) fun I9 => some I9)) else (lb (up2 I2 a0 6 (Int32.ofInt (0))) fun I10 => some I10)) fun k_45 => if ((I_8 a0 4)).toInt ≤ ((I_8 a0 3)).toInt then (k_45  I_8) else (bd1 (F_Rd_byteAt N O I_8 J0 a0 (I_8 a0 3)) fun z_24 => if (z_24).toInt = 32 then (lb (up2 I_8 a0 3 ((I_8 a0 3) + (Int32.ofInt (1)))) fun I12 => rec_8  I12) else (k_45  I_8))
def F_Rd_step (N : Nat) (O : WO) (I0 : WI) (J0 : WJ) (a0 : Nat) : Option (WI) := lb (up2 I0 a0 3 (I0 a0 5)) fun I1 => lp (B_Rd_step_8 N O a0 J0) (fun _ => none) N  I1
set_option maxHeartbeats 4000000 in
set_option maxRecDepth 100000 in
theorem f_Rd_step {P : List Nat} {K : Nat → Nat} {N : Nat} {O : WO} {I0 : WI} {J0 : WJ} (hT : TR P K O) {a0 : Nat} (h0 : a0 ∈ P ∧ K a0 = 5) {I' : WI} (h : F_Rd_step N O I0 J0 a0 = some I') : Con yRd_step bRd_step 2 none ({ frames := 2, cells := 0, slots := 0, locals := 41 } : Room) P K I0 O J0 [.ref a0] (EPo none I' J0 P K O) := by
  refine Con.ofG mfRd_step (Nat.le_of_ble_eq_true rfl) ?_
  intro X C E
  unfold F_Rd_step at h
  refine g_aload_n C dRd_step_0 rfl ?_
  refine g_aload_n C dRd_step_1 rfl ?_
  refine g_geti C dRd_step_2 fl_Rd_37 h0 ?_
  refine x_puti C dRd_step_5 fl_Rd_62 h0 rfl (Or.inl rfl) h (fun I1 h => ?_)
  have lp_8 : ∀ (I_8 : WI), lp (B_Rd_step_8 N O a0 J0) (fun _ => none) N I_8 = some I' → GG X 2 P K I_8 O J0 0 0 8 [(0, .ref a0)] [] := by
    refine x_lp (fun (rec_8 : WI → Option (WI)) => ∀ (I_8 : WI), rec_8 I_8 = some I' → GG X 2 P K I_8 O J0 0 0 8 [(0, .ref a0)] []) (fun _ h => by cases h) (fun rec_8 hr_8 I_8 h => ?_) N
    unfold B_Rd_step_8 at h
    refine g_aload_n C dRd_step_8 rfl ?_
    refine g_geti C dRd_step_9 fl_Rd_62 h0 ?_
    refine g_aload_n C dRd_step_12 rfl ?_
    refine g_geti C dRd_step_13 fl_Rd_34 h0 ?_
    refine x_jn h (fun (k_45 : WI → Option (WI)) => ∀ (IJ_45 : WI), k_45 IJ_45 = some I' → GG X 2 P K IJ_45 O J0 0 0 45 [(0, .ref a0)] []) (fun IJ_45 h => ?_) (fun k_45 hk_45 h => ?_)
    · skip
      refine g_aload_n C dRd_step_45 rfl ?_
      refine g_aload_n C dRd_step_46 rfl ?_
      refine g_geti C dRd_step_47 fl_Rd_62 h0 ?_
      refine x_puti C dRd_step_50 fl_Rd_37 h0 rfl (Or.inl rfl) h (fun I2 h => ?_)
      refine g_aload_n C dRd_step_53 rfl ?_
      refine g_aload_n C dRd_step_54 rfl ?_
      refine g_geti C dRd_step_55 fl_Rd_62 h0 ?_
      obtain ⟨z_58, e_58, h⟩ := bd1_some h
      refine x_callVi (av := fun ad => [.int (I2 a0 3)]) C dRd_step_58 mfRd_byteAt mvRd_byteAt ln_Rd_65 h0 (by decide) rfl (f_Rd_byteAt hT h0 e_58) rfl rfl (Nat.le_of_ble_eq_true rfl) ⟨Nat.le_of_ble_eq_true rfl, Nat.le_of_ble_eq_true rfl⟩ ⟨rfl, rfl⟩ ⟨Nat.zero_le _, Nat.zero_le _⟩ ?_
      refine g_istore_n (i := 1) C dRd_step_61 rfl (by decide) ?_
      refine g_aload_n C dRd_step_62 rfl ?_
      refine g_geti C dRd_step_63 fl_Rd_62 h0 ?_
      refine g_aload_n C dRd_step_66 rfl ?_
      refine g_geti C dRd_step_67 fl_Rd_34 h0 ?_
      refine gt_icmp_lt 81 C dRd_step_70 (by decide) rfl rfl (fun c_70 => ?_) (fun c_70 => ?_)
      · have h := x_pos c_70 h
        refine g_iload_n C dRd_step_81 rfl ?_
        obtain ⟨z_82, e_82, h⟩ := bd1_some h
        refine x_callSi (av := fun ad => [.int z_58]) C dRd_step_82 mfRd_isLetter msRd_isLetter ln_Rd_69 (f_Rd_isLetter hT  e_82) rfl rfl (Nat.le_of_ble_eq_true rfl) ⟨Nat.le_of_ble_eq_true rfl, Nat.le_of_ble_eq_true rfl⟩ ⟨rfl, rfl⟩ ⟨Nat.zero_le _, Nat.zero_le _⟩ ?_
        refine gt_if_eq 95 C dRd_step_85 (by decide) rfl (fun c_85 => ?_) (fun c_85 => ?_)
        · have h := x_pos c_85 h
          refine g_iload_n C dRd_step_95 rfl ?_
          obtain ⟨z_96, e_96, h⟩ := bd1_some h
          refine x_callSi (av := fun ad => [.int z_58]) C dRd_step_96 mfRd_isDigit msRd_isDigit ln_Rd_75 (f_Rd_isDigit hT  e_96) rfl rfl (Nat.le_of_ble_eq_true rfl) ⟨Nat.le_of_ble_eq_true rfl, Nat.le_of_ble_eq_true rfl⟩ ⟨rfl, rfl⟩ ⟨Nat.zero_le _, Nat.zero_le _⟩ ?_
          refine gt_if_eq 109 C dRd_step_99 (by decide) rfl (fun c_99 => ?_) (fun c_99 => ?_)
          · have h := x_pos c_99 h
            refine g_aload_n C dRd_step_109 rfl ?_
            refine g_iload_n C dRd_step_110 rfl ?_
            refine g_bipush (v := Int32.ofInt (59)) C dRd_step_111 (by decide) ?_
            refine x_jn h (fun (k_127 : Int32 → Option (WI)) => ∀ (s0_127 : Int32), k_127 s0_127 = some I' → GG X 2 P K I2 O J0 0 0 127 [(0, .ref a0), (1, .int z_58)] [.int s0_127, .ref a0]) (fun s0_127 h => ?_) (fun k_127 hk_127 h => ?_)
            · skip
              refine x_puti C dRd_step_127 fl_Rd_47 h0 rfl (Or.inl rfl) h (fun I6 h => ?_)
              refine g_aload_n C dRd_step_130 rfl ?_
              refine g_aload_n C dRd_step_131 rfl ?_
              refine g_geti C dRd_step_132 fl_Rd_62 h0 ?_
              refine g_iconst (v := Int32.ofInt (1)) C dRd_step_135 (by decide) ?_
              refine g_iadd C dRd_step_136 ?_
              refine x_puti C dRd_step_137 fl_Rd_37 h0 rfl (Or.inl rfl) h (fun I7 h => ?_)
              exact x_vret1 C E dRd_step_140 ⟨Nat.zero_le _, Nat.zero_le _⟩ h
            refine x_jn h (fun (k_122 : Option (WI)) => k_122  = some I' → GG X 2 P K I2 O J0 0 0 122 [(0, .ref a0), (1, .int z_58)] [.ref a0]) (fun  h => ?_) (fun k_122 hk_122 h => ?_)
            · skip
              refine g_iconst (v := Int32.ofInt (4)) C dRd_step_122 (by decide) ?_
              refine g_goto 127 C dRd_step_123 (by decide) ?_
              exact g_sub (hk_127 ((Int32.ofInt (4))) h) ⟨rfl, rfl, trivial⟩
            refine gt_icmp_eq 122 C dRd_step_113 (by decide) rfl (ofI (by decide)) (fun c_113 => ?_) (fun c_113 => ?_)
            · have h := x_pos c_113 h
              exact g_sub (hk_122  h) ⟨rfl, rfl, trivial⟩
            · have h := x_neg c_113 h
              refine g_iload_n C dRd_step_116 rfl ?_
              refine g_bipush (v := Int32.ofInt (44)) C dRd_step_117 (by decide) ?_
              refine gt_icmp_ne 126 C dRd_step_119 (by decide) rfl (ofI (by decide)) (fun c_119 => ?_) (fun c_119 => ?_)
              · have h := x_neg c_119 h
                refine g_iconst (v := Int32.ofInt (1)) C dRd_step_126 (by decide) ?_
                exact g_sub (hk_127 ((Int32.ofInt (1))) h) ⟨rfl, rfl, trivial⟩
              · have h := x_pos c_119 h
                exact g_sub (hk_122  h) ⟨rfl, rfl, trivial⟩
          · have h := x_neg c_99 h
            refine g_aload_n C dRd_step_102 rfl ?_
            obtain ⟨I8, e_103, h⟩ := bd1_some h
            refine x_callVv (av := fun ad => []) C dRd_step_103 mfRd_stepWhole mvRd_stepWhole ln_Rd_78 h0 (by decide) rfl (f_Rd_stepWhole hT h0 e_103) rfl rfl (Nat.le_of_ble_eq_true rfl) ⟨Nat.le_of_ble_eq_true rfl, Nat.le_of_ble_eq_true rfl⟩ ⟨rfl, rfl⟩ ⟨Nat.zero_le _, Nat.zero_le _⟩ ?_
            refine g_goto 140 C dRd_step_106 (by decide) ?_
            exact x_vret1 C E dRd_step_140 ⟨Nat.zero_le _, Nat.zero_le _⟩ h
        · have h := x_neg c_85 h
          refine g_aload_n C dRd_step_88 rfl ?_
          obtain ⟨I9, e_89, h⟩ := bd1_some h
          refine x_callVv (av := fun ad => []) C dRd_step_89 mfRd_stepWord mvRd_stepWord ln_Rd_72 h0 (by decide) rfl (f_Rd_stepWord hT h0 e_89) rfl rfl (Nat.le_of_ble_eq_true rfl) ⟨Nat.le_of_ble_eq_true rfl, Nat.le_of_ble_eq_true rfl⟩ ⟨rfl, rfl⟩ ⟨Nat.zero_le _, Nat.zero_le _⟩ ?_
          refine g_goto 140 C dRd_step_92 (by decide) ?_
          exact x_vret1 C E dRd_step_140 ⟨Nat.zero_le _, Nat.zero_le _⟩ h
      · have h := x_neg (Int.not_lt.mpr c_70) h
        refine g_aload_n C dRd_step_73 rfl ?_
        refine g_iconst (v := Int32.ofInt (0)) C dRd_step_74 (by decide) ?_
        refine x_puti C dRd_step_75 fl_Rd_47 h0 rfl (Or.inl rfl) h (fun I10 h => ?_)
        refine g_goto 140 C dRd_step_78 (by decide) ?_
        exact x_vret1 C E dRd_step_140 ⟨Nat.zero_le _, Nat.zero_le _⟩ h
    refine gt_icmp_ge 45 C dRd_step_16 (by decide) rfl rfl (fun c_16 => ?_) (fun c_16 => ?_)
    · have h := x_pos c_16 h
      exact g_sub (hk_45  I_8 h) ⟨rfl, trivial⟩
    · have h := x_neg (Int.not_le.mpr c_16) h
      refine g_aload_n C dRd_step_19 rfl ?_
      refine g_aload_n C dRd_step_20 rfl ?_
      refine g_geti C dRd_step_21 fl_Rd_62 h0 ?_
      obtain ⟨z_24, e_24, h⟩ := bd1_some h
      refine x_callVi (av := fun ad => [.int (I_8 a0 3)]) C dRd_step_24 mfRd_byteAt mvRd_byteAt ln_Rd_65 h0 (by decide) rfl (f_Rd_byteAt hT h0 e_24) rfl rfl (Nat.le_of_ble_eq_true rfl) ⟨Nat.le_of_ble_eq_true rfl, Nat.le_of_ble_eq_true rfl⟩ ⟨rfl, rfl⟩ ⟨Nat.zero_le _, Nat.zero_le _⟩ ?_
      refine g_bipush (v := Int32.ofInt (32)) C dRd_step_27 (by decide) ?_
      refine gt_icmp_ne 45 C dRd_step_29 (by decide) rfl (ofI (by decide)) (fun c_29 => ?_) (fun c_29 => ?_)
      · have h := x_neg c_29 h
        exact g_sub (hk_45  I_8 h) ⟨rfl, trivial⟩
      · have h := x_pos c_29 h
        refine g_aload_n C dRd_step_32 rfl ?_
        refine g_dup C dRd_step_33 rfl ?_
        refine g_geti C dRd_step_34 fl_Rd_62 h0 ?_
        refine g_iconst (v := Int32.ofInt (1)) C dRd_step_37 (by decide) ?_
        refine g_iadd C dRd_step_38 ?_
        refine x_puti C dRd_step_39 fl_Rd_62 h0 rfl (Or.inl rfl) h (fun I12 h => ?_)
        refine g_goto 8 C dRd_step_42 (by decide) ?_
        exact g_sub (hr_8  I12 h) ⟨rfl, trivial⟩
  exact g_sub (lp_8  I1 h) ⟨rfl, trivial⟩
def F_Rd_isSign (N : Nat) (O : WO) (I0 : WI) (J0 : WJ) (a0 : Nat) (x1 : Int32) : Option (Int32) := if ((I0 a0 6)).toInt = 4 then (bd1 (F_Rd_byteAt N O I0 J0 a0 (I0 a0 3)) fun z_13 => if (z_13).toInt = (x1).toInt then (some (Int32.ofInt (1))) else (some (Int32.ofInt (0)))) else (some (Int32.ofInt (0)))
set_option maxHeartbeats 4000000 in
set_option maxRecDepth 100000 in
theorem f_Rd_isSign {P : List Nat} {K : Nat → Nat} {N : Nat} {O : WO} {I0 : WI} {J0 : WJ} (hT : TR P K O) {a0 : Nat} (h0 : a0 ∈ P ∧ K a0 = 5) {x1 : Int32} {r : Int32} (h : F_Rd_isSign N O I0 J0 a0 x1 = some r) : Con yRd_isSign bRd_isSign 2 (some .boolean) ({ frames := 1, cells := 0, slots := 0, locals := 21 } : Room) P K I0 O J0 [.ref a0, .int x1] (EPo (some (.int r)) I0 J0 P K O) := by
  refine Con.ofG mfRd_isSign (Nat.le_of_ble_eq_true rfl) ?_
  intro X C E
  unfold F_Rd_isSign at h
  refine g_aload_n C dRd_isSign_0 rfl ?_
  refine g_geti C dRd_isSign_1 fl_Rd_47 h0 ?_
  refine g_iconst (v := Int32.ofInt (4)) C dRd_isSign_4 (by decide) ?_
  refine gt_icmp_ne 24 C dRd_isSign_5 (by decide) rfl (ofI (by decide)) (fun c_5 => ?_) (fun c_5 => ?_)
  · have h := x_neg c_5 h
    refine g_iconst (v := Int32.ofInt (0)) C dRd_isSign_24 (by decide) ?_
    exact x_zret0 C E dRd_isSign_25 (by decide) ⟨Nat.zero_le _, Nat.zero_le _⟩ h
  · have h := x_pos c_5 h
    refine g_aload_n C dRd_isSign_8 rfl ?_
    refine g_aload_n C dRd_isSign_9 rfl ?_
    refine g_geti C dRd_isSign_10 fl_Rd_62 h0 ?_
    obtain ⟨z_13, e_13, h⟩ := bd1_some h
    refine x_callVi (av := fun ad => [.int (I0 a0 3)]) C dRd_isSign_13 mfRd_byteAt mvRd_byteAt ln_Rd_65 h0 (by decide) rfl (f_Rd_byteAt hT h0 e_13) rfl rfl (Nat.le_of_ble_eq_true rfl) ⟨Nat.le_of_ble_eq_true rfl, Nat.le_of_ble_eq_true rfl⟩ ⟨rfl, rfl⟩ ⟨Nat.zero_le _, Nat.zero_le _⟩ ?_
    refine g_iload_n C dRd_isSign_16 rfl ?_
    refine gt_icmp_ne 24 C dRd_isSign_17 (by decide) rfl rfl (fun c_17 => ?_) (fun c_17 => ?_)
    · have h := x_neg c_17 h
      refine g_iconst (v := Int32.ofInt (0)) C dRd_isSign_24 (by decide) ?_
      exact x_zret0 C E dRd_isSign_25 (by decide) ⟨Nat.zero_le _, Nat.zero_le _⟩ h
    · have h := x_pos c_17 h
      refine g_iconst (v := Int32.ofInt (1)) C dRd_isSign_20 (by decide) ?_
      refine g_goto 25 C dRd_isSign_21 (by decide) ?_
      exact x_zret0 C E dRd_isSign_25 (by decide) ⟨Nat.zero_le _, Nat.zero_le _⟩ h
def B_Rd_isWord_28 (N : Nat) (O : WO) (a0 : Nat) (i1 : Nat) (I0 : WI) (J0 : WJ) (rec_28 : Int32 → Option (Int32)) (x2_28 : Int32) : Option (Int32) := if ((sL i1)).toInt ≤ (x2_28).toInt then (some (Int32.ofInt (1))) else (bd1 (F_Rd_byteAt N O I0 J0 a0 ((I0 a0 3) + x2_28)) fun z_43 => if 0 ≤ (x2_28).toInt ∧ (x2_28).toInt < ((sLen.getD i1 0 : Nat) : Int) then (if (z_43).toInt = ((sC i1 (x2_28).toInt.toNat)).toInt then (lb (x2_28 + Int32.ofInt (1)) fun v2_56 => rec_28 (v2_56)) else (some (Int32.ofInt (0)))) else none)
def F_Rd_isWord (N : Nat) (O : WO) (I0 : WI) (J0 : WJ) (a0 : Nat) (i1 : Nat) : Option (Int32) := if ((I0 a0 6)).toInt = 2 then (if (((I0 a0 5) - (I0 a0 3))).toInt = ((sL i1)).toInt then (lp (B_Rd_isWord_28 N O a0 i1 I0 J0) (fun _ => none) N ((Int32.ofInt (0)))) else (some (Int32.ofInt (0)))) else (some (Int32.ofInt (0)))
set_option maxHeartbeats 4000000 in
set_option maxRecDepth 100000 in
theorem f_Rd_isWord {P : List Nat} {K : Nat → Nat} {N : Nat} {O : WO} {I0 : WI} {J0 : WJ} (hT : TR P K O) {a0 : Nat} (h0 : a0 ∈ P ∧ K a0 = 5) {i1 : Nat} (h1 : i1 < 31) {r : Int32} (h : F_Rd_isWord N O I0 J0 a0 i1 = some r) : ConA yRd_isWord bRd_isWord 3 (some .boolean) ({ frames := 4, cells := 0, slots := 0, locals := 85 } : Room) P K I0 O J0 (fun ad => [.ref a0, .ref (ad.1 i1)]) (EPo (some (.int r)) I0 J0 P K O) := by
  refine ConA.ofG mfRd_isWord (fun _ => Nat.le_of_ble_eq_true rfl) ?_
  intro X C E
  unfold F_Rd_isWord at h
  refine g_aload_n C dRd_isWord_0 rfl ?_
  refine g_geti C dRd_isWord_1 fl_Rd_47 h0 ?_
  refine g_iconst (v := Int32.ofInt (2)) C dRd_isWord_4 (by decide) ?_
  refine gt_icmp_ne 24 C dRd_isWord_5 (by decide) rfl (ofI (by decide)) (fun c_5 => ?_) (fun c_5 => ?_)
  · have h := x_neg c_5 h
    refine g_iconst (v := Int32.ofInt (0)) C dRd_isWord_24 (by decide) ?_
    exact x_zret0 C E dRd_isWord_25 (by decide) ⟨Nat.zero_le _, Nat.zero_le _⟩ h
  · have h := x_pos c_5 h
    refine g_aload_n C dRd_isWord_8 rfl ?_
    refine g_geti C dRd_isWord_9 fl_Rd_37 h0 ?_
    refine g_aload_n C dRd_isWord_12 rfl ?_
    refine g_geti C dRd_isWord_13 fl_Rd_62 h0 ?_
    refine g_isub C dRd_isWord_16 ?_
    refine g_aload_n C dRd_isWord_17 rfl ?_
    refine z_callW (av := fun _ => []) C dRd_isWord_18 mfJS_length mvJS_length ln_Rd_84 h1 rfl (eJS_length h1) rfl rfl (Nat.le_of_ble_eq_true rfl) ⟨Nat.le_of_ble_eq_true rfl, Nat.le_of_ble_eq_true rfl⟩ ⟨rfl, rfl⟩ ⟨Nat.zero_le _, Nat.zero_le _⟩ (fun z_18 p_18 => ?_)
    obtain rfl := x_sL h1 p_18
    refine gt_icmp_eq 26 C dRd_isWord_21 (by decide) rfl rfl (fun c_21 => ?_) (fun c_21 => ?_)
    · have h := x_pos c_21 h
      refine g_iconst (v := Int32.ofInt (0)) C dRd_isWord_26 (by decide) ?_
      refine g_istore_n (i := 2) C dRd_isWord_27 rfl (by decide) ?_
      have lp_28 : ∀ (x2_28 : Int32), lp (B_Rd_isWord_28 N O a0 i1 I0 J0) (fun _ => none) N x2_28 = some r → GG X 3 P K I0 O J0 0 0 28 [(0, .ref a0), (1, .ref ((adX X).1 i1)), (2, .int x2_28)] [] := by
        refine x_lp (fun (rec_28 : Int32 → Option (Int32)) => ∀ (x2_28 : Int32), rec_28 x2_28 = some r → GG X 3 P K I0 O J0 0 0 28 [(0, .ref a0), (1, .ref ((adX X).1 i1)), (2, .int x2_28)] []) (fun _ h => by cases h) (fun rec_28 hr_28 x2_28 h => ?_) N
        unfold B_Rd_isWord_28 at h
        refine g_iload_n C dRd_isWord_28 rfl ?_
        refine g_aload_n C dRd_isWord_29 rfl ?_
        refine z_callW (av := fun _ => []) C dRd_isWord_30 mfJS_length mvJS_length ln_Rd_84 h1 rfl (eJS_length h1) rfl rfl (Nat.le_of_ble_eq_true rfl) ⟨Nat.le_of_ble_eq_true rfl, Nat.le_of_ble_eq_true rfl⟩ ⟨rfl, rfl⟩ ⟨Nat.zero_le _, Nat.zero_le _⟩ (fun z_30 p_30 => ?_)
        obtain rfl := x_sL h1 p_30
        refine gt_icmp_ge 62 C dRd_isWord_33 (by decide) rfl rfl (fun c_33 => ?_) (fun c_33 => ?_)
        · have h := x_pos c_33 h
          refine g_iconst (v := Int32.ofInt (1)) C dRd_isWord_62 (by decide) ?_
          exact x_zret0 C E dRd_isWord_63 (by decide) ⟨Nat.zero_le _, Nat.zero_le _⟩ h
        · have h := x_neg (Int.not_le.mpr c_33) h
          refine g_aload_n C dRd_isWord_36 rfl ?_
          refine g_aload_n C dRd_isWord_37 rfl ?_
          refine g_geti C dRd_isWord_38 fl_Rd_62 h0 ?_
          refine g_iload_n C dRd_isWord_41 rfl ?_
          refine g_iadd C dRd_isWord_42 ?_
          obtain ⟨z_43, e_43, h⟩ := bd1_some h
          refine x_callVi (av := fun ad => [.int ((I0 a0 3) + x2_28)]) C dRd_isWord_43 mfRd_byteAt mvRd_byteAt ln_Rd_65 h0 (by decide) rfl (f_Rd_byteAt hT h0 e_43) rfl rfl (Nat.le_of_ble_eq_true rfl) ⟨Nat.le_of_ble_eq_true rfl, Nat.le_of_ble_eq_true rfl⟩ ⟨rfl, rfl⟩ ⟨Nat.zero_le _, Nat.zero_le _⟩ ?_
          refine g_aload_n C dRd_isWord_46 rfl ?_
          refine g_iload_n C dRd_isWord_47 rfl ?_
          obtain ⟨g_48, h⟩ := x_g h
          refine z_callW (av := fun _ => [.int x2_28]) C dRd_isWord_48 mfJS_charAt mvJS_charAt ln_Rd_89 h1 rfl (eJS_charAt h1 g_48) rfl rfl (Nat.le_of_ble_eq_true rfl) ⟨Nat.le_of_ble_eq_true rfl, Nat.le_of_ble_eq_true rfl⟩ ⟨rfl, rfl⟩ ⟨Nat.zero_le _, Nat.zero_le _⟩ (fun z_48 p_48 => ?_)
          replace p_48 : z_48 = sC i1 (x2_28).toInt.toNat := p_48
          subst p_48
          refine gt_icmp_eq 56 C dRd_isWord_51 (by decide) rfl rfl (fun c_51 => ?_) (fun c_51 => ?_)
          · have h := x_pos c_51 h
            refine x_iinc C dRd_isWord_56 rfl (by decide) h (fun v2_56 h => ?_)
            refine g_goto 28 C dRd_isWord_59 (by decide) ?_
            exact g_sub (hr_28 (v2_56) h) ⟨rfl, rfl, rfl, trivial⟩
          · have h := x_neg c_51 h
            refine g_iconst (v := Int32.ofInt (0)) C dRd_isWord_54 (by decide) ?_
            exact x_zret0 C E dRd_isWord_55 (by decide) ⟨Nat.zero_le _, Nat.zero_le _⟩ h
      exact g_sub (lp_28 ((Int32.ofInt (0))) h) ⟨rfl, rfl, rfl, trivial⟩
    · have h := x_neg c_21 h
      refine g_iconst (v := Int32.ofInt (0)) C dRd_isWord_24 (by decide) ?_
      exact x_zret0 C E dRd_isWord_25 (by decide) ⟨Nat.zero_le _, Nat.zero_le _⟩ h
def F_Rd_isName (N : Nat) (O : WO) (I0 : WI) (J0 : WJ) (a0 : Nat) : Option (Int32) := if ((I0 a0 6)).toInt = 2 then (bd1 (F_Rd_isWord N O I0 J0 a0 0) fun z_11 => if (z_11).toInt = 0 then (bd1 (F_Rd_isWord N O I0 J0 a0 3) fun z_20 => if (z_20).toInt = 0 then (bd1 (F_Rd_isWord N O I0 J0 a0 4) fun z_29 => if (z_29).toInt = 0 then (bd1 (F_Rd_isWord N O I0 J0 a0 5) fun z_38 => if (z_38).toInt = 0 then (bd1 (F_Rd_isWord N O I0 J0 a0 6) fun z_47 => if (z_47).toInt = 0 then (bd1 (F_Rd_isWord N O I0 J0 a0 7) fun z_56 => if (z_56).toInt = 0 then (bd1 (F_Rd_isWord N O I0 J0 a0 8) fun z_65 => if (z_65).toInt = 0 then (some (Int32.ofInt (1))) else (some (Int32.ofInt (0)))) else (some (Int32.ofInt (0)))) else (some (Int32.ofInt (0)))) else (some (Int32.ofInt (0)))) else (some (Int32.ofInt (0)))) else (some (Int32.ofInt (0)))) else (some (Int32.ofInt (0)))) else (some (Int32.ofInt (0)))
set_option maxHeartbeats 4000000 in
set_option maxRecDepth 100000 in
theorem f_Rd_isName {P : List Nat} {K : Nat → Nat} {N : Nat} {O : WO} {I0 : WI} {J0 : WJ} (hT : TR P K O) {a0 : Nat} (h0 : a0 ∈ P ∧ K a0 = 5) {r : Int32} (h : F_Rd_isName N O I0 J0 a0 = some r) : Con yRd_isName bRd_isName 1 (some .boolean) ({ frames := 5, cells := 0, slots := 0, locals := 107 } : Room) P K I0 O J0 [.ref a0] (EPo (some (.int r)) I0 J0 P K O) := by
  refine Con.ofG mfRd_isName (Nat.le_of_ble_eq_true rfl) ?_
  intro X C E
  unfold F_Rd_isName at h
  refine g_aload_n C dRd_isName_0 rfl ?_
  refine g_geti C dRd_isName_1 fl_Rd_47 h0 ?_
  refine g_iconst (v := Int32.ofInt (2)) C dRd_isName_4 (by decide) ?_
  refine gt_icmp_ne 75 C dRd_isName_5 (by decide) rfl (ofI (by decide)) (fun c_5 => ?_) (fun c_5 => ?_)
  · have h := x_neg c_5 h
    refine g_iconst (v := Int32.ofInt (0)) C dRd_isName_75 (by decide) ?_
    exact x_zret0 C E dRd_isName_76 (by decide) ⟨Nat.zero_le _, Nat.zero_le _⟩ h
  · have h := x_pos c_5 h
    refine g_aload_n C dRd_isName_8 rfl ?_
    refine g_ldcS 0 C dRd_isName_9 rfl ?_
    obtain ⟨z_11, e_11, h⟩ := bd1_some h
    refine x_callVi (av := fun ad => [.ref (ad.1 0)]) C dRd_isName_11 mfRd_isWord mvRd_isWord ln_Rd_95 h0 (by decide) rfl (f_Rd_isWord hT h0 (by decide) e_11) rfl rfl (Nat.le_of_ble_eq_true rfl) ⟨Nat.le_of_ble_eq_true rfl, Nat.le_of_ble_eq_true rfl⟩ ⟨rfl, rfl⟩ ⟨Nat.zero_le _, Nat.zero_le _⟩ ?_
    refine gt_if_ne 75 C dRd_isName_14 (by decide) rfl (fun c_14 => ?_) (fun c_14 => ?_)
    · have h := x_neg c_14 h
      refine g_iconst (v := Int32.ofInt (0)) C dRd_isName_75 (by decide) ?_
      exact x_zret0 C E dRd_isName_76 (by decide) ⟨Nat.zero_le _, Nat.zero_le _⟩ h
    · have h := x_pos c_14 h
      refine g_aload_n C dRd_isName_17 rfl ?_
      refine g_ldcS 3 C dRd_isName_18 rfl ?_
      obtain ⟨z_20, e_20, h⟩ := bd1_some h
      refine x_callVi (av := fun ad => [.ref (ad.1 3)]) C dRd_isName_20 mfRd_isWord mvRd_isWord ln_Rd_95 h0 (by decide) rfl (f_Rd_isWord hT h0 (by decide) e_20) rfl rfl (Nat.le_of_ble_eq_true rfl) ⟨Nat.le_of_ble_eq_true rfl, Nat.le_of_ble_eq_true rfl⟩ ⟨rfl, rfl⟩ ⟨Nat.zero_le _, Nat.zero_le _⟩ ?_
      refine gt_if_ne 75 C dRd_isName_23 (by decide) rfl (fun c_23 => ?_) (fun c_23 => ?_)
      · have h := x_neg c_23 h
        refine g_iconst (v := Int32.ofInt (0)) C dRd_isName_75 (by decide) ?_
        exact x_zret0 C E dRd_isName_76 (by decide) ⟨Nat.zero_le _, Nat.zero_le _⟩ h
      · have h := x_pos c_23 h
        refine g_aload_n C dRd_isName_26 rfl ?_
        refine g_ldcS 4 C dRd_isName_27 rfl ?_
        obtain ⟨z_29, e_29, h⟩ := bd1_some h
        refine x_callVi (av := fun ad => [.ref (ad.1 4)]) C dRd_isName_29 mfRd_isWord mvRd_isWord ln_Rd_95 h0 (by decide) rfl (f_Rd_isWord hT h0 (by decide) e_29) rfl rfl (Nat.le_of_ble_eq_true rfl) ⟨Nat.le_of_ble_eq_true rfl, Nat.le_of_ble_eq_true rfl⟩ ⟨rfl, rfl⟩ ⟨Nat.zero_le _, Nat.zero_le _⟩ ?_
        refine gt_if_ne 75 C dRd_isName_32 (by decide) rfl (fun c_32 => ?_) (fun c_32 => ?_)
        · have h := x_neg c_32 h
          refine g_iconst (v := Int32.ofInt (0)) C dRd_isName_75 (by decide) ?_
          exact x_zret0 C E dRd_isName_76 (by decide) ⟨Nat.zero_le _, Nat.zero_le _⟩ h
        · have h := x_pos c_32 h
          refine g_aload_n C dRd_isName_35 rfl ?_
          refine g_ldcS 5 C dRd_isName_36 rfl ?_
          obtain ⟨z_38, e_38, h⟩ := bd1_some h
          refine x_callVi (av := fun ad => [.ref (ad.1 5)]) C dRd_isName_38 mfRd_isWord mvRd_isWord ln_Rd_95 h0 (by decide) rfl (f_Rd_isWord hT h0 (by decide) e_38) rfl rfl (Nat.le_of_ble_eq_true rfl) ⟨Nat.le_of_ble_eq_true rfl, Nat.le_of_ble_eq_true rfl⟩ ⟨rfl, rfl⟩ ⟨Nat.zero_le _, Nat.zero_le _⟩ ?_
          refine gt_if_ne 75 C dRd_isName_41 (by decide) rfl (fun c_41 => ?_) (fun c_41 => ?_)
          · have h := x_neg c_41 h
            refine g_iconst (v := Int32.ofInt (0)) C dRd_isName_75 (by decide) ?_
            exact x_zret0 C E dRd_isName_76 (by decide) ⟨Nat.zero_le _, Nat.zero_le _⟩ h
          · have h := x_pos c_41 h
            refine g_aload_n C dRd_isName_44 rfl ?_
            refine g_ldcS 6 C dRd_isName_45 rfl ?_
            obtain ⟨z_47, e_47, h⟩ := bd1_some h
            refine x_callVi (av := fun ad => [.ref (ad.1 6)]) C dRd_isName_47 mfRd_isWord mvRd_isWord ln_Rd_95 h0 (by decide) rfl (f_Rd_isWord hT h0 (by decide) e_47) rfl rfl (Nat.le_of_ble_eq_true rfl) ⟨Nat.le_of_ble_eq_true rfl, Nat.le_of_ble_eq_true rfl⟩ ⟨rfl, rfl⟩ ⟨Nat.zero_le _, Nat.zero_le _⟩ ?_
            refine gt_if_ne 75 C dRd_isName_50 (by decide) rfl (fun c_50 => ?_) (fun c_50 => ?_)
            · have h := x_neg c_50 h
              refine g_iconst (v := Int32.ofInt (0)) C dRd_isName_75 (by decide) ?_
              exact x_zret0 C E dRd_isName_76 (by decide) ⟨Nat.zero_le _, Nat.zero_le _⟩ h
            · have h := x_pos c_50 h
              refine g_aload_n C dRd_isName_53 rfl ?_
              refine g_ldcS 7 C dRd_isName_54 rfl ?_
              obtain ⟨z_56, e_56, h⟩ := bd1_some h
              refine x_callVi (av := fun ad => [.ref (ad.1 7)]) C dRd_isName_56 mfRd_isWord mvRd_isWord ln_Rd_95 h0 (by decide) rfl (f_Rd_isWord hT h0 (by decide) e_56) rfl rfl (Nat.le_of_ble_eq_true rfl) ⟨Nat.le_of_ble_eq_true rfl, Nat.le_of_ble_eq_true rfl⟩ ⟨rfl, rfl⟩ ⟨Nat.zero_le _, Nat.zero_le _⟩ ?_
              refine gt_if_ne 75 C dRd_isName_59 (by decide) rfl (fun c_59 => ?_) (fun c_59 => ?_)
              · have h := x_neg c_59 h
                refine g_iconst (v := Int32.ofInt (0)) C dRd_isName_75 (by decide) ?_
                exact x_zret0 C E dRd_isName_76 (by decide) ⟨Nat.zero_le _, Nat.zero_le _⟩ h
              · have h := x_pos c_59 h
                refine g_aload_n C dRd_isName_62 rfl ?_
                refine g_ldcS 8 C dRd_isName_63 rfl ?_
                obtain ⟨z_65, e_65, h⟩ := bd1_some h
                refine x_callVi (av := fun ad => [.ref (ad.1 8)]) C dRd_isName_65 mfRd_isWord mvRd_isWord ln_Rd_95 h0 (by decide) rfl (f_Rd_isWord hT h0 (by decide) e_65) rfl rfl (Nat.le_of_ble_eq_true rfl) ⟨Nat.le_of_ble_eq_true rfl, Nat.le_of_ble_eq_true rfl⟩ ⟨rfl, rfl⟩ ⟨Nat.zero_le _, Nat.zero_le _⟩ ?_
                refine gt_if_ne 75 C dRd_isName_68 (by decide) rfl (fun c_68 => ?_) (fun c_68 => ?_)
                · have h := x_neg c_68 h
                  refine g_iconst (v := Int32.ofInt (0)) C dRd_isName_75 (by decide) ?_
                  exact x_zret0 C E dRd_isName_76 (by decide) ⟨Nat.zero_le _, Nat.zero_le _⟩ h
                · have h := x_pos c_68 h
                  refine g_iconst (v := Int32.ofInt (1)) C dRd_isName_71 (by decide) ?_
                  refine g_goto 76 C dRd_isName_72 (by decide) ?_
                  exact x_zret0 C E dRd_isName_76 (by decide) ⟨Nat.zero_le _, Nat.zero_le _⟩ h
def B_Rd_nameCode_7 (N : Nat) (O : WO) (a0 : Nat) (I0 : WI) (J0 : WJ) (rec_7 : Int64 → Int32 → Option (Int64)) (x1_7 : Int64) (x3_7 : Int32) : Option (Int64) := if ((I0 a0 5)).toInt ≤ (x3_7).toInt then (some x1_7) else (bd1 (F_Rd_byteAt N O I0 J0 a0 x3_7) fun z_22 => lb (((x1_7 * (32 : Int64)) + (((z_22 - (Int32.ofInt (97))) + (Int32.ofInt (1)))).toInt64)) fun v1_32 => lb (x3_7 + Int32.ofInt (1)) fun v3_33 => rec_7 (v1_32) (v3_33))
def F_Rd_nameCode (N : Nat) (O : WO) (I0 : WI) (J0 : WJ) (a0 : Nat) : Option (Int64) := lb ((I0 a0 3)) fun v3_6 => lp (B_Rd_nameCode_7 N O a0 I0 J0) (fun _ _ => none) N ((0 : Int64)) (v3_6)
set_option maxHeartbeats 4000000 in
set_option maxRecDepth 100000 in
theorem f_Rd_nameCode {P : List Nat} {K : Nat → Nat} {N : Nat} {O : WO} {I0 : WI} {J0 : WJ} (hT : TR P K O) {a0 : Nat} (h0 : a0 ∈ P ∧ K a0 = 5) {r : Int64} (h : F_Rd_nameCode N O I0 J0 a0 = some r) : Con yRd_nameCode bRd_nameCode 4 (some .long) ({ frames := 1, cells := 0, slots := 0, locals := 21 } : Room) P K I0 O J0 [.ref a0] (EPo (some (.long r)) I0 J0 P K O) := by
  refine Con.ofG mfRd_nameCode (Nat.le_of_ble_eq_true rfl) ?_
  intro X C E
  unfold F_Rd_nameCode at h
  refine g_lconst (v := 0) C dRd_nameCode_0 (by decide) ?_
  refine g_lstore_n (i := 1) C dRd_nameCode_1 rfl (by decide) ?_
  refine g_aload_n C dRd_nameCode_2 rfl ?_
  refine g_geti C dRd_nameCode_3 fl_Rd_62 h0 ?_
  refine x_istore_n (i := 3) C dRd_nameCode_6 rfl (by decide) h (fun v3_6 h => ?_)
  have lp_7 : ∀ (x1_7 : Int64) (x3_7 : Int32), lp (B_Rd_nameCode_7 N O a0 I0 J0) (fun _ _ => none) N x1_7 x3_7 = some r → GG X 4 P K I0 O J0 0 0 7 [(0, .ref a0), (1, .long x1_7), (3, .int x3_7)] [] := by
    refine x_lp (fun (rec_7 : Int64 → Int32 → Option (Int64)) => ∀ (x1_7 : Int64) (x3_7 : Int32), rec_7 x1_7 x3_7 = some r → GG X 4 P K I0 O J0 0 0 7 [(0, .ref a0), (1, .long x1_7), (3, .int x3_7)] []) (fun _ _ h => by cases h) (fun rec_7 hr_7 x1_7 x3_7 h => ?_) N
    unfold B_Rd_nameCode_7 at h
    refine g_iload_n C dRd_nameCode_7 rfl ?_
    refine g_aload_n C dRd_nameCode_8 rfl ?_
    refine g_geti C dRd_nameCode_9 fl_Rd_37 h0 ?_
    refine gt_icmp_ge 39 C dRd_nameCode_12 (by decide) rfl rfl (fun c_12 => ?_) (fun c_12 => ?_)
    · have h := x_pos c_12 h
      refine g_lload_n C dRd_nameCode_39 rfl ?_
      exact x_lret0 C E dRd_nameCode_40 ⟨Nat.zero_le _, Nat.zero_le _⟩ h
    · have h := x_neg (Int.not_le.mpr c_12) h
      refine g_lload_n C dRd_nameCode_15 rfl ?_
      refine g_ldc2 (v := 32) C dRd_nameCode_16 k_Rd_111 ?_
      refine g_lmul C dRd_nameCode_19 ?_
      refine g_aload_n C dRd_nameCode_20 rfl ?_
      refine g_iload_n C dRd_nameCode_21 rfl ?_
      obtain ⟨z_22, e_22, h⟩ := bd1_some h
      refine x_callVi (av := fun ad => [.int x3_7]) C dRd_nameCode_22 mfRd_byteAt mvRd_byteAt ln_Rd_65 h0 (by decide) rfl (f_Rd_byteAt hT h0 e_22) rfl rfl (Nat.le_of_ble_eq_true rfl) ⟨Nat.le_of_ble_eq_true rfl, Nat.le_of_ble_eq_true rfl⟩ ⟨rfl, rfl⟩ ⟨Nat.zero_le _, Nat.zero_le _⟩ ?_
      refine g_bipush (v := Int32.ofInt (97)) C dRd_nameCode_25 (by decide) ?_
      refine g_isub C dRd_nameCode_27 ?_
      refine g_iconst (v := Int32.ofInt (1)) C dRd_nameCode_28 (by decide) ?_
      refine g_iadd C dRd_nameCode_29 ?_
      refine g_i2l C dRd_nameCode_30 ?_
      refine g_ladd C dRd_nameCode_31 ?_
      refine x_lstore_n (i := 1) C dRd_nameCode_32 rfl (by decide) h (fun v1_32 h => ?_)
      refine x_iinc C dRd_nameCode_33 rfl (by decide) h (fun v3_33 h => ?_)
      refine g_goto 7 C dRd_nameCode_36 (by decide) ?_
      exact g_sub (hr_7 (v1_32) (v3_33) h) ⟨rfl, rfl, rfl, trivial⟩
  exact g_sub (lp_7 ((0 : Int64)) (v3_6) h) ⟨rfl, rfl, rfl, trivial⟩
def B_Rd_placeOfS_3 (N : Nat) (O : WO) (x0 : Int64) (a2 : Nat) (x3 : Int32) (J0 : WJ) (rec_3 : Int32 → Option (Int32)) (x4_3 : Int32) : Option (Int32) := if (x3).toInt ≤ (x4_3).toInt then (some (Int32.ofInt (-1))) else (if 5 ≤ (x4_3).toInt then (some (Int32.ofInt (-1))) else (if 0 ≤ (x4_3).toInt ∧ (x4_3).toInt < 5 then (if ((lg_cmp (J0 a2 (x4_3).toInt.toNat) x0)).toInt = 0 then (some x4_3) else (lb (x4_3 + Int32.ofInt (1)) fun v4_28 => rec_3 (v4_28))) else none))
def F_Rd_placeOfS (N : Nat) (O : WO) (I0 : WI) (J0 : WJ) (x0 : Int64) (a2 : Nat) (x3 : Int32) : Option (Int32) := lp (B_Rd_placeOfS_3 N O x0 a2 x3 J0) (fun _ => none) N ((Int32.ofInt (0)))
set_option maxHeartbeats 4000000 in
set_option maxRecDepth 100000 in
theorem f_Rd_placeOfS {P : List Nat} {K : Nat → Nat} {N : Nat} {O : WO} {I0 : WI} {J0 : WJ} (hT : TR P K O) {x0 : Int64} {a2 : Nat} (h2 : a2 ∈ P ∧ K a2 = 16) {x3 : Int32} {r : Int32} (h : F_Rd_placeOfS N O I0 J0 x0 a2 x3 = some r) : Con yRd_placeOf bRd_placeOf 5 (some .int) ({ frames := 0, cells := 0, slots := 0, locals := 0 } : Room) P K I0 O J0 [.long x0, .ref a2, .int x3] (EPo (some (.int r)) I0 J0 P K O) := by
  refine Con.ofG mfRd_placeOf (Nat.le_of_ble_eq_true rfl) ?_
  intro X C E
  unfold F_Rd_placeOfS at h
  refine g_iconst (v := Int32.ofInt (0)) C dRd_placeOf_0 (by decide) ?_
  refine g_istore C dRd_placeOf_1 (by decide) ?_
  have lp_3 : ∀ (x4_3 : Int32), lp (B_Rd_placeOfS_3 N O x0 a2 x3 J0) (fun _ => none) N x4_3 = some r → GG X 5 P K I0 O J0 0 0 3 [(0, .long x0), (2, .ref a2), (3, .int x3), (4, .int x4_3)] [] := by
    refine x_lp (fun (rec_3 : Int32 → Option (Int32)) => ∀ (x4_3 : Int32), rec_3 x4_3 = some r → GG X 5 P K I0 O J0 0 0 3 [(0, .long x0), (2, .ref a2), (3, .int x3), (4, .int x4_3)] []) (fun _ h => by cases h) (fun rec_3 hr_3 x4_3 h => ?_) N
    unfold B_Rd_placeOfS_3 at h
    refine g_iload C dRd_placeOf_3 rfl ?_
    refine g_iload_n C dRd_placeOf_5 rfl ?_
    refine gt_icmp_ge 34 C dRd_placeOf_6 (by decide) rfl rfl (fun c_6 => ?_) (fun c_6 => ?_)
    · have h := x_pos c_6 h
      refine g_iconst (v := Int32.ofInt (-1)) C dRd_placeOf_34 (by decide) ?_
      exact x_iret0 C E dRd_placeOf_35 ⟨Nat.zero_le _, Nat.zero_le _⟩ h
    · have h := x_neg (Int.not_le.mpr c_6) h
      refine g_iload C dRd_placeOf_9 rfl ?_
      refine g_aload_n C dRd_placeOf_11 rfl ?_
      refine x_alenc 5 C dRd_placeOf_12 h2 (by decide) (by decide) (by decide) ?_
      refine gt_icmp_ge 34 C dRd_placeOf_13 (by decide) rfl (ofI (by decide)) (fun c_13 => ?_) (fun c_13 => ?_)
      · have h := x_pos c_13 h
        refine g_iconst (v := Int32.ofInt (-1)) C dRd_placeOf_34 (by decide) ?_
        exact x_iret0 C E dRd_placeOf_35 ⟨Nat.zero_le _, Nat.zero_le _⟩ h
      · have h := x_neg (Int.not_le.mpr c_13) h
        refine g_aload_n C dRd_placeOf_16 rfl ?_
        refine g_iload C dRd_placeOf_17 rfl ?_
        obtain ⟨g_19, h⟩ := x_g h
        refine x_lald (m := 5) C dRd_placeOf_19 h2 (by decide) rfl rfl g_19 ?_
        refine g_lload_n C dRd_placeOf_20 rfl ?_
        refine g_lcmp C dRd_placeOf_21 ?_
        refine gt_if_ne 28 C dRd_placeOf_22 (by decide) rfl (fun c_22 => ?_) (fun c_22 => ?_)
        · have h := x_neg c_22 h
          refine x_iinc C dRd_placeOf_28 rfl (by decide) h (fun v4_28 h => ?_)
          refine g_goto 3 C dRd_placeOf_31 (by decide) ?_
          exact g_sub (hr_3 (v4_28) h) ⟨rfl, rfl, rfl, rfl, trivial⟩
        · have h := x_pos c_22 h
          refine g_iload C dRd_placeOf_25 rfl ?_
          exact x_iret0 C E dRd_placeOf_27 ⟨Nat.zero_le _, Nat.zero_le _⟩ h
  exact g_sub (lp_3 ((Int32.ofInt (0))) h) ⟨rfl, rfl, rfl, rfl, trivial⟩
def B_Rd_placeOfO_3 (N : Nat) (O : WO) (x0 : Int64) (a2 : Nat) (x3 : Int32) (J0 : WJ) (rec_3 : Int32 → Option (Int32)) (x4_3 : Int32) : Option (Int32) := if (x3).toInt ≤ (x4_3).toInt then (some (Int32.ofInt (-1))) else (if 4 ≤ (x4_3).toInt then (some (Int32.ofInt (-1))) else (if 0 ≤ (x4_3).toInt ∧ (x4_3).toInt < 4 then (if ((lg_cmp (J0 a2 (x4_3).toInt.toNat) x0)).toInt = 0 then (some x4_3) else (lb (x4_3 + Int32.ofInt (1)) fun v4_28 => rec_3 (v4_28))) else none))
def F_Rd_placeOfO (N : Nat) (O : WO) (I0 : WI) (J0 : WJ) (x0 : Int64) (a2 : Nat) (x3 : Int32) : Option (Int32) := lp (B_Rd_placeOfO_3 N O x0 a2 x3 J0) (fun _ => none) N ((Int32.ofInt (0)))
set_option maxHeartbeats 4000000 in
set_option maxRecDepth 100000 in
theorem f_Rd_placeOfO {P : List Nat} {K : Nat → Nat} {N : Nat} {O : WO} {I0 : WI} {J0 : WJ} (hT : TR P K O) {x0 : Int64} {a2 : Nat} (h2 : a2 ∈ P ∧ K a2 = 17) {x3 : Int32} {r : Int32} (h : F_Rd_placeOfO N O I0 J0 x0 a2 x3 = some r) : Con yRd_placeOf bRd_placeOf 5 (some .int) ({ frames := 0, cells := 0, slots := 0, locals := 0 } : Room) P K I0 O J0 [.long x0, .ref a2, .int x3] (EPo (some (.int r)) I0 J0 P K O) := by
  refine Con.ofG mfRd_placeOf (Nat.le_of_ble_eq_true rfl) ?_
  intro X C E
  unfold F_Rd_placeOfO at h
  refine g_iconst (v := Int32.ofInt (0)) C dRd_placeOf_0 (by decide) ?_
  refine g_istore C dRd_placeOf_1 (by decide) ?_
  have lp_3 : ∀ (x4_3 : Int32), lp (B_Rd_placeOfO_3 N O x0 a2 x3 J0) (fun _ => none) N x4_3 = some r → GG X 5 P K I0 O J0 0 0 3 [(0, .long x0), (2, .ref a2), (3, .int x3), (4, .int x4_3)] [] := by
    refine x_lp (fun (rec_3 : Int32 → Option (Int32)) => ∀ (x4_3 : Int32), rec_3 x4_3 = some r → GG X 5 P K I0 O J0 0 0 3 [(0, .long x0), (2, .ref a2), (3, .int x3), (4, .int x4_3)] []) (fun _ h => by cases h) (fun rec_3 hr_3 x4_3 h => ?_) N
    unfold B_Rd_placeOfO_3 at h
    refine g_iload C dRd_placeOf_3 rfl ?_
    refine g_iload_n C dRd_placeOf_5 rfl ?_
    refine gt_icmp_ge 34 C dRd_placeOf_6 (by decide) rfl rfl (fun c_6 => ?_) (fun c_6 => ?_)
    · have h := x_pos c_6 h
      refine g_iconst (v := Int32.ofInt (-1)) C dRd_placeOf_34 (by decide) ?_
      exact x_iret0 C E dRd_placeOf_35 ⟨Nat.zero_le _, Nat.zero_le _⟩ h
    · have h := x_neg (Int.not_le.mpr c_6) h
      refine g_iload C dRd_placeOf_9 rfl ?_
      refine g_aload_n C dRd_placeOf_11 rfl ?_
      refine x_alenc 4 C dRd_placeOf_12 h2 (by decide) (by decide) (by decide) ?_
      refine gt_icmp_ge 34 C dRd_placeOf_13 (by decide) rfl (ofI (by decide)) (fun c_13 => ?_) (fun c_13 => ?_)
      · have h := x_pos c_13 h
        refine g_iconst (v := Int32.ofInt (-1)) C dRd_placeOf_34 (by decide) ?_
        exact x_iret0 C E dRd_placeOf_35 ⟨Nat.zero_le _, Nat.zero_le _⟩ h
      · have h := x_neg (Int.not_le.mpr c_13) h
        refine g_aload_n C dRd_placeOf_16 rfl ?_
        refine g_iload C dRd_placeOf_17 rfl ?_
        obtain ⟨g_19, h⟩ := x_g h
        refine x_lald (m := 4) C dRd_placeOf_19 h2 (by decide) rfl rfl g_19 ?_
        refine g_lload_n C dRd_placeOf_20 rfl ?_
        refine g_lcmp C dRd_placeOf_21 ?_
        refine gt_if_ne 28 C dRd_placeOf_22 (by decide) rfl (fun c_22 => ?_) (fun c_22 => ?_)
        · have h := x_neg c_22 h
          refine x_iinc C dRd_placeOf_28 rfl (by decide) h (fun v4_28 h => ?_)
          refine g_goto 3 C dRd_placeOf_31 (by decide) ?_
          exact g_sub (hr_3 (v4_28) h) ⟨rfl, rfl, rfl, rfl, trivial⟩
        · have h := x_pos c_22 h
          refine g_iload C dRd_placeOf_25 rfl ?_
          exact x_iret0 C E dRd_placeOf_27 ⟨Nat.zero_le _, Nat.zero_le _⟩ h
  exact g_sub (lp_3 ((Int32.ofInt (0))) h) ⟨rfl, rfl, rfl, rfl, trivial⟩
def F_Rd_passWord (N : Nat) (O : WO) (I0 : WI) (J0 : WJ) (a0 : Nat) (i1 : Nat) : Option (Int32 × WI) := bd1 (F_Rd_isWord N O I0 J0 a0 i1) fun z_2 => if (z_2).toInt = 0 then (bd2 (F_Rd_fail N O I0 J0 a0 (Int32.ofInt (1))) fun z_10 I3 => if (z_10).toInt = 0 ∨ (z_10).toInt = 1 then (some (z_10, I3)) else none) else (bd1 (F_Rd_step N O I0 J0 a0) fun I2 => some ((Int32.ofInt (1)), I2))
set_option maxHeartbeats 4000000 in
set_option maxRecDepth 100000 in
theorem f_Rd_passWord {P : List Nat} {K : Nat → Nat} {N : Nat} {O : WO} {I0 : WI} {J0 : WJ} (hT : TR P K O) {a0 : Nat} (h0 : a0 ∈ P ∧ K a0 = 5) {i1 : Nat} (h1 : i1 < 31) {r : Int32} {I' : WI} (h : F_Rd_passWord N O I0 J0 a0 i1 = some (r, I')) : ConA yRd_passWord bRd_passWord 2 (some .boolean) ({ frames := 5, cells := 0, slots := 0, locals := 107 } : Room) P K I0 O J0 (fun ad => [.ref a0, .ref (ad.1 i1)]) (EPo (some (.int r)) I' J0 P K O) := by
  refine ConA.ofG mfRd_passWord (fun _ => Nat.le_of_ble_eq_true rfl) ?_
  intro X C E
  unfold F_Rd_passWord at h
  refine g_aload_n C dRd_passWord_0 rfl ?_
  refine g_aload_n C dRd_passWord_1 rfl ?_
  obtain ⟨z_2, e_2, h⟩ := bd1_some h
  refine x_callVi (av := fun ad => [.ref (ad.1 i1)]) C dRd_passWord_2 mfRd_isWord mvRd_isWord ln_Rd_95 h0 (by decide) rfl (f_Rd_isWord hT h0 h1 e_2) rfl rfl (Nat.le_of_ble_eq_true rfl) ⟨Nat.le_of_ble_eq_true rfl, Nat.le_of_ble_eq_true rfl⟩ ⟨rfl, rfl⟩ ⟨Nat.zero_le _, Nat.zero_le _⟩ ?_
  refine gt_if_ne 14 C dRd_passWord_5 (by decide) rfl (fun c_5 => ?_) (fun c_5 => ?_)
  · have h := x_neg c_5 h
    refine g_aload_n C dRd_passWord_14 rfl ?_
    obtain ⟨I2, e_15, h⟩ := bd1_some h
    refine x_callVv (av := fun ad => []) C dRd_passWord_15 mfRd_step mvRd_step ln_Rd_40 h0 (by decide) rfl (f_Rd_step hT h0 e_15) rfl rfl (Nat.le_of_ble_eq_true rfl) ⟨Nat.le_of_ble_eq_true rfl, Nat.le_of_ble_eq_true rfl⟩ ⟨rfl, rfl⟩ ⟨Nat.zero_le _, Nat.zero_le _⟩ ?_
    refine g_iconst (v := Int32.ofInt (1)) C dRd_passWord_18 (by decide) ?_
    exact x_zret1 C E dRd_passWord_19 (by decide) ⟨Nat.zero_le _, Nat.zero_le _⟩ h
  · have h := x_pos c_5 h
    refine g_aload_n C dRd_passWord_8 rfl ?_
    refine g_iconst (v := Int32.ofInt (1)) C dRd_passWord_9 (by decide) ?_
    obtain ⟨z_10, I3, e_10, h⟩ := bd2_some h
    refine x_callVi (av := fun ad => [.int (Int32.ofInt (1))]) C dRd_passWord_10 mfRd_fail mvRd_fail ln_Rd_54 h0 (by decide) rfl (f_Rd_fail hT h0 e_10) rfl rfl (Nat.le_of_ble_eq_true rfl) ⟨Nat.le_of_ble_eq_true rfl, Nat.le_of_ble_eq_true rfl⟩ ⟨rfl, rfl⟩ ⟨Nat.zero_le _, Nat.zero_le _⟩ ?_
    obtain ⟨g_13, h⟩ := x_g h
    exact x_zret1 C E dRd_passWord_13 (x_01 g_13) ⟨Nat.zero_le _, Nat.zero_le _⟩ h
def F_Rd_checkWhole (N : Nat) (O : WO) (I0 : WI) (J0 : WJ) (a0 : Nat) (x1 : Int32) (x2 : Int32) : Option (Int32 × WI) := if ((I0 a0 6)).toInt = 3 then (jn (bd2 (F_Rd_fail N O I0 J0 a0 (Int32.ofInt (4))) fun z_32 I1 => if (z_32).toInt = 0 ∨ (z_32).toInt = 1 then (some (z_32, I1)) else none) fun k_30 => if ((I0 a0 7)).toInt < (x1).toInt then (k_30 ) else (if ((I0 a0 7)).toInt ≤ (x2).toInt then (some ((Int32.ofInt (1)), I0)) else (k_30 ))) else (bd2 (F_Rd_fail N O I0 J0 a0 (Int32.ofInt (1))) fun z_10 I2 => if (z_10).toInt = 0 ∨ (z_10).toInt = 1 then (some (z_10, I2)) else none)
set_option maxHeartbeats 4000000 in
set_option maxRecDepth 100000 in
theorem f_Rd_checkWhole {P : List Nat} {K : Nat → Nat} {N : Nat} {O : WO} {I0 : WI} {J0 : WJ} (hT : TR P K O) {a0 : Nat} (h0 : a0 ∈ P ∧ K a0 = 5) {x1 : Int32} {x2 : Int32} {r : Int32} {I' : WI} (h : F_Rd_checkWhole N O I0 J0 a0 x1 x2 = some (r, I')) : Con yRd_checkWhole bRd_checkWhole 3 (some .boolean) ({ frames := 1, cells := 0, slots := 0, locals := 21 } : Room) P K I0 O J0 [.ref a0, .int x1, .int x2] (EPo (some (.int r)) I' J0 P K O) := by
  refine Con.ofG mfRd_checkWhole (Nat.le_of_ble_eq_true rfl) ?_
  intro X C E
  unfold F_Rd_checkWhole at h
  refine g_aload_n C dRd_checkWhole_0 rfl ?_
  refine g_geti C dRd_checkWhole_1 fl_Rd_47 h0 ?_
  refine g_iconst (v := Int32.ofInt (3)) C dRd_checkWhole_4 (by decide) ?_
  refine gt_icmp_eq 14 C dRd_checkWhole_5 (by decide) rfl (ofI (by decide)) (fun c_5 => ?_) (fun c_5 => ?_)
  · have h := x_pos c_5 h
    refine g_aload_n C dRd_checkWhole_14 rfl ?_
    refine g_geti C dRd_checkWhole_15 fl_Rd_81 h0 ?_
    refine g_iload_n C dRd_checkWhole_18 rfl ?_
    refine x_jn h (fun (k_30 : Option (Int32 × WI)) => k_30  = some (r, I') → GG X 3 P K I0 O J0 0 0 30 [(0, .ref a0), (1, .int x1), (2, .int x2)] []) (fun  h => ?_) (fun k_30 hk_30 h => ?_)
    · skip
      refine g_aload_n C dRd_checkWhole_30 rfl ?_
      refine g_iconst (v := Int32.ofInt (4)) C dRd_checkWhole_31 (by decide) ?_
      obtain ⟨z_32, I1, e_32, h⟩ := bd2_some h
      refine x_callVi (av := fun ad => [.int (Int32.ofInt (4))]) C dRd_checkWhole_32 mfRd_fail mvRd_fail ln_Rd_54 h0 (by decide) rfl (f_Rd_fail hT h0 e_32) rfl rfl (Nat.le_of_ble_eq_true rfl) ⟨Nat.le_of_ble_eq_true rfl, Nat.le_of_ble_eq_true rfl⟩ ⟨rfl, rfl⟩ ⟨Nat.zero_le _, Nat.zero_le _⟩ ?_
      refine g_goto 39 C dRd_checkWhole_35 (by decide) ?_
      obtain ⟨g_39, h⟩ := x_g h
      exact x_zret1 C E dRd_checkWhole_39 (x_01 g_39) ⟨Nat.zero_le _, Nat.zero_le _⟩ h
    refine gt_icmp_lt 30 C dRd_checkWhole_19 (by decide) rfl rfl (fun c_19 => ?_) (fun c_19 => ?_)
    · have h := x_pos c_19 h
      exact g_sub (hk_30  h) ⟨rfl, rfl, rfl, trivial⟩
    · have h := x_neg (Int.not_lt.mpr c_19) h
      refine g_aload_n C dRd_checkWhole_22 rfl ?_
      refine g_geti C dRd_checkWhole_23 fl_Rd_81 h0 ?_
      refine g_iload_n C dRd_checkWhole_26 rfl ?_
      refine gt_icmp_le 38 C dRd_checkWhole_27 (by decide) rfl rfl (fun c_27 => ?_) (fun c_27 => ?_)
      · have h := x_pos c_27 h
        refine g_iconst (v := Int32.ofInt (1)) C dRd_checkWhole_38 (by decide) ?_
        exact x_zret1 C E dRd_checkWhole_39 (by decide) ⟨Nat.zero_le _, Nat.zero_le _⟩ h
      · have h := x_neg (Int.not_le.mpr c_27) h
        exact g_sub (hk_30  h) ⟨rfl, rfl, rfl, trivial⟩
  · have h := x_neg c_5 h
    refine g_aload_n C dRd_checkWhole_8 rfl ?_
    refine g_iconst (v := Int32.ofInt (1)) C dRd_checkWhole_9 (by decide) ?_
    obtain ⟨z_10, I2, e_10, h⟩ := bd2_some h
    refine x_callVi (av := fun ad => [.int (Int32.ofInt (1))]) C dRd_checkWhole_10 mfRd_fail mvRd_fail ln_Rd_54 h0 (by decide) rfl (f_Rd_fail hT h0 e_10) rfl rfl (Nat.le_of_ble_eq_true rfl) ⟨Nat.le_of_ble_eq_true rfl, Nat.le_of_ble_eq_true rfl⟩ ⟨rfl, rfl⟩ ⟨Nat.zero_le _, Nat.zero_le _⟩ ?_
    obtain ⟨g_13, h⟩ := x_g h
    exact x_zret1 C E dRd_checkWhole_13 (x_01 g_13) ⟨Nat.zero_le _, Nat.zero_le _⟩ h
def F_Rd_isTold (N : Nat) (O : WO) (I0 : WI) (J0 : WJ) (a0 : Nat) (a1 : Nat) : Option (Int32) := bd1 (F_Rd_nameCode N O I0 J0 a0) fun z_1 => bd1 (F_Rd_placeOfS N O I0 J0 z_1 (rf O a0 8) (I0 a1 7)) fun z_14 => jn (some (Int32.ofInt (1))) fun k_37 => if (z_14).toInt = (-1) then (bd1 (F_Rd_placeOfO N O I0 J0 z_1 (rf O a0 9) (I0 a1 8)) fun z_30 => if (z_30).toInt = (-1) then (some (Int32.ofInt (0))) else (k_37 )) else (k_37 )
set_option maxHeartbeats 4000000 in
set_option maxRecDepth 100000 in
theorem f_Rd_isTold {P : List Nat} {K : Nat → Nat} {N : Nat} {O : WO} {I0 : WI} {J0 : WJ} (hT : TR P K O) {a0 : Nat} (h0 : a0 ∈ P ∧ K a0 = 5) {a1 : Nat} (h1 : a1 ∈ P ∧ K a1 = 3) {r : Int32} (h : F_Rd_isTold N O I0 J0 a0 a1 = some r) : Con yRd_isTold bRd_isTold 4 (some .boolean) ({ frames := 2, cells := 0, slots := 0, locals := 44 } : Room) P K I0 O J0 [.ref a0, .ref a1] (EPo (some (.int r)) I0 J0 P K O) := by
  refine Con.ofG mfRd_isTold (Nat.le_of_ble_eq_true rfl) ?_
  intro X C E
  unfold F_Rd_isTold at h
  refine g_aload_n C dRd_isTold_0 rfl ?_
  obtain ⟨z_1, e_1, h⟩ := bd1_some h
  refine x_callVl (av := fun ad => []) C dRd_isTold_1 mfRd_nameCode mvRd_nameCode ln_Rd_173 h0 (by decide) rfl (f_Rd_nameCode hT h0 e_1) rfl rfl (Nat.le_of_ble_eq_true rfl) ⟨Nat.le_of_ble_eq_true rfl, Nat.le_of_ble_eq_true rfl⟩ ⟨rfl, rfl⟩ ⟨Nat.zero_le _, Nat.zero_le _⟩ ?_
  refine g_lstore_n (i := 2) C dRd_isTold_4 rfl (by decide) ?_
  refine g_lload_n C dRd_isTold_5 rfl ?_
  refine g_aload_n C dRd_isTold_6 rfl ?_
  have t_7 := rf_ok hT h0 (show sp 5 8 = some 16 from rfl)
  refine x_getr C dRd_isTold_7 fl_Rd_15 h0 hT (show sp 5 8 = some 16 from rfl) ?_
  refine g_aload_n C dRd_isTold_10 rfl ?_
  refine g_geti C dRd_isTold_11 fl_Rd_142 h1 ?_
  obtain ⟨z_14, e_14, h⟩ := bd1_some h
  refine x_callSi (av := fun ad => [.long z_1, .ref (rf O a0 8), .int (I0 a1 7)]) C dRd_isTold_14 mfRd_placeOf msRd_placeOf ln_Rd_177 (f_Rd_placeOfS hT t_7 e_14) rfl rfl (Nat.le_of_ble_eq_true rfl) ⟨Nat.le_of_ble_eq_true rfl, Nat.le_of_ble_eq_true rfl⟩ ⟨rfl, rfl⟩ ⟨Nat.zero_le _, Nat.zero_le _⟩ ?_
  refine g_iconst (v := Int32.ofInt (-1)) C dRd_isTold_17 (by decide) ?_
  refine x_jn h (fun (k_37 : Option (Int32)) => k_37  = some r → GG X 4 P K I0 O J0 0 0 37 [(0, .ref a0), (1, .ref a1), (2, .long z_1)] []) (fun  h => ?_) (fun k_37 hk_37 h => ?_)
  · skip
    refine g_iconst (v := Int32.ofInt (1)) C dRd_isTold_37 (by decide) ?_
    refine g_goto 42 C dRd_isTold_38 (by decide) ?_
    exact x_zret0 C E dRd_isTold_42 (by decide) ⟨Nat.zero_le _, Nat.zero_le _⟩ h
  refine gt_icmp_ne 37 C dRd_isTold_18 (by decide) rfl (ofI (by decide)) (fun c_18 => ?_) (fun c_18 => ?_)
  · have h := x_neg c_18 h
    exact g_sub (hk_37  h) ⟨rfl, rfl, rfl, trivial⟩
  · have h := x_pos c_18 h
    refine g_lload_n C dRd_isTold_21 rfl ?_
    refine g_aload_n C dRd_isTold_22 rfl ?_
    have t_23 := rf_ok hT h0 (show sp 5 9 = some 17 from rfl)
    refine x_getr C dRd_isTold_23 fl_Rd_19 h0 hT (show sp 5 9 = some 17 from rfl) ?_
    refine g_aload_n C dRd_isTold_26 rfl ?_
    refine g_geti C dRd_isTold_27 fl_Rd_149 h1 ?_
    obtain ⟨z_30, e_30, h⟩ := bd1_some h
    refine x_callSi (av := fun ad => [.long z_1, .ref (rf O a0 9), .int (I0 a1 8)]) C dRd_isTold_30 mfRd_placeOf msRd_placeOf ln_Rd_177 (f_Rd_placeOfO hT t_23 e_30) rfl rfl (Nat.le_of_ble_eq_true rfl) ⟨Nat.le_of_ble_eq_true rfl, Nat.le_of_ble_eq_true rfl⟩ ⟨rfl, rfl⟩ ⟨Nat.zero_le _, Nat.zero_le _⟩ ?_
    refine g_iconst (v := Int32.ofInt (-1)) C dRd_isTold_33 (by decide) ?_
    refine gt_icmp_eq 41 C dRd_isTold_34 (by decide) rfl (ofI (by decide)) (fun c_34 => ?_) (fun c_34 => ?_)
    · have h := x_pos c_34 h
      refine g_iconst (v := Int32.ofInt (0)) C dRd_isTold_41 (by decide) ?_
      exact x_zret0 C E dRd_isTold_42 (by decide) ⟨Nat.zero_le _, Nat.zero_le _⟩ h
    · have h := x_neg c_34 h
      exact g_sub (hk_37  h) ⟨rfl, rfl, rfl, trivial⟩
def F_Rd_readDrum (N : Nat) (O : WO) (I0 : WI) (J0 : WJ) (a0 : Nat) (a1 : Nat) : Option (Int32 × WI) := bd1 (F_Rd_step N O I0 J0 a0) fun I1 => bd2 (F_Rd_passWord N O I1 J0 a0 1) fun z_7 I2 => if (z_7).toInt = 0 then (some ((Int32.ofInt (0)), I2)) else (bd2 (F_Rd_checkWhole N O I2 J0 a0 (Int32.ofInt (20)) (Int32.ofInt (999))) fun z_19 I3 => if (z_19).toInt = 0 then (some ((Int32.ofInt (0)), I3)) else (lb (up2 I3 a1 0 (I3 a0 7)) fun I4 => bd1 (F_Rd_step N O I4 J0 a0) fun I5 => bd2 (F_Rd_passWord N O I5 J0 a0 2) fun z_42 I6 => if (z_42).toInt = 0 then (some ((Int32.ofInt (0)), I6)) else (bd2 (F_Rd_checkWhole N O I6 J0 a0 (Int32.ofInt (10)) (Int32.ofInt (200))) fun z_54 I7 => if (z_54).toInt = 0 then (some ((Int32.ofInt (0)), I7)) else (lb (up2 I7 a1 1 (I7 a0 7)) fun I8 => bd1 (F_Rd_step N O I8 J0 a0) fun I9 => some ((Int32.ofInt (1)), I9)))))
set_option maxHeartbeats 4000000 in
set_option maxRecDepth 100000 in
theorem f_Rd_readDrum {P : List Nat} {K : Nat → Nat} {N : Nat} {O : WO} {I0 : WI} {J0 : WJ} (hT : TR P K O) {a0 : Nat} (h0 : a0 ∈ P ∧ K a0 = 5) {a1 : Nat} (h1 : a1 ∈ P ∧ K a1 = 3) {r : Int32} {I' : WI} (h : F_Rd_readDrum N O I0 J0 a0 a1 = some (r, I')) : Con yRd_readDrum bRd_readDrum 2 (some .boolean) ({ frames := 6, cells := 0, slots := 0, locals := 128 } : Room) P K I0 O J0 [.ref a0, .ref a1] (EPo (some (.int r)) I' J0 P K O) := by
  refine Con.ofG mfRd_readDrum (Nat.le_of_ble_eq_true rfl) ?_
  intro X C E
  unfold F_Rd_readDrum at h
  refine g_aload_n C dRd_readDrum_0 rfl ?_
  obtain ⟨I1, e_1, h⟩ := bd1_some h
  refine x_callVv (av := fun ad => []) C dRd_readDrum_1 mfRd_step mvRd_step ln_Rd_40 h0 (by decide) rfl (f_Rd_step hT h0 e_1) rfl rfl (Nat.le_of_ble_eq_true rfl) ⟨Nat.le_of_ble_eq_true rfl, Nat.le_of_ble_eq_true rfl⟩ ⟨rfl, rfl⟩ ⟨Nat.zero_le _, Nat.zero_le _⟩ ?_
  refine g_aload_n C dRd_readDrum_4 rfl ?_
  refine g_ldcS 1 C dRd_readDrum_5 rfl ?_
  obtain ⟨z_7, I2, e_7, h⟩ := bd2_some h
  refine x_callVi (av := fun ad => [.ref (ad.1 1)]) C dRd_readDrum_7 mfRd_passWord mvRd_passWord ln_Rd_159 h0 (by decide) rfl (f_Rd_passWord hT h0 (by decide) e_7) rfl rfl (Nat.le_of_ble_eq_true rfl) ⟨Nat.le_of_ble_eq_true rfl, Nat.le_of_ble_eq_true rfl⟩ ⟨rfl, rfl⟩ ⟨Nat.zero_le _, Nat.zero_le _⟩ ?_
  refine gt_if_eq 25 C dRd_readDrum_10 (by decide) rfl (fun c_10 => ?_) (fun c_10 => ?_)
  · have h := x_pos c_10 h
    refine g_iconst (v := Int32.ofInt (0)) C dRd_readDrum_25 (by decide) ?_
    exact x_zret1 C E dRd_readDrum_26 (by decide) ⟨Nat.zero_le _, Nat.zero_le _⟩ h
  · have h := x_neg c_10 h
    refine g_aload_n C dRd_readDrum_13 rfl ?_
    refine g_bipush (v := Int32.ofInt (20)) C dRd_readDrum_14 (by decide) ?_
    refine g_sipush (v := Int32.ofInt (999)) C dRd_readDrum_16 (by decide) ?_
    obtain ⟨z_19, I3, e_19, h⟩ := bd2_some h
    refine x_callVi (av := fun ad => [.int (Int32.ofInt (20)), .int (Int32.ofInt (999))]) C dRd_readDrum_19 mfRd_checkWhole mvRd_checkWhole ln_Rd_162 h0 (by decide) rfl (f_Rd_checkWhole hT h0 e_19) rfl rfl (Nat.le_of_ble_eq_true rfl) ⟨Nat.le_of_ble_eq_true rfl, Nat.le_of_ble_eq_true rfl⟩ ⟨rfl, rfl⟩ ⟨Nat.zero_le _, Nat.zero_le _⟩ ?_
    refine gt_if_ne 27 C dRd_readDrum_22 (by decide) rfl (fun c_22 => ?_) (fun c_22 => ?_)
    · have h := x_neg c_22 h
      refine g_aload_n C dRd_readDrum_27 rfl ?_
      refine g_aload_n C dRd_readDrum_28 rfl ?_
      refine g_geti C dRd_readDrum_29 fl_Rd_81 h0 ?_
      refine x_puti C dRd_readDrum_32 fl_Rd_113 h1 rfl (Or.inl rfl) h (fun I4 h => ?_)
      refine g_aload_n C dRd_readDrum_35 rfl ?_
      obtain ⟨I5, e_36, h⟩ := bd1_some h
      refine x_callVv (av := fun ad => []) C dRd_readDrum_36 mfRd_step mvRd_step ln_Rd_40 h0 (by decide) rfl (f_Rd_step hT h0 e_36) rfl rfl (Nat.le_of_ble_eq_true rfl) ⟨Nat.le_of_ble_eq_true rfl, Nat.le_of_ble_eq_true rfl⟩ ⟨rfl, rfl⟩ ⟨Nat.zero_le _, Nat.zero_le _⟩ ?_
      refine g_aload_n C dRd_readDrum_39 rfl ?_
      refine g_ldcS 2 C dRd_readDrum_40 rfl ?_
      obtain ⟨z_42, I6, e_42, h⟩ := bd2_some h
      refine x_callVi (av := fun ad => [.ref (ad.1 2)]) C dRd_readDrum_42 mfRd_passWord mvRd_passWord ln_Rd_159 h0 (by decide) rfl (f_Rd_passWord hT h0 (by decide) e_42) rfl rfl (Nat.le_of_ble_eq_true rfl) ⟨Nat.le_of_ble_eq_true rfl, Nat.le_of_ble_eq_true rfl⟩ ⟨rfl, rfl⟩ ⟨Nat.zero_le _, Nat.zero_le _⟩ ?_
      refine gt_if_eq 60 C dRd_readDrum_45 (by decide) rfl (fun c_45 => ?_) (fun c_45 => ?_)
      · have h := x_pos c_45 h
        refine g_iconst (v := Int32.ofInt (0)) C dRd_readDrum_60 (by decide) ?_
        exact x_zret1 C E dRd_readDrum_61 (by decide) ⟨Nat.zero_le _, Nat.zero_le _⟩ h
      · have h := x_neg c_45 h
        refine g_aload_n C dRd_readDrum_48 rfl ?_
        refine g_bipush (v := Int32.ofInt (10)) C dRd_readDrum_49 (by decide) ?_
        refine g_sipush (v := Int32.ofInt (200)) C dRd_readDrum_51 (by decide) ?_
        obtain ⟨z_54, I7, e_54, h⟩ := bd2_some h
        refine x_callVi (av := fun ad => [.int (Int32.ofInt (10)), .int (Int32.ofInt (200))]) C dRd_readDrum_54 mfRd_checkWhole mvRd_checkWhole ln_Rd_162 h0 (by decide) rfl (f_Rd_checkWhole hT h0 e_54) rfl rfl (Nat.le_of_ble_eq_true rfl) ⟨Nat.le_of_ble_eq_true rfl, Nat.le_of_ble_eq_true rfl⟩ ⟨rfl, rfl⟩ ⟨Nat.zero_le _, Nat.zero_le _⟩ ?_
        refine gt_if_ne 62 C dRd_readDrum_57 (by decide) rfl (fun c_57 => ?_) (fun c_57 => ?_)
        · have h := x_neg c_57 h
          refine g_aload_n C dRd_readDrum_62 rfl ?_
          refine g_aload_n C dRd_readDrum_63 rfl ?_
          refine g_geti C dRd_readDrum_64 fl_Rd_81 h0 ?_
          refine x_puti C dRd_readDrum_67 fl_Rd_168 h1 rfl (Or.inl rfl) h (fun I8 h => ?_)
          refine g_aload_n C dRd_readDrum_70 rfl ?_
          obtain ⟨I9, e_71, h⟩ := bd1_some h
          refine x_callVv (av := fun ad => []) C dRd_readDrum_71 mfRd_step mvRd_step ln_Rd_40 h0 (by decide) rfl (f_Rd_step hT h0 e_71) rfl rfl (Nat.le_of_ble_eq_true rfl) ⟨Nat.le_of_ble_eq_true rfl, Nat.le_of_ble_eq_true rfl⟩ ⟨rfl, rfl⟩ ⟨Nat.zero_le _, Nat.zero_le _⟩ ?_
          refine g_iconst (v := Int32.ofInt (1)) C dRd_readDrum_74 (by decide) ?_
          exact x_zret1 C E dRd_readDrum_75 (by decide) ⟨Nat.zero_le _, Nat.zero_le _⟩ h
        · have h := x_pos c_57 h
          refine g_iconst (v := Int32.ofInt (0)) C dRd_readDrum_60 (by decide) ?_
          exact x_zret1 C E dRd_readDrum_61 (by decide) ⟨Nat.zero_le _, Nat.zero_le _⟩ h
    · have h := x_pos c_22 h
      refine g_iconst (v := Int32.ofInt (0)) C dRd_readDrum_25 (by decide) ?_
      exact x_zret1 C E dRd_readDrum_26 (by decide) ⟨Nat.zero_le _, Nat.zero_le _⟩ h
def F_Rd_readSieve (N : Nat) (O : WO) (I0 : WI) (J0 : WJ) (a0 : Nat) (a1 : Nat) : Option (Int32 × WI) := bd1 (F_Rd_step N O I0 J0 a0) fun I1 => bd1 (F_Rd_isName N O I1 J0 a0) fun z_5 => if (z_5).toInt = 0 then (bd2 (F_Rd_fail N O I1 J0 a0 (Int32.ofInt (1))) fun z_13 I12 => if (z_13).toInt = 0 ∨ (z_13).toInt = 1 then (some (z_13, I12)) else none) else (bd1 (F_Rd_nameCode N O I1 J0 a0) fun z_18 => bd1 (F_Rd_placeOfS N O I1 J0 z_18 (rf O a0 8) (I1 a1 7)) fun z_29 => if (z_29).toInt = (-1) then (bd2 (F_Rd_fail N O I1 J0 a0 (Int32.ofInt (2))) fun z_40 I11 => if (z_40).toInt = 0 ∨ (z_40).toInt = 1 then (some (z_40, I11)) else none) else (lb (up2 I1 a1 2 z_29) fun I5 => bd1 (F_Rd_step N O I5 J0 a0) fun I6 => bd2 (F_Rd_passWord N O I6 J0 a0 9) fun z_56 I7 => if (z_56).toInt = 0 then (some ((Int32.ofInt (0)), I7)) else (bd2 (F_Rd_checkWhole N O I7 J0 a0 (Int32.ofInt (0)) (Int32.ofInt (50))) fun z_66 I8 => if (z_66).toInt = 0 then (some ((Int32.ofInt (0)), I8)) else (lb (up2 I8 a1 3 (I8 a0 7)) fun I9 => bd1 (F_Rd_step N O I9 J0 a0) fun I10 => some ((Int32.ofInt (1)), I10)))))
set_option maxHeartbeats 4000000 in
set_option maxRecDepth 100000 in
theorem f_Rd_readSieve {P : List Nat} {K : Nat → Nat} {N : Nat} {O : WO} {I0 : WI} {J0 : WJ} (hT : TR P K O) {a0 : Nat} (h0 : a0 ∈ P ∧ K a0 = 5) {a1 : Nat} (h1 : a1 ∈ P ∧ K a1 = 3) {r : Int32} {I' : WI} (h : F_Rd_readSieve N O I0 J0 a0 a1 = some (r, I')) : Con yRd_readSieve bRd_readSieve 3 (some .boolean) ({ frames := 6, cells := 0, slots := 0, locals := 128 } : Room) P K I0 O J0 [.ref a0, .ref a1] (EPo (some (.int r)) I' J0 P K O) := by
  refine Con.ofG mfRd_readSieve (Nat.le_of_ble_eq_true rfl) ?_
  intro X C E
  unfold F_Rd_readSieve at h
  refine g_aload_n C dRd_readSieve_0 rfl ?_
  obtain ⟨I1, e_1, h⟩ := bd1_some h
  refine x_callVv (av := fun ad => []) C dRd_readSieve_1 mfRd_step mvRd_step ln_Rd_40 h0 (by decide) rfl (f_Rd_step hT h0 e_1) rfl rfl (Nat.le_of_ble_eq_true rfl) ⟨Nat.le_of_ble_eq_true rfl, Nat.le_of_ble_eq_true rfl⟩ ⟨rfl, rfl⟩ ⟨Nat.zero_le _, Nat.zero_le _⟩ ?_
  refine g_aload_n C dRd_readSieve_4 rfl ?_
  obtain ⟨z_5, e_5, h⟩ := bd1_some h
  refine x_callVi (av := fun ad => []) C dRd_readSieve_5 mfRd_isName mvRd_isName ln_Rd_170 h0 (by decide) rfl (f_Rd_isName hT h0 e_5) rfl rfl (Nat.le_of_ble_eq_true rfl) ⟨Nat.le_of_ble_eq_true rfl, Nat.le_of_ble_eq_true rfl⟩ ⟨rfl, rfl⟩ ⟨Nat.zero_le _, Nat.zero_le _⟩ ?_
  refine gt_if_ne 17 C dRd_readSieve_8 (by decide) rfl (fun c_8 => ?_) (fun c_8 => ?_)
  · have h := x_neg c_8 h
    refine g_aload_n C dRd_readSieve_17 rfl ?_
    obtain ⟨z_18, e_18, h⟩ := bd1_some h
    refine x_callVl (av := fun ad => []) C dRd_readSieve_18 mfRd_nameCode mvRd_nameCode ln_Rd_173 h0 (by decide) rfl (f_Rd_nameCode hT h0 e_18) rfl rfl (Nat.le_of_ble_eq_true rfl) ⟨Nat.le_of_ble_eq_true rfl, Nat.le_of_ble_eq_true rfl⟩ ⟨rfl, rfl⟩ ⟨Nat.zero_le _, Nat.zero_le _⟩ ?_
    refine g_aload_n C dRd_readSieve_21 rfl ?_
    have t_22 := rf_ok hT h0 (show sp 5 8 = some 16 from rfl)
    refine x_getr C dRd_readSieve_22 fl_Rd_15 h0 hT (show sp 5 8 = some 16 from rfl) ?_
    refine g_aload_n C dRd_readSieve_25 rfl ?_
    refine g_geti C dRd_readSieve_26 fl_Rd_142 h1 ?_
    obtain ⟨z_29, e_29, h⟩ := bd1_some h
    refine x_callSi (av := fun ad => [.long z_18, .ref (rf O a0 8), .int (I1 a1 7)]) C dRd_readSieve_29 mfRd_placeOf msRd_placeOf ln_Rd_177 (f_Rd_placeOfS hT t_22 e_29) rfl rfl (Nat.le_of_ble_eq_true rfl) ⟨Nat.le_of_ble_eq_true rfl, Nat.le_of_ble_eq_true rfl⟩ ⟨rfl, rfl⟩ ⟨Nat.zero_le _, Nat.zero_le _⟩ ?_
    refine g_istore_n (i := 2) C dRd_readSieve_32 rfl (by decide) ?_
    refine g_iload_n C dRd_readSieve_33 rfl ?_
    refine g_iconst (v := Int32.ofInt (-1)) C dRd_readSieve_34 (by decide) ?_
    refine gt_icmp_ne 44 C dRd_readSieve_35 (by decide) rfl (ofI (by decide)) (fun c_35 => ?_) (fun c_35 => ?_)
    · have h := x_neg c_35 h
      refine g_aload_n C dRd_readSieve_44 rfl ?_
      refine g_iload_n C dRd_readSieve_45 rfl ?_
      refine x_puti C dRd_readSieve_46 fl_Rd_119 h1 rfl (Or.inl rfl) h (fun I5 h => ?_)
      refine g_aload_n C dRd_readSieve_49 rfl ?_
      obtain ⟨I6, e_50, h⟩ := bd1_some h
      refine x_callVv (av := fun ad => []) C dRd_readSieve_50 mfRd_step mvRd_step ln_Rd_40 h0 (by decide) rfl (f_Rd_step hT h0 e_50) rfl rfl (Nat.le_of_ble_eq_true rfl) ⟨Nat.le_of_ble_eq_true rfl, Nat.le_of_ble_eq_true rfl⟩ ⟨rfl, rfl⟩ ⟨Nat.zero_le _, Nat.zero_le _⟩ ?_
      refine g_aload_n C dRd_readSieve_53 rfl ?_
      refine g_ldcS 9 C dRd_readSieve_54 rfl ?_
      obtain ⟨z_56, I7, e_56, h⟩ := bd2_some h
      refine x_callVi (av := fun ad => [.ref (ad.1 9)]) C dRd_readSieve_56 mfRd_passWord mvRd_passWord ln_Rd_159 h0 (by decide) rfl (f_Rd_passWord hT h0 (by decide) e_56) rfl rfl (Nat.le_of_ble_eq_true rfl) ⟨Nat.le_of_ble_eq_true rfl, Nat.le_of_ble_eq_true rfl⟩ ⟨rfl, rfl⟩ ⟨Nat.zero_le _, Nat.zero_le _⟩ ?_
      refine gt_if_eq 72 C dRd_readSieve_59 (by decide) rfl (fun c_59 => ?_) (fun c_59 => ?_)
      · have h := x_pos c_59 h
        refine g_iconst (v := Int32.ofInt (0)) C dRd_readSieve_72 (by decide) ?_
        exact x_zret1 C E dRd_readSieve_73 (by decide) ⟨Nat.zero_le _, Nat.zero_le _⟩ h
      · have h := x_neg c_59 h
        refine g_aload_n C dRd_readSieve_62 rfl ?_
        refine g_iconst (v := Int32.ofInt (0)) C dRd_readSieve_63 (by decide) ?_
        refine g_bipush (v := Int32.ofInt (50)) C dRd_readSieve_64 (by decide) ?_
        obtain ⟨z_66, I8, e_66, h⟩ := bd2_some h
        refine x_callVi (av := fun ad => [.int (Int32.ofInt (0)), .int (Int32.ofInt (50))]) C dRd_readSieve_66 mfRd_checkWhole mvRd_checkWhole ln_Rd_162 h0 (by decide) rfl (f_Rd_checkWhole hT h0 e_66) rfl rfl (Nat.le_of_ble_eq_true rfl) ⟨Nat.le_of_ble_eq_true rfl, Nat.le_of_ble_eq_true rfl⟩ ⟨rfl, rfl⟩ ⟨Nat.zero_le _, Nat.zero_le _⟩ ?_
        refine gt_if_ne 74 C dRd_readSieve_69 (by decide) rfl (fun c_69 => ?_) (fun c_69 => ?_)
        · have h := x_neg c_69 h
          refine g_aload_n C dRd_readSieve_74 rfl ?_
          refine g_aload_n C dRd_readSieve_75 rfl ?_
          refine g_geti C dRd_readSieve_76 fl_Rd_81 h0 ?_
          refine x_puti C dRd_readSieve_79 fl_Rd_183 h1 rfl (Or.inl rfl) h (fun I9 h => ?_)
          refine g_aload_n C dRd_readSieve_82 rfl ?_
          obtain ⟨I10, e_83, h⟩ := bd1_some h
          refine x_callVv (av := fun ad => []) C dRd_readSieve_83 mfRd_step mvRd_step ln_Rd_40 h0 (by decide) rfl (f_Rd_step hT h0 e_83) rfl rfl (Nat.le_of_ble_eq_true rfl) ⟨Nat.le_of_ble_eq_true rfl, Nat.le_of_ble_eq_true rfl⟩ ⟨rfl, rfl⟩ ⟨Nat.zero_le _, Nat.zero_le _⟩ ?_
          refine g_iconst (v := Int32.ofInt (1)) C dRd_readSieve_86 (by decide) ?_
          exact x_zret1 C E dRd_readSieve_87 (by decide) ⟨Nat.zero_le _, Nat.zero_le _⟩ h
        · have h := x_pos c_69 h
          refine g_iconst (v := Int32.ofInt (0)) C dRd_readSieve_72 (by decide) ?_
          exact x_zret1 C E dRd_readSieve_73 (by decide) ⟨Nat.zero_le _, Nat.zero_le _⟩ h
    · have h := x_pos c_35 h
      refine g_aload_n C dRd_readSieve_38 rfl ?_
      refine g_iconst (v := Int32.ofInt (2)) C dRd_readSieve_39 (by decide) ?_
      obtain ⟨z_40, I11, e_40, h⟩ := bd2_some h
      refine x_callVi (av := fun ad => [.int (Int32.ofInt (2))]) C dRd_readSieve_40 mfRd_fail mvRd_fail ln_Rd_54 h0 (by decide) rfl (f_Rd_fail hT h0 e_40) rfl rfl (Nat.le_of_ble_eq_true rfl) ⟨Nat.le_of_ble_eq_true rfl, Nat.le_of_ble_eq_true rfl⟩ ⟨rfl, rfl⟩ ⟨Nat.zero_le _, Nat.zero_le _⟩ ?_
      obtain ⟨g_43, h⟩ := x_g h
      exact x_zret1 C E dRd_readSieve_43 (x_01 g_43) ⟨Nat.zero_le _, Nat.zero_le _⟩ h
  · have h := x_pos c_8 h
    refine g_aload_n C dRd_readSieve_11 rfl ?_
    refine g_iconst (v := Int32.ofInt (1)) C dRd_readSieve_12 (by decide) ?_
    obtain ⟨z_13, I12, e_13, h⟩ := bd2_some h
    refine x_callVi (av := fun ad => [.int (Int32.ofInt (1))]) C dRd_readSieve_13 mfRd_fail mvRd_fail ln_Rd_54 h0 (by decide) rfl (f_Rd_fail hT h0 e_13) rfl rfl (Nat.le_of_ble_eq_true rfl) ⟨Nat.le_of_ble_eq_true rfl, Nat.le_of_ble_eq_true rfl⟩ ⟨rfl, rfl⟩ ⟨Nat.zero_le _, Nat.zero_le _⟩ ?_
    obtain ⟨g_16, h⟩ := x_g h
    exact x_zret1 C E dRd_readSieve_16 (x_01 g_16) ⟨Nat.zero_le _, Nat.zero_le _⟩ h
def F_Rd_readLiner (N : Nat) (O : WO) (I0 : WI) (J0 : WJ) (a0 : Nat) (a1 : Nat) : Option (Int32 × WI) := bd1 (F_Rd_step N O I0 J0 a0) fun I1 => bd2 (F_Rd_checkWhole N O I1 J0 a0 (Int32.ofInt (1)) (Int32.ofInt (200))) fun z_9 I2 => if (z_9).toInt = 0 then (some ((Int32.ofInt (0)), I2)) else (lb (up2 I2 a1 4 (I2 a0 7)) fun I3 => bd1 (F_Rd_step N O I3 J0 a0) fun I4 => some ((Int32.ofInt (1)), I4))
set_option maxHeartbeats 4000000 in
set_option maxRecDepth 100000 in
theorem f_Rd_readLiner {P : List Nat} {K : Nat → Nat} {N : Nat} {O : WO} {I0 : WI} {J0 : WJ} (hT : TR P K O) {a0 : Nat} (h0 : a0 ∈ P ∧ K a0 = 5) {a1 : Nat} (h1 : a1 ∈ P ∧ K a1 = 3) {r : Int32} {I' : WI} (h : F_Rd_readLiner N O I0 J0 a0 a1 = some (r, I')) : Con yRd_readLiner bRd_readLiner 2 (some .boolean) ({ frames := 3, cells := 0, slots := 0, locals := 62 } : Room) P K I0 O J0 [.ref a0, .ref a1] (EPo (some (.int r)) I' J0 P K O) := by
  refine Con.ofG mfRd_readLiner (Nat.le_of_ble_eq_true rfl) ?_
  intro X C E
  unfold F_Rd_readLiner at h
  refine g_aload_n C dRd_readLiner_0 rfl ?_
  obtain ⟨I1, e_1, h⟩ := bd1_some h
  refine x_callVv (av := fun ad => []) C dRd_readLiner_1 mfRd_step mvRd_step ln_Rd_40 h0 (by decide) rfl (f_Rd_step hT h0 e_1) rfl rfl (Nat.le_of_ble_eq_true rfl) ⟨Nat.le_of_ble_eq_true rfl, Nat.le_of_ble_eq_true rfl⟩ ⟨rfl, rfl⟩ ⟨Nat.zero_le _, Nat.zero_le _⟩ ?_
  refine g_aload_n C dRd_readLiner_4 rfl ?_
  refine g_iconst (v := Int32.ofInt (1)) C dRd_readLiner_5 (by decide) ?_
  refine g_sipush (v := Int32.ofInt (200)) C dRd_readLiner_6 (by decide) ?_
  obtain ⟨z_9, I2, e_9, h⟩ := bd2_some h
  refine x_callVi (av := fun ad => [.int (Int32.ofInt (1)), .int (Int32.ofInt (200))]) C dRd_readLiner_9 mfRd_checkWhole mvRd_checkWhole ln_Rd_162 h0 (by decide) rfl (f_Rd_checkWhole hT h0 e_9) rfl rfl (Nat.le_of_ble_eq_true rfl) ⟨Nat.le_of_ble_eq_true rfl, Nat.le_of_ble_eq_true rfl⟩ ⟨rfl, rfl⟩ ⟨Nat.zero_le _, Nat.zero_le _⟩ ?_
  refine gt_if_ne 17 C dRd_readLiner_12 (by decide) rfl (fun c_12 => ?_) (fun c_12 => ?_)
  · have h := x_neg c_12 h
    refine g_aload_n C dRd_readLiner_17 rfl ?_
    refine g_aload_n C dRd_readLiner_18 rfl ?_
    refine g_geti C dRd_readLiner_19 fl_Rd_81 h0 ?_
    refine x_puti C dRd_readLiner_22 fl_Rd_124 h1 rfl (Or.inl rfl) h (fun I3 h => ?_)
    refine g_aload_n C dRd_readLiner_25 rfl ?_
    obtain ⟨I4, e_26, h⟩ := bd1_some h
    refine x_callVv (av := fun ad => []) C dRd_readLiner_26 mfRd_step mvRd_step ln_Rd_40 h0 (by decide) rfl (f_Rd_step hT h0 e_26) rfl rfl (Nat.le_of_ble_eq_true rfl) ⟨Nat.le_of_ble_eq_true rfl, Nat.le_of_ble_eq_true rfl⟩ ⟨rfl, rfl⟩ ⟨Nat.zero_le _, Nat.zero_le _⟩ ?_
    refine g_iconst (v := Int32.ofInt (1)) C dRd_readLiner_29 (by decide) ?_
    exact x_zret1 C E dRd_readLiner_30 (by decide) ⟨Nat.zero_le _, Nat.zero_le _⟩ h
  · have h := x_pos c_12 h
    refine g_iconst (v := Int32.ofInt (0)) C dRd_readLiner_15 (by decide) ?_
    exact x_zret1 C E dRd_readLiner_16 (by decide) ⟨Nat.zero_le _, Nat.zero_le _⟩ h
def F_Rd_readBin (N : Nat) (O : WO) (I0 : WI) (J0 : WJ) (a0 : Nat) (a1 : Nat) : Option (Int32 × WI) := bd1 (F_Rd_step N O I0 J0 a0) fun I1 => bd2 (F_Rd_checkWhole N O I1 J0 a0 (Int32.ofInt (1)) (Int32.ofInt (999))) fun z_9 I2 => if (z_9).toInt = 0 then (some ((Int32.ofInt (0)), I2)) else (lb (up2 I2 a1 5 (I2 a0 7)) fun I3 => bd1 (F_Rd_step N O I3 J0 a0) fun I4 => bd2 (F_Rd_passWord N O I4 J0 a0 10) fun z_32 I5 => if (z_32).toInt = 0 then (some ((Int32.ofInt (0)), I5)) else (bd2 (F_Rd_checkWhole N O I5 J0 a0 (Int32.ofInt (0)) (Int32.ofInt (200))) fun z_43 I6 => if (z_43).toInt = 0 then (some ((Int32.ofInt (0)), I6)) else (lb (up2 I6 a1 6 (I6 a0 7)) fun I7 => bd1 (F_Rd_step N O I7 J0 a0) fun I8 => some ((Int32.ofInt (1)), I8))))
set_option maxHeartbeats 4000000 in
set_option maxRecDepth 100000 in
theorem f_Rd_readBin {P : List Nat} {K : Nat → Nat} {N : Nat} {O : WO} {I0 : WI} {J0 : WJ} (hT : TR P K O) {a0 : Nat} (h0 : a0 ∈ P ∧ K a0 = 5) {a1 : Nat} (h1 : a1 ∈ P ∧ K a1 = 3) {r : Int32} {I' : WI} (h : F_Rd_readBin N O I0 J0 a0 a1 = some (r, I')) : Con yRd_readBin bRd_readBin 2 (some .boolean) ({ frames := 6, cells := 0, slots := 0, locals := 128 } : Room) P K I0 O J0 [.ref a0, .ref a1] (EPo (some (.int r)) I' J0 P K O) := by
  refine Con.ofG mfRd_readBin (Nat.le_of_ble_eq_true rfl) ?_
  intro X C E
  unfold F_Rd_readBin at h
  refine g_aload_n C dRd_readBin_0 rfl ?_
  obtain ⟨I1, e_1, h⟩ := bd1_some h
  refine x_callVv (av := fun ad => []) C dRd_readBin_1 mfRd_step mvRd_step ln_Rd_40 h0 (by decide) rfl (f_Rd_step hT h0 e_1) rfl rfl (Nat.le_of_ble_eq_true rfl) ⟨Nat.le_of_ble_eq_true rfl, Nat.le_of_ble_eq_true rfl⟩ ⟨rfl, rfl⟩ ⟨Nat.zero_le _, Nat.zero_le _⟩ ?_
  refine g_aload_n C dRd_readBin_4 rfl ?_
  refine g_iconst (v := Int32.ofInt (1)) C dRd_readBin_5 (by decide) ?_
  refine g_sipush (v := Int32.ofInt (999)) C dRd_readBin_6 (by decide) ?_
  obtain ⟨z_9, I2, e_9, h⟩ := bd2_some h
  refine x_callVi (av := fun ad => [.int (Int32.ofInt (1)), .int (Int32.ofInt (999))]) C dRd_readBin_9 mfRd_checkWhole mvRd_checkWhole ln_Rd_162 h0 (by decide) rfl (f_Rd_checkWhole hT h0 e_9) rfl rfl (Nat.le_of_ble_eq_true rfl) ⟨Nat.le_of_ble_eq_true rfl, Nat.le_of_ble_eq_true rfl⟩ ⟨rfl, rfl⟩ ⟨Nat.zero_le _, Nat.zero_le _⟩ ?_
  refine gt_if_ne 17 C dRd_readBin_12 (by decide) rfl (fun c_12 => ?_) (fun c_12 => ?_)
  · have h := x_neg c_12 h
    refine g_aload_n C dRd_readBin_17 rfl ?_
    refine g_aload_n C dRd_readBin_18 rfl ?_
    refine g_geti C dRd_readBin_19 fl_Rd_81 h0 ?_
    refine x_puti C dRd_readBin_22 fl_Rd_130 h1 rfl (Or.inl rfl) h (fun I3 h => ?_)
    refine g_aload_n C dRd_readBin_25 rfl ?_
    obtain ⟨I4, e_26, h⟩ := bd1_some h
    refine x_callVv (av := fun ad => []) C dRd_readBin_26 mfRd_step mvRd_step ln_Rd_40 h0 (by decide) rfl (f_Rd_step hT h0 e_26) rfl rfl (Nat.le_of_ble_eq_true rfl) ⟨Nat.le_of_ble_eq_true rfl, Nat.le_of_ble_eq_true rfl⟩ ⟨rfl, rfl⟩ ⟨Nat.zero_le _, Nat.zero_le _⟩ ?_
    refine g_aload_n C dRd_readBin_29 rfl ?_
    refine g_ldcS 10 C dRd_readBin_30 rfl ?_
    obtain ⟨z_32, I5, e_32, h⟩ := bd2_some h
    refine x_callVi (av := fun ad => [.ref (ad.1 10)]) C dRd_readBin_32 mfRd_passWord mvRd_passWord ln_Rd_159 h0 (by decide) rfl (f_Rd_passWord hT h0 (by decide) e_32) rfl rfl (Nat.le_of_ble_eq_true rfl) ⟨Nat.le_of_ble_eq_true rfl, Nat.le_of_ble_eq_true rfl⟩ ⟨rfl, rfl⟩ ⟨Nat.zero_le _, Nat.zero_le _⟩ ?_
    refine gt_if_eq 49 C dRd_readBin_35 (by decide) rfl (fun c_35 => ?_) (fun c_35 => ?_)
    · have h := x_pos c_35 h
      refine g_iconst (v := Int32.ofInt (0)) C dRd_readBin_49 (by decide) ?_
      exact x_zret1 C E dRd_readBin_50 (by decide) ⟨Nat.zero_le _, Nat.zero_le _⟩ h
    · have h := x_neg c_35 h
      refine g_aload_n C dRd_readBin_38 rfl ?_
      refine g_iconst (v := Int32.ofInt (0)) C dRd_readBin_39 (by decide) ?_
      refine g_sipush (v := Int32.ofInt (200)) C dRd_readBin_40 (by decide) ?_
      obtain ⟨z_43, I6, e_43, h⟩ := bd2_some h
      refine x_callVi (av := fun ad => [.int (Int32.ofInt (0)), .int (Int32.ofInt (200))]) C dRd_readBin_43 mfRd_checkWhole mvRd_checkWhole ln_Rd_162 h0 (by decide) rfl (f_Rd_checkWhole hT h0 e_43) rfl rfl (Nat.le_of_ble_eq_true rfl) ⟨Nat.le_of_ble_eq_true rfl, Nat.le_of_ble_eq_true rfl⟩ ⟨rfl, rfl⟩ ⟨Nat.zero_le _, Nat.zero_le _⟩ ?_
      refine gt_if_ne 51 C dRd_readBin_46 (by decide) rfl (fun c_46 => ?_) (fun c_46 => ?_)
      · have h := x_neg c_46 h
        refine g_aload_n C dRd_readBin_51 rfl ?_
        refine g_aload_n C dRd_readBin_52 rfl ?_
        refine g_geti C dRd_readBin_53 fl_Rd_81 h0 ?_
        refine x_puti C dRd_readBin_56 fl_Rd_187 h1 rfl (Or.inl rfl) h (fun I7 h => ?_)
        refine g_aload_n C dRd_readBin_59 rfl ?_
        obtain ⟨I8, e_60, h⟩ := bd1_some h
        refine x_callVv (av := fun ad => []) C dRd_readBin_60 mfRd_step mvRd_step ln_Rd_40 h0 (by decide) rfl (f_Rd_step hT h0 e_60) rfl rfl (Nat.le_of_ble_eq_true rfl) ⟨Nat.le_of_ble_eq_true rfl, Nat.le_of_ble_eq_true rfl⟩ ⟨rfl, rfl⟩ ⟨Nat.zero_le _, Nat.zero_le _⟩ ?_
        refine g_iconst (v := Int32.ofInt (1)) C dRd_readBin_63 (by decide) ?_
        exact x_zret1 C E dRd_readBin_64 (by decide) ⟨Nat.zero_le _, Nat.zero_le _⟩ h
      · have h := x_pos c_46 h
        refine g_iconst (v := Int32.ofInt (0)) C dRd_readBin_49 (by decide) ?_
        exact x_zret1 C E dRd_readBin_50 (by decide) ⟨Nat.zero_le _, Nat.zero_le _⟩ h
  · have h := x_pos c_12 h
    refine g_iconst (v := Int32.ofInt (0)) C dRd_readBin_15 (by decide) ?_
    exact x_zret1 C E dRd_readBin_16 (by decide) ⟨Nat.zero_le _, Nat.zero_le _⟩ h
def B_Rd_readPrices_2 (N : Nat) (O : WO) (a0 : Nat) (a1 : Nat) (J0 : WJ) (rec_2 : Int32 → WI → Option (Int32 × WI)) (x2_2 : Int32) (I_2 : WI) : Option (Int32 × WI) := if 6 < (x2_2).toInt then (bd2 (F_Rd_fail N O I_2 J0 a0 (Int32.ofInt (5))) fun z_76 I1 => if (z_76).toInt = 0 ∨ (z_76).toInt = 1 then (some (z_76, I1)) else none) else (bd1 (F_Rd_step N O I_2 J0 a0) fun I2 => bd2 (F_Rd_checkWhole N O I2 J0 a0 (Int32.ofInt (0)) (Int32.ofInt (99))) fun z_16 I3 => if (z_16).toInt = 0 then (some ((Int32.ofInt (0)), I3)) else (if (x2_2).toInt < 6 then (if 0 ≤ (x2_2).toInt ∧ (x2_2).toInt < 6 then (lb (up2 I3 (rf O a1 10) (x2_2).toInt.toNat (I3 a0 7)) fun I4 => lb (up2 I4 a1 9 (x2_2 + (Int32.ofInt (1)))) fun I5 => bd1 (F_Rd_step N O I5 J0 a0) fun I6 => bd1 (F_Rd_isSign N O I6 J0 a0 (Int32.ofInt (44))) fun z_60 => if (z_60).toInt = 0 then (some ((Int32.ofInt (1)), I6)) else (lb (x2_2 + Int32.ofInt (1)) fun v2_68 => rec_2 (v2_68) I6)) else none) else (bd2 (F_Rd_fail N O I3 J0 a0 (Int32.ofInt (5))) fun z_32 I8 => if (z_32).toInt = 0 ∨ (z_32).toInt = 1 then (some (z_32, I8)) else none)))
def F_Rd_readPrices (N : Nat) (O : WO) (I0 : WI) (J0 : WJ) (a0 : Nat) (a1 : Nat) : Option (Int32 × WI) := lp (B_Rd_readPrices_2 N O a0 a1 J0) (fun _ _ => none) N ((Int32.ofInt (0))) I0
set_option maxHeartbeats 4000000 in
set_option maxRecDepth 100000 in
theorem f_Rd_readPrices {P : List Nat} {K : Nat → Nat} {N : Nat} {O : WO} {I0 : WI} {J0 : WJ} (hT : TR P K O) {a0 : Nat} (h0 : a0 ∈ P ∧ K a0 = 5) {a1 : Nat} (h1 : a1 ∈ P ∧ K a1 = 3) {r : Int32} {I' : WI} (h : F_Rd_readPrices N O I0 J0 a0 a1 = some (r, I')) : Con yRd_readPrices bRd_readPrices 3 (some .boolean) ({ frames := 3, cells := 0, slots := 0, locals := 62 } : Room) P K I0 O J0 [.ref a0, .ref a1] (EPo (some (.int r)) I' J0 P K O) := by
  refine Con.ofG mfRd_readPrices (Nat.le_of_ble_eq_true rfl) ?_
  intro X C E
  unfold F_Rd_readPrices at h
  refine g_iconst (v := Int32.ofInt (0)) C dRd_readPrices_0 (by decide) ?_
  refine g_istore_n (i := 2) C dRd_readPrices_1 rfl (by decide) ?_
  have lp_2 : ∀ (x2_2 : Int32) (I_2 : WI), lp (B_Rd_readPrices_2 N O a0 a1 J0) (fun _ _ => none) N x2_2 I_2 = some (r, I') → GG X 3 P K I_2 O J0 0 0 2 [(0, .ref a0), (1, .ref a1), (2, .int x2_2)] [] := by
    refine x_lp (fun (rec_2 : Int32 → WI → Option (Int32 × WI)) => ∀ (x2_2 : Int32) (I_2 : WI), rec_2 x2_2 I_2 = some (r, I') → GG X 3 P K I_2 O J0 0 0 2 [(0, .ref a0), (1, .ref a1), (2, .int x2_2)] []) (fun _ _ h => by cases h) (fun rec_2 hr_2 x2_2 I_2 h => ?_) N
    unfold B_Rd_readPrices_2 at h
    refine g_iload_n C dRd_readPrices_2 rfl ?_
    refine g_bipush (v := Int32.ofInt (6)) C dRd_readPrices_3 (by decide) ?_
    refine gt_icmp_gt 74 C dRd_readPrices_5 (by decide) rfl (ofI (by decide)) (fun c_5 => ?_) (fun c_5 => ?_)
    · have h := x_pos c_5 h
      refine g_aload_n C dRd_readPrices_74 rfl ?_
      refine g_iconst (v := Int32.ofInt (5)) C dRd_readPrices_75 (by decide) ?_
      obtain ⟨z_76, I1, e_76, h⟩ := bd2_some h
      refine x_callVi (av := fun ad => [.int (Int32.ofInt (5))]) C dRd_readPrices_76 mfRd_fail mvRd_fail ln_Rd_54 h0 (by decide) rfl (f_Rd_fail hT h0 e_76) rfl rfl (Nat.le_of_ble_eq_true rfl) ⟨Nat.le_of_ble_eq_true rfl, Nat.le_of_ble_eq_true rfl⟩ ⟨rfl, rfl⟩ ⟨Nat.zero_le _, Nat.zero_le _⟩ ?_
      obtain ⟨g_79, h⟩ := x_g h
      exact x_zret1 C E dRd_readPrices_79 (x_01 g_79) ⟨Nat.zero_le _, Nat.zero_le _⟩ h
    · have h := x_neg (Int.not_lt.mpr c_5) h
      refine g_aload_n C dRd_readPrices_8 rfl ?_
      obtain ⟨I2, e_9, h⟩ := bd1_some h
      refine x_callVv (av := fun ad => []) C dRd_readPrices_9 mfRd_step mvRd_step ln_Rd_40 h0 (by decide) rfl (f_Rd_step hT h0 e_9) rfl rfl (Nat.le_of_ble_eq_true rfl) ⟨Nat.le_of_ble_eq_true rfl, Nat.le_of_ble_eq_true rfl⟩ ⟨rfl, rfl⟩ ⟨Nat.zero_le _, Nat.zero_le _⟩ ?_
      refine g_aload_n C dRd_readPrices_12 rfl ?_
      refine g_iconst (v := Int32.ofInt (0)) C dRd_readPrices_13 (by decide) ?_
      refine g_bipush (v := Int32.ofInt (99)) C dRd_readPrices_14 (by decide) ?_
      obtain ⟨z_16, I3, e_16, h⟩ := bd2_some h
      refine x_callVi (av := fun ad => [.int (Int32.ofInt (0)), .int (Int32.ofInt (99))]) C dRd_readPrices_16 mfRd_checkWhole mvRd_checkWhole ln_Rd_162 h0 (by decide) rfl (f_Rd_checkWhole hT h0 e_16) rfl rfl (Nat.le_of_ble_eq_true rfl) ⟨Nat.le_of_ble_eq_true rfl, Nat.le_of_ble_eq_true rfl⟩ ⟨rfl, rfl⟩ ⟨Nat.zero_le _, Nat.zero_le _⟩ ?_
      refine gt_if_ne 24 C dRd_readPrices_19 (by decide) rfl (fun c_19 => ?_) (fun c_19 => ?_)
      · have h := x_neg c_19 h
        refine g_iload_n C dRd_readPrices_24 rfl ?_
        refine g_bipush (v := Int32.ofInt (6)) C dRd_readPrices_25 (by decide) ?_
        refine gt_icmp_lt 36 C dRd_readPrices_27 (by decide) rfl (ofI (by decide)) (fun c_27 => ?_) (fun c_27 => ?_)
        · have h := x_pos c_27 h
          refine g_aload_n C dRd_readPrices_36 rfl ?_
          have t_37 := rf_ok hT h1 (show sp 3 10 = some 13 from rfl)
          refine x_getr C dRd_readPrices_37 fl_Rd_189 h1 hT (show sp 3 10 = some 13 from rfl) ?_
          refine g_iload_n C dRd_readPrices_40 rfl ?_
          refine g_aload_n C dRd_readPrices_41 rfl ?_
          refine g_geti C dRd_readPrices_42 fl_Rd_81 h0 ?_
          obtain ⟨g_45, h⟩ := x_g h
          refine x_iast (m := 6) C dRd_readPrices_45 t_37 (by decide) rfl rfl g_45 h (fun I4 h => ?_)
          refine g_aload_n C dRd_readPrices_46 rfl ?_
          refine g_iload_n C dRd_readPrices_47 rfl ?_
          refine g_iconst (v := Int32.ofInt (1)) C dRd_readPrices_48 (by decide) ?_
          refine g_iadd C dRd_readPrices_49 ?_
          refine x_puti C dRd_readPrices_50 fl_Rd_136 h1 rfl (Or.inl rfl) h (fun I5 h => ?_)
          refine g_aload_n C dRd_readPrices_53 rfl ?_
          obtain ⟨I6, e_54, h⟩ := bd1_some h
          refine x_callVv (av := fun ad => []) C dRd_readPrices_54 mfRd_step mvRd_step ln_Rd_40 h0 (by decide) rfl (f_Rd_step hT h0 e_54) rfl rfl (Nat.le_of_ble_eq_true rfl) ⟨Nat.le_of_ble_eq_true rfl, Nat.le_of_ble_eq_true rfl⟩ ⟨rfl, rfl⟩ ⟨Nat.zero_le _, Nat.zero_le _⟩ ?_
          refine g_aload_n C dRd_readPrices_57 rfl ?_
          refine g_bipush (v := Int32.ofInt (44)) C dRd_readPrices_58 (by decide) ?_
          obtain ⟨z_60, e_60, h⟩ := bd1_some h
          refine x_callVi (av := fun ad => [.int (Int32.ofInt (44))]) C dRd_readPrices_60 mfRd_isSign mvRd_isSign ln_Rd_58 h0 (by decide) rfl (f_Rd_isSign hT h0 e_60) rfl rfl (Nat.le_of_ble_eq_true rfl) ⟨Nat.le_of_ble_eq_true rfl, Nat.le_of_ble_eq_true rfl⟩ ⟨rfl, rfl⟩ ⟨Nat.zero_le _, Nat.zero_le _⟩ ?_
          refine gt_if_ne 68 C dRd_readPrices_63 (by decide) rfl (fun c_63 => ?_) (fun c_63 => ?_)
          · have h := x_neg c_63 h
            refine x_iinc C dRd_readPrices_68 rfl (by decide) h (fun v2_68 h => ?_)
            refine g_goto 2 C dRd_readPrices_71 (by decide) ?_
            exact g_sub (hr_2 (v2_68) I6 h) ⟨rfl, rfl, rfl, trivial⟩
          · have h := x_pos c_63 h
            refine g_iconst (v := Int32.ofInt (1)) C dRd_readPrices_66 (by decide) ?_
            exact x_zret1 C E dRd_readPrices_67 (by decide) ⟨Nat.zero_le _, Nat.zero_le _⟩ h
        · have h := x_neg (Int.not_lt.mpr c_27) h
          refine g_aload_n C dRd_readPrices_30 rfl ?_
          refine g_iconst (v := Int32.ofInt (5)) C dRd_readPrices_31 (by decide) ?_
          obtain ⟨z_32, I8, e_32, h⟩ := bd2_some h
          refine x_callVi (av := fun ad => [.int (Int32.ofInt (5))]) C dRd_readPrices_32 mfRd_fail mvRd_fail ln_Rd_54 h0 (by decide) rfl (f_Rd_fail hT h0 e_32) rfl rfl (Nat.le_of_ble_eq_true rfl) ⟨Nat.le_of_ble_eq_true rfl, Nat.le_of_ble_eq_true rfl⟩ ⟨rfl, rfl⟩ ⟨Nat.zero_le _, Nat.zero_le _⟩ ?_
          obtain ⟨g_35, h⟩ := x_g h
          exact x_zret1 C E dRd_readPrices_35 (x_01 g_35) ⟨Nat.zero_le _, Nat.zero_le _⟩ h
      · have h := x_pos c_19 h
        refine g_iconst (v := Int32.ofInt (0)) C dRd_readPrices_22 (by decide) ?_
        exact x_zret1 C E dRd_readPrices_23 (by decide) ⟨Nat.zero_le _, Nat.zero_le _⟩ h
  exact g_sub (lp_2 ((Int32.ofInt (0))) I0 h) ⟨rfl, rfl, rfl, trivial⟩
def F_Rd_readSize (N : Nat) (O : WO) (I0 : WI) (J0 : WJ) (a0 : Nat) (a1 : Nat) (x2 : Int32) : Option (Int32 × WI × WJ) := bd1 (F_Rd_step N O I0 J0 a0) fun I1 => bd1 (F_Rd_isName N O I1 J0 a0) fun z_5 => if (z_5).toInt = 0 then (bd2 (F_Rd_fail N O I1 J0 a0 (Int32.ofInt (1))) fun z_13 I19 => if (z_13).toInt = 0 ∨ (z_13).toInt = 1 then (some (z_13, I19, J0)) else none) else (bd1 (F_Rd_isTold N O I1 J0 a0 a1) fun z_19 => if (z_19).toInt = 0 then (jn (bd2 (F_Rd_fail N O I1 J0 a0 (Int32.ofInt (5))) fun z_42 I4 => if (z_42).toInt = 0 ∨ (z_42).toInt = 1 then (some (z_42, I4, J0)) else none) fun k_40 => if (x2).toInt < 0 then (k_40 ) else (if (x2).toInt < 5 then (bd1 (F_Rd_nameCode N O I1 J0 a0) fun z_52 => if 0 ≤ (x2).toInt ∧ (x2).toInt < 5 then (lb (up2 J0 (rf O a0 8) (x2).toInt.toNat z_52) fun J6 => lb (up2 I1 a1 7 (x2 + (Int32.ofInt (1)))) fun I7 => bd1 (F_Rd_step N O I7 J6 a0) fun I8 => bd1 (F_Rd_isWord N O I8 J6 a0 11) fun z_70 => if (z_70).toInt = 0 then (some ((Int32.ofInt (1)), I8, J6)) else (bd1 (F_Rd_step N O I8 J6 a0) fun I10 => bd2 (F_Rd_checkWhole N O I10 J6 a0 (Int32.ofInt (0)) (Int32.ofInt (100))) fun z_86 I11 => if (z_86).toInt = 0 then (some ((Int32.ofInt (0)), I11, J6)) else (if 0 ≤ (x2).toInt ∧ (x2).toInt < 5 then (lb (up2 I11 (rf O a1 11) (x2).toInt.toNat (I11 a0 7)) fun I12 => bd1 (F_Rd_step N O I12 J6 a0) fun I13 => bd2 (F_Rd_passWord N O I13 J6 a0 12) fun z_111 I14 => if (z_111).toInt = 0 then (some ((Int32.ofInt (0)), I14, J6)) else (bd2 (F_Rd_checkWhole N O I14 J6 a0 (Int32.ofInt (0)) (Int32.ofInt (100))) fun z_121 I15 => if (z_121).toInt = 0 then (some ((Int32.ofInt (0)), I15, J6)) else (if 0 ≤ (x2).toInt ∧ (x2).toInt < 5 then (lb (up2 I15 (rf O a1 12) (x2).toInt.toNat (I15 a0 7)) fun I16 => bd1 (F_Rd_step N O I16 J6 a0) fun I17 => some ((Int32.ofInt (1)), I17, J6)) else none))) else none))) else none) else (k_40 ))) else (bd2 (F_Rd_fail N O I1 J0 a0 (Int32.ofInt (3))) fun z_27 I18 => if (z_27).toInt = 0 ∨ (z_27).toInt = 1 then (some (z_27, I18, J0)) else none))
set_option maxHeartbeats 4000000 in
set_option maxRecDepth 100000 in
theorem f_Rd_readSize {P : List Nat} {K : Nat → Nat} {N : Nat} {O : WO} {I0 : WI} {J0 : WJ} (hT : TR P K O) {a0 : Nat} (h0 : a0 ∈ P ∧ K a0 = 5) {a1 : Nat} (h1 : a1 ∈ P ∧ K a1 = 3) {x2 : Int32} {r : Int32} {I' : WI} {J' : WJ} (h : F_Rd_readSize N O I0 J0 a0 a1 x2 = some (r, I', J')) : Con yRd_readSize bRd_readSize 3 (some .boolean) ({ frames := 6, cells := 0, slots := 0, locals := 128 } : Room) P K I0 O J0 [.ref a0, .ref a1, .int x2] (EPo (some (.int r)) I' J' P K O) := by
  refine Con.ofG mfRd_readSize (Nat.le_of_ble_eq_true rfl) ?_
  intro X C E
  unfold F_Rd_readSize at h
  refine g_aload_n C dRd_readSize_0 rfl ?_
  obtain ⟨I1, e_1, h⟩ := bd1_some h
  refine x_callVv (av := fun ad => []) C dRd_readSize_1 mfRd_step mvRd_step ln_Rd_40 h0 (by decide) rfl (f_Rd_step hT h0 e_1) rfl rfl (Nat.le_of_ble_eq_true rfl) ⟨Nat.le_of_ble_eq_true rfl, Nat.le_of_ble_eq_true rfl⟩ ⟨rfl, rfl⟩ ⟨Nat.zero_le _, Nat.zero_le _⟩ ?_
  refine g_aload_n C dRd_readSize_4 rfl ?_
  obtain ⟨z_5, e_5, h⟩ := bd1_some h
  refine x_callVi (av := fun ad => []) C dRd_readSize_5 mfRd_isName mvRd_isName ln_Rd_170 h0 (by decide) rfl (f_Rd_isName hT h0 e_5) rfl rfl (Nat.le_of_ble_eq_true rfl) ⟨Nat.le_of_ble_eq_true rfl, Nat.le_of_ble_eq_true rfl⟩ ⟨rfl, rfl⟩ ⟨Nat.zero_le _, Nat.zero_le _⟩ ?_
  refine gt_if_ne 17 C dRd_readSize_8 (by decide) rfl (fun c_8 => ?_) (fun c_8 => ?_)
  · have h := x_neg c_8 h
    refine g_aload_n C dRd_readSize_17 rfl ?_
    refine g_aload_n C dRd_readSize_18 rfl ?_
    obtain ⟨z_19, e_19, h⟩ := bd1_some h
    refine x_callVi (av := fun ad => [.ref a1]) C dRd_readSize_19 mfRd_isTold mvRd_isTold ln_Rd_193 h0 (by decide) rfl (f_Rd_isTold hT h0 h1 e_19) rfl rfl (Nat.le_of_ble_eq_true rfl) ⟨Nat.le_of_ble_eq_true rfl, Nat.le_of_ble_eq_true rfl⟩ ⟨rfl, rfl⟩ ⟨Nat.zero_le _, Nat.zero_le _⟩ ?_
    refine gt_if_eq 31 C dRd_readSize_22 (by decide) rfl (fun c_22 => ?_) (fun c_22 => ?_)
    · have h := x_pos c_22 h
      refine g_iload_n C dRd_readSize_31 rfl ?_
      refine x_jn h (fun (k_40 : Option (Int32 × WI × WJ)) => k_40  = some (r, I', J') → GG X 3 P K I1 O J0 0 0 40 [(0, .ref a0), (1, .ref a1), (2, .int x2)] []) (fun  h => ?_) (fun k_40 hk_40 h => ?_)
      · skip
        refine g_aload_n C dRd_readSize_40 rfl ?_
        refine g_iconst (v := Int32.ofInt (5)) C dRd_readSize_41 (by decide) ?_
        obtain ⟨z_42, I4, e_42, h⟩ := bd2_some h
        refine x_callVi (av := fun ad => [.int (Int32.ofInt (5))]) C dRd_readSize_42 mfRd_fail mvRd_fail ln_Rd_54 h0 (by decide) rfl (f_Rd_fail hT h0 e_42) rfl rfl (Nat.le_of_ble_eq_true rfl) ⟨Nat.le_of_ble_eq_true rfl, Nat.le_of_ble_eq_true rfl⟩ ⟨rfl, rfl⟩ ⟨Nat.zero_le _, Nat.zero_le _⟩ ?_
        obtain ⟨g_45, h⟩ := x_g h
        exact x_zret2 C E dRd_readSize_45 (x_01 g_45) ⟨Nat.zero_le _, Nat.zero_le _⟩ h
      refine gt_if_lt 40 C dRd_readSize_32 (by decide) rfl (fun c_32 => ?_) (fun c_32 => ?_)
      · have h := x_pos c_32 h
        exact g_sub (hk_40  h) ⟨rfl, rfl, rfl, trivial⟩
      · have h := x_neg (Int.not_lt.mpr c_32) h
        refine g_iload_n C dRd_readSize_35 rfl ?_
        refine g_iconst (v := Int32.ofInt (5)) C dRd_readSize_36 (by decide) ?_
        refine gt_icmp_lt 46 C dRd_readSize_37 (by decide) rfl (ofI (by decide)) (fun c_37 => ?_) (fun c_37 => ?_)
        · have h := x_pos c_37 h
          refine g_aload_n C dRd_readSize_46 rfl ?_
          have t_47 := rf_ok hT h0 (show sp 5 8 = some 16 from rfl)
          refine x_getr C dRd_readSize_47 fl_Rd_15 h0 hT (show sp 5 8 = some 16 from rfl) ?_
          refine g_iload_n C dRd_readSize_50 rfl ?_
          refine g_aload_n C dRd_readSize_51 rfl ?_
          obtain ⟨z_52, e_52, h⟩ := bd1_some h
          refine x_callVl (av := fun ad => []) C dRd_readSize_52 mfRd_nameCode mvRd_nameCode ln_Rd_173 h0 (by decide) rfl (f_Rd_nameCode hT h0 e_52) rfl rfl (Nat.le_of_ble_eq_true rfl) ⟨Nat.le_of_ble_eq_true rfl, Nat.le_of_ble_eq_true rfl⟩ ⟨rfl, rfl⟩ ⟨Nat.zero_le _, Nat.zero_le _⟩ ?_
          obtain ⟨g_55, h⟩ := x_g h
          refine x_last (m := 5) C dRd_readSize_55 t_47 (by decide) rfl rfl g_55 h (fun J6 h => ?_)
          refine g_aload_n C dRd_readSize_56 rfl ?_
          refine g_iload_n C dRd_readSize_57 rfl ?_
          refine g_iconst (v := Int32.ofInt (1)) C dRd_readSize_58 (by decide) ?_
          refine g_iadd C dRd_readSize_59 ?_
          refine x_puti C dRd_readSize_60 fl_Rd_142 h1 rfl (Or.inl rfl) h (fun I7 h => ?_)
          refine g_aload_n C dRd_readSize_63 rfl ?_
          obtain ⟨I8, e_64, h⟩ := bd1_some h
          refine x_callVv (av := fun ad => []) C dRd_readSize_64 mfRd_step mvRd_step ln_Rd_40 h0 (by decide) rfl (f_Rd_step hT h0 e_64) rfl rfl (Nat.le_of_ble_eq_true rfl) ⟨Nat.le_of_ble_eq_true rfl, Nat.le_of_ble_eq_true rfl⟩ ⟨rfl, rfl⟩ ⟨Nat.zero_le _, Nat.zero_le _⟩ ?_
          refine g_aload_n C dRd_readSize_67 rfl ?_
          refine g_ldcS 11 C dRd_readSize_68 rfl ?_
          obtain ⟨z_70, e_70, h⟩ := bd1_some h
          refine x_callVi (av := fun ad => [.ref (ad.1 11)]) C dRd_readSize_70 mfRd_isWord mvRd_isWord ln_Rd_95 h0 (by decide) rfl (f_Rd_isWord hT h0 (by decide) e_70) rfl rfl (Nat.le_of_ble_eq_true rfl) ⟨Nat.le_of_ble_eq_true rfl, Nat.le_of_ble_eq_true rfl⟩ ⟨rfl, rfl⟩ ⟨Nat.zero_le _, Nat.zero_le _⟩ ?_
          refine gt_if_ne 78 C dRd_readSize_73 (by decide) rfl (fun c_73 => ?_) (fun c_73 => ?_)
          · have h := x_neg c_73 h
            refine g_aload_n C dRd_readSize_78 rfl ?_
            obtain ⟨I10, e_79, h⟩ := bd1_some h
            refine x_callVv (av := fun ad => []) C dRd_readSize_79 mfRd_step mvRd_step ln_Rd_40 h0 (by decide) rfl (f_Rd_step hT h0 e_79) rfl rfl (Nat.le_of_ble_eq_true rfl) ⟨Nat.le_of_ble_eq_true rfl, Nat.le_of_ble_eq_true rfl⟩ ⟨rfl, rfl⟩ ⟨Nat.zero_le _, Nat.zero_le _⟩ ?_
            refine g_aload_n C dRd_readSize_82 rfl ?_
            refine g_iconst (v := Int32.ofInt (0)) C dRd_readSize_83 (by decide) ?_
            refine g_bipush (v := Int32.ofInt (100)) C dRd_readSize_84 (by decide) ?_
            obtain ⟨z_86, I11, e_86, h⟩ := bd2_some h
            refine x_callVi (av := fun ad => [.int (Int32.ofInt (0)), .int (Int32.ofInt (100))]) C dRd_readSize_86 mfRd_checkWhole mvRd_checkWhole ln_Rd_162 h0 (by decide) rfl (f_Rd_checkWhole hT h0 e_86) rfl rfl (Nat.le_of_ble_eq_true rfl) ⟨Nat.le_of_ble_eq_true rfl, Nat.le_of_ble_eq_true rfl⟩ ⟨rfl, rfl⟩ ⟨Nat.zero_le _, Nat.zero_le _⟩ ?_
            refine gt_if_ne 94 C dRd_readSize_89 (by decide) rfl (fun c_89 => ?_) (fun c_89 => ?_)
            · have h := x_neg c_89 h
              refine g_aload_n C dRd_readSize_94 rfl ?_
              have t_95 := rf_ok hT h1 (show sp 3 11 = some 11 from rfl)
              refine x_getr C dRd_readSize_95 fl_Rd_198 h1 hT (show sp 3 11 = some 11 from rfl) ?_
              refine g_iload_n C dRd_readSize_98 rfl ?_
              refine g_aload_n C dRd_readSize_99 rfl ?_
              refine g_geti C dRd_readSize_100 fl_Rd_81 h0 ?_
              obtain ⟨g_103, h⟩ := x_g h
              refine x_iast (m := 5) C dRd_readSize_103 t_95 (by decide) rfl rfl g_103 h (fun I12 h => ?_)
              refine g_aload_n C dRd_readSize_104 rfl ?_
              obtain ⟨I13, e_105, h⟩ := bd1_some h
              refine x_callVv (av := fun ad => []) C dRd_readSize_105 mfRd_step mvRd_step ln_Rd_40 h0 (by decide) rfl (f_Rd_step hT h0 e_105) rfl rfl (Nat.le_of_ble_eq_true rfl) ⟨Nat.le_of_ble_eq_true rfl, Nat.le_of_ble_eq_true rfl⟩ ⟨rfl, rfl⟩ ⟨Nat.zero_le _, Nat.zero_le _⟩ ?_
              refine g_aload_n C dRd_readSize_108 rfl ?_
              refine g_ldcS 12 C dRd_readSize_109 rfl ?_
              obtain ⟨z_111, I14, e_111, h⟩ := bd2_some h
              refine x_callVi (av := fun ad => [.ref (ad.1 12)]) C dRd_readSize_111 mfRd_passWord mvRd_passWord ln_Rd_159 h0 (by decide) rfl (f_Rd_passWord hT h0 (by decide) e_111) rfl rfl (Nat.le_of_ble_eq_true rfl) ⟨Nat.le_of_ble_eq_true rfl, Nat.le_of_ble_eq_true rfl⟩ ⟨rfl, rfl⟩ ⟨Nat.zero_le _, Nat.zero_le _⟩ ?_
              refine gt_if_eq 127 C dRd_readSize_114 (by decide) rfl (fun c_114 => ?_) (fun c_114 => ?_)
              · have h := x_pos c_114 h
                refine g_iconst (v := Int32.ofInt (0)) C dRd_readSize_127 (by decide) ?_
                exact x_zret2 C E dRd_readSize_128 (by decide) ⟨Nat.zero_le _, Nat.zero_le _⟩ h
              · have h := x_neg c_114 h
                refine g_aload_n C dRd_readSize_117 rfl ?_
                refine g_iconst (v := Int32.ofInt (0)) C dRd_readSize_118 (by decide) ?_
                refine g_bipush (v := Int32.ofInt (100)) C dRd_readSize_119 (by decide) ?_
                obtain ⟨z_121, I15, e_121, h⟩ := bd2_some h
                refine x_callVi (av := fun ad => [.int (Int32.ofInt (0)), .int (Int32.ofInt (100))]) C dRd_readSize_121 mfRd_checkWhole mvRd_checkWhole ln_Rd_162 h0 (by decide) rfl (f_Rd_checkWhole hT h0 e_121) rfl rfl (Nat.le_of_ble_eq_true rfl) ⟨Nat.le_of_ble_eq_true rfl, Nat.le_of_ble_eq_true rfl⟩ ⟨rfl, rfl⟩ ⟨Nat.zero_le _, Nat.zero_le _⟩ ?_
                refine gt_if_ne 129 C dRd_readSize_124 (by decide) rfl (fun c_124 => ?_) (fun c_124 => ?_)
                · have h := x_neg c_124 h
                  refine g_aload_n C dRd_readSize_129 rfl ?_
                  have t_130 := rf_ok hT h1 (show sp 3 12 = some 11 from rfl)
                  refine x_getr C dRd_readSize_130 fl_Rd_202 h1 hT (show sp 3 12 = some 11 from rfl) ?_
                  refine g_iload_n C dRd_readSize_133 rfl ?_
                  refine g_aload_n C dRd_readSize_134 rfl ?_
                  refine g_geti C dRd_readSize_135 fl_Rd_81 h0 ?_
                  obtain ⟨g_138, h⟩ := x_g h
                  refine x_iast (m := 5) C dRd_readSize_138 t_130 (by decide) rfl rfl g_138 h (fun I16 h => ?_)
                  refine g_aload_n C dRd_readSize_139 rfl ?_
                  obtain ⟨I17, e_140, h⟩ := bd1_some h
                  refine x_callVv (av := fun ad => []) C dRd_readSize_140 mfRd_step mvRd_step ln_Rd_40 h0 (by decide) rfl (f_Rd_step hT h0 e_140) rfl rfl (Nat.le_of_ble_eq_true rfl) ⟨Nat.le_of_ble_eq_true rfl, Nat.le_of_ble_eq_true rfl⟩ ⟨rfl, rfl⟩ ⟨Nat.zero_le _, Nat.zero_le _⟩ ?_
                  refine g_iconst (v := Int32.ofInt (1)) C dRd_readSize_143 (by decide) ?_
                  exact x_zret2 C E dRd_readSize_144 (by decide) ⟨Nat.zero_le _, Nat.zero_le _⟩ h
                · have h := x_pos c_124 h
                  refine g_iconst (v := Int32.ofInt (0)) C dRd_readSize_127 (by decide) ?_
                  exact x_zret2 C E dRd_readSize_128 (by decide) ⟨Nat.zero_le _, Nat.zero_le _⟩ h
            · have h := x_pos c_89 h
              refine g_iconst (v := Int32.ofInt (0)) C dRd_readSize_92 (by decide) ?_
              exact x_zret2 C E dRd_readSize_93 (by decide) ⟨Nat.zero_le _, Nat.zero_le _⟩ h
          · have h := x_pos c_73 h
            refine g_iconst (v := Int32.ofInt (1)) C dRd_readSize_76 (by decide) ?_
            exact x_zret2 C E dRd_readSize_77 (by decide) ⟨Nat.zero_le _, Nat.zero_le _⟩ h
        · have h := x_neg (Int.not_lt.mpr c_37) h
          exact g_sub (hk_40  h) ⟨rfl, rfl, rfl, trivial⟩
    · have h := x_neg c_22 h
      refine g_aload_n C dRd_readSize_25 rfl ?_
      refine g_iconst (v := Int32.ofInt (3)) C dRd_readSize_26 (by decide) ?_
      obtain ⟨z_27, I18, e_27, h⟩ := bd2_some h
      refine x_callVi (av := fun ad => [.int (Int32.ofInt (3))]) C dRd_readSize_27 mfRd_fail mvRd_fail ln_Rd_54 h0 (by decide) rfl (f_Rd_fail hT h0 e_27) rfl rfl (Nat.le_of_ble_eq_true rfl) ⟨Nat.le_of_ble_eq_true rfl, Nat.le_of_ble_eq_true rfl⟩ ⟨rfl, rfl⟩ ⟨Nat.zero_le _, Nat.zero_le _⟩ ?_
      obtain ⟨g_30, h⟩ := x_g h
      exact x_zret2 C E dRd_readSize_30 (x_01 g_30) ⟨Nat.zero_le _, Nat.zero_le _⟩ h
  · have h := x_pos c_8 h
    refine g_aload_n C dRd_readSize_11 rfl ?_
    refine g_iconst (v := Int32.ofInt (1)) C dRd_readSize_12 (by decide) ?_
    obtain ⟨z_13, I19, e_13, h⟩ := bd2_some h
    refine x_callVi (av := fun ad => [.int (Int32.ofInt (1))]) C dRd_readSize_13 mfRd_fail mvRd_fail ln_Rd_54 h0 (by decide) rfl (f_Rd_fail hT h0 e_13) rfl rfl (Nat.le_of_ble_eq_true rfl) ⟨Nat.le_of_ble_eq_true rfl, Nat.le_of_ble_eq_true rfl⟩ ⟨rfl, rfl⟩ ⟨Nat.zero_le _, Nat.zero_le _⟩ ?_
    obtain ⟨g_16, h⟩ := x_g h
    exact x_zret2 C E dRd_readSize_16 (x_01 g_16) ⟨Nat.zero_le _, Nat.zero_le _⟩ h
def F_Rd_readOre (N : Nat) (O : WO) (I0 : WI) (J0 : WJ) (a0 : Nat) (a1 : Nat) (x2 : Int32) : Option (Int32 × WI × WJ) := bd1 (F_Rd_step N O I0 J0 a0) fun I1 => bd1 (F_Rd_isName N O I1 J0 a0) fun z_5 => if (z_5).toInt = 0 then (bd2 (F_Rd_fail N O I1 J0 a0 (Int32.ofInt (1))) fun z_13 I16 => if (z_13).toInt = 0 ∨ (z_13).toInt = 1 then (some (z_13, I16, J0)) else none) else (bd1 (F_Rd_isTold N O I1 J0 a0 a1) fun z_19 => if (z_19).toInt = 0 then (jn (bd2 (F_Rd_fail N O I1 J0 a0 (Int32.ofInt (5))) fun z_42 I4 => if (z_42).toInt = 0 ∨ (z_42).toInt = 1 then (some (z_42, I4, J0)) else none) fun k_40 => if (x2).toInt < 0 then (k_40 ) else (if (x2).toInt < 4 then (bd1 (F_Rd_nameCode N O I1 J0 a0) fun z_52 => if 0 ≤ (x2).toInt ∧ (x2).toInt < 4 then (lb (up2 J0 (rf O a0 9) (x2).toInt.toNat z_52) fun J6 => lb (up2 I1 a1 8 (x2 + (Int32.ofInt (1)))) fun I7 => bd1 (F_Rd_step N O I7 J6 a0) fun I8 => bd2 (F_Rd_passWord N O I8 J6 a0 13) fun z_70 I9 => if (z_70).toInt = 0 then (some ((Int32.ofInt (0)), I9, J6)) else (bd2 (F_Rd_checkWhole N O I9 J6 a0 (Int32.ofInt (1)) (Int32.ofInt (9))) fun z_80 I10 => if (z_80).toInt = 0 then (some ((Int32.ofInt (0)), I10, J6)) else (if 0 ≤ (x2).toInt ∧ (x2).toInt < 4 then (lb (up2 I10 (rf O a1 13) (x2).toInt.toNat (I10 a0 7)) fun I11 => bd1 (F_Rd_step N O I11 J6 a0) fun I12 => bd1 (F_Rd_isWord N O I12 J6 a0 14) fun z_105 => if (z_105).toInt = 0 then (bd2 (F_Rd_fail N O I12 J6 a0 (Int32.ofInt (1))) fun z_117 I14 => if (z_117).toInt = 0 ∨ (z_117).toInt = 1 then (some (z_117, I14, J6)) else none) else (some ((Int32.ofInt (1)), I12, J6))) else none))) else none) else (k_40 ))) else (bd2 (F_Rd_fail N O I1 J0 a0 (Int32.ofInt (3))) fun z_27 I15 => if (z_27).toInt = 0 ∨ (z_27).toInt = 1 then (some (z_27, I15, J0)) else none))
set_option maxHeartbeats 4000000 in
set_option maxRecDepth 100000 in
theorem f_Rd_readOre {P : List Nat} {K : Nat → Nat} {N : Nat} {O : WO} {I0 : WI} {J0 : WJ} (hT : TR P K O) {a0 : Nat} (h0 : a0 ∈ P ∧ K a0 = 5) {a1 : Nat} (h1 : a1 ∈ P ∧ K a1 = 3) {x2 : Int32} {r : Int32} {I' : WI} {J' : WJ} (h : F_Rd_readOre N O I0 J0 a0 a1 x2 = some (r, I', J')) : Con yRd_readOre bRd_readOre 3 (some .boolean) ({ frames := 6, cells := 0, slots := 0, locals := 128 } : Room) P K I0 O J0 [.ref a0, .ref a1, .int x2] (EPo (some (.int r)) I' J' P K O) := by
  refine Con.ofG mfRd_readOre (Nat.le_of_ble_eq_true rfl) ?_
  intro X C E
  unfold F_Rd_readOre at h
  refine g_aload_n C dRd_readOre_0 rfl ?_
  obtain ⟨I1, e_1, h⟩ := bd1_some h
  refine x_callVv (av := fun ad => []) C dRd_readOre_1 mfRd_step mvRd_step ln_Rd_40 h0 (by decide) rfl (f_Rd_step hT h0 e_1) rfl rfl (Nat.le_of_ble_eq_true rfl) ⟨Nat.le_of_ble_eq_true rfl, Nat.le_of_ble_eq_true rfl⟩ ⟨rfl, rfl⟩ ⟨Nat.zero_le _, Nat.zero_le _⟩ ?_
  refine g_aload_n C dRd_readOre_4 rfl ?_
  obtain ⟨z_5, e_5, h⟩ := bd1_some h
  refine x_callVi (av := fun ad => []) C dRd_readOre_5 mfRd_isName mvRd_isName ln_Rd_170 h0 (by decide) rfl (f_Rd_isName hT h0 e_5) rfl rfl (Nat.le_of_ble_eq_true rfl) ⟨Nat.le_of_ble_eq_true rfl, Nat.le_of_ble_eq_true rfl⟩ ⟨rfl, rfl⟩ ⟨Nat.zero_le _, Nat.zero_le _⟩ ?_
  refine gt_if_ne 17 C dRd_readOre_8 (by decide) rfl (fun c_8 => ?_) (fun c_8 => ?_)
  · have h := x_neg c_8 h
    refine g_aload_n C dRd_readOre_17 rfl ?_
    refine g_aload_n C dRd_readOre_18 rfl ?_
    obtain ⟨z_19, e_19, h⟩ := bd1_some h
    refine x_callVi (av := fun ad => [.ref a1]) C dRd_readOre_19 mfRd_isTold mvRd_isTold ln_Rd_193 h0 (by decide) rfl (f_Rd_isTold hT h0 h1 e_19) rfl rfl (Nat.le_of_ble_eq_true rfl) ⟨Nat.le_of_ble_eq_true rfl, Nat.le_of_ble_eq_true rfl⟩ ⟨rfl, rfl⟩ ⟨Nat.zero_le _, Nat.zero_le _⟩ ?_
    refine gt_if_eq 31 C dRd_readOre_22 (by decide) rfl (fun c_22 => ?_) (fun c_22 => ?_)
    · have h := x_pos c_22 h
      refine g_iload_n C dRd_readOre_31 rfl ?_
      refine x_jn h (fun (k_40 : Option (Int32 × WI × WJ)) => k_40  = some (r, I', J') → GG X 3 P K I1 O J0 0 0 40 [(0, .ref a0), (1, .ref a1), (2, .int x2)] []) (fun  h => ?_) (fun k_40 hk_40 h => ?_)
      · skip
        refine g_aload_n C dRd_readOre_40 rfl ?_
        refine g_iconst (v := Int32.ofInt (5)) C dRd_readOre_41 (by decide) ?_
        obtain ⟨z_42, I4, e_42, h⟩ := bd2_some h
        refine x_callVi (av := fun ad => [.int (Int32.ofInt (5))]) C dRd_readOre_42 mfRd_fail mvRd_fail ln_Rd_54 h0 (by decide) rfl (f_Rd_fail hT h0 e_42) rfl rfl (Nat.le_of_ble_eq_true rfl) ⟨Nat.le_of_ble_eq_true rfl, Nat.le_of_ble_eq_true rfl⟩ ⟨rfl, rfl⟩ ⟨Nat.zero_le _, Nat.zero_le _⟩ ?_
        obtain ⟨g_45, h⟩ := x_g h
        exact x_zret2 C E dRd_readOre_45 (x_01 g_45) ⟨Nat.zero_le _, Nat.zero_le _⟩ h
      refine gt_if_lt 40 C dRd_readOre_32 (by decide) rfl (fun c_32 => ?_) (fun c_32 => ?_)
      · have h := x_pos c_32 h
        exact g_sub (hk_40  h) ⟨rfl, rfl, rfl, trivial⟩
      · have h := x_neg (Int.not_lt.mpr c_32) h
        refine g_iload_n C dRd_readOre_35 rfl ?_
        refine g_iconst (v := Int32.ofInt (4)) C dRd_readOre_36 (by decide) ?_
        refine gt_icmp_lt 46 C dRd_readOre_37 (by decide) rfl (ofI (by decide)) (fun c_37 => ?_) (fun c_37 => ?_)
        · have h := x_pos c_37 h
          refine g_aload_n C dRd_readOre_46 rfl ?_
          have t_47 := rf_ok hT h0 (show sp 5 9 = some 17 from rfl)
          refine x_getr C dRd_readOre_47 fl_Rd_19 h0 hT (show sp 5 9 = some 17 from rfl) ?_
          refine g_iload_n C dRd_readOre_50 rfl ?_
          refine g_aload_n C dRd_readOre_51 rfl ?_
          obtain ⟨z_52, e_52, h⟩ := bd1_some h
          refine x_callVl (av := fun ad => []) C dRd_readOre_52 mfRd_nameCode mvRd_nameCode ln_Rd_173 h0 (by decide) rfl (f_Rd_nameCode hT h0 e_52) rfl rfl (Nat.le_of_ble_eq_true rfl) ⟨Nat.le_of_ble_eq_true rfl, Nat.le_of_ble_eq_true rfl⟩ ⟨rfl, rfl⟩ ⟨Nat.zero_le _, Nat.zero_le _⟩ ?_
          obtain ⟨g_55, h⟩ := x_g h
          refine x_last (m := 4) C dRd_readOre_55 t_47 (by decide) rfl rfl g_55 h (fun J6 h => ?_)
          refine g_aload_n C dRd_readOre_56 rfl ?_
          refine g_iload_n C dRd_readOre_57 rfl ?_
          refine g_iconst (v := Int32.ofInt (1)) C dRd_readOre_58 (by decide) ?_
          refine g_iadd C dRd_readOre_59 ?_
          refine x_puti C dRd_readOre_60 fl_Rd_149 h1 rfl (Or.inl rfl) h (fun I7 h => ?_)
          refine g_aload_n C dRd_readOre_63 rfl ?_
          obtain ⟨I8, e_64, h⟩ := bd1_some h
          refine x_callVv (av := fun ad => []) C dRd_readOre_64 mfRd_step mvRd_step ln_Rd_40 h0 (by decide) rfl (f_Rd_step hT h0 e_64) rfl rfl (Nat.le_of_ble_eq_true rfl) ⟨Nat.le_of_ble_eq_true rfl, Nat.le_of_ble_eq_true rfl⟩ ⟨rfl, rfl⟩ ⟨Nat.zero_le _, Nat.zero_le _⟩ ?_
          refine g_aload_n C dRd_readOre_67 rfl ?_
          refine g_ldcS 13 C dRd_readOre_68 rfl ?_
          obtain ⟨z_70, I9, e_70, h⟩ := bd2_some h
          refine x_callVi (av := fun ad => [.ref (ad.1 13)]) C dRd_readOre_70 mfRd_passWord mvRd_passWord ln_Rd_159 h0 (by decide) rfl (f_Rd_passWord hT h0 (by decide) e_70) rfl rfl (Nat.le_of_ble_eq_true rfl) ⟨Nat.le_of_ble_eq_true rfl, Nat.le_of_ble_eq_true rfl⟩ ⟨rfl, rfl⟩ ⟨Nat.zero_le _, Nat.zero_le _⟩ ?_
          refine gt_if_eq 86 C dRd_readOre_73 (by decide) rfl (fun c_73 => ?_) (fun c_73 => ?_)
          · have h := x_pos c_73 h
            refine g_iconst (v := Int32.ofInt (0)) C dRd_readOre_86 (by decide) ?_
            exact x_zret2 C E dRd_readOre_87 (by decide) ⟨Nat.zero_le _, Nat.zero_le _⟩ h
          · have h := x_neg c_73 h
            refine g_aload_n C dRd_readOre_76 rfl ?_
            refine g_iconst (v := Int32.ofInt (1)) C dRd_readOre_77 (by decide) ?_
            refine g_bipush (v := Int32.ofInt (9)) C dRd_readOre_78 (by decide) ?_
            obtain ⟨z_80, I10, e_80, h⟩ := bd2_some h
            refine x_callVi (av := fun ad => [.int (Int32.ofInt (1)), .int (Int32.ofInt (9))]) C dRd_readOre_80 mfRd_checkWhole mvRd_checkWhole ln_Rd_162 h0 (by decide) rfl (f_Rd_checkWhole hT h0 e_80) rfl rfl (Nat.le_of_ble_eq_true rfl) ⟨Nat.le_of_ble_eq_true rfl, Nat.le_of_ble_eq_true rfl⟩ ⟨rfl, rfl⟩ ⟨Nat.zero_le _, Nat.zero_le _⟩ ?_
            refine gt_if_ne 88 C dRd_readOre_83 (by decide) rfl (fun c_83 => ?_) (fun c_83 => ?_)
            · have h := x_neg c_83 h
              refine g_aload_n C dRd_readOre_88 rfl ?_
              have t_89 := rf_ok hT h1 (show sp 3 13 = some 12 from rfl)
              refine x_getr C dRd_readOre_89 fl_Rd_206 h1 hT (show sp 3 13 = some 12 from rfl) ?_
              refine g_iload_n C dRd_readOre_92 rfl ?_
              refine g_aload_n C dRd_readOre_93 rfl ?_
              refine g_geti C dRd_readOre_94 fl_Rd_81 h0 ?_
              obtain ⟨g_97, h⟩ := x_g h
              refine x_iast (m := 4) C dRd_readOre_97 t_89 (by decide) rfl rfl g_97 h (fun I11 h => ?_)
              refine g_aload_n C dRd_readOre_98 rfl ?_
              obtain ⟨I12, e_99, h⟩ := bd1_some h
              refine x_callVv (av := fun ad => []) C dRd_readOre_99 mfRd_step mvRd_step ln_Rd_40 h0 (by decide) rfl (f_Rd_step hT h0 e_99) rfl rfl (Nat.le_of_ble_eq_true rfl) ⟨Nat.le_of_ble_eq_true rfl, Nat.le_of_ble_eq_true rfl⟩ ⟨rfl, rfl⟩ ⟨Nat.zero_le _, Nat.zero_le _⟩ ?_
              refine g_aload_n C dRd_readOre_102 rfl ?_
              refine g_ldcS 14 C dRd_readOre_103 rfl ?_
              obtain ⟨z_105, e_105, h⟩ := bd1_some h
              refine x_callVi (av := fun ad => [.ref (ad.1 14)]) C dRd_readOre_105 mfRd_isWord mvRd_isWord ln_Rd_95 h0 (by decide) rfl (f_Rd_isWord hT h0 (by decide) e_105) rfl rfl (Nat.le_of_ble_eq_true rfl) ⟨Nat.le_of_ble_eq_true rfl, Nat.le_of_ble_eq_true rfl⟩ ⟨rfl, rfl⟩ ⟨Nat.zero_le _, Nat.zero_le _⟩ ?_
              refine gt_if_eq 115 C dRd_readOre_108 (by decide) rfl (fun c_108 => ?_) (fun c_108 => ?_)
              · have h := x_pos c_108 h
                refine g_aload_n C dRd_readOre_115 rfl ?_
                refine g_iconst (v := Int32.ofInt (1)) C dRd_readOre_116 (by decide) ?_
                obtain ⟨z_117, I14, e_117, h⟩ := bd2_some h
                refine x_callVi (av := fun ad => [.int (Int32.ofInt (1))]) C dRd_readOre_117 mfRd_fail mvRd_fail ln_Rd_54 h0 (by decide) rfl (f_Rd_fail hT h0 e_117) rfl rfl (Nat.le_of_ble_eq_true rfl) ⟨Nat.le_of_ble_eq_true rfl, Nat.le_of_ble_eq_true rfl⟩ ⟨rfl, rfl⟩ ⟨Nat.zero_le _, Nat.zero_le _⟩ ?_
                obtain ⟨g_120, h⟩ := x_g h
                exact x_zret2 C E dRd_readOre_120 (x_01 g_120) ⟨Nat.zero_le _, Nat.zero_le _⟩ h
              · have h := x_neg c_108 h
                refine g_iconst (v := Int32.ofInt (1)) C dRd_readOre_111 (by decide) ?_
                refine g_goto 120 C dRd_readOre_112 (by decide) ?_
                exact x_zret2 C E dRd_readOre_120 (by decide) ⟨Nat.zero_le _, Nat.zero_le _⟩ h
            · have h := x_pos c_83 h
              refine g_iconst (v := Int32.ofInt (0)) C dRd_readOre_86 (by decide) ?_
              exact x_zret2 C E dRd_readOre_87 (by decide) ⟨Nat.zero_le _, Nat.zero_le _⟩ h
        · have h := x_neg (Int.not_lt.mpr c_37) h
          exact g_sub (hk_40  h) ⟨rfl, rfl, rfl, trivial⟩
    · have h := x_neg c_22 h
      refine g_aload_n C dRd_readOre_25 rfl ?_
      refine g_iconst (v := Int32.ofInt (3)) C dRd_readOre_26 (by decide) ?_
      obtain ⟨z_27, I15, e_27, h⟩ := bd2_some h
      refine x_callVi (av := fun ad => [.int (Int32.ofInt (3))]) C dRd_readOre_27 mfRd_fail mvRd_fail ln_Rd_54 h0 (by decide) rfl (f_Rd_fail hT h0 e_27) rfl rfl (Nat.le_of_ble_eq_true rfl) ⟨Nat.le_of_ble_eq_true rfl, Nat.le_of_ble_eq_true rfl⟩ ⟨rfl, rfl⟩ ⟨Nat.zero_le _, Nat.zero_le _⟩ ?_
      obtain ⟨g_30, h⟩ := x_g h
      exact x_zret2 C E dRd_readOre_30 (x_01 g_30) ⟨Nat.zero_le _, Nat.zero_le _⟩ h
  · have h := x_pos c_8 h
    refine g_aload_n C dRd_readOre_11 rfl ?_
    refine g_iconst (v := Int32.ofInt (1)) C dRd_readOre_12 (by decide) ?_
    obtain ⟨z_13, I16, e_13, h⟩ := bd2_some h
    refine x_callVi (av := fun ad => [.int (Int32.ofInt (1))]) C dRd_readOre_13 mfRd_fail mvRd_fail ln_Rd_54 h0 (by decide) rfl (f_Rd_fail hT h0 e_13) rfl rfl (Nat.le_of_ble_eq_true rfl) ⟨Nat.le_of_ble_eq_true rfl, Nat.le_of_ble_eq_true rfl⟩ ⟨rfl, rfl⟩ ⟨Nat.zero_le _, Nat.zero_le _⟩ ?_
    obtain ⟨g_16, h⟩ := x_g h
    exact x_zret2 C E dRd_readOre_16 (x_01 g_16) ⟨Nat.zero_le _, Nat.zero_le _⟩ h
def B_Rd_readTons_7 (N : Nat) (O : WO) (a0 : Nat) (a1 : Nat) (J0 : WJ) (v3_3 : Int32) (rec_7 : Int32 → WI → Option (Int32 × WI)) (x4_7 : Int32) (I_7 : WI) : Option (Int32 × WI) := if 5 < (x4_7).toInt then (bd2 (F_Rd_fail N O I_7 J0 a0 (Int32.ofInt (5))) fun z_96 I1 => if (z_96).toInt = 0 ∨ (z_96).toInt = 1 then (some (z_96, I1)) else none) else (bd1 (F_Rd_step N O I_7 J0 a0) fun I2 => bd2 (F_Rd_checkWhole N O I2 J0 a0 (Int32.ofInt (0)) (Int32.ofInt (50))) fun z_21 I3 => if (z_21).toInt = 0 then (some ((Int32.ofInt (0)), I3)) else (jn (bd2 (F_Rd_fail N O I3 J0 a0 (Int32.ofInt (5))) fun z_56 I4 => if (z_56).toInt = 0 ∨ (z_56).toInt = 1 then (some (z_56, I4)) else none) fun k_54 => if ((I3 a1 7)).toInt ≤ (x4_7).toInt then (k_54 ) else (if (v3_3).toInt < 0 then (k_54 ) else (if ((v3_3 + x4_7)).toInt < 20 then (if 0 ≤ ((v3_3 + x4_7)).toInt ∧ ((v3_3 + x4_7)).toInt < 20 then (lb (up2 I3 (rf O a1 14) ((v3_3 + x4_7)).toInt.toNat (I3 a0 7)) fun I5 => bd1 (F_Rd_step N O I5 J0 a0) fun I6 => bd1 (F_Rd_isSign N O I6 J0 a0 (Int32.ofInt (44))) fun z_80 => if (z_80).toInt = 0 then (some ((Int32.ofInt (1)), I6)) else (lb (x4_7 + Int32.ofInt (1)) fun v4_88 => rec_7 (v4_88) I6)) else none) else (k_54 )))))
def F_Rd_readTons (N : Nat) (O : WO) (I0 : WI) (J0 : WJ) (a0 : Nat) (a1 : Nat) (x2 : Int32) : Option (Int32 × WI) := lb ((x2 * (Int32.ofInt (5)))) fun v3_3 => lp (B_Rd_readTons_7 N O a0 a1 J0 v3_3) (fun _ _ => none) N ((Int32.ofInt (0))) I0
set_option maxHeartbeats 4000000 in
set_option maxRecDepth 100000 in
theorem f_Rd_readTons {P : List Nat} {K : Nat → Nat} {N : Nat} {O : WO} {I0 : WI} {J0 : WJ} (hT : TR P K O) {a0 : Nat} (h0 : a0 ∈ P ∧ K a0 = 5) {a1 : Nat} (h1 : a1 ∈ P ∧ K a1 = 3) {x2 : Int32} {r : Int32} {I' : WI} (h : F_Rd_readTons N O I0 J0 a0 a1 x2 = some (r, I')) : Con yRd_readTons bRd_readTons 5 (some .boolean) ({ frames := 3, cells := 0, slots := 0, locals := 62 } : Room) P K I0 O J0 [.ref a0, .ref a1, .int x2] (EPo (some (.int r)) I' J0 P K O) := by
  refine Con.ofG mfRd_readTons (Nat.le_of_ble_eq_true rfl) ?_
  intro X C E
  unfold F_Rd_readTons at h
  refine g_iload_n C dRd_readTons_0 rfl ?_
  refine g_iconst (v := Int32.ofInt (5)) C dRd_readTons_1 (by decide) ?_
  refine g_imul C dRd_readTons_2 ?_
  refine x_istore_n (i := 3) C dRd_readTons_3 rfl (by decide) h (fun v3_3 h => ?_)
  refine g_iconst (v := Int32.ofInt (0)) C dRd_readTons_4 (by decide) ?_
  refine g_istore C dRd_readTons_5 (by decide) ?_
  have lp_7 : ∀ (x4_7 : Int32) (I_7 : WI), lp (B_Rd_readTons_7 N O a0 a1 J0 v3_3) (fun _ _ => none) N x4_7 I_7 = some (r, I') → GG X 5 P K I_7 O J0 0 0 7 [(0, .ref a0), (1, .ref a1), (2, .int x2), (3, .int v3_3), (4, .int x4_7)] [] := by
    refine x_lp (fun (rec_7 : Int32 → WI → Option (Int32 × WI)) => ∀ (x4_7 : Int32) (I_7 : WI), rec_7 x4_7 I_7 = some (r, I') → GG X 5 P K I_7 O J0 0 0 7 [(0, .ref a0), (1, .ref a1), (2, .int x2), (3, .int v3_3), (4, .int x4_7)] []) (fun _ _ h => by cases h) (fun rec_7 hr_7 x4_7 I_7 h => ?_) N
    unfold B_Rd_readTons_7 at h
    refine g_iload C dRd_readTons_7 rfl ?_
    refine g_iconst (v := Int32.ofInt (5)) C dRd_readTons_9 (by decide) ?_
    refine gt_icmp_gt 94 C dRd_readTons_10 (by decide) rfl (ofI (by decide)) (fun c_10 => ?_) (fun c_10 => ?_)
    · have h := x_pos c_10 h
      refine g_aload_n C dRd_readTons_94 rfl ?_
      refine g_iconst (v := Int32.ofInt (5)) C dRd_readTons_95 (by decide) ?_
      obtain ⟨z_96, I1, e_96, h⟩ := bd2_some h
      refine x_callVi (av := fun ad => [.int (Int32.ofInt (5))]) C dRd_readTons_96 mfRd_fail mvRd_fail ln_Rd_54 h0 (by decide) rfl (f_Rd_fail hT h0 e_96) rfl rfl (Nat.le_of_ble_eq_true rfl) ⟨Nat.le_of_ble_eq_true rfl, Nat.le_of_ble_eq_true rfl⟩ ⟨rfl, rfl⟩ ⟨Nat.zero_le _, Nat.zero_le _⟩ ?_
      obtain ⟨g_99, h⟩ := x_g h
      exact x_zret1 C E dRd_readTons_99 (x_01 g_99) ⟨Nat.zero_le _, Nat.zero_le _⟩ h
    · have h := x_neg (Int.not_lt.mpr c_10) h
      refine g_aload_n C dRd_readTons_13 rfl ?_
      obtain ⟨I2, e_14, h⟩ := bd1_some h
      refine x_callVv (av := fun ad => []) C dRd_readTons_14 mfRd_step mvRd_step ln_Rd_40 h0 (by decide) rfl (f_Rd_step hT h0 e_14) rfl rfl (Nat.le_of_ble_eq_true rfl) ⟨Nat.le_of_ble_eq_true rfl, Nat.le_of_ble_eq_true rfl⟩ ⟨rfl, rfl⟩ ⟨Nat.zero_le _, Nat.zero_le _⟩ ?_
      refine g_aload_n C dRd_readTons_17 rfl ?_
      refine g_iconst (v := Int32.ofInt (0)) C dRd_readTons_18 (by decide) ?_
      refine g_bipush (v := Int32.ofInt (50)) C dRd_readTons_19 (by decide) ?_
      obtain ⟨z_21, I3, e_21, h⟩ := bd2_some h
      refine x_callVi (av := fun ad => [.int (Int32.ofInt (0)), .int (Int32.ofInt (50))]) C dRd_readTons_21 mfRd_checkWhole mvRd_checkWhole ln_Rd_162 h0 (by decide) rfl (f_Rd_checkWhole hT h0 e_21) rfl rfl (Nat.le_of_ble_eq_true rfl) ⟨Nat.le_of_ble_eq_true rfl, Nat.le_of_ble_eq_true rfl⟩ ⟨rfl, rfl⟩ ⟨Nat.zero_le _, Nat.zero_le _⟩ ?_
      refine gt_if_ne 29 C dRd_readTons_24 (by decide) rfl (fun c_24 => ?_) (fun c_24 => ?_)
      · have h := x_neg c_24 h
        refine g_iload C dRd_readTons_29 rfl ?_
        refine g_aload_n C dRd_readTons_31 rfl ?_
        refine g_geti C dRd_readTons_32 fl_Rd_142 h1 ?_
        refine x_jn h (fun (k_54 : Option (Int32 × WI)) => k_54  = some (r, I') → GG X 5 P K I3 O J0 0 0 54 [(0, .ref a0), (1, .ref a1), (2, .int x2), (3, .int v3_3), (4, .int x4_7)] []) (fun  h => ?_) (fun k_54 hk_54 h => ?_)
        · skip
          refine g_aload_n C dRd_readTons_54 rfl ?_
          refine g_iconst (v := Int32.ofInt (5)) C dRd_readTons_55 (by decide) ?_
          obtain ⟨z_56, I4, e_56, h⟩ := bd2_some h
          refine x_callVi (av := fun ad => [.int (Int32.ofInt (5))]) C dRd_readTons_56 mfRd_fail mvRd_fail ln_Rd_54 h0 (by decide) rfl (f_Rd_fail hT h0 e_56) rfl rfl (Nat.le_of_ble_eq_true rfl) ⟨Nat.le_of_ble_eq_true rfl, Nat.le_of_ble_eq_true rfl⟩ ⟨rfl, rfl⟩ ⟨Nat.zero_le _, Nat.zero_le _⟩ ?_
          obtain ⟨g_59, h⟩ := x_g h
          exact x_zret1 C E dRd_readTons_59 (x_01 g_59) ⟨Nat.zero_le _, Nat.zero_le _⟩ h
        refine gt_icmp_ge 54 C dRd_readTons_35 (by decide) rfl rfl (fun c_35 => ?_) (fun c_35 => ?_)
        · have h := x_pos c_35 h
          exact g_sub (hk_54  h) ⟨rfl, rfl, rfl, rfl, rfl, trivial⟩
        · have h := x_neg (Int.not_le.mpr c_35) h
          refine g_iload_n C dRd_readTons_38 rfl ?_
          refine gt_if_lt 54 C dRd_readTons_39 (by decide) rfl (fun c_39 => ?_) (fun c_39 => ?_)
          · have h := x_pos c_39 h
            exact g_sub (hk_54  h) ⟨rfl, rfl, rfl, rfl, rfl, trivial⟩
          · have h := x_neg (Int.not_lt.mpr c_39) h
            refine g_iload_n C dRd_readTons_42 rfl ?_
            refine g_iload C dRd_readTons_43 rfl ?_
            refine g_iadd C dRd_readTons_45 ?_
            refine g_aload_n C dRd_readTons_46 rfl ?_
            have t_47 := rf_ok hT h1 (show sp 3 14 = some 14 from rfl)
            refine x_getr C dRd_readTons_47 fl_Rd_210 h1 hT (show sp 3 14 = some 14 from rfl) ?_
            refine x_alenc 20 C dRd_readTons_50 t_47 (by decide) (by decide) (by decide) ?_
            refine gt_icmp_lt 60 C dRd_readTons_51 (by decide) rfl (ofI (by decide)) (fun c_51 => ?_) (fun c_51 => ?_)
            · have h := x_pos c_51 h
              refine g_aload_n C dRd_readTons_60 rfl ?_
              have t_61 := rf_ok hT h1 (show sp 3 14 = some 14 from rfl)
              refine x_getr C dRd_readTons_61 fl_Rd_210 h1 hT (show sp 3 14 = some 14 from rfl) ?_
              refine g_iload_n C dRd_readTons_64 rfl ?_
              refine g_iload C dRd_readTons_65 rfl ?_
              refine g_iadd C dRd_readTons_67 ?_
              refine g_aload_n C dRd_readTons_68 rfl ?_
              refine g_geti C dRd_readTons_69 fl_Rd_81 h0 ?_
              obtain ⟨g_72, h⟩ := x_g h
              refine x_iast (m := 20) C dRd_readTons_72 t_61 (by decide) rfl rfl g_72 h (fun I5 h => ?_)
              refine g_aload_n C dRd_readTons_73 rfl ?_
              obtain ⟨I6, e_74, h⟩ := bd1_some h
              refine x_callVv (av := fun ad => []) C dRd_readTons_74 mfRd_step mvRd_step ln_Rd_40 h0 (by decide) rfl (f_Rd_step hT h0 e_74) rfl rfl (Nat.le_of_ble_eq_true rfl) ⟨Nat.le_of_ble_eq_true rfl, Nat.le_of_ble_eq_true rfl⟩ ⟨rfl, rfl⟩ ⟨Nat.zero_le _, Nat.zero_le _⟩ ?_
              refine g_aload_n C dRd_readTons_77 rfl ?_
              refine g_bipush (v := Int32.ofInt (44)) C dRd_readTons_78 (by decide) ?_
              obtain ⟨z_80, e_80, h⟩ := bd1_some h
              refine x_callVi (av := fun ad => [.int (Int32.ofInt (44))]) C dRd_readTons_80 mfRd_isSign mvRd_isSign ln_Rd_58 h0 (by decide) rfl (f_Rd_isSign hT h0 e_80) rfl rfl (Nat.le_of_ble_eq_true rfl) ⟨Nat.le_of_ble_eq_true rfl, Nat.le_of_ble_eq_true rfl⟩ ⟨rfl, rfl⟩ ⟨Nat.zero_le _, Nat.zero_le _⟩ ?_
              refine gt_if_ne 88 C dRd_readTons_83 (by decide) rfl (fun c_83 => ?_) (fun c_83 => ?_)
              · have h := x_neg c_83 h
                refine x_iinc C dRd_readTons_88 rfl (by decide) h (fun v4_88 h => ?_)
                refine g_goto 7 C dRd_readTons_91 (by decide) ?_
                exact g_sub (hr_7 (v4_88) I6 h) ⟨rfl, rfl, rfl, rfl, rfl, trivial⟩
              · have h := x_pos c_83 h
                refine g_iconst (v := Int32.ofInt (1)) C dRd_readTons_86 (by decide) ?_
                exact x_zret1 C E dRd_readTons_87 (by decide) ⟨Nat.zero_le _, Nat.zero_le _⟩ h
            · have h := x_neg (Int.not_lt.mpr c_51) h
              exact g_sub (hk_54  h) ⟨rfl, rfl, rfl, rfl, rfl, trivial⟩
      · have h := x_pos c_24 h
        refine g_iconst (v := Int32.ofInt (0)) C dRd_readTons_27 (by decide) ?_
        exact x_zret1 C E dRd_readTons_28 (by decide) ⟨Nat.zero_le _, Nat.zero_le _⟩ h
  exact g_sub (lp_7 ((Int32.ofInt (0))) I0 h) ⟨rfl, rfl, rfl, rfl, rfl, trivial⟩
def F_Rd_readLine (N : Nat) (O : WO) (I0 : WI) (J0 : WJ) (a0 : Nat) (a1 : Nat) : Option (Int32 × WI × WJ) := bd1 (F_Rd_isWord N O I0 J0 a0 0) fun z_3 => if (z_3).toInt = 0 then (bd1 (F_Rd_isWord N O I0 J0 a0 3) fun z_33 => if (z_33).toInt = 0 then (bd1 (F_Rd_isWord N O I0 J0 a0 4) fun z_64 => if (z_64).toInt = 0 then (bd1 (F_Rd_isWord N O I0 J0 a0 5) fun z_94 => if (z_94).toInt = 0 then (bd1 (F_Rd_isWord N O I0 J0 a0 6) fun z_124 => if (z_124).toInt = 0 then (bd1 (F_Rd_isWord N O I0 J0 a0 7) fun z_154 => if (z_154).toInt = 0 then (bd1 (F_Rd_isWord N O I0 J0 a0 8) fun z_189 => if (z_189).toInt = 0 then (bd2 (F_Rd_fail N O I0 J0 a0 (Int32.ofInt (1))) fun z_245 I8 => if (z_245).toInt = 0 ∨ (z_245).toInt = 1 then (some (z_245, I8, J0)) else none) else (if ((I0 a1 8)).toInt < 4 then (bd3 (F_Rd_readOre N O I0 J0 a0 a1 (I0 a1 8)) fun z_217 I9 J9 => if (z_217).toInt = 0 then (some ((Int32.ofInt (0)), I9, J9)) else (bd2 (F_Rd_readTons N O I9 J9 a0 a1 ((I9 a1 8) - (Int32.ofInt (1)))) fun z_231 I10 => if (z_231).toInt = 0 then (some ((Int32.ofInt (0)), I10, J9)) else (some ((Int32.ofInt (1)), I10, J9)))) else (bd2 (F_Rd_fail N O I0 J0 a0 (Int32.ofInt (5))) fun z_205 I11 => if (z_205).toInt = 0 ∨ (z_205).toInt = 1 then (some (z_205, I11, J0)) else none))) else (if ((I0 a1 7)).toInt < 5 then (bd3 (F_Rd_readSize N O I0 J0 a0 a1 (I0 a1 7)) fun z_182 I12 J12 => if (z_182).toInt = 0 ∨ (z_182).toInt = 1 then (some (z_182, I12, J12)) else none) else (bd2 (F_Rd_fail N O I0 J0 a0 (Int32.ofInt (5))) fun z_170 I13 => if (z_170).toInt = 0 ∨ (z_170).toInt = 1 then (some (z_170, I13, J0)) else none))) else (if ((I0 a1 9)).toInt ≤ 0 then (bd2 (F_Rd_readPrices N O I0 J0 a0 a1) fun z_147 I14 => if (z_147).toInt = 0 ∨ (z_147).toInt = 1 then (some (z_147, I14, J0)) else none) else (bd2 (F_Rd_fail N O I0 J0 a0 (Int32.ofInt (3))) fun z_139 I15 => if (z_139).toInt = 0 ∨ (z_139).toInt = 1 then (some (z_139, I15, J0)) else none))) else (if ((I0 a1 5)).toInt ≤ 0 then (bd2 (F_Rd_readBin N O I0 J0 a0 a1) fun z_117 I16 => if (z_117).toInt = 0 ∨ (z_117).toInt = 1 then (some (z_117, I16, J0)) else none) else (bd2 (F_Rd_fail N O I0 J0 a0 (Int32.ofInt (3))) fun z_109 I17 => if (z_109).toInt = 0 ∨ (z_109).toInt = 1 then (some (z_109, I17, J0)) else none))) else (if ((I0 a1 4)).toInt ≤ 0 then (bd2 (F_Rd_readLiner N O I0 J0 a0 a1) fun z_87 I18 => if (z_87).toInt = 0 ∨ (z_87).toInt = 1 then (some (z_87, I18, J0)) else none) else (bd2 (F_Rd_fail N O I0 J0 a0 (Int32.ofInt (3))) fun z_79 I19 => if (z_79).toInt = 0 ∨ (z_79).toInt = 1 then (some (z_79, I19, J0)) else none))) else (if ((I0 a1 2)).toInt = (-1) then (bd2 (F_Rd_readSieve N O I0 J0 a0 a1) fun z_57 I20 => if (z_57).toInt = 0 ∨ (z_57).toInt = 1 then (some (z_57, I20, J0)) else none) else (bd2 (F_Rd_fail N O I0 J0 a0 (Int32.ofInt (3))) fun z_49 I21 => if (z_49).toInt = 0 ∨ (z_49).toInt = 1 then (some (z_49, I21, J0)) else none))) else (if ((I0 a1 0)).toInt ≤ 0 then (bd2 (F_Rd_readDrum N O I0 J0 a0 a1) fun z_26 I22 => if (z_26).toInt = 0 ∨ (z_26).toInt = 1 then (some (z_26, I22, J0)) else none) else (bd2 (F_Rd_fail N O I0 J0 a0 (Int32.ofInt (3))) fun z_18 I23 => if (z_18).toInt = 0 ∨ (z_18).toInt = 1 then (some (z_18, I23, J0)) else none))
set_option maxHeartbeats 4000000 in
set_option maxRecDepth 100000 in
theorem f_Rd_readLine {P : List Nat} {K : Nat → Nat} {N : Nat} {O : WO} {I0 : WI} {J0 : WJ} (hT : TR P K O) {a0 : Nat} (h0 : a0 ∈ P ∧ K a0 = 5) {a1 : Nat} (h1 : a1 ∈ P ∧ K a1 = 3) {r : Int32} {I' : WI} {J' : WJ} (h : F_Rd_readLine N O I0 J0 a0 a1 = some (r, I', J')) : Con yRd_readLine bRd_readLine 2 (some .boolean) ({ frames := 7, cells := 0, slots := 0, locals := 150 } : Room) P K I0 O J0 [.ref a0, .ref a1] (EPo (some (.int r)) I' J' P K O) := by
  refine Con.ofG mfRd_readLine (Nat.le_of_ble_eq_true rfl) ?_
  intro X C E
  unfold F_Rd_readLine at h
  refine g_aload_n C dRd_readLine_0 rfl ?_
  refine g_ldcS 0 C dRd_readLine_1 rfl ?_
  obtain ⟨z_3, e_3, h⟩ := bd1_some h
  refine x_callVi (av := fun ad => [.ref (ad.1 0)]) C dRd_readLine_3 mfRd_isWord mvRd_isWord ln_Rd_95 h0 (by decide) rfl (f_Rd_isWord hT h0 (by decide) e_3) rfl rfl (Nat.le_of_ble_eq_true rfl) ⟨Nat.le_of_ble_eq_true rfl, Nat.le_of_ble_eq_true rfl⟩ ⟨rfl, rfl⟩ ⟨Nat.zero_le _, Nat.zero_le _⟩ ?_
  refine gt_if_eq 30 C dRd_readLine_6 (by decide) rfl (fun c_6 => ?_) (fun c_6 => ?_)
  · have h := x_pos c_6 h
    refine g_aload_n C dRd_readLine_30 rfl ?_
    refine g_ldcS 3 C dRd_readLine_31 rfl ?_
    obtain ⟨z_33, e_33, h⟩ := bd1_some h
    refine x_callVi (av := fun ad => [.ref (ad.1 3)]) C dRd_readLine_33 mfRd_isWord mvRd_isWord ln_Rd_95 h0 (by decide) rfl (f_Rd_isWord hT h0 (by decide) e_33) rfl rfl (Nat.le_of_ble_eq_true rfl) ⟨Nat.le_of_ble_eq_true rfl, Nat.le_of_ble_eq_true rfl⟩ ⟨rfl, rfl⟩ ⟨Nat.zero_le _, Nat.zero_le _⟩ ?_
    refine gt_if_eq 61 C dRd_readLine_36 (by decide) rfl (fun c_36 => ?_) (fun c_36 => ?_)
    · have h := x_pos c_36 h
      refine g_aload_n C dRd_readLine_61 rfl ?_
      refine g_ldcS 4 C dRd_readLine_62 rfl ?_
      obtain ⟨z_64, e_64, h⟩ := bd1_some h
      refine x_callVi (av := fun ad => [.ref (ad.1 4)]) C dRd_readLine_64 mfRd_isWord mvRd_isWord ln_Rd_95 h0 (by decide) rfl (f_Rd_isWord hT h0 (by decide) e_64) rfl rfl (Nat.le_of_ble_eq_true rfl) ⟨Nat.le_of_ble_eq_true rfl, Nat.le_of_ble_eq_true rfl⟩ ⟨rfl, rfl⟩ ⟨Nat.zero_le _, Nat.zero_le _⟩ ?_
      refine gt_if_eq 91 C dRd_readLine_67 (by decide) rfl (fun c_67 => ?_) (fun c_67 => ?_)
      · have h := x_pos c_67 h
        refine g_aload_n C dRd_readLine_91 rfl ?_
        refine g_ldcS 5 C dRd_readLine_92 rfl ?_
        obtain ⟨z_94, e_94, h⟩ := bd1_some h
        refine x_callVi (av := fun ad => [.ref (ad.1 5)]) C dRd_readLine_94 mfRd_isWord mvRd_isWord ln_Rd_95 h0 (by decide) rfl (f_Rd_isWord hT h0 (by decide) e_94) rfl rfl (Nat.le_of_ble_eq_true rfl) ⟨Nat.le_of_ble_eq_true rfl, Nat.le_of_ble_eq_true rfl⟩ ⟨rfl, rfl⟩ ⟨Nat.zero_le _, Nat.zero_le _⟩ ?_
        refine gt_if_eq 121 C dRd_readLine_97 (by decide) rfl (fun c_97 => ?_) (fun c_97 => ?_)
        · have h := x_pos c_97 h
          refine g_aload_n C dRd_readLine_121 rfl ?_
          refine g_ldcS 6 C dRd_readLine_122 rfl ?_
          obtain ⟨z_124, e_124, h⟩ := bd1_some h
          refine x_callVi (av := fun ad => [.ref (ad.1 6)]) C dRd_readLine_124 mfRd_isWord mvRd_isWord ln_Rd_95 h0 (by decide) rfl (f_Rd_isWord hT h0 (by decide) e_124) rfl rfl (Nat.le_of_ble_eq_true rfl) ⟨Nat.le_of_ble_eq_true rfl, Nat.le_of_ble_eq_true rfl⟩ ⟨rfl, rfl⟩ ⟨Nat.zero_le _, Nat.zero_le _⟩ ?_
          refine gt_if_eq 151 C dRd_readLine_127 (by decide) rfl (fun c_127 => ?_) (fun c_127 => ?_)
          · have h := x_pos c_127 h
            refine g_aload_n C dRd_readLine_151 rfl ?_
            refine g_ldcS 7 C dRd_readLine_152 rfl ?_
            obtain ⟨z_154, e_154, h⟩ := bd1_some h
            refine x_callVi (av := fun ad => [.ref (ad.1 7)]) C dRd_readLine_154 mfRd_isWord mvRd_isWord ln_Rd_95 h0 (by decide) rfl (f_Rd_isWord hT h0 (by decide) e_154) rfl rfl (Nat.le_of_ble_eq_true rfl) ⟨Nat.le_of_ble_eq_true rfl, Nat.le_of_ble_eq_true rfl⟩ ⟨rfl, rfl⟩ ⟨Nat.zero_le _, Nat.zero_le _⟩ ?_
            refine gt_if_eq 186 C dRd_readLine_157 (by decide) rfl (fun c_157 => ?_) (fun c_157 => ?_)
            · have h := x_pos c_157 h
              refine g_aload_n C dRd_readLine_186 rfl ?_
              refine g_ldcS 8 C dRd_readLine_187 rfl ?_
              obtain ⟨z_189, e_189, h⟩ := bd1_some h
              refine x_callVi (av := fun ad => [.ref (ad.1 8)]) C dRd_readLine_189 mfRd_isWord mvRd_isWord ln_Rd_95 h0 (by decide) rfl (f_Rd_isWord hT h0 (by decide) e_189) rfl rfl (Nat.le_of_ble_eq_true rfl) ⟨Nat.le_of_ble_eq_true rfl, Nat.le_of_ble_eq_true rfl⟩ ⟨rfl, rfl⟩ ⟨Nat.zero_le _, Nat.zero_le _⟩ ?_
              refine gt_if_eq 243 C dRd_readLine_192 (by decide) rfl (fun c_192 => ?_) (fun c_192 => ?_)
              · have h := x_pos c_192 h
                refine g_aload_n C dRd_readLine_243 rfl ?_
                refine g_iconst (v := Int32.ofInt (1)) C dRd_readLine_244 (by decide) ?_
                obtain ⟨z_245, I8, e_245, h⟩ := bd2_some h
                refine x_callVi (av := fun ad => [.int (Int32.ofInt (1))]) C dRd_readLine_245 mfRd_fail mvRd_fail ln_Rd_54 h0 (by decide) rfl (f_Rd_fail hT h0 e_245) rfl rfl (Nat.le_of_ble_eq_true rfl) ⟨Nat.le_of_ble_eq_true rfl, Nat.le_of_ble_eq_true rfl⟩ ⟨rfl, rfl⟩ ⟨Nat.zero_le _, Nat.zero_le _⟩ ?_
                obtain ⟨g_248, h⟩ := x_g h
                exact x_zret2 C E dRd_readLine_248 (x_01 g_248) ⟨Nat.zero_le _, Nat.zero_le _⟩ h
              · have h := x_neg c_192 h
                refine g_aload_n C dRd_readLine_195 rfl ?_
                refine g_geti C dRd_readLine_196 fl_Rd_149 h1 ?_
                refine g_iconst (v := Int32.ofInt (4)) C dRd_readLine_199 (by decide) ?_
                refine gt_icmp_lt 211 C dRd_readLine_200 (by decide) rfl (ofI (by decide)) (fun c_200 => ?_) (fun c_200 => ?_)
                · have h := x_pos c_200 h
                  refine g_aload_n C dRd_readLine_211 rfl ?_
                  refine g_aload_n C dRd_readLine_212 rfl ?_
                  refine g_aload_n C dRd_readLine_213 rfl ?_
                  refine g_geti C dRd_readLine_214 fl_Rd_149 h1 ?_
                  obtain ⟨z_217, I9, J9, e_217, h⟩ := bd3_some h
                  refine x_callVi (av := fun ad => [.ref a1, .int (I0 a1 8)]) C dRd_readLine_217 mfRd_readOre mvRd_readOre ln_Rd_152 h0 (by decide) rfl (f_Rd_readOre hT h0 h1 e_217) rfl rfl (Nat.le_of_ble_eq_true rfl) ⟨Nat.le_of_ble_eq_true rfl, Nat.le_of_ble_eq_true rfl⟩ ⟨rfl, rfl⟩ ⟨Nat.zero_le _, Nat.zero_le _⟩ ?_
                  refine gt_if_eq 241 C dRd_readLine_220 (by decide) rfl (fun c_220 => ?_) (fun c_220 => ?_)
                  · have h := x_pos c_220 h
                    refine g_iconst (v := Int32.ofInt (0)) C dRd_readLine_241 (by decide) ?_
                    exact x_zret2 C E dRd_readLine_242 (by decide) ⟨Nat.zero_le _, Nat.zero_le _⟩ h
                  · have h := x_neg c_220 h
                    refine g_aload_n C dRd_readLine_223 rfl ?_
                    refine g_aload_n C dRd_readLine_224 rfl ?_
                    refine g_aload_n C dRd_readLine_225 rfl ?_
                    refine g_geti C dRd_readLine_226 fl_Rd_149 h1 ?_
                    refine g_iconst (v := Int32.ofInt (1)) C dRd_readLine_229 (by decide) ?_
                    refine g_isub C dRd_readLine_230 ?_
                    obtain ⟨z_231, I10, e_231, h⟩ := bd2_some h
                    refine x_callVi (av := fun ad => [.ref a1, .int ((I9 a1 8) - (Int32.ofInt (1)))]) C dRd_readLine_231 mfRd_readTons mvRd_readTons ln_Rd_155 h0 (by decide) rfl (f_Rd_readTons hT h0 h1 e_231) rfl rfl (Nat.le_of_ble_eq_true rfl) ⟨Nat.le_of_ble_eq_true rfl, Nat.le_of_ble_eq_true rfl⟩ ⟨rfl, rfl⟩ ⟨Nat.zero_le _, Nat.zero_le _⟩ ?_
                    refine gt_if_eq 241 C dRd_readLine_234 (by decide) rfl (fun c_234 => ?_) (fun c_234 => ?_)
                    · have h := x_pos c_234 h
                      refine g_iconst (v := Int32.ofInt (0)) C dRd_readLine_241 (by decide) ?_
                      exact x_zret2 C E dRd_readLine_242 (by decide) ⟨Nat.zero_le _, Nat.zero_le _⟩ h
                    · have h := x_neg c_234 h
                      refine g_iconst (v := Int32.ofInt (1)) C dRd_readLine_237 (by decide) ?_
                      refine g_goto 242 C dRd_readLine_238 (by decide) ?_
                      exact x_zret2 C E dRd_readLine_242 (by decide) ⟨Nat.zero_le _, Nat.zero_le _⟩ h
                · have h := x_neg (Int.not_lt.mpr c_200) h
                  refine g_aload_n C dRd_readLine_203 rfl ?_
                  refine g_iconst (v := Int32.ofInt (5)) C dRd_readLine_204 (by decide) ?_
                  obtain ⟨z_205, I11, e_205, h⟩ := bd2_some h
                  refine x_callVi (av := fun ad => [.int (Int32.ofInt (5))]) C dRd_readLine_205 mfRd_fail mvRd_fail ln_Rd_54 h0 (by decide) rfl (f_Rd_fail hT h0 e_205) rfl rfl (Nat.le_of_ble_eq_true rfl) ⟨Nat.le_of_ble_eq_true rfl, Nat.le_of_ble_eq_true rfl⟩ ⟨rfl, rfl⟩ ⟨Nat.zero_le _, Nat.zero_le _⟩ ?_
                  refine g_goto 242 C dRd_readLine_208 (by decide) ?_
                  obtain ⟨g_242, h⟩ := x_g h
                  exact x_zret2 C E dRd_readLine_242 (x_01 g_242) ⟨Nat.zero_le _, Nat.zero_le _⟩ h
            · have h := x_neg c_157 h
              refine g_aload_n C dRd_readLine_160 rfl ?_
              refine g_geti C dRd_readLine_161 fl_Rd_142 h1 ?_
              refine g_iconst (v := Int32.ofInt (5)) C dRd_readLine_164 (by decide) ?_
              refine gt_icmp_lt 176 C dRd_readLine_165 (by decide) rfl (ofI (by decide)) (fun c_165 => ?_) (fun c_165 => ?_)
              · have h := x_pos c_165 h
                refine g_aload_n C dRd_readLine_176 rfl ?_
                refine g_aload_n C dRd_readLine_177 rfl ?_
                refine g_aload_n C dRd_readLine_178 rfl ?_
                refine g_geti C dRd_readLine_179 fl_Rd_142 h1 ?_
                obtain ⟨z_182, I12, J12, e_182, h⟩ := bd3_some h
                refine x_callVi (av := fun ad => [.ref a1, .int (I0 a1 7)]) C dRd_readLine_182 mfRd_readSize mvRd_readSize ln_Rd_145 h0 (by decide) rfl (f_Rd_readSize hT h0 h1 e_182) rfl rfl (Nat.le_of_ble_eq_true rfl) ⟨Nat.le_of_ble_eq_true rfl, Nat.le_of_ble_eq_true rfl⟩ ⟨rfl, rfl⟩ ⟨Nat.zero_le _, Nat.zero_le _⟩ ?_
                obtain ⟨g_185, h⟩ := x_g h
                exact x_zret2 C E dRd_readLine_185 (x_01 g_185) ⟨Nat.zero_le _, Nat.zero_le _⟩ h
              · have h := x_neg (Int.not_lt.mpr c_165) h
                refine g_aload_n C dRd_readLine_168 rfl ?_
                refine g_iconst (v := Int32.ofInt (5)) C dRd_readLine_169 (by decide) ?_
                obtain ⟨z_170, I13, e_170, h⟩ := bd2_some h
                refine x_callVi (av := fun ad => [.int (Int32.ofInt (5))]) C dRd_readLine_170 mfRd_fail mvRd_fail ln_Rd_54 h0 (by decide) rfl (f_Rd_fail hT h0 e_170) rfl rfl (Nat.le_of_ble_eq_true rfl) ⟨Nat.le_of_ble_eq_true rfl, Nat.le_of_ble_eq_true rfl⟩ ⟨rfl, rfl⟩ ⟨Nat.zero_le _, Nat.zero_le _⟩ ?_
                refine g_goto 185 C dRd_readLine_173 (by decide) ?_
                obtain ⟨g_185, h⟩ := x_g h
                exact x_zret2 C E dRd_readLine_185 (x_01 g_185) ⟨Nat.zero_le _, Nat.zero_le _⟩ h
          · have h := x_neg c_127 h
            refine g_aload_n C dRd_readLine_130 rfl ?_
            refine g_geti C dRd_readLine_131 fl_Rd_136 h1 ?_
            refine gt_if_le 145 C dRd_readLine_134 (by decide) rfl (fun c_134 => ?_) (fun c_134 => ?_)
            · have h := x_pos c_134 h
              refine g_aload_n C dRd_readLine_145 rfl ?_
              refine g_aload_n C dRd_readLine_146 rfl ?_
              obtain ⟨z_147, I14, e_147, h⟩ := bd2_some h
              refine x_callVi (av := fun ad => [.ref a1]) C dRd_readLine_147 mfRd_readPrices mvRd_readPrices ln_Rd_139 h0 (by decide) rfl (f_Rd_readPrices hT h0 h1 e_147) rfl rfl (Nat.le_of_ble_eq_true rfl) ⟨Nat.le_of_ble_eq_true rfl, Nat.le_of_ble_eq_true rfl⟩ ⟨rfl, rfl⟩ ⟨Nat.zero_le _, Nat.zero_le _⟩ ?_
              obtain ⟨g_150, h⟩ := x_g h
              exact x_zret2 C E dRd_readLine_150 (x_01 g_150) ⟨Nat.zero_le _, Nat.zero_le _⟩ h
            · have h := x_neg (Int.not_le.mpr c_134) h
              refine g_aload_n C dRd_readLine_137 rfl ?_
              refine g_iconst (v := Int32.ofInt (3)) C dRd_readLine_138 (by decide) ?_
              obtain ⟨z_139, I15, e_139, h⟩ := bd2_some h
              refine x_callVi (av := fun ad => [.int (Int32.ofInt (3))]) C dRd_readLine_139 mfRd_fail mvRd_fail ln_Rd_54 h0 (by decide) rfl (f_Rd_fail hT h0 e_139) rfl rfl (Nat.le_of_ble_eq_true rfl) ⟨Nat.le_of_ble_eq_true rfl, Nat.le_of_ble_eq_true rfl⟩ ⟨rfl, rfl⟩ ⟨Nat.zero_le _, Nat.zero_le _⟩ ?_
              refine g_goto 150 C dRd_readLine_142 (by decide) ?_
              obtain ⟨g_150, h⟩ := x_g h
              exact x_zret2 C E dRd_readLine_150 (x_01 g_150) ⟨Nat.zero_le _, Nat.zero_le _⟩ h
        · have h := x_neg c_97 h
          refine g_aload_n C dRd_readLine_100 rfl ?_
          refine g_geti C dRd_readLine_101 fl_Rd_130 h1 ?_
          refine gt_if_le 115 C dRd_readLine_104 (by decide) rfl (fun c_104 => ?_) (fun c_104 => ?_)
          · have h := x_pos c_104 h
            refine g_aload_n C dRd_readLine_115 rfl ?_
            refine g_aload_n C dRd_readLine_116 rfl ?_
            obtain ⟨z_117, I16, e_117, h⟩ := bd2_some h
            refine x_callVi (av := fun ad => [.ref a1]) C dRd_readLine_117 mfRd_readBin mvRd_readBin ln_Rd_133 h0 (by decide) rfl (f_Rd_readBin hT h0 h1 e_117) rfl rfl (Nat.le_of_ble_eq_true rfl) ⟨Nat.le_of_ble_eq_true rfl, Nat.le_of_ble_eq_true rfl⟩ ⟨rfl, rfl⟩ ⟨Nat.zero_le _, Nat.zero_le _⟩ ?_
            obtain ⟨g_120, h⟩ := x_g h
            exact x_zret2 C E dRd_readLine_120 (x_01 g_120) ⟨Nat.zero_le _, Nat.zero_le _⟩ h
          · have h := x_neg (Int.not_le.mpr c_104) h
            refine g_aload_n C dRd_readLine_107 rfl ?_
            refine g_iconst (v := Int32.ofInt (3)) C dRd_readLine_108 (by decide) ?_
            obtain ⟨z_109, I17, e_109, h⟩ := bd2_some h
            refine x_callVi (av := fun ad => [.int (Int32.ofInt (3))]) C dRd_readLine_109 mfRd_fail mvRd_fail ln_Rd_54 h0 (by decide) rfl (f_Rd_fail hT h0 e_109) rfl rfl (Nat.le_of_ble_eq_true rfl) ⟨Nat.le_of_ble_eq_true rfl, Nat.le_of_ble_eq_true rfl⟩ ⟨rfl, rfl⟩ ⟨Nat.zero_le _, Nat.zero_le _⟩ ?_
            refine g_goto 120 C dRd_readLine_112 (by decide) ?_
            obtain ⟨g_120, h⟩ := x_g h
            exact x_zret2 C E dRd_readLine_120 (x_01 g_120) ⟨Nat.zero_le _, Nat.zero_le _⟩ h
      · have h := x_neg c_67 h
        refine g_aload_n C dRd_readLine_70 rfl ?_
        refine g_geti C dRd_readLine_71 fl_Rd_124 h1 ?_
        refine gt_if_le 85 C dRd_readLine_74 (by decide) rfl (fun c_74 => ?_) (fun c_74 => ?_)
        · have h := x_pos c_74 h
          refine g_aload_n C dRd_readLine_85 rfl ?_
          refine g_aload_n C dRd_readLine_86 rfl ?_
          obtain ⟨z_87, I18, e_87, h⟩ := bd2_some h
          refine x_callVi (av := fun ad => [.ref a1]) C dRd_readLine_87 mfRd_readLiner mvRd_readLiner ln_Rd_127 h0 (by decide) rfl (f_Rd_readLiner hT h0 h1 e_87) rfl rfl (Nat.le_of_ble_eq_true rfl) ⟨Nat.le_of_ble_eq_true rfl, Nat.le_of_ble_eq_true rfl⟩ ⟨rfl, rfl⟩ ⟨Nat.zero_le _, Nat.zero_le _⟩ ?_
          obtain ⟨g_90, h⟩ := x_g h
          exact x_zret2 C E dRd_readLine_90 (x_01 g_90) ⟨Nat.zero_le _, Nat.zero_le _⟩ h
        · have h := x_neg (Int.not_le.mpr c_74) h
          refine g_aload_n C dRd_readLine_77 rfl ?_
          refine g_iconst (v := Int32.ofInt (3)) C dRd_readLine_78 (by decide) ?_
          obtain ⟨z_79, I19, e_79, h⟩ := bd2_some h
          refine x_callVi (av := fun ad => [.int (Int32.ofInt (3))]) C dRd_readLine_79 mfRd_fail mvRd_fail ln_Rd_54 h0 (by decide) rfl (f_Rd_fail hT h0 e_79) rfl rfl (Nat.le_of_ble_eq_true rfl) ⟨Nat.le_of_ble_eq_true rfl, Nat.le_of_ble_eq_true rfl⟩ ⟨rfl, rfl⟩ ⟨Nat.zero_le _, Nat.zero_le _⟩ ?_
          refine g_goto 90 C dRd_readLine_82 (by decide) ?_
          obtain ⟨g_90, h⟩ := x_g h
          exact x_zret2 C E dRd_readLine_90 (x_01 g_90) ⟨Nat.zero_le _, Nat.zero_le _⟩ h
    · have h := x_neg c_36 h
      refine g_aload_n C dRd_readLine_39 rfl ?_
      refine g_geti C dRd_readLine_40 fl_Rd_119 h1 ?_
      refine g_iconst (v := Int32.ofInt (-1)) C dRd_readLine_43 (by decide) ?_
      refine gt_icmp_eq 55 C dRd_readLine_44 (by decide) rfl (ofI (by decide)) (fun c_44 => ?_) (fun c_44 => ?_)
      · have h := x_pos c_44 h
        refine g_aload_n C dRd_readLine_55 rfl ?_
        refine g_aload_n C dRd_readLine_56 rfl ?_
        obtain ⟨z_57, I20, e_57, h⟩ := bd2_some h
        refine x_callVi (av := fun ad => [.ref a1]) C dRd_readLine_57 mfRd_readSieve mvRd_readSieve ln_Rd_121 h0 (by decide) rfl (f_Rd_readSieve hT h0 h1 e_57) rfl rfl (Nat.le_of_ble_eq_true rfl) ⟨Nat.le_of_ble_eq_true rfl, Nat.le_of_ble_eq_true rfl⟩ ⟨rfl, rfl⟩ ⟨Nat.zero_le _, Nat.zero_le _⟩ ?_
        obtain ⟨g_60, h⟩ := x_g h
        exact x_zret2 C E dRd_readLine_60 (x_01 g_60) ⟨Nat.zero_le _, Nat.zero_le _⟩ h
      · have h := x_neg c_44 h
        refine g_aload_n C dRd_readLine_47 rfl ?_
        refine g_iconst (v := Int32.ofInt (3)) C dRd_readLine_48 (by decide) ?_
        obtain ⟨z_49, I21, e_49, h⟩ := bd2_some h
        refine x_callVi (av := fun ad => [.int (Int32.ofInt (3))]) C dRd_readLine_49 mfRd_fail mvRd_fail ln_Rd_54 h0 (by decide) rfl (f_Rd_fail hT h0 e_49) rfl rfl (Nat.le_of_ble_eq_true rfl) ⟨Nat.le_of_ble_eq_true rfl, Nat.le_of_ble_eq_true rfl⟩ ⟨rfl, rfl⟩ ⟨Nat.zero_le _, Nat.zero_le _⟩ ?_
        refine g_goto 60 C dRd_readLine_52 (by decide) ?_
        obtain ⟨g_60, h⟩ := x_g h
        exact x_zret2 C E dRd_readLine_60 (x_01 g_60) ⟨Nat.zero_le _, Nat.zero_le _⟩ h
  · have h := x_neg c_6 h
    refine g_aload_n C dRd_readLine_9 rfl ?_
    refine g_geti C dRd_readLine_10 fl_Rd_113 h1 ?_
    refine gt_if_le 24 C dRd_readLine_13 (by decide) rfl (fun c_13 => ?_) (fun c_13 => ?_)
    · have h := x_pos c_13 h
      refine g_aload_n C dRd_readLine_24 rfl ?_
      refine g_aload_n C dRd_readLine_25 rfl ?_
      obtain ⟨z_26, I22, e_26, h⟩ := bd2_some h
      refine x_callVi (av := fun ad => [.ref a1]) C dRd_readLine_26 mfRd_readDrum mvRd_readDrum ln_Rd_116 h0 (by decide) rfl (f_Rd_readDrum hT h0 h1 e_26) rfl rfl (Nat.le_of_ble_eq_true rfl) ⟨Nat.le_of_ble_eq_true rfl, Nat.le_of_ble_eq_true rfl⟩ ⟨rfl, rfl⟩ ⟨Nat.zero_le _, Nat.zero_le _⟩ ?_
      obtain ⟨g_29, h⟩ := x_g h
      exact x_zret2 C E dRd_readLine_29 (x_01 g_29) ⟨Nat.zero_le _, Nat.zero_le _⟩ h
    · have h := x_neg (Int.not_le.mpr c_13) h
      refine g_aload_n C dRd_readLine_16 rfl ?_
      refine g_iconst (v := Int32.ofInt (3)) C dRd_readLine_17 (by decide) ?_
      obtain ⟨z_18, I23, e_18, h⟩ := bd2_some h
      refine x_callVi (av := fun ad => [.int (Int32.ofInt (3))]) C dRd_readLine_18 mfRd_fail mvRd_fail ln_Rd_54 h0 (by decide) rfl (f_Rd_fail hT h0 e_18) rfl rfl (Nat.le_of_ble_eq_true rfl) ⟨Nat.le_of_ble_eq_true rfl, Nat.le_of_ble_eq_true rfl⟩ ⟨rfl, rfl⟩ ⟨Nat.zero_le _, Nat.zero_le _⟩ ?_
      refine g_goto 29 C dRd_readLine_21 (by decide) ?_
      obtain ⟨g_29, h⟩ := x_g h
      exact x_zret2 C E dRd_readLine_29 (x_01 g_29) ⟨Nat.zero_le _, Nat.zero_le _⟩ h
def B_Rd_read_25 (N : Nat) (O : WO) (a0 : Nat) (a2 : Nat) (rec_25 : Int32 → WI → WJ → Option (Int32 × WI × WJ)) (x3_25 : Int32) (I_25 : WI) (J_25 : WJ) : Option (Int32 × WI × WJ) := if 700 < (x3_25).toInt then (bd2 (F_Rd_fail N O I_25 J_25 a0 (Int32.ofInt (1))) fun z_94 I6 => if (z_94).toInt = 0 ∨ (z_94).toInt = 1 then (some (z_94, I6, J_25)) else none) else (bd3 (F_Rd_readLine N O I_25 J_25 a0 a2) fun z_34 I7 J7 => if (z_34).toInt = 0 then (some ((Int32.ofInt (0)), I7, J7)) else (if ((I7 a0 6)).toInt = 0 then (bd1 (F_Ml_lacksLine N O I7 J7 a2) fun z_50 => if (z_50).toInt = 0 then (some ((Int32.ofInt (1)), I7, J7)) else (bd2 (F_Rd_fail N O I7 J7 a0 (Int32.ofInt (6))) fun z_59 I12 => if (z_59).toInt = 0 ∨ (z_59).toInt = 1 then (some (z_59, I12, J7)) else none)) else (bd1 (F_Rd_isSign N O I7 J7 a0 (Int32.ofInt (59))) fun z_70 => if (z_70).toInt = 0 then (bd2 (F_Rd_fail N O I7 J7 a0 (Int32.ofInt (1))) fun z_78 I10 => if (z_78).toInt = 0 ∨ (z_78).toInt = 1 then (some (z_78, I10, J7)) else none) else (bd1 (F_Rd_step N O I7 J7 a0) fun I9 => lb (x3_25 + Int32.ofInt (1)) fun v3_86 => rec_25 (v3_86) I9 J7))))
def F_Rd_read (N : Nat) (O : WO) (I0 : WI) (J0 : WJ) (a0 : Nat) (x1 : Int32) (a2 : Nat) : Option (Int32 × WI × WJ) := bd1 (F_Ml_makeEmpty N O I0 J0 a2) fun I1 => lb (up2 I1 a0 2 (Int32.ofInt (0))) fun I2 => lb (up2 I2 a0 4 x1) fun I3 => lb (up2 I3 a0 5 (Int32.ofInt (0))) fun I4 => bd1 (F_Rd_step N O I4 J0 a0) fun I5 => lp (B_Rd_read_25 N O a0 a2) (fun _ _ _ => none) N ((Int32.ofInt (0))) I5 J0
set_option maxHeartbeats 4000000 in
set_option maxRecDepth 100000 in
theorem f_Rd_read {P : List Nat} {K : Nat → Nat} {N : Nat} {O : WO} {I0 : WI} {J0 : WJ} (hT : TR P K O) {a0 : Nat} (h0 : a0 ∈ P ∧ K a0 = 5) {x1 : Int32} {a2 : Nat} (h2 : a2 ∈ P ∧ K a2 = 3) {r : Int32} {I' : WI} {J' : WJ} (h : F_Rd_read N O I0 J0 a0 x1 a2 = some (r, I', J')) : Con yRd_read bRd_read 4 (some .boolean) ({ frames := 8, cells := 0, slots := 0, locals := 171 } : Room) P K I0 O J0 [.ref a0, .int x1, .ref a2] (EPo (some (.int r)) I' J' P K O) := by
  refine Con.ofG mfRd_read (Nat.le_of_ble_eq_true rfl) ?_
  intro X C E
  unfold F_Rd_read at h
  refine g_aload_n C dRd_read_0 rfl ?_
  obtain ⟨I1, e_1, h⟩ := bd1_some h
  refine x_callVv (av := fun ad => []) C dRd_read_1 mfMl_makeEmpty mvMl_makeEmpty ln_Rd_26 h2 (by decide) rfl (f_Ml_makeEmpty hT h2 e_1) rfl rfl (Nat.le_of_ble_eq_true rfl) ⟨Nat.le_of_ble_eq_true rfl, Nat.le_of_ble_eq_true rfl⟩ ⟨rfl, rfl⟩ ⟨Nat.zero_le _, Nat.zero_le _⟩ ?_
  refine g_aload_n C dRd_read_4 rfl ?_
  refine g_iconst (v := Int32.ofInt (0)) C dRd_read_5 (by decide) ?_
  refine x_puti C dRd_read_6 fl_Rd_31 h0 rfl (Or.inl rfl) h (fun I2 h => ?_)
  refine g_aload_n C dRd_read_9 rfl ?_
  refine g_iload_n C dRd_read_10 rfl ?_
  refine x_puti C dRd_read_11 fl_Rd_34 h0 rfl (Or.inl rfl) h (fun I3 h => ?_)
  refine g_aload_n C dRd_read_14 rfl ?_
  refine g_iconst (v := Int32.ofInt (0)) C dRd_read_15 (by decide) ?_
  refine x_puti C dRd_read_16 fl_Rd_37 h0 rfl (Or.inl rfl) h (fun I4 h => ?_)
  refine g_aload_n C dRd_read_19 rfl ?_
  obtain ⟨I5, e_20, h⟩ := bd1_some h
  refine x_callVv (av := fun ad => []) C dRd_read_20 mfRd_step mvRd_step ln_Rd_40 h0 (by decide) rfl (f_Rd_step hT h0 e_20) rfl rfl (Nat.le_of_ble_eq_true rfl) ⟨Nat.le_of_ble_eq_true rfl, Nat.le_of_ble_eq_true rfl⟩ ⟨rfl, rfl⟩ ⟨Nat.zero_le _, Nat.zero_le _⟩ ?_
  refine g_iconst (v := Int32.ofInt (0)) C dRd_read_23 (by decide) ?_
  refine g_istore_n (i := 3) C dRd_read_24 rfl (by decide) ?_
  have lp_25 : ∀ (x3_25 : Int32) (I_25 : WI) (J_25 : WJ), lp (B_Rd_read_25 N O a0 a2) (fun _ _ _ => none) N x3_25 I_25 J_25 = some (r, I', J') → GG X 4 P K I_25 O J_25 0 0 25 [(0, .ref a0), (1, .int x1), (2, .ref a2), (3, .int x3_25)] [] := by
    refine x_lp (fun (rec_25 : Int32 → WI → WJ → Option (Int32 × WI × WJ)) => ∀ (x3_25 : Int32) (I_25 : WI) (J_25 : WJ), rec_25 x3_25 I_25 J_25 = some (r, I', J') → GG X 4 P K I_25 O J_25 0 0 25 [(0, .ref a0), (1, .int x1), (2, .ref a2), (3, .int x3_25)] []) (fun _ _ _ h => by cases h) (fun rec_25 hr_25 x3_25 I_25 J_25 h => ?_) N
    unfold B_Rd_read_25 at h
    refine g_iload_n C dRd_read_25 rfl ?_
    refine g_sipush (v := Int32.ofInt (700)) C dRd_read_26 (by decide) ?_
    refine gt_icmp_gt 92 C dRd_read_29 (by decide) rfl (ofI (by decide)) (fun c_29 => ?_) (fun c_29 => ?_)
    · have h := x_pos c_29 h
      refine g_aload_n C dRd_read_92 rfl ?_
      refine g_iconst (v := Int32.ofInt (1)) C dRd_read_93 (by decide) ?_
      obtain ⟨z_94, I6, e_94, h⟩ := bd2_some h
      refine x_callVi (av := fun ad => [.int (Int32.ofInt (1))]) C dRd_read_94 mfRd_fail mvRd_fail ln_Rd_54 h0 (by decide) rfl (f_Rd_fail hT h0 e_94) rfl rfl (Nat.le_of_ble_eq_true rfl) ⟨Nat.le_of_ble_eq_true rfl, Nat.le_of_ble_eq_true rfl⟩ ⟨rfl, rfl⟩ ⟨Nat.zero_le _, Nat.zero_le _⟩ ?_
      obtain ⟨g_97, h⟩ := x_g h
      exact x_zret2 C E dRd_read_97 (x_01 g_97) ⟨Nat.zero_le _, Nat.zero_le _⟩ h
    · have h := x_neg (Int.not_lt.mpr c_29) h
      refine g_aload_n C dRd_read_32 rfl ?_
      refine g_aload_n C dRd_read_33 rfl ?_
      obtain ⟨z_34, I7, J7, e_34, h⟩ := bd3_some h
      refine x_callVi (av := fun ad => [.ref a2]) C dRd_read_34 mfRd_readLine mvRd_readLine ln_Rd_43 h0 (by decide) rfl (f_Rd_readLine hT h0 h2 e_34) rfl rfl (Nat.le_of_ble_eq_true rfl) ⟨Nat.le_of_ble_eq_true rfl, Nat.le_of_ble_eq_true rfl⟩ ⟨rfl, rfl⟩ ⟨Nat.zero_le _, Nat.zero_le _⟩ ?_
      refine gt_if_ne 42 C dRd_read_37 (by decide) rfl (fun c_37 => ?_) (fun c_37 => ?_)
      · have h := x_neg c_37 h
        refine g_aload_n C dRd_read_42 rfl ?_
        refine g_geti C dRd_read_43 fl_Rd_47 h0 ?_
        refine gt_if_ne 67 C dRd_read_46 (by decide) rfl (fun c_46 => ?_) (fun c_46 => ?_)
        · have h := x_neg c_46 h
          refine g_aload_n C dRd_read_67 rfl ?_
          refine g_bipush (v := Int32.ofInt (59)) C dRd_read_68 (by decide) ?_
          obtain ⟨z_70, e_70, h⟩ := bd1_some h
          refine x_callVi (av := fun ad => [.int (Int32.ofInt (59))]) C dRd_read_70 mfRd_isSign mvRd_isSign ln_Rd_58 h0 (by decide) rfl (f_Rd_isSign hT h0 e_70) rfl rfl (Nat.le_of_ble_eq_true rfl) ⟨Nat.le_of_ble_eq_true rfl, Nat.le_of_ble_eq_true rfl⟩ ⟨rfl, rfl⟩ ⟨Nat.zero_le _, Nat.zero_le _⟩ ?_
          refine gt_if_ne 82 C dRd_read_73 (by decide) rfl (fun c_73 => ?_) (fun c_73 => ?_)
          · have h := x_neg c_73 h
            refine g_aload_n C dRd_read_82 rfl ?_
            obtain ⟨I9, e_83, h⟩ := bd1_some h
            refine x_callVv (av := fun ad => []) C dRd_read_83 mfRd_step mvRd_step ln_Rd_40 h0 (by decide) rfl (f_Rd_step hT h0 e_83) rfl rfl (Nat.le_of_ble_eq_true rfl) ⟨Nat.le_of_ble_eq_true rfl, Nat.le_of_ble_eq_true rfl⟩ ⟨rfl, rfl⟩ ⟨Nat.zero_le _, Nat.zero_le _⟩ ?_
            refine x_iinc C dRd_read_86 rfl (by decide) h (fun v3_86 h => ?_)
            refine g_goto 25 C dRd_read_89 (by decide) ?_
            exact g_sub (hr_25 (v3_86) I9 J7 h) ⟨rfl, rfl, rfl, rfl, trivial⟩
          · have h := x_pos c_73 h
            refine g_aload_n C dRd_read_76 rfl ?_
            refine g_iconst (v := Int32.ofInt (1)) C dRd_read_77 (by decide) ?_
            obtain ⟨z_78, I10, e_78, h⟩ := bd2_some h
            refine x_callVi (av := fun ad => [.int (Int32.ofInt (1))]) C dRd_read_78 mfRd_fail mvRd_fail ln_Rd_54 h0 (by decide) rfl (f_Rd_fail hT h0 e_78) rfl rfl (Nat.le_of_ble_eq_true rfl) ⟨Nat.le_of_ble_eq_true rfl, Nat.le_of_ble_eq_true rfl⟩ ⟨rfl, rfl⟩ ⟨Nat.zero_le _, Nat.zero_le _⟩ ?_
            obtain ⟨g_81, h⟩ := x_g h
            exact x_zret2 C E dRd_read_81 (x_01 g_81) ⟨Nat.zero_le _, Nat.zero_le _⟩ h
        · have h := x_pos c_46 h
          refine g_aload_n C dRd_read_49 rfl ?_
          obtain ⟨z_50, e_50, h⟩ := bd1_some h
          refine x_callVi (av := fun ad => []) C dRd_read_50 mfMl_lacksLine mvMl_lacksLine ln_Rd_50 h2 (by decide) rfl (f_Ml_lacksLine hT h2 e_50) rfl rfl (Nat.le_of_ble_eq_true rfl) ⟨Nat.le_of_ble_eq_true rfl, Nat.le_of_ble_eq_true rfl⟩ ⟨rfl, rfl⟩ ⟨Nat.zero_le _, Nat.zero_le _⟩ ?_
          refine gt_if_eq 65 C dRd_read_53 (by decide) rfl (fun c_53 => ?_) (fun c_53 => ?_)
          · have h := x_pos c_53 h
            refine g_iconst (v := Int32.ofInt (1)) C dRd_read_65 (by decide) ?_
            exact x_zret2 C E dRd_read_66 (by decide) ⟨Nat.zero_le _, Nat.zero_le _⟩ h
          · have h := x_neg c_53 h
            refine g_aload_n C dRd_read_56 rfl ?_
            refine g_bipush (v := Int32.ofInt (6)) C dRd_read_57 (by decide) ?_
            obtain ⟨z_59, I12, e_59, h⟩ := bd2_some h
            refine x_callVi (av := fun ad => [.int (Int32.ofInt (6))]) C dRd_read_59 mfRd_fail mvRd_fail ln_Rd_54 h0 (by decide) rfl (f_Rd_fail hT h0 e_59) rfl rfl (Nat.le_of_ble_eq_true rfl) ⟨Nat.le_of_ble_eq_true rfl, Nat.le_of_ble_eq_true rfl⟩ ⟨rfl, rfl⟩ ⟨Nat.zero_le _, Nat.zero_le _⟩ ?_
            refine g_goto 66 C dRd_read_62 (by decide) ?_
            obtain ⟨g_66, h⟩ := x_g h
            exact x_zret2 C E dRd_read_66 (x_01 g_66) ⟨Nat.zero_le _, Nat.zero_le _⟩ h
      · have h := x_pos c_37 h
        refine g_iconst (v := Int32.ofInt (0)) C dRd_read_40 (by decide) ?_
        exact x_zret2 C E dRd_read_41 (by decide) ⟨Nat.zero_le _, Nat.zero_le _⟩ h
  exact g_sub (lp_25 ((Int32.ofInt (0))) I5 J0 h) ⟨rfl, rfl, rfl, rfl, trivial⟩
