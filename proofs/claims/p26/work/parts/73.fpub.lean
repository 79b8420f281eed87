def F_RM_refuse (N : Nat) (O : WO) (I0 : WI) (J0 : WJ) (a0 : Nat) (x1 : Int32) : Option (Int32 × WI) := lb (up2 I0 a0 14 x1) fun I1 => some ((Int32.ofInt (-1)), I1)
set_option maxHeartbeats 4000000 in
set_option maxRecDepth 100000 in
theorem f_RM_refuse {P : List Nat} {K : Nat → Nat} {N : Nat} {O : WO} {I0 : WI} {J0 : WJ} (hT : TR P K O) {a0 : Nat} (h0 : a0 ∈ P ∧ K a0 = 8) {x1 : Int32} {r : Int32} {I' : WI} (h : F_RM_refuse N O I0 J0 a0 x1 = some (r, I')) : Con yRM_refuse bRM_refuse 2 (some .int) ({ frames := 0, cells := 0, slots := 0, locals := 0 } : Room) P K I0 O J0 [.ref a0, .int x1] (EPo (some (.int r)) I' J0 P K O) := by
  refine Con.ofG mfRM_refuse (Nat.le_of_ble_eq_true rfl) ?_
  intro X C E
  unfold F_RM_refuse at h
  refine g_aload_n C dRM_refuse_0 rfl ?_
  refine g_iload_n C dRM_refuse_1 rfl ?_
  refine x_puti C dRM_refuse_2 fl_RM_81 h0 rfl (Or.inl rfl) h (fun I1 h => ?_)
  refine g_iconst (v := Int32.ofInt (-1)) C dRM_refuse_5 (by decide) ?_
  exact x_iret1 C E dRM_refuse_6 ⟨Nat.zero_le _, Nat.zero_le _⟩ h
def F_RM_accept (N : Nat) (O : WO) (I0 : WI) (J0 : WJ) (a0 : Nat) (x1 : Int32) : Option (Int32 × WI) := lb (up2 I0 a0 14 (Int32.ofInt (0))) fun I1 => some (x1, I1)
set_option maxHeartbeats 4000000 in
set_option maxRecDepth 100000 in
theorem f_RM_accept {P : List Nat} {K : Nat → Nat} {N : Nat} {O : WO} {I0 : WI} {J0 : WJ} (hT : TR P K O) {a0 : Nat} (h0 : a0 ∈ P ∧ K a0 = 8) {x1 : Int32} {r : Int32} {I' : WI} (h : F_RM_accept N O I0 J0 a0 x1 = some (r, I')) : Con yRM_accept bRM_accept 2 (some .int) ({ frames := 0, cells := 0, slots := 0, locals := 0 } : Room) P K I0 O J0 [.ref a0, .int x1] (EPo (some (.int r)) I' J0 P K O) := by
  refine Con.ofG mfRM_accept (Nat.le_of_ble_eq_true rfl) ?_
  intro X C E
  unfold F_RM_accept at h
  refine g_aload_n C dRM_accept_0 rfl ?_
  refine g_iconst (v := Int32.ofInt (0)) C dRM_accept_1 (by decide) ?_
  refine x_puti C dRM_accept_2 fl_RM_81 h0 rfl (Or.inl rfl) h (fun I1 h => ?_)
  refine g_iload_n C dRM_accept_5 rfl ?_
  exact x_iret1 C E dRM_accept_6 ⟨Nat.zero_le _, Nat.zero_le _⟩ h
def F_RM_deny (N : Nat) (O : WO) (I0 : WI) (J0 : WJ) (a0 : Nat) (x1 : Int32) : Option (Int32 × WI) := lb (up2 I0 a0 14 x1) fun I1 => some ((Int32.ofInt (0)), I1)
set_option maxHeartbeats 4000000 in
set_option maxRecDepth 100000 in
theorem f_RM_deny {P : List Nat} {K : Nat → Nat} {N : Nat} {O : WO} {I0 : WI} {J0 : WJ} (hT : TR P K O) {a0 : Nat} (h0 : a0 ∈ P ∧ K a0 = 8) {x1 : Int32} {r : Int32} {I' : WI} (h : F_RM_deny N O I0 J0 a0 x1 = some (r, I')) : Con yRM_deny bRM_deny 2 (some .boolean) ({ frames := 0, cells := 0, slots := 0, locals := 0 } : Room) P K I0 O J0 [.ref a0, .int x1] (EPo (some (.int r)) I' J0 P K O) := by
  refine Con.ofG mfRM_deny (Nat.le_of_ble_eq_true rfl) ?_
  intro X C E
  unfold F_RM_deny at h
  refine g_aload_n C dRM_deny_0 rfl ?_
  refine g_iload_n C dRM_deny_1 rfl ?_
  refine x_puti C dRM_deny_2 fl_RM_81 h0 rfl (Or.inl rfl) h (fun I1 h => ?_)
  refine g_iconst (v := Int32.ofInt (0)) C dRM_deny_5 (by decide) ?_
  exact x_zret1 C E dRM_deny_6 (by decide) ⟨Nat.zero_le _, Nat.zero_le _⟩ h
def F_RM_allow (N : Nat) (O : WO) (I0 : WI) (J0 : WJ) (a0 : Nat) : Option (Int32 × WI) := lb (up2 I0 a0 14 (Int32.ofInt (0))) fun I1 => some ((Int32.ofInt (1)), I1)
set_option maxHeartbeats 4000000 in
set_option maxRecDepth 100000 in
theorem f_RM_allow {P : List Nat} {K : Nat → Nat} {N : Nat} {O : WO} {I0 : WI} {J0 : WJ} (hT : TR P K O) {a0 : Nat} (h0 : a0 ∈ P ∧ K a0 = 8) {r : Int32} {I' : WI} (h : F_RM_allow N O I0 J0 a0 = some (r, I')) : Con yRM_allow bRM_allow 1 (some .boolean) ({ frames := 0, cells := 0, slots := 0, locals := 0 } : Room) P K I0 O J0 [.ref a0] (EPo (some (.int r)) I' J0 P K O) := by
  refine Con.ofG mfRM_allow (Nat.le_of_ble_eq_true rfl) ?_
  intro X C E
  unfold F_RM_allow at h
  refine g_aload_n C dRM_allow_0 rfl ?_
  refine g_iconst (v := Int32.ofInt (0)) C dRM_allow_1 (by decide) ?_
  refine x_puti C dRM_allow_2 fl_RM_81 h0 rfl (Or.inl rfl) h (fun I1 h => ?_)
  refine g_iconst (v := Int32.ofInt (1)) C dRM_allow_5 (by decide) ?_
  exact x_zret1 C E dRM_allow_6 (by decide) ⟨Nat.zero_le _, Nat.zero_le _⟩ h
def F_RM_noMill (N : Nat) (O : WO) (I0 : WI) (J0 : WJ) (a0 : Nat) : Option (Int32) := if ((I0 (rf O a0 1) 7)).toInt = 0 then (some (Int32.ofInt (1))) else (some (Int32.ofInt (0)))
set_option maxHeartbeats 4000000 in
set_option maxRecDepth 100000 in
theorem f_RM_noMill {P : List Nat} {K : Nat → Nat} {N : Nat} {O : WO} {I0 : WI} {J0 : WJ} (hT : TR P K O) {a0 : Nat} (h0 : a0 ∈ P ∧ K a0 = 8) {r : Int32} (h : F_RM_noMill N O I0 J0 a0 = some r) : Con yRM_noMill bRM_noMill 1 (some .boolean) ({ frames := 0, cells := 0, slots := 0, locals := 0 } : Room) P K I0 O J0 [.ref a0] (EPo (some (.int r)) I0 J0 P K O) := by
  refine Con.ofG mfRM_noMill (Nat.le_of_ble_eq_true rfl) ?_
  intro X C E
  unfold F_RM_noMill at h
  refine g_aload_n C dRM_noMill_0 rfl ?_
  have t_1 := rf_ok hT h0 (show sp 8 1 = some 3 from rfl)
  refine x_getr C dRM_noMill_1 fl_RM_19 h0 hT (show sp 8 1 = some 3 from rfl) ?_
  refine g_geti C dRM_noMill_4 fl_RM_119 t_1 ?_
  refine gt_if_ne 14 C dRM_noMill_7 (by decide) rfl (fun c_7 => ?_) (fun c_7 => ?_)
  · have h := x_neg c_7 h
    refine g_iconst (v := Int32.ofInt (0)) C dRM_noMill_14 (by decide) ?_
    exact x_zret0 C E dRM_noMill_15 (by decide) ⟨Nat.zero_le _, Nat.zero_le _⟩ h
  · have h := x_pos c_7 h
    refine g_iconst (v := Int32.ofInt (1)) C dRM_noMill_10 (by decide) ?_
    refine g_goto 15 C dRM_noMill_11 (by decide) ?_
    exact x_zret0 C E dRM_noMill_15 (by decide) ⟨Nat.zero_le _, Nat.zero_le _⟩ h
def F_RM_isSize (N : Nat) (O : WO) (I0 : WI) (J0 : WJ) (a0 : Nat) (x1 : Int32) : Option (Int32) := if (x1).toInt < 0 then (some (Int32.ofInt (0))) else (if ((I0 (rf O a0 1) 7)).toInt ≤ (x1).toInt then (some (Int32.ofInt (0))) else (if 5 ≤ (x1).toInt then (some (Int32.ofInt (0))) else (some (Int32.ofInt (1)))))
set_option maxHeartbeats 4000000 in
set_option maxRecDepth 100000 in
theorem f_RM_isSize {P : List Nat} {K : Nat → Nat} {N : Nat} {O : WO} {I0 : WI} {J0 : WJ} (hT : TR P K O) {a0 : Nat} (h0 : a0 ∈ P ∧ K a0 = 8) {x1 : Int32} {r : Int32} (h : F_RM_isSize N O I0 J0 a0 x1 = some r) : Con yRM_isSize bRM_isSize 2 (some .boolean) ({ frames := 0, cells := 0, slots := 0, locals := 0 } : Room) P K I0 O J0 [.ref a0, .int x1] (EPo (some (.int r)) I0 J0 P K O) := by
  refine Con.ofG mfRM_isSize (Nat.le_of_ble_eq_true rfl) ?_
  intro X C E
  unfold F_RM_isSize at h
  refine g_iload_n C dRM_isSize_0 rfl ?_
  refine gt_if_lt 24 C dRM_isSize_1 (by decide) rfl (fun c_1 => ?_) (fun c_1 => ?_)
  · have h := x_pos c_1 h
    refine g_iconst (v := Int32.ofInt (0)) C dRM_isSize_24 (by decide) ?_
    exact x_zret0 C E dRM_isSize_25 (by decide) ⟨Nat.zero_le _, Nat.zero_le _⟩ h
  · have h := x_neg (Int.not_lt.mpr c_1) h
    refine g_iload_n C dRM_isSize_4 rfl ?_
    refine g_aload_n C dRM_isSize_5 rfl ?_
    have t_6 := rf_ok hT h0 (show sp 8 1 = some 3 from rfl)
    refine x_getr C dRM_isSize_6 fl_RM_19 h0 hT (show sp 8 1 = some 3 from rfl) ?_
    refine g_geti C dRM_isSize_9 fl_RM_119 t_6 ?_
    refine gt_icmp_ge 24 C dRM_isSize_12 (by decide) rfl rfl (fun c_12 => ?_) (fun c_12 => ?_)
    · have h := x_pos c_12 h
      refine g_iconst (v := Int32.ofInt (0)) C dRM_isSize_24 (by decide) ?_
      exact x_zret0 C E dRM_isSize_25 (by decide) ⟨Nat.zero_le _, Nat.zero_le _⟩ h
    · have h := x_neg (Int.not_le.mpr c_12) h
      refine g_iload_n C dRM_isSize_15 rfl ?_
      refine g_iconst (v := Int32.ofInt (5)) C dRM_isSize_16 (by decide) ?_
      refine gt_icmp_ge 24 C dRM_isSize_17 (by decide) rfl (ofI (by decide)) (fun c_17 => ?_) (fun c_17 => ?_)
      · have h := x_pos c_17 h
        refine g_iconst (v := Int32.ofInt (0)) C dRM_isSize_24 (by decide) ?_
        exact x_zret0 C E dRM_isSize_25 (by decide) ⟨Nat.zero_le _, Nat.zero_le _⟩ h
      · have h := x_neg (Int.not_le.mpr c_17) h
        refine g_iconst (v := Int32.ofInt (1)) C dRM_isSize_20 (by decide) ?_
        refine g_goto 25 C dRM_isSize_21 (by decide) ?_
        exact x_zret0 C E dRM_isSize_25 (by decide) ⟨Nat.zero_le _, Nat.zero_le _⟩ h
def F_RM_isOre (N : Nat) (O : WO) (I0 : WI) (J0 : WJ) (a0 : Nat) (x1 : Int32) : Option (Int32) := if (x1).toInt < 0 then (some (Int32.ofInt (0))) else (if ((I0 (rf O a0 1) 8)).toInt ≤ (x1).toInt then (some (Int32.ofInt (0))) else (some (Int32.ofInt (1))))
set_option maxHeartbeats 4000000 in
set_option maxRecDepth 100000 in
theorem f_RM_isOre {P : List Nat} {K : Nat → Nat} {N : Nat} {O : WO} {I0 : WI} {J0 : WJ} (hT : TR P K O) {a0 : Nat} (h0 : a0 ∈ P ∧ K a0 = 8) {x1 : Int32} {r : Int32} (h : F_RM_isOre N O I0 J0 a0 x1 = some r) : Con yRM_isOre bRM_isOre 2 (some .boolean) ({ frames := 0, cells := 0, slots := 0, locals := 0 } : Room) P K I0 O J0 [.ref a0, .int x1] (EPo (some (.int r)) I0 J0 P K O) := by
  refine Con.ofG mfRM_isOre (Nat.le_of_ble_eq_true rfl) ?_
  intro X C E
  unfold F_RM_isOre at h
  refine g_iload_n C dRM_isOre_0 rfl ?_
  refine gt_if_lt 19 C dRM_isOre_1 (by decide) rfl (fun c_1 => ?_) (fun c_1 => ?_)
  · have h := x_pos c_1 h
    refine g_iconst (v := Int32.ofInt (0)) C dRM_isOre_19 (by decide) ?_
    exact x_zret0 C E dRM_isOre_20 (by decide) ⟨Nat.zero_le _, Nat.zero_le _⟩ h
  · have h := x_neg (Int.not_lt.mpr c_1) h
    refine g_iload_n C dRM_isOre_4 rfl ?_
    refine g_aload_n C dRM_isOre_5 rfl ?_
    have t_6 := rf_ok hT h0 (show sp 8 1 = some 3 from rfl)
    refine x_getr C dRM_isOre_6 fl_RM_19 h0 hT (show sp 8 1 = some 3 from rfl) ?_
    refine g_geti C dRM_isOre_9 fl_RM_319 t_6 ?_
    refine gt_icmp_ge 19 C dRM_isOre_12 (by decide) rfl rfl (fun c_12 => ?_) (fun c_12 => ?_)
    · have h := x_pos c_12 h
      refine g_iconst (v := Int32.ofInt (0)) C dRM_isOre_19 (by decide) ?_
      exact x_zret0 C E dRM_isOre_20 (by decide) ⟨Nat.zero_le _, Nat.zero_le _⟩ h
    · have h := x_neg (Int.not_le.mpr c_12) h
      refine g_iconst (v := Int32.ofInt (1)) C dRM_isOre_15 (by decide) ?_
      refine g_goto 20 C dRM_isOre_16 (by decide) ?_
      exact x_zret0 C E dRM_isOre_20 (by decide) ⟨Nat.zero_le _, Nat.zero_le _⟩ h
def F_RM_isHeard (N : Nat) (O : WO) (I0 : WI) (J0 : WJ) (a0 : Nat) (x1 : Int32) : Option (Int32) := if (x1).toInt < 0 then (some (Int32.ofInt (0))) else (if (((Int32.ofInt (2)) + (I0 (rf O a0 1) 7))).toInt ≤ (x1).toInt then (some (Int32.ofInt (0))) else (some (Int32.ofInt (1))))
set_option maxHeartbeats 4000000 in
set_option maxRecDepth 100000 in
theorem f_RM_isHeard {P : List Nat} {K : Nat → Nat} {N : Nat} {O : WO} {I0 : WI} {J0 : WJ} (hT : TR P K O) {a0 : Nat} (h0 : a0 ∈ P ∧ K a0 = 8) {x1 : Int32} {r : Int32} (h : F_RM_isHeard N O I0 J0 a0 x1 = some r) : Con yRM_isHeard bRM_isHeard 2 (some .boolean) ({ frames := 0, cells := 0, slots := 0, locals := 0 } : Room) P K I0 O J0 [.ref a0, .int x1] (EPo (some (.int r)) I0 J0 P K O) := by
  refine Con.ofG mfRM_isHeard (Nat.le_of_ble_eq_true rfl) ?_
  intro X C E
  unfold F_RM_isHeard at h
  refine g_iload_n C dRM_isHeard_0 rfl ?_
  refine gt_if_lt 21 C dRM_isHeard_1 (by decide) rfl (fun c_1 => ?_) (fun c_1 => ?_)
  · have h := x_pos c_1 h
    refine g_iconst (v := Int32.ofInt (0)) C dRM_isHeard_21 (by decide) ?_
    exact x_zret0 C E dRM_isHeard_22 (by decide) ⟨Nat.zero_le _, Nat.zero_le _⟩ h
  · have h := x_neg (Int.not_lt.mpr c_1) h
    refine g_iload_n C dRM_isHeard_4 rfl ?_
    refine g_iconst (v := Int32.ofInt (2)) C dRM_isHeard_5 (by decide) ?_
    refine g_aload_n C dRM_isHeard_6 rfl ?_
    have t_7 := rf_ok hT h0 (show sp 8 1 = some 3 from rfl)
    refine x_getr C dRM_isHeard_7 fl_RM_19 h0 hT (show sp 8 1 = some 3 from rfl) ?_
    refine g_geti C dRM_isHeard_10 fl_RM_119 t_7 ?_
    refine g_iadd C dRM_isHeard_13 ?_
    refine gt_icmp_ge 21 C dRM_isHeard_14 (by decide) rfl rfl (fun c_14 => ?_) (fun c_14 => ?_)
    · have h := x_pos c_14 h
      refine g_iconst (v := Int32.ofInt (0)) C dRM_isHeard_21 (by decide) ?_
      exact x_zret0 C E dRM_isHeard_22 (by decide) ⟨Nat.zero_le _, Nat.zero_le _⟩ h
    · have h := x_neg (Int.not_le.mpr c_14) h
      refine g_iconst (v := Int32.ofInt (1)) C dRM_isHeard_17 (by decide) ?_
      refine g_goto 22 C dRM_isHeard_18 (by decide) ?_
      exact x_zret0 C E dRM_isHeard_22 (by decide) ⟨Nat.zero_le _, Nat.zero_le _⟩ h
def F_RM_noteStood (N : Nat) (O : WO) (I0 : WI) (J0 : WJ) (a0 : Nat) (x1 : Int32) : Option (WI) := if 240 ≤ ((I0 a0 13)).toInt then (some I0) else (if 0 ≤ ((I0 a0 13)).toInt ∧ ((I0 a0 13)).toInt < 240 then (lb (up2 I0 (rf O a0 12) ((I0 a0 13)).toInt.toNat x1) fun I1 => lb (up2 I1 a0 13 ((I1 a0 13) + (Int32.ofInt (1)))) fun I2 => some I2) else none)
set_option maxHeartbeats 4000000 in
set_option maxRecDepth 100000 in
theorem f_RM_noteStood {P : List Nat} {K : Nat → Nat} {N : Nat} {O : WO} {I0 : WI} {J0 : WJ} (hT : TR P K O) {a0 : Nat} (h0 : a0 ∈ P ∧ K a0 = 8) {x1 : Int32} {I' : WI} (h : F_RM_noteStood N O I0 J0 a0 x1 = some I') : Con yRM_noteStood bRM_noteStood 2 none ({ frames := 0, cells := 0, slots := 0, locals := 0 } : Room) P K I0 O J0 [.ref a0, .int x1] (EPo none I' J0 P K O) := by
  refine Con.ofG mfRM_noteStood (Nat.le_of_ble_eq_true rfl) ?_
  intro X C E
  unfold F_RM_noteStood at h
  refine g_aload_n C dRM_noteStood_0 rfl ?_
  refine g_geti C dRM_noteStood_1 fl_RM_309 h0 ?_
  refine g_aload_n C dRM_noteStood_4 rfl ?_
  have t_5 := rf_ok hT h0 (show sp 8 12 = some 28 from rfl)
  refine x_getr C dRM_noteStood_5 fl_RM_78 h0 hT (show sp 8 12 = some 28 from rfl) ?_
  refine x_alenc 240 C dRM_noteStood_8 t_5 (by decide) (by decide) (by decide) ?_
  refine gt_icmp_ge 32 C dRM_noteStood_9 (by decide) rfl (ofI (by decide)) (fun c_9 => ?_) (fun c_9 => ?_)
  · have h := x_pos c_9 h
    exact x_vret1 C E dRM_noteStood_32 ⟨Nat.zero_le _, Nat.zero_le _⟩ h
  · have h := x_neg (Int.not_le.mpr c_9) h
    refine g_aload_n C dRM_noteStood_12 rfl ?_
    have t_13 := rf_ok hT h0 (show sp 8 12 = some 28 from rfl)
    refine x_getr C dRM_noteStood_13 fl_RM_78 h0 hT (show sp 8 12 = some 28 from rfl) ?_
    refine g_aload_n C dRM_noteStood_16 rfl ?_
    refine g_geti C dRM_noteStood_17 fl_RM_309 h0 ?_
    refine g_iload_n C dRM_noteStood_20 rfl ?_
    obtain ⟨g_21, h⟩ := x_g h
    refine x_iast (m := 240) C dRM_noteStood_21 t_13 (by decide) rfl rfl g_21 h (fun I1 h => ?_)
    refine g_aload_n C dRM_noteStood_22 rfl ?_
    refine g_dup C dRM_noteStood_23 rfl ?_
    refine g_geti C dRM_noteStood_24 fl_RM_309 h0 ?_
    refine g_iconst (v := Int32.ofInt (1)) C dRM_noteStood_27 (by decide) ?_
    refine g_iadd C dRM_noteStood_28 ?_
    refine x_puti C dRM_noteStood_29 fl_RM_309 h0 rfl (Or.inl rfl) h (fun I2 h => ?_)
    exact x_vret1 C E dRM_noteStood_32 ⟨Nat.zero_le _, Nat.zero_le _⟩ h
def F_RM_findFits (N : Nat) (O : WO) (I0 : WI) (J0 : WJ) (a0 : Nat) : Option (Int32 × WI) := bd1 (F_Gu_tellAll N O I0 J0 (rf O a0 6) (rf O a0 1) (rf O a0 5)) fun I1 => bd2 (F_Si_findFits N O I1 J0 (rf O a0 7) (rf O a0 6)) fun z_23 I2 => some (z_23, I2)
set_option maxHeartbeats 4000000 in
set_option maxRecDepth 100000 in
theorem f_RM_findFits {P : List Nat} {K : Nat → Nat} {N : Nat} {O : WO} {I0 : WI} {J0 : WJ} (hT : TR P K O) {a0 : Nat} (h0 : a0 ∈ P ∧ K a0 = 8) {r : Int32} {I' : WI} (h : F_RM_findFits N O I0 J0 a0 = some (r, I')) : Con yRM_findFits bRM_findFits 1 (some .int) ({ frames := 6, cells := 0, slots := 0, locals := 136 } : Room) P K I0 O J0 [.ref a0] (EPo (some (.int r)) I' J0 P K O) := by
  refine Con.ofG mfRM_findFits (Nat.le_of_ble_eq_true rfl) ?_
  intro X C E
  unfold F_RM_findFits at h
  refine g_aload_n C dRM_findFits_0 rfl ?_
  have t_1 := rf_ok hT h0 (show sp 8 6 = some 1 from rfl)
  refine x_getr C dRM_findFits_1 fl_RM_43 h0 hT (show sp 8 6 = some 1 from rfl) ?_
  refine g_aload_n C dRM_findFits_4 rfl ?_
  have t_5 := rf_ok hT h0 (show sp 8 1 = some 3 from rfl)
  refine x_getr C dRM_findFits_5 fl_RM_19 h0 hT (show sp 8 1 = some 3 from rfl) ?_
  refine g_aload_n C dRM_findFits_8 rfl ?_
  have t_9 := rf_ok hT h0 (show sp 8 5 = some 19 from rfl)
  refine x_getr C dRM_findFits_9 fl_RM_37 h0 hT (show sp 8 5 = some 19 from rfl) ?_
  obtain ⟨I1, e_12, h⟩ := bd1_some h
  refine x_callVv (av := fun ad => [.ref (rf O a0 1), .ref (rf O a0 5)]) C dRM_findFits_12 mfGu_tellAll mvGu_tellAll ln_RM_359 t_1 (by decide) rfl (f_Gu_tellAll hT t_1 t_5 t_9 e_12) rfl rfl (Nat.le_of_ble_eq_true rfl) ⟨Nat.le_of_ble_eq_true rfl, Nat.le_of_ble_eq_true rfl⟩ ⟨rfl, rfl⟩ ⟨Nat.zero_le _, Nat.zero_le _⟩ ?_
  refine g_aload_n C dRM_findFits_15 rfl ?_
  have t_16 := rf_ok hT h0 (show sp 8 7 = some 6 from rfl)
  refine x_getr C dRM_findFits_16 fl_RM_50 h0 hT (show sp 8 7 = some 6 from rfl) ?_
  refine g_aload_n C dRM_findFits_19 rfl ?_
  have t_20 := rf_ok hT h0 (show sp 8 6 = some 1 from rfl)
  refine x_getr C dRM_findFits_20 fl_RM_43 h0 hT (show sp 8 6 = some 1 from rfl) ?_
  obtain ⟨z_23, I2, e_23, h⟩ := bd2_some h
  refine x_callVi (av := fun ad => [.ref (rf O a0 6)]) C dRM_findFits_23 mfSi_findFits mvSi_findFits ln_RM_363 t_16 (by decide) rfl (f_Si_findFits hT t_16 t_20 e_23) rfl rfl (Nat.le_of_ble_eq_true rfl) ⟨Nat.le_of_ble_eq_true rfl, Nat.le_of_ble_eq_true rfl⟩ ⟨rfl, rfl⟩ ⟨Nat.zero_le _, Nat.zero_le _⟩ ?_
  exact x_iret1 C E dRM_findFits_26 ⟨Nat.zero_le _, Nat.zero_le _⟩ h
def F_RM_leadMarks (N : Nat) (O : WO) (I0 : WI) (J0 : WJ) (a0 : Nat) (x1 : Int32) : Option (Int32 × WI) := bd1 (F_Ld_takeBack N O I0 J0 (rf O a0 10)) fun I1 => if ((I1 (rf O a0 11) 5)).toInt = 0 then (bd1 (F_Ld_breakUp N O I1 J0 (rf O a0 10) (rf O a0 1) (I1 (rf O a0 11) 8)) fun I2 => bd1 (F_Ld_sift N O I2 J0 (rf O a0 10) (rf O a0 1) x1 (I2 (rf O a0 11) 4)) fun I3 => bd1 (F_RM_sumOf N O I3 J0 (rf O (rf O a0 10) 2)) fun z_63 => some (z_63, I3)) else (some ((Int32.ofInt (0)), I1))
set_option maxHeartbeats 4000000 in
set_option maxRecDepth 100000 in
theorem f_RM_leadMarks {P : List Nat} {K : Nat → Nat} {N : Nat} {O : WO} {I0 : WI} {J0 : WJ} (hT : TR P K O) {a0 : Nat} (h0 : a0 ∈ P ∧ K a0 = 8) {x1 : Int32} {r : Int32} {I' : WI} (h : F_RM_leadMarks N O I0 J0 a0 x1 = some (r, I')) : Con yRM_leadMarks bRM_leadMarks 2 (some .int) ({ frames := 2, cells := 0, slots := 0, locals := 48 } : Room) P K I0 O J0 [.ref a0, .int x1] (EPo (some (.int r)) I' J0 P K O) := by
  refine Con.ofG mfRM_leadMarks (Nat.le_of_ble_eq_true rfl) ?_
  intro X C E
  unfold F_RM_leadMarks at h
  refine g_aload_n C dRM_leadMarks_0 rfl ?_
  have t_1 := rf_ok hT h0 (show sp 8 10 = some 2 from rfl)
  refine x_getr C dRM_leadMarks_1 fl_RM_71 h0 hT (show sp 8 10 = some 2 from rfl) ?_
  obtain ⟨I1, e_4, h⟩ := bd1_some h
  refine x_callVv (av := fun ad => []) C dRM_leadMarks_4 mfLd_takeBack mvLd_takeBack ln_RM_366 t_1 (by decide) rfl (f_Ld_takeBack hT t_1 e_4) rfl rfl (Nat.le_of_ble_eq_true rfl) ⟨Nat.le_of_ble_eq_true rfl, Nat.le_of_ble_eq_true rfl⟩ ⟨rfl, rfl⟩ ⟨Nat.zero_le _, Nat.zero_le _⟩ ?_
  refine g_aload_n C dRM_leadMarks_7 rfl ?_
  have t_8 := rf_ok hT h0 (show sp 8 11 = some 0 from rfl)
  refine x_getr C dRM_leadMarks_8 fl_RM_75 h0 hT (show sp 8 11 = some 0 from rfl) ?_
  refine g_geti C dRM_leadMarks_11 fl_RM_157 t_8 ?_
  refine gt_if_eq 19 C dRM_leadMarks_14 (by decide) rfl (fun c_14 => ?_) (fun c_14 => ?_)
  · have h := x_pos c_14 h
    refine g_aload_n C dRM_leadMarks_19 rfl ?_
    have t_20 := rf_ok hT h0 (show sp 8 10 = some 2 from rfl)
    refine x_getr C dRM_leadMarks_20 fl_RM_71 h0 hT (show sp 8 10 = some 2 from rfl) ?_
    refine g_aload_n C dRM_leadMarks_23 rfl ?_
    have t_24 := rf_ok hT h0 (show sp 8 1 = some 3 from rfl)
    refine x_getr C dRM_leadMarks_24 fl_RM_19 h0 hT (show sp 8 1 = some 3 from rfl) ?_
    refine g_aload_n C dRM_leadMarks_27 rfl ?_
    have t_28 := rf_ok hT h0 (show sp 8 11 = some 0 from rfl)
    refine x_getr C dRM_leadMarks_28 fl_RM_75 h0 hT (show sp 8 11 = some 0 from rfl) ?_
    refine g_geti C dRM_leadMarks_31 fl_RM_197 t_28 ?_
    obtain ⟨I2, e_34, h⟩ := bd1_some h
    refine x_callVv (av := fun ad => [.ref (rf O a0 1), .int (I1 (rf O a0 11) 8)]) C dRM_leadMarks_34 mfLd_breakUp mvLd_breakUp ln_RM_369 t_20 (by decide) rfl (f_Ld_breakUp hT t_20 t_24 e_34) rfl rfl (Nat.le_of_ble_eq_true rfl) ⟨Nat.le_of_ble_eq_true rfl, Nat.le_of_ble_eq_true rfl⟩ ⟨rfl, rfl⟩ ⟨Nat.zero_le _, Nat.zero_le _⟩ ?_
    refine g_aload_n C dRM_leadMarks_37 rfl ?_
    have t_38 := rf_ok hT h0 (show sp 8 10 = some 2 from rfl)
    refine x_getr C dRM_leadMarks_38 fl_RM_71 h0 hT (show sp 8 10 = some 2 from rfl) ?_
    refine g_aload_n C dRM_leadMarks_41 rfl ?_
    have t_42 := rf_ok hT h0 (show sp 8 1 = some 3 from rfl)
    refine x_getr C dRM_leadMarks_42 fl_RM_19 h0 hT (show sp 8 1 = some 3 from rfl) ?_
    refine g_iload_n C dRM_leadMarks_45 rfl ?_
    refine g_aload_n C dRM_leadMarks_46 rfl ?_
    have t_47 := rf_ok hT h0 (show sp 8 11 = some 0 from rfl)
    refine x_getr C dRM_leadMarks_47 fl_RM_75 h0 hT (show sp 8 11 = some 0 from rfl) ?_
    refine g_geti C dRM_leadMarks_50 fl_RM_144 t_47 ?_
    obtain ⟨I3, e_53, h⟩ := bd1_some h
    refine x_callVv (av := fun ad => [.ref (rf O a0 1), .int x1, .int (I2 (rf O a0 11) 4)]) C dRM_leadMarks_53 mfLd_sift mvLd_sift ln_RM_372 t_38 (by decide) rfl (f_Ld_sift hT t_38 t_42 e_53) rfl rfl (Nat.le_of_ble_eq_true rfl) ⟨Nat.le_of_ble_eq_true rfl, Nat.le_of_ble_eq_true rfl⟩ ⟨rfl, rfl⟩ ⟨Nat.zero_le _, Nat.zero_le _⟩ ?_
    refine g_aload_n C dRM_leadMarks_56 rfl ?_
    have t_57 := rf_ok hT h0 (show sp 8 10 = some 2 from rfl)
    refine x_getr C dRM_leadMarks_57 fl_RM_71 h0 hT (show sp 8 10 = some 2 from rfl) ?_
    have t_60 := rf_ok hT t_57 (show sp 2 2 = some 11 from rfl)
    refine x_getr C dRM_leadMarks_60 fl_RM_176 t_57 hT (show sp 2 2 = some 11 from rfl) ?_
    obtain ⟨z_63, e_63, h⟩ := bd1_some h
    refine x_callSi (av := fun ad => [.ref (rf O (rf O a0 10) 2)]) C dRM_leadMarks_63 mfRM_sumOf msRM_sumOf ln_RM_376 (f_RM_sumOf hT t_60 e_63) rfl rfl (Nat.le_of_ble_eq_true rfl) ⟨Nat.le_of_ble_eq_true rfl, Nat.le_of_ble_eq_true rfl⟩ ⟨rfl, rfl⟩ ⟨Nat.zero_le _, Nat.zero_le _⟩ ?_
    exact x_iret1 C E dRM_leadMarks_66 ⟨Nat.zero_le _, Nat.zero_le _⟩ h
  · have h := x_neg c_14 h
    refine g_iconst (v := Int32.ofInt (0)) C dRM_leadMarks_17 (by decide) ?_
    exact x_iret1 C E dRM_leadMarks_18 ⟨Nat.zero_le _, Nat.zero_le _⟩ h
def B_RM_beginAnew_30 (N : Nat) (O : WO) (a0 : Nat) (J0 : WJ) (rec_30 : Int32 → WI → Option (WI)) (x1_30 : Int32) (I_30 : WI) : Option (WI) := if 12 ≤ (x1_30).toInt then (bd1 (F_Gu_makeStale N O I_30 J0 (rf O a0 6)) fun I5 => bd2 (F_Si_drop N O I5 J0 (rf O a0 7)) fun z_86 I6 => bd2 (F_Tr_drop N O I6 J0 (rf O a0 9)) fun z_94 I7 => bd1 (F_Pl_drop N O I7 J0 (rf O a0 8)) fun I8 => lb (up2 I8 a0 13 (Int32.ofInt (0))) fun I9 => some I9) else (if 0 ≤ (((x1_30 * (Int32.ofInt (3))) + (Int32.ofInt (0)))).toInt ∧ (((x1_30 * (Int32.ofInt (3))) + (Int32.ofInt (0)))).toInt < 36 then (lb (up2 I_30 (rf O a0 5) (((x1_30 * (Int32.ofInt (3))) + (Int32.ofInt (0)))).toInt.toNat (Int32.ofInt (1))) fun I10 => if 0 ≤ (((x1_30 * (Int32.ofInt (3))) + (Int32.ofInt (1)))).toInt ∧ (((x1_30 * (Int32.ofInt (3))) + (Int32.ofInt (1)))).toInt < 36 then (lb (up2 I10 (rf O a0 5) (((x1_30 * (Int32.ofInt (3))) + (Int32.ofInt (1)))).toInt.toNat (Int32.ofInt (1))) fun I11 => if 0 ≤ (((x1_30 * (Int32.ofInt (3))) + (Int32.ofInt (2)))).toInt ∧ (((x1_30 * (Int32.ofInt (3))) + (Int32.ofInt (2)))).toInt < 36 then (lb (up2 I11 (rf O a0 5) (((x1_30 * (Int32.ofInt (3))) + (Int32.ofInt (2)))).toInt.toNat (Int32.ofInt (0))) fun I12 => lb (x1_30 + Int32.ofInt (1)) fun v1_69 => rec_30 (v1_69) I12) else none) else none) else none)
def F_RM_beginAnew (N : Nat) (O : WO) (I0 : WI) (J0 : WJ) (a0 : Nat) : Option (WI) := bd1 (F_Dr_beginEmpty N O I0 J0 (rf O a0 3)) fun I1 => lb (up2 I1 (rf O a0 4) 0 (Int32.ofInt (1))) fun I2 => lb (up2 I2 (rf O a0 4) 1 (Int32.ofInt (1))) fun I3 => lb (up2 I3 (rf O a0 4) 2 (Int32.ofInt (0))) fun I4 => lp (B_RM_beginAnew_30 N O a0 J0) (fun _ _ => none) N ((Int32.ofInt (0))) I4
set_option maxHeartbeats 4000000 in
set_option maxRecDepth 100000 in
theorem f_RM_beginAnew {P : List Nat} {K : Nat → Nat} {N : Nat} {O : WO} {I0 : WI} {J0 : WJ} (hT : TR P K O) {a0 : Nat} (h0 : a0 ∈ P ∧ K a0 = 8) {I' : WI} (h : F_RM_beginAnew N O I0 J0 a0 = some I') : Con yRM_beginAnew bRM_beginAnew 2 none ({ frames := 3, cells := 0, slots := 0, locals := 61 } : Room) P K I0 O J0 [.ref a0] (EPo none I' J0 P K O) := by
  refine Con.ofG mfRM_beginAnew (Nat.le_of_ble_eq_true rfl) ?_
  intro X C E
  unfold F_RM_beginAnew at h
  refine g_aload_n C dRM_beginAnew_0 rfl ?_
  have t_1 := rf_ok hT h0 (show sp 8 3 = some 0 from rfl)
  refine x_getr C dRM_beginAnew_1 fl_RM_29 h0 hT (show sp 8 3 = some 0 from rfl) ?_
  obtain ⟨I1, e_4, h⟩ := bd1_some h
  refine x_callVv (av := fun ad => []) C dRM_beginAnew_4 mfDr_beginEmpty mvDr_beginEmpty ln_RM_354 t_1 (by decide) rfl (f_Dr_beginEmpty hT t_1 e_4) rfl rfl (Nat.le_of_ble_eq_true rfl) ⟨Nat.le_of_ble_eq_true rfl, Nat.le_of_ble_eq_true rfl⟩ ⟨rfl, rfl⟩ ⟨Nat.zero_le _, Nat.zero_le _⟩ ?_
  refine g_aload_n C dRM_beginAnew_7 rfl ?_
  have t_8 := rf_ok hT h0 (show sp 8 4 = some 18 from rfl)
  refine x_getr C dRM_beginAnew_8 fl_RM_33 h0 hT (show sp 8 4 = some 18 from rfl) ?_
  refine g_iconst (v := Int32.ofInt (0)) C dRM_beginAnew_11 (by decide) ?_
  refine g_iconst (v := Int32.ofInt (1)) C dRM_beginAnew_12 (by decide) ?_
  refine x_iastc (m := 3) (c := 0) C dRM_beginAnew_13 t_8 (by decide) rfl rfl rfl (by decide) h (fun I2 h => ?_)
  refine g_aload_n C dRM_beginAnew_14 rfl ?_
  have t_15 := rf_ok hT h0 (show sp 8 4 = some 18 from rfl)
  refine x_getr C dRM_beginAnew_15 fl_RM_33 h0 hT (show sp 8 4 = some 18 from rfl) ?_
  refine g_iconst (v := Int32.ofInt (1)) C dRM_beginAnew_18 (by decide) ?_
  refine g_iconst (v := Int32.ofInt (1)) C dRM_beginAnew_19 (by decide) ?_
  refine x_iastc (m := 3) (c := 1) C dRM_beginAnew_20 t_15 (by decide) rfl rfl rfl (by decide) h (fun I3 h => ?_)
  refine g_aload_n C dRM_beginAnew_21 rfl ?_
  have t_22 := rf_ok hT h0 (show sp 8 4 = some 18 from rfl)
  refine x_getr C dRM_beginAnew_22 fl_RM_33 h0 hT (show sp 8 4 = some 18 from rfl) ?_
  refine g_iconst (v := Int32.ofInt (2)) C dRM_beginAnew_25 (by decide) ?_
  refine g_iconst (v := Int32.ofInt (0)) C dRM_beginAnew_26 (by decide) ?_
  refine x_iastc (m := 3) (c := 2) C dRM_beginAnew_27 t_22 (by decide) rfl rfl rfl (by decide) h (fun I4 h => ?_)
  refine g_iconst (v := Int32.ofInt (0)) C dRM_beginAnew_28 (by decide) ?_
  refine g_istore_n (i := 1) C dRM_beginAnew_29 rfl (by decide) ?_
  have lp_30 : ∀ (x1_30 : Int32) (I_30 : WI), lp (B_RM_beginAnew_30 N O a0 J0) (fun _ _ => none) N x1_30 I_30 = some I' → GG X 2 P K I_30 O J0 0 0 30 [(0, .ref a0), (1, .int x1_30)] [] := by
    refine x_lp (fun (rec_30 : Int32 → WI → Option (WI)) => ∀ (x1_30 : Int32) (I_30 : WI), rec_30 x1_30 I_30 = some I' → GG X 2 P K I_30 O J0 0 0 30 [(0, .ref a0), (1, .int x1_30)] []) (fun _ _ h => by cases h) (fun rec_30 hr_30 x1_30 I_30 h => ?_) N
    unfold B_RM_beginAnew_30 at h
    refine g_iload_n C dRM_beginAnew_30 rfl ?_
    refine g_bipush (v := Int32.ofInt (12)) C dRM_beginAnew_31 (by decide) ?_
    refine gt_icmp_ge 75 C dRM_beginAnew_33 (by decide) rfl (ofI (by decide)) (fun c_33 => ?_) (fun c_33 => ?_)
    · have h := x_pos c_33 h
      refine g_aload_n C dRM_beginAnew_75 rfl ?_
      have t_76 := rf_ok hT h0 (show sp 8 6 = some 1 from rfl)
      refine x_getr C dRM_beginAnew_76 fl_RM_43 h0 hT (show sp 8 6 = some 1 from rfl) ?_
      obtain ⟨I5, e_79, h⟩ := bd1_some h
      refine x_callVv (av := fun ad => []) C dRM_beginAnew_79 mfGu_makeStale mvGu_makeStale ln_RM_215 t_76 (by decide) rfl (f_Gu_makeStale hT t_76 e_79) rfl rfl (Nat.le_of_ble_eq_true rfl) ⟨Nat.le_of_ble_eq_true rfl, Nat.le_of_ble_eq_true rfl⟩ ⟨rfl, rfl⟩ ⟨Nat.zero_le _, Nat.zero_le _⟩ ?_
      refine g_aload_n C dRM_beginAnew_82 rfl ?_
      have t_83 := rf_ok hT h0 (show sp 8 7 = some 6 from rfl)
      refine x_getr C dRM_beginAnew_83 fl_RM_50 h0 hT (show sp 8 7 = some 6 from rfl) ?_
      obtain ⟨z_86, I6, e_86, h⟩ := bd2_some h
      refine x_callVi (av := fun ad => []) C dRM_beginAnew_86 mfSi_drop mvSi_drop ln_RM_232 t_83 (by decide) rfl (f_Si_drop hT t_83 e_86) rfl rfl (Nat.le_of_ble_eq_true rfl) ⟨Nat.le_of_ble_eq_true rfl, Nat.le_of_ble_eq_true rfl⟩ ⟨rfl, rfl⟩ ⟨Nat.zero_le _, Nat.zero_le _⟩ ?_
      refine g_pop C dRM_beginAnew_89 rfl ?_
      refine g_aload_n C dRM_beginAnew_90 rfl ?_
      have t_91 := rf_ok hT h0 (show sp 8 9 = some 7 from rfl)
      refine x_getr C dRM_beginAnew_91 fl_RM_64 h0 hT (show sp 8 9 = some 7 from rfl) ?_
      obtain ⟨z_94, I7, e_94, h⟩ := bd2_some h
      refine x_callVi (av := fun ad => []) C dRM_beginAnew_94 mfTr_drop mvTr_drop ln_RM_297 t_91 (by decide) rfl (f_Tr_drop hT t_91 e_94) rfl rfl (Nat.le_of_ble_eq_true rfl) ⟨Nat.le_of_ble_eq_true rfl, Nat.le_of_ble_eq_true rfl⟩ ⟨rfl, rfl⟩ ⟨Nat.zero_le _, Nat.zero_le _⟩ ?_
      refine g_pop C dRM_beginAnew_97 rfl ?_
      refine g_aload_n C dRM_beginAnew_98 rfl ?_
      have t_99 := rf_ok hT h0 (show sp 8 8 = some 4 from rfl)
      refine x_getr C dRM_beginAnew_99 fl_RM_57 h0 hT (show sp 8 8 = some 4 from rfl) ?_
      obtain ⟨I8, e_102, h⟩ := bd1_some h
      refine x_callVv (av := fun ad => []) C dRM_beginAnew_102 mfPl_drop mvPl_drop ln_RM_357 t_99 (by decide) rfl (f_Pl_drop hT t_99 e_102) rfl rfl (Nat.le_of_ble_eq_true rfl) ⟨Nat.le_of_ble_eq_true rfl, Nat.le_of_ble_eq_true rfl⟩ ⟨rfl, rfl⟩ ⟨Nat.zero_le _, Nat.zero_le _⟩ ?_
      refine g_aload_n C dRM_beginAnew_105 rfl ?_
      refine g_iconst (v := Int32.ofInt (0)) C dRM_beginAnew_106 (by decide) ?_
      refine x_puti C dRM_beginAnew_107 fl_RM_309 h0 rfl (Or.inl rfl) h (fun I9 h => ?_)
      exact x_vret1 C E dRM_beginAnew_110 ⟨Nat.zero_le _, Nat.zero_le _⟩ h
    · have h := x_neg (Int.not_le.mpr c_33) h
      refine g_aload_n C dRM_beginAnew_36 rfl ?_
      have t_37 := rf_ok hT h0 (show sp 8 5 = some 19 from rfl)
      refine x_getr C dRM_beginAnew_37 fl_RM_37 h0 hT (show sp 8 5 = some 19 from rfl) ?_
      refine g_iload_n C dRM_beginAnew_40 rfl ?_
      refine g_iconst (v := Int32.ofInt (3)) C dRM_beginAnew_41 (by decide) ?_
      refine g_imul C dRM_beginAnew_42 ?_
      refine g_iconst (v := Int32.ofInt (0)) C dRM_beginAnew_43 (by decide) ?_
      refine g_iadd C dRM_beginAnew_44 ?_
      refine g_iconst (v := Int32.ofInt (1)) C dRM_beginAnew_45 (by decide) ?_
      obtain ⟨g_46, h⟩ := x_g h
      refine x_iast (m := 36) C dRM_beginAnew_46 t_37 (by decide) rfl rfl g_46 h (fun I10 h => ?_)
      refine g_aload_n C dRM_beginAnew_47 rfl ?_
      have t_48 := rf_ok hT h0 (show sp 8 5 = some 19 from rfl)
      refine x_getr C dRM_beginAnew_48 fl_RM_37 h0 hT (show sp 8 5 = some 19 from rfl) ?_
      refine g_iload_n C dRM_beginAnew_51 rfl ?_
      refine g_iconst (v := Int32.ofInt (3)) C dRM_beginAnew_52 (by decide) ?_
      refine g_imul C dRM_beginAnew_53 ?_
      refine g_iconst (v := Int32.ofInt (1)) C dRM_beginAnew_54 (by decide) ?_
      refine g_iadd C dRM_beginAnew_55 ?_
      refine g_iconst (v := Int32.ofInt (1)) C dRM_beginAnew_56 (by decide) ?_
      obtain ⟨g_57, h⟩ := x_g h
      refine x_iast (m := 36) C dRM_beginAnew_57 t_48 (by decide) rfl rfl g_57 h (fun I11 h => ?_)
      refine g_aload_n C dRM_beginAnew_58 rfl ?_
      have t_59 := rf_ok hT h0 (show sp 8 5 = some 19 from rfl)
      refine x_getr C dRM_beginAnew_59 fl_RM_37 h0 hT (show sp 8 5 = some 19 from rfl) ?_
      refine g_iload_n C dRM_beginAnew_62 rfl ?_
      refine g_iconst (v := Int32.ofInt (3)) C dRM_beginAnew_63 (by decide) ?_
      refine g_imul C dRM_beginAnew_64 ?_
      refine g_iconst (v := Int32.ofInt (2)) C dRM_beginAnew_65 (by decide) ?_
      refine g_iadd C dRM_beginAnew_66 ?_
      refine g_iconst (v := Int32.ofInt (0)) C dRM_beginAnew_67 (by decide) ?_
      obtain ⟨g_68, h⟩ := x_g h
      refine x_iast (m := 36) C dRM_beginAnew_68 t_59 (by decide) rfl rfl g_68 h (fun I12 h => ?_)
      refine x_iinc C dRM_beginAnew_69 rfl (by decide) h (fun v1_69 h => ?_)
      refine g_goto 30 C dRM_beginAnew_72 (by decide) ?_
      exact g_sub (hr_30 (v1_69) I12 h) ⟨rfl, rfl, trivial⟩
  exact g_sub (lp_30 ((Int32.ofInt (0))) I4 h) ⟨rfl, rfl, trivial⟩
def F_RM_feed (N : Nat) (O : WO) (I0 : WI) (J0 : WJ) (a0 : Nat) (x1 : Int32) (x2 : Int32) (x3 : Int32) (x4 : Int32) (x5 : Int32) : Option (Int32 × WI) := bd1 (F_Rd_hasRoomFor N O I0 J0 (rf O a0 0) (Int32.ofInt (20))) fun z_6 => if (z_6).toInt = 0 then (some ((Int32.ofInt (-1)), I0)) else (bd1 (F_Rd_append N O I0 J0 (rf O a0 0) x1) fun I2 => bd1 (F_Rd_append N O I2 J0 (rf O a0 0) x2) fun I3 => bd1 (F_Rd_append N O I3 J0 (rf O a0 0) x3) fun I4 => bd1 (F_Rd_append N O I4 J0 (rf O a0 0) x4) fun I5 => bd1 (F_Rd_append N O I5 J0 (rf O a0 0) x5) fun I6 => some ((I6 (rf O a0 0) 1), I6))
set_option maxHeartbeats 4000000 in
set_option maxRecDepth 100000 in
theorem f_RM_feed {P : List Nat} {K : Nat → Nat} {N : Nat} {O : WO} {I0 : WI} {J0 : WJ} (hT : TR P K O) {a0 : Nat} (h0 : a0 ∈ P ∧ K a0 = 8) {x1 : Int32} {x2 : Int32} {x3 : Int32} {x4 : Int32} {x5 : Int32} {r : Int32} {I' : WI} (h : F_RM_feed N O I0 J0 a0 x1 x2 x3 x4 x5 = some (r, I')) : Con yRM_feed bRM_feed 6 (some .int) ({ frames := 1, cells := 0, slots := 0, locals := 22 } : Room) P K I0 O J0 [.ref a0, .int x1, .int x2, .int x3, .int x4, .int x5] (EPo (some (.int r)) I' J0 P K O) := by
  refine Con.ofG mfRM_feed (Nat.le_of_ble_eq_true rfl) ?_
  intro X C E
  unfold F_RM_feed at h
  refine g_aload_n C dRM_feed_0 rfl ?_
  have t_1 := rf_ok hT h0 (show sp 8 0 = some 5 from rfl)
  refine x_getr C dRM_feed_1 fl_RM_12 h0 hT (show sp 8 0 = some 5 from rfl) ?_
  refine g_bipush (v := Int32.ofInt (20)) C dRM_feed_4 (by decide) ?_
  obtain ⟨z_6, e_6, h⟩ := bd1_some h
  refine x_callVi (av := fun ad => [.int (Int32.ofInt (20))]) C dRM_feed_6 mfRd_hasRoomFor mvRd_hasRoomFor ln_RM_85 t_1 (by decide) rfl (f_Rd_hasRoomFor hT t_1 e_6) rfl rfl (Nat.le_of_ble_eq_true rfl) ⟨Nat.le_of_ble_eq_true rfl, Nat.le_of_ble_eq_true rfl⟩ ⟨rfl, rfl⟩ ⟨Nat.zero_le _, Nat.zero_le _⟩ ?_
  refine gt_if_ne 14 C dRM_feed_9 (by decide) rfl (fun c_9 => ?_) (fun c_9 => ?_)
  · have h := x_neg c_9 h
    refine g_aload_n C dRM_feed_14 rfl ?_
    have t_15 := rf_ok hT h0 (show sp 8 0 = some 5 from rfl)
    refine x_getr C dRM_feed_15 fl_RM_12 h0 hT (show sp 8 0 = some 5 from rfl) ?_
    refine g_iload_n C dRM_feed_18 rfl ?_
    obtain ⟨I2, e_19, h⟩ := bd1_some h
    refine x_callVv (av := fun ad => [.int x1]) C dRM_feed_19 mfRd_append mvRd_append ln_RM_89 t_15 (by decide) rfl (f_Rd_append hT t_15 e_19) rfl rfl (Nat.le_of_ble_eq_true rfl) ⟨Nat.le_of_ble_eq_true rfl, Nat.le_of_ble_eq_true rfl⟩ ⟨rfl, rfl⟩ ⟨Nat.zero_le _, Nat.zero_le _⟩ ?_
    refine g_aload_n C dRM_feed_22 rfl ?_
    have t_23 := rf_ok hT h0 (show sp 8 0 = some 5 from rfl)
    refine x_getr C dRM_feed_23 fl_RM_12 h0 hT (show sp 8 0 = some 5 from rfl) ?_
    refine g_iload_n C dRM_feed_26 rfl ?_
    obtain ⟨I3, e_27, h⟩ := bd1_some h
    refine x_callVv (av := fun ad => [.int x2]) C dRM_feed_27 mfRd_append mvRd_append ln_RM_89 t_23 (by decide) rfl (f_Rd_append hT t_23 e_27) rfl rfl (Nat.le_of_ble_eq_true rfl) ⟨Nat.le_of_ble_eq_true rfl, Nat.le_of_ble_eq_true rfl⟩ ⟨rfl, rfl⟩ ⟨Nat.zero_le _, Nat.zero_le _⟩ ?_
    refine g_aload_n C dRM_feed_30 rfl ?_
    have t_31 := rf_ok hT h0 (show sp 8 0 = some 5 from rfl)
    refine x_getr C dRM_feed_31 fl_RM_12 h0 hT (show sp 8 0 = some 5 from rfl) ?_
    refine g_iload_n C dRM_feed_34 rfl ?_
    obtain ⟨I4, e_35, h⟩ := bd1_some h
    refine x_callVv (av := fun ad => [.int x3]) C dRM_feed_35 mfRd_append mvRd_append ln_RM_89 t_31 (by decide) rfl (f_Rd_append hT t_31 e_35) rfl rfl (Nat.le_of_ble_eq_true rfl) ⟨Nat.le_of_ble_eq_true rfl, Nat.le_of_ble_eq_true rfl⟩ ⟨rfl, rfl⟩ ⟨Nat.zero_le _, Nat.zero_le _⟩ ?_
    refine g_aload_n C dRM_feed_38 rfl ?_
    have t_39 := rf_ok hT h0 (show sp 8 0 = some 5 from rfl)
    refine x_getr C dRM_feed_39 fl_RM_12 h0 hT (show sp 8 0 = some 5 from rfl) ?_
    refine g_iload C dRM_feed_42 rfl ?_
    obtain ⟨I5, e_44, h⟩ := bd1_some h
    refine x_callVv (av := fun ad => [.int x4]) C dRM_feed_44 mfRd_append mvRd_append ln_RM_89 t_39 (by decide) rfl (f_Rd_append hT t_39 e_44) rfl rfl (Nat.le_of_ble_eq_true rfl) ⟨Nat.le_of_ble_eq_true rfl, Nat.le_of_ble_eq_true rfl⟩ ⟨rfl, rfl⟩ ⟨Nat.zero_le _, Nat.zero_le _⟩ ?_
    refine g_aload_n C dRM_feed_47 rfl ?_
    have t_48 := rf_ok hT h0 (show sp 8 0 = some 5 from rfl)
    refine x_getr C dRM_feed_48 fl_RM_12 h0 hT (show sp 8 0 = some 5 from rfl) ?_
    refine g_iload C dRM_feed_51 rfl ?_
    obtain ⟨I6, e_53, h⟩ := bd1_some h
    refine x_callVv (av := fun ad => [.int x5]) C dRM_feed_53 mfRd_append mvRd_append ln_RM_89 t_48 (by decide) rfl (f_Rd_append hT t_48 e_53) rfl rfl (Nat.le_of_ble_eq_true rfl) ⟨Nat.le_of_ble_eq_true rfl, Nat.le_of_ble_eq_true rfl⟩ ⟨rfl, rfl⟩ ⟨Nat.zero_le _, Nat.zero_le _⟩ ?_
    refine g_aload_n C dRM_feed_56 rfl ?_
    have t_57 := rf_ok hT h0 (show sp 8 0 = some 5 from rfl)
    refine x_getr C dRM_feed_57 fl_RM_12 h0 hT (show sp 8 0 = some 5 from rfl) ?_
    refine g_geti C dRM_feed_60 fl_RM_93 t_57 ?_
    exact x_iret1 C E dRM_feed_63 ⟨Nat.zero_le _, Nat.zero_le _⟩ h
  · have h := x_pos c_9 h
    refine g_iconst (v := Int32.ofInt (-1)) C dRM_feed_12 (by decide) ?_
    exact x_iret1 C E dRM_feed_13 ⟨Nat.zero_le _, Nat.zero_le _⟩ h
def F_RM_fault (N : Nat) (O : WO) (I0 : WI) (J0 : WJ) (a0 : Nat) : Option (Int32) := some (I0 a0 15)
set_option maxHeartbeats 4000000 in
set_option maxRecDepth 100000 in
theorem f_RM_fault {P : List Nat} {K : Nat → Nat} {N : Nat} {O : WO} {I0 : WI} {J0 : WJ} (hT : TR P K O) {a0 : Nat} (h0 : a0 ∈ P ∧ K a0 = 8) {r : Int32} (h : F_RM_fault N O I0 J0 a0 = some r) : Con yRM_fault bRM_fault 1 (some .int) ({ frames := 0, cells := 0, slots := 0, locals := 0 } : Room) P K I0 O J0 [.ref a0] (EPo (some (.int r)) I0 J0 P K O) := by
  refine Con.ofG mfRM_fault (Nat.le_of_ble_eq_true rfl) ?_
  intro X C E
  unfold F_RM_fault at h
  refine g_aload_n C dRM_fault_0 rfl ?_
  refine g_geti C dRM_fault_1 fl_RM_107 h0 ?_
  exact x_iret0 C E dRM_fault_4 ⟨Nat.zero_le _, Nat.zero_le _⟩ h
def F_RM_where (N : Nat) (O : WO) (I0 : WI) (J0 : WJ) (a0 : Nat) : Option (Int32) := if ((I0 a0 14)).toInt = 4 then (some (I0 a0 16)) else (some (Int32.ofInt (-1)))
set_option maxHeartbeats 4000000 in
set_option maxRecDepth 100000 in
theorem f_RM_where {P : List Nat} {K : Nat → Nat} {N : Nat} {O : WO} {I0 : WI} {J0 : WJ} (hT : TR P K O) {a0 : Nat} (h0 : a0 ∈ P ∧ K a0 = 8) {r : Int32} (h : F_RM_where N O I0 J0 a0 = some r) : Con yRM_where bRM_where 1 (some .int) ({ frames := 0, cells := 0, slots := 0, locals := 0 } : Room) P K I0 O J0 [.ref a0] (EPo (some (.int r)) I0 J0 P K O) := by
  refine Con.ofG mfRM_where (Nat.le_of_ble_eq_true rfl) ?_
  intro X C E
  unfold F_RM_where at h
  refine g_aload_n C dRM_where_0 rfl ?_
  refine g_geti C dRM_where_1 fl_RM_81 h0 ?_
  refine g_iconst (v := Int32.ofInt (4)) C dRM_where_4 (by decide) ?_
  refine gt_icmp_ne 15 C dRM_where_5 (by decide) rfl (ofI (by decide)) (fun c_5 => ?_) (fun c_5 => ?_)
  · have h := x_neg c_5 h
    refine g_iconst (v := Int32.ofInt (-1)) C dRM_where_15 (by decide) ?_
    exact x_iret0 C E dRM_where_16 ⟨Nat.zero_le _, Nat.zero_le _⟩ h
  · have h := x_pos c_5 h
    refine g_aload_n C dRM_where_8 rfl ?_
    refine g_geti C dRM_where_9 fl_RM_113 h0 ?_
    refine g_goto 16 C dRM_where_12 (by decide) ?_
    exact x_iret0 C E dRM_where_16 ⟨Nat.zero_le _, Nat.zero_le _⟩ h
def F_RM_set (N : Nat) (O : WO) (I0 : WI) (J0 : WJ) (a0 : Nat) (x1 : Int32) (x2 : Int32) (x3 : Int32) : Option (Int32 × WI) := bd1 (F_RM_isOre N O I0 J0 a0 x3) fun z_2 => if (z_2).toInt = 0 then (bd2 (F_RM_deny N O I0 J0 a0 (Int32.ofInt (1))) fun z_10 I9 => if (z_10).toInt = 0 ∨ (z_10).toInt = 1 then (some (z_10, I9)) else none) else (bd1 (F_RM_isRate N O I0 J0 x1) fun z_15 => jn (bd2 (F_RM_deny N O I0 J0 a0 (Int32.ofInt (2))) fun z_30 I3 => if (z_30).toInt = 0 ∨ (z_30).toInt = 1 then (some (z_30, I3)) else none) fun k_28 => if (z_15).toInt = 0 then (k_28 ) else (bd1 (F_RM_isWater N O I0 J0 x2) fun z_22 => if (z_22).toInt = 0 then (k_28 ) else (lb (up2 I0 (rf O a0 4) 0 x1) fun I5 => lb (up2 I5 (rf O a0 4) 1 x2) fun I6 => lb (up2 I6 (rf O a0 4) 2 x3) fun I7 => bd2 (F_RM_allow N O I7 J0 a0) fun z_56 I8 => if (z_56).toInt = 0 ∨ (z_56).toInt = 1 then (some (z_56, I8)) else none)))
set_option maxHeartbeats 4000000 in
set_option maxRecDepth 100000 in
theorem f_RM_set {P : List Nat} {K : Nat → Nat} {N : Nat} {O : WO} {I0 : WI} {J0 : WJ} (hT : TR P K O) {a0 : Nat} (h0 : a0 ∈ P ∧ K a0 = 8) {x1 : Int32} {x2 : Int32} {x3 : Int32} {r : Int32} {I' : WI} (h : F_RM_set N O I0 J0 a0 x1 x2 x3 = some (r, I')) : Con yRM_set bRM_set 4 (some .boolean) ({ frames := 1, cells := 0, slots := 0, locals := 21 } : Room) P K I0 O J0 [.ref a0, .int x1, .int x2, .int x3] (EPo (some (.int r)) I' J0 P K O) := by
  refine Con.ofG mfRM_set (Nat.le_of_ble_eq_true rfl) ?_
  intro X C E
  unfold F_RM_set at h
  refine g_aload_n C dRM_set_0 rfl ?_
  refine g_iload_n C dRM_set_1 rfl ?_
  obtain ⟨z_2, e_2, h⟩ := bd1_some h
  refine x_callVi (av := fun ad => [.int x3]) C dRM_set_2 mfRM_isOre mvRM_isOre ln_RM_125 h0 (by decide) rfl (f_RM_isOre hT h0 e_2) rfl rfl (Nat.le_of_ble_eq_true rfl) ⟨Nat.le_of_ble_eq_true rfl, Nat.le_of_ble_eq_true rfl⟩ ⟨rfl, rfl⟩ ⟨Nat.zero_le _, Nat.zero_le _⟩ ?_
  refine gt_if_ne 14 C dRM_set_5 (by decide) rfl (fun c_5 => ?_) (fun c_5 => ?_)
  · have h := x_neg c_5 h
    refine g_iload_n C dRM_set_14 rfl ?_
    obtain ⟨z_15, e_15, h⟩ := bd1_some h
    refine x_callSi (av := fun ad => [.int x1]) C dRM_set_15 mfRM_isRate msRM_isRate ln_RM_131 (f_RM_isRate hT  e_15) rfl rfl (Nat.le_of_ble_eq_true rfl) ⟨Nat.le_of_ble_eq_true rfl, Nat.le_of_ble_eq_true rfl⟩ ⟨rfl, rfl⟩ ⟨Nat.zero_le _, Nat.zero_le _⟩ ?_
    refine x_jn h (fun (k_28 : Option (Int32 × WI)) => k_28  = some (r, I') → GG X 4 P K I0 O J0 0 0 28 [(0, .ref a0), (1, .int x1), (2, .int x2), (3, .int x3)] []) (fun  h => ?_) (fun k_28 hk_28 h => ?_)
    · skip
      refine g_aload_n C dRM_set_28 rfl ?_
      refine g_iconst (v := Int32.ofInt (2)) C dRM_set_29 (by decide) ?_
      obtain ⟨z_30, I3, e_30, h⟩ := bd2_some h
      refine x_callVi (av := fun ad => [.int (Int32.ofInt (2))]) C dRM_set_30 mfRM_deny mvRM_deny ln_RM_128 h0 (by decide) rfl (f_RM_deny hT h0 e_30) rfl rfl (Nat.le_of_ble_eq_true rfl) ⟨Nat.le_of_ble_eq_true rfl, Nat.le_of_ble_eq_true rfl⟩ ⟨rfl, rfl⟩ ⟨Nat.zero_le _, Nat.zero_le _⟩ ?_
      obtain ⟨g_33, h⟩ := x_g h
      exact x_zret1 C E dRM_set_33 (x_01 g_33) ⟨Nat.zero_le _, Nat.zero_le _⟩ h
    refine gt_if_eq 28 C dRM_set_18 (by decide) rfl (fun c_18 => ?_) (fun c_18 => ?_)
    · have h := x_pos c_18 h
      exact g_sub (hk_28  h) ⟨rfl, rfl, rfl, rfl, trivial⟩
    · have h := x_neg c_18 h
      refine g_iload_n C dRM_set_21 rfl ?_
      obtain ⟨z_22, e_22, h⟩ := bd1_some h
      refine x_callSi (av := fun ad => [.int x2]) C dRM_set_22 mfRM_isWater msRM_isWater ln_RM_134 (f_RM_isWater hT  e_22) rfl rfl (Nat.le_of_ble_eq_true rfl) ⟨Nat.le_of_ble_eq_true rfl, Nat.le_of_ble_eq_true rfl⟩ ⟨rfl, rfl⟩ ⟨Nat.zero_le _, Nat.zero_le _⟩ ?_
      refine gt_if_ne 34 C dRM_set_25 (by decide) rfl (fun c_25 => ?_) (fun c_25 => ?_)
      · have h := x_neg c_25 h
        refine g_aload_n C dRM_set_34 rfl ?_
        have t_35 := rf_ok hT h0 (show sp 8 4 = some 18 from rfl)
        refine x_getr C dRM_set_35 fl_RM_33 h0 hT (show sp 8 4 = some 18 from rfl) ?_
        refine g_iconst (v := Int32.ofInt (0)) C dRM_set_38 (by decide) ?_
        refine g_iload_n C dRM_set_39 rfl ?_
        refine x_iastc (m := 3) (c := 0) C dRM_set_40 t_35 (by decide) rfl rfl rfl (by decide) h (fun I5 h => ?_)
        refine g_aload_n C dRM_set_41 rfl ?_
        have t_42 := rf_ok hT h0 (show sp 8 4 = some 18 from rfl)
        refine x_getr C dRM_set_42 fl_RM_33 h0 hT (show sp 8 4 = some 18 from rfl) ?_
        refine g_iconst (v := Int32.ofInt (1)) C dRM_set_45 (by decide) ?_
        refine g_iload_n C dRM_set_46 rfl ?_
        refine x_iastc (m := 3) (c := 1) C dRM_set_47 t_42 (by decide) rfl rfl rfl (by decide) h (fun I6 h => ?_)
        refine g_aload_n C dRM_set_48 rfl ?_
        have t_49 := rf_ok hT h0 (show sp 8 4 = some 18 from rfl)
        refine x_getr C dRM_set_49 fl_RM_33 h0 hT (show sp 8 4 = some 18 from rfl) ?_
        refine g_iconst (v := Int32.ofInt (2)) C dRM_set_52 (by decide) ?_
        refine g_iload_n C dRM_set_53 rfl ?_
        refine x_iastc (m := 3) (c := 2) C dRM_set_54 t_49 (by decide) rfl rfl rfl (by decide) h (fun I7 h => ?_)
        refine g_aload_n C dRM_set_55 rfl ?_
        obtain ⟨z_56, I8, e_56, h⟩ := bd2_some h
        refine x_callVi (av := fun ad => []) C dRM_set_56 mfRM_allow mvRM_allow ln_RM_137 h0 (by decide) rfl (f_RM_allow hT h0 e_56) rfl rfl (Nat.le_of_ble_eq_true rfl) ⟨Nat.le_of_ble_eq_true rfl, Nat.le_of_ble_eq_true rfl⟩ ⟨rfl, rfl⟩ ⟨Nat.zero_le _, Nat.zero_le _⟩ ?_
        obtain ⟨g_59, h⟩ := x_g h
        exact x_zret1 C E dRM_set_59 (x_01 g_59) ⟨Nat.zero_le _, Nat.zero_le _⟩ h
      · have h := x_pos c_25 h
        exact g_sub (hk_28  h) ⟨rfl, rfl, rfl, rfl, trivial⟩
  · have h := x_pos c_5 h
    refine g_aload_n C dRM_set_8 rfl ?_
    refine g_iconst (v := Int32.ofInt (1)) C dRM_set_9 (by decide) ?_
    obtain ⟨z_10, I9, e_10, h⟩ := bd2_some h
    refine x_callVi (av := fun ad => [.int (Int32.ofInt (1))]) C dRM_set_10 mfRM_deny mvRM_deny ln_RM_128 h0 (by decide) rfl (f_RM_deny hT h0 e_10) rfl rfl (Nat.le_of_ble_eq_true rfl) ⟨Nat.le_of_ble_eq_true rfl, Nat.le_of_ble_eq_true rfl⟩ ⟨rfl, rfl⟩ ⟨Nat.zero_le _, Nat.zero_le _⟩ ?_
    obtain ⟨g_13, h⟩ := x_g h
    exact x_zret1 C E dRM_set_13 (x_01 g_13) ⟨Nat.zero_le _, Nat.zero_le _⟩ h
def F_RM_mend (N : Nat) (O : WO) (I0 : WI) (J0 : WJ) (a0 : Nat) (x1 : Int32) (x2 : Int32) : Option (Int32 × WI) := bd1 (F_RM_noMill N O I0 J0 a0) fun z_1 => if (z_1).toInt = 0 then (jn (bd2 (F_RM_deny N O I0 J0 a0 (Int32.ofInt (2))) fun z_24 I2 => if (z_24).toInt = 0 ∨ (z_24).toInt = 1 then (some (z_24, I2)) else none) fun k_22 => if (x1).toInt < 0 then (k_22 ) else (if (x1).toInt ≤ 3 then (lb (up2 I0 (rf O a0 3) 4 x1) fun I3 => jn (fun (IJ_48 : WI) => bd2 (F_RM_allow N O IJ_48 J0 a0) fun z_49 I4 => if (z_49).toInt = 0 ∨ (z_49).toInt = 1 then (some (z_49, I4)) else none) fun k_48 => if (x2).toInt = 0 then (k_48  I3) else (lb (up2 I3 (rf O a0 3) 3 (Int32.ofInt (0))) fun I5 => k_48  I5)) else (k_22 ))) else (bd2 (F_RM_deny N O I0 J0 a0 (Int32.ofInt (1))) fun z_9 I6 => if (z_9).toInt = 0 ∨ (z_9).toInt = 1 then (some (z_9, I6)) else none)
set_option maxHeartbeats 4000000 in
set_option maxRecDepth 100000 in
theorem f_RM_mend {P : List Nat} {K : Nat → Nat} {N : Nat} {O : WO} {I0 : WI} {J0 : WJ} (hT : TR P K O) {a0 : Nat} (h0 : a0 ∈ P ∧ K a0 = 8) {x1 : Int32} {x2 : Int32} {r : Int32} {I' : WI} (h : F_RM_mend N O I0 J0 a0 x1 x2 = some (r, I')) : Con yRM_mend bRM_mend 3 (some .boolean) ({ frames := 1, cells := 0, slots := 0, locals := 21 } : Room) P K I0 O J0 [.ref a0, .int x1, .int x2] (EPo (some (.int r)) I' J0 P K O) := by
  refine Con.ofG mfRM_mend (Nat.le_of_ble_eq_true rfl) ?_
  intro X C E
  unfold F_RM_mend at h
  refine g_aload_n C dRM_mend_0 rfl ?_
  obtain ⟨z_1, e_1, h⟩ := bd1_some h
  refine x_callVi (av := fun ad => []) C dRM_mend_1 mfRM_noMill mvRM_noMill ln_RM_141 h0 (by decide) rfl (f_RM_noMill hT h0 e_1) rfl rfl (Nat.le_of_ble_eq_true rfl) ⟨Nat.le_of_ble_eq_true rfl, Nat.le_of_ble_eq_true rfl⟩ ⟨rfl, rfl⟩ ⟨Nat.zero_le _, Nat.zero_le _⟩ ?_
  refine gt_if_eq 13 C dRM_mend_4 (by decide) rfl (fun c_4 => ?_) (fun c_4 => ?_)
  · have h := x_pos c_4 h
    refine g_iload_n C dRM_mend_13 rfl ?_
    refine x_jn h (fun (k_22 : Option (Int32 × WI)) => k_22  = some (r, I') → GG X 3 P K I0 O J0 0 0 22 [(0, .ref a0), (1, .int x1), (2, .int x2)] []) (fun  h => ?_) (fun k_22 hk_22 h => ?_)
    · skip
      refine g_aload_n C dRM_mend_22 rfl ?_
      refine g_iconst (v := Int32.ofInt (2)) C dRM_mend_23 (by decide) ?_
      obtain ⟨z_24, I2, e_24, h⟩ := bd2_some h
      refine x_callVi (av := fun ad => [.int (Int32.ofInt (2))]) C dRM_mend_24 mfRM_deny mvRM_deny ln_RM_128 h0 (by decide) rfl (f_RM_deny hT h0 e_24) rfl rfl (Nat.le_of_ble_eq_true rfl) ⟨Nat.le_of_ble_eq_true rfl, Nat.le_of_ble_eq_true rfl⟩ ⟨rfl, rfl⟩ ⟨Nat.zero_le _, Nat.zero_le _⟩ ?_
      obtain ⟨g_27, h⟩ := x_g h
      exact x_zret1 C E dRM_mend_27 (x_01 g_27) ⟨Nat.zero_le _, Nat.zero_le _⟩ h
    refine gt_if_lt 22 C dRM_mend_14 (by decide) rfl (fun c_14 => ?_) (fun c_14 => ?_)
    · have h := x_pos c_14 h
      exact g_sub (hk_22  h) ⟨rfl, rfl, rfl, trivial⟩
    · have h := x_neg (Int.not_lt.mpr c_14) h
      refine g_iload_n C dRM_mend_17 rfl ?_
      refine g_iconst (v := Int32.ofInt (3)) C dRM_mend_18 (by decide) ?_
      refine gt_icmp_le 28 C dRM_mend_19 (by decide) rfl (ofI (by decide)) (fun c_19 => ?_) (fun c_19 => ?_)
      · have h := x_pos c_19 h
        refine g_aload_n C dRM_mend_28 rfl ?_
        have t_29 := rf_ok hT h0 (show sp 8 3 = some 0 from rfl)
        refine x_getr C dRM_mend_29 fl_RM_29 h0 hT (show sp 8 3 = some 0 from rfl) ?_
        refine g_iload_n C dRM_mend_32 rfl ?_
        refine x_puti C dRM_mend_33 fl_RM_144 t_29 rfl (Or.inl rfl) h (fun I3 h => ?_)
        refine g_iload_n C dRM_mend_36 rfl ?_
        refine x_jn h (fun (k_48 : WI → Option (Int32 × WI)) => ∀ (IJ_48 : WI), k_48 IJ_48 = some (r, I') → GG X 3 P K IJ_48 O J0 0 0 48 [(0, .ref a0), (1, .int x1), (2, .int x2)] []) (fun IJ_48 h => ?_) (fun k_48 hk_48 h => ?_)
        · skip
          refine g_aload_n C dRM_mend_48 rfl ?_
          obtain ⟨z_49, I4, e_49, h⟩ := bd2_some h
          refine x_callVi (av := fun ad => []) C dRM_mend_49 mfRM_allow mvRM_allow ln_RM_137 h0 (by decide) rfl (f_RM_allow hT h0 e_49) rfl rfl (Nat.le_of_ble_eq_true rfl) ⟨Nat.le_of_ble_eq_true rfl, Nat.le_of_ble_eq_true rfl⟩ ⟨rfl, rfl⟩ ⟨Nat.zero_le _, Nat.zero_le _⟩ ?_
          obtain ⟨g_52, h⟩ := x_g h
          exact x_zret1 C E dRM_mend_52 (x_01 g_52) ⟨Nat.zero_le _, Nat.zero_le _⟩ h
        refine gt_if_eq 48 C dRM_mend_37 (by decide) rfl (fun c_37 => ?_) (fun c_37 => ?_)
        · have h := x_pos c_37 h
          exact g_sub (hk_48  I3 h) ⟨rfl, rfl, rfl, trivial⟩
        · have h := x_neg c_37 h
          refine g_aload_n C dRM_mend_40 rfl ?_
          have t_41 := rf_ok hT h0 (show sp 8 3 = some 0 from rfl)
          refine x_getr C dRM_mend_41 fl_RM_29 h0 hT (show sp 8 3 = some 0 from rfl) ?_
          refine g_iconst (v := Int32.ofInt (0)) C dRM_mend_44 (by decide) ?_
          refine x_puti C dRM_mend_45 fl_RM_147 t_41 rfl (Or.inl rfl) h (fun I5 h => ?_)
          exact g_sub (hk_48  I5 h) ⟨rfl, rfl, rfl, trivial⟩
      · have h := x_neg (Int.not_le.mpr c_19) h
        exact g_sub (hk_22  h) ⟨rfl, rfl, rfl, trivial⟩
  · have h := x_neg c_4 h
    refine g_aload_n C dRM_mend_7 rfl ?_
    refine g_iconst (v := Int32.ofInt (1)) C dRM_mend_8 (by decide) ?_
    obtain ⟨z_9, I6, e_9, h⟩ := bd2_some h
    refine x_callVi (av := fun ad => [.int (Int32.ofInt (1))]) C dRM_mend_9 mfRM_deny mvRM_deny ln_RM_128 h0 (by decide) rfl (f_RM_deny hT h0 e_9) rfl rfl (Nat.le_of_ble_eq_true rfl) ⟨Nat.le_of_ble_eq_true rfl, Nat.le_of_ble_eq_true rfl⟩ ⟨rfl, rfl⟩ ⟨Nat.zero_le _, Nat.zero_le _⟩ ?_
    obtain ⟨g_12, h⟩ := x_g h
    exact x_zret1 C E dRM_mend_12 (x_01 g_12) ⟨Nat.zero_le _, Nat.zero_le _⟩ h
def B_RM_go_55 (N : Nat) (O : WO) (a0 : Nat) (x1 : Int32) (J0 : WJ) (rec_55 : Int32 → Int32 → WI → Option (Int32 × WI)) (x2_55 : Int32) (x3_55 : Int32) (I_55 : WI) : Option (Int32 × WI) := if (x1).toInt ≤ (x3_55).toInt then (bd2 (F_RM_accept N O I_55 J0 a0 x2_55) fun z_115 I3 => some (z_115, I3)) else (lb ((I_55 (rf O a0 3) 6)) fun v4_67 => bd1 (F_Dr_runHour N O I_55 J0 (rf O a0 3) (rf O a0 1) (rf O a0 4) 18 (Int32.ofInt (0))) fun I4 => jn (fun (y2_107 : Int32) (IJ_107 : WI) => lb (x3_55 + Int32.ofInt (1)) fun v3_107 => rec_55 (y2_107) (v3_107) IJ_107) fun k_107 => if ((I4 (rf O a0 3) 5)).toInt = 0 then (lb (x2_55 + Int32.ofInt (1)) fun v2_104 => k_107 (v2_104) I4) else (bd1 (F_RM_noteStood N O I4 J0 a0 v4_67) fun I5 => k_107 (x2_55) I5))
def F_RM_go (N : Nat) (O : WO) (I0 : WI) (J0 : WJ) (a0 : Nat) (x1 : Int32) : Option (Int32 × WI) := bd1 (F_RM_noMill N O I0 J0 a0) fun z_1 => if (z_1).toInt = 0 then (jn (bd2 (F_RM_refuse N O I0 J0 a0 (Int32.ofInt (2))) fun z_26 I2 => some (z_26, I2)) fun k_24 => if (x1).toInt < 1 then (k_24 ) else (if (x1).toInt ≤ 24 then (if (((I0 (rf O a0 3) 6) + x1)).toInt ≤ 240 then (lp (B_RM_go_55 N O a0 x1 J0) (fun _ _ _ => none) N ((Int32.ofInt (0))) ((Int32.ofInt (0))) I0) else (bd2 (F_RM_refuse N O I0 J0 a0 (Int32.ofInt (3))) fun z_47 I6 => some (z_47, I6))) else (k_24 ))) else (bd2 (F_RM_refuse N O I0 J0 a0 (Int32.ofInt (1))) fun z_9 I7 => some (z_9, I7))
set_option maxHeartbeats 4000000 in
set_option maxRecDepth 100000 in
theorem f_RM_go {P : List Nat} {K : Nat → Nat} {N : Nat} {O : WO} {I0 : WI} {J0 : WJ} (hT : TR P K O) {a0 : Nat} (h0 : a0 ∈ P ∧ K a0 = 8) {x1 : Int32} {r : Int32} {I' : WI} (h : F_RM_go N O I0 J0 a0 x1 = some (r, I')) : Con yRM_go bRM_go 5 (some .int) ({ frames := 4, cells := 0, slots := 0, locals := 87 } : Room) P K I0 O J0 [.ref a0, .int x1] (EPo (some (.int r)) I' J0 P K O) := by
  refine Con.ofG mfRM_go (Nat.le_of_ble_eq_true rfl) ?_
  intro X C E
  unfold F_RM_go at h
  refine g_aload_n C dRM_go_0 rfl ?_
  obtain ⟨z_1, e_1, h⟩ := bd1_some h
  refine x_callVi (av := fun ad => []) C dRM_go_1 mfRM_noMill mvRM_noMill ln_RM_141 h0 (by decide) rfl (f_RM_noMill hT h0 e_1) rfl rfl (Nat.le_of_ble_eq_true rfl) ⟨Nat.le_of_ble_eq_true rfl, Nat.le_of_ble_eq_true rfl⟩ ⟨rfl, rfl⟩ ⟨Nat.zero_le _, Nat.zero_le _⟩ ?_
  refine gt_if_eq 13 C dRM_go_4 (by decide) rfl (fun c_4 => ?_) (fun c_4 => ?_)
  · have h := x_pos c_4 h
    refine g_iload_n C dRM_go_13 rfl ?_
    refine g_iconst (v := Int32.ofInt (1)) C dRM_go_14 (by decide) ?_
    refine x_jn h (fun (k_24 : Option (Int32 × WI)) => k_24  = some (r, I') → GG X 5 P K I0 O J0 0 0 24 [(0, .ref a0), (1, .int x1)] []) (fun  h => ?_) (fun k_24 hk_24 h => ?_)
    · skip
      refine g_aload_n C dRM_go_24 rfl ?_
      refine g_iconst (v := Int32.ofInt (2)) C dRM_go_25 (by decide) ?_
      obtain ⟨z_26, I2, e_26, h⟩ := bd2_some h
      refine x_callVi (av := fun ad => [.int (Int32.ofInt (2))]) C dRM_go_26 mfRM_refuse mvRM_refuse ln_RM_96 h0 (by decide) rfl (f_RM_refuse hT h0 e_26) rfl rfl (Nat.le_of_ble_eq_true rfl) ⟨Nat.le_of_ble_eq_true rfl, Nat.le_of_ble_eq_true rfl⟩ ⟨rfl, rfl⟩ ⟨Nat.zero_le _, Nat.zero_le _⟩ ?_
      exact x_iret1 C E dRM_go_29 ⟨Nat.zero_le _, Nat.zero_le _⟩ h
    refine gt_icmp_lt 24 C dRM_go_15 (by decide) rfl (ofI (by decide)) (fun c_15 => ?_) (fun c_15 => ?_)
    · have h := x_pos c_15 h
      exact g_sub (hk_24  h) ⟨rfl, rfl, trivial⟩
    · have h := x_neg (Int.not_lt.mpr c_15) h
      refine g_iload_n C dRM_go_18 rfl ?_
      refine g_bipush (v := Int32.ofInt (24)) C dRM_go_19 (by decide) ?_
      refine gt_icmp_le 30 C dRM_go_21 (by decide) rfl (ofI (by decide)) (fun c_21 => ?_) (fun c_21 => ?_)
      · have h := x_pos c_21 h
        refine g_aload_n C dRM_go_30 rfl ?_
        have t_31 := rf_ok hT h0 (show sp 8 3 = some 0 from rfl)
        refine x_getr C dRM_go_31 fl_RM_29 h0 hT (show sp 8 3 = some 0 from rfl) ?_
        refine g_geti C dRM_go_34 fl_RM_150 t_31 ?_
        refine g_iload_n C dRM_go_37 rfl ?_
        refine g_iadd C dRM_go_38 ?_
        refine g_sipush (v := Int32.ofInt (240)) C dRM_go_39 (by decide) ?_
        refine gt_icmp_le 51 C dRM_go_42 (by decide) rfl (ofI (by decide)) (fun c_42 => ?_) (fun c_42 => ?_)
        · have h := x_pos c_42 h
          refine g_iconst (v := Int32.ofInt (0)) C dRM_go_51 (by decide) ?_
          refine g_istore_n (i := 2) C dRM_go_52 rfl (by decide) ?_
          refine g_iconst (v := Int32.ofInt (0)) C dRM_go_53 (by decide) ?_
          refine g_istore_n (i := 3) C dRM_go_54 rfl (by decide) ?_
          have lp_55 : ∀ (x2_55 : Int32) (x3_55 : Int32) (I_55 : WI), lp (B_RM_go_55 N O a0 x1 J0) (fun _ _ _ => none) N x2_55 x3_55 I_55 = some (r, I') → GG X 5 P K I_55 O J0 0 0 55 [(0, .ref a0), (1, .int x1), (2, .int x2_55), (3, .int x3_55)] [] := by
            refine x_lp (fun (rec_55 : Int32 → Int32 → WI → Option (Int32 × WI)) => ∀ (x2_55 : Int32) (x3_55 : Int32) (I_55 : WI), rec_55 x2_55 x3_55 I_55 = some (r, I') → GG X 5 P K I_55 O J0 0 0 55 [(0, .ref a0), (1, .int x1), (2, .int x2_55), (3, .int x3_55)] []) (fun _ _ _ h => by cases h) (fun rec_55 hr_55 x2_55 x3_55 I_55 h => ?_) N
            unfold B_RM_go_55 at h
            refine g_iload_n C dRM_go_55 rfl ?_
            refine g_iload_n C dRM_go_56 rfl ?_
            refine gt_icmp_ge 113 C dRM_go_57 (by decide) rfl rfl (fun c_57 => ?_) (fun c_57 => ?_)
            · have h := x_pos c_57 h
              refine g_aload_n C dRM_go_113 rfl ?_
              refine g_iload_n C dRM_go_114 rfl ?_
              obtain ⟨z_115, I3, e_115, h⟩ := bd2_some h
              refine x_callVi (av := fun ad => [.int x2_55]) C dRM_go_115 mfRM_accept mvRM_accept ln_RM_122 h0 (by decide) rfl (f_RM_accept hT h0 e_115) rfl rfl (Nat.le_of_ble_eq_true rfl) ⟨Nat.le_of_ble_eq_true rfl, Nat.le_of_ble_eq_true rfl⟩ ⟨rfl, rfl⟩ ⟨Nat.zero_le _, Nat.zero_le _⟩ ?_
              exact x_iret1 C E dRM_go_118 ⟨Nat.zero_le _, Nat.zero_le _⟩ h
            · have h := x_neg (Int.not_le.mpr c_57) h
              refine g_aload_n C dRM_go_60 rfl ?_
              have t_61 := rf_ok hT h0 (show sp 8 3 = some 0 from rfl)
              refine x_getr C dRM_go_61 fl_RM_29 h0 hT (show sp 8 3 = some 0 from rfl) ?_
              refine g_geti C dRM_go_64 fl_RM_150 t_61 ?_
              refine x_istore C dRM_go_67 (by decide) h (fun v4_67 h => ?_)
              refine g_aload_n C dRM_go_69 rfl ?_
              have t_70 := rf_ok hT h0 (show sp 8 3 = some 0 from rfl)
              refine x_getr C dRM_go_70 fl_RM_29 h0 hT (show sp 8 3 = some 0 from rfl) ?_
              refine g_aload_n C dRM_go_73 rfl ?_
              have t_74 := rf_ok hT h0 (show sp 8 1 = some 3 from rfl)
              refine x_getr C dRM_go_74 fl_RM_19 h0 hT (show sp 8 1 = some 3 from rfl) ?_
              refine g_aload_n C dRM_go_77 rfl ?_
              have t_78 := rf_ok hT h0 (show sp 8 4 = some 18 from rfl)
              refine x_getr C dRM_go_78 fl_RM_33 h0 hT (show sp 8 4 = some 18 from rfl) ?_
              refine g_iconst (v := Int32.ofInt (0)) C dRM_go_81 (by decide) ?_
              obtain ⟨I4, e_82, h⟩ := bd1_some h
              refine x_callVv (av := fun ad => [.ref (rf O a0 1), .ref (rf O a0 4), .int (Int32.ofInt (0))]) C dRM_go_82 mfDr_runHour mvDr_runHour ln_RM_153 t_70 (by decide) rfl (f_Dr_runHour hT t_70 t_74 t_78 ⟨by decide, rfl⟩ e_82) rfl rfl (Nat.le_of_ble_eq_true rfl) ⟨Nat.le_of_ble_eq_true rfl, Nat.le_of_ble_eq_true rfl⟩ ⟨rfl, rfl⟩ ⟨Nat.zero_le _, Nat.zero_le _⟩ ?_
              refine g_aload_n C dRM_go_85 rfl ?_
              have t_86 := rf_ok hT h0 (show sp 8 3 = some 0 from rfl)
              refine x_getr C dRM_go_86 fl_RM_29 h0 hT (show sp 8 3 = some 0 from rfl) ?_
              refine g_geti C dRM_go_89 fl_RM_157 t_86 ?_
              refine x_jn h (fun (k_107 : Int32 → WI → Option (Int32 × WI)) => ∀ (y2_107 : Int32) (IJ_107 : WI), k_107 y2_107 IJ_107 = some (r, I') → GG X 5 P K IJ_107 O J0 0 0 107 [(0, .ref a0), (1, .int x1), (2, .int y2_107), (3, .int x3_55), (4, .int v4_67)] []) (fun y2_107 IJ_107 h => ?_) (fun k_107 hk_107 h => ?_)
              · skip
                refine x_iinc C dRM_go_107 rfl (by decide) h (fun v3_107 h => ?_)
                refine g_goto 55 C dRM_go_110 (by decide) ?_
                exact g_sub (hr_55 (y2_107) (v3_107) IJ_107 h) ⟨rfl, rfl, rfl, rfl, trivial⟩
              refine gt_if_eq 104 C dRM_go_92 (by decide) rfl (fun c_92 => ?_) (fun c_92 => ?_)
              · have h := x_pos c_92 h
                refine x_iinc C dRM_go_104 rfl (by decide) h (fun v2_104 h => ?_)
                exact g_sub (hk_107 (v2_104) I4 h) ⟨rfl, rfl, rfl, rfl, rfl, trivial⟩
              · have h := x_neg c_92 h
                refine g_aload_n C dRM_go_95 rfl ?_
                refine g_iload C dRM_go_96 rfl ?_
                obtain ⟨I5, e_98, h⟩ := bd1_some h
                refine x_callVv (av := fun ad => [.int v4_67]) C dRM_go_98 mfRM_noteStood mvRM_noteStood ln_RM_161 h0 (by decide) rfl (f_RM_noteStood hT h0 e_98) rfl rfl (Nat.le_of_ble_eq_true rfl) ⟨Nat.le_of_ble_eq_true rfl, Nat.le_of_ble_eq_true rfl⟩ ⟨rfl, rfl⟩ ⟨Nat.zero_le _, Nat.zero_le _⟩ ?_
                refine g_goto 107 C dRM_go_101 (by decide) ?_
                exact g_sub (hk_107 (x2_55) I5 h) ⟨rfl, rfl, rfl, rfl, rfl, trivial⟩
          exact g_sub (lp_55 ((Int32.ofInt (0))) ((Int32.ofInt (0))) I0 h) ⟨rfl, rfl, rfl, rfl, trivial⟩
        · have h := x_neg (Int.not_le.mpr c_42) h
          refine g_aload_n C dRM_go_45 rfl ?_
          refine g_iconst (v := Int32.ofInt (3)) C dRM_go_46 (by decide) ?_
          obtain ⟨z_47, I6, e_47, h⟩ := bd2_some h
          refine x_callVi (av := fun ad => [.int (Int32.ofInt (3))]) C dRM_go_47 mfRM_refuse mvRM_refuse ln_RM_96 h0 (by decide) rfl (f_RM_refuse hT h0 e_47) rfl rfl (Nat.le_of_ble_eq_true rfl) ⟨Nat.le_of_ble_eq_true rfl, Nat.le_of_ble_eq_true rfl⟩ ⟨rfl, rfl⟩ ⟨Nat.zero_le _, Nat.zero_le _⟩ ?_
          exact x_iret1 C E dRM_go_50 ⟨Nat.zero_le _, Nat.zero_le _⟩ h
      · have h := x_neg (Int.not_le.mpr c_21) h
        exact g_sub (hk_24  h) ⟨rfl, rfl, trivial⟩
  · have h := x_neg c_4 h
    refine g_aload_n C dRM_go_7 rfl ?_
    refine g_iconst (v := Int32.ofInt (1)) C dRM_go_8 (by decide) ?_
    obtain ⟨z_9, I7, e_9, h⟩ := bd2_some h
    refine x_callVi (av := fun ad => [.int (Int32.ofInt (1))]) C dRM_go_9 mfRM_refuse mvRM_refuse ln_RM_96 h0 (by decide) rfl (f_RM_refuse hT h0 e_9) rfl rfl (Nat.le_of_ble_eq_true rfl) ⟨Nat.le_of_ble_eq_true rfl, Nat.le_of_ble_eq_true rfl⟩ ⟨rfl, rfl⟩ ⟨Nat.zero_le _, Nat.zero_le _⟩ ?_
    exact x_iret1 C E dRM_go_12 ⟨Nat.zero_le _, Nat.zero_le _⟩ h
def F_RM_tons (N : Nat) (O : WO) (I0 : WI) (J0 : WJ) (a0 : Nat) (x1 : Int32) (x2 : Int32) : Option (Int32) := bd1 (F_RM_isSize N O I0 J0 a0 x1) fun z_2 => if (z_2).toInt = 0 then (some (Int32.ofInt (-1))) else (if (x2).toInt = 0 then (if 0 ≤ (x1).toInt ∧ (x1).toInt < 5 then (some (I0 (rf O (rf O (rf O a0 3) 0) 0) (x1).toInt.toNat)) else none) else if (x2).toInt = 1 then (if 0 ≤ (x1).toInt ∧ (x1).toInt < 5 then (some (I0 (rf O (rf O (rf O a0 3) 0) 1) (x1).toInt.toNat)) else none) else if (x2).toInt = 2 then (if 0 ≤ (x1).toInt ∧ (x1).toInt < 5 then (some (I0 (rf O (rf O (rf O a0 3) 0) 2) (x1).toInt.toNat)) else none) else if (x2).toInt = 3 then (if 0 ≤ (x1).toInt ∧ (x1).toInt < 5 then (some (I0 (rf O (rf O a0 3) 1) (x1).toInt.toNat)) else none) else (some (Int32.ofInt (-1))))
set_option maxHeartbeats 4000000 in
set_option maxRecDepth 100000 in
theorem f_RM_tons {P : List Nat} {K : Nat → Nat} {N : Nat} {O : WO} {I0 : WI} {J0 : WJ} (hT : TR P K O) {a0 : Nat} (h0 : a0 ∈ P ∧ K a0 = 8) {x1 : Int32} {x2 : Int32} {r : Int32} (h : F_RM_tons N O I0 J0 a0 x1 x2 = some r) : Con yRM_tons bRM_tons 3 (some .int) ({ frames := 1, cells := 0, slots := 0, locals := 21 } : Room) P K I0 O J0 [.ref a0, .int x1, .int x2] (EPo (some (.int r)) I0 J0 P K O) := by
  refine Con.ofG mfRM_tons (Nat.le_of_ble_eq_true rfl) ?_
  intro X C E
  unfold F_RM_tons at h
  refine g_aload_n C dRM_tons_0 rfl ?_
  refine g_iload_n C dRM_tons_1 rfl ?_
  obtain ⟨z_2, e_2, h⟩ := bd1_some h
  refine x_callVi (av := fun ad => [.int x1]) C dRM_tons_2 mfRM_isSize mvRM_isSize ln_RM_164 h0 (by decide) rfl (f_RM_isSize hT h0 e_2) rfl rfl (Nat.le_of_ble_eq_true rfl) ⟨Nat.le_of_ble_eq_true rfl, Nat.le_of_ble_eq_true rfl⟩ ⟨rfl, rfl⟩ ⟨Nat.zero_le _, Nat.zero_le _⟩ ?_
  refine gt_if_ne 10 C dRM_tons_5 (by decide) rfl (fun c_5 => ?_) (fun c_5 => ?_)
  · have h := x_neg c_5 h
    refine g_iload_n C dRM_tons_10 rfl ?_
    by_cases q_11_0 : (x2).toInt = 0
    · refine g_tIn 40 C dRM_tons_11 (by omega) (by omega) (by rw [q_11_0]; rfl) (by decide) ?_
      have h := x_pos q_11_0 h
      refine g_aload_n C dRM_tons_40 rfl ?_
      have t_41 := rf_ok hT h0 (show sp 8 3 = some 0 from rfl)
      refine x_getr C dRM_tons_41 fl_RM_29 h0 hT (show sp 8 3 = some 0 from rfl) ?_
      have t_44 := rf_ok hT t_41 (show sp 0 0 = some 2 from rfl)
      refine x_getr C dRM_tons_44 fl_RM_167 t_41 hT (show sp 0 0 = some 2 from rfl) ?_
      have t_47 := rf_ok hT t_44 (show sp 2 0 = some 11 from rfl)
      refine x_getr C dRM_tons_47 fl_RM_170 t_44 hT (show sp 2 0 = some 11 from rfl) ?_
      refine g_iload_n C dRM_tons_50 rfl ?_
      obtain ⟨g_51, h⟩ := x_g h
      refine x_iald (m := 5) C dRM_tons_51 t_47 (by decide) rfl rfl g_51 ?_
      exact x_iret0 C E dRM_tons_52 ⟨Nat.zero_le _, Nat.zero_le _⟩ h
    have h := x_neg q_11_0 h
    by_cases q_11_1 : (x2).toInt = 1
    · refine g_tIn 53 C dRM_tons_11 (by omega) (by omega) (by rw [q_11_1]; rfl) (by decide) ?_
      have h := x_pos q_11_1 h
      refine g_aload_n C dRM_tons_53 rfl ?_
      have t_54 := rf_ok hT h0 (show sp 8 3 = some 0 from rfl)
      refine x_getr C dRM_tons_54 fl_RM_29 h0 hT (show sp 8 3 = some 0 from rfl) ?_
      have t_57 := rf_ok hT t_54 (show sp 0 0 = some 2 from rfl)
      refine x_getr C dRM_tons_57 fl_RM_167 t_54 hT (show sp 0 0 = some 2 from rfl) ?_
      have t_60 := rf_ok hT t_57 (show sp 2 1 = some 11 from rfl)
      refine x_getr C dRM_tons_60 fl_RM_173 t_57 hT (show sp 2 1 = some 11 from rfl) ?_
      refine g_iload_n C dRM_tons_63 rfl ?_
      obtain ⟨g_64, h⟩ := x_g h
      refine x_iald (m := 5) C dRM_tons_64 t_60 (by decide) rfl rfl g_64 ?_
      exact x_iret0 C E dRM_tons_65 ⟨Nat.zero_le _, Nat.zero_le _⟩ h
    have h := x_neg q_11_1 h
    by_cases q_11_2 : (x2).toInt = 2
    · refine g_tIn 66 C dRM_tons_11 (by omega) (by omega) (by rw [q_11_2]; rfl) (by decide) ?_
      have h := x_pos q_11_2 h
      refine g_aload_n C dRM_tons_66 rfl ?_
      have t_67 := rf_ok hT h0 (show sp 8 3 = some 0 from rfl)
      refine x_getr C dRM_tons_67 fl_RM_29 h0 hT (show sp 8 3 = some 0 from rfl) ?_
      have t_70 := rf_ok hT t_67 (show sp 0 0 = some 2 from rfl)
      refine x_getr C dRM_tons_70 fl_RM_167 t_67 hT (show sp 0 0 = some 2 from rfl) ?_
      have t_73 := rf_ok hT t_70 (show sp 2 2 = some 11 from rfl)
      refine x_getr C dRM_tons_73 fl_RM_176 t_70 hT (show sp 2 2 = some 11 from rfl) ?_
      refine g_iload_n C dRM_tons_76 rfl ?_
      obtain ⟨g_77, h⟩ := x_g h
      refine x_iald (m := 5) C dRM_tons_77 t_73 (by decide) rfl rfl g_77 ?_
      exact x_iret0 C E dRM_tons_78 ⟨Nat.zero_le _, Nat.zero_le _⟩ h
    have h := x_neg q_11_2 h
    by_cases q_11_3 : (x2).toInt = 3
    · refine g_tIn 79 C dRM_tons_11 (by omega) (by omega) (by rw [q_11_3]; rfl) (by decide) ?_
      have h := x_pos q_11_3 h
      refine g_aload_n C dRM_tons_79 rfl ?_
      have t_80 := rf_ok hT h0 (show sp 8 3 = some 0 from rfl)
      refine x_getr C dRM_tons_80 fl_RM_29 h0 hT (show sp 8 3 = some 0 from rfl) ?_
      have t_83 := rf_ok hT t_80 (show sp 0 1 = some 11 from rfl)
      refine x_getr C dRM_tons_83 fl_RM_179 t_80 hT (show sp 0 1 = some 11 from rfl) ?_
      refine g_iload_n C dRM_tons_86 rfl ?_
      obtain ⟨g_87, h⟩ := x_g h
      refine x_iald (m := 5) C dRM_tons_87 t_83 (by decide) rfl rfl g_87 ?_
      exact x_iret0 C E dRM_tons_88 ⟨Nat.zero_le _, Nat.zero_le _⟩ h
    have h := x_neg q_11_3 h
    refine g_tOut 89 C dRM_tons_11 (by omega) (by decide) ?_
    refine g_iconst (v := Int32.ofInt (-1)) C dRM_tons_89 (by decide) ?_
    exact x_iret0 C E dRM_tons_90 ⟨Nat.zero_le _, Nat.zero_le _⟩ h
  · have h := x_pos c_5 h
    refine g_iconst (v := Int32.ofInt (-1)) C dRM_tons_8 (by decide) ?_
    exact x_iret0 C E dRM_tons_9 ⟨Nat.zero_le _, Nat.zero_le _⟩ h
def F_RM_state (N : Nat) (O : WO) (I0 : WI) (J0 : WJ) (a0 : Nat) (x1 : Int32) : Option (Int32) := if (x1).toInt = 0 then (some (I0 (rf O a0 3) 2)) else if (x1).toInt = 1 then (some (I0 (rf O a0 3) 13)) else if (x1).toInt = 2 then (some (I0 (rf O a0 3) 14)) else if (x1).toInt = 3 then (some (I0 (rf O a0 3) 12)) else if (x1).toInt = 4 then (some (I0 (rf O a0 3) 3)) else if (x1).toInt = 5 then (some (I0 (rf O a0 3) 4)) else if (x1).toInt = 6 then (if ((I0 (rf O a0 3) 5)).toInt = 0 then (some (Int32.ofInt (0))) else (some (Int32.ofInt (1)))) else if (x1).toInt = 7 then (some (I0 (rf O a0 3) 6)) else if (x1).toInt = 8 then (some (I0 (rf O a0 3) 7)) else if (x1).toInt = 9 then (some (I0 (rf O a0 3) 8)) else if (x1).toInt = 10 then (some (I0 (rf O a0 3) 9)) else if (x1).toInt = 11 then (some (I0 (rf O a0 3) 10)) else if (x1).toInt = 12 then (some (I0 (rf O a0 3) 15)) else if (x1).toInt = 13 then (some (I0 (rf O a0 3) 16)) else if (x1).toInt = 14 then (some (I0 (rf O a0 4) 0)) else if (x1).toInt = 15 then (some (I0 (rf O a0 4) 1)) else if (x1).toInt = 16 then (some (I0 (rf O a0 4) 2)) else (some (Int32.ofInt (-1)))
set_option maxHeartbeats 4000000 in
set_option maxRecDepth 100000 in
theorem f_RM_state {P : List Nat} {K : Nat → Nat} {N : Nat} {O : WO} {I0 : WI} {J0 : WJ} (hT : TR P K O) {a0 : Nat} (h0 : a0 ∈ P ∧ K a0 = 8) {x1 : Int32} {r : Int32} (h : F_RM_state N O I0 J0 a0 x1 = some r) : Con yRM_state bRM_state 2 (some .int) ({ frames := 0, cells := 0, slots := 0, locals := 0 } : Room) P K I0 O J0 [.ref a0, .int x1] (EPo (some (.int r)) I0 J0 P K O) := by
  refine Con.ofG mfRM_state (Nat.le_of_ble_eq_true rfl) ?_
  intro X C E
  unfold F_RM_state at h
  refine g_iload_n C dRM_state_0 rfl ?_
  by_cases q_1_0 : (x1).toInt = 0
  · refine g_tIn 84 C dRM_state_1 (by omega) (by omega) (by rw [q_1_0]; rfl) (by decide) ?_
    have h := x_pos q_1_0 h
    refine g_aload_n C dRM_state_84 rfl ?_
    have t_85 := rf_ok hT h0 (show sp 8 3 = some 0 from rfl)
    refine x_getr C dRM_state_85 fl_RM_29 h0 hT (show sp 8 3 = some 0 from rfl) ?_
    refine g_geti C dRM_state_88 fl_RM_182 t_85 ?_
    exact x_iret0 C E dRM_state_91 ⟨Nat.zero_le _, Nat.zero_le _⟩ h
  have h := x_neg q_1_0 h
  by_cases q_1_1 : (x1).toInt = 1
  · refine g_tIn 92 C dRM_state_1 (by omega) (by omega) (by rw [q_1_1]; rfl) (by decide) ?_
    have h := x_pos q_1_1 h
    refine g_aload_n C dRM_state_92 rfl ?_
    have t_93 := rf_ok hT h0 (show sp 8 3 = some 0 from rfl)
    refine x_getr C dRM_state_93 fl_RM_29 h0 hT (show sp 8 3 = some 0 from rfl) ?_
    refine g_geti C dRM_state_96 fl_RM_185 t_93 ?_
    exact x_iret0 C E dRM_state_99 ⟨Nat.zero_le _, Nat.zero_le _⟩ h
  have h := x_neg q_1_1 h
  by_cases q_1_2 : (x1).toInt = 2
  · refine g_tIn 100 C dRM_state_1 (by omega) (by omega) (by rw [q_1_2]; rfl) (by decide) ?_
    have h := x_pos q_1_2 h
    refine g_aload_n C dRM_state_100 rfl ?_
    have t_101 := rf_ok hT h0 (show sp 8 3 = some 0 from rfl)
    refine x_getr C dRM_state_101 fl_RM_29 h0 hT (show sp 8 3 = some 0 from rfl) ?_
    refine g_geti C dRM_state_104 fl_RM_188 t_101 ?_
    exact x_iret0 C E dRM_state_107 ⟨Nat.zero_le _, Nat.zero_le _⟩ h
  have h := x_neg q_1_2 h
  by_cases q_1_3 : (x1).toInt = 3
  · refine g_tIn 108 C dRM_state_1 (by omega) (by omega) (by rw [q_1_3]; rfl) (by decide) ?_
    have h := x_pos q_1_3 h
    refine g_aload_n C dRM_state_108 rfl ?_
    have t_109 := rf_ok hT h0 (show sp 8 3 = some 0 from rfl)
    refine x_getr C dRM_state_109 fl_RM_29 h0 hT (show sp 8 3 = some 0 from rfl) ?_
    refine g_geti C dRM_state_112 fl_RM_191 t_109 ?_
    exact x_iret0 C E dRM_state_115 ⟨Nat.zero_le _, Nat.zero_le _⟩ h
  have h := x_neg q_1_3 h
  by_cases q_1_4 : (x1).toInt = 4
  · refine g_tIn 116 C dRM_state_1 (by omega) (by omega) (by rw [q_1_4]; rfl) (by decide) ?_
    have h := x_pos q_1_4 h
    refine g_aload_n C dRM_state_116 rfl ?_
    have t_117 := rf_ok hT h0 (show sp 8 3 = some 0 from rfl)
    refine x_getr C dRM_state_117 fl_RM_29 h0 hT (show sp 8 3 = some 0 from rfl) ?_
    refine g_geti C dRM_state_120 fl_RM_147 t_117 ?_
    exact x_iret0 C E dRM_state_123 ⟨Nat.zero_le _, Nat.zero_le _⟩ h
  have h := x_neg q_1_4 h
  by_cases q_1_5 : (x1).toInt = 5
  · refine g_tIn 124 C dRM_state_1 (by omega) (by omega) (by rw [q_1_5]; rfl) (by decide) ?_
    have h := x_pos q_1_5 h
    refine g_aload_n C dRM_state_124 rfl ?_
    have t_125 := rf_ok hT h0 (show sp 8 3 = some 0 from rfl)
    refine x_getr C dRM_state_125 fl_RM_29 h0 hT (show sp 8 3 = some 0 from rfl) ?_
    refine g_geti C dRM_state_128 fl_RM_144 t_125 ?_
    exact x_iret0 C E dRM_state_131 ⟨Nat.zero_le _, Nat.zero_le _⟩ h
  have h := x_neg q_1_5 h
  by_cases q_1_6 : (x1).toInt = 6
  · refine g_tIn 132 C dRM_state_1 (by omega) (by omega) (by rw [q_1_6]; rfl) (by decide) ?_
    have h := x_pos q_1_6 h
    refine g_aload_n C dRM_state_132 rfl ?_
    have t_133 := rf_ok hT h0 (show sp 8 3 = some 0 from rfl)
    refine x_getr C dRM_state_133 fl_RM_29 h0 hT (show sp 8 3 = some 0 from rfl) ?_
    refine g_geti C dRM_state_136 fl_RM_157 t_133 ?_
    refine gt_if_eq 146 C dRM_state_139 (by decide) rfl (fun c_139 => ?_) (fun c_139 => ?_)
    · have h := x_pos c_139 h
      refine g_iconst (v := Int32.ofInt (0)) C dRM_state_146 (by decide) ?_
      exact x_iret0 C E dRM_state_147 ⟨Nat.zero_le _, Nat.zero_le _⟩ h
    · have h := x_neg c_139 h
      refine g_iconst (v := Int32.ofInt (1)) C dRM_state_142 (by decide) ?_
      refine g_goto 147 C dRM_state_143 (by decide) ?_
      exact x_iret0 C E dRM_state_147 ⟨Nat.zero_le _, Nat.zero_le _⟩ h
  have h := x_neg q_1_6 h
  by_cases q_1_7 : (x1).toInt = 7
  · refine g_tIn 148 C dRM_state_1 (by omega) (by omega) (by rw [q_1_7]; rfl) (by decide) ?_
    have h := x_pos q_1_7 h
    refine g_aload_n C dRM_state_148 rfl ?_
    have t_149 := rf_ok hT h0 (show sp 8 3 = some 0 from rfl)
    refine x_getr C dRM_state_149 fl_RM_29 h0 hT (show sp 8 3 = some 0 from rfl) ?_
    refine g_geti C dRM_state_152 fl_RM_150 t_149 ?_
    exact x_iret0 C E dRM_state_155 ⟨Nat.zero_le _, Nat.zero_le _⟩ h
  have h := x_neg q_1_7 h
  by_cases q_1_8 : (x1).toInt = 8
  · refine g_tIn 156 C dRM_state_1 (by omega) (by omega) (by rw [q_1_8]; rfl) (by decide) ?_
    have h := x_pos q_1_8 h
    refine g_aload_n C dRM_state_156 rfl ?_
    have t_157 := rf_ok hT h0 (show sp 8 3 = some 0 from rfl)
    refine x_getr C dRM_state_157 fl_RM_29 h0 hT (show sp 8 3 = some 0 from rfl) ?_
    refine g_geti C dRM_state_160 fl_RM_194 t_157 ?_
    exact x_iret0 C E dRM_state_163 ⟨Nat.zero_le _, Nat.zero_le _⟩ h
  have h := x_neg q_1_8 h
  by_cases q_1_9 : (x1).toInt = 9
  · refine g_tIn 164 C dRM_state_1 (by omega) (by omega) (by rw [q_1_9]; rfl) (by decide) ?_
    have h := x_pos q_1_9 h
    refine g_aload_n C dRM_state_164 rfl ?_
    have t_165 := rf_ok hT h0 (show sp 8 3 = some 0 from rfl)
    refine x_getr C dRM_state_165 fl_RM_29 h0 hT (show sp 8 3 = some 0 from rfl) ?_
    refine g_geti C dRM_state_168 fl_RM_197 t_165 ?_
    exact x_iret0 C E dRM_state_171 ⟨Nat.zero_le _, Nat.zero_le _⟩ h
  have h := x_neg q_1_9 h
  by_cases q_1_10 : (x1).toInt = 10
  · refine g_tIn 172 C dRM_state_1 (by omega) (by omega) (by rw [q_1_10]; rfl) (by decide) ?_
    have h := x_pos q_1_10 h
    refine g_aload_n C dRM_state_172 rfl ?_
    have t_173 := rf_ok hT h0 (show sp 8 3 = some 0 from rfl)
    refine x_getr C dRM_state_173 fl_RM_29 h0 hT (show sp 8 3 = some 0 from rfl) ?_
    refine g_geti C dRM_state_176 fl_RM_200 t_173 ?_
    exact x_iret0 C E dRM_state_179 ⟨Nat.zero_le _, Nat.zero_le _⟩ h
  have h := x_neg q_1_10 h
  by_cases q_1_11 : (x1).toInt = 11
  · refine g_tIn 180 C dRM_state_1 (by omega) (by omega) (by rw [q_1_11]; rfl) (by decide) ?_
    have h := x_pos q_1_11 h
    refine g_aload_n C dRM_state_180 rfl ?_
    have t_181 := rf_ok hT h0 (show sp 8 3 = some 0 from rfl)
    refine x_getr C dRM_state_181 fl_RM_29 h0 hT (show sp 8 3 = some 0 from rfl) ?_
    refine g_geti C dRM_state_184 fl_RM_203 t_181 ?_
    exact x_iret0 C E dRM_state_187 ⟨Nat.zero_le _, Nat.zero_le _⟩ h
  have h := x_neg q_1_11 h
  by_cases q_1_12 : (x1).toInt = 12
  · refine g_tIn 188 C dRM_state_1 (by omega) (by omega) (by rw [q_1_12]; rfl) (by decide) ?_
    have h := x_pos q_1_12 h
    refine g_aload_n C dRM_state_188 rfl ?_
    have t_189 := rf_ok hT h0 (show sp 8 3 = some 0 from rfl)
    refine x_getr C dRM_state_189 fl_RM_29 h0 hT (show sp 8 3 = some 0 from rfl) ?_
    refine g_geti C dRM_state_192 fl_RM_206 t_189 ?_
    exact x_iret0 C E dRM_state_195 ⟨Nat.zero_le _, Nat.zero_le _⟩ h
  have h := x_neg q_1_12 h
  by_cases q_1_13 : (x1).toInt = 13
  · refine g_tIn 196 C dRM_state_1 (by omega) (by omega) (by rw [q_1_13]; rfl) (by decide) ?_
    have h := x_pos q_1_13 h
    refine g_aload_n C dRM_state_196 rfl ?_
    have t_197 := rf_ok hT h0 (show sp 8 3 = some 0 from rfl)
    refine x_getr C dRM_state_197 fl_RM_29 h0 hT (show sp 8 3 = some 0 from rfl) ?_
    refine g_geti C dRM_state_200 fl_RM_209 t_197 ?_
    exact x_iret0 C E dRM_state_203 ⟨Nat.zero_le _, Nat.zero_le _⟩ h
  have h := x_neg q_1_13 h
  by_cases q_1_14 : (x1).toInt = 14
  · refine g_tIn 204 C dRM_state_1 (by omega) (by omega) (by rw [q_1_14]; rfl) (by decide) ?_
    have h := x_pos q_1_14 h
    refine g_aload_n C dRM_state_204 rfl ?_
    have t_205 := rf_ok hT h0 (show sp 8 4 = some 18 from rfl)
    refine x_getr C dRM_state_205 fl_RM_33 h0 hT (show sp 8 4 = some 18 from rfl) ?_
    refine g_iconst (v := Int32.ofInt (0)) C dRM_state_208 (by decide) ?_
    refine x_ialdc (m := 3) (c := 0) C dRM_state_209 t_205 (by decide) rfl rfl rfl (by decide) ?_
    exact x_iret0 C E dRM_state_210 ⟨Nat.zero_le _, Nat.zero_le _⟩ h
  have h := x_neg q_1_14 h
  by_cases q_1_15 : (x1).toInt = 15
  · refine g_tIn 211 C dRM_state_1 (by omega) (by omega) (by rw [q_1_15]; rfl) (by decide) ?_
    have h := x_pos q_1_15 h
    refine g_aload_n C dRM_state_211 rfl ?_
    have t_212 := rf_ok hT h0 (show sp 8 4 = some 18 from rfl)
    refine x_getr C dRM_state_212 fl_RM_33 h0 hT (show sp 8 4 = some 18 from rfl) ?_
    refine g_iconst (v := Int32.ofInt (1)) C dRM_state_215 (by decide) ?_
    refine x_ialdc (m := 3) (c := 1) C dRM_state_216 t_212 (by decide) rfl rfl rfl (by decide) ?_
    exact x_iret0 C E dRM_state_217 ⟨Nat.zero_le _, Nat.zero_le _⟩ h
  have h := x_neg q_1_15 h
  by_cases q_1_16 : (x1).toInt = 16
  · refine g_tIn 218 C dRM_state_1 (by omega) (by omega) (by rw [q_1_16]; rfl) (by decide) ?_
    have h := x_pos q_1_16 h
    refine g_aload_n C dRM_state_218 rfl ?_
    have t_219 := rf_ok hT h0 (show sp 8 4 = some 18 from rfl)
    refine x_getr C dRM_state_219 fl_RM_33 h0 hT (show sp 8 4 = some 18 from rfl) ?_
    refine g_iconst (v := Int32.ofInt (2)) C dRM_state_222 (by decide) ?_
    refine x_ialdc (m := 3) (c := 2) C dRM_state_223 t_219 (by decide) rfl rfl rfl (by decide) ?_
    exact x_iret0 C E dRM_state_224 ⟨Nat.zero_le _, Nat.zero_le _⟩ h
  have h := x_neg q_1_16 h
  refine g_tOut 225 C dRM_state_1 (by omega) (by decide) ?_
  refine g_iconst (v := Int32.ofInt (-1)) C dRM_state_225 (by decide) ?_
  exact x_iret0 C E dRM_state_226 ⟨Nat.zero_le _, Nat.zero_le _⟩ h
def F_RM_program (N : Nat) (O : WO) (I0 : WI) (J0 : WJ) (a0 : Nat) (x1 : Int32) (x2 : Int32) (x3 : Int32) (x4 : Int32) : Option (Int32 × WI) := bd1 (F_RM_isHour N O I0 J0 x1) fun z_1 => jn (bd2 (F_RM_deny N O I0 J0 a0 (Int32.ofInt (1))) fun z_18 I2 => if (z_18).toInt = 0 ∨ (z_18).toInt = 1 then (some (z_18, I2)) else none) fun k_16 => if (z_1).toInt = 0 then (k_16 ) else (bd1 (F_RM_isOre N O I0 J0 a0 x4) fun z_10 => if (z_10).toInt = 0 then (k_16 ) else (bd1 (F_RM_isRate N O I0 J0 x2) fun z_23 => jn (bd2 (F_RM_deny N O I0 J0 a0 (Int32.ofInt (2))) fun z_38 I5 => if (z_38).toInt = 0 ∨ (z_38).toInt = 1 then (some (z_38, I5)) else none) fun k_36 => if (z_23).toInt = 0 then (k_36 ) else (bd1 (F_RM_isWater N O I0 J0 x3) fun z_30 => if (z_30).toInt = 0 then (k_36 ) else (if 0 ≤ (((x1 * (Int32.ofInt (3))) + (Int32.ofInt (0)))).toInt ∧ (((x1 * (Int32.ofInt (3))) + (Int32.ofInt (0)))).toInt < 36 then (lb (up2 I0 (rf O a0 5) (((x1 * (Int32.ofInt (3))) + (Int32.ofInt (0)))).toInt.toNat x2) fun I7 => if 0 ≤ (((x1 * (Int32.ofInt (3))) + (Int32.ofInt (1)))).toInt ∧ (((x1 * (Int32.ofInt (3))) + (Int32.ofInt (1)))).toInt < 36 then (lb (up2 I7 (rf O a0 5) (((x1 * (Int32.ofInt (3))) + (Int32.ofInt (1)))).toInt.toNat x3) fun I8 => if 0 ≤ (((x1 * (Int32.ofInt (3))) + (Int32.ofInt (2)))).toInt ∧ (((x1 * (Int32.ofInt (3))) + (Int32.ofInt (2)))).toInt < 36 then (lb (up2 I8 (rf O a0 5) (((x1 * (Int32.ofInt (3))) + (Int32.ofInt (2)))).toInt.toNat x4) fun I9 => bd1 (F_Gu_makeStale N O I9 J0 (rf O a0 6)) fun I10 => lb (up2 I10 (rf O a0 7) 7 (Int32.ofInt (0))) fun I11 => bd2 (F_RM_allow N O I11 J0 a0) fun z_92 I12 => if (z_92).toInt = 0 ∨ (z_92).toInt = 1 then (some (z_92, I12)) else none) else none) else none) else none))))
set_option maxHeartbeats 4000000 in
set_option maxRecDepth 100000 in
theorem f_RM_program {P : List Nat} {K : Nat → Nat} {N : Nat} {O : WO} {I0 : WI} {J0 : WJ} (hT : TR P K O) {a0 : Nat} (h0 : a0 ∈ P ∧ K a0 = 8) {x1 : Int32} {x2 : Int32} {x3 : Int32} {x4 : Int32} {r : Int32} {I' : WI} (h : F_RM_program N O I0 J0 a0 x1 x2 x3 x4 = some (r, I')) : Con yRM_program bRM_program 5 (some .boolean) ({ frames := 1, cells := 0, slots := 0, locals := 21 } : Room) P K I0 O J0 [.ref a0, .int x1, .int x2, .int x3, .int x4] (EPo (some (.int r)) I' J0 P K O) := by
  refine Con.ofG mfRM_program (Nat.le_of_ble_eq_true rfl) ?_
  intro X C E
  unfold F_RM_program at h
  refine g_iload_n C dRM_program_0 rfl ?_
  obtain ⟨z_1, e_1, h⟩ := bd1_some h
  refine x_callSi (av := fun ad => [.int x1]) C dRM_program_1 mfRM_isHour msRM_isHour ln_RM_212 (f_RM_isHour hT  e_1) rfl rfl (Nat.le_of_ble_eq_true rfl) ⟨Nat.le_of_ble_eq_true rfl, Nat.le_of_ble_eq_true rfl⟩ ⟨rfl, rfl⟩ ⟨Nat.zero_le _, Nat.zero_le _⟩ ?_
  refine x_jn h (fun (k_16 : Option (Int32 × WI)) => k_16  = some (r, I') → GG X 5 P K I0 O J0 0 0 16 [(0, .ref a0), (1, .int x1), (2, .int x2), (3, .int x3), (4, .int x4)] []) (fun  h => ?_) (fun k_16 hk_16 h => ?_)
  · skip
    refine g_aload_n C dRM_program_16 rfl ?_
    refine g_iconst (v := Int32.ofInt (1)) C dRM_program_17 (by decide) ?_
    obtain ⟨z_18, I2, e_18, h⟩ := bd2_some h
    refine x_callVi (av := fun ad => [.int (Int32.ofInt (1))]) C dRM_program_18 mfRM_deny mvRM_deny ln_RM_128 h0 (by decide) rfl (f_RM_deny hT h0 e_18) rfl rfl (Nat.le_of_ble_eq_true rfl) ⟨Nat.le_of_ble_eq_true rfl, Nat.le_of_ble_eq_true rfl⟩ ⟨rfl, rfl⟩ ⟨Nat.zero_le _, Nat.zero_le _⟩ ?_
    obtain ⟨g_21, h⟩ := x_g h
    exact x_zret1 C E dRM_program_21 (x_01 g_21) ⟨Nat.zero_le _, Nat.zero_le _⟩ h
  refine gt_if_eq 16 C dRM_program_4 (by decide) rfl (fun c_4 => ?_) (fun c_4 => ?_)
  · have h := x_pos c_4 h
    exact g_sub (hk_16  h) ⟨rfl, rfl, rfl, rfl, rfl, trivial⟩
  · have h := x_neg c_4 h
    refine g_aload_n C dRM_program_7 rfl ?_
    refine g_iload C dRM_program_8 rfl ?_
    obtain ⟨z_10, e_10, h⟩ := bd1_some h
    refine x_callVi (av := fun ad => [.int x4]) C dRM_program_10 mfRM_isOre mvRM_isOre ln_RM_125 h0 (by decide) rfl (f_RM_isOre hT h0 e_10) rfl rfl (Nat.le_of_ble_eq_true rfl) ⟨Nat.le_of_ble_eq_true rfl, Nat.le_of_ble_eq_true rfl⟩ ⟨rfl, rfl⟩ ⟨Nat.zero_le _, Nat.zero_le _⟩ ?_
    refine gt_if_ne 22 C dRM_program_13 (by decide) rfl (fun c_13 => ?_) (fun c_13 => ?_)
    · have h := x_neg c_13 h
      refine g_iload_n C dRM_program_22 rfl ?_
      obtain ⟨z_23, e_23, h⟩ := bd1_some h
      refine x_callSi (av := fun ad => [.int x2]) C dRM_program_23 mfRM_isRate msRM_isRate ln_RM_131 (f_RM_isRate hT  e_23) rfl rfl (Nat.le_of_ble_eq_true rfl) ⟨Nat.le_of_ble_eq_true rfl, Nat.le_of_ble_eq_true rfl⟩ ⟨rfl, rfl⟩ ⟨Nat.zero_le _, Nat.zero_le _⟩ ?_
      refine x_jn h (fun (k_36 : Option (Int32 × WI)) => k_36  = some (r, I') → GG X 5 P K I0 O J0 0 0 36 [(0, .ref a0), (1, .int x1), (2, .int x2), (3, .int x3), (4, .int x4)] []) (fun  h => ?_) (fun k_36 hk_36 h => ?_)
      · skip
        refine g_aload_n C dRM_program_36 rfl ?_
        refine g_iconst (v := Int32.ofInt (2)) C dRM_program_37 (by decide) ?_
        obtain ⟨z_38, I5, e_38, h⟩ := bd2_some h
        refine x_callVi (av := fun ad => [.int (Int32.ofInt (2))]) C dRM_program_38 mfRM_deny mvRM_deny ln_RM_128 h0 (by decide) rfl (f_RM_deny hT h0 e_38) rfl rfl (Nat.le_of_ble_eq_true rfl) ⟨Nat.le_of_ble_eq_true rfl, Nat.le_of_ble_eq_true rfl⟩ ⟨rfl, rfl⟩ ⟨Nat.zero_le _, Nat.zero_le _⟩ ?_
        obtain ⟨g_41, h⟩ := x_g h
        exact x_zret1 C E dRM_program_41 (x_01 g_41) ⟨Nat.zero_le _, Nat.zero_le _⟩ h
      refine gt_if_eq 36 C dRM_program_26 (by decide) rfl (fun c_26 => ?_) (fun c_26 => ?_)
      · have h := x_pos c_26 h
        exact g_sub (hk_36  h) ⟨rfl, rfl, rfl, rfl, rfl, trivial⟩
      · have h := x_neg c_26 h
        refine g_iload_n C dRM_program_29 rfl ?_
        obtain ⟨z_30, e_30, h⟩ := bd1_some h
        refine x_callSi (av := fun ad => [.int x3]) C dRM_program_30 mfRM_isWater msRM_isWater ln_RM_134 (f_RM_isWater hT  e_30) rfl rfl (Nat.le_of_ble_eq_true rfl) ⟨Nat.le_of_ble_eq_true rfl, Nat.le_of_ble_eq_true rfl⟩ ⟨rfl, rfl⟩ ⟨Nat.zero_le _, Nat.zero_le _⟩ ?_
        refine gt_if_ne 42 C dRM_program_33 (by decide) rfl (fun c_33 => ?_) (fun c_33 => ?_)
        · have h := x_neg c_33 h
          refine g_aload_n C dRM_program_42 rfl ?_
          have t_43 := rf_ok hT h0 (show sp 8 5 = some 19 from rfl)
          refine x_getr C dRM_program_43 fl_RM_37 h0 hT (show sp 8 5 = some 19 from rfl) ?_
          refine g_iload_n C dRM_program_46 rfl ?_
          refine g_iconst (v := Int32.ofInt (3)) C dRM_program_47 (by decide) ?_
          refine g_imul C dRM_program_48 ?_
          refine g_iconst (v := Int32.ofInt (0)) C dRM_program_49 (by decide) ?_
          refine g_iadd C dRM_program_50 ?_
          refine g_iload_n C dRM_program_51 rfl ?_
          obtain ⟨g_52, h⟩ := x_g h
          refine x_iast (m := 36) C dRM_program_52 t_43 (by decide) rfl rfl g_52 h (fun I7 h => ?_)
          refine g_aload_n C dRM_program_53 rfl ?_
          have t_54 := rf_ok hT h0 (show sp 8 5 = some 19 from rfl)
          refine x_getr C dRM_program_54 fl_RM_37 h0 hT (show sp 8 5 = some 19 from rfl) ?_
          refine g_iload_n C dRM_program_57 rfl ?_
          refine g_iconst (v := Int32.ofInt (3)) C dRM_program_58 (by decide) ?_
          refine g_imul C dRM_program_59 ?_
          refine g_iconst (v := Int32.ofInt (1)) C dRM_program_60 (by decide) ?_
          refine g_iadd C dRM_program_61 ?_
          refine g_iload_n C dRM_program_62 rfl ?_
          obtain ⟨g_63, h⟩ := x_g h
          refine x_iast (m := 36) C dRM_program_63 t_54 (by decide) rfl rfl g_63 h (fun I8 h => ?_)
          refine g_aload_n C dRM_program_64 rfl ?_
          have t_65 := rf_ok hT h0 (show sp 8 5 = some 19 from rfl)
          refine x_getr C dRM_program_65 fl_RM_37 h0 hT (show sp 8 5 = some 19 from rfl) ?_
          refine g_iload_n C dRM_program_68 rfl ?_
          refine g_iconst (v := Int32.ofInt (3)) C dRM_program_69 (by decide) ?_
          refine g_imul C dRM_program_70 ?_
          refine g_iconst (v := Int32.ofInt (2)) C dRM_program_71 (by decide) ?_
          refine g_iadd C dRM_program_72 ?_
          refine g_iload C dRM_program_73 rfl ?_
          obtain ⟨g_75, h⟩ := x_g h
          refine x_iast (m := 36) C dRM_program_75 t_65 (by decide) rfl rfl g_75 h (fun I9 h => ?_)
          refine g_aload_n C dRM_program_76 rfl ?_
          have t_77 := rf_ok hT h0 (show sp 8 6 = some 1 from rfl)
          refine x_getr C dRM_program_77 fl_RM_43 h0 hT (show sp 8 6 = some 1 from rfl) ?_
          obtain ⟨I10, e_80, h⟩ := bd1_some h
          refine x_callVv (av := fun ad => []) C dRM_program_80 mfGu_makeStale mvGu_makeStale ln_RM_215 t_77 (by decide) rfl (f_Gu_makeStale hT t_77 e_80) rfl rfl (Nat.le_of_ble_eq_true rfl) ⟨Nat.le_of_ble_eq_true rfl, Nat.le_of_ble_eq_true rfl⟩ ⟨rfl, rfl⟩ ⟨Nat.zero_le _, Nat.zero_le _⟩ ?_
          refine g_aload_n C dRM_program_83 rfl ?_
          have t_84 := rf_ok hT h0 (show sp 8 7 = some 6 from rfl)
          refine x_getr C dRM_program_84 fl_RM_50 h0 hT (show sp 8 7 = some 6 from rfl) ?_
          refine g_iconst (v := Int32.ofInt (0)) C dRM_program_87 (by decide) ?_
          refine x_puti C dRM_program_88 fl_RM_218 t_84 rfl (Or.inr ⟨rfl, by decide⟩) h (fun I11 h => ?_)
          refine g_aload_n C dRM_program_91 rfl ?_
          obtain ⟨z_92, I12, e_92, h⟩ := bd2_some h
          refine x_callVi (av := fun ad => []) C dRM_program_92 mfRM_allow mvRM_allow ln_RM_137 h0 (by decide) rfl (f_RM_allow hT h0 e_92) rfl rfl (Nat.le_of_ble_eq_true rfl) ⟨Nat.le_of_ble_eq_true rfl, Nat.le_of_ble_eq_true rfl⟩ ⟨rfl, rfl⟩ ⟨Nat.zero_le _, Nat.zero_le _⟩ ?_
          obtain ⟨g_95, h⟩ := x_g h
          exact x_zret1 C E dRM_program_95 (x_01 g_95) ⟨Nat.zero_le _, Nat.zero_le _⟩ h
        · have h := x_pos c_33 h
          exact g_sub (hk_36  h) ⟨rfl, rfl, rfl, rfl, rfl, trivial⟩
    · have h := x_pos c_13 h
      exact g_sub (hk_16  h) ⟨rfl, rfl, rfl, rfl, rfl, trivial⟩
def F_RM_seen (N : Nat) (O : WO) (I0 : WI) (J0 : WJ) (a0 : Nat) (x1 : Int32) (x2 : Int32) (x3 : Int32) (x4 : Int32) : Option (Int32 × WI) := bd1 (F_RM_isHour N O I0 J0 x1) fun z_1 => jn (bd2 (F_RM_refuse N O I0 J0 a0 (Int32.ofInt (1))) fun z_17 I2 => some (z_17, I2)) fun k_15 => if (z_1).toInt = 0 then (k_15 ) else (bd1 (F_RM_isHeard N O I0 J0 a0 x2) fun z_9 => if (z_9).toInt = 0 then (k_15 ) else (jn (bd2 (F_RM_refuse N O I0 J0 a0 (Int32.ofInt (2))) fun z_46 I4 => some (z_46, I4)) fun k_44 => if (x3).toInt < 0 then (k_44 ) else (if 999999 < (x3).toInt then (k_44 ) else (if (x4).toInt < 0 then (k_44 ) else (if (x4).toInt ≤ 999 then (bd1 (F_Si_isFilled N O I0 J0 (rf O a0 7)) fun z_54 => if (z_54).toInt = 0 then (bd2 (F_Si_note N O I0 J0 (rf O a0 7) x1 x2 x3 x4) fun z_76 I6 => bd2 (F_RM_accept N O I6 J0 a0 z_76) fun z_79 I7 => some (z_79, I7)) else (bd2 (F_RM_refuse N O I0 J0 a0 (Int32.ofInt (3))) fun z_62 I8 => some (z_62, I8))) else (k_44 ))))))
set_option maxHeartbeats 4000000 in
set_option maxRecDepth 100000 in
theorem f_RM_seen {P : List Nat} {K : Nat → Nat} {N : Nat} {O : WO} {I0 : WI} {J0 : WJ} (hT : TR P K O) {a0 : Nat} (h0 : a0 ∈ P ∧ K a0 = 8) {x1 : Int32} {x2 : Int32} {x3 : Int32} {x4 : Int32} {r : Int32} {I' : WI} (h : F_RM_seen N O I0 J0 a0 x1 x2 x3 x4 = some (r, I')) : Con yRM_seen bRM_seen 5 (some .int) ({ frames := 1, cells := 0, slots := 0, locals := 24 } : Room) P K I0 O J0 [.ref a0, .int x1, .int x2, .int x3, .int x4] (EPo (some (.int r)) I' J0 P K O) := by
  refine Con.ofG mfRM_seen (Nat.le_of_ble_eq_true rfl) ?_
  intro X C E
  unfold F_RM_seen at h
  refine g_iload_n C dRM_seen_0 rfl ?_
  obtain ⟨z_1, e_1, h⟩ := bd1_some h
  refine x_callSi (av := fun ad => [.int x1]) C dRM_seen_1 mfRM_isHour msRM_isHour ln_RM_212 (f_RM_isHour hT  e_1) rfl rfl (Nat.le_of_ble_eq_true rfl) ⟨Nat.le_of_ble_eq_true rfl, Nat.le_of_ble_eq_true rfl⟩ ⟨rfl, rfl⟩ ⟨Nat.zero_le _, Nat.zero_le _⟩ ?_
  refine x_jn h (fun (k_15 : Option (Int32 × WI)) => k_15  = some (r, I') → GG X 5 P K I0 O J0 0 0 15 [(0, .ref a0), (1, .int x1), (2, .int x2), (3, .int x3), (4, .int x4)] []) (fun  h => ?_) (fun k_15 hk_15 h => ?_)
  · skip
    refine g_aload_n C dRM_seen_15 rfl ?_
    refine g_iconst (v := Int32.ofInt (1)) C dRM_seen_16 (by decide) ?_
    obtain ⟨z_17, I2, e_17, h⟩ := bd2_some h
    refine x_callVi (av := fun ad => [.int (Int32.ofInt (1))]) C dRM_seen_17 mfRM_refuse mvRM_refuse ln_RM_96 h0 (by decide) rfl (f_RM_refuse hT h0 e_17) rfl rfl (Nat.le_of_ble_eq_true rfl) ⟨Nat.le_of_ble_eq_true rfl, Nat.le_of_ble_eq_true rfl⟩ ⟨rfl, rfl⟩ ⟨Nat.zero_le _, Nat.zero_le _⟩ ?_
    exact x_iret1 C E dRM_seen_20 ⟨Nat.zero_le _, Nat.zero_le _⟩ h
  refine gt_if_eq 15 C dRM_seen_4 (by decide) rfl (fun c_4 => ?_) (fun c_4 => ?_)
  · have h := x_pos c_4 h
    exact g_sub (hk_15  h) ⟨rfl, rfl, rfl, rfl, rfl, trivial⟩
  · have h := x_neg c_4 h
    refine g_aload_n C dRM_seen_7 rfl ?_
    refine g_iload_n C dRM_seen_8 rfl ?_
    obtain ⟨z_9, e_9, h⟩ := bd1_some h
    refine x_callVi (av := fun ad => [.int x2]) C dRM_seen_9 mfRM_isHeard mvRM_isHeard ln_RM_221 h0 (by decide) rfl (f_RM_isHeard hT h0 e_9) rfl rfl (Nat.le_of_ble_eq_true rfl) ⟨Nat.le_of_ble_eq_true rfl, Nat.le_of_ble_eq_true rfl⟩ ⟨rfl, rfl⟩ ⟨Nat.zero_le _, Nat.zero_le _⟩ ?_
    refine gt_if_ne 21 C dRM_seen_12 (by decide) rfl (fun c_12 => ?_) (fun c_12 => ?_)
    · have h := x_neg c_12 h
      refine g_iload_n C dRM_seen_21 rfl ?_
      refine x_jn h (fun (k_44 : Option (Int32 × WI)) => k_44  = some (r, I') → GG X 5 P K I0 O J0 0 0 44 [(0, .ref a0), (1, .int x1), (2, .int x2), (3, .int x3), (4, .int x4)] []) (fun  h => ?_) (fun k_44 hk_44 h => ?_)
      · skip
        refine g_aload_n C dRM_seen_44 rfl ?_
        refine g_iconst (v := Int32.ofInt (2)) C dRM_seen_45 (by decide) ?_
        obtain ⟨z_46, I4, e_46, h⟩ := bd2_some h
        refine x_callVi (av := fun ad => [.int (Int32.ofInt (2))]) C dRM_seen_46 mfRM_refuse mvRM_refuse ln_RM_96 h0 (by decide) rfl (f_RM_refuse hT h0 e_46) rfl rfl (Nat.le_of_ble_eq_true rfl) ⟨Nat.le_of_ble_eq_true rfl, Nat.le_of_ble_eq_true rfl⟩ ⟨rfl, rfl⟩ ⟨Nat.zero_le _, Nat.zero_le _⟩ ?_
        exact x_iret1 C E dRM_seen_49 ⟨Nat.zero_le _, Nat.zero_le _⟩ h
      refine gt_if_lt 44 C dRM_seen_22 (by decide) rfl (fun c_22 => ?_) (fun c_22 => ?_)
      · have h := x_pos c_22 h
        exact g_sub (hk_44  h) ⟨rfl, rfl, rfl, rfl, rfl, trivial⟩
      · have h := x_neg (Int.not_lt.mpr c_22) h
        refine g_iload_n C dRM_seen_25 rfl ?_
        refine g_ldc (v := Int32.ofInt (999999)) C dRM_seen_26 k_RM_224 ?_
        refine gt_icmp_gt 44 C dRM_seen_28 (by decide) rfl (ofI (by decide)) (fun c_28 => ?_) (fun c_28 => ?_)
        · have h := x_pos c_28 h
          exact g_sub (hk_44  h) ⟨rfl, rfl, rfl, rfl, rfl, trivial⟩
        · have h := x_neg (Int.not_lt.mpr c_28) h
          refine g_iload C dRM_seen_31 rfl ?_
          refine gt_if_lt 44 C dRM_seen_33 (by decide) rfl (fun c_33 => ?_) (fun c_33 => ?_)
          · have h := x_pos c_33 h
            exact g_sub (hk_44  h) ⟨rfl, rfl, rfl, rfl, rfl, trivial⟩
          · have h := x_neg (Int.not_lt.mpr c_33) h
            refine g_iload C dRM_seen_36 rfl ?_
            refine g_sipush (v := Int32.ofInt (999)) C dRM_seen_38 (by decide) ?_
            refine gt_icmp_le 50 C dRM_seen_41 (by decide) rfl (ofI (by decide)) (fun c_41 => ?_) (fun c_41 => ?_)
            · have h := x_pos c_41 h
              refine g_aload_n C dRM_seen_50 rfl ?_
              have t_51 := rf_ok hT h0 (show sp 8 7 = some 6 from rfl)
              refine x_getr C dRM_seen_51 fl_RM_50 h0 hT (show sp 8 7 = some 6 from rfl) ?_
              obtain ⟨z_54, e_54, h⟩ := bd1_some h
              refine x_callVi (av := fun ad => []) C dRM_seen_54 mfSi_isFilled mvSi_isFilled ln_RM_225 t_51 (by decide) rfl (f_Si_isFilled hT t_51 e_54) rfl rfl (Nat.le_of_ble_eq_true rfl) ⟨Nat.le_of_ble_eq_true rfl, Nat.le_of_ble_eq_true rfl⟩ ⟨rfl, rfl⟩ ⟨Nat.zero_le _, Nat.zero_le _⟩ ?_
              refine gt_if_eq 66 C dRM_seen_57 (by decide) rfl (fun c_57 => ?_) (fun c_57 => ?_)
              · have h := x_pos c_57 h
                refine g_aload_n C dRM_seen_66 rfl ?_
                refine g_aload_n C dRM_seen_67 rfl ?_
                have t_68 := rf_ok hT h0 (show sp 8 7 = some 6 from rfl)
                refine x_getr C dRM_seen_68 fl_RM_50 h0 hT (show sp 8 7 = some 6 from rfl) ?_
                refine g_iload_n C dRM_seen_71 rfl ?_
                refine g_iload_n C dRM_seen_72 rfl ?_
                refine g_iload_n C dRM_seen_73 rfl ?_
                refine g_iload C dRM_seen_74 rfl ?_
                obtain ⟨z_76, I6, e_76, h⟩ := bd2_some h
                refine x_callVi (av := fun ad => [.int x1, .int x2, .int x3, .int x4]) C dRM_seen_76 mfSi_note mvSi_note ln_RM_228 t_68 (by decide) rfl (f_Si_note hT t_68 e_76) rfl rfl (Nat.le_of_ble_eq_true rfl) ⟨Nat.le_of_ble_eq_true rfl, Nat.le_of_ble_eq_true rfl⟩ ⟨rfl, rfl⟩ ⟨Nat.zero_le _, Nat.zero_le _⟩ ?_
                obtain ⟨z_79, I7, e_79, h⟩ := bd2_some h
                refine x_callVi (av := fun ad => [.int z_76]) C dRM_seen_79 mfRM_accept mvRM_accept ln_RM_122 h0 (by decide) rfl (f_RM_accept hT h0 e_79) rfl rfl (Nat.le_of_ble_eq_true rfl) ⟨Nat.le_of_ble_eq_true rfl, Nat.le_of_ble_eq_true rfl⟩ ⟨rfl, rfl⟩ ⟨Nat.zero_le _, Nat.zero_le _⟩ ?_
                exact x_iret1 C E dRM_seen_82 ⟨Nat.zero_le _, Nat.zero_le _⟩ h
              · have h := x_neg c_57 h
                refine g_aload_n C dRM_seen_60 rfl ?_
                refine g_iconst (v := Int32.ofInt (3)) C dRM_seen_61 (by decide) ?_
                obtain ⟨z_62, I8, e_62, h⟩ := bd2_some h
                refine x_callVi (av := fun ad => [.int (Int32.ofInt (3))]) C dRM_seen_62 mfRM_refuse mvRM_refuse ln_RM_96 h0 (by decide) rfl (f_RM_refuse hT h0 e_62) rfl rfl (Nat.le_of_ble_eq_true rfl) ⟨Nat.le_of_ble_eq_true rfl, Nat.le_of_ble_eq_true rfl⟩ ⟨rfl, rfl⟩ ⟨Nat.zero_le _, Nat.zero_le _⟩ ?_
                exact x_iret1 C E dRM_seen_65 ⟨Nat.zero_le _, Nat.zero_le _⟩ h
            · have h := x_neg (Int.not_le.mpr c_41) h
              exact g_sub (hk_44  h) ⟨rfl, rfl, rfl, rfl, rfl, trivial⟩
    · have h := x_pos c_12 h
      exact g_sub (hk_15  h) ⟨rfl, rfl, rfl, rfl, rfl, trivial⟩
def F_RM_forget (N : Nat) (O : WO) (I0 : WI) (J0 : WJ) (a0 : Nat) : Option (Int32 × WI) := bd2 (F_Si_drop N O I0 J0 (rf O a0 7)) fun z_4 I1 => some (z_4, I1)
set_option maxHeartbeats 4000000 in
set_option maxRecDepth 100000 in
theorem f_RM_forget {P : List Nat} {K : Nat → Nat} {N : Nat} {O : WO} {I0 : WI} {J0 : WJ} (hT : TR P K O) {a0 : Nat} (h0 : a0 ∈ P ∧ K a0 = 8) {r : Int32} {I' : WI} (h : F_RM_forget N O I0 J0 a0 = some (r, I')) : Con yRM_forget bRM_forget 1 (some .int) ({ frames := 1, cells := 0, slots := 0, locals := 21 } : Room) P K I0 O J0 [.ref a0] (EPo (some (.int r)) I' J0 P K O) := by
  refine Con.ofG mfRM_forget (Nat.le_of_ble_eq_true rfl) ?_
  intro X C E
  unfold F_RM_forget at h
  refine g_aload_n C dRM_forget_0 rfl ?_
  have t_1 := rf_ok hT h0 (show sp 8 7 = some 6 from rfl)
  refine x_getr C dRM_forget_1 fl_RM_50 h0 hT (show sp 8 7 = some 6 from rfl) ?_
  obtain ⟨z_4, I1, e_4, h⟩ := bd2_some h
  refine x_callVi (av := fun ad => []) C dRM_forget_4 mfSi_drop mvSi_drop ln_RM_232 t_1 (by decide) rfl (f_Si_drop hT t_1 e_4) rfl rfl (Nat.le_of_ble_eq_true rfl) ⟨Nat.le_of_ble_eq_true rfl, Nat.le_of_ble_eq_true rfl⟩ ⟨rfl, rfl⟩ ⟨Nat.zero_le _, Nat.zero_le _⟩ ?_
  exact x_iret1 C E dRM_forget_7 ⟨Nat.zero_le _, Nat.zero_le _⟩ h
def F_RM_fits (N : Nat) (O : WO) (I0 : WI) (J0 : WJ) (a0 : Nat) : Option (Int32 × WI) := bd1 (F_RM_noMill N O I0 J0 a0) fun z_1 => if (z_1).toInt = 0 then (bd2 (F_RM_findFits N O I0 J0 a0) fun z_15 I2 => bd2 (F_RM_accept N O I2 J0 a0 z_15) fun z_18 I3 => some (z_18, I3)) else (bd2 (F_RM_refuse N O I0 J0 a0 (Int32.ofInt (1))) fun z_9 I4 => some (z_9, I4))
set_option maxHeartbeats 4000000 in
set_option maxRecDepth 100000 in
theorem f_RM_fits {P : List Nat} {K : Nat → Nat} {N : Nat} {O : WO} {I0 : WI} {J0 : WJ} (hT : TR P K O) {a0 : Nat} (h0 : a0 ∈ P ∧ K a0 = 8) {r : Int32} {I' : WI} (h : F_RM_fits N O I0 J0 a0 = some (r, I')) : Con yRM_fits bRM_fits 1 (some .int) ({ frames := 7, cells := 0, slots := 0, locals := 156 } : Room) P K I0 O J0 [.ref a0] (EPo (some (.int r)) I' J0 P K O) := by
  refine Con.ofG mfRM_fits (Nat.le_of_ble_eq_true rfl) ?_
  intro X C E
  unfold F_RM_fits at h
  refine g_aload_n C dRM_fits_0 rfl ?_
  obtain ⟨z_1, e_1, h⟩ := bd1_some h
  refine x_callVi (av := fun ad => []) C dRM_fits_1 mfRM_noMill mvRM_noMill ln_RM_141 h0 (by decide) rfl (f_RM_noMill hT h0 e_1) rfl rfl (Nat.le_of_ble_eq_true rfl) ⟨Nat.le_of_ble_eq_true rfl, Nat.le_of_ble_eq_true rfl⟩ ⟨rfl, rfl⟩ ⟨Nat.zero_le _, Nat.zero_le _⟩ ?_
  refine gt_if_eq 13 C dRM_fits_4 (by decide) rfl (fun c_4 => ?_) (fun c_4 => ?_)
  · have h := x_pos c_4 h
    refine g_aload_n C dRM_fits_13 rfl ?_
    refine g_aload_n C dRM_fits_14 rfl ?_
    obtain ⟨z_15, I2, e_15, h⟩ := bd2_some h
    refine x_callVi (av := fun ad => []) C dRM_fits_15 mfRM_findFits mvRM_findFits ln_RM_236 h0 (by decide) rfl (f_RM_findFits hT h0 e_15) rfl rfl (Nat.le_of_ble_eq_true rfl) ⟨Nat.le_of_ble_eq_true rfl, Nat.le_of_ble_eq_true rfl⟩ ⟨rfl, rfl⟩ ⟨Nat.zero_le _, Nat.zero_le _⟩ ?_
    obtain ⟨z_18, I3, e_18, h⟩ := bd2_some h
    refine x_callVi (av := fun ad => [.int z_15]) C dRM_fits_18 mfRM_accept mvRM_accept ln_RM_122 h0 (by decide) rfl (f_RM_accept hT h0 e_18) rfl rfl (Nat.le_of_ble_eq_true rfl) ⟨Nat.le_of_ble_eq_true rfl, Nat.le_of_ble_eq_true rfl⟩ ⟨rfl, rfl⟩ ⟨Nat.zero_le _, Nat.zero_le _⟩ ?_
    exact x_iret1 C E dRM_fits_21 ⟨Nat.zero_le _, Nat.zero_le _⟩ h
  · have h := x_neg c_4 h
    refine g_aload_n C dRM_fits_7 rfl ?_
    refine g_iconst (v := Int32.ofInt (1)) C dRM_fits_8 (by decide) ?_
    obtain ⟨z_9, I4, e_9, h⟩ := bd2_some h
    refine x_callVi (av := fun ad => [.int (Int32.ofInt (1))]) C dRM_fits_9 mfRM_refuse mvRM_refuse ln_RM_96 h0 (by decide) rfl (f_RM_refuse hT h0 e_9) rfl rfl (Nat.le_of_ble_eq_true rfl) ⟨Nat.le_of_ble_eq_true rfl, Nat.le_of_ble_eq_true rfl⟩ ⟨rfl, rfl⟩ ⟨Nat.zero_le _, Nat.zero_le _⟩ ?_
    exact x_iret1 C E dRM_fits_12 ⟨Nat.zero_le _, Nat.zero_le _⟩ h
def F_RM_fitAt (N : Nat) (O : WO) (I0 : WI) (J0 : WJ) (a0 : Nat) (x1 : Int32) (x2 : Int32) : Option (Int32 × WI) := bd1 (F_RM_noMill N O I0 J0 a0) fun z_1 => jn (fun (IJ_28 : WI) => bd2 (F_RM_refuse N O IJ_28 J0 a0 (Int32.ofInt (1))) fun z_30 I2 => some (z_30, I2)) fun k_28 => if (z_1).toInt = 0 then (if (x2).toInt < 0 then (k_28  I0) else (if 2 < (x2).toInt then (k_28  I0) else (if (x1).toInt < 0 then (k_28  I0) else (bd2 (F_RM_findFits N O I0 J0 a0) fun z_22 I3 => if (x1).toInt < (z_22).toInt then (bd1 (F_Si_fitOf N O I3 J0 (rf O a0 7) x1) fun z_40 => bd1 (F_RM_partOfStart N O I3 J0 z_40 x2) fun z_44 => bd2 (F_RM_accept N O I3 J0 a0 z_44) fun z_47 I6 => some (z_47, I6)) else (k_28  I3))))) else (k_28  I0)
set_option maxHeartbeats 4000000 in
set_option maxRecDepth 100000 in
theorem f_RM_fitAt {P : List Nat} {K : Nat → Nat} {N : Nat} {O : WO} {I0 : WI} {J0 : WJ} (hT : TR P K O) {a0 : Nat} (h0 : a0 ∈ P ∧ K a0 = 8) {x1 : Int32} {x2 : Int32} {r : Int32} {I' : WI} (h : F_RM_fitAt N O I0 J0 a0 x1 x2 = some (r, I')) : Con yRM_fitAt bRM_fitAt 3 (some .int) ({ frames := 7, cells := 0, slots := 0, locals := 156 } : Room) P K I0 O J0 [.ref a0, .int x1, .int x2] (EPo (some (.int r)) I' J0 P K O) := by
  refine Con.ofG mfRM_fitAt (Nat.le_of_ble_eq_true rfl) ?_
  intro X C E
  unfold F_RM_fitAt at h
  refine g_aload_n C dRM_fitAt_0 rfl ?_
  obtain ⟨z_1, e_1, h⟩ := bd1_some h
  refine x_callVi (av := fun ad => []) C dRM_fitAt_1 mfRM_noMill mvRM_noMill ln_RM_141 h0 (by decide) rfl (f_RM_noMill hT h0 e_1) rfl rfl (Nat.le_of_ble_eq_true rfl) ⟨Nat.le_of_ble_eq_true rfl, Nat.le_of_ble_eq_true rfl⟩ ⟨rfl, rfl⟩ ⟨Nat.zero_le _, Nat.zero_le _⟩ ?_
  refine x_jn h (fun (k_28 : WI → Option (Int32 × WI)) => ∀ (IJ_28 : WI), k_28 IJ_28 = some (r, I') → GG X 3 P K IJ_28 O J0 0 0 28 [(0, .ref a0), (1, .int x1), (2, .int x2)] []) (fun IJ_28 h => ?_) (fun k_28 hk_28 h => ?_)
  · skip
    refine g_aload_n C dRM_fitAt_28 rfl ?_
    refine g_iconst (v := Int32.ofInt (1)) C dRM_fitAt_29 (by decide) ?_
    obtain ⟨z_30, I2, e_30, h⟩ := bd2_some h
    refine x_callVi (av := fun ad => [.int (Int32.ofInt (1))]) C dRM_fitAt_30 mfRM_refuse mvRM_refuse ln_RM_96 h0 (by decide) rfl (f_RM_refuse hT h0 e_30) rfl rfl (Nat.le_of_ble_eq_true rfl) ⟨Nat.le_of_ble_eq_true rfl, Nat.le_of_ble_eq_true rfl⟩ ⟨rfl, rfl⟩ ⟨Nat.zero_le _, Nat.zero_le _⟩ ?_
    exact x_iret1 C E dRM_fitAt_33 ⟨Nat.zero_le _, Nat.zero_le _⟩ h
  refine gt_if_ne 28 C dRM_fitAt_4 (by decide) rfl (fun c_4 => ?_) (fun c_4 => ?_)
  · have h := x_neg c_4 h
    exact g_sub (hk_28  I0 h) ⟨rfl, rfl, rfl, trivial⟩
  · have h := x_pos c_4 h
    refine g_iload_n C dRM_fitAt_7 rfl ?_
    refine gt_if_lt 28 C dRM_fitAt_8 (by decide) rfl (fun c_8 => ?_) (fun c_8 => ?_)
    · have h := x_pos c_8 h
      exact g_sub (hk_28  I0 h) ⟨rfl, rfl, rfl, trivial⟩
    · have h := x_neg (Int.not_lt.mpr c_8) h
      refine g_iload_n C dRM_fitAt_11 rfl ?_
      refine g_iconst (v := Int32.ofInt (2)) C dRM_fitAt_12 (by decide) ?_
      refine gt_icmp_gt 28 C dRM_fitAt_13 (by decide) rfl (ofI (by decide)) (fun c_13 => ?_) (fun c_13 => ?_)
      · have h := x_pos c_13 h
        exact g_sub (hk_28  I0 h) ⟨rfl, rfl, rfl, trivial⟩
      · have h := x_neg (Int.not_lt.mpr c_13) h
        refine g_iload_n C dRM_fitAt_16 rfl ?_
        refine gt_if_lt 28 C dRM_fitAt_17 (by decide) rfl (fun c_17 => ?_) (fun c_17 => ?_)
        · have h := x_pos c_17 h
          exact g_sub (hk_28  I0 h) ⟨rfl, rfl, rfl, trivial⟩
        · have h := x_neg (Int.not_lt.mpr c_17) h
          refine g_iload_n C dRM_fitAt_20 rfl ?_
          refine g_aload_n C dRM_fitAt_21 rfl ?_
          obtain ⟨z_22, I3, e_22, h⟩ := bd2_some h
          refine x_callVi (av := fun ad => []) C dRM_fitAt_22 mfRM_findFits mvRM_findFits ln_RM_236 h0 (by decide) rfl (f_RM_findFits hT h0 e_22) rfl rfl (Nat.le_of_ble_eq_true rfl) ⟨Nat.le_of_ble_eq_true rfl, Nat.le_of_ble_eq_true rfl⟩ ⟨rfl, rfl⟩ ⟨Nat.zero_le _, Nat.zero_le _⟩ ?_
          refine gt_icmp_lt 34 C dRM_fitAt_25 (by decide) rfl rfl (fun c_25 => ?_) (fun c_25 => ?_)
          · have h := x_pos c_25 h
            refine g_aload_n C dRM_fitAt_34 rfl ?_
            refine g_aload_n C dRM_fitAt_35 rfl ?_
            have t_36 := rf_ok hT h0 (show sp 8 7 = some 6 from rfl)
            refine x_getr C dRM_fitAt_36 fl_RM_50 h0 hT (show sp 8 7 = some 6 from rfl) ?_
            refine g_iload_n C dRM_fitAt_39 rfl ?_
            obtain ⟨z_40, e_40, h⟩ := bd1_some h
            refine x_callVi (av := fun ad => [.int x1]) C dRM_fitAt_40 mfSi_fitOf mvSi_fitOf ln_RM_239 t_36 (by decide) rfl (f_Si_fitOf hT t_36 e_40) rfl rfl (Nat.le_of_ble_eq_true rfl) ⟨Nat.le_of_ble_eq_true rfl, Nat.le_of_ble_eq_true rfl⟩ ⟨rfl, rfl⟩ ⟨Nat.zero_le _, Nat.zero_le _⟩ ?_
            refine g_iload_n C dRM_fitAt_43 rfl ?_
            obtain ⟨z_44, e_44, h⟩ := bd1_some h
            refine x_callSi (av := fun ad => [.int z_40, .int x2]) C dRM_fitAt_44 mfRM_partOfStart msRM_partOfStart ln_RM_242 (f_RM_partOfStart hT  e_44) rfl rfl (Nat.le_of_ble_eq_true rfl) ⟨Nat.le_of_ble_eq_true rfl, Nat.le_of_ble_eq_true rfl⟩ ⟨rfl, rfl⟩ ⟨Nat.zero_le _, Nat.zero_le _⟩ ?_
            obtain ⟨z_47, I6, e_47, h⟩ := bd2_some h
            refine x_callVi (av := fun ad => [.int z_44]) C dRM_fitAt_47 mfRM_accept mvRM_accept ln_RM_122 h0 (by decide) rfl (f_RM_accept hT h0 e_47) rfl rfl (Nat.le_of_ble_eq_true rfl) ⟨Nat.le_of_ble_eq_true rfl, Nat.le_of_ble_eq_true rfl⟩ ⟨rfl, rfl⟩ ⟨Nat.zero_le _, Nat.zero_le _⟩ ?_
            exact x_iret1 C E dRM_fitAt_50 ⟨Nat.zero_le _, Nat.zero_le _⟩ h
          · have h := x_neg (Int.not_lt.mpr c_25) h
            exact g_sub (hk_28  I3 h) ⟨rfl, rfl, rfl, trivial⟩
def B_RM_certain_54 (N : Nat) (O : WO) (a0 : Nat) (x1 : Int32) (J0 : WJ) (z_23 : Int32) (z_47 : Int32) (rec_54 : Int32 → WI → Option (Int32 × WI)) (x4_54 : Int32) (I_54 : WI) : Option (Int32 × WI) := if (z_23).toInt ≤ (x4_54).toInt then (bd2 (F_RM_accept N O I_54 J0 a0 z_47) fun z_92 I6 => some (z_92, I6)) else (bd1 (F_Si_fitOf N O I_54 J0 (rf O a0 7) x4_54) fun z_66 => bd1 (F_RM_partOfStart N O I_54 J0 z_66 x1) fun z_70 => if (z_70).toInt = (z_47).toInt then (lb (x4_54 + Int32.ofInt (1)) fun v4_84 => rec_54 (v4_84) I_54) else (bd2 (F_RM_accept N O I_54 J0 a0 (Int32.ofInt (-2))) fun z_80 I9 => some (z_80, I9)))
def F_RM_certain (N : Nat) (O : WO) (I0 : WI) (J0 : WJ) (a0 : Nat) (x1 : Int32) : Option (Int32 × WI) := bd1 (F_RM_noMill N O I0 J0 a0) fun z_1 => jn (bd2 (F_RM_refuse N O I0 J0 a0 (Int32.ofInt (1))) fun z_18 I2 => some (z_18, I2)) fun k_16 => if (z_1).toInt = 0 then (if (x1).toInt < 0 then (k_16 ) else (if (x1).toInt ≤ 2 then (bd2 (F_RM_findFits N O I0 J0 a0) fun z_23 I3 => if (z_23).toInt = 0 then (bd2 (F_RM_refuse N O I3 J0 a0 (Int32.ofInt (6))) fun z_34 I10 => some (z_34, I10)) else (bd1 (F_Si_fitOf N O I3 J0 (rf O a0 7) (Int32.ofInt (0))) fun z_43 => bd1 (F_RM_partOfStart N O I3 J0 z_43 x1) fun z_47 => lp (B_RM_certain_54 N O a0 x1 J0 z_23 z_47) (fun _ _ => none) N ((Int32.ofInt (1))) I3)) else (k_16 ))) else (k_16 )
set_option maxHeartbeats 4000000 in
set_option maxRecDepth 100000 in
theorem f_RM_certain {P : List Nat} {K : Nat → Nat} {N : Nat} {O : WO} {I0 : WI} {J0 : WJ} (hT : TR P K O) {a0 : Nat} (h0 : a0 ∈ P ∧ K a0 = 8) {x1 : Int32} {r : Int32} {I' : WI} (h : F_RM_certain N O I0 J0 a0 x1 = some (r, I')) : Con yRM_certain bRM_certain 5 (some .int) ({ frames := 7, cells := 0, slots := 0, locals := 156 } : Room) P K I0 O J0 [.ref a0, .int x1] (EPo (some (.int r)) I' J0 P K O) := by
  refine Con.ofG mfRM_certain (Nat.le_of_ble_eq_true rfl) ?_
  intro X C E
  unfold F_RM_certain at h
  refine g_aload_n C dRM_certain_0 rfl ?_
  obtain ⟨z_1, e_1, h⟩ := bd1_some h
  refine x_callVi (av := fun ad => []) C dRM_certain_1 mfRM_noMill mvRM_noMill ln_RM_141 h0 (by decide) rfl (f_RM_noMill hT h0 e_1) rfl rfl (Nat.le_of_ble_eq_true rfl) ⟨Nat.le_of_ble_eq_true rfl, Nat.le_of_ble_eq_true rfl⟩ ⟨rfl, rfl⟩ ⟨Nat.zero_le _, Nat.zero_le _⟩ ?_
  refine x_jn h (fun (k_16 : Option (Int32 × WI)) => k_16  = some (r, I') → GG X 5 P K I0 O J0 0 0 16 [(0, .ref a0), (1, .int x1)] []) (fun  h => ?_) (fun k_16 hk_16 h => ?_)
  · skip
    refine g_aload_n C dRM_certain_16 rfl ?_
    refine g_iconst (v := Int32.ofInt (1)) C dRM_certain_17 (by decide) ?_
    obtain ⟨z_18, I2, e_18, h⟩ := bd2_some h
    refine x_callVi (av := fun ad => [.int (Int32.ofInt (1))]) C dRM_certain_18 mfRM_refuse mvRM_refuse ln_RM_96 h0 (by decide) rfl (f_RM_refuse hT h0 e_18) rfl rfl (Nat.le_of_ble_eq_true rfl) ⟨Nat.le_of_ble_eq_true rfl, Nat.le_of_ble_eq_true rfl⟩ ⟨rfl, rfl⟩ ⟨Nat.zero_le _, Nat.zero_le _⟩ ?_
    exact x_iret1 C E dRM_certain_21 ⟨Nat.zero_le _, Nat.zero_le _⟩ h
  refine gt_if_ne 16 C dRM_certain_4 (by decide) rfl (fun c_4 => ?_) (fun c_4 => ?_)
  · have h := x_neg c_4 h
    exact g_sub (hk_16  h) ⟨rfl, rfl, trivial⟩
  · have h := x_pos c_4 h
    refine g_iload_n C dRM_certain_7 rfl ?_
    refine gt_if_lt 16 C dRM_certain_8 (by decide) rfl (fun c_8 => ?_) (fun c_8 => ?_)
    · have h := x_pos c_8 h
      exact g_sub (hk_16  h) ⟨rfl, rfl, trivial⟩
    · have h := x_neg (Int.not_lt.mpr c_8) h
      refine g_iload_n C dRM_certain_11 rfl ?_
      refine g_iconst (v := Int32.ofInt (2)) C dRM_certain_12 (by decide) ?_
      refine gt_icmp_le 22 C dRM_certain_13 (by decide) rfl (ofI (by decide)) (fun c_13 => ?_) (fun c_13 => ?_)
      · have h := x_pos c_13 h
        refine g_aload_n C dRM_certain_22 rfl ?_
        obtain ⟨z_23, I3, e_23, h⟩ := bd2_some h
        refine x_callVi (av := fun ad => []) C dRM_certain_23 mfRM_findFits mvRM_findFits ln_RM_236 h0 (by decide) rfl (f_RM_findFits hT h0 e_23) rfl rfl (Nat.le_of_ble_eq_true rfl) ⟨Nat.le_of_ble_eq_true rfl, Nat.le_of_ble_eq_true rfl⟩ ⟨rfl, rfl⟩ ⟨Nat.zero_le _, Nat.zero_le _⟩ ?_
        refine g_istore_n (i := 2) C dRM_certain_26 rfl (by decide) ?_
        refine g_iload_n C dRM_certain_27 rfl ?_
        refine gt_if_ne 38 C dRM_certain_28 (by decide) rfl (fun c_28 => ?_) (fun c_28 => ?_)
        · have h := x_neg c_28 h
          refine g_aload_n C dRM_certain_38 rfl ?_
          have t_39 := rf_ok hT h0 (show sp 8 7 = some 6 from rfl)
          refine x_getr C dRM_certain_39 fl_RM_50 h0 hT (show sp 8 7 = some 6 from rfl) ?_
          refine g_iconst (v := Int32.ofInt (0)) C dRM_certain_42 (by decide) ?_
          obtain ⟨z_43, e_43, h⟩ := bd1_some h
          refine x_callVi (av := fun ad => [.int (Int32.ofInt (0))]) C dRM_certain_43 mfSi_fitOf mvSi_fitOf ln_RM_239 t_39 (by decide) rfl (f_Si_fitOf hT t_39 e_43) rfl rfl (Nat.le_of_ble_eq_true rfl) ⟨Nat.le_of_ble_eq_true rfl, Nat.le_of_ble_eq_true rfl⟩ ⟨rfl, rfl⟩ ⟨Nat.zero_le _, Nat.zero_le _⟩ ?_
          refine g_iload_n C dRM_certain_46 rfl ?_
          obtain ⟨z_47, e_47, h⟩ := bd1_some h
          refine x_callSi (av := fun ad => [.int z_43, .int x1]) C dRM_certain_47 mfRM_partOfStart msRM_partOfStart ln_RM_242 (f_RM_partOfStart hT  e_47) rfl rfl (Nat.le_of_ble_eq_true rfl) ⟨Nat.le_of_ble_eq_true rfl, Nat.le_of_ble_eq_true rfl⟩ ⟨rfl, rfl⟩ ⟨Nat.zero_le _, Nat.zero_le _⟩ ?_
          refine g_istore_n (i := 3) C dRM_certain_50 rfl (by decide) ?_
          refine g_iconst (v := Int32.ofInt (1)) C dRM_certain_51 (by decide) ?_
          refine g_istore C dRM_certain_52 (by decide) ?_
          have lp_54 : ∀ (x4_54 : Int32) (I_54 : WI), lp (B_RM_certain_54 N O a0 x1 J0 z_23 z_47) (fun _ _ => none) N x4_54 I_54 = some (r, I') → GG X 5 P K I_54 O J0 0 0 54 [(0, .ref a0), (1, .int x1), (2, .int z_23), (3, .int z_47), (4, .int x4_54)] [] := by
            refine x_lp (fun (rec_54 : Int32 → WI → Option (Int32 × WI)) => ∀ (x4_54 : Int32) (I_54 : WI), rec_54 x4_54 I_54 = some (r, I') → GG X 5 P K I_54 O J0 0 0 54 [(0, .ref a0), (1, .int x1), (2, .int z_23), (3, .int z_47), (4, .int x4_54)] []) (fun _ _ h => by cases h) (fun rec_54 hr_54 x4_54 I_54 h => ?_) N
            unfold B_RM_certain_54 at h
            refine g_iload C dRM_certain_54 rfl ?_
            refine g_iload_n C dRM_certain_56 rfl ?_
            refine gt_icmp_ge 90 C dRM_certain_57 (by decide) rfl rfl (fun c_57 => ?_) (fun c_57 => ?_)
            · have h := x_pos c_57 h
              refine g_aload_n C dRM_certain_90 rfl ?_
              refine g_iload_n C dRM_certain_91 rfl ?_
              obtain ⟨z_92, I6, e_92, h⟩ := bd2_some h
              refine x_callVi (av := fun ad => [.int z_47]) C dRM_certain_92 mfRM_accept mvRM_accept ln_RM_122 h0 (by decide) rfl (f_RM_accept hT h0 e_92) rfl rfl (Nat.le_of_ble_eq_true rfl) ⟨Nat.le_of_ble_eq_true rfl, Nat.le_of_ble_eq_true rfl⟩ ⟨rfl, rfl⟩ ⟨Nat.zero_le _, Nat.zero_le _⟩ ?_
              exact x_iret1 C E dRM_certain_95 ⟨Nat.zero_le _, Nat.zero_le _⟩ h
            · have h := x_neg (Int.not_le.mpr c_57) h
              refine g_aload_n C dRM_certain_60 rfl ?_
              have t_61 := rf_ok hT h0 (show sp 8 7 = some 6 from rfl)
              refine x_getr C dRM_certain_61 fl_RM_50 h0 hT (show sp 8 7 = some 6 from rfl) ?_
              refine g_iload C dRM_certain_64 rfl ?_
              obtain ⟨z_66, e_66, h⟩ := bd1_some h
              refine x_callVi (av := fun ad => [.int x4_54]) C dRM_certain_66 mfSi_fitOf mvSi_fitOf ln_RM_239 t_61 (by decide) rfl (f_Si_fitOf hT t_61 e_66) rfl rfl (Nat.le_of_ble_eq_true rfl) ⟨Nat.le_of_ble_eq_true rfl, Nat.le_of_ble_eq_true rfl⟩ ⟨rfl, rfl⟩ ⟨Nat.zero_le _, Nat.zero_le _⟩ ?_
              refine g_iload_n C dRM_certain_69 rfl ?_
              obtain ⟨z_70, e_70, h⟩ := bd1_some h
              refine x_callSi (av := fun ad => [.int z_66, .int x1]) C dRM_certain_70 mfRM_partOfStart msRM_partOfStart ln_RM_242 (f_RM_partOfStart hT  e_70) rfl rfl (Nat.le_of_ble_eq_true rfl) ⟨Nat.le_of_ble_eq_true rfl, Nat.le_of_ble_eq_true rfl⟩ ⟨rfl, rfl⟩ ⟨Nat.zero_le _, Nat.zero_le _⟩ ?_
              refine g_iload_n C dRM_certain_73 rfl ?_
              refine gt_icmp_eq 84 C dRM_certain_74 (by decide) rfl rfl (fun c_74 => ?_) (fun c_74 => ?_)
              · have h := x_pos c_74 h
                refine x_iinc C dRM_certain_84 rfl (by decide) h (fun v4_84 h => ?_)
                refine g_goto 54 C dRM_certain_87 (by decide) ?_
                exact g_sub (hr_54 (v4_84) I_54 h) ⟨rfl, rfl, rfl, rfl, rfl, trivial⟩
              · have h := x_neg c_74 h
                refine g_aload_n C dRM_certain_77 rfl ?_
                refine g_bipush (v := Int32.ofInt (-2)) C dRM_certain_78 (by decide) ?_
                obtain ⟨z_80, I9, e_80, h⟩ := bd2_some h
                refine x_callVi (av := fun ad => [.int (Int32.ofInt (-2))]) C dRM_certain_80 mfRM_accept mvRM_accept ln_RM_122 h0 (by decide) rfl (f_RM_accept hT h0 e_80) rfl rfl (Nat.le_of_ble_eq_true rfl) ⟨Nat.le_of_ble_eq_true rfl, Nat.le_of_ble_eq_true rfl⟩ ⟨rfl, rfl⟩ ⟨Nat.zero_le _, Nat.zero_le _⟩ ?_
                exact x_iret1 C E dRM_certain_83 ⟨Nat.zero_le _, Nat.zero_le _⟩ h
          exact g_sub (lp_54 ((Int32.ofInt (1))) I3 h) ⟨rfl, rfl, rfl, rfl, rfl, trivial⟩
        · have h := x_pos c_28 h
          refine g_aload_n C dRM_certain_31 rfl ?_
          refine g_bipush (v := Int32.ofInt (6)) C dRM_certain_32 (by decide) ?_
          obtain ⟨z_34, I10, e_34, h⟩ := bd2_some h
          refine x_callVi (av := fun ad => [.int (Int32.ofInt (6))]) C dRM_certain_34 mfRM_refuse mvRM_refuse ln_RM_96 h0 (by decide) rfl (f_RM_refuse hT h0 e_34) rfl rfl (Nat.le_of_ble_eq_true rfl) ⟨Nat.le_of_ble_eq_true rfl, Nat.le_of_ble_eq_true rfl⟩ ⟨rfl, rfl⟩ ⟨Nat.zero_le _, Nat.zero_le _⟩ ?_
          exact x_iret1 C E dRM_certain_37 ⟨Nat.zero_le _, Nat.zero_le _⟩ h
      · have h := x_neg (Int.not_le.mpr c_13) h
        exact g_sub (hk_16  h) ⟨rfl, rfl, trivial⟩
def F_RM_guess (N : Nat) (O : WO) (I0 : WI) (J0 : WJ) (a0 : Nat) (x1 : Int32) (x2 : Int32) (x3 : Int32) (x4 : Int32) (x5 : Int32) : Option (Int32 × WI) := bd1 (F_RM_noMill N O I0 J0 a0) fun z_1 => jn (bd2 (F_RM_refuse N O I0 J0 a0 (Int32.ofInt (1))) fun z_26 I2 => some (z_26, I2)) fun k_24 => if (z_1).toInt = 0 then (bd1 (F_RM_isHour N O I0 J0 x4) fun z_9 => if (z_9).toInt = 0 then (k_24 ) else (bd1 (F_RM_isHeard N O I0 J0 a0 x5) fun z_18 => if (z_18).toInt = 0 then (k_24 ) else (bd1 (F_RM_isStart N O I0 J0 x1 x2 x3) fun z_33 => if (z_33).toInt = 0 then (bd2 (F_RM_refuse N O I0 J0 a0 (Int32.ofInt (2))) fun z_41 I10 => some (z_41, I10)) else (bd1 (F_RM_startOf N O I0 J0 x1 x2 x3) fun z_48 => bd1 (F_Gu_tellOne N O I0 J0 (rf O a0 6) (rf O a0 1) (rf O a0 5) z_48) fun I7 => bd1 (F_Gu_toldOf N O I7 J0 (rf O a0 6) z_48 x4 x5) fun z_81 => bd2 (F_RM_accept N O I7 J0 a0 z_81) fun z_84 I9 => some (z_84, I9))))) else (k_24 )
set_option maxHeartbeats 4000000 in
set_option maxRecDepth 100000 in
theorem f_RM_guess {P : List Nat} {K : Nat → Nat} {N : Nat} {O : WO} {I0 : WI} {J0 : WJ} (hT : TR P K O) {a0 : Nat} (h0 : a0 ∈ P ∧ K a0 = 8) {x1 : Int32} {x2 : Int32} {x3 : Int32} {x4 : Int32} {x5 : Int32} {r : Int32} {I' : WI} (h : F_RM_guess N O I0 J0 a0 x1 x2 x3 x4 x5 = some (r, I')) : Con yRM_guess bRM_guess 7 (some .int) ({ frames := 5, cells := 0, slots := 0, locals := 113 } : Room) P K I0 O J0 [.ref a0, .int x1, .int x2, .int x3, .int x4, .int x5] (EPo (some (.int r)) I' J0 P K O) := by
  refine Con.ofG mfRM_guess (Nat.le_of_ble_eq_true rfl) ?_
  intro X C E
  unfold F_RM_guess at h
  refine g_aload_n C dRM_guess_0 rfl ?_
  obtain ⟨z_1, e_1, h⟩ := bd1_some h
  refine x_callVi (av := fun ad => []) C dRM_guess_1 mfRM_noMill mvRM_noMill ln_RM_141 h0 (by decide) rfl (f_RM_noMill hT h0 e_1) rfl rfl (Nat.le_of_ble_eq_true rfl) ⟨Nat.le_of_ble_eq_true rfl, Nat.le_of_ble_eq_true rfl⟩ ⟨rfl, rfl⟩ ⟨Nat.zero_le _, Nat.zero_le _⟩ ?_
  refine x_jn h (fun (k_24 : Option (Int32 × WI)) => k_24  = some (r, I') → GG X 7 P K I0 O J0 0 0 24 [(0, .ref a0), (1, .int x1), (2, .int x2), (3, .int x3), (4, .int x4), (5, .int x5)] []) (fun  h => ?_) (fun k_24 hk_24 h => ?_)
  · skip
    refine g_aload_n C dRM_guess_24 rfl ?_
    refine g_iconst (v := Int32.ofInt (1)) C dRM_guess_25 (by decide) ?_
    obtain ⟨z_26, I2, e_26, h⟩ := bd2_some h
    refine x_callVi (av := fun ad => [.int (Int32.ofInt (1))]) C dRM_guess_26 mfRM_refuse mvRM_refuse ln_RM_96 h0 (by decide) rfl (f_RM_refuse hT h0 e_26) rfl rfl (Nat.le_of_ble_eq_true rfl) ⟨Nat.le_of_ble_eq_true rfl, Nat.le_of_ble_eq_true rfl⟩ ⟨rfl, rfl⟩ ⟨Nat.zero_le _, Nat.zero_le _⟩ ?_
    exact x_iret1 C E dRM_guess_29 ⟨Nat.zero_le _, Nat.zero_le _⟩ h
  refine gt_if_ne 24 C dRM_guess_4 (by decide) rfl (fun c_4 => ?_) (fun c_4 => ?_)
  · have h := x_neg c_4 h
    exact g_sub (hk_24  h) ⟨rfl, rfl, rfl, rfl, rfl, rfl, trivial⟩
  · have h := x_pos c_4 h
    refine g_iload C dRM_guess_7 rfl ?_
    obtain ⟨z_9, e_9, h⟩ := bd1_some h
    refine x_callSi (av := fun ad => [.int x4]) C dRM_guess_9 mfRM_isHour msRM_isHour ln_RM_212 (f_RM_isHour hT  e_9) rfl rfl (Nat.le_of_ble_eq_true rfl) ⟨Nat.le_of_ble_eq_true rfl, Nat.le_of_ble_eq_true rfl⟩ ⟨rfl, rfl⟩ ⟨Nat.zero_le _, Nat.zero_le _⟩ ?_
    refine gt_if_eq 24 C dRM_guess_12 (by decide) rfl (fun c_12 => ?_) (fun c_12 => ?_)
    · have h := x_pos c_12 h
      exact g_sub (hk_24  h) ⟨rfl, rfl, rfl, rfl, rfl, rfl, trivial⟩
    · have h := x_neg c_12 h
      refine g_aload_n C dRM_guess_15 rfl ?_
      refine g_iload C dRM_guess_16 rfl ?_
      obtain ⟨z_18, e_18, h⟩ := bd1_some h
      refine x_callVi (av := fun ad => [.int x5]) C dRM_guess_18 mfRM_isHeard mvRM_isHeard ln_RM_221 h0 (by decide) rfl (f_RM_isHeard hT h0 e_18) rfl rfl (Nat.le_of_ble_eq_true rfl) ⟨Nat.le_of_ble_eq_true rfl, Nat.le_of_ble_eq_true rfl⟩ ⟨rfl, rfl⟩ ⟨Nat.zero_le _, Nat.zero_le _⟩ ?_
      refine gt_if_ne 30 C dRM_guess_21 (by decide) rfl (fun c_21 => ?_) (fun c_21 => ?_)
      · have h := x_neg c_21 h
        refine g_iload_n C dRM_guess_30 rfl ?_
        refine g_iload_n C dRM_guess_31 rfl ?_
        refine g_iload_n C dRM_guess_32 rfl ?_
        obtain ⟨z_33, e_33, h⟩ := bd1_some h
        refine x_callSi (av := fun ad => [.int x1, .int x2, .int x3]) C dRM_guess_33 mfRM_isStart msRM_isStart ln_RM_246 (f_RM_isStart hT  e_33) rfl rfl (Nat.le_of_ble_eq_true rfl) ⟨Nat.le_of_ble_eq_true rfl, Nat.le_of_ble_eq_true rfl⟩ ⟨rfl, rfl⟩ ⟨Nat.zero_le _, Nat.zero_le _⟩ ?_
        refine gt_if_ne 45 C dRM_guess_36 (by decide) rfl (fun c_36 => ?_) (fun c_36 => ?_)
        · have h := x_neg c_36 h
          refine g_iload_n C dRM_guess_45 rfl ?_
          refine g_iload_n C dRM_guess_46 rfl ?_
          refine g_iload_n C dRM_guess_47 rfl ?_
          obtain ⟨z_48, e_48, h⟩ := bd1_some h
          refine x_callSi (av := fun ad => [.int x1, .int x2, .int x3]) C dRM_guess_48 mfRM_startOf msRM_startOf ln_RM_250 (f_RM_startOf hT  e_48) rfl rfl (Nat.le_of_ble_eq_true rfl) ⟨Nat.le_of_ble_eq_true rfl, Nat.le_of_ble_eq_true rfl⟩ ⟨rfl, rfl⟩ ⟨Nat.zero_le _, Nat.zero_le _⟩ ?_
          refine g_istore C dRM_guess_51 (by decide) ?_
          refine g_aload_n C dRM_guess_53 rfl ?_
          have t_54 := rf_ok hT h0 (show sp 8 6 = some 1 from rfl)
          refine x_getr C dRM_guess_54 fl_RM_43 h0 hT (show sp 8 6 = some 1 from rfl) ?_
          refine g_aload_n C dRM_guess_57 rfl ?_
          have t_58 := rf_ok hT h0 (show sp 8 1 = some 3 from rfl)
          refine x_getr C dRM_guess_58 fl_RM_19 h0 hT (show sp 8 1 = some 3 from rfl) ?_
          refine g_aload_n C dRM_guess_61 rfl ?_
          have t_62 := rf_ok hT h0 (show sp 8 5 = some 19 from rfl)
          refine x_getr C dRM_guess_62 fl_RM_37 h0 hT (show sp 8 5 = some 19 from rfl) ?_
          refine g_iload C dRM_guess_65 rfl ?_
          obtain ⟨I7, e_67, h⟩ := bd1_some h
          refine x_callVv (av := fun ad => [.ref (rf O a0 1), .ref (rf O a0 5), .int z_48]) C dRM_guess_67 mfGu_tellOne mvGu_tellOne ln_RM_254 t_54 (by decide) rfl (f_Gu_tellOne hT t_54 t_58 t_62 e_67) rfl rfl (Nat.le_of_ble_eq_true rfl) ⟨Nat.le_of_ble_eq_true rfl, Nat.le_of_ble_eq_true rfl⟩ ⟨rfl, rfl⟩ ⟨Nat.zero_le _, Nat.zero_le _⟩ ?_
          refine g_aload_n C dRM_guess_70 rfl ?_
          refine g_aload_n C dRM_guess_71 rfl ?_
          have t_72 := rf_ok hT h0 (show sp 8 6 = some 1 from rfl)
          refine x_getr C dRM_guess_72 fl_RM_43 h0 hT (show sp 8 6 = some 1 from rfl) ?_
          refine g_iload C dRM_guess_75 rfl ?_
          refine g_iload C dRM_guess_77 rfl ?_
          refine g_iload C dRM_guess_79 rfl ?_
          obtain ⟨z_81, e_81, h⟩ := bd1_some h
          refine x_callVi (av := fun ad => [.int z_48, .int x4, .int x5]) C dRM_guess_81 mfGu_toldOf mvGu_toldOf ln_RM_257 t_72 (by decide) rfl (f_Gu_toldOf hT t_72 e_81) rfl rfl (Nat.le_of_ble_eq_true rfl) ⟨Nat.le_of_ble_eq_true rfl, Nat.le_of_ble_eq_true rfl⟩ ⟨rfl, rfl⟩ ⟨Nat.zero_le _, Nat.zero_le _⟩ ?_
          obtain ⟨z_84, I9, e_84, h⟩ := bd2_some h
          refine x_callVi (av := fun ad => [.int z_81]) C dRM_guess_84 mfRM_accept mvRM_accept ln_RM_122 h0 (by decide) rfl (f_RM_accept hT h0 e_84) rfl rfl (Nat.le_of_ble_eq_true rfl) ⟨Nat.le_of_ble_eq_true rfl, Nat.le_of_ble_eq_true rfl⟩ ⟨rfl, rfl⟩ ⟨Nat.zero_le _, Nat.zero_le _⟩ ?_
          exact x_iret1 C E dRM_guess_87 ⟨Nat.zero_le _, Nat.zero_le _⟩ h
        · have h := x_pos c_36 h
          refine g_aload_n C dRM_guess_39 rfl ?_
          refine g_iconst (v := Int32.ofInt (2)) C dRM_guess_40 (by decide) ?_
          obtain ⟨z_41, I10, e_41, h⟩ := bd2_some h
          refine x_callVi (av := fun ad => [.int (Int32.ofInt (2))]) C dRM_guess_41 mfRM_refuse mvRM_refuse ln_RM_96 h0 (by decide) rfl (f_RM_refuse hT h0 e_41) rfl rfl (Nat.le_of_ble_eq_true rfl) ⟨Nat.le_of_ble_eq_true rfl, Nat.le_of_ble_eq_true rfl⟩ ⟨rfl, rfl⟩ ⟨Nat.zero_le _, Nat.zero_le _⟩ ?_
          exact x_iret1 C E dRM_guess_44 ⟨Nat.zero_le _, Nat.zero_le _⟩ h
      · have h := x_pos c_21 h
        exact g_sub (hk_24  h) ⟨rfl, rfl, rfl, rfl, rfl, rfl, trivial⟩
def B_RM_swapped_38 (N : Nat) (O : WO) (a0 : Nat) (J0 : WJ) (x1_28 : Int32) (rec_28 : Int32 → WI → Option (Int32 × WI)) (rec_38 : Int32 → WI → Option (Int32 × WI)) (x2_38 : Int32) (I_38 : WI) : Option (Int32 × WI) := if 12 ≤ (x2_38).toInt then (lb (x1_28 + Int32.ofInt (1)) fun v1_77 => rec_28 (v1_77) I_38) else (bd1 (F_Si_anyAgrees N O I_38 J0 (rf O a0 7) (rf O a0 6) x1_28 x2_38) fun z_54 => if (z_54).toInt = 0 then (lb (x2_38 + Int32.ofInt (1)) fun v2_71 => rec_38 (v2_71) I_38) else (bd2 (F_RM_accept N O I_38 J0 a0 (((Int32.ofInt (100)) * x1_28) + x2_38)) fun z_67 I5 => some (z_67, I5)))
def B_RM_swapped_28 (N : Nat) (O : WO) (a0 : Nat) (J0 : WJ) (rec_28 : Int32 → WI → Option (Int32 × WI)) (x1_28 : Int32) (I_28 : WI) : Option (Int32 × WI) := if 12 ≤ (x1_28).toInt then (bd2 (F_RM_accept N O I_28 J0 a0 (Int32.ofInt (-2))) fun z_86 I3 => some (z_86, I3)) else (lb ((x1_28 + (Int32.ofInt (1)))) fun v2_37 => lp (B_RM_swapped_38 N O a0 J0 x1_28 rec_28) (fun _ _ => none) N (v2_37) I_28)
def F_RM_swapped (N : Nat) (O : WO) (I0 : WI) (J0 : WJ) (a0 : Nat) : Option (Int32 × WI) := bd1 (F_RM_noMill N O I0 J0 a0) fun z_1 => if (z_1).toInt = 0 then (bd2 (F_RM_findFits N O I0 J0 a0) fun z_14 I2 => if (z_14).toInt ≤ 0 then (lp (B_RM_swapped_28 N O a0 J0) (fun _ _ => none) N ((Int32.ofInt (0))) I2) else (bd2 (F_RM_refuse N O I2 J0 a0 (Int32.ofInt (5))) fun z_22 I6 => some (z_22, I6))) else (bd2 (F_RM_refuse N O I0 J0 a0 (Int32.ofInt (1))) fun z_9 I7 => some (z_9, I7))
set_option maxHeartbeats 4000000 in
set_option maxRecDepth 100000 in
theorem f_RM_swapped {P : List Nat} {K : Nat → Nat} {N : Nat} {O : WO} {I0 : WI} {J0 : WJ} (hT : TR P K O) {a0 : Nat} (h0 : a0 ∈ P ∧ K a0 = 8) {r : Int32} {I' : WI} (h : F_RM_swapped N O I0 J0 a0 = some (r, I')) : Con yRM_swapped bRM_swapped 3 (some .int) ({ frames := 7, cells := 0, slots := 0, locals := 156 } : Room) P K I0 O J0 [.ref a0] (EPo (some (.int r)) I' J0 P K O) := by
  refine Con.ofG mfRM_swapped (Nat.le_of_ble_eq_true rfl) ?_
  intro X C E
  unfold F_RM_swapped at h
  refine g_aload_n C dRM_swapped_0 rfl ?_
  obtain ⟨z_1, e_1, h⟩ := bd1_some h
  refine x_callVi (av := fun ad => []) C dRM_swapped_1 mfRM_noMill mvRM_noMill ln_RM_141 h0 (by decide) rfl (f_RM_noMill hT h0 e_1) rfl rfl (Nat.le_of_ble_eq_true rfl) ⟨Nat.le_of_ble_eq_true rfl, Nat.le_of_ble_eq_true rfl⟩ ⟨rfl, rfl⟩ ⟨Nat.zero_le _, Nat.zero_le _⟩ ?_
  refine gt_if_eq 13 C dRM_swapped_4 (by decide) rfl (fun c_4 => ?_) (fun c_4 => ?_)
  · have h := x_pos c_4 h
    refine g_aload_n C dRM_swapped_13 rfl ?_
    obtain ⟨z_14, I2, e_14, h⟩ := bd2_some h
    refine x_callVi (av := fun ad => []) C dRM_swapped_14 mfRM_findFits mvRM_findFits ln_RM_236 h0 (by decide) rfl (f_RM_findFits hT h0 e_14) rfl rfl (Nat.le_of_ble_eq_true rfl) ⟨Nat.le_of_ble_eq_true rfl, Nat.le_of_ble_eq_true rfl⟩ ⟨rfl, rfl⟩ ⟨Nat.zero_le _, Nat.zero_le _⟩ ?_
    refine gt_if_le 26 C dRM_swapped_17 (by decide) rfl (fun c_17 => ?_) (fun c_17 => ?_)
    · have h := x_pos c_17 h
      refine g_iconst (v := Int32.ofInt (0)) C dRM_swapped_26 (by decide) ?_
      refine g_istore_n (i := 1) C dRM_swapped_27 rfl (by decide) ?_
      have lp_28 : ∀ (x1_28 : Int32) (I_28 : WI), lp (B_RM_swapped_28 N O a0 J0) (fun _ _ => none) N x1_28 I_28 = some (r, I') → GG X 3 P K I_28 O J0 0 0 28 [(0, .ref a0), (1, .int x1_28)] [] := by
        refine x_lp (fun (rec_28 : Int32 → WI → Option (Int32 × WI)) => ∀ (x1_28 : Int32) (I_28 : WI), rec_28 x1_28 I_28 = some (r, I') → GG X 3 P K I_28 O J0 0 0 28 [(0, .ref a0), (1, .int x1_28)] []) (fun _ _ h => by cases h) (fun rec_28 hr_28 x1_28 I_28 h => ?_) N
        unfold B_RM_swapped_28 at h
        refine g_iload_n C dRM_swapped_28 rfl ?_
        refine g_bipush (v := Int32.ofInt (12)) C dRM_swapped_29 (by decide) ?_
        refine gt_icmp_ge 83 C dRM_swapped_31 (by decide) rfl (ofI (by decide)) (fun c_31 => ?_) (fun c_31 => ?_)
        · have h := x_pos c_31 h
          refine g_aload_n C dRM_swapped_83 rfl ?_
          refine g_bipush (v := Int32.ofInt (-2)) C dRM_swapped_84 (by decide) ?_
          obtain ⟨z_86, I3, e_86, h⟩ := bd2_some h
          refine x_callVi (av := fun ad => [.int (Int32.ofInt (-2))]) C dRM_swapped_86 mfRM_accept mvRM_accept ln_RM_122 h0 (by decide) rfl (f_RM_accept hT h0 e_86) rfl rfl (Nat.le_of_ble_eq_true rfl) ⟨Nat.le_of_ble_eq_true rfl, Nat.le_of_ble_eq_true rfl⟩ ⟨rfl, rfl⟩ ⟨Nat.zero_le _, Nat.zero_le _⟩ ?_
          exact x_iret1 C E dRM_swapped_89 ⟨Nat.zero_le _, Nat.zero_le _⟩ h
        · have h := x_neg (Int.not_le.mpr c_31) h
          refine g_iload_n C dRM_swapped_34 rfl ?_
          refine g_iconst (v := Int32.ofInt (1)) C dRM_swapped_35 (by decide) ?_
          refine g_iadd C dRM_swapped_36 ?_
          refine x_istore_n (i := 2) C dRM_swapped_37 rfl (by decide) h (fun v2_37 h => ?_)
          have lp_38 : ∀ (x2_38 : Int32) (I_38 : WI), lp (B_RM_swapped_38 N O a0 J0 x1_28 rec_28) (fun _ _ => none) N x2_38 I_38 = some (r, I') → GG X 3 P K I_38 O J0 0 0 38 [(0, .ref a0), (1, .int x1_28), (2, .int x2_38)] [] := by
            refine x_lp (fun (rec_38 : Int32 → WI → Option (Int32 × WI)) => ∀ (x2_38 : Int32) (I_38 : WI), rec_38 x2_38 I_38 = some (r, I') → GG X 3 P K I_38 O J0 0 0 38 [(0, .ref a0), (1, .int x1_28), (2, .int x2_38)] []) (fun _ _ h => by cases h) (fun rec_38 hr_38 x2_38 I_38 h => ?_) N
            unfold B_RM_swapped_38 at h
            refine g_iload_n C dRM_swapped_38 rfl ?_
            refine g_bipush (v := Int32.ofInt (12)) C dRM_swapped_39 (by decide) ?_
            refine gt_icmp_ge 77 C dRM_swapped_41 (by decide) rfl (ofI (by decide)) (fun c_41 => ?_) (fun c_41 => ?_)
            · have h := x_pos c_41 h
              refine x_iinc C dRM_swapped_77 rfl (by decide) h (fun v1_77 h => ?_)
              refine g_goto 28 C dRM_swapped_80 (by decide) ?_
              exact g_sub (hr_28 (v1_77) I_38 h) ⟨rfl, rfl, trivial⟩
            · have h := x_neg (Int.not_le.mpr c_41) h
              refine g_aload_n C dRM_swapped_44 rfl ?_
              have t_45 := rf_ok hT h0 (show sp 8 7 = some 6 from rfl)
              refine x_getr C dRM_swapped_45 fl_RM_50 h0 hT (show sp 8 7 = some 6 from rfl) ?_
              refine g_aload_n C dRM_swapped_48 rfl ?_
              have t_49 := rf_ok hT h0 (show sp 8 6 = some 1 from rfl)
              refine x_getr C dRM_swapped_49 fl_RM_43 h0 hT (show sp 8 6 = some 1 from rfl) ?_
              refine g_iload_n C dRM_swapped_52 rfl ?_
              refine g_iload_n C dRM_swapped_53 rfl ?_
              obtain ⟨z_54, e_54, h⟩ := bd1_some h
              refine x_callVi (av := fun ad => [.ref (rf O a0 6), .int x1_28, .int x2_38]) C dRM_swapped_54 mfSi_anyAgrees mvSi_anyAgrees ln_RM_260 t_45 (by decide) rfl (f_Si_anyAgrees hT t_45 t_49 e_54) rfl rfl (Nat.le_of_ble_eq_true rfl) ⟨Nat.le_of_ble_eq_true rfl, Nat.le_of_ble_eq_true rfl⟩ ⟨rfl, rfl⟩ ⟨Nat.zero_le _, Nat.zero_le _⟩ ?_
              refine gt_if_eq 71 C dRM_swapped_57 (by decide) rfl (fun c_57 => ?_) (fun c_57 => ?_)
              · have h := x_pos c_57 h
                refine x_iinc C dRM_swapped_71 rfl (by decide) h (fun v2_71 h => ?_)
                refine g_goto 38 C dRM_swapped_74 (by decide) ?_
                exact g_sub (hr_38 (v2_71) I_38 h) ⟨rfl, rfl, rfl, trivial⟩
              · have h := x_neg c_57 h
                refine g_aload_n C dRM_swapped_60 rfl ?_
                refine g_bipush (v := Int32.ofInt (100)) C dRM_swapped_61 (by decide) ?_
                refine g_iload_n C dRM_swapped_63 rfl ?_
                refine g_imul C dRM_swapped_64 ?_
                refine g_iload_n C dRM_swapped_65 rfl ?_
                refine g_iadd C dRM_swapped_66 ?_
                obtain ⟨z_67, I5, e_67, h⟩ := bd2_some h
                refine x_callVi (av := fun ad => [.int (((Int32.ofInt (100)) * x1_28) + x2_38)]) C dRM_swapped_67 mfRM_accept mvRM_accept ln_RM_122 h0 (by decide) rfl (f_RM_accept hT h0 e_67) rfl rfl (Nat.le_of_ble_eq_true rfl) ⟨Nat.le_of_ble_eq_true rfl, Nat.le_of_ble_eq_true rfl⟩ ⟨rfl, rfl⟩ ⟨Nat.zero_le _, Nat.zero_le _⟩ ?_
                exact x_iret1 C E dRM_swapped_70 ⟨Nat.zero_le _, Nat.zero_le _⟩ h
          exact g_sub (lp_38 (v2_37) I_28 h) ⟨rfl, rfl, rfl, trivial⟩
      exact g_sub (lp_28 ((Int32.ofInt (0))) I2 h) ⟨rfl, rfl, trivial⟩
    · have h := x_neg (Int.not_le.mpr c_17) h
      refine g_aload_n C dRM_swapped_20 rfl ?_
      refine g_iconst (v := Int32.ofInt (5)) C dRM_swapped_21 (by decide) ?_
      obtain ⟨z_22, I6, e_22, h⟩ := bd2_some h
      refine x_callVi (av := fun ad => [.int (Int32.ofInt (5))]) C dRM_swapped_22 mfRM_refuse mvRM_refuse ln_RM_96 h0 (by decide) rfl (f_RM_refuse hT h0 e_22) rfl rfl (Nat.le_of_ble_eq_true rfl) ⟨Nat.le_of_ble_eq_true rfl, Nat.le_of_ble_eq_true rfl⟩ ⟨rfl, rfl⟩ ⟨Nat.zero_le _, Nat.zero_le _⟩ ?_
      exact x_iret1 C E dRM_swapped_25 ⟨Nat.zero_le _, Nat.zero_le _⟩ h
  · have h := x_neg c_4 h
    refine g_aload_n C dRM_swapped_7 rfl ?_
    refine g_iconst (v := Int32.ofInt (1)) C dRM_swapped_8 (by decide) ?_
    obtain ⟨z_9, I7, e_9, h⟩ := bd2_some h
    refine x_callVi (av := fun ad => [.int (Int32.ofInt (1))]) C dRM_swapped_9 mfRM_refuse mvRM_refuse ln_RM_96 h0 (by decide) rfl (f_RM_refuse hT h0 e_9) rfl rfl (Nat.le_of_ble_eq_true rfl) ⟨Nat.le_of_ble_eq_true rfl, Nat.le_of_ble_eq_true rfl⟩ ⟨rfl, rfl⟩ ⟨Nat.zero_le _, Nat.zero_le _⟩ ?_
    exact x_iret1 C E dRM_swapped_12 ⟨Nat.zero_le _, Nat.zero_le _⟩ h
def F_RM_plan (N : Nat) (O : WO) (I0 : WI) (J0 : WJ) (a0 : Nat) (x1 : Int32) : Option (Int32 × WI) := bd1 (F_RM_noMill N O I0 J0 a0) fun z_1 => if (z_1).toInt = 0 then (bd1 (F_RM_isPlanLength N O I0 J0 x1) fun z_14 => if (z_14).toInt = 0 then (bd2 (F_RM_refuse N O I0 J0 a0 (Int32.ofInt (2))) fun z_22 I6 => some (z_22, I6)) else (bd2 (F_Pl_findCheapest N O I0 J0 (rf O a0 8) (rf O a0 1) (rf O a0 3) (rf O a0 4) x1) fun z_43 I3 => if (z_43).toInt = (-1) then (bd2 (F_RM_refuse N O I3 J0 a0 (Int32.ofInt (6))) fun z_55 I5 => some (z_55, I5)) else (bd2 (F_RM_accept N O I3 J0 a0 z_43) fun z_63 I4 => some (z_63, I4)))) else (bd2 (F_RM_refuse N O I0 J0 a0 (Int32.ofInt (1))) fun z_9 I7 => some (z_9, I7))
set_option maxHeartbeats 4000000 in
set_option maxRecDepth 100000 in
theorem f_RM_plan {P : List Nat} {K : Nat → Nat} {N : Nat} {O : WO} {I0 : WI} {J0 : WJ} (hT : TR P K O) {a0 : Nat} (h0 : a0 ∈ P ∧ K a0 = 8) {x1 : Int32} {r : Int32} {I' : WI} (h : F_RM_plan N O I0 J0 a0 x1 = some (r, I')) : Con yRM_plan bRM_plan 3 (some .int) ({ frames := 13, cells := 0, slots := 0, locals := 320 } : Room) P K I0 O J0 [.ref a0, .int x1] (EPo (some (.int r)) I' J0 P K O) := by
  refine Con.ofG mfRM_plan (Nat.le_of_ble_eq_true rfl) ?_
  intro X C E
  unfold F_RM_plan at h
  refine g_aload_n C dRM_plan_0 rfl ?_
  obtain ⟨z_1, e_1, h⟩ := bd1_some h
  refine x_callVi (av := fun ad => []) C dRM_plan_1 mfRM_noMill mvRM_noMill ln_RM_141 h0 (by decide) rfl (f_RM_noMill hT h0 e_1) rfl rfl (Nat.le_of_ble_eq_true rfl) ⟨Nat.le_of_ble_eq_true rfl, Nat.le_of_ble_eq_true rfl⟩ ⟨rfl, rfl⟩ ⟨Nat.zero_le _, Nat.zero_le _⟩ ?_
  refine gt_if_eq 13 C dRM_plan_4 (by decide) rfl (fun c_4 => ?_) (fun c_4 => ?_)
  · have h := x_pos c_4 h
    refine g_iload_n C dRM_plan_13 rfl ?_
    obtain ⟨z_14, e_14, h⟩ := bd1_some h
    refine x_callSi (av := fun ad => [.int x1]) C dRM_plan_14 mfRM_isPlanLength msRM_isPlanLength ln_RM_264 (f_RM_isPlanLength hT  e_14) rfl rfl (Nat.le_of_ble_eq_true rfl) ⟨Nat.le_of_ble_eq_true rfl, Nat.le_of_ble_eq_true rfl⟩ ⟨rfl, rfl⟩ ⟨Nat.zero_le _, Nat.zero_le _⟩ ?_
    refine gt_if_ne 26 C dRM_plan_17 (by decide) rfl (fun c_17 => ?_) (fun c_17 => ?_)
    · have h := x_neg c_17 h
      refine g_aload_n C dRM_plan_26 rfl ?_
      have t_27 := rf_ok hT h0 (show sp 8 8 = some 4 from rfl)
      refine x_getr C dRM_plan_27 fl_RM_57 h0 hT (show sp 8 8 = some 4 from rfl) ?_
      refine g_aload_n C dRM_plan_30 rfl ?_
      have t_31 := rf_ok hT h0 (show sp 8 1 = some 3 from rfl)
      refine x_getr C dRM_plan_31 fl_RM_19 h0 hT (show sp 8 1 = some 3 from rfl) ?_
      refine g_aload_n C dRM_plan_34 rfl ?_
      have t_35 := rf_ok hT h0 (show sp 8 3 = some 0 from rfl)
      refine x_getr C dRM_plan_35 fl_RM_29 h0 hT (show sp 8 3 = some 0 from rfl) ?_
      refine g_aload_n C dRM_plan_38 rfl ?_
      have t_39 := rf_ok hT h0 (show sp 8 4 = some 18 from rfl)
      refine x_getr C dRM_plan_39 fl_RM_33 h0 hT (show sp 8 4 = some 18 from rfl) ?_
      refine g_iload_n C dRM_plan_42 rfl ?_
      obtain ⟨z_43, I3, e_43, h⟩ := bd2_some h
      refine x_callVi (av := fun ad => [.ref (rf O a0 1), .ref (rf O a0 3), .ref (rf O a0 4), .int x1]) C dRM_plan_43 mfPl_findCheapest mvPl_findCheapest ln_RM_267 t_27 (by decide) rfl (f_Pl_findCheapest hT t_27 t_31 t_35 t_39 e_43) rfl rfl (Nat.le_of_ble_eq_true rfl) ⟨Nat.le_of_ble_eq_true rfl, Nat.le_of_ble_eq_true rfl⟩ ⟨rfl, rfl⟩ ⟨Nat.zero_le _, Nat.zero_le _⟩ ?_
      refine g_istore_n (i := 2) C dRM_plan_46 rfl (by decide) ?_
      refine g_iload_n C dRM_plan_47 rfl ?_
      refine g_iconst (v := Int32.ofInt (-1)) C dRM_plan_48 (by decide) ?_
      refine gt_icmp_ne 61 C dRM_plan_49 (by decide) rfl (ofI (by decide)) (fun c_49 => ?_) (fun c_49 => ?_)
      · have h := x_neg c_49 h
        refine g_aload_n C dRM_plan_61 rfl ?_
        refine g_iload_n C dRM_plan_62 rfl ?_
        obtain ⟨z_63, I4, e_63, h⟩ := bd2_some h
        refine x_callVi (av := fun ad => [.int z_43]) C dRM_plan_63 mfRM_accept mvRM_accept ln_RM_122 h0 (by decide) rfl (f_RM_accept hT h0 e_63) rfl rfl (Nat.le_of_ble_eq_true rfl) ⟨Nat.le_of_ble_eq_true rfl, Nat.le_of_ble_eq_true rfl⟩ ⟨rfl, rfl⟩ ⟨Nat.zero_le _, Nat.zero_le _⟩ ?_
        exact x_iret1 C E dRM_plan_66 ⟨Nat.zero_le _, Nat.zero_le _⟩ h
      · have h := x_pos c_49 h
        refine g_aload_n C dRM_plan_52 rfl ?_
        refine g_bipush (v := Int32.ofInt (6)) C dRM_plan_53 (by decide) ?_
        obtain ⟨z_55, I5, e_55, h⟩ := bd2_some h
        refine x_callVi (av := fun ad => [.int (Int32.ofInt (6))]) C dRM_plan_55 mfRM_refuse mvRM_refuse ln_RM_96 h0 (by decide) rfl (f_RM_refuse hT h0 e_55) rfl rfl (Nat.le_of_ble_eq_true rfl) ⟨Nat.le_of_ble_eq_true rfl, Nat.le_of_ble_eq_true rfl⟩ ⟨rfl, rfl⟩ ⟨Nat.zero_le _, Nat.zero_le _⟩ ?_
        refine g_goto 66 C dRM_plan_58 (by decide) ?_
        exact x_iret1 C E dRM_plan_66 ⟨Nat.zero_le _, Nat.zero_le _⟩ h
    · have h := x_pos c_17 h
      refine g_aload_n C dRM_plan_20 rfl ?_
      refine g_iconst (v := Int32.ofInt (2)) C dRM_plan_21 (by decide) ?_
      obtain ⟨z_22, I6, e_22, h⟩ := bd2_some h
      refine x_callVi (av := fun ad => [.int (Int32.ofInt (2))]) C dRM_plan_22 mfRM_refuse mvRM_refuse ln_RM_96 h0 (by decide) rfl (f_RM_refuse hT h0 e_22) rfl rfl (Nat.le_of_ble_eq_true rfl) ⟨Nat.le_of_ble_eq_true rfl, Nat.le_of_ble_eq_true rfl⟩ ⟨rfl, rfl⟩ ⟨Nat.zero_le _, Nat.zero_le _⟩ ?_
      exact x_iret1 C E dRM_plan_25 ⟨Nat.zero_le _, Nat.zero_le _⟩ h
  · have h := x_neg c_4 h
    refine g_aload_n C dRM_plan_7 rfl ?_
    refine g_iconst (v := Int32.ofInt (1)) C dRM_plan_8 (by decide) ?_
    obtain ⟨z_9, I7, e_9, h⟩ := bd2_some h
    refine x_callVi (av := fun ad => [.int (Int32.ofInt (1))]) C dRM_plan_9 mfRM_refuse mvRM_refuse ln_RM_96 h0 (by decide) rfl (f_RM_refuse hT h0 e_9) rfl rfl (Nat.le_of_ble_eq_true rfl) ⟨Nat.le_of_ble_eq_true rfl, Nat.le_of_ble_eq_true rfl⟩ ⟨rfl, rfl⟩ ⟨Nat.zero_le _, Nat.zero_le _⟩ ?_
    exact x_iret1 C E dRM_plan_12 ⟨Nat.zero_le _, Nat.zero_le _⟩ h
def F_RM_rate (N : Nat) (O : WO) (I0 : WI) (J0 : WJ) (a0 : Nat) (x1 : Int32) : Option (Int32) := bd1 (F_Pl_keptRate N O I0 J0 (rf O a0 8) x1) fun z_5 => some z_5
set_option maxHeartbeats 4000000 in
set_option maxRecDepth 100000 in
theorem f_RM_rate {P : List Nat} {K : Nat → Nat} {N : Nat} {O : WO} {I0 : WI} {J0 : WJ} (hT : TR P K O) {a0 : Nat} (h0 : a0 ∈ P ∧ K a0 = 8) {x1 : Int32} {r : Int32} (h : F_RM_rate N O I0 J0 a0 x1 = some r) : Con yRM_rate bRM_rate 2 (some .int) ({ frames := 1, cells := 0, slots := 0, locals := 21 } : Room) P K I0 O J0 [.ref a0, .int x1] (EPo (some (.int r)) I0 J0 P K O) := by
  refine Con.ofG mfRM_rate (Nat.le_of_ble_eq_true rfl) ?_
  intro X C E
  unfold F_RM_rate at h
  refine g_aload_n C dRM_rate_0 rfl ?_
  have t_1 := rf_ok hT h0 (show sp 8 8 = some 4 from rfl)
  refine x_getr C dRM_rate_1 fl_RM_57 h0 hT (show sp 8 8 = some 4 from rfl) ?_
  refine g_iload_n C dRM_rate_4 rfl ?_
  obtain ⟨z_5, e_5, h⟩ := bd1_some h
  refine x_callVi (av := fun ad => [.int x1]) C dRM_rate_5 mfPl_keptRate mvPl_keptRate ln_RM_271 t_1 (by decide) rfl (f_Pl_keptRate hT t_1 e_5) rfl rfl (Nat.le_of_ble_eq_true rfl) ⟨Nat.le_of_ble_eq_true rfl, Nat.le_of_ble_eq_true rfl⟩ ⟨rfl, rfl⟩ ⟨Nat.zero_le _, Nat.zero_le _⟩ ?_
  exact x_iret0 C E dRM_rate_8 ⟨Nat.zero_le _, Nat.zero_le _⟩ h
def F_RM_rule (N : Nat) (O : WO) (I0 : WI) (J0 : WJ) (a0 : Nat) (x1 : Int32) : Option (Int32 × WI) := bd1 (F_RM_noMill N O I0 J0 a0) fun z_1 => if (z_1).toInt = 0 then (bd1 (F_RM_isPlanLength N O I0 J0 x1) fun z_14 => if (z_14).toInt = 0 then (bd2 (F_RM_refuse N O I0 J0 a0 (Int32.ofInt (2))) fun z_22 I5 => some (z_22, I5)) else (bd1 (F_Pl_keepRule N O I0 J0 (rf O a0 8) (rf O a0 1) (rf O a0 3) (rf O a0 4) x1) fun I3 => bd2 (F_RM_accept N O I3 J0 a0 ((I3 (rf O (rf O a0 8) 9) 15) - (I3 (rf O a0 3) 15))) fun z_65 I4 => some (z_65, I4))) else (bd2 (F_RM_refuse N O I0 J0 a0 (Int32.ofInt (1))) fun z_9 I6 => some (z_9, I6))
set_option maxHeartbeats 4000000 in
set_option maxRecDepth 100000 in
theorem f_RM_rule {P : List Nat} {K : Nat → Nat} {N : Nat} {O : WO} {I0 : WI} {J0 : WJ} (hT : TR P K O) {a0 : Nat} (h0 : a0 ∈ P ∧ K a0 = 8) {x1 : Int32} {r : Int32} {I' : WI} (h : F_RM_rule N O I0 J0 a0 x1 = some (r, I')) : Con yRM_rule bRM_rule 2 (some .int) ({ frames := 6, cells := 0, slots := 0, locals := 134 } : Room) P K I0 O J0 [.ref a0, .int x1] (EPo (some (.int r)) I' J0 P K O) := by
  refine Con.ofG mfRM_rule (Nat.le_of_ble_eq_true rfl) ?_
  intro X C E
  unfold F_RM_rule at h
  refine g_aload_n C dRM_rule_0 rfl ?_
  obtain ⟨z_1, e_1, h⟩ := bd1_some h
  refine x_callVi (av := fun ad => []) C dRM_rule_1 mfRM_noMill mvRM_noMill ln_RM_141 h0 (by decide) rfl (f_RM_noMill hT h0 e_1) rfl rfl (Nat.le_of_ble_eq_true rfl) ⟨Nat.le_of_ble_eq_true rfl, Nat.le_of_ble_eq_true rfl⟩ ⟨rfl, rfl⟩ ⟨Nat.zero_le _, Nat.zero_le _⟩ ?_
  refine gt_if_eq 13 C dRM_rule_4 (by decide) rfl (fun c_4 => ?_) (fun c_4 => ?_)
  · have h := x_pos c_4 h
    refine g_iload_n C dRM_rule_13 rfl ?_
    obtain ⟨z_14, e_14, h⟩ := bd1_some h
    refine x_callSi (av := fun ad => [.int x1]) C dRM_rule_14 mfRM_isPlanLength msRM_isPlanLength ln_RM_264 (f_RM_isPlanLength hT  e_14) rfl rfl (Nat.le_of_ble_eq_true rfl) ⟨Nat.le_of_ble_eq_true rfl, Nat.le_of_ble_eq_true rfl⟩ ⟨rfl, rfl⟩ ⟨Nat.zero_le _, Nat.zero_le _⟩ ?_
    refine gt_if_ne 26 C dRM_rule_17 (by decide) rfl (fun c_17 => ?_) (fun c_17 => ?_)
    · have h := x_neg c_17 h
      refine g_aload_n C dRM_rule_26 rfl ?_
      have t_27 := rf_ok hT h0 (show sp 8 8 = some 4 from rfl)
      refine x_getr C dRM_rule_27 fl_RM_57 h0 hT (show sp 8 8 = some 4 from rfl) ?_
      refine g_aload_n C dRM_rule_30 rfl ?_
      have t_31 := rf_ok hT h0 (show sp 8 1 = some 3 from rfl)
      refine x_getr C dRM_rule_31 fl_RM_19 h0 hT (show sp 8 1 = some 3 from rfl) ?_
      refine g_aload_n C dRM_rule_34 rfl ?_
      have t_35 := rf_ok hT h0 (show sp 8 3 = some 0 from rfl)
      refine x_getr C dRM_rule_35 fl_RM_29 h0 hT (show sp 8 3 = some 0 from rfl) ?_
      refine g_aload_n C dRM_rule_38 rfl ?_
      have t_39 := rf_ok hT h0 (show sp 8 4 = some 18 from rfl)
      refine x_getr C dRM_rule_39 fl_RM_33 h0 hT (show sp 8 4 = some 18 from rfl) ?_
      refine g_iload_n C dRM_rule_42 rfl ?_
      obtain ⟨I3, e_43, h⟩ := bd1_some h
      refine x_callVv (av := fun ad => [.ref (rf O a0 1), .ref (rf O a0 3), .ref (rf O a0 4), .int x1]) C dRM_rule_43 mfPl_keepRule mvPl_keepRule ln_RM_274 t_27 (by decide) rfl (f_Pl_keepRule hT t_27 t_31 t_35 t_39 e_43) rfl rfl (Nat.le_of_ble_eq_true rfl) ⟨Nat.le_of_ble_eq_true rfl, Nat.le_of_ble_eq_true rfl⟩ ⟨rfl, rfl⟩ ⟨Nat.zero_le _, Nat.zero_le _⟩ ?_
      refine g_aload_n C dRM_rule_46 rfl ?_
      refine g_aload_n C dRM_rule_47 rfl ?_
      have t_48 := rf_ok hT h0 (show sp 8 8 = some 4 from rfl)
      refine x_getr C dRM_rule_48 fl_RM_57 h0 hT (show sp 8 8 = some 4 from rfl) ?_
      have t_51 := rf_ok hT t_48 (show sp 4 9 = some 0 from rfl)
      refine x_getr C dRM_rule_51 fl_RM_278 t_48 hT (show sp 4 9 = some 0 from rfl) ?_
      refine g_geti C dRM_rule_54 fl_RM_206 t_51 ?_
      refine g_aload_n C dRM_rule_57 rfl ?_
      have t_58 := rf_ok hT h0 (show sp 8 3 = some 0 from rfl)
      refine x_getr C dRM_rule_58 fl_RM_29 h0 hT (show sp 8 3 = some 0 from rfl) ?_
      refine g_geti C dRM_rule_61 fl_RM_206 t_58 ?_
      refine g_isub C dRM_rule_64 ?_
      obtain ⟨z_65, I4, e_65, h⟩ := bd2_some h
      refine x_callVi (av := fun ad => [.int ((I3 (rf O (rf O a0 8) 9) 15) - (I3 (rf O a0 3) 15))]) C dRM_rule_65 mfRM_accept mvRM_accept ln_RM_122 h0 (by decide) rfl (f_RM_accept hT h0 e_65) rfl rfl (Nat.le_of_ble_eq_true rfl) ⟨Nat.le_of_ble_eq_true rfl, Nat.le_of_ble_eq_true rfl⟩ ⟨rfl, rfl⟩ ⟨Nat.zero_le _, Nat.zero_le _⟩ ?_
      exact x_iret1 C E dRM_rule_68 ⟨Nat.zero_le _, Nat.zero_le _⟩ h
    · have h := x_pos c_17 h
      refine g_aload_n C dRM_rule_20 rfl ?_
      refine g_iconst (v := Int32.ofInt (2)) C dRM_rule_21 (by decide) ?_
      obtain ⟨z_22, I5, e_22, h⟩ := bd2_some h
      refine x_callVi (av := fun ad => [.int (Int32.ofInt (2))]) C dRM_rule_22 mfRM_refuse mvRM_refuse ln_RM_96 h0 (by decide) rfl (f_RM_refuse hT h0 e_22) rfl rfl (Nat.le_of_ble_eq_true rfl) ⟨Nat.le_of_ble_eq_true rfl, Nat.le_of_ble_eq_true rfl⟩ ⟨rfl, rfl⟩ ⟨Nat.zero_le _, Nat.zero_le _⟩ ?_
      exact x_iret1 C E dRM_rule_25 ⟨Nat.zero_le _, Nat.zero_le _⟩ h
  · have h := x_neg c_4 h
    refine g_aload_n C dRM_rule_7 rfl ?_
    refine g_iconst (v := Int32.ofInt (1)) C dRM_rule_8 (by decide) ?_
    obtain ⟨z_9, I6, e_9, h⟩ := bd2_some h
    refine x_callVi (av := fun ad => [.int (Int32.ofInt (1))]) C dRM_rule_9 mfRM_refuse mvRM_refuse ln_RM_96 h0 (by decide) rfl (f_RM_refuse hT h0 e_9) rfl rfl (Nat.le_of_ble_eq_true rfl) ⟨Nat.le_of_ble_eq_true rfl, Nat.le_of_ble_eq_true rfl⟩ ⟨rfl, rfl⟩ ⟨Nat.zero_le _, Nat.zero_le _⟩ ?_
    exact x_iret1 C E dRM_rule_12 ⟨Nat.zero_le _, Nat.zero_le _⟩ h
def F_RM_lacks (N : Nat) (O : WO) (I0 : WI) (J0 : WJ) (a0 : Nat) (x1 : Int32) : Option (Int32 × WI) := bd1 (F_RM_noMill N O I0 J0 a0) fun z_1 => if (z_1).toInt = 0 then (bd1 (F_RM_isPlanLength N O I0 J0 x1) fun z_14 => if (z_14).toInt = 0 then (bd2 (F_RM_refuse N O I0 J0 a0 (Int32.ofInt (2))) fun z_22 I5 => some (z_22, I5)) else (bd1 (F_Pl_keepRule N O I0 J0 (rf O a0 8) (rf O a0 1) (rf O a0 3) (rf O a0 4) x1) fun I3 => bd2 (F_RM_accept N O I3 J0 a0 ((I3 (rf O (rf O a0 8) 9) 12) - (I3 (rf O a0 3) 12))) fun z_65 I4 => some (z_65, I4))) else (bd2 (F_RM_refuse N O I0 J0 a0 (Int32.ofInt (1))) fun z_9 I6 => some (z_9, I6))
set_option maxHeartbeats 4000000 in
set_option maxRecDepth 100000 in
theorem f_RM_lacks {P : List Nat} {K : Nat → Nat} {N : Nat} {O : WO} {I0 : WI} {J0 : WJ} (hT : TR P K O) {a0 : Nat} (h0 : a0 ∈ P ∧ K a0 = 8) {x1 : Int32} {r : Int32} {I' : WI} (h : F_RM_lacks N O I0 J0 a0 x1 = some (r, I')) : Con yRM_lacks bRM_lacks 2 (some .int) ({ frames := 6, cells := 0, slots := 0, locals := 134 } : Room) P K I0 O J0 [.ref a0, .int x1] (EPo (some (.int r)) I' J0 P K O) := by
  refine Con.ofG mfRM_lacks (Nat.le_of_ble_eq_true rfl) ?_
  intro X C E
  unfold F_RM_lacks at h
  refine g_aload_n C dRM_lacks_0 rfl ?_
  obtain ⟨z_1, e_1, h⟩ := bd1_some h
  refine x_callVi (av := fun ad => []) C dRM_lacks_1 mfRM_noMill mvRM_noMill ln_RM_141 h0 (by decide) rfl (f_RM_noMill hT h0 e_1) rfl rfl (Nat.le_of_ble_eq_true rfl) ⟨Nat.le_of_ble_eq_true rfl, Nat.le_of_ble_eq_true rfl⟩ ⟨rfl, rfl⟩ ⟨Nat.zero_le _, Nat.zero_le _⟩ ?_
  refine gt_if_eq 13 C dRM_lacks_4 (by decide) rfl (fun c_4 => ?_) (fun c_4 => ?_)
  · have h := x_pos c_4 h
    refine g_iload_n C dRM_lacks_13 rfl ?_
    obtain ⟨z_14, e_14, h⟩ := bd1_some h
    refine x_callSi (av := fun ad => [.int x1]) C dRM_lacks_14 mfRM_isPlanLength msRM_isPlanLength ln_RM_264 (f_RM_isPlanLength hT  e_14) rfl rfl (Nat.le_of_ble_eq_true rfl) ⟨Nat.le_of_ble_eq_true rfl, Nat.le_of_ble_eq_true rfl⟩ ⟨rfl, rfl⟩ ⟨Nat.zero_le _, Nat.zero_le _⟩ ?_
    refine gt_if_ne 26 C dRM_lacks_17 (by decide) rfl (fun c_17 => ?_) (fun c_17 => ?_)
    · have h := x_neg c_17 h
      refine g_aload_n C dRM_lacks_26 rfl ?_
      have t_27 := rf_ok hT h0 (show sp 8 8 = some 4 from rfl)
      refine x_getr C dRM_lacks_27 fl_RM_57 h0 hT (show sp 8 8 = some 4 from rfl) ?_
      refine g_aload_n C dRM_lacks_30 rfl ?_
      have t_31 := rf_ok hT h0 (show sp 8 1 = some 3 from rfl)
      refine x_getr C dRM_lacks_31 fl_RM_19 h0 hT (show sp 8 1 = some 3 from rfl) ?_
      refine g_aload_n C dRM_lacks_34 rfl ?_
      have t_35 := rf_ok hT h0 (show sp 8 3 = some 0 from rfl)
      refine x_getr C dRM_lacks_35 fl_RM_29 h0 hT (show sp 8 3 = some 0 from rfl) ?_
      refine g_aload_n C dRM_lacks_38 rfl ?_
      have t_39 := rf_ok hT h0 (show sp 8 4 = some 18 from rfl)
      refine x_getr C dRM_lacks_39 fl_RM_33 h0 hT (show sp 8 4 = some 18 from rfl) ?_
      refine g_iload_n C dRM_lacks_42 rfl ?_
      obtain ⟨I3, e_43, h⟩ := bd1_some h
      refine x_callVv (av := fun ad => [.ref (rf O a0 1), .ref (rf O a0 3), .ref (rf O a0 4), .int x1]) C dRM_lacks_43 mfPl_keepRule mvPl_keepRule ln_RM_274 t_27 (by decide) rfl (f_Pl_keepRule hT t_27 t_31 t_35 t_39 e_43) rfl rfl (Nat.le_of_ble_eq_true rfl) ⟨Nat.le_of_ble_eq_true rfl, Nat.le_of_ble_eq_true rfl⟩ ⟨rfl, rfl⟩ ⟨Nat.zero_le _, Nat.zero_le _⟩ ?_
      refine g_aload_n C dRM_lacks_46 rfl ?_
      refine g_aload_n C dRM_lacks_47 rfl ?_
      have t_48 := rf_ok hT h0 (show sp 8 8 = some 4 from rfl)
      refine x_getr C dRM_lacks_48 fl_RM_57 h0 hT (show sp 8 8 = some 4 from rfl) ?_
      have t_51 := rf_ok hT t_48 (show sp 4 9 = some 0 from rfl)
      refine x_getr C dRM_lacks_51 fl_RM_278 t_48 hT (show sp 4 9 = some 0 from rfl) ?_
      refine g_geti C dRM_lacks_54 fl_RM_191 t_51 ?_
      refine g_aload_n C dRM_lacks_57 rfl ?_
      have t_58 := rf_ok hT h0 (show sp 8 3 = some 0 from rfl)
      refine x_getr C dRM_lacks_58 fl_RM_29 h0 hT (show sp 8 3 = some 0 from rfl) ?_
      refine g_geti C dRM_lacks_61 fl_RM_191 t_58 ?_
      refine g_isub C dRM_lacks_64 ?_
      obtain ⟨z_65, I4, e_65, h⟩ := bd2_some h
      refine x_callVi (av := fun ad => [.int ((I3 (rf O (rf O a0 8) 9) 12) - (I3 (rf O a0 3) 12))]) C dRM_lacks_65 mfRM_accept mvRM_accept ln_RM_122 h0 (by decide) rfl (f_RM_accept hT h0 e_65) rfl rfl (Nat.le_of_ble_eq_true rfl) ⟨Nat.le_of_ble_eq_true rfl, Nat.le_of_ble_eq_true rfl⟩ ⟨rfl, rfl⟩ ⟨Nat.zero_le _, Nat.zero_le _⟩ ?_
      exact x_iret1 C E dRM_lacks_68 ⟨Nat.zero_le _, Nat.zero_le _⟩ h
    · have h := x_pos c_17 h
      refine g_aload_n C dRM_lacks_20 rfl ?_
      refine g_iconst (v := Int32.ofInt (2)) C dRM_lacks_21 (by decide) ?_
      obtain ⟨z_22, I5, e_22, h⟩ := bd2_some h
      refine x_callVi (av := fun ad => [.int (Int32.ofInt (2))]) C dRM_lacks_22 mfRM_refuse mvRM_refuse ln_RM_96 h0 (by decide) rfl (f_RM_refuse hT h0 e_22) rfl rfl (Nat.le_of_ble_eq_true rfl) ⟨Nat.le_of_ble_eq_true rfl, Nat.le_of_ble_eq_true rfl⟩ ⟨rfl, rfl⟩ ⟨Nat.zero_le _, Nat.zero_le _⟩ ?_
      exact x_iret1 C E dRM_lacks_25 ⟨Nat.zero_le _, Nat.zero_le _⟩ h
  · have h := x_neg c_4 h
    refine g_aload_n C dRM_lacks_7 rfl ?_
    refine g_iconst (v := Int32.ofInt (1)) C dRM_lacks_8 (by decide) ?_
    obtain ⟨z_9, I6, e_9, h⟩ := bd2_some h
    refine x_callVi (av := fun ad => [.int (Int32.ofInt (1))]) C dRM_lacks_9 mfRM_refuse mvRM_refuse ln_RM_96 h0 (by decide) rfl (f_RM_refuse hT h0 e_9) rfl rfl (Nat.le_of_ble_eq_true rfl) ⟨Nat.le_of_ble_eq_true rfl, Nat.le_of_ble_eq_true rfl⟩ ⟨rfl, rfl⟩ ⟨Nat.zero_le _, Nat.zero_le _⟩ ?_
    exact x_iret1 C E dRM_lacks_12 ⟨Nat.zero_le _, Nat.zero_le _⟩ h
def F_RM_number (N : Nat) (O : WO) (I0 : WI) (J0 : WJ) (a0 : Nat) (x1 : Int32) (x2 : Int32) : Option (Int32 × WI) := bd1 (F_RM_noMill N O I0 J0 a0) fun z_1 => if (z_1).toInt = 0 then (jn (bd2 (F_RM_refuse N O I0 J0 a0 (Int32.ofInt (2))) fun z_26 I2 => some (z_26, I2)) fun k_24 => if (x2).toInt < 0 then (k_24 ) else (if (x2).toInt ≤ 999 then (bd1 (F_Tr_isFilled N O I0 J0 (rf O a0 9) x1) fun z_35 => if (z_35).toInt = 0 then (bd2 (F_Tr_add N O I0 J0 (rf O a0 9) x1 x2) fun z_54 I4 => bd2 (F_RM_accept N O I4 J0 a0 z_54) fun z_57 I5 => some (z_57, I5)) else (bd2 (F_RM_refuse N O I0 J0 a0 (Int32.ofInt (3))) fun z_43 I6 => some (z_43, I6))) else (k_24 ))) else (bd2 (F_RM_refuse N O I0 J0 a0 (Int32.ofInt (1))) fun z_9 I7 => some (z_9, I7))
set_option maxHeartbeats 4000000 in
set_option maxRecDepth 100000 in
theorem f_RM_number {P : List Nat} {K : Nat → Nat} {N : Nat} {O : WO} {I0 : WI} {J0 : WJ} (hT : TR P K O) {a0 : Nat} (h0 : a0 ∈ P ∧ K a0 = 8) {x1 : Int32} {x2 : Int32} {r : Int32} {I' : WI} (h : F_RM_number N O I0 J0 a0 x1 x2 = some (r, I')) : Con yRM_number bRM_number 3 (some .int) ({ frames := 2, cells := 0, slots := 0, locals := 43 } : Room) P K I0 O J0 [.ref a0, .int x1, .int x2] (EPo (some (.int r)) I' J0 P K O) := by
  refine Con.ofG mfRM_number (Nat.le_of_ble_eq_true rfl) ?_
  intro X C E
  unfold F_RM_number at h
  refine g_aload_n C dRM_number_0 rfl ?_
  obtain ⟨z_1, e_1, h⟩ := bd1_some h
  refine x_callVi (av := fun ad => []) C dRM_number_1 mfRM_noMill mvRM_noMill ln_RM_141 h0 (by decide) rfl (f_RM_noMill hT h0 e_1) rfl rfl (Nat.le_of_ble_eq_true rfl) ⟨Nat.le_of_ble_eq_true rfl, Nat.le_of_ble_eq_true rfl⟩ ⟨rfl, rfl⟩ ⟨Nat.zero_le _, Nat.zero_le _⟩ ?_
  refine gt_if_eq 13 C dRM_number_4 (by decide) rfl (fun c_4 => ?_) (fun c_4 => ?_)
  · have h := x_pos c_4 h
    refine g_iload_n C dRM_number_13 rfl ?_
    refine x_jn h (fun (k_24 : Option (Int32 × WI)) => k_24  = some (r, I') → GG X 3 P K I0 O J0 0 0 24 [(0, .ref a0), (1, .int x1), (2, .int x2)] []) (fun  h => ?_) (fun k_24 hk_24 h => ?_)
    · skip
      refine g_aload_n C dRM_number_24 rfl ?_
      refine g_iconst (v := Int32.ofInt (2)) C dRM_number_25 (by decide) ?_
      obtain ⟨z_26, I2, e_26, h⟩ := bd2_some h
      refine x_callVi (av := fun ad => [.int (Int32.ofInt (2))]) C dRM_number_26 mfRM_refuse mvRM_refuse ln_RM_96 h0 (by decide) rfl (f_RM_refuse hT h0 e_26) rfl rfl (Nat.le_of_ble_eq_true rfl) ⟨Nat.le_of_ble_eq_true rfl, Nat.le_of_ble_eq_true rfl⟩ ⟨rfl, rfl⟩ ⟨Nat.zero_le _, Nat.zero_le _⟩ ?_
      exact x_iret1 C E dRM_number_29 ⟨Nat.zero_le _, Nat.zero_le _⟩ h
    refine gt_if_lt 24 C dRM_number_14 (by decide) rfl (fun c_14 => ?_) (fun c_14 => ?_)
    · have h := x_pos c_14 h
      exact g_sub (hk_24  h) ⟨rfl, rfl, rfl, trivial⟩
    · have h := x_neg (Int.not_lt.mpr c_14) h
      refine g_iload_n C dRM_number_17 rfl ?_
      refine g_sipush (v := Int32.ofInt (999)) C dRM_number_18 (by decide) ?_
      refine gt_icmp_le 30 C dRM_number_21 (by decide) rfl (ofI (by decide)) (fun c_21 => ?_) (fun c_21 => ?_)
      · have h := x_pos c_21 h
        refine g_aload_n C dRM_number_30 rfl ?_
        have t_31 := rf_ok hT h0 (show sp 8 9 = some 7 from rfl)
        refine x_getr C dRM_number_31 fl_RM_64 h0 hT (show sp 8 9 = some 7 from rfl) ?_
        refine g_iload_n C dRM_number_34 rfl ?_
        obtain ⟨z_35, e_35, h⟩ := bd1_some h
        refine x_callVi (av := fun ad => [.int x1]) C dRM_number_35 mfTr_isFilled mvTr_isFilled ln_RM_281 t_31 (by decide) rfl (f_Tr_isFilled hT t_31 e_35) rfl rfl (Nat.le_of_ble_eq_true rfl) ⟨Nat.le_of_ble_eq_true rfl, Nat.le_of_ble_eq_true rfl⟩ ⟨rfl, rfl⟩ ⟨Nat.zero_le _, Nat.zero_le _⟩ ?_
        refine gt_if_eq 47 C dRM_number_38 (by decide) rfl (fun c_38 => ?_) (fun c_38 => ?_)
        · have h := x_pos c_38 h
          refine g_aload_n C dRM_number_47 rfl ?_
          refine g_aload_n C dRM_number_48 rfl ?_
          have t_49 := rf_ok hT h0 (show sp 8 9 = some 7 from rfl)
          refine x_getr C dRM_number_49 fl_RM_64 h0 hT (show sp 8 9 = some 7 from rfl) ?_
          refine g_iload_n C dRM_number_52 rfl ?_
          refine g_iload_n C dRM_number_53 rfl ?_
          obtain ⟨z_54, I4, e_54, h⟩ := bd2_some h
          refine x_callVi (av := fun ad => [.int x1, .int x2]) C dRM_number_54 mfTr_add mvTr_add ln_RM_284 t_49 (by decide) rfl (f_Tr_add hT t_49 e_54) rfl rfl (Nat.le_of_ble_eq_true rfl) ⟨Nat.le_of_ble_eq_true rfl, Nat.le_of_ble_eq_true rfl⟩ ⟨rfl, rfl⟩ ⟨Nat.zero_le _, Nat.zero_le _⟩ ?_
          obtain ⟨z_57, I5, e_57, h⟩ := bd2_some h
          refine x_callVi (av := fun ad => [.int z_54]) C dRM_number_57 mfRM_accept mvRM_accept ln_RM_122 h0 (by decide) rfl (f_RM_accept hT h0 e_57) rfl rfl (Nat.le_of_ble_eq_true rfl) ⟨Nat.le_of_ble_eq_true rfl, Nat.le_of_ble_eq_true rfl⟩ ⟨rfl, rfl⟩ ⟨Nat.zero_le _, Nat.zero_le _⟩ ?_
          exact x_iret1 C E dRM_number_60 ⟨Nat.zero_le _, Nat.zero_le _⟩ h
        · have h := x_neg c_38 h
          refine g_aload_n C dRM_number_41 rfl ?_
          refine g_iconst (v := Int32.ofInt (3)) C dRM_number_42 (by decide) ?_
          obtain ⟨z_43, I6, e_43, h⟩ := bd2_some h
          refine x_callVi (av := fun ad => [.int (Int32.ofInt (3))]) C dRM_number_43 mfRM_refuse mvRM_refuse ln_RM_96 h0 (by decide) rfl (f_RM_refuse hT h0 e_43) rfl rfl (Nat.le_of_ble_eq_true rfl) ⟨Nat.le_of_ble_eq_true rfl, Nat.le_of_ble_eq_true rfl⟩ ⟨rfl, rfl⟩ ⟨Nat.zero_le _, Nat.zero_le _⟩ ?_
          exact x_iret1 C E dRM_number_46 ⟨Nat.zero_le _, Nat.zero_le _⟩ h
      · have h := x_neg (Int.not_le.mpr c_21) h
        exact g_sub (hk_24  h) ⟨rfl, rfl, rfl, trivial⟩
  · have h := x_neg c_4 h
    refine g_aload_n C dRM_number_7 rfl ?_
    refine g_iconst (v := Int32.ofInt (1)) C dRM_number_8 (by decide) ?_
    obtain ⟨z_9, I7, e_9, h⟩ := bd2_some h
    refine x_callVi (av := fun ad => [.int (Int32.ofInt (1))]) C dRM_number_9 mfRM_refuse mvRM_refuse ln_RM_96 h0 (by decide) rfl (f_RM_refuse hT h0 e_9) rfl rfl (Nat.le_of_ble_eq_true rfl) ⟨Nat.le_of_ble_eq_true rfl, Nat.le_of_ble_eq_true rfl⟩ ⟨rfl, rfl⟩ ⟨Nat.zero_le _, Nat.zero_le _⟩ ?_
    exact x_iret1 C E dRM_number_12 ⟨Nat.zero_le _, Nat.zero_le _⟩ h
def F_RM_chance (N : Nat) (O : WO) (I0 : WI) (J0 : WJ) (a0 : Nat) : Option (Int32 × WI) := bd1 (F_Tr_lacksRow N O I0 J0 (rf O a0 9)) fun z_4 => if (z_4).toInt = 0 then (bd2 (F_Tr_countNoLess N O I0 J0 (rf O a0 9)) fun z_23 I2 => bd2 (F_RM_accept N O I2 J0 a0 z_23) fun z_26 I3 => some (z_26, I3)) else (bd2 (F_RM_refuse N O I0 J0 a0 (Int32.ofInt (5))) fun z_12 I4 => some (z_12, I4))
set_option maxHeartbeats 4000000 in
set_option maxRecDepth 100000 in
theorem f_RM_chance {P : List Nat} {K : Nat → Nat} {N : Nat} {O : WO} {I0 : WI} {J0 : WJ} (hT : TR P K O) {a0 : Nat} (h0 : a0 ∈ P ∧ K a0 = 8) {r : Int32} {I' : WI} (h : F_RM_chance N O I0 J0 a0 = some (r, I')) : Con yRM_chance bRM_chance 1 (some .int) ({ frames := 20, cells := 0, slots := 0, locals := 478 } : Room) P K I0 O J0 [.ref a0] (EPo (some (.int r)) I' J0 P K O) := by
  refine Con.ofG mfRM_chance (Nat.le_of_ble_eq_true rfl) ?_
  intro X C E
  unfold F_RM_chance at h
  refine g_aload_n C dRM_chance_0 rfl ?_
  have t_1 := rf_ok hT h0 (show sp 8 9 = some 7 from rfl)
  refine x_getr C dRM_chance_1 fl_RM_64 h0 hT (show sp 8 9 = some 7 from rfl) ?_
  obtain ⟨z_4, e_4, h⟩ := bd1_some h
  refine x_callVi (av := fun ad => []) C dRM_chance_4 mfTr_lacksRow mvTr_lacksRow ln_RM_288 t_1 (by decide) rfl (f_Tr_lacksRow hT t_1 e_4) rfl rfl (Nat.le_of_ble_eq_true rfl) ⟨Nat.le_of_ble_eq_true rfl, Nat.le_of_ble_eq_true rfl⟩ ⟨rfl, rfl⟩ ⟨Nat.zero_le _, Nat.zero_le _⟩ ?_
  refine gt_if_eq 18 C dRM_chance_7 (by decide) rfl (fun c_7 => ?_) (fun c_7 => ?_)
  · have h := x_pos c_7 h
    refine g_aload_n C dRM_chance_18 rfl ?_
    refine g_aload_n C dRM_chance_19 rfl ?_
    have t_20 := rf_ok hT h0 (show sp 8 9 = some 7 from rfl)
    refine x_getr C dRM_chance_20 fl_RM_64 h0 hT (show sp 8 9 = some 7 from rfl) ?_
    obtain ⟨z_23, I2, e_23, h⟩ := bd2_some h
    refine x_callVi (av := fun ad => []) C dRM_chance_23 mfTr_countNoLess mvTr_countNoLess ln_RM_291 t_20 (by decide) rfl (f_Tr_countNoLess hT t_20 e_23) rfl rfl (Nat.le_of_ble_eq_true rfl) ⟨Nat.le_of_ble_eq_true rfl, Nat.le_of_ble_eq_true rfl⟩ ⟨rfl, rfl⟩ ⟨Nat.zero_le _, Nat.zero_le _⟩ ?_
    obtain ⟨z_26, I3, e_26, h⟩ := bd2_some h
    refine x_callVi (av := fun ad => [.int z_23]) C dRM_chance_26 mfRM_accept mvRM_accept ln_RM_122 h0 (by decide) rfl (f_RM_accept hT h0 e_26) rfl rfl (Nat.le_of_ble_eq_true rfl) ⟨Nat.le_of_ble_eq_true rfl, Nat.le_of_ble_eq_true rfl⟩ ⟨rfl, rfl⟩ ⟨Nat.zero_le _, Nat.zero_le _⟩ ?_
    exact x_iret1 C E dRM_chance_29 ⟨Nat.zero_le _, Nat.zero_le _⟩ h
  · have h := x_neg c_7 h
    refine g_aload_n C dRM_chance_10 rfl ?_
    refine g_iconst (v := Int32.ofInt (5)) C dRM_chance_11 (by decide) ?_
    obtain ⟨z_12, I4, e_12, h⟩ := bd2_some h
    refine x_callVi (av := fun ad => [.int (Int32.ofInt (5))]) C dRM_chance_12 mfRM_refuse mvRM_refuse ln_RM_96 h0 (by decide) rfl (f_RM_refuse hT h0 e_12) rfl rfl (Nat.le_of_ble_eq_true rfl) ⟨Nat.le_of_ble_eq_true rfl, Nat.le_of_ble_eq_true rfl⟩ ⟨rfl, rfl⟩ ⟨Nat.zero_le _, Nat.zero_le _⟩ ?_
    refine g_goto 29 C dRM_chance_15 (by decide) ?_
    exact x_iret1 C E dRM_chance_29 ⟨Nat.zero_le _, Nat.zero_le _⟩ h
def F_RM_splits (N : Nat) (O : WO) (I0 : WI) (J0 : WJ) (a0 : Nat) : Option (Int32 × WI) := bd1 (F_Tr_lacksRow N O I0 J0 (rf O a0 9)) fun z_4 => if (z_4).toInt = 0 then (bd1 (F_Tr_countAll N O I0 J0 (rf O a0 9)) fun z_23 => bd2 (F_RM_accept N O I0 J0 a0 z_23) fun z_26 I3 => some (z_26, I3)) else (bd2 (F_RM_refuse N O I0 J0 a0 (Int32.ofInt (5))) fun z_12 I4 => some (z_12, I4))
set_option maxHeartbeats 4000000 in
set_option maxRecDepth 100000 in
theorem f_RM_splits {P : List Nat} {K : Nat → Nat} {N : Nat} {O : WO} {I0 : WI} {J0 : WJ} (hT : TR P K O) {a0 : Nat} (h0 : a0 ∈ P ∧ K a0 = 8) {r : Int32} {I' : WI} (h : F_RM_splits N O I0 J0 a0 = some (r, I')) : Con yRM_splits bRM_splits 1 (some .int) ({ frames := 1, cells := 0, slots := 0, locals := 23 } : Room) P K I0 O J0 [.ref a0] (EPo (some (.int r)) I' J0 P K O) := by
  refine Con.ofG mfRM_splits (Nat.le_of_ble_eq_true rfl) ?_
  intro X C E
  unfold F_RM_splits at h
  refine g_aload_n C dRM_splits_0 rfl ?_
  have t_1 := rf_ok hT h0 (show sp 8 9 = some 7 from rfl)
  refine x_getr C dRM_splits_1 fl_RM_64 h0 hT (show sp 8 9 = some 7 from rfl) ?_
  obtain ⟨z_4, e_4, h⟩ := bd1_some h
  refine x_callVi (av := fun ad => []) C dRM_splits_4 mfTr_lacksRow mvTr_lacksRow ln_RM_288 t_1 (by decide) rfl (f_Tr_lacksRow hT t_1 e_4) rfl rfl (Nat.le_of_ble_eq_true rfl) ⟨Nat.le_of_ble_eq_true rfl, Nat.le_of_ble_eq_true rfl⟩ ⟨rfl, rfl⟩ ⟨Nat.zero_le _, Nat.zero_le _⟩ ?_
  refine gt_if_eq 18 C dRM_splits_7 (by decide) rfl (fun c_7 => ?_) (fun c_7 => ?_)
  · have h := x_pos c_7 h
    refine g_aload_n C dRM_splits_18 rfl ?_
    refine g_aload_n C dRM_splits_19 rfl ?_
    have t_20 := rf_ok hT h0 (show sp 8 9 = some 7 from rfl)
    refine x_getr C dRM_splits_20 fl_RM_64 h0 hT (show sp 8 9 = some 7 from rfl) ?_
    obtain ⟨z_23, e_23, h⟩ := bd1_some h
    refine x_callVi (av := fun ad => []) C dRM_splits_23 mfTr_countAll mvTr_countAll ln_RM_294 t_20 (by decide) rfl (f_Tr_countAll hT t_20 e_23) rfl rfl (Nat.le_of_ble_eq_true rfl) ⟨Nat.le_of_ble_eq_true rfl, Nat.le_of_ble_eq_true rfl⟩ ⟨rfl, rfl⟩ ⟨Nat.zero_le _, Nat.zero_le _⟩ ?_
    obtain ⟨z_26, I3, e_26, h⟩ := bd2_some h
    refine x_callVi (av := fun ad => [.int z_23]) C dRM_splits_26 mfRM_accept mvRM_accept ln_RM_122 h0 (by decide) rfl (f_RM_accept hT h0 e_26) rfl rfl (Nat.le_of_ble_eq_true rfl) ⟨Nat.le_of_ble_eq_true rfl, Nat.le_of_ble_eq_true rfl⟩ ⟨rfl, rfl⟩ ⟨Nat.zero_le _, Nat.zero_le _⟩ ?_
    exact x_iret1 C E dRM_splits_29 ⟨Nat.zero_le _, Nat.zero_le _⟩ h
  · have h := x_neg c_7 h
    refine g_aload_n C dRM_splits_10 rfl ?_
    refine g_iconst (v := Int32.ofInt (5)) C dRM_splits_11 (by decide) ?_
    obtain ⟨z_12, I4, e_12, h⟩ := bd2_some h
    refine x_callVi (av := fun ad => [.int (Int32.ofInt (5))]) C dRM_splits_12 mfRM_refuse mvRM_refuse ln_RM_96 h0 (by decide) rfl (f_RM_refuse hT h0 e_12) rfl rfl (Nat.le_of_ble_eq_true rfl) ⟨Nat.le_of_ble_eq_true rfl, Nat.le_of_ble_eq_true rfl⟩ ⟨rfl, rfl⟩ ⟨Nat.zero_le _, Nat.zero_le _⟩ ?_
    refine g_goto 29 C dRM_splits_15 (by decide) ?_
    exact x_iret1 C E dRM_splits_29 ⟨Nat.zero_le _, Nat.zero_le _⟩ h
def F_RM_clear (N : Nat) (O : WO) (I0 : WI) (J0 : WJ) (a0 : Nat) : Option (Int32 × WI) := bd2 (F_Tr_drop N O I0 J0 (rf O a0 9)) fun z_4 I1 => some (z_4, I1)
set_option maxHeartbeats 4000000 in
set_option maxRecDepth 100000 in
theorem f_RM_clear {P : List Nat} {K : Nat → Nat} {N : Nat} {O : WO} {I0 : WI} {J0 : WJ} (hT : TR P K O) {a0 : Nat} (h0 : a0 ∈ P ∧ K a0 = 8) {r : Int32} {I' : WI} (h : F_RM_clear N O I0 J0 a0 = some (r, I')) : Con yRM_clear bRM_clear 1 (some .int) ({ frames := 1, cells := 0, slots := 0, locals := 21 } : Room) P K I0 O J0 [.ref a0] (EPo (some (.int r)) I' J0 P K O) := by
  refine Con.ofG mfRM_clear (Nat.le_of_ble_eq_true rfl) ?_
  intro X C E
  unfold F_RM_clear at h
  refine g_aload_n C dRM_clear_0 rfl ?_
  have t_1 := rf_ok hT h0 (show sp 8 9 = some 7 from rfl)
  refine x_getr C dRM_clear_1 fl_RM_64 h0 hT (show sp 8 9 = some 7 from rfl) ?_
  obtain ⟨z_4, I1, e_4, h⟩ := bd2_some h
  refine x_callVi (av := fun ad => []) C dRM_clear_4 mfTr_drop mvTr_drop ln_RM_297 t_1 (by decide) rfl (f_Tr_drop hT t_1 e_4) rfl rfl (Nat.le_of_ble_eq_true rfl) ⟨Nat.le_of_ble_eq_true rfl, Nat.le_of_ble_eq_true rfl⟩ ⟨rfl, rfl⟩ ⟨Nat.zero_le _, Nat.zero_le _⟩ ?_
  exact x_iret1 C E dRM_clear_7 ⟨Nat.zero_le _, Nat.zero_le _⟩ h
def B_RM_marks_83 (N : Nat) (O : WO) (a0 : Nat) (x4 : Int32) (x5 : Int32) (x6 : Int32) (J0 : WJ) (rec_83 : Int32 → Int32 → WI → Option (Int32 × WI)) (x7_83 : Int32) (x8_83 : Int32) (I_83 : WI) : Option (Int32 × WI) := if (x6).toInt < (x8_83).toInt then (bd2 (F_RM_accept N O I_83 J0 a0 x7_83) fun z_158 I10 => some (z_158, I10)) else (jn (fun (IJ_110 : WI) => bd1 (F_Dr_runHour N O IJ_110 J0 (rf O a0 11) (rf O a0 1) (rf O a0 5) 19 (x8_83 * (Int32.ofInt (3)))) fun I11 => if 0 ≤ (((x8_83 * (Int32.ofInt (3))) + (Int32.ofInt (1)))).toInt ∧ (((x8_83 * (Int32.ofInt (3))) + (Int32.ofInt (1)))).toInt < 36 then (bd2 (F_RM_leadMarks N O I11 J0 a0 (I11 (rf O a0 5) (((x8_83 * (Int32.ofInt (3))) + (Int32.ofInt (1)))).toInt.toNat)) fun z_143 I12 => lb ((x7_83 + z_143)) fun v7_147 => lb (x8_83 + Int32.ofInt (1)) fun v8_149 => rec_83 (v7_147) (v8_149) I12) else none) fun k_110 => if (x8_83).toInt = (x5).toInt then (if 0 ≤ (x4).toInt ∧ (x4).toInt < 5 then (lb (up2 I_83 (rf O (rf O a0 10) 0) (x4).toInt.toNat (Int32.ofInt (1000000))) fun I13 => k_110  I13) else none) else (k_110  I_83))
def F_RM_marks (N : Nat) (O : WO) (I0 : WI) (J0 : WJ) (a0 : Nat) (x1 : Int32) (x2 : Int32) (x3 : Int32) (x4 : Int32) (x5 : Int32) (x6 : Int32) : Option (Int32 × WI) := bd1 (F_RM_isSize N O I0 J0 a0 x4) fun z_3 => jn (bd2 (F_RM_refuse N O I0 J0 a0 (Int32.ofInt (1))) fun z_27 I2 => some (z_27, I2)) fun k_25 => if (z_3).toInt = 0 then (k_25 ) else (bd1 (F_RM_isHour N O I0 J0 x5) fun z_11 => if (z_11).toInt = 0 then (k_25 ) else (bd1 (F_RM_isHour N O I0 J0 x6) fun z_19 => if (z_19).toInt = 0 then (k_25 ) else (bd1 (F_RM_isStart N O I0 J0 x1 x2 x3) fun z_34 => jn (bd2 (F_RM_refuse N O I0 J0 a0 (Int32.ofInt (2))) fun z_49 I6 => some (z_49, I6)) fun k_47 => if (z_34).toInt = 0 then (k_47 ) else (if (x5).toInt ≤ (x6).toInt then (bd1 (F_RM_startOf N O I0 J0 x1 x2 x3) fun z_64 => bd1 (F_Dr_beginStart N O I0 J0 (rf O a0 11) (rf O a0 1) z_64) fun I8 => bd1 (F_Ld_makeEmpty N O I8 J0 (rf O a0 10)) fun I9 => lp (B_RM_marks_83 N O a0 x4 x5 x6 J0) (fun _ _ _ => none) N ((Int32.ofInt (0))) ((Int32.ofInt (0))) I9) else (k_47 )))))
set_option maxHeartbeats 4000000 in
set_option maxRecDepth 100000 in
theorem f_RM_marks {P : List Nat} {K : Nat → Nat} {N : Nat} {O : WO} {I0 : WI} {J0 : WJ} (hT : TR P K O) {a0 : Nat} (h0 : a0 ∈ P ∧ K a0 = 8) {x1 : Int32} {x2 : Int32} {x3 : Int32} {x4 : Int32} {x5 : Int32} {x6 : Int32} {r : Int32} {I' : WI} (h : F_RM_marks N O I0 J0 a0 x1 x2 x3 x4 x5 x6 = some (r, I')) : Con yRM_marks bRM_marks 9 (some .int) ({ frames := 4, cells := 0, slots := 0, locals := 87 } : Room) P K I0 O J0 [.ref a0, .int x1, .int x2, .int x3, .int x4, .int x5, .int x6] (EPo (some (.int r)) I' J0 P K O) := by
  refine Con.ofG mfRM_marks (Nat.le_of_ble_eq_true rfl) ?_
  intro X C E
  unfold F_RM_marks at h
  refine g_aload_n C dRM_marks_0 rfl ?_
  refine g_iload C dRM_marks_1 rfl ?_
  obtain ⟨z_3, e_3, h⟩ := bd1_some h
  refine x_callVi (av := fun ad => [.int x4]) C dRM_marks_3 mfRM_isSize mvRM_isSize ln_RM_164 h0 (by decide) rfl (f_RM_isSize hT h0 e_3) rfl rfl (Nat.le_of_ble_eq_true rfl) ⟨Nat.le_of_ble_eq_true rfl, Nat.le_of_ble_eq_true rfl⟩ ⟨rfl, rfl⟩ ⟨Nat.zero_le _, Nat.zero_le _⟩ ?_
  refine x_jn h (fun (k_25 : Option (Int32 × WI)) => k_25  = some (r, I') → GG X 9 P K I0 O J0 0 0 25 [(0, .ref a0), (1, .int x1), (2, .int x2), (3, .int x3), (4, .int x4), (5, .int x5), (6, .int x6)] []) (fun  h => ?_) (fun k_25 hk_25 h => ?_)
  · skip
    refine g_aload_n C dRM_marks_25 rfl ?_
    refine g_iconst (v := Int32.ofInt (1)) C dRM_marks_26 (by decide) ?_
    obtain ⟨z_27, I2, e_27, h⟩ := bd2_some h
    refine x_callVi (av := fun ad => [.int (Int32.ofInt (1))]) C dRM_marks_27 mfRM_refuse mvRM_refuse ln_RM_96 h0 (by decide) rfl (f_RM_refuse hT h0 e_27) rfl rfl (Nat.le_of_ble_eq_true rfl) ⟨Nat.le_of_ble_eq_true rfl, Nat.le_of_ble_eq_true rfl⟩ ⟨rfl, rfl⟩ ⟨Nat.zero_le _, Nat.zero_le _⟩ ?_
    exact x_iret1 C E dRM_marks_30 ⟨Nat.zero_le _, Nat.zero_le _⟩ h
  refine gt_if_eq 25 C dRM_marks_6 (by decide) rfl (fun c_6 => ?_) (fun c_6 => ?_)
  · have h := x_pos c_6 h
    exact g_sub (hk_25  h) ⟨rfl, rfl, rfl, rfl, rfl, rfl, rfl, trivial⟩
  · have h := x_neg c_6 h
    refine g_iload C dRM_marks_9 rfl ?_
    obtain ⟨z_11, e_11, h⟩ := bd1_some h
    refine x_callSi (av := fun ad => [.int x5]) C dRM_marks_11 mfRM_isHour msRM_isHour ln_RM_212 (f_RM_isHour hT  e_11) rfl rfl (Nat.le_of_ble_eq_true rfl) ⟨Nat.le_of_ble_eq_true rfl, Nat.le_of_ble_eq_true rfl⟩ ⟨rfl, rfl⟩ ⟨Nat.zero_le _, Nat.zero_le _⟩ ?_
    refine gt_if_eq 25 C dRM_marks_14 (by decide) rfl (fun c_14 => ?_) (fun c_14 => ?_)
    · have h := x_pos c_14 h
      exact g_sub (hk_25  h) ⟨rfl, rfl, rfl, rfl, rfl, rfl, rfl, trivial⟩
    · have h := x_neg c_14 h
      refine g_iload C dRM_marks_17 rfl ?_
      obtain ⟨z_19, e_19, h⟩ := bd1_some h
      refine x_callSi (av := fun ad => [.int x6]) C dRM_marks_19 mfRM_isHour msRM_isHour ln_RM_212 (f_RM_isHour hT  e_19) rfl rfl (Nat.le_of_ble_eq_true rfl) ⟨Nat.le_of_ble_eq_true rfl, Nat.le_of_ble_eq_true rfl⟩ ⟨rfl, rfl⟩ ⟨Nat.zero_le _, Nat.zero_le _⟩ ?_
      refine gt_if_ne 31 C dRM_marks_22 (by decide) rfl (fun c_22 => ?_) (fun c_22 => ?_)
      · have h := x_neg c_22 h
        refine g_iload_n C dRM_marks_31 rfl ?_
        refine g_iload_n C dRM_marks_32 rfl ?_
        refine g_iload_n C dRM_marks_33 rfl ?_
        obtain ⟨z_34, e_34, h⟩ := bd1_some h
        refine x_callSi (av := fun ad => [.int x1, .int x2, .int x3]) C dRM_marks_34 mfRM_isStart msRM_isStart ln_RM_246 (f_RM_isStart hT  e_34) rfl rfl (Nat.le_of_ble_eq_true rfl) ⟨Nat.le_of_ble_eq_true rfl, Nat.le_of_ble_eq_true rfl⟩ ⟨rfl, rfl⟩ ⟨Nat.zero_le _, Nat.zero_le _⟩ ?_
        refine x_jn h (fun (k_47 : Option (Int32 × WI)) => k_47  = some (r, I') → GG X 9 P K I0 O J0 0 0 47 [(0, .ref a0), (1, .int x1), (2, .int x2), (3, .int x3), (4, .int x4), (5, .int x5), (6, .int x6)] []) (fun  h => ?_) (fun k_47 hk_47 h => ?_)
        · skip
          refine g_aload_n C dRM_marks_47 rfl ?_
          refine g_iconst (v := Int32.ofInt (2)) C dRM_marks_48 (by decide) ?_
          obtain ⟨z_49, I6, e_49, h⟩ := bd2_some h
          refine x_callVi (av := fun ad => [.int (Int32.ofInt (2))]) C dRM_marks_49 mfRM_refuse mvRM_refuse ln_RM_96 h0 (by decide) rfl (f_RM_refuse hT h0 e_49) rfl rfl (Nat.le_of_ble_eq_true rfl) ⟨Nat.le_of_ble_eq_true rfl, Nat.le_of_ble_eq_true rfl⟩ ⟨rfl, rfl⟩ ⟨Nat.zero_le _, Nat.zero_le _⟩ ?_
          exact x_iret1 C E dRM_marks_52 ⟨Nat.zero_le _, Nat.zero_le _⟩ h
        refine gt_if_eq 47 C dRM_marks_37 (by decide) rfl (fun c_37 => ?_) (fun c_37 => ?_)
        · have h := x_pos c_37 h
          exact g_sub (hk_47  h) ⟨rfl, rfl, rfl, rfl, rfl, rfl, rfl, trivial⟩
        · have h := x_neg c_37 h
          refine g_iload C dRM_marks_40 rfl ?_
          refine g_iload C dRM_marks_42 rfl ?_
          refine gt_icmp_ge 53 C dRM_marks_44 (by decide) rfl rfl (fun c_44 => ?_) (fun c_44 => ?_)
          · have h := x_pos c_44 h
            refine g_aload_n C dRM_marks_53 rfl ?_
            have t_54 := rf_ok hT h0 (show sp 8 11 = some 0 from rfl)
            refine x_getr C dRM_marks_54 fl_RM_75 h0 hT (show sp 8 11 = some 0 from rfl) ?_
            refine g_aload_n C dRM_marks_57 rfl ?_
            have t_58 := rf_ok hT h0 (show sp 8 1 = some 3 from rfl)
            refine x_getr C dRM_marks_58 fl_RM_19 h0 hT (show sp 8 1 = some 3 from rfl) ?_
            refine g_iload_n C dRM_marks_61 rfl ?_
            refine g_iload_n C dRM_marks_62 rfl ?_
            refine g_iload_n C dRM_marks_63 rfl ?_
            obtain ⟨z_64, e_64, h⟩ := bd1_some h
            refine x_callSi (av := fun ad => [.int x1, .int x2, .int x3]) C dRM_marks_64 mfRM_startOf msRM_startOf ln_RM_250 (f_RM_startOf hT  e_64) rfl rfl (Nat.le_of_ble_eq_true rfl) ⟨Nat.le_of_ble_eq_true rfl, Nat.le_of_ble_eq_true rfl⟩ ⟨rfl, rfl⟩ ⟨Nat.zero_le _, Nat.zero_le _⟩ ?_
            obtain ⟨I8, e_67, h⟩ := bd1_some h
            refine x_callVv (av := fun ad => [.ref (rf O a0 1), .int z_64]) C dRM_marks_67 mfDr_beginStart mvDr_beginStart ln_RM_298 t_54 (by decide) rfl (f_Dr_beginStart hT t_54 t_58 e_67) rfl rfl (Nat.le_of_ble_eq_true rfl) ⟨Nat.le_of_ble_eq_true rfl, Nat.le_of_ble_eq_true rfl⟩ ⟨rfl, rfl⟩ ⟨Nat.zero_le _, Nat.zero_le _⟩ ?_
            refine g_aload_n C dRM_marks_70 rfl ?_
            have t_71 := rf_ok hT h0 (show sp 8 10 = some 2 from rfl)
            refine x_getr C dRM_marks_71 fl_RM_71 h0 hT (show sp 8 10 = some 2 from rfl) ?_
            obtain ⟨I9, e_74, h⟩ := bd1_some h
            refine x_callVv (av := fun ad => []) C dRM_marks_74 mfLd_makeEmpty mvLd_makeEmpty ln_RM_302 t_71 (by decide) rfl (f_Ld_makeEmpty hT t_71 e_74) rfl rfl (Nat.le_of_ble_eq_true rfl) ⟨Nat.le_of_ble_eq_true rfl, Nat.le_of_ble_eq_true rfl⟩ ⟨rfl, rfl⟩ ⟨Nat.zero_le _, Nat.zero_le _⟩ ?_
            refine g_iconst (v := Int32.ofInt (0)) C dRM_marks_77 (by decide) ?_
            refine g_istore C dRM_marks_78 (by decide) ?_
            refine g_iconst (v := Int32.ofInt (0)) C dRM_marks_80 (by decide) ?_
            refine g_istore C dRM_marks_81 (by decide) ?_
            have lp_83 : ∀ (x7_83 : Int32) (x8_83 : Int32) (I_83 : WI), lp (B_RM_marks_83 N O a0 x4 x5 x6 J0) (fun _ _ _ => none) N x7_83 x8_83 I_83 = some (r, I') → GG X 9 P K I_83 O J0 0 0 83 [(0, .ref a0), (1, .int x1), (2, .int x2), (3, .int x3), (4, .int x4), (5, .int x5), (6, .int x6), (7, .int x7_83), (8, .int x8_83)] [] := by
              refine x_lp (fun (rec_83 : Int32 → Int32 → WI → Option (Int32 × WI)) => ∀ (x7_83 : Int32) (x8_83 : Int32) (I_83 : WI), rec_83 x7_83 x8_83 I_83 = some (r, I') → GG X 9 P K I_83 O J0 0 0 83 [(0, .ref a0), (1, .int x1), (2, .int x2), (3, .int x3), (4, .int x4), (5, .int x5), (6, .int x6), (7, .int x7_83), (8, .int x8_83)] []) (fun _ _ _ h => by cases h) (fun rec_83 hr_83 x7_83 x8_83 I_83 h => ?_) N
              unfold B_RM_marks_83 at h
              refine g_iload C dRM_marks_83 rfl ?_
              refine g_iload C dRM_marks_85 rfl ?_
              refine gt_icmp_gt 155 C dRM_marks_87 (by decide) rfl rfl (fun c_87 => ?_) (fun c_87 => ?_)
              · have h := x_pos c_87 h
                refine g_aload_n C dRM_marks_155 rfl ?_
                refine g_iload C dRM_marks_156 rfl ?_
                obtain ⟨z_158, I10, e_158, h⟩ := bd2_some h
                refine x_callVi (av := fun ad => [.int x7_83]) C dRM_marks_158 mfRM_accept mvRM_accept ln_RM_122 h0 (by decide) rfl (f_RM_accept hT h0 e_158) rfl rfl (Nat.le_of_ble_eq_true rfl) ⟨Nat.le_of_ble_eq_true rfl, Nat.le_of_ble_eq_true rfl⟩ ⟨rfl, rfl⟩ ⟨Nat.zero_le _, Nat.zero_le _⟩ ?_
                exact x_iret1 C E dRM_marks_161 ⟨Nat.zero_le _, Nat.zero_le _⟩ h
              · have h := x_neg (Int.not_lt.mpr c_87) h
                refine g_iload C dRM_marks_90 rfl ?_
                refine g_iload C dRM_marks_92 rfl ?_
                refine x_jn h (fun (k_110 : WI → Option (Int32 × WI)) => ∀ (IJ_110 : WI), k_110 IJ_110 = some (r, I') → GG X 9 P K IJ_110 O J0 0 0 110 [(0, .ref a0), (1, .int x1), (2, .int x2), (3, .int x3), (4, .int x4), (5, .int x5), (6, .int x6), (7, .int x7_83), (8, .int x8_83)] []) (fun IJ_110 h => ?_) (fun k_110 hk_110 h => ?_)
                · skip
                  refine g_aload_n C dRM_marks_110 rfl ?_
                  have t_111 := rf_ok hT h0 (show sp 8 11 = some 0 from rfl)
                  refine x_getr C dRM_marks_111 fl_RM_75 h0 hT (show sp 8 11 = some 0 from rfl) ?_
                  refine g_aload_n C dRM_marks_114 rfl ?_
                  have t_115 := rf_ok hT h0 (show sp 8 1 = some 3 from rfl)
                  refine x_getr C dRM_marks_115 fl_RM_19 h0 hT (show sp 8 1 = some 3 from rfl) ?_
                  refine g_aload_n C dRM_marks_118 rfl ?_
                  have t_119 := rf_ok hT h0 (show sp 8 5 = some 19 from rfl)
                  refine x_getr C dRM_marks_119 fl_RM_37 h0 hT (show sp 8 5 = some 19 from rfl) ?_
                  refine g_iload C dRM_marks_122 rfl ?_
                  refine g_iconst (v := Int32.ofInt (3)) C dRM_marks_124 (by decide) ?_
                  refine g_imul C dRM_marks_125 ?_
                  obtain ⟨I11, e_126, h⟩ := bd1_some h
                  refine x_callVv (av := fun ad => [.ref (rf O a0 1), .ref (rf O a0 5), .int (x8_83 * (Int32.ofInt (3)))]) C dRM_marks_126 mfDr_runHour mvDr_runHour ln_RM_153 t_111 (by decide) rfl (f_Dr_runHour hT t_111 t_115 t_119 ⟨by decide, rfl⟩ e_126) rfl rfl (Nat.le_of_ble_eq_true rfl) ⟨Nat.le_of_ble_eq_true rfl, Nat.le_of_ble_eq_true rfl⟩ ⟨rfl, rfl⟩ ⟨Nat.zero_le _, Nat.zero_le _⟩ ?_
                  refine g_iload C dRM_marks_129 rfl ?_
                  refine g_aload_n C dRM_marks_131 rfl ?_
                  refine g_aload_n C dRM_marks_132 rfl ?_
                  have t_133 := rf_ok hT h0 (show sp 8 5 = some 19 from rfl)
                  refine x_getr C dRM_marks_133 fl_RM_37 h0 hT (show sp 8 5 = some 19 from rfl) ?_
                  refine g_iload C dRM_marks_136 rfl ?_
                  refine g_iconst (v := Int32.ofInt (3)) C dRM_marks_138 (by decide) ?_
                  refine g_imul C dRM_marks_139 ?_
                  refine g_iconst (v := Int32.ofInt (1)) C dRM_marks_140 (by decide) ?_
                  refine g_iadd C dRM_marks_141 ?_
                  obtain ⟨g_142, h⟩ := x_g h
                  refine x_iald (m := 36) C dRM_marks_142 t_133 (by decide) rfl rfl g_142 ?_
                  obtain ⟨z_143, I12, e_143, h⟩ := bd2_some h
                  refine x_callVi (av := fun ad => [.int (I11 (rf O a0 5) (((x8_83 * (Int32.ofInt (3))) + (Int32.ofInt (1)))).toInt.toNat)]) C dRM_marks_143 mfRM_leadMarks mvRM_leadMarks ln_RM_306 h0 (by decide) rfl (f_RM_leadMarks hT h0 e_143) rfl rfl (Nat.le_of_ble_eq_true rfl) ⟨Nat.le_of_ble_eq_true rfl, Nat.le_of_ble_eq_true rfl⟩ ⟨rfl, rfl⟩ ⟨Nat.zero_le _, Nat.zero_le _⟩ ?_
                  refine g_iadd C dRM_marks_146 ?_
                  refine x_istore C dRM_marks_147 (by decide) h (fun v7_147 h => ?_)
                  refine x_iinc C dRM_marks_149 rfl (by decide) h (fun v8_149 h => ?_)
                  refine g_goto 83 C dRM_marks_152 (by decide) ?_
                  exact g_sub (hr_83 (v7_147) (v8_149) I12 h) ⟨rfl, rfl, rfl, rfl, rfl, rfl, rfl, rfl, rfl, trivial⟩
                refine gt_icmp_ne 110 C dRM_marks_94 (by decide) rfl rfl (fun c_94 => ?_) (fun c_94 => ?_)
                · have h := x_neg c_94 h
                  exact g_sub (hk_110  I_83 h) ⟨rfl, rfl, rfl, rfl, rfl, rfl, rfl, rfl, rfl, trivial⟩
                · have h := x_pos c_94 h
                  refine g_aload_n C dRM_marks_97 rfl ?_
                  have t_98 := rf_ok hT h0 (show sp 8 10 = some 2 from rfl)
                  refine x_getr C dRM_marks_98 fl_RM_71 h0 hT (show sp 8 10 = some 2 from rfl) ?_
                  have t_101 := rf_ok hT t_98 (show sp 2 0 = some 11 from rfl)
                  refine x_getr C dRM_marks_101 fl_RM_170 t_98 hT (show sp 2 0 = some 11 from rfl) ?_
                  refine g_iload C dRM_marks_104 rfl ?_
                  refine g_ldcw (v := Int32.ofInt (1000000)) C dRM_marks_106 k_RM_305 ?_
                  obtain ⟨g_109, h⟩ := x_g h
                  refine x_iast (m := 5) C dRM_marks_109 t_101 (by decide) rfl rfl g_109 h (fun I13 h => ?_)
                  exact g_sub (hk_110  I13 h) ⟨rfl, rfl, rfl, rfl, rfl, rfl, rfl, rfl, rfl, trivial⟩
            exact g_sub (lp_83 ((Int32.ofInt (0))) ((Int32.ofInt (0))) I9 h) ⟨rfl, rfl, rfl, rfl, rfl, rfl, rfl, rfl, rfl, trivial⟩
          · have h := x_neg (Int.not_le.mpr c_44) h
            exact g_sub (hk_47  h) ⟨rfl, rfl, rfl, rfl, rfl, rfl, rfl, trivial⟩
      · have h := x_pos c_22 h
        exact g_sub (hk_25  h) ⟨rfl, rfl, rfl, rfl, rfl, rfl, rfl, trivial⟩
def F_RM_size (N : Nat) (O : WO) (I0 : WI) (J0 : WJ) (a0 : Nat) (x1 : Int32) : Option (Int32) := if (x1).toInt = 0 then (some (I0 (rf O a0 1) 7)) else if (x1).toInt = 1 then (some (I0 (rf O a0 1) 8)) else if (x1).toInt = 2 then (some (I0 (rf O a0 1) 0)) else if (x1).toInt = 3 then (some (I0 (rf O a0 1) 1)) else if (x1).toInt = 4 then (some (mxI (I0 (rf O a0 1) 2) (Int32.ofInt (0)))) else if (x1).toInt = 5 then (some (I0 (rf O a0 1) 3)) else if (x1).toInt = 6 then (some (I0 (rf O a0 1) 4)) else if (x1).toInt = 7 then (some (I0 (rf O a0 1) 5)) else if (x1).toInt = 8 then (some (I0 (rf O a0 1) 6)) else if (x1).toInt = 9 then (some (I0 (rf O a0 1) 9)) else if (x1).toInt = 10 then (some (I0 (rf O a0 7) 4)) else if (x1).toInt = 11 then (some (I0 (rf O a0 0) 1)) else (some (Int32.ofInt (-1)))
set_option maxHeartbeats 4000000 in
set_option maxRecDepth 100000 in
theorem f_RM_size {P : List Nat} {K : Nat → Nat} {N : Nat} {O : WO} {I0 : WI} {J0 : WJ} (hT : TR P K O) {a0 : Nat} (h0 : a0 ∈ P ∧ K a0 = 8) {x1 : Int32} {r : Int32} (h : F_RM_size N O I0 J0 a0 x1 = some r) : Con yRM_size bRM_size 2 (some .int) ({ frames := 1, cells := 0, slots := 0, locals := 21 } : Room) P K I0 O J0 [.ref a0, .int x1] (EPo (some (.int r)) I0 J0 P K O) := by
  refine Con.ofG mfRM_size (Nat.le_of_ble_eq_true rfl) ?_
  intro X C E
  unfold F_RM_size at h
  refine g_iload_n C dRM_size_0 rfl ?_
  by_cases q_1_0 : (x1).toInt = 0
  · refine g_tIn 64 C dRM_size_1 (by omega) (by omega) (by rw [q_1_0]; rfl) (by decide) ?_
    have h := x_pos q_1_0 h
    refine g_aload_n C dRM_size_64 rfl ?_
    have t_65 := rf_ok hT h0 (show sp 8 1 = some 3 from rfl)
    refine x_getr C dRM_size_65 fl_RM_19 h0 hT (show sp 8 1 = some 3 from rfl) ?_
    refine g_geti C dRM_size_68 fl_RM_119 t_65 ?_
    exact x_iret0 C E dRM_size_71 ⟨Nat.zero_le _, Nat.zero_le _⟩ h
  have h := x_neg q_1_0 h
  by_cases q_1_1 : (x1).toInt = 1
  · refine g_tIn 72 C dRM_size_1 (by omega) (by omega) (by rw [q_1_1]; rfl) (by decide) ?_
    have h := x_pos q_1_1 h
    refine g_aload_n C dRM_size_72 rfl ?_
    have t_73 := rf_ok hT h0 (show sp 8 1 = some 3 from rfl)
    refine x_getr C dRM_size_73 fl_RM_19 h0 hT (show sp 8 1 = some 3 from rfl) ?_
    refine g_geti C dRM_size_76 fl_RM_319 t_73 ?_
    exact x_iret0 C E dRM_size_79 ⟨Nat.zero_le _, Nat.zero_le _⟩ h
  have h := x_neg q_1_1 h
  by_cases q_1_2 : (x1).toInt = 2
  · refine g_tIn 80 C dRM_size_1 (by omega) (by omega) (by rw [q_1_2]; rfl) (by decide) ?_
    have h := x_pos q_1_2 h
    refine g_aload_n C dRM_size_80 rfl ?_
    have t_81 := rf_ok hT h0 (show sp 8 1 = some 3 from rfl)
    refine x_getr C dRM_size_81 fl_RM_19 h0 hT (show sp 8 1 = some 3 from rfl) ?_
    refine g_geti C dRM_size_84 fl_RM_322 t_81 ?_
    exact x_iret0 C E dRM_size_87 ⟨Nat.zero_le _, Nat.zero_le _⟩ h
  have h := x_neg q_1_2 h
  by_cases q_1_3 : (x1).toInt = 3
  · refine g_tIn 88 C dRM_size_1 (by omega) (by omega) (by rw [q_1_3]; rfl) (by decide) ?_
    have h := x_pos q_1_3 h
    refine g_aload_n C dRM_size_88 rfl ?_
    have t_89 := rf_ok hT h0 (show sp 8 1 = some 3 from rfl)
    refine x_getr C dRM_size_89 fl_RM_19 h0 hT (show sp 8 1 = some 3 from rfl) ?_
    refine g_geti C dRM_size_92 fl_RM_325 t_89 ?_
    exact x_iret0 C E dRM_size_95 ⟨Nat.zero_le _, Nat.zero_le _⟩ h
  have h := x_neg q_1_3 h
  by_cases q_1_4 : (x1).toInt = 4
  · refine g_tIn 96 C dRM_size_1 (by omega) (by omega) (by rw [q_1_4]; rfl) (by decide) ?_
    have h := x_pos q_1_4 h
    refine g_aload_n C dRM_size_96 rfl ?_
    have t_97 := rf_ok hT h0 (show sp 8 1 = some 3 from rfl)
    refine x_getr C dRM_size_97 fl_RM_19 h0 hT (show sp 8 1 = some 3 from rfl) ?_
    refine g_geti C dRM_size_100 fl_RM_328 t_97 ?_
    refine g_iconst (v := Int32.ofInt (0)) C dRM_size_103 (by decide) ?_
    refine x_max C dRM_size_104 ml_RM_331 (Nat.le_of_ble_eq_true rfl) ⟨Nat.le_of_ble_eq_true rfl, Nat.le_of_ble_eq_true rfl⟩ ⟨Nat.zero_le _, Nat.zero_le _⟩ ?_
    exact x_iret0 C E dRM_size_107 ⟨Nat.zero_le _, Nat.zero_le _⟩ h
  have h := x_neg q_1_4 h
  by_cases q_1_5 : (x1).toInt = 5
  · refine g_tIn 108 C dRM_size_1 (by omega) (by omega) (by rw [q_1_5]; rfl) (by decide) ?_
    have h := x_pos q_1_5 h
    refine g_aload_n C dRM_size_108 rfl ?_
    have t_109 := rf_ok hT h0 (show sp 8 1 = some 3 from rfl)
    refine x_getr C dRM_size_109 fl_RM_19 h0 hT (show sp 8 1 = some 3 from rfl) ?_
    refine g_geti C dRM_size_112 fl_RM_336 t_109 ?_
    exact x_iret0 C E dRM_size_115 ⟨Nat.zero_le _, Nat.zero_le _⟩ h
  have h := x_neg q_1_5 h
  by_cases q_1_6 : (x1).toInt = 6
  · refine g_tIn 116 C dRM_size_1 (by omega) (by omega) (by rw [q_1_6]; rfl) (by decide) ?_
    have h := x_pos q_1_6 h
    refine g_aload_n C dRM_size_116 rfl ?_
    have t_117 := rf_ok hT h0 (show sp 8 1 = some 3 from rfl)
    refine x_getr C dRM_size_117 fl_RM_19 h0 hT (show sp 8 1 = some 3 from rfl) ?_
    refine g_geti C dRM_size_120 fl_RM_339 t_117 ?_
    exact x_iret0 C E dRM_size_123 ⟨Nat.zero_le _, Nat.zero_le _⟩ h
  have h := x_neg q_1_6 h
  by_cases q_1_7 : (x1).toInt = 7
  · refine g_tIn 124 C dRM_size_1 (by omega) (by omega) (by rw [q_1_7]; rfl) (by decide) ?_
    have h := x_pos q_1_7 h
    refine g_aload_n C dRM_size_124 rfl ?_
    have t_125 := rf_ok hT h0 (show sp 8 1 = some 3 from rfl)
    refine x_getr C dRM_size_125 fl_RM_19 h0 hT (show sp 8 1 = some 3 from rfl) ?_
    refine g_geti C dRM_size_128 fl_RM_342 t_125 ?_
    exact x_iret0 C E dRM_size_131 ⟨Nat.zero_le _, Nat.zero_le _⟩ h
  have h := x_neg q_1_7 h
  by_cases q_1_8 : (x1).toInt = 8
  · refine g_tIn 132 C dRM_size_1 (by omega) (by omega) (by rw [q_1_8]; rfl) (by decide) ?_
    have h := x_pos q_1_8 h
    refine g_aload_n C dRM_size_132 rfl ?_
    have t_133 := rf_ok hT h0 (show sp 8 1 = some 3 from rfl)
    refine x_getr C dRM_size_133 fl_RM_19 h0 hT (show sp 8 1 = some 3 from rfl) ?_
    refine g_geti C dRM_size_136 fl_RM_345 t_133 ?_
    exact x_iret0 C E dRM_size_139 ⟨Nat.zero_le _, Nat.zero_le _⟩ h
  have h := x_neg q_1_8 h
  by_cases q_1_9 : (x1).toInt = 9
  · refine g_tIn 140 C dRM_size_1 (by omega) (by omega) (by rw [q_1_9]; rfl) (by decide) ?_
    have h := x_pos q_1_9 h
    refine g_aload_n C dRM_size_140 rfl ?_
    have t_141 := rf_ok hT h0 (show sp 8 1 = some 3 from rfl)
    refine x_getr C dRM_size_141 fl_RM_19 h0 hT (show sp 8 1 = some 3 from rfl) ?_
    refine g_geti C dRM_size_144 fl_RM_348 t_141 ?_
    exact x_iret0 C E dRM_size_147 ⟨Nat.zero_le _, Nat.zero_le _⟩ h
  have h := x_neg q_1_9 h
  by_cases q_1_10 : (x1).toInt = 10
  · refine g_tIn 148 C dRM_size_1 (by omega) (by omega) (by rw [q_1_10]; rfl) (by decide) ?_
    have h := x_pos q_1_10 h
    refine g_aload_n C dRM_size_148 rfl ?_
    have t_149 := rf_ok hT h0 (show sp 8 7 = some 6 from rfl)
    refine x_getr C dRM_size_149 fl_RM_50 h0 hT (show sp 8 7 = some 6 from rfl) ?_
    refine g_geti C dRM_size_152 fl_RM_351 t_149 ?_
    exact x_iret0 C E dRM_size_155 ⟨Nat.zero_le _, Nat.zero_le _⟩ h
  have h := x_neg q_1_10 h
  by_cases q_1_11 : (x1).toInt = 11
  · refine g_tIn 156 C dRM_size_1 (by omega) (by omega) (by rw [q_1_11]; rfl) (by decide) ?_
    have h := x_pos q_1_11 h
    refine g_aload_n C dRM_size_156 rfl ?_
    have t_157 := rf_ok hT h0 (show sp 8 0 = some 5 from rfl)
    refine x_getr C dRM_size_157 fl_RM_12 h0 hT (show sp 8 0 = some 5 from rfl) ?_
    refine g_geti C dRM_size_160 fl_RM_93 t_157 ?_
    exact x_iret0 C E dRM_size_163 ⟨Nat.zero_le _, Nat.zero_le _⟩ h
  have h := x_neg q_1_11 h
  refine g_tOut 164 C dRM_size_1 (by omega) (by decide) ?_
  refine g_iconst (v := Int32.ofInt (-1)) C dRM_size_164 (by decide) ?_
  exact x_iret0 C E dRM_size_165 ⟨Nat.zero_le _, Nat.zero_le _⟩ h
def F_RM_trouble (N : Nat) (O : WO) (I0 : WI) (J0 : WJ) (a0 : Nat) : Option (Int32) := some (I0 a0 14)
set_option maxHeartbeats 4000000 in
set_option maxRecDepth 100000 in
theorem f_RM_trouble {P : List Nat} {K : Nat → Nat} {N : Nat} {O : WO} {I0 : WI} {J0 : WJ} (hT : TR P K O) {a0 : Nat} (h0 : a0 ∈ P ∧ K a0 = 8) {r : Int32} (h : F_RM_trouble N O I0 J0 a0 = some r) : Con yRM_trouble bRM_trouble 1 (some .int) ({ frames := 0, cells := 0, slots := 0, locals := 0 } : Room) P K I0 O J0 [.ref a0] (EPo (some (.int r)) I0 J0 P K O) := by
  refine Con.ofG mfRM_trouble (Nat.le_of_ble_eq_true rfl) ?_
  intro X C E
  unfold F_RM_trouble at h
  refine g_aload_n C dRM_trouble_0 rfl ?_
  refine g_geti C dRM_trouble_1 fl_RM_81 h0 ?_
  exact x_iret0 C E dRM_trouble_4 ⟨Nat.zero_le _, Nat.zero_le _⟩ h
