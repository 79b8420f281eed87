def B_RM_sumOf_4 (N : Nat) (O : WO) (a0 : Nat) (I0 : WI) (rec_4 : Int32 → Int32 → Option (Int32)) (x1_4 : Int32) (x2_4 : Int32) : Option (Int32) := if 5 ≤ (x2_4).toInt then (some x1_4) else (if 0 ≤ (x2_4).toInt ∧ (x2_4).toInt < 5 then (lb ((x1_4 + (I0 a0 (x2_4).toInt.toNat))) fun v1_15 => lb (x2_4 + Int32.ofInt (1)) fun v2_16 => rec_4 (v1_15) (v2_16)) else none)
def F_RM_sumOf (N : Nat) (O : WO) (I0 : WI) (J0 : WJ) (a0 : Nat) : Option (Int32) := lp (B_RM_sumOf_4 N O a0 I0) (fun _ _ => none) N ((Int32.ofInt (0))) ((Int32.ofInt (0)))
set_option maxHeartbeats 4000000 in
set_option maxRecDepth 100000 in
theorem f_RM_sumOf {P : List Nat} {K : Nat → Nat} {N : Nat} {O : WO} {I0 : WI} {J0 : WJ} (hT : TR P K O) {a0 : Nat} (h0 : a0 ∈ P ∧ K a0 = 11) {r : Int32} (h : F_RM_sumOf N O I0 J0 a0 = some r) : Con yRM_sumOf bRM_sumOf 3 (some .int) ({ frames := 0, cells := 0, slots := 0, locals := 0 } : Room) P K I0 O J0 [.ref a0] (EPo (some (.int r)) I0 J0 P K O) := by
  refine Con.ofG mfRM_sumOf (Nat.le_of_ble_eq_true rfl) ?_
  intro X C E
  unfold F_RM_sumOf at h
  refine g_iconst (v := Int32.ofInt (0)) C dRM_sumOf_0 (by decide) ?_
  refine g_istore_n (i := 1) C dRM_sumOf_1 rfl (by decide) ?_
  refine g_iconst (v := Int32.ofInt (0)) C dRM_sumOf_2 (by decide) ?_
  refine g_istore_n (i := 2) C dRM_sumOf_3 rfl (by decide) ?_
  have lp_4 : ∀ (x1_4 : Int32) (x2_4 : Int32), lp (B_RM_sumOf_4 N O a0 I0) (fun _ _ => none) N x1_4 x2_4 = some r → GG X 3 P K I0 O J0 0 0 4 [(0, .ref a0), (1, .int x1_4), (2, .int x2_4)] [] := by
    refine x_lp (fun (rec_4 : Int32 → Int32 → Option (Int32)) => ∀ (x1_4 : Int32) (x2_4 : Int32), rec_4 x1_4 x2_4 = some r → GG X 3 P K I0 O J0 0 0 4 [(0, .ref a0), (1, .int x1_4), (2, .int x2_4)] []) (fun _ _ h => by cases h) (fun rec_4 hr_4 x1_4 x2_4 h => ?_) N
    unfold B_RM_sumOf_4 at h
    refine g_iload_n C dRM_sumOf_4 rfl ?_
    refine g_aload_n C dRM_sumOf_5 rfl ?_
    refine x_alenc 5 C dRM_sumOf_6 h0 (by decide) (by decide) (by decide) ?_
    refine gt_icmp_ge 22 C dRM_sumOf_7 (by decide) rfl (ofI (by decide)) (fun c_7 => ?_) (fun c_7 => ?_)
    · have h := x_pos c_7 h
      refine g_iload_n C dRM_sumOf_22 rfl ?_
      exact x_iret0 C E dRM_sumOf_23 ⟨Nat.zero_le _, Nat.zero_le _⟩ h
    · have h := x_neg (Int.not_le.mpr c_7) h
      refine g_iload_n C dRM_sumOf_10 rfl ?_
      refine g_aload_n C dRM_sumOf_11 rfl ?_
      refine g_iload_n C dRM_sumOf_12 rfl ?_
      obtain ⟨g_13, h⟩ := x_g h
      refine x_iald (m := 5) C dRM_sumOf_13 h0 (by decide) rfl rfl g_13 ?_
      refine g_iadd C dRM_sumOf_14 ?_
      refine x_istore_n (i := 1) C dRM_sumOf_15 rfl (by decide) h (fun v1_15 h => ?_)
      refine x_iinc C dRM_sumOf_16 rfl (by decide) h (fun v2_16 h => ?_)
      refine g_goto 4 C dRM_sumOf_19 (by decide) ?_
      exact g_sub (hr_4 (v1_15) (v2_16) h) ⟨rfl, rfl, rfl, trivial⟩
  exact g_sub (lp_4 ((Int32.ofInt (0))) ((Int32.ofInt (0))) h) ⟨rfl, rfl, rfl, trivial⟩
def B_RM_copyRow_2 (N : Nat) (O : WO) (a0 : Nat) (κ0 : Nat) (a1 : Nat) (κ1 : Nat) (rec_2 : Int32 → WI → Option (WI)) (x2_2 : Int32) (I_2 : WI) : Option (WI) := if ((Int32.ofNat (alen κ0))).toInt ≤ (x2_2).toInt then (some I_2) else (if ((Int32.ofNat (alen κ1))).toInt ≤ (x2_2).toInt then (some I_2) else (if 0 ≤ (x2_2).toInt ∧ (x2_2).toInt < ((alen κ0 : Nat) : Int) then (if 0 ≤ (x2_2).toInt ∧ (x2_2).toInt < ((alen κ1 : Nat) : Int) then (lb (up2 I_2 a1 (x2_2).toInt.toNat (I_2 a0 (x2_2).toInt.toNat)) fun I1 => lb (x2_2 + Int32.ofInt (1)) fun v2_20 => rec_2 (v2_20) I1) else none) else none))
def F_RM_copyRow (N : Nat) (O : WO) (I0 : WI) (J0 : WJ) (a0 κ0 : Nat) (a1 κ1 : Nat) : Option (WI) := lp (B_RM_copyRow_2 N O a0 κ0 a1 κ1) (fun _ _ => none) N ((Int32.ofInt (0))) I0
set_option maxHeartbeats 4000000 in
set_option maxRecDepth 100000 in
theorem f_RM_copyRow {P : List Nat} {K : Nat → Nat} {N : Nat} {O : WO} {I0 : WI} {J0 : WJ} (hT : TR P K O) {a0 κ0 : Nat} (h0 : a0 ∈ P ∧ K a0 = κ0) (p0 : ¬ κ0 < 11 ∧ aty κ0 = 1) {a1 κ1 : Nat} (h1 : a1 ∈ P ∧ K a1 = κ1) (p1 : ¬ κ1 < 11 ∧ aty κ1 = 1) {I' : WI} (h : F_RM_copyRow N O I0 J0 a0 κ0 a1 κ1 = some I') : Con yRM_copyRow bRM_copyRow 3 none ({ frames := 0, cells := 0, slots := 0, locals := 0 } : Room) P K I0 O J0 [.ref a0, .ref a1] (EPo none I' J0 P K O) := by
  refine Con.ofG mfRM_copyRow (Nat.le_of_ble_eq_true rfl) ?_
  intro X C E
  unfold F_RM_copyRow at h
  refine g_iconst (v := Int32.ofInt (0)) C dRM_copyRow_0 (by decide) ?_
  refine g_istore_n (i := 2) C dRM_copyRow_1 rfl (by decide) ?_
  have lp_2 : ∀ (x2_2 : Int32) (I_2 : WI), lp (B_RM_copyRow_2 N O a0 κ0 a1 κ1) (fun _ _ => none) N x2_2 I_2 = some I' → GG X 3 P K I_2 O J0 0 0 2 [(0, .ref a0), (1, .ref a1), (2, .int x2_2)] [] := by
    refine x_lp (fun (rec_2 : Int32 → WI → Option (WI)) => ∀ (x2_2 : Int32) (I_2 : WI), rec_2 x2_2 I_2 = some I' → GG X 3 P K I_2 O J0 0 0 2 [(0, .ref a0), (1, .ref a1), (2, .int x2_2)] []) (fun _ _ h => by cases h) (fun rec_2 hr_2 x2_2 I_2 h => ?_) N
    unfold B_RM_copyRow_2 at h
    refine g_iload_n C dRM_copyRow_2 rfl ?_
    refine g_aload_n C dRM_copyRow_3 rfl ?_
    refine x_alen C dRM_copyRow_4 h0 p0.1 (by rw [p0.2]; decide) ?_
    refine gt_icmp_ge 26 C dRM_copyRow_5 (by decide) rfl rfl (fun c_5 => ?_) (fun c_5 => ?_)
    · have h := x_pos c_5 h
      exact x_vret1 C E dRM_copyRow_26 ⟨Nat.zero_le _, Nat.zero_le _⟩ h
    · have h := x_neg (Int.not_le.mpr c_5) h
      refine g_iload_n C dRM_copyRow_8 rfl ?_
      refine g_aload_n C dRM_copyRow_9 rfl ?_
      refine x_alen C dRM_copyRow_10 h1 p1.1 (by rw [p1.2]; decide) ?_
      refine gt_icmp_ge 26 C dRM_copyRow_11 (by decide) rfl rfl (fun c_11 => ?_) (fun c_11 => ?_)
      · have h := x_pos c_11 h
        exact x_vret1 C E dRM_copyRow_26 ⟨Nat.zero_le _, Nat.zero_le _⟩ h
      · have h := x_neg (Int.not_le.mpr c_11) h
        refine g_aload_n C dRM_copyRow_14 rfl ?_
        refine g_iload_n C dRM_copyRow_15 rfl ?_
        refine g_aload_n C dRM_copyRow_16 rfl ?_
        refine g_iload_n C dRM_copyRow_17 rfl ?_
        obtain ⟨g_18, h⟩ := x_g h
        refine x_iald (m := (alen κ0)) C dRM_copyRow_18 h0 p0.1 p0.2 rfl g_18 ?_
        obtain ⟨g_19, h⟩ := x_g h
        refine x_iast (m := (alen κ1)) C dRM_copyRow_19 h1 p1.1 p1.2 rfl g_19 h (fun I1 h => ?_)
        refine x_iinc C dRM_copyRow_20 rfl (by decide) h (fun v2_20 h => ?_)
        refine g_goto 2 C dRM_copyRow_23 (by decide) ?_
        exact g_sub (hr_2 (v2_20) I1 h) ⟨rfl, rfl, rfl, trivial⟩
  exact g_sub (lp_2 ((Int32.ofInt (0))) I0 h) ⟨rfl, rfl, rfl, trivial⟩
def F_RM_share (N : Nat) (O : WO) (I0 : WI) (J0 : WJ) (x0 : Int32) (x1 : Int32) (x2 : Int32) : Option (Int32) := if (x2).toInt ≤ 0 then (some (Int32.ofInt (0))) else (if ¬ ((x2).toInt64).toInt = 0 then (some ((((x0).toInt64 * (x1).toInt64) / (x2).toInt64)).toInt32) else none)
set_option maxHeartbeats 4000000 in
set_option maxRecDepth 100000 in
theorem f_RM_share {P : List Nat} {K : Nat → Nat} {N : Nat} {O : WO} {I0 : WI} {J0 : WJ} (hT : TR P K O) {x0 : Int32} {x1 : Int32} {x2 : Int32} {r : Int32} (h : F_RM_share N O I0 J0 x0 x1 x2 = some r) : Con yRM_share bRM_share 3 (some .int) ({ frames := 0, cells := 0, slots := 0, locals := 0 } : Room) P K I0 O J0 [.int x0, .int x1, .int x2] (EPo (some (.int r)) I0 J0 P K O) := by
  refine Con.ofG mfRM_share (Nat.le_of_ble_eq_true rfl) ?_
  intro X C E
  unfold F_RM_share at h
  refine g_iload_n C dRM_share_0 rfl ?_
  refine gt_if_le 16 C dRM_share_1 (by decide) rfl (fun c_1 => ?_) (fun c_1 => ?_)
  · have h := x_pos c_1 h
    refine g_iconst (v := Int32.ofInt (0)) C dRM_share_16 (by decide) ?_
    exact x_iret0 C E dRM_share_17 ⟨Nat.zero_le _, Nat.zero_le _⟩ h
  · have h := x_neg (Int.not_le.mpr c_1) h
    refine g_iload_n C dRM_share_4 rfl ?_
    refine g_i2l C dRM_share_5 ?_
    refine g_iload_n C dRM_share_6 rfl ?_
    refine g_i2l C dRM_share_7 ?_
    refine g_lmul C dRM_share_8 ?_
    refine g_iload_n C dRM_share_9 rfl ?_
    refine g_i2l C dRM_share_10 ?_
    obtain ⟨g_11, h⟩ := x_g h
    refine x_ldiv C dRM_share_11 g_11 ?_
    refine g_l2i C dRM_share_12 ?_
    refine g_goto 17 C dRM_share_13 (by decide) ?_
    exact x_iret0 C E dRM_share_17 ⟨Nat.zero_le _, Nat.zero_le _⟩ h
def F_RM_partOfStart (N : Nat) (O : WO) (I0 : WI) (J0 : WJ) (x0 : Int32) (x1 : Int32) : Option (Int32) := if (x1).toInt = 0 then (some (x0 / (Int32.ofInt (25)))) else (if (x1).toInt = 1 then (some ((x0 / (Int32.ofInt (5))) - (x0 / (Int32.ofInt (5))) / (Int32.ofInt (5)) * (Int32.ofInt (5)))) else (some (x0 - x0 / (Int32.ofInt (5)) * (Int32.ofInt (5)))))
set_option maxHeartbeats 4000000 in
set_option maxRecDepth 100000 in
theorem f_RM_partOfStart {P : List Nat} {K : Nat → Nat} {N : Nat} {O : WO} {I0 : WI} {J0 : WJ} (hT : TR P K O) {x0 : Int32} {x1 : Int32} {r : Int32} (h : F_RM_partOfStart N O I0 J0 x0 x1 = some r) : Con yRM_partOfStart bRM_partOfStart 2 (some .int) ({ frames := 0, cells := 0, slots := 0, locals := 0 } : Room) P K I0 O J0 [.int x0, .int x1] (EPo (some (.int r)) I0 J0 P K O) := by
  refine Con.ofG mfRM_partOfStart (Nat.le_of_ble_eq_true rfl) ?_
  intro X C E
  unfold F_RM_partOfStart at h
  refine g_iload_n C dRM_partOfStart_0 rfl ?_
  refine gt_if_ne 9 C dRM_partOfStart_1 (by decide) rfl (fun c_1 => ?_) (fun c_1 => ?_)
  · have h := x_neg c_1 h
    refine g_iload_n C dRM_partOfStart_9 rfl ?_
    refine g_iconst (v := Int32.ofInt (1)) C dRM_partOfStart_10 (by decide) ?_
    refine gt_icmp_ne 22 C dRM_partOfStart_11 (by decide) rfl (ofI (by decide)) (fun c_11 => ?_) (fun c_11 => ?_)
    · have h := x_neg c_11 h
      refine g_iload_n C dRM_partOfStart_22 rfl ?_
      refine g_iconst (v := Int32.ofInt (5)) C dRM_partOfStart_23 (by decide) ?_
      refine x_irem C dRM_partOfStart_24 (by decide) ?_
      exact x_iret0 C E dRM_partOfStart_25 ⟨Nat.zero_le _, Nat.zero_le _⟩ h
    · have h := x_pos c_11 h
      refine g_iload_n C dRM_partOfStart_14 rfl ?_
      refine g_iconst (v := Int32.ofInt (5)) C dRM_partOfStart_15 (by decide) ?_
      refine x_idiv C dRM_partOfStart_16 (by decide) ?_
      refine g_iconst (v := Int32.ofInt (5)) C dRM_partOfStart_17 (by decide) ?_
      refine x_irem C dRM_partOfStart_18 (by decide) ?_
      refine g_goto 25 C dRM_partOfStart_19 (by decide) ?_
      exact x_iret0 C E dRM_partOfStart_25 ⟨Nat.zero_le _, Nat.zero_le _⟩ h
  · have h := x_pos c_1 h
    refine g_iload_n C dRM_partOfStart_4 rfl ?_
    refine g_bipush (v := Int32.ofInt (25)) C dRM_partOfStart_5 (by decide) ?_
    refine x_idiv C dRM_partOfStart_7 (by decide) ?_
    exact x_iret0 C E dRM_partOfStart_8 ⟨Nat.zero_le _, Nat.zero_le _⟩ h
def F_RM_startOf (N : Nat) (O : WO) (I0 : WI) (J0 : WJ) (x0 : Int32) (x1 : Int32) (x2 : Int32) : Option (Int32) := some ((((x0 * (Int32.ofInt (5))) + x1) * (Int32.ofInt (5))) + x2)
set_option maxHeartbeats 4000000 in
set_option maxRecDepth 100000 in
theorem f_RM_startOf {P : List Nat} {K : Nat → Nat} {N : Nat} {O : WO} {I0 : WI} {J0 : WJ} (hT : TR P K O) {x0 : Int32} {x1 : Int32} {x2 : Int32} {r : Int32} (h : F_RM_startOf N O I0 J0 x0 x1 x2 = some r) : Con yRM_startOf bRM_startOf 3 (some .int) ({ frames := 0, cells := 0, slots := 0, locals := 0 } : Room) P K I0 O J0 [.int x0, .int x1, .int x2] (EPo (some (.int r)) I0 J0 P K O) := by
  refine Con.ofG mfRM_startOf (Nat.le_of_ble_eq_true rfl) ?_
  intro X C E
  unfold F_RM_startOf at h
  refine g_iload_n C dRM_startOf_0 rfl ?_
  refine g_iconst (v := Int32.ofInt (5)) C dRM_startOf_1 (by decide) ?_
  refine g_imul C dRM_startOf_2 ?_
  refine g_iload_n C dRM_startOf_3 rfl ?_
  refine g_iadd C dRM_startOf_4 ?_
  refine g_iconst (v := Int32.ofInt (5)) C dRM_startOf_5 (by decide) ?_
  refine g_imul C dRM_startOf_6 ?_
  refine g_iload_n C dRM_startOf_7 rfl ?_
  refine g_iadd C dRM_startOf_8 ?_
  exact x_iret0 C E dRM_startOf_9 ⟨Nat.zero_le _, Nat.zero_le _⟩ h
def F_RM_isHour (N : Nat) (O : WO) (I0 : WI) (J0 : WJ) (x0 : Int32) : Option (Int32) := if (x0).toInt < 0 then (some (Int32.ofInt (0))) else (if 12 ≤ (x0).toInt then (some (Int32.ofInt (0))) else (some (Int32.ofInt (1))))
set_option maxHeartbeats 4000000 in
set_option maxRecDepth 100000 in
theorem f_RM_isHour {P : List Nat} {K : Nat → Nat} {N : Nat} {O : WO} {I0 : WI} {J0 : WJ} (hT : TR P K O) {x0 : Int32} {r : Int32} (h : F_RM_isHour N O I0 J0 x0 = some r) : Con yRM_isHour bRM_isHour 1 (some .boolean) ({ frames := 0, cells := 0, slots := 0, locals := 0 } : Room) P K I0 O J0 [.int x0] (EPo (some (.int r)) I0 J0 P K O) := by
  refine Con.ofG mfRM_isHour (Nat.le_of_ble_eq_true rfl) ?_
  intro X C E
  unfold F_RM_isHour at h
  refine g_iload_n C dRM_isHour_0 rfl ?_
  refine gt_if_lt 14 C dRM_isHour_1 (by decide) rfl (fun c_1 => ?_) (fun c_1 => ?_)
  · have h := x_pos c_1 h
    refine g_iconst (v := Int32.ofInt (0)) C dRM_isHour_14 (by decide) ?_
    exact x_zret0 C E dRM_isHour_15 (by decide) ⟨Nat.zero_le _, Nat.zero_le _⟩ h
  · have h := x_neg (Int.not_lt.mpr c_1) h
    refine g_iload_n C dRM_isHour_4 rfl ?_
    refine g_bipush (v := Int32.ofInt (12)) C dRM_isHour_5 (by decide) ?_
    refine gt_icmp_ge 14 C dRM_isHour_7 (by decide) rfl (ofI (by decide)) (fun c_7 => ?_) (fun c_7 => ?_)
    · have h := x_pos c_7 h
      refine g_iconst (v := Int32.ofInt (0)) C dRM_isHour_14 (by decide) ?_
      exact x_zret0 C E dRM_isHour_15 (by decide) ⟨Nat.zero_le _, Nat.zero_le _⟩ h
    · have h := x_neg (Int.not_le.mpr c_7) h
      refine g_iconst (v := Int32.ofInt (1)) C dRM_isHour_10 (by decide) ?_
      refine g_goto 15 C dRM_isHour_11 (by decide) ?_
      exact x_zret0 C E dRM_isHour_15 (by decide) ⟨Nat.zero_le _, Nat.zero_le _⟩ h
def F_RM_isRate (N : Nat) (O : WO) (I0 : WI) (J0 : WJ) (x0 : Int32) : Option (Int32) := if (x0).toInt < 0 then (some (Int32.ofInt (0))) else (if 3 < (x0).toInt then (some (Int32.ofInt (0))) else (some (Int32.ofInt (1))))
set_option maxHeartbeats 4000000 in
set_option maxRecDepth 100000 in
theorem f_RM_isRate {P : List Nat} {K : Nat → Nat} {N : Nat} {O : WO} {I0 : WI} {J0 : WJ} (hT : TR P K O) {x0 : Int32} {r : Int32} (h : F_RM_isRate N O I0 J0 x0 = some r) : Con yRM_isRate bRM_isRate 1 (some .boolean) ({ frames := 0, cells := 0, slots := 0, locals := 0 } : Room) P K I0 O J0 [.int x0] (EPo (some (.int r)) I0 J0 P K O) := by
  refine Con.ofG mfRM_isRate (Nat.le_of_ble_eq_true rfl) ?_
  intro X C E
  unfold F_RM_isRate at h
  refine g_iload_n C dRM_isRate_0 rfl ?_
  refine gt_if_lt 13 C dRM_isRate_1 (by decide) rfl (fun c_1 => ?_) (fun c_1 => ?_)
  · have h := x_pos c_1 h
    refine g_iconst (v := Int32.ofInt (0)) C dRM_isRate_13 (by decide) ?_
    exact x_zret0 C E dRM_isRate_14 (by decide) ⟨Nat.zero_le _, Nat.zero_le _⟩ h
  · have h := x_neg (Int.not_lt.mpr c_1) h
    refine g_iload_n C dRM_isRate_4 rfl ?_
    refine g_iconst (v := Int32.ofInt (3)) C dRM_isRate_5 (by decide) ?_
    refine gt_icmp_gt 13 C dRM_isRate_6 (by decide) rfl (ofI (by decide)) (fun c_6 => ?_) (fun c_6 => ?_)
    · have h := x_pos c_6 h
      refine g_iconst (v := Int32.ofInt (0)) C dRM_isRate_13 (by decide) ?_
      exact x_zret0 C E dRM_isRate_14 (by decide) ⟨Nat.zero_le _, Nat.zero_le _⟩ h
    · have h := x_neg (Int.not_lt.mpr c_6) h
      refine g_iconst (v := Int32.ofInt (1)) C dRM_isRate_9 (by decide) ?_
      refine g_goto 14 C dRM_isRate_10 (by decide) ?_
      exact x_zret0 C E dRM_isRate_14 (by decide) ⟨Nat.zero_le _, Nat.zero_le _⟩ h
def F_RM_isWater (N : Nat) (O : WO) (I0 : WI) (J0 : WJ) (x0 : Int32) : Option (Int32) := if (x0).toInt < 0 then (some (Int32.ofInt (0))) else (if 3 < (x0).toInt then (some (Int32.ofInt (0))) else (some (Int32.ofInt (1))))
set_option maxHeartbeats 4000000 in
set_option maxRecDepth 100000 in
theorem f_RM_isWater {P : List Nat} {K : Nat → Nat} {N : Nat} {O : WO} {I0 : WI} {J0 : WJ} (hT : TR P K O) {x0 : Int32} {r : Int32} (h : F_RM_isWater N O I0 J0 x0 = some r) : Con yRM_isWater bRM_isWater 1 (some .boolean) ({ frames := 0, cells := 0, slots := 0, locals := 0 } : Room) P K I0 O J0 [.int x0] (EPo (some (.int r)) I0 J0 P K O) := by
  refine Con.ofG mfRM_isWater (Nat.le_of_ble_eq_true rfl) ?_
  intro X C E
  unfold F_RM_isWater at h
  refine g_iload_n C dRM_isWater_0 rfl ?_
  refine gt_if_lt 13 C dRM_isWater_1 (by decide) rfl (fun c_1 => ?_) (fun c_1 => ?_)
  · have h := x_pos c_1 h
    refine g_iconst (v := Int32.ofInt (0)) C dRM_isWater_13 (by decide) ?_
    exact x_zret0 C E dRM_isWater_14 (by decide) ⟨Nat.zero_le _, Nat.zero_le _⟩ h
  · have h := x_neg (Int.not_lt.mpr c_1) h
    refine g_iload_n C dRM_isWater_4 rfl ?_
    refine g_iconst (v := Int32.ofInt (3)) C dRM_isWater_5 (by decide) ?_
    refine gt_icmp_gt 13 C dRM_isWater_6 (by decide) rfl (ofI (by decide)) (fun c_6 => ?_) (fun c_6 => ?_)
    · have h := x_pos c_6 h
      refine g_iconst (v := Int32.ofInt (0)) C dRM_isWater_13 (by decide) ?_
      exact x_zret0 C E dRM_isWater_14 (by decide) ⟨Nat.zero_le _, Nat.zero_le _⟩ h
    · have h := x_neg (Int.not_lt.mpr c_6) h
      refine g_iconst (v := Int32.ofInt (1)) C dRM_isWater_9 (by decide) ?_
      refine g_goto 14 C dRM_isWater_10 (by decide) ?_
      exact x_zret0 C E dRM_isWater_14 (by decide) ⟨Nat.zero_le _, Nat.zero_le _⟩ h
def F_RM_isPlanLength (N : Nat) (O : WO) (I0 : WI) (J0 : WJ) (x0 : Int32) : Option (Int32) := if (x0).toInt < 1 then (some (Int32.ofInt (0))) else (if 5 < (x0).toInt then (some (Int32.ofInt (0))) else (some (Int32.ofInt (1))))
set_option maxHeartbeats 4000000 in
set_option maxRecDepth 100000 in
theorem f_RM_isPlanLength {P : List Nat} {K : Nat → Nat} {N : Nat} {O : WO} {I0 : WI} {J0 : WJ} (hT : TR P K O) {x0 : Int32} {r : Int32} (h : F_RM_isPlanLength N O I0 J0 x0 = some r) : Con yRM_isPlanLength bRM_isPlanLength 1 (some .boolean) ({ frames := 0, cells := 0, slots := 0, locals := 0 } : Room) P K I0 O J0 [.int x0] (EPo (some (.int r)) I0 J0 P K O) := by
  refine Con.ofG mfRM_isPlanLength (Nat.le_of_ble_eq_true rfl) ?_
  intro X C E
  unfold F_RM_isPlanLength at h
  refine g_iload_n C dRM_isPlanLength_0 rfl ?_
  refine g_iconst (v := Int32.ofInt (1)) C dRM_isPlanLength_1 (by decide) ?_
  refine gt_icmp_lt 14 C dRM_isPlanLength_2 (by decide) rfl (ofI (by decide)) (fun c_2 => ?_) (fun c_2 => ?_)
  · have h := x_pos c_2 h
    refine g_iconst (v := Int32.ofInt (0)) C dRM_isPlanLength_14 (by decide) ?_
    exact x_zret0 C E dRM_isPlanLength_15 (by decide) ⟨Nat.zero_le _, Nat.zero_le _⟩ h
  · have h := x_neg (Int.not_lt.mpr c_2) h
    refine g_iload_n C dRM_isPlanLength_5 rfl ?_
    refine g_iconst (v := Int32.ofInt (5)) C dRM_isPlanLength_6 (by decide) ?_
    refine gt_icmp_gt 14 C dRM_isPlanLength_7 (by decide) rfl (ofI (by decide)) (fun c_7 => ?_) (fun c_7 => ?_)
    · have h := x_pos c_7 h
      refine g_iconst (v := Int32.ofInt (0)) C dRM_isPlanLength_14 (by decide) ?_
      exact x_zret0 C E dRM_isPlanLength_15 (by decide) ⟨Nat.zero_le _, Nat.zero_le _⟩ h
    · have h := x_neg (Int.not_lt.mpr c_7) h
      refine g_iconst (v := Int32.ofInt (1)) C dRM_isPlanLength_10 (by decide) ?_
      refine g_goto 15 C dRM_isPlanLength_11 (by decide) ?_
      exact x_zret0 C E dRM_isPlanLength_15 (by decide) ⟨Nat.zero_le _, Nat.zero_le _⟩ h
def F_RM_isStart (N : Nat) (O : WO) (I0 : WI) (J0 : WJ) (x0 : Int32) (x1 : Int32) (x2 : Int32) : Option (Int32) := if (x0).toInt < 0 then (some (Int32.ofInt (0))) else (if 3 < (x0).toInt then (some (Int32.ofInt (0))) else (if (x1).toInt < 0 then (some (Int32.ofInt (0))) else (if 5 ≤ (x1).toInt then (some (Int32.ofInt (0))) else (if (x2).toInt < 0 then (some (Int32.ofInt (0))) else (if 5 ≤ (x2).toInt then (some (Int32.ofInt (0))) else (some (Int32.ofInt (1))))))))
set_option maxHeartbeats 4000000 in
set_option maxRecDepth 100000 in
theorem f_RM_isStart {P : List Nat} {K : Nat → Nat} {N : Nat} {O : WO} {I0 : WI} {J0 : WJ} (hT : TR P K O) {x0 : Int32} {x1 : Int32} {x2 : Int32} {r : Int32} (h : F_RM_isStart N O I0 J0 x0 x1 x2 = some r) : Con yRM_isStart bRM_isStart 3 (some .boolean) ({ frames := 0, cells := 0, slots := 0, locals := 0 } : Room) P K I0 O J0 [.int x0, .int x1, .int x2] (EPo (some (.int r)) I0 J0 P K O) := by
  refine Con.ofG mfRM_isStart (Nat.le_of_ble_eq_true rfl) ?_
  intro X C E
  unfold F_RM_isStart at h
  refine g_iload_n C dRM_isStart_0 rfl ?_
  refine gt_if_lt 31 C dRM_isStart_1 (by decide) rfl (fun c_1 => ?_) (fun c_1 => ?_)
  · have h := x_pos c_1 h
    refine g_iconst (v := Int32.ofInt (0)) C dRM_isStart_31 (by decide) ?_
    exact x_zret0 C E dRM_isStart_32 (by decide) ⟨Nat.zero_le _, Nat.zero_le _⟩ h
  · have h := x_neg (Int.not_lt.mpr c_1) h
    refine g_iload_n C dRM_isStart_4 rfl ?_
    refine g_iconst (v := Int32.ofInt (3)) C dRM_isStart_5 (by decide) ?_
    refine gt_icmp_gt 31 C dRM_isStart_6 (by decide) rfl (ofI (by decide)) (fun c_6 => ?_) (fun c_6 => ?_)
    · have h := x_pos c_6 h
      refine g_iconst (v := Int32.ofInt (0)) C dRM_isStart_31 (by decide) ?_
      exact x_zret0 C E dRM_isStart_32 (by decide) ⟨Nat.zero_le _, Nat.zero_le _⟩ h
    · have h := x_neg (Int.not_lt.mpr c_6) h
      refine g_iload_n C dRM_isStart_9 rfl ?_
      refine gt_if_lt 31 C dRM_isStart_10 (by decide) rfl (fun c_10 => ?_) (fun c_10 => ?_)
      · have h := x_pos c_10 h
        refine g_iconst (v := Int32.ofInt (0)) C dRM_isStart_31 (by decide) ?_
        exact x_zret0 C E dRM_isStart_32 (by decide) ⟨Nat.zero_le _, Nat.zero_le _⟩ h
      · have h := x_neg (Int.not_lt.mpr c_10) h
        refine g_iload_n C dRM_isStart_13 rfl ?_
        refine g_iconst (v := Int32.ofInt (5)) C dRM_isStart_14 (by decide) ?_
        refine gt_icmp_ge 31 C dRM_isStart_15 (by decide) rfl (ofI (by decide)) (fun c_15 => ?_) (fun c_15 => ?_)
        · have h := x_pos c_15 h
          refine g_iconst (v := Int32.ofInt (0)) C dRM_isStart_31 (by decide) ?_
          exact x_zret0 C E dRM_isStart_32 (by decide) ⟨Nat.zero_le _, Nat.zero_le _⟩ h
        · have h := x_neg (Int.not_le.mpr c_15) h
          refine g_iload_n C dRM_isStart_18 rfl ?_
          refine gt_if_lt 31 C dRM_isStart_19 (by decide) rfl (fun c_19 => ?_) (fun c_19 => ?_)
          · have h := x_pos c_19 h
            refine g_iconst (v := Int32.ofInt (0)) C dRM_isStart_31 (by decide) ?_
            exact x_zret0 C E dRM_isStart_32 (by decide) ⟨Nat.zero_le _, Nat.zero_le _⟩ h
          · have h := x_neg (Int.not_lt.mpr c_19) h
            refine g_iload_n C dRM_isStart_22 rfl ?_
            refine g_iconst (v := Int32.ofInt (5)) C dRM_isStart_23 (by decide) ?_
            refine gt_icmp_ge 31 C dRM_isStart_24 (by decide) rfl (ofI (by decide)) (fun c_24 => ?_) (fun c_24 => ?_)
            · have h := x_pos c_24 h
              refine g_iconst (v := Int32.ofInt (0)) C dRM_isStart_31 (by decide) ?_
              exact x_zret0 C E dRM_isStart_32 (by decide) ⟨Nat.zero_le _, Nat.zero_le _⟩ h
            · have h := x_neg (Int.not_le.mpr c_24) h
              refine g_iconst (v := Int32.ofInt (1)) C dRM_isStart_27 (by decide) ?_
              refine g_goto 32 C dRM_isStart_28 (by decide) ?_
              exact x_zret0 C E dRM_isStart_32 (by decide) ⟨Nat.zero_le _, Nat.zero_le _⟩ h
def F_Ml_priceAt (N : Nat) (O : WO) (I0 : WI) (J0 : WJ) (a0 : Nat) (x1 : Int32) : Option (Int32) := if (x1).toInt < 0 then (some (Int32.ofInt (0))) else (if ((I0 a0 9)).toInt < 1 then (some (Int32.ofInt (0))) else (if ((I0 a0 9)).toInt ≤ 6 then (if ¬ ((I0 a0 9)).toInt = 0 then (if 0 ≤ ((x1 - x1 / (I0 a0 9) * (I0 a0 9))).toInt ∧ ((x1 - x1 / (I0 a0 9) * (I0 a0 9))).toInt < 6 then (some (I0 (rf O a0 10) ((x1 - x1 / (I0 a0 9) * (I0 a0 9))).toInt.toNat)) else none) else none) else (some (Int32.ofInt (0)))))
set_option maxHeartbeats 4000000 in
set_option maxRecDepth 100000 in
theorem f_Ml_priceAt {P : List Nat} {K : Nat → Nat} {N : Nat} {O : WO} {I0 : WI} {J0 : WJ} (hT : TR P K O) {a0 : Nat} (h0 : a0 ∈ P ∧ K a0 = 3) {x1 : Int32} {r : Int32} (h : F_Ml_priceAt N O I0 J0 a0 x1 = some r) : Con yMl_priceAt bMl_priceAt 2 (some .int) ({ frames := 0, cells := 0, slots := 0, locals := 0 } : Room) P K I0 O J0 [.ref a0, .int x1] (EPo (some (.int r)) I0 J0 P K O) := by
  refine Con.ofG mfMl_priceAt (Nat.le_of_ble_eq_true rfl) ?_
  intro X C E
  unfold F_Ml_priceAt at h
  refine g_iload_n C dMl_priceAt_0 rfl ?_
  refine gt_if_lt 21 C dMl_priceAt_1 (by decide) rfl (fun c_1 => ?_) (fun c_1 => ?_)
  · have h := x_pos c_1 h
    refine g_iconst (v := Int32.ofInt (0)) C dMl_priceAt_21 (by decide) ?_
    exact x_iret0 C E dMl_priceAt_22 ⟨Nat.zero_le _, Nat.zero_le _⟩ h
  · have h := x_neg (Int.not_lt.mpr c_1) h
    refine g_aload_n C dMl_priceAt_4 rfl ?_
    refine g_geti C dMl_priceAt_5 fl_Ml_55 h0 ?_
    refine g_iconst (v := Int32.ofInt (1)) C dMl_priceAt_8 (by decide) ?_
    refine gt_icmp_lt 21 C dMl_priceAt_9 (by decide) rfl (ofI (by decide)) (fun c_9 => ?_) (fun c_9 => ?_)
    · have h := x_pos c_9 h
      refine g_iconst (v := Int32.ofInt (0)) C dMl_priceAt_21 (by decide) ?_
      exact x_iret0 C E dMl_priceAt_22 ⟨Nat.zero_le _, Nat.zero_le _⟩ h
    · have h := x_neg (Int.not_lt.mpr c_9) h
      refine g_aload_n C dMl_priceAt_12 rfl ?_
      refine g_geti C dMl_priceAt_13 fl_Ml_55 h0 ?_
      refine g_bipush (v := Int32.ofInt (6)) C dMl_priceAt_16 (by decide) ?_
      refine gt_icmp_le 23 C dMl_priceAt_18 (by decide) rfl (ofI (by decide)) (fun c_18 => ?_) (fun c_18 => ?_)
      · have h := x_pos c_18 h
        refine g_aload_n C dMl_priceAt_23 rfl ?_
        have t_24 := rf_ok hT h0 (show sp 3 10 = some 13 from rfl)
        refine x_getr C dMl_priceAt_24 fl_Ml_15 h0 hT (show sp 3 10 = some 13 from rfl) ?_
        refine g_iload_n C dMl_priceAt_27 rfl ?_
        refine g_aload_n C dMl_priceAt_28 rfl ?_
        refine g_geti C dMl_priceAt_29 fl_Ml_55 h0 ?_
        obtain ⟨g_32, h⟩ := x_g h
        refine x_irem C dMl_priceAt_32 g_32 ?_
        obtain ⟨g_33, h⟩ := x_g h
        refine x_iald (m := 6) C dMl_priceAt_33 t_24 (by decide) rfl rfl g_33 ?_
        exact x_iret0 C E dMl_priceAt_34 ⟨Nat.zero_le _, Nat.zero_le _⟩ h
      · have h := x_neg (Int.not_le.mpr c_18) h
        refine g_iconst (v := Int32.ofInt (0)) C dMl_priceAt_21 (by decide) ?_
        exact x_iret0 C E dMl_priceAt_22 ⟨Nat.zero_le _, Nat.zero_le _⟩ h
def F_Ml_hardOf (N : Nat) (O : WO) (I0 : WI) (J0 : WJ) (a0 : Nat) (x1 : Int32) : Option (Int32) := if (x1).toInt < 0 then (some (Int32.ofInt (0))) else (if 4 ≤ (x1).toInt then (some (Int32.ofInt (0))) else (if 0 ≤ (x1).toInt ∧ (x1).toInt < 4 then (some (I0 (rf O a0 13) (x1).toInt.toNat)) else none))
set_option maxHeartbeats 4000000 in
set_option maxRecDepth 100000 in
theorem f_Ml_hardOf {P : List Nat} {K : Nat → Nat} {N : Nat} {O : WO} {I0 : WI} {J0 : WJ} (hT : TR P K O) {a0 : Nat} (h0 : a0 ∈ P ∧ K a0 = 3) {x1 : Int32} {r : Int32} (h : F_Ml_hardOf N O I0 J0 a0 x1 = some r) : Con yMl_hardOf bMl_hardOf 2 (some .int) ({ frames := 0, cells := 0, slots := 0, locals := 0 } : Room) P K I0 O J0 [.ref a0, .int x1] (EPo (some (.int r)) I0 J0 P K O) := by
  refine Con.ofG mfMl_hardOf (Nat.le_of_ble_eq_true rfl) ?_
  intro X C E
  unfold F_Ml_hardOf at h
  refine g_iload_n C dMl_hardOf_0 rfl ?_
  refine gt_if_lt 18 C dMl_hardOf_1 (by decide) rfl (fun c_1 => ?_) (fun c_1 => ?_)
  · have h := x_pos c_1 h
    refine g_iconst (v := Int32.ofInt (0)) C dMl_hardOf_18 (by decide) ?_
    exact x_iret0 C E dMl_hardOf_19 ⟨Nat.zero_le _, Nat.zero_le _⟩ h
  · have h := x_neg (Int.not_lt.mpr c_1) h
    refine g_iload_n C dMl_hardOf_4 rfl ?_
    refine g_iconst (v := Int32.ofInt (4)) C dMl_hardOf_5 (by decide) ?_
    refine gt_icmp_ge 18 C dMl_hardOf_6 (by decide) rfl (ofI (by decide)) (fun c_6 => ?_) (fun c_6 => ?_)
    · have h := x_pos c_6 h
      refine g_iconst (v := Int32.ofInt (0)) C dMl_hardOf_18 (by decide) ?_
      exact x_iret0 C E dMl_hardOf_19 ⟨Nat.zero_le _, Nat.zero_le _⟩ h
    · have h := x_neg (Int.not_le.mpr c_6) h
      refine g_aload_n C dMl_hardOf_9 rfl ?_
      have t_10 := rf_ok hT h0 (show sp 3 13 = some 12 from rfl)
      refine x_getr C dMl_hardOf_10 fl_Ml_25 h0 hT (show sp 3 13 = some 12 from rfl) ?_
      refine g_iload_n C dMl_hardOf_13 rfl ?_
      obtain ⟨g_14, h⟩ := x_g h
      refine x_iald (m := 4) C dMl_hardOf_14 t_10 (by decide) rfl rfl g_14 ?_
      refine g_goto 19 C dMl_hardOf_15 (by decide) ?_
      exact x_iret0 C E dMl_hardOf_19 ⟨Nat.zero_le _, Nat.zero_le _⟩ h
def F_Ml_tonsOf (N : Nat) (O : WO) (I0 : WI) (J0 : WJ) (a0 : Nat) (x1 : Int32) (x2 : Int32) : Option (Int32) := if (x1).toInt < 0 then (some (Int32.ofInt (0))) else (if 4 ≤ (x1).toInt then (some (Int32.ofInt (0))) else (if (x2).toInt < 0 then (some (Int32.ofInt (0))) else (if (x2).toInt < 5 then (if 0 ≤ (((x1 * (Int32.ofInt (5))) + x2)).toInt ∧ (((x1 * (Int32.ofInt (5))) + x2)).toInt < 20 then (some (I0 (rf O a0 14) (((x1 * (Int32.ofInt (5))) + x2)).toInt.toNat)) else none) else (some (Int32.ofInt (0))))))
set_option maxHeartbeats 4000000 in
set_option maxRecDepth 100000 in
theorem f_Ml_tonsOf {P : List Nat} {K : Nat → Nat} {N : Nat} {O : WO} {I0 : WI} {J0 : WJ} (hT : TR P K O) {a0 : Nat} (h0 : a0 ∈ P ∧ K a0 = 3) {x1 : Int32} {x2 : Int32} {r : Int32} (h : F_Ml_tonsOf N O I0 J0 a0 x1 x2 = some r) : Con yMl_tonsOf bMl_tonsOf 3 (some .int) ({ frames := 0, cells := 0, slots := 0, locals := 0 } : Room) P K I0 O J0 [.ref a0, .int x1, .int x2] (EPo (some (.int r)) I0 J0 P K O) := by
  refine Con.ofG mfMl_tonsOf (Nat.le_of_ble_eq_true rfl) ?_
  intro X C E
  unfold F_Ml_tonsOf at h
  refine g_iload_n C dMl_tonsOf_0 rfl ?_
  refine gt_if_lt 18 C dMl_tonsOf_1 (by decide) rfl (fun c_1 => ?_) (fun c_1 => ?_)
  · have h := x_pos c_1 h
    refine g_iconst (v := Int32.ofInt (0)) C dMl_tonsOf_18 (by decide) ?_
    exact x_iret0 C E dMl_tonsOf_19 ⟨Nat.zero_le _, Nat.zero_le _⟩ h
  · have h := x_neg (Int.not_lt.mpr c_1) h
    refine g_iload_n C dMl_tonsOf_4 rfl ?_
    refine g_iconst (v := Int32.ofInt (4)) C dMl_tonsOf_5 (by decide) ?_
    refine gt_icmp_ge 18 C dMl_tonsOf_6 (by decide) rfl (ofI (by decide)) (fun c_6 => ?_) (fun c_6 => ?_)
    · have h := x_pos c_6 h
      refine g_iconst (v := Int32.ofInt (0)) C dMl_tonsOf_18 (by decide) ?_
      exact x_iret0 C E dMl_tonsOf_19 ⟨Nat.zero_le _, Nat.zero_le _⟩ h
    · have h := x_neg (Int.not_le.mpr c_6) h
      refine g_iload_n C dMl_tonsOf_9 rfl ?_
      refine gt_if_lt 18 C dMl_tonsOf_10 (by decide) rfl (fun c_10 => ?_) (fun c_10 => ?_)
      · have h := x_pos c_10 h
        refine g_iconst (v := Int32.ofInt (0)) C dMl_tonsOf_18 (by decide) ?_
        exact x_iret0 C E dMl_tonsOf_19 ⟨Nat.zero_le _, Nat.zero_le _⟩ h
      · have h := x_neg (Int.not_lt.mpr c_10) h
        refine g_iload_n C dMl_tonsOf_13 rfl ?_
        refine g_iconst (v := Int32.ofInt (5)) C dMl_tonsOf_14 (by decide) ?_
        refine gt_icmp_lt 20 C dMl_tonsOf_15 (by decide) rfl (ofI (by decide)) (fun c_15 => ?_) (fun c_15 => ?_)
        · have h := x_pos c_15 h
          refine g_aload_n C dMl_tonsOf_20 rfl ?_
          have t_21 := rf_ok hT h0 (show sp 3 14 = some 14 from rfl)
          refine x_getr C dMl_tonsOf_21 fl_Ml_28 h0 hT (show sp 3 14 = some 14 from rfl) ?_
          refine g_iload_n C dMl_tonsOf_24 rfl ?_
          refine g_iconst (v := Int32.ofInt (5)) C dMl_tonsOf_25 (by decide) ?_
          refine g_imul C dMl_tonsOf_26 ?_
          refine g_iload_n C dMl_tonsOf_27 rfl ?_
          refine g_iadd C dMl_tonsOf_28 ?_
          obtain ⟨g_29, h⟩ := x_g h
          refine x_iald (m := 20) C dMl_tonsOf_29 t_21 (by decide) rfl rfl g_29 ?_
          exact x_iret0 C E dMl_tonsOf_30 ⟨Nat.zero_le _, Nat.zero_le _⟩ h
        · have h := x_neg (Int.not_lt.mpr c_15) h
          refine g_iconst (v := Int32.ofInt (0)) C dMl_tonsOf_18 (by decide) ?_
          exact x_iret0 C E dMl_tonsOf_19 ⟨Nat.zero_le _, Nat.zero_le _⟩ h
def F_Ld_makeEmpty (N : Nat) (O : WO) (I0 : WI) (J0 : WJ) (a0 : Nat) : Option (WI) := bd1 (F_RM_wipe N O I0 J0 (rf O a0 0) 11) fun I1 => bd1 (F_RM_wipe N O I1 J0 (rf O a0 1) 11) fun I2 => bd1 (F_RM_wipe N O I2 J0 (rf O a0 2) 11) fun I3 => some I3
set_option maxHeartbeats 4000000 in
set_option maxRecDepth 100000 in
theorem f_Ld_makeEmpty {P : List Nat} {K : Nat → Nat} {N : Nat} {O : WO} {I0 : WI} {J0 : WJ} (hT : TR P K O) {a0 : Nat} (h0 : a0 ∈ P ∧ K a0 = 2) {I' : WI} (h : F_Ld_makeEmpty N O I0 J0 a0 = some I') : Con yLd_makeEmpty bLd_makeEmpty 1 none ({ frames := 1, cells := 0, slots := 0, locals := 21 } : Room) P K I0 O J0 [.ref a0] (EPo none I' J0 P K O) := by
  refine Con.ofG mfLd_makeEmpty (Nat.le_of_ble_eq_true rfl) ?_
  intro X C E
  unfold F_Ld_makeEmpty at h
  refine g_aload_n C dLd_makeEmpty_0 rfl ?_
  have t_1 := rf_ok hT h0 (show sp 2 0 = some 11 from rfl)
  refine x_getr C dLd_makeEmpty_1 fl_Ld_9 h0 hT (show sp 2 0 = some 11 from rfl) ?_
  obtain ⟨I1, e_4, h⟩ := bd1_some h
  refine x_callSv (av := fun ad => [.ref (rf O a0 0)]) C dLd_makeEmpty_4 mfRM_wipe msRM_wipe ln_Ld_21 (f_RM_wipe hT t_1 ⟨by decide, rfl⟩ e_4) rfl rfl (Nat.le_of_ble_eq_true rfl) ⟨Nat.le_of_ble_eq_true rfl, Nat.le_of_ble_eq_true rfl⟩ ⟨rfl, rfl⟩ ⟨Nat.zero_le _, Nat.zero_le _⟩ ?_
  refine g_aload_n C dLd_makeEmpty_7 rfl ?_
  have t_8 := rf_ok hT h0 (show sp 2 1 = some 11 from rfl)
  refine x_getr C dLd_makeEmpty_8 fl_Ld_15 h0 hT (show sp 2 1 = some 11 from rfl) ?_
  obtain ⟨I2, e_11, h⟩ := bd1_some h
  refine x_callSv (av := fun ad => [.ref (rf O a0 1)]) C dLd_makeEmpty_11 mfRM_wipe msRM_wipe ln_Ld_21 (f_RM_wipe hT t_8 ⟨by decide, rfl⟩ e_11) rfl rfl (Nat.le_of_ble_eq_true rfl) ⟨Nat.le_of_ble_eq_true rfl, Nat.le_of_ble_eq_true rfl⟩ ⟨rfl, rfl⟩ ⟨Nat.zero_le _, Nat.zero_le _⟩ ?_
  refine g_aload_n C dLd_makeEmpty_14 rfl ?_
  have t_15 := rf_ok hT h0 (show sp 2 2 = some 11 from rfl)
  refine x_getr C dLd_makeEmpty_15 fl_Ld_18 h0 hT (show sp 2 2 = some 11 from rfl) ?_
  obtain ⟨I3, e_18, h⟩ := bd1_some h
  refine x_callSv (av := fun ad => [.ref (rf O a0 2)]) C dLd_makeEmpty_18 mfRM_wipe msRM_wipe ln_Ld_21 (f_RM_wipe hT t_15 ⟨by decide, rfl⟩ e_18) rfl rfl (Nat.le_of_ble_eq_true rfl) ⟨Nat.le_of_ble_eq_true rfl, Nat.le_of_ble_eq_true rfl⟩ ⟨rfl, rfl⟩ ⟨Nat.zero_le _, Nat.zero_le _⟩ ?_
  exact x_vret1 C E dLd_makeEmpty_21 ⟨Nat.zero_le _, Nat.zero_le _⟩ h
def F_Ld_copyFrom (N : Nat) (O : WO) (I0 : WI) (J0 : WJ) (a0 : Nat) (a1 : Nat) : Option (WI) := bd1 (F_RM_copyRow N O I0 J0 (rf O a1 0) 11 (rf O a0 0) 11) fun I1 => bd1 (F_RM_copyRow N O I1 J0 (rf O a1 1) 11 (rf O a0 1) 11) fun I2 => bd1 (F_RM_copyRow N O I2 J0 (rf O a1 2) 11 (rf O a0 2) 11) fun I3 => some I3
set_option maxHeartbeats 4000000 in
set_option maxRecDepth 100000 in
theorem f_Ld_copyFrom {P : List Nat} {K : Nat → Nat} {N : Nat} {O : WO} {I0 : WI} {J0 : WJ} (hT : TR P K O) {a0 : Nat} (h0 : a0 ∈ P ∧ K a0 = 2) {a1 : Nat} (h1 : a1 ∈ P ∧ K a1 = 2) {I' : WI} (h : F_Ld_copyFrom N O I0 J0 a0 a1 = some I') : Con yLd_copyFrom bLd_copyFrom 2 none ({ frames := 1, cells := 0, slots := 0, locals := 22 } : Room) P K I0 O J0 [.ref a0, .ref a1] (EPo none I' J0 P K O) := by
  refine Con.ofG mfLd_copyFrom (Nat.le_of_ble_eq_true rfl) ?_
  intro X C E
  unfold F_Ld_copyFrom at h
  refine g_aload_n C dLd_copyFrom_0 rfl ?_
  have t_1 := rf_ok hT h1 (show sp 2 0 = some 11 from rfl)
  refine x_getr C dLd_copyFrom_1 fl_Ld_9 h1 hT (show sp 2 0 = some 11 from rfl) ?_
  refine g_aload_n C dLd_copyFrom_4 rfl ?_
  have t_5 := rf_ok hT h0 (show sp 2 0 = some 11 from rfl)
  refine x_getr C dLd_copyFrom_5 fl_Ld_9 h0 hT (show sp 2 0 = some 11 from rfl) ?_
  obtain ⟨I1, e_8, h⟩ := bd1_some h
  refine x_callSv (av := fun ad => [.ref (rf O a1 0), .ref (rf O a0 0)]) C dLd_copyFrom_8 mfRM_copyRow msRM_copyRow ln_Ld_25 (f_RM_copyRow hT t_1 ⟨by decide, rfl⟩ t_5 ⟨by decide, rfl⟩ e_8) rfl rfl (Nat.le_of_ble_eq_true rfl) ⟨Nat.le_of_ble_eq_true rfl, Nat.le_of_ble_eq_true rfl⟩ ⟨rfl, rfl⟩ ⟨Nat.zero_le _, Nat.zero_le _⟩ ?_
  refine g_aload_n C dLd_copyFrom_11 rfl ?_
  have t_12 := rf_ok hT h1 (show sp 2 1 = some 11 from rfl)
  refine x_getr C dLd_copyFrom_12 fl_Ld_15 h1 hT (show sp 2 1 = some 11 from rfl) ?_
  refine g_aload_n C dLd_copyFrom_15 rfl ?_
  have t_16 := rf_ok hT h0 (show sp 2 1 = some 11 from rfl)
  refine x_getr C dLd_copyFrom_16 fl_Ld_15 h0 hT (show sp 2 1 = some 11 from rfl) ?_
  obtain ⟨I2, e_19, h⟩ := bd1_some h
  refine x_callSv (av := fun ad => [.ref (rf O a1 1), .ref (rf O a0 1)]) C dLd_copyFrom_19 mfRM_copyRow msRM_copyRow ln_Ld_25 (f_RM_copyRow hT t_12 ⟨by decide, rfl⟩ t_16 ⟨by decide, rfl⟩ e_19) rfl rfl (Nat.le_of_ble_eq_true rfl) ⟨Nat.le_of_ble_eq_true rfl, Nat.le_of_ble_eq_true rfl⟩ ⟨rfl, rfl⟩ ⟨Nat.zero_le _, Nat.zero_le _⟩ ?_
  refine g_aload_n C dLd_copyFrom_22 rfl ?_
  have t_23 := rf_ok hT h1 (show sp 2 2 = some 11 from rfl)
  refine x_getr C dLd_copyFrom_23 fl_Ld_18 h1 hT (show sp 2 2 = some 11 from rfl) ?_
  refine g_aload_n C dLd_copyFrom_26 rfl ?_
  have t_27 := rf_ok hT h0 (show sp 2 2 = some 11 from rfl)
  refine x_getr C dLd_copyFrom_27 fl_Ld_18 h0 hT (show sp 2 2 = some 11 from rfl) ?_
  obtain ⟨I3, e_30, h⟩ := bd1_some h
  refine x_callSv (av := fun ad => [.ref (rf O a1 2), .ref (rf O a0 2)]) C dLd_copyFrom_30 mfRM_copyRow msRM_copyRow ln_Ld_25 (f_RM_copyRow hT t_23 ⟨by decide, rfl⟩ t_27 ⟨by decide, rfl⟩ e_30) rfl rfl (Nat.le_of_ble_eq_true rfl) ⟨Nat.le_of_ble_eq_true rfl, Nat.le_of_ble_eq_true rfl⟩ ⟨rfl, rfl⟩ ⟨Nat.zero_le _, Nat.zero_le _⟩ ?_
  exact x_vret1 C E dLd_copyFrom_33 ⟨Nat.zero_le _, Nat.zero_le _⟩ h
def B_Ld_takeBack_2 (N : Nat) (O : WO) (a0 : Nat) (rec_2 : Int32 → WI → Option (WI)) (x1_2 : Int32) (I_2 : WI) : Option (WI) := if 5 ≤ (x1_2).toInt then (some I_2) else (if 0 ≤ (x1_2).toInt ∧ (x1_2).toInt < 5 then (if 0 ≤ (x1_2).toInt ∧ (x1_2).toInt < 5 then (if 0 ≤ (x1_2).toInt ∧ (x1_2).toInt < 5 then (lb (up2 I_2 (rf O a0 0) (x1_2).toInt.toNat ((I_2 (rf O a0 0) (x1_2).toInt.toNat) + (I_2 (rf O a0 1) (x1_2).toInt.toNat))) fun I1 => if 0 ≤ (x1_2).toInt ∧ (x1_2).toInt < 5 then (lb (up2 I1 (rf O a0 1) (x1_2).toInt.toNat (Int32.ofInt (0))) fun I2 => lb (x1_2 + Int32.ofInt (1)) fun v1_29 => rec_2 (v1_29) I2) else none) else none) else none) else none)
def F_Ld_takeBack (N : Nat) (O : WO) (I0 : WI) (J0 : WJ) (a0 : Nat) : Option (WI) := lp (B_Ld_takeBack_2 N O a0) (fun _ _ => none) N ((Int32.ofInt (0))) I0
set_option maxHeartbeats 4000000 in
set_option maxRecDepth 100000 in
theorem f_Ld_takeBack {P : List Nat} {K : Nat → Nat} {N : Nat} {O : WO} {I0 : WI} {J0 : WJ} (hT : TR P K O) {a0 : Nat} (h0 : a0 ∈ P ∧ K a0 = 2) {I' : WI} (h : F_Ld_takeBack N O I0 J0 a0 = some I') : Con yLd_takeBack bLd_takeBack 2 none ({ frames := 0, cells := 0, slots := 0, locals := 0 } : Room) P K I0 O J0 [.ref a0] (EPo none I' J0 P K O) := by
  refine Con.ofG mfLd_takeBack (Nat.le_of_ble_eq_true rfl) ?_
  intro X C E
  unfold F_Ld_takeBack at h
  refine g_iconst (v := Int32.ofInt (0)) C dLd_takeBack_0 (by decide) ?_
  refine g_istore_n (i := 1) C dLd_takeBack_1 rfl (by decide) ?_
  have lp_2 : ∀ (x1_2 : Int32) (I_2 : WI), lp (B_Ld_takeBack_2 N O a0) (fun _ _ => none) N x1_2 I_2 = some I' → GG X 2 P K I_2 O J0 0 0 2 [(0, .ref a0), (1, .int x1_2)] [] := by
    refine x_lp (fun (rec_2 : Int32 → WI → Option (WI)) => ∀ (x1_2 : Int32) (I_2 : WI), rec_2 x1_2 I_2 = some I' → GG X 2 P K I_2 O J0 0 0 2 [(0, .ref a0), (1, .int x1_2)] []) (fun _ _ h => by cases h) (fun rec_2 hr_2 x1_2 I_2 h => ?_) N
    unfold B_Ld_takeBack_2 at h
    refine g_iload_n C dLd_takeBack_2 rfl ?_
    refine g_iconst (v := Int32.ofInt (5)) C dLd_takeBack_3 (by decide) ?_
    refine gt_icmp_ge 35 C dLd_takeBack_4 (by decide) rfl (ofI (by decide)) (fun c_4 => ?_) (fun c_4 => ?_)
    · have h := x_pos c_4 h
      exact x_vret1 C E dLd_takeBack_35 ⟨Nat.zero_le _, Nat.zero_le _⟩ h
    · have h := x_neg (Int.not_le.mpr c_4) h
      refine g_aload_n C dLd_takeBack_7 rfl ?_
      have t_8 := rf_ok hT h0 (show sp 2 0 = some 11 from rfl)
      refine x_getr C dLd_takeBack_8 fl_Ld_9 h0 hT (show sp 2 0 = some 11 from rfl) ?_
      refine g_iload_n C dLd_takeBack_11 rfl ?_
      refine g_dup2 C dLd_takeBack_12 rfl rfl ?_
      obtain ⟨g_13, h⟩ := x_g h
      refine x_iald (m := 5) C dLd_takeBack_13 t_8 (by decide) rfl rfl g_13 ?_
      refine g_aload_n C dLd_takeBack_14 rfl ?_
      have t_15 := rf_ok hT h0 (show sp 2 1 = some 11 from rfl)
      refine x_getr C dLd_takeBack_15 fl_Ld_15 h0 hT (show sp 2 1 = some 11 from rfl) ?_
      refine g_iload_n C dLd_takeBack_18 rfl ?_
      obtain ⟨g_19, h⟩ := x_g h
      refine x_iald (m := 5) C dLd_takeBack_19 t_15 (by decide) rfl rfl g_19 ?_
      refine g_iadd C dLd_takeBack_20 ?_
      obtain ⟨g_21, h⟩ := x_g h
      refine x_iast (m := 5) C dLd_takeBack_21 t_8 (by decide) rfl rfl g_21 h (fun I1 h => ?_)
      refine g_aload_n C dLd_takeBack_22 rfl ?_
      have t_23 := rf_ok hT h0 (show sp 2 1 = some 11 from rfl)
      refine x_getr C dLd_takeBack_23 fl_Ld_15 h0 hT (show sp 2 1 = some 11 from rfl) ?_
      refine g_iload_n C dLd_takeBack_26 rfl ?_
      refine g_iconst (v := Int32.ofInt (0)) C dLd_takeBack_27 (by decide) ?_
      obtain ⟨g_28, h⟩ := x_g h
      refine x_iast (m := 5) C dLd_takeBack_28 t_23 (by decide) rfl rfl g_28 h (fun I2 h => ?_)
      refine x_iinc C dLd_takeBack_29 rfl (by decide) h (fun v1_29 h => ?_)
      refine g_goto 2 C dLd_takeBack_32 (by decide) ?_
      exact g_sub (hr_2 (v1_29) I2 h) ⟨rfl, rfl, trivial⟩
  exact g_sub (lp_2 ((Int32.ofInt (0))) I0 h) ⟨rfl, rfl, trivial⟩
def B_Ld_breakUp_16 (N : Nat) (O : WO) (a0 : Nat) (a1 : Nat) (x2 : Int32) (J0 : WJ) (v3_10 : Int32) (rec_16 : Int32 → WI → Option (WI)) (x4_16 : Int32) (I_16 : WI) : Option (WI) := if (x4_16).toInt < 0 then (some I_16) else (if 0 ≤ (x4_16).toInt ∧ (x4_16).toInt < 5 then (if 0 ≤ (x4_16).toInt ∧ (x4_16).toInt < 5 then (bd1 (F_RM_share N O I_16 J0 (I_16 (rf O a0 0) (x4_16).toInt.toNat) ((I_16 (rf O a1 11) (x4_16).toInt.toNat) * x2) (Int32.ofInt (10000))) fun z_40 => jn (fun (s0_72 : Int32) => if 0 ≤ (x4_16).toInt ∧ (x4_16).toInt < 5 then (if 0 ≤ (x4_16).toInt ∧ (x4_16).toInt < 5 then (lb (up2 I_16 (rf O a0 0) (x4_16).toInt.toNat ((I_16 (rf O a0 0) (x4_16).toInt.toNat) - z_40)) fun I2 => if 0 ≤ ((x4_16 + (Int32.ofInt (1)))).toInt ∧ ((x4_16 + (Int32.ofInt (1)))).toInt < 5 then (if 0 ≤ ((x4_16 + (Int32.ofInt (1)))).toInt ∧ ((x4_16 + (Int32.ofInt (1)))).toInt < 5 then (lb (up2 I2 (rf O a0 0) ((x4_16 + (Int32.ofInt (1)))).toInt.toNat ((I2 (rf O a0 0) ((x4_16 + (Int32.ofInt (1)))).toInt.toNat) + s0_72)) fun I3 => jn (fun (IJ_125 : WI) => lb (x4_16 + Int32.ofInt (-1)) fun v4_125 => rec_16 (v4_125) IJ_125) fun k_125 => if (v3_10).toInt < ((x4_16 + (Int32.ofInt (2)))).toInt then (k_125  I3) else (if 0 ≤ ((x4_16 + (Int32.ofInt (2)))).toInt ∧ ((x4_16 + (Int32.ofInt (2)))).toInt < 5 then (if 0 ≤ ((x4_16 + (Int32.ofInt (2)))).toInt ∧ ((x4_16 + (Int32.ofInt (2)))).toInt < 5 then (lb (up2 I3 (rf O a0 0) ((x4_16 + (Int32.ofInt (2)))).toInt.toNat ((I3 (rf O a0 0) ((x4_16 + (Int32.ofInt (2)))).toInt.toNat) + (z_40 - s0_72))) fun I4 => k_125  I4) else none) else none)) else none) else none) else none) else none) fun k_72 => if ((x4_16 + (Int32.ofInt (2)))).toInt ≤ (v3_10).toInt then (if 0 ≤ (x4_16).toInt ∧ (x4_16).toInt < 5 then (bd1 (F_RM_share N O I_16 J0 z_40 (I_16 (rf O a1 12) (x4_16).toInt.toNat) (Int32.ofInt (100))) fun z_69 => k_72 (z_69)) else none) else (k_72 (z_40))) else none) else none)
def F_Ld_breakUp (N : Nat) (O : WO) (I0 : WI) (J0 : WJ) (a0 : Nat) (a1 : Nat) (x2 : Int32) : Option (WI) := lb (((mnI (I0 a1 7) (Int32.ofInt (5))) - (Int32.ofInt (1)))) fun v3_10 => lb ((v3_10 - (Int32.ofInt (1)))) fun v4_14 => lp (B_Ld_breakUp_16 N O a0 a1 x2 J0 v3_10) (fun _ _ => none) N (v4_14) I0
set_option maxHeartbeats 4000000 in
set_option maxRecDepth 100000 in
theorem f_Ld_breakUp {P : List Nat} {K : Nat → Nat} {N : Nat} {O : WO} {I0 : WI} {J0 : WJ} (hT : TR P K O) {a0 : Nat} (h0 : a0 ∈ P ∧ K a0 = 2) {a1 : Nat} (h1 : a1 ∈ P ∧ K a1 = 3) {x2 : Int32} {I' : WI} (h : F_Ld_breakUp N O I0 J0 a0 a1 x2 = some I') : Con yLd_breakUp bLd_breakUp 7 none ({ frames := 1, cells := 0, slots := 0, locals := 22 } : Room) P K I0 O J0 [.ref a0, .ref a1, .int x2] (EPo none I' J0 P K O) := by
  refine Con.ofG mfLd_breakUp (Nat.le_of_ble_eq_true rfl) ?_
  intro X C E
  unfold F_Ld_breakUp at h
  refine g_aload_n C dLd_breakUp_0 rfl ?_
  refine g_geti C dLd_breakUp_1 fl_Ld_29 h1 ?_
  refine g_iconst (v := Int32.ofInt (5)) C dLd_breakUp_4 (by decide) ?_
  refine x_min C dLd_breakUp_5 ml_Ld_35 (Nat.le_of_ble_eq_true rfl) ⟨Nat.le_of_ble_eq_true rfl, Nat.le_of_ble_eq_true rfl⟩ ⟨Nat.zero_le _, Nat.zero_le _⟩ ?_
  refine g_iconst (v := Int32.ofInt (1)) C dLd_breakUp_8 (by decide) ?_
  refine g_isub C dLd_breakUp_9 ?_
  refine x_istore_n (i := 3) C dLd_breakUp_10 rfl (by decide) h (fun v3_10 h => ?_)
  refine g_iload_n C dLd_breakUp_11 rfl ?_
  refine g_iconst (v := Int32.ofInt (1)) C dLd_breakUp_12 (by decide) ?_
  refine g_isub C dLd_breakUp_13 ?_
  refine x_istore C dLd_breakUp_14 (by decide) h (fun v4_14 h => ?_)
  have lp_16 : ∀ (x4_16 : Int32) (I_16 : WI), lp (B_Ld_breakUp_16 N O a0 a1 x2 J0 v3_10) (fun _ _ => none) N x4_16 I_16 = some I' → GG X 7 P K I_16 O J0 0 0 16 [(0, .ref a0), (1, .ref a1), (2, .int x2), (3, .int v3_10), (4, .int x4_16)] [] := by
    refine x_lp (fun (rec_16 : Int32 → WI → Option (WI)) => ∀ (x4_16 : Int32) (I_16 : WI), rec_16 x4_16 I_16 = some I' → GG X 7 P K I_16 O J0 0 0 16 [(0, .ref a0), (1, .ref a1), (2, .int x2), (3, .int v3_10), (4, .int x4_16)] []) (fun _ _ h => by cases h) (fun rec_16 hr_16 x4_16 I_16 h => ?_) N
    unfold B_Ld_breakUp_16 at h
    refine g_iload C dLd_breakUp_16 rfl ?_
    refine gt_if_lt 131 C dLd_breakUp_18 (by decide) rfl (fun c_18 => ?_) (fun c_18 => ?_)
    · have h := x_pos c_18 h
      exact x_vret1 C E dLd_breakUp_131 ⟨Nat.zero_le _, Nat.zero_le _⟩ h
    · have h := x_neg (Int.not_lt.mpr c_18) h
      refine g_aload_n C dLd_breakUp_21 rfl ?_
      have t_22 := rf_ok hT h0 (show sp 2 0 = some 11 from rfl)
      refine x_getr C dLd_breakUp_22 fl_Ld_9 h0 hT (show sp 2 0 = some 11 from rfl) ?_
      refine g_iload C dLd_breakUp_25 rfl ?_
      obtain ⟨g_27, h⟩ := x_g h
      refine x_iald (m := 5) C dLd_breakUp_27 t_22 (by decide) rfl rfl g_27 ?_
      refine g_aload_n C dLd_breakUp_28 rfl ?_
      have t_29 := rf_ok hT h1 (show sp 3 11 = some 11 from rfl)
      refine x_getr C dLd_breakUp_29 fl_Ld_41 h1 hT (show sp 3 11 = some 11 from rfl) ?_
      refine g_iload C dLd_breakUp_32 rfl ?_
      obtain ⟨g_34, h⟩ := x_g h
      refine x_iald (m := 5) C dLd_breakUp_34 t_29 (by decide) rfl rfl g_34 ?_
      refine g_iload_n C dLd_breakUp_35 rfl ?_
      refine g_imul C dLd_breakUp_36 ?_
      refine g_sipush (v := Int32.ofInt (10000)) C dLd_breakUp_37 (by decide) ?_
      obtain ⟨z_40, e_40, h⟩ := bd1_some h
      refine x_callSi (av := fun ad => [.int (I_16 (rf O a0 0) (x4_16).toInt.toNat), .int ((I_16 (rf O a1 11) (x4_16).toInt.toNat) * x2), .int (Int32.ofInt (10000))]) C dLd_breakUp_40 mfRM_share msRM_share ln_Ld_44 (f_RM_share hT  e_40) rfl rfl (Nat.le_of_ble_eq_true rfl) ⟨Nat.le_of_ble_eq_true rfl, Nat.le_of_ble_eq_true rfl⟩ ⟨rfl, rfl⟩ ⟨Nat.zero_le _, Nat.zero_le _⟩ ?_
      refine g_istore C dLd_breakUp_43 (by decide) ?_
      refine g_iload C dLd_breakUp_45 rfl ?_
      refine g_iconst (v := Int32.ofInt (2)) C dLd_breakUp_47 (by decide) ?_
      refine g_iadd C dLd_breakUp_48 ?_
      refine g_iload_n C dLd_breakUp_49 rfl ?_
      refine x_jn h (fun (k_72 : Int32 → Option (WI)) => ∀ (s0_72 : Int32), k_72 s0_72 = some I' → GG X 7 P K I_16 O J0 0 0 72 [(0, .ref a0), (1, .ref a1), (2, .int x2), (3, .int v3_10), (4, .int x4_16), (5, .int z_40)] [.int s0_72]) (fun s0_72 h => ?_) (fun k_72 hk_72 h => ?_)
      · skip
        refine g_istore C dLd_breakUp_72 (by decide) ?_
        refine g_aload_n C dLd_breakUp_74 rfl ?_
        have t_75 := rf_ok hT h0 (show sp 2 0 = some 11 from rfl)
        refine x_getr C dLd_breakUp_75 fl_Ld_9 h0 hT (show sp 2 0 = some 11 from rfl) ?_
        refine g_iload C dLd_breakUp_78 rfl ?_
        refine g_dup2 C dLd_breakUp_80 rfl rfl ?_
        obtain ⟨g_81, h⟩ := x_g h
        refine x_iald (m := 5) C dLd_breakUp_81 t_75 (by decide) rfl rfl g_81 ?_
        refine g_iload C dLd_breakUp_82 rfl ?_
        refine g_isub C dLd_breakUp_84 ?_
        obtain ⟨g_85, h⟩ := x_g h
        refine x_iast (m := 5) C dLd_breakUp_85 t_75 (by decide) rfl rfl g_85 h (fun I2 h => ?_)
        refine g_aload_n C dLd_breakUp_86 rfl ?_
        have t_87 := rf_ok hT h0 (show sp 2 0 = some 11 from rfl)
        refine x_getr C dLd_breakUp_87 fl_Ld_9 h0 hT (show sp 2 0 = some 11 from rfl) ?_
        refine g_iload C dLd_breakUp_90 rfl ?_
        refine g_iconst (v := Int32.ofInt (1)) C dLd_breakUp_92 (by decide) ?_
        refine g_iadd C dLd_breakUp_93 ?_
        refine g_dup2 C dLd_breakUp_94 rfl rfl ?_
        obtain ⟨g_95, h⟩ := x_g h
        refine x_iald (m := 5) C dLd_breakUp_95 t_87 (by decide) rfl rfl g_95 ?_
        refine g_iload C dLd_breakUp_96 rfl ?_
        refine g_iadd C dLd_breakUp_98 ?_
        obtain ⟨g_99, h⟩ := x_g h
        refine x_iast (m := 5) C dLd_breakUp_99 t_87 (by decide) rfl rfl g_99 h (fun I3 h => ?_)
        refine g_iload C dLd_breakUp_100 rfl ?_
        refine g_iconst (v := Int32.ofInt (2)) C dLd_breakUp_102 (by decide) ?_
        refine g_iadd C dLd_breakUp_103 ?_
        refine g_iload_n C dLd_breakUp_104 rfl ?_
        refine x_jn h (fun (k_125 : WI → Option (WI)) => ∀ (IJ_125 : WI), k_125 IJ_125 = some I' → GG X 7 P K IJ_125 O J0 0 0 125 [(0, .ref a0), (1, .ref a1), (2, .int x2), (3, .int v3_10), (4, .int x4_16), (5, .int z_40), (6, .int s0_72)] []) (fun IJ_125 h => ?_) (fun k_125 hk_125 h => ?_)
        · skip
          refine x_iinc C dLd_breakUp_125 rfl (by decide) h (fun v4_125 h => ?_)
          refine g_goto 16 C dLd_breakUp_128 (by decide) ?_
          exact g_sub (hr_16 (v4_125) IJ_125 h) ⟨rfl, rfl, rfl, rfl, rfl, trivial⟩
        refine gt_icmp_gt 125 C dLd_breakUp_105 (by decide) rfl rfl (fun c_105 => ?_) (fun c_105 => ?_)
        · have h := x_pos c_105 h
          exact g_sub (hk_125  I3 h) ⟨rfl, rfl, rfl, rfl, rfl, rfl, rfl, trivial⟩
        · have h := x_neg (Int.not_lt.mpr c_105) h
          refine g_aload_n C dLd_breakUp_108 rfl ?_
          have t_109 := rf_ok hT h0 (show sp 2 0 = some 11 from rfl)
          refine x_getr C dLd_breakUp_109 fl_Ld_9 h0 hT (show sp 2 0 = some 11 from rfl) ?_
          refine g_iload C dLd_breakUp_112 rfl ?_
          refine g_iconst (v := Int32.ofInt (2)) C dLd_breakUp_114 (by decide) ?_
          refine g_iadd C dLd_breakUp_115 ?_
          refine g_dup2 C dLd_breakUp_116 rfl rfl ?_
          obtain ⟨g_117, h⟩ := x_g h
          refine x_iald (m := 5) C dLd_breakUp_117 t_109 (by decide) rfl rfl g_117 ?_
          refine g_iload C dLd_breakUp_118 rfl ?_
          refine g_iload C dLd_breakUp_120 rfl ?_
          refine g_isub C dLd_breakUp_122 ?_
          refine g_iadd C dLd_breakUp_123 ?_
          obtain ⟨g_124, h⟩ := x_g h
          refine x_iast (m := 5) C dLd_breakUp_124 t_109 (by decide) rfl rfl g_124 h (fun I4 h => ?_)
          exact g_sub (hk_125  I4 h) ⟨rfl, rfl, rfl, rfl, rfl, rfl, rfl, trivial⟩
      refine gt_icmp_le 58 C dLd_breakUp_50 (by decide) rfl rfl (fun c_50 => ?_) (fun c_50 => ?_)
      · have h := x_pos c_50 h
        refine g_iload C dLd_breakUp_58 rfl ?_
        refine g_aload_n C dLd_breakUp_60 rfl ?_
        have t_61 := rf_ok hT h1 (show sp 3 12 = some 11 from rfl)
        refine x_getr C dLd_breakUp_61 fl_Ld_48 h1 hT (show sp 3 12 = some 11 from rfl) ?_
        refine g_iload C dLd_breakUp_64 rfl ?_
        obtain ⟨g_66, h⟩ := x_g h
        refine x_iald (m := 5) C dLd_breakUp_66 t_61 (by decide) rfl rfl g_66 ?_
        refine g_bipush (v := Int32.ofInt (100)) C dLd_breakUp_67 (by decide) ?_
        obtain ⟨z_69, e_69, h⟩ := bd1_some h
        refine x_callSi (av := fun ad => [.int z_40, .int (I_16 (rf O a1 12) (x4_16).toInt.toNat), .int (Int32.ofInt (100))]) C dLd_breakUp_69 mfRM_share msRM_share ln_Ld_44 (f_RM_share hT  e_69) rfl rfl (Nat.le_of_ble_eq_true rfl) ⟨Nat.le_of_ble_eq_true rfl, Nat.le_of_ble_eq_true rfl⟩ ⟨rfl, rfl⟩ ⟨Nat.zero_le _, Nat.zero_le _⟩ ?_
        exact g_sub (hk_72 (z_69) h) ⟨rfl, rfl, rfl, rfl, rfl, rfl, trivial⟩
      · have h := x_neg (Int.not_le.mpr c_50) h
        refine g_iload C dLd_breakUp_53 rfl ?_
        refine g_goto 72 C dLd_breakUp_55 (by decide) ?_
        exact g_sub (hk_72 (z_40) h) ⟨rfl, rfl, rfl, rfl, rfl, rfl, trivial⟩
  exact g_sub (lp_16 (v4_14) I0 h) ⟨rfl, rfl, rfl, rfl, rfl, trivial⟩
def B_Ld_sift_16 (N : Nat) (O : WO) (a0 : Nat) (a1 : Nat) (x2 : Int32) (J0 : WJ) (v4_11 : Int32) (rec_16 : Int32 → WI → Option (WI)) (x5_16 : Int32) (I_16 : WI) : Option (WI) := if 5 ≤ (x5_16).toInt then (some I_16) else (if 0 ≤ (x5_16).toInt ∧ (x5_16).toInt < 5 then (bd1 (F_RM_share N O I_16 J0 (I_16 (rf O a0 0) (x5_16).toInt.toNat) ((Int32.ofInt (20)) + ((Int32.ofInt (10)) * x2)) (Int32.ofInt (100))) fun z_38 => if 0 ≤ (x5_16).toInt ∧ (x5_16).toInt < 5 then (if 0 ≤ (x5_16).toInt ∧ (x5_16).toInt < 5 then (lb (up2 I_16 (rf O a0 0) (x5_16).toInt.toNat ((I_16 (rf O a0 0) (x5_16).toInt.toNat) - z_38)) fun I2 => jn (fun (s0_84 : Int32) => if 0 ≤ (x5_16).toInt ∧ (x5_16).toInt < 5 then (lb (up2 I2 (rf O a0 2) (x5_16).toInt.toNat s0_84) fun I3 => if 0 ≤ (x5_16).toInt ∧ (x5_16).toInt < 5 then (if 0 ≤ (x5_16).toInt ∧ (x5_16).toInt < 5 then (lb (up2 I3 (rf O a0 1) (x5_16).toInt.toNat (z_38 - (I3 (rf O a0 2) (x5_16).toInt.toNat))) fun I4 => lb (x5_16 + Int32.ofInt (1)) fun v5_102 => rec_16 (v5_102) I4) else none) else none) else none) fun k_84 => if ((I2 a1 2)).toInt ≤ (x5_16).toInt then (k_84 (z_38)) else (bd1 (F_RM_share N O I2 J0 z_38 v4_11 (Int32.ofInt (100))) fun z_76 => k_84 (z_76))) else none) else none) else none)
def F_Ld_sift (N : Nat) (O : WO) (I0 : WI) (J0 : WJ) (a0 : Nat) (a1 : Nat) (x2 : Int32) (x3 : Int32) : Option (WI) := lb ((mnI (x3 * (I0 a1 3)) (Int32.ofInt (100)))) fun v4_11 => lp (B_Ld_sift_16 N O a0 a1 x2 J0 v4_11) (fun _ _ => none) N ((Int32.ofInt (0))) I0
set_option maxHeartbeats 4000000 in
set_option maxRecDepth 100000 in
theorem f_Ld_sift {P : List Nat} {K : Nat → Nat} {N : Nat} {O : WO} {I0 : WI} {J0 : WJ} (hT : TR P K O) {a0 : Nat} (h0 : a0 ∈ P ∧ K a0 = 2) {a1 : Nat} (h1 : a1 ∈ P ∧ K a1 = 3) {x2 : Int32} {x3 : Int32} {I' : WI} (h : F_Ld_sift N O I0 J0 a0 a1 x2 x3 = some I') : Con yLd_sift bLd_sift 7 none ({ frames := 1, cells := 0, slots := 0, locals := 22 } : Room) P K I0 O J0 [.ref a0, .ref a1, .int x2, .int x3] (EPo none I' J0 P K O) := by
  refine Con.ofG mfLd_sift (Nat.le_of_ble_eq_true rfl) ?_
  intro X C E
  unfold F_Ld_sift at h
  refine g_iload_n C dLd_sift_0 rfl ?_
  refine g_aload_n C dLd_sift_1 rfl ?_
  refine g_geti C dLd_sift_2 fl_Ld_51 h1 ?_
  refine g_imul C dLd_sift_5 ?_
  refine g_bipush (v := Int32.ofInt (100)) C dLd_sift_6 (by decide) ?_
  refine x_min C dLd_sift_8 ml_Ld_35 (Nat.le_of_ble_eq_true rfl) ⟨Nat.le_of_ble_eq_true rfl, Nat.le_of_ble_eq_true rfl⟩ ⟨Nat.zero_le _, Nat.zero_le _⟩ ?_
  refine x_istore C dLd_sift_11 (by decide) h (fun v4_11 h => ?_)
  refine g_iconst (v := Int32.ofInt (0)) C dLd_sift_13 (by decide) ?_
  refine g_istore C dLd_sift_14 (by decide) ?_
  have lp_16 : ∀ (x5_16 : Int32) (I_16 : WI), lp (B_Ld_sift_16 N O a0 a1 x2 J0 v4_11) (fun _ _ => none) N x5_16 I_16 = some I' → GG X 7 P K I_16 O J0 0 0 16 [(0, .ref a0), (1, .ref a1), (2, .int x2), (3, .int x3), (4, .int v4_11), (5, .int x5_16)] [] := by
    refine x_lp (fun (rec_16 : Int32 → WI → Option (WI)) => ∀ (x5_16 : Int32) (I_16 : WI), rec_16 x5_16 I_16 = some I' → GG X 7 P K I_16 O J0 0 0 16 [(0, .ref a0), (1, .ref a1), (2, .int x2), (3, .int x3), (4, .int v4_11), (5, .int x5_16)] []) (fun _ _ h => by cases h) (fun rec_16 hr_16 x5_16 I_16 h => ?_) N
    unfold B_Ld_sift_16 at h
    refine g_iload C dLd_sift_16 rfl ?_
    refine g_iconst (v := Int32.ofInt (5)) C dLd_sift_18 (by decide) ?_
    refine gt_icmp_ge 108 C dLd_sift_19 (by decide) rfl (ofI (by decide)) (fun c_19 => ?_) (fun c_19 => ?_)
    · have h := x_pos c_19 h
      exact x_vret1 C E dLd_sift_108 ⟨Nat.zero_le _, Nat.zero_le _⟩ h
    · have h := x_neg (Int.not_le.mpr c_19) h
      refine g_aload_n C dLd_sift_22 rfl ?_
      have t_23 := rf_ok hT h0 (show sp 2 0 = some 11 from rfl)
      refine x_getr C dLd_sift_23 fl_Ld_9 h0 hT (show sp 2 0 = some 11 from rfl) ?_
      refine g_iload C dLd_sift_26 rfl ?_
      obtain ⟨g_28, h⟩ := x_g h
      refine x_iald (m := 5) C dLd_sift_28 t_23 (by decide) rfl rfl g_28 ?_
      refine g_bipush (v := Int32.ofInt (20)) C dLd_sift_29 (by decide) ?_
      refine g_bipush (v := Int32.ofInt (10)) C dLd_sift_31 (by decide) ?_
      refine g_iload_n C dLd_sift_33 rfl ?_
      refine g_imul C dLd_sift_34 ?_
      refine g_iadd C dLd_sift_35 ?_
      refine g_bipush (v := Int32.ofInt (100)) C dLd_sift_36 (by decide) ?_
      obtain ⟨z_38, e_38, h⟩ := bd1_some h
      refine x_callSi (av := fun ad => [.int (I_16 (rf O a0 0) (x5_16).toInt.toNat), .int ((Int32.ofInt (20)) + ((Int32.ofInt (10)) * x2)), .int (Int32.ofInt (100))]) C dLd_sift_38 mfRM_share msRM_share ln_Ld_44 (f_RM_share hT  e_38) rfl rfl (Nat.le_of_ble_eq_true rfl) ⟨Nat.le_of_ble_eq_true rfl, Nat.le_of_ble_eq_true rfl⟩ ⟨rfl, rfl⟩ ⟨Nat.zero_le _, Nat.zero_le _⟩ ?_
      refine g_istore C dLd_sift_41 (by decide) ?_
      refine g_aload_n C dLd_sift_43 rfl ?_
      have t_44 := rf_ok hT h0 (show sp 2 0 = some 11 from rfl)
      refine x_getr C dLd_sift_44 fl_Ld_9 h0 hT (show sp 2 0 = some 11 from rfl) ?_
      refine g_iload C dLd_sift_47 rfl ?_
      refine g_dup2 C dLd_sift_49 rfl rfl ?_
      obtain ⟨g_50, h⟩ := x_g h
      refine x_iald (m := 5) C dLd_sift_50 t_44 (by decide) rfl rfl g_50 ?_
      refine g_iload C dLd_sift_51 rfl ?_
      refine g_isub C dLd_sift_53 ?_
      obtain ⟨g_54, h⟩ := x_g h
      refine x_iast (m := 5) C dLd_sift_54 t_44 (by decide) rfl rfl g_54 h (fun I2 h => ?_)
      refine g_aload_n C dLd_sift_55 rfl ?_
      have t_56 := rf_ok hT h0 (show sp 2 2 = some 11 from rfl)
      refine x_getr C dLd_sift_56 fl_Ld_18 h0 hT (show sp 2 2 = some 11 from rfl) ?_
      refine g_iload C dLd_sift_59 rfl ?_
      refine g_iload C dLd_sift_61 rfl ?_
      refine g_aload_n C dLd_sift_63 rfl ?_
      refine g_geti C dLd_sift_64 fl_Ld_54 h1 ?_
      refine x_jn h (fun (k_84 : Int32 → Option (WI)) => ∀ (s0_84 : Int32), k_84 s0_84 = some I' → GG X 7 P K I2 O J0 0 0 84 [(0, .ref a0), (1, .ref a1), (2, .int x2), (3, .int x3), (4, .int v4_11), (5, .int x5_16), (6, .int z_38)] [.int s0_84, .int x5_16, .ref (rf O a0 2)]) (fun s0_84 h => ?_) (fun k_84 hk_84 h => ?_)
      · skip
        obtain ⟨g_84, h⟩ := x_g h
        refine x_iast (m := 5) C dLd_sift_84 t_56 (by decide) rfl rfl g_84 h (fun I3 h => ?_)
        refine g_aload_n C dLd_sift_85 rfl ?_
        have t_86 := rf_ok hT h0 (show sp 2 1 = some 11 from rfl)
        refine x_getr C dLd_sift_86 fl_Ld_15 h0 hT (show sp 2 1 = some 11 from rfl) ?_
        refine g_iload C dLd_sift_89 rfl ?_
        refine g_iload C dLd_sift_91 rfl ?_
        refine g_aload_n C dLd_sift_93 rfl ?_
        have t_94 := rf_ok hT h0 (show sp 2 2 = some 11 from rfl)
        refine x_getr C dLd_sift_94 fl_Ld_18 h0 hT (show sp 2 2 = some 11 from rfl) ?_
        refine g_iload C dLd_sift_97 rfl ?_
        obtain ⟨g_99, h⟩ := x_g h
        refine x_iald (m := 5) C dLd_sift_99 t_94 (by decide) rfl rfl g_99 ?_
        refine g_isub C dLd_sift_100 ?_
        obtain ⟨g_101, h⟩ := x_g h
        refine x_iast (m := 5) C dLd_sift_101 t_86 (by decide) rfl rfl g_101 h (fun I4 h => ?_)
        refine x_iinc C dLd_sift_102 rfl (by decide) h (fun v5_102 h => ?_)
        refine g_goto 16 C dLd_sift_105 (by decide) ?_
        exact g_sub (hr_16 (v5_102) I4 h) ⟨rfl, rfl, rfl, rfl, rfl, rfl, trivial⟩
      refine gt_icmp_ge 82 C dLd_sift_67 (by decide) rfl rfl (fun c_67 => ?_) (fun c_67 => ?_)
      · have h := x_pos c_67 h
        refine g_iload C dLd_sift_82 rfl ?_
        exact g_sub (hk_84 (z_38) h) ⟨rfl, rfl, rfl, rfl, rfl, rfl, rfl, trivial⟩
      · have h := x_neg (Int.not_le.mpr c_67) h
        refine g_iload C dLd_sift_70 rfl ?_
        refine g_iload C dLd_sift_72 rfl ?_
        refine g_bipush (v := Int32.ofInt (100)) C dLd_sift_74 (by decide) ?_
        obtain ⟨z_76, e_76, h⟩ := bd1_some h
        refine x_callSi (av := fun ad => [.int z_38, .int v4_11, .int (Int32.ofInt (100))]) C dLd_sift_76 mfRM_share msRM_share ln_Ld_44 (f_RM_share hT  e_76) rfl rfl (Nat.le_of_ble_eq_true rfl) ⟨Nat.le_of_ble_eq_true rfl, Nat.le_of_ble_eq_true rfl⟩ ⟨rfl, rfl⟩ ⟨Nat.zero_le _, Nat.zero_le _⟩ ?_
        refine g_goto 84 C dLd_sift_79 (by decide) ?_
        exact g_sub (hk_84 (z_76) h) ⟨rfl, rfl, rfl, rfl, rfl, rfl, rfl, trivial⟩
  exact g_sub (lp_16 ((Int32.ofInt (0))) I0 h) ⟨rfl, rfl, rfl, rfl, rfl, rfl, trivial⟩
def B_Ld_digOut_4 (N : Nat) (O : WO) (a0 : Nat) (rec_4 : Int32 → Int32 → WI → Option (Int32 × WI)) (x1_4 : Int32) (x2_4 : Int32) (I_4 : WI) : Option (Int32 × WI) := if 5 ≤ (x2_4).toInt then (some (x1_4, I_4)) else (if 0 ≤ (x2_4).toInt ∧ (x2_4).toInt < 5 then (if 0 ≤ (x2_4).toInt ∧ (x2_4).toInt < 5 then (lb ((mnI (I_4 (rf O a0 0) (x2_4).toInt.toNat) (((I_4 (rf O a0 0) (x2_4).toInt.toNat) / (Int32.ofInt (10))) + (Int32.ofInt (1))))) fun v3_29 => if 0 ≤ (x2_4).toInt ∧ (x2_4).toInt < 5 then (if 0 ≤ (x2_4).toInt ∧ (x2_4).toInt < 5 then (lb (up2 I_4 (rf O a0 0) (x2_4).toInt.toNat ((I_4 (rf O a0 0) (x2_4).toInt.toNat) - v3_29)) fun I1 => lb ((x1_4 + v3_29)) fun v1_43 => lb (x2_4 + Int32.ofInt (1)) fun v2_44 => rec_4 (v1_43) (v2_44) I1) else none) else none) else none) else none)
def F_Ld_digOut (N : Nat) (O : WO) (I0 : WI) (J0 : WJ) (a0 : Nat) : Option (Int32 × WI) := lp (B_Ld_digOut_4 N O a0) (fun _ _ _ => none) N ((Int32.ofInt (0))) ((Int32.ofInt (0))) I0
set_option maxHeartbeats 4000000 in
set_option maxRecDepth 100000 in
theorem f_Ld_digOut {P : List Nat} {K : Nat → Nat} {N : Nat} {O : WO} {I0 : WI} {J0 : WJ} (hT : TR P K O) {a0 : Nat} (h0 : a0 ∈ P ∧ K a0 = 2) {r : Int32} {I' : WI} (h : F_Ld_digOut N O I0 J0 a0 = some (r, I')) : Con yLd_digOut bLd_digOut 4 (some .int) ({ frames := 1, cells := 0, slots := 0, locals := 21 } : Room) P K I0 O J0 [.ref a0] (EPo (some (.int r)) I' J0 P K O) := by
  refine Con.ofG mfLd_digOut (Nat.le_of_ble_eq_true rfl) ?_
  intro X C E
  unfold F_Ld_digOut at h
  refine g_iconst (v := Int32.ofInt (0)) C dLd_digOut_0 (by decide) ?_
  refine g_istore_n (i := 1) C dLd_digOut_1 rfl (by decide) ?_
  refine g_iconst (v := Int32.ofInt (0)) C dLd_digOut_2 (by decide) ?_
  refine g_istore_n (i := 2) C dLd_digOut_3 rfl (by decide) ?_
  have lp_4 : ∀ (x1_4 : Int32) (x2_4 : Int32) (I_4 : WI), lp (B_Ld_digOut_4 N O a0) (fun _ _ _ => none) N x1_4 x2_4 I_4 = some (r, I') → GG X 4 P K I_4 O J0 0 0 4 [(0, .ref a0), (1, .int x1_4), (2, .int x2_4)] [] := by
    refine x_lp (fun (rec_4 : Int32 → Int32 → WI → Option (Int32 × WI)) => ∀ (x1_4 : Int32) (x2_4 : Int32) (I_4 : WI), rec_4 x1_4 x2_4 I_4 = some (r, I') → GG X 4 P K I_4 O J0 0 0 4 [(0, .ref a0), (1, .int x1_4), (2, .int x2_4)] []) (fun _ _ _ h => by cases h) (fun rec_4 hr_4 x1_4 x2_4 I_4 h => ?_) N
    unfold B_Ld_digOut_4 at h
    refine g_iload_n C dLd_digOut_4 rfl ?_
    refine g_iconst (v := Int32.ofInt (5)) C dLd_digOut_5 (by decide) ?_
    refine gt_icmp_ge 50 C dLd_digOut_6 (by decide) rfl (ofI (by decide)) (fun c_6 => ?_) (fun c_6 => ?_)
    · have h := x_pos c_6 h
      refine g_iload_n C dLd_digOut_50 rfl ?_
      exact x_iret1 C E dLd_digOut_51 ⟨Nat.zero_le _, Nat.zero_le _⟩ h
    · have h := x_neg (Int.not_le.mpr c_6) h
      refine g_aload_n C dLd_digOut_9 rfl ?_
      have t_10 := rf_ok hT h0 (show sp 2 0 = some 11 from rfl)
      refine x_getr C dLd_digOut_10 fl_Ld_9 h0 hT (show sp 2 0 = some 11 from rfl) ?_
      refine g_iload_n C dLd_digOut_13 rfl ?_
      obtain ⟨g_14, h⟩ := x_g h
      refine x_iald (m := 5) C dLd_digOut_14 t_10 (by decide) rfl rfl g_14 ?_
      refine g_aload_n C dLd_digOut_15 rfl ?_
      have t_16 := rf_ok hT h0 (show sp 2 0 = some 11 from rfl)
      refine x_getr C dLd_digOut_16 fl_Ld_9 h0 hT (show sp 2 0 = some 11 from rfl) ?_
      refine g_iload_n C dLd_digOut_19 rfl ?_
      obtain ⟨g_20, h⟩ := x_g h
      refine x_iald (m := 5) C dLd_digOut_20 t_16 (by decide) rfl rfl g_20 ?_
      refine g_bipush (v := Int32.ofInt (10)) C dLd_digOut_21 (by decide) ?_
      refine x_idiv C dLd_digOut_23 (by decide) ?_
      refine g_iconst (v := Int32.ofInt (1)) C dLd_digOut_24 (by decide) ?_
      refine g_iadd C dLd_digOut_25 ?_
      refine x_min C dLd_digOut_26 ml_Ld_35 (Nat.le_of_ble_eq_true rfl) ⟨Nat.le_of_ble_eq_true rfl, Nat.le_of_ble_eq_true rfl⟩ ⟨Nat.zero_le _, Nat.zero_le _⟩ ?_
      refine x_istore_n (i := 3) C dLd_digOut_29 rfl (by decide) h (fun v3_29 h => ?_)
      refine g_aload_n C dLd_digOut_30 rfl ?_
      have t_31 := rf_ok hT h0 (show sp 2 0 = some 11 from rfl)
      refine x_getr C dLd_digOut_31 fl_Ld_9 h0 hT (show sp 2 0 = some 11 from rfl) ?_
      refine g_iload_n C dLd_digOut_34 rfl ?_
      refine g_dup2 C dLd_digOut_35 rfl rfl ?_
      obtain ⟨g_36, h⟩ := x_g h
      refine x_iald (m := 5) C dLd_digOut_36 t_31 (by decide) rfl rfl g_36 ?_
      refine g_iload_n C dLd_digOut_37 rfl ?_
      refine g_isub C dLd_digOut_38 ?_
      obtain ⟨g_39, h⟩ := x_g h
      refine x_iast (m := 5) C dLd_digOut_39 t_31 (by decide) rfl rfl g_39 h (fun I1 h => ?_)
      refine g_iload_n C dLd_digOut_40 rfl ?_
      refine g_iload_n C dLd_digOut_41 rfl ?_
      refine g_iadd C dLd_digOut_42 ?_
      refine x_istore_n (i := 1) C dLd_digOut_43 rfl (by decide) h (fun v1_43 h => ?_)
      refine x_iinc C dLd_digOut_44 rfl (by decide) h (fun v2_44 h => ?_)
      refine g_goto 4 C dLd_digOut_47 (by decide) ?_
      exact g_sub (hr_4 (v1_43) (v2_44) I1 h) ⟨rfl, rfl, rfl, trivial⟩
  exact g_sub (lp_4 ((Int32.ofInt (0))) ((Int32.ofInt (0))) I0 h) ⟨rfl, rfl, rfl, trivial⟩
def F_Dr_beginEmpty (N : Nat) (O : WO) (I0 : WI) (J0 : WJ) (a0 : Nat) : Option (WI) := bd1 (F_Ld_makeEmpty N O I0 J0 (rf O a0 0)) fun I1 => bd1 (F_RM_wipe N O I1 J0 (rf O a0 1) 11) fun I2 => lb (up2 I2 a0 2 (Int32.ofInt (0))) fun I3 => lb (up2 I3 a0 3 (Int32.ofInt (0))) fun I4 => lb (up2 I4 a0 4 (Int32.ofInt (0))) fun I5 => lb (up2 I5 a0 5 (Int32.ofInt (0))) fun I6 => lb (up2 I6 a0 6 (Int32.ofInt (0))) fun I7 => lb (up2 I7 a0 7 (Int32.ofInt (0))) fun I8 => lb (up2 I8 a0 8 (Int32.ofInt (0))) fun I9 => lb (up2 I9 a0 9 (Int32.ofInt (0))) fun I10 => lb (up2 I10 a0 10 (Int32.ofInt (0))) fun I11 => lb (up2 I11 a0 11 (Int32.ofInt (0))) fun I12 => lb (up2 I12 a0 12 (Int32.ofInt (0))) fun I13 => lb (up2 I13 a0 13 (Int32.ofInt (0))) fun I14 => lb (up2 I14 a0 14 (Int32.ofInt (0))) fun I15 => lb (up2 I15 a0 15 (Int32.ofInt (0))) fun I16 => lb (up2 I16 a0 16 (Int32.ofInt (0))) fun I17 => some I17
set_option maxHeartbeats 4000000 in
set_option maxRecDepth 100000 in
theorem f_Dr_beginEmpty {P : List Nat} {K : Nat → Nat} {N : Nat} {O : WO} {I0 : WI} {J0 : WJ} (hT : TR P K O) {a0 : Nat} (h0 : a0 ∈ P ∧ K a0 = 0) {I' : WI} (h : F_Dr_beginEmpty N O I0 J0 a0 = some I') : Con yDr_beginEmpty bDr_beginEmpty 1 none ({ frames := 2, cells := 0, slots := 0, locals := 41 } : Room) P K I0 O J0 [.ref a0] (EPo none I' J0 P K O) := by
  refine Con.ofG mfDr_beginEmpty (Nat.le_of_ble_eq_true rfl) ?_
  intro X C E
  unfold F_Dr_beginEmpty at h
  refine g_aload_n C dDr_beginEmpty_0 rfl ?_
  have t_1 := rf_ok hT h0 (show sp 0 0 = some 2 from rfl)
  refine x_getr C dDr_beginEmpty_1 fl_Dr_12 h0 hT (show sp 0 0 = some 2 from rfl) ?_
  obtain ⟨I1, e_4, h⟩ := bd1_some h
  refine x_callVv (av := fun ad => []) C dDr_beginEmpty_4 mfLd_makeEmpty mvLd_makeEmpty ln_Dr_22 t_1 (by decide) rfl (f_Ld_makeEmpty hT t_1 e_4) rfl rfl (Nat.le_of_ble_eq_true rfl) ⟨Nat.le_of_ble_eq_true rfl, Nat.le_of_ble_eq_true rfl⟩ ⟨rfl, rfl⟩ ⟨Nat.zero_le _, Nat.zero_le _⟩ ?_
  refine g_aload_n C dDr_beginEmpty_7 rfl ?_
  have t_8 := rf_ok hT h0 (show sp 0 1 = some 11 from rfl)
  refine x_getr C dDr_beginEmpty_8 fl_Dr_18 h0 hT (show sp 0 1 = some 11 from rfl) ?_
  obtain ⟨I2, e_11, h⟩ := bd1_some h
  refine x_callSv (av := fun ad => [.ref (rf O a0 1)]) C dDr_beginEmpty_11 mfRM_wipe msRM_wipe ln_Dr_25 (f_RM_wipe hT t_8 ⟨by decide, rfl⟩ e_11) rfl rfl (Nat.le_of_ble_eq_true rfl) ⟨Nat.le_of_ble_eq_true rfl, Nat.le_of_ble_eq_true rfl⟩ ⟨rfl, rfl⟩ ⟨Nat.zero_le _, Nat.zero_le _⟩ ?_
  refine g_aload_n C dDr_beginEmpty_14 rfl ?_
  refine g_iconst (v := Int32.ofInt (0)) C dDr_beginEmpty_15 (by decide) ?_
  refine x_puti C dDr_beginEmpty_16 fl_Dr_29 h0 rfl (Or.inl rfl) h (fun I3 h => ?_)
  refine g_aload_n C dDr_beginEmpty_19 rfl ?_
  refine g_iconst (v := Int32.ofInt (0)) C dDr_beginEmpty_20 (by decide) ?_
  refine x_puti C dDr_beginEmpty_21 fl_Dr_33 h0 rfl (Or.inl rfl) h (fun I4 h => ?_)
  refine g_aload_n C dDr_beginEmpty_24 rfl ?_
  refine g_iconst (v := Int32.ofInt (0)) C dDr_beginEmpty_25 (by decide) ?_
  refine x_puti C dDr_beginEmpty_26 fl_Dr_36 h0 rfl (Or.inl rfl) h (fun I5 h => ?_)
  refine g_aload_n C dDr_beginEmpty_29 rfl ?_
  refine g_iconst (v := Int32.ofInt (0)) C dDr_beginEmpty_30 (by decide) ?_
  refine x_puti C dDr_beginEmpty_31 fl_Dr_39 h0 rfl (Or.inr ⟨rfl, by decide⟩) h (fun I6 h => ?_)
  refine g_aload_n C dDr_beginEmpty_34 rfl ?_
  refine g_iconst (v := Int32.ofInt (0)) C dDr_beginEmpty_35 (by decide) ?_
  refine x_puti C dDr_beginEmpty_36 fl_Dr_43 h0 rfl (Or.inl rfl) h (fun I7 h => ?_)
  refine g_aload_n C dDr_beginEmpty_39 rfl ?_
  refine g_iconst (v := Int32.ofInt (0)) C dDr_beginEmpty_40 (by decide) ?_
  refine x_puti C dDr_beginEmpty_41 fl_Dr_46 h0 rfl (Or.inl rfl) h (fun I8 h => ?_)
  refine g_aload_n C dDr_beginEmpty_44 rfl ?_
  refine g_iconst (v := Int32.ofInt (0)) C dDr_beginEmpty_45 (by decide) ?_
  refine x_puti C dDr_beginEmpty_46 fl_Dr_49 h0 rfl (Or.inl rfl) h (fun I9 h => ?_)
  refine g_aload_n C dDr_beginEmpty_49 rfl ?_
  refine g_iconst (v := Int32.ofInt (0)) C dDr_beginEmpty_50 (by decide) ?_
  refine x_puti C dDr_beginEmpty_51 fl_Dr_52 h0 rfl (Or.inl rfl) h (fun I10 h => ?_)
  refine g_aload_n C dDr_beginEmpty_54 rfl ?_
  refine g_iconst (v := Int32.ofInt (0)) C dDr_beginEmpty_55 (by decide) ?_
  refine x_puti C dDr_beginEmpty_56 fl_Dr_55 h0 rfl (Or.inl rfl) h (fun I11 h => ?_)
  refine g_aload_n C dDr_beginEmpty_59 rfl ?_
  refine g_iconst (v := Int32.ofInt (0)) C dDr_beginEmpty_60 (by decide) ?_
  refine x_puti C dDr_beginEmpty_61 fl_Dr_58 h0 rfl (Or.inl rfl) h (fun I12 h => ?_)
  refine g_aload_n C dDr_beginEmpty_64 rfl ?_
  refine g_iconst (v := Int32.ofInt (0)) C dDr_beginEmpty_65 (by decide) ?_
  refine x_puti C dDr_beginEmpty_66 fl_Dr_61 h0 rfl (Or.inl rfl) h (fun I13 h => ?_)
  refine g_aload_n C dDr_beginEmpty_69 rfl ?_
  refine g_iconst (v := Int32.ofInt (0)) C dDr_beginEmpty_70 (by decide) ?_
  refine x_puti C dDr_beginEmpty_71 fl_Dr_64 h0 rfl (Or.inl rfl) h (fun I14 h => ?_)
  refine g_aload_n C dDr_beginEmpty_74 rfl ?_
  refine g_iconst (v := Int32.ofInt (0)) C dDr_beginEmpty_75 (by decide) ?_
  refine x_puti C dDr_beginEmpty_76 fl_Dr_67 h0 rfl (Or.inl rfl) h (fun I15 h => ?_)
  refine g_aload_n C dDr_beginEmpty_79 rfl ?_
  refine g_iconst (v := Int32.ofInt (0)) C dDr_beginEmpty_80 (by decide) ?_
  refine x_puti C dDr_beginEmpty_81 fl_Dr_70 h0 rfl (Or.inl rfl) h (fun I16 h => ?_)
  refine g_aload_n C dDr_beginEmpty_84 rfl ?_
  refine g_iconst (v := Int32.ofInt (0)) C dDr_beginEmpty_85 (by decide) ?_
  refine x_puti C dDr_beginEmpty_86 fl_Dr_73 h0 rfl (Or.inl rfl) h (fun I17 h => ?_)
  exact x_vret1 C E dDr_beginEmpty_89 ⟨Nat.zero_le _, Nat.zero_le _⟩ h
def B_Dr_beginStart_49 (N : Nat) (O : WO) (a0 : Nat) (a1 : Nat) (J0 : WJ) (z_42 : Int32) (rec_49 : Int32 → WI → Option (WI)) (x4_49 : Int32) (I_49 : WI) : Option (WI) := if 5 ≤ (x4_49).toInt then (some I_49) else (bd1 (F_Ml_tonsOf N O I_49 J0 a1 (Int32.ofInt (0)) x4_49) fun z_69 => if 0 ≤ (x4_49).toInt ∧ (x4_49).toInt < 5 then (lb (up2 I_49 (rf O (rf O a0 0) 0) (x4_49).toInt.toNat (z_42 * z_69)) fun I10 => lb (x4_49 + Int32.ofInt (1)) fun v4_74 => rec_49 (v4_74) I10) else none)
def F_Dr_beginStart (N : Nat) (O : WO) (I0 : WI) (J0 : WJ) (a0 : Nat) (a1 : Nat) (x2 : Int32) : Option (WI) := bd1 (F_Dr_beginEmpty N O I0 J0 a0) fun I1 => bd1 (F_RM_partOfStart N O I1 J0 x2 (Int32.ofInt (0))) fun z_7 => lb (up2 I1 a0 4 z_7) fun I3 => bd1 (F_RM_partOfStart N O I3 J0 x2 (Int32.ofInt (1))) fun z_20 => bd1 (F_RM_share N O I3 J0 (I3 a1 4) z_20 (Int32.ofInt (4))) fun z_24 => lb (up2 I3 a0 3 z_24) fun I6 => lb (up2 I6 a0 2 ((I6 a1 5) / (Int32.ofInt (2)))) fun I7 => bd1 (F_RM_partOfStart N O I7 J0 x2 (Int32.ofInt (2))) fun z_42 => lp (B_Dr_beginStart_49 N O a0 a1 J0 z_42) (fun _ _ => none) N ((Int32.ofInt (0))) I7
set_option maxHeartbeats 4000000 in
set_option maxRecDepth 100000 in
theorem f_Dr_beginStart {P : List Nat} {K : Nat → Nat} {N : Nat} {O : WO} {I0 : WI} {J0 : WJ} (hT : TR P K O) {a0 : Nat} (h0 : a0 ∈ P ∧ K a0 = 0) {a1 : Nat} (h1 : a1 ∈ P ∧ K a1 = 3) {x2 : Int32} {I' : WI} (h : F_Dr_beginStart N O I0 J0 a0 a1 x2 = some I') : Con yDr_beginStart bDr_beginStart 5 none ({ frames := 3, cells := 0, slots := 0, locals := 61 } : Room) P K I0 O J0 [.ref a0, .ref a1, .int x2] (EPo none I' J0 P K O) := by
  refine Con.ofG mfDr_beginStart (Nat.le_of_ble_eq_true rfl) ?_
  intro X C E
  unfold F_Dr_beginStart at h
  refine g_aload_n C dDr_beginStart_0 rfl ?_
  obtain ⟨I1, e_1, h⟩ := bd1_some h
  refine x_callVv (av := fun ad => []) C dDr_beginStart_1 mfDr_beginEmpty mvDr_beginEmpty ln_Dr_76 h0 (by decide) rfl (f_Dr_beginEmpty hT h0 e_1) rfl rfl (Nat.le_of_ble_eq_true rfl) ⟨Nat.le_of_ble_eq_true rfl, Nat.le_of_ble_eq_true rfl⟩ ⟨rfl, rfl⟩ ⟨Nat.zero_le _, Nat.zero_le _⟩ ?_
  refine g_aload_n C dDr_beginStart_4 rfl ?_
  refine g_iload_n C dDr_beginStart_5 rfl ?_
  refine g_iconst (v := Int32.ofInt (0)) C dDr_beginStart_6 (by decide) ?_
  obtain ⟨z_7, e_7, h⟩ := bd1_some h
  refine x_callSi (av := fun ad => [.int x2, .int (Int32.ofInt (0))]) C dDr_beginStart_7 mfRM_partOfStart msRM_partOfStart ln_Dr_79 (f_RM_partOfStart hT  e_7) rfl rfl (Nat.le_of_ble_eq_true rfl) ⟨Nat.le_of_ble_eq_true rfl, Nat.le_of_ble_eq_true rfl⟩ ⟨rfl, rfl⟩ ⟨Nat.zero_le _, Nat.zero_le _⟩ ?_
  refine x_puti C dDr_beginStart_10 fl_Dr_36 h0 rfl (Or.inl rfl) h (fun I3 h => ?_)
  refine g_aload_n C dDr_beginStart_13 rfl ?_
  refine g_aload_n C dDr_beginStart_14 rfl ?_
  refine g_geti C dDr_beginStart_15 fl_Dr_83 h1 ?_
  refine g_iload_n C dDr_beginStart_18 rfl ?_
  refine g_iconst (v := Int32.ofInt (1)) C dDr_beginStart_19 (by decide) ?_
  obtain ⟨z_20, e_20, h⟩ := bd1_some h
  refine x_callSi (av := fun ad => [.int x2, .int (Int32.ofInt (1))]) C dDr_beginStart_20 mfRM_partOfStart msRM_partOfStart ln_Dr_79 (f_RM_partOfStart hT  e_20) rfl rfl (Nat.le_of_ble_eq_true rfl) ⟨Nat.le_of_ble_eq_true rfl, Nat.le_of_ble_eq_true rfl⟩ ⟨rfl, rfl⟩ ⟨Nat.zero_le _, Nat.zero_le _⟩ ?_
  refine g_iconst (v := Int32.ofInt (4)) C dDr_beginStart_23 (by decide) ?_
  obtain ⟨z_24, e_24, h⟩ := bd1_some h
  refine x_callSi (av := fun ad => [.int (I3 a1 4), .int z_20, .int (Int32.ofInt (4))]) C dDr_beginStart_24 mfRM_share msRM_share ln_Dr_88 (f_RM_share hT  e_24) rfl rfl (Nat.le_of_ble_eq_true rfl) ⟨Nat.le_of_ble_eq_true rfl, Nat.le_of_ble_eq_true rfl⟩ ⟨rfl, rfl⟩ ⟨Nat.zero_le _, Nat.zero_le _⟩ ?_
  refine x_puti C dDr_beginStart_27 fl_Dr_33 h0 rfl (Or.inl rfl) h (fun I6 h => ?_)
  refine g_aload_n C dDr_beginStart_30 rfl ?_
  refine g_aload_n C dDr_beginStart_31 rfl ?_
  refine g_geti C dDr_beginStart_32 fl_Dr_92 h1 ?_
  refine g_iconst (v := Int32.ofInt (2)) C dDr_beginStart_35 (by decide) ?_
  refine x_idiv C dDr_beginStart_36 (by decide) ?_
  refine x_puti C dDr_beginStart_37 fl_Dr_29 h0 rfl (Or.inl rfl) h (fun I7 h => ?_)
  refine g_iload_n C dDr_beginStart_40 rfl ?_
  refine g_iconst (v := Int32.ofInt (2)) C dDr_beginStart_41 (by decide) ?_
  obtain ⟨z_42, e_42, h⟩ := bd1_some h
  refine x_callSi (av := fun ad => [.int x2, .int (Int32.ofInt (2))]) C dDr_beginStart_42 mfRM_partOfStart msRM_partOfStart ln_Dr_79 (f_RM_partOfStart hT  e_42) rfl rfl (Nat.le_of_ble_eq_true rfl) ⟨Nat.le_of_ble_eq_true rfl, Nat.le_of_ble_eq_true rfl⟩ ⟨rfl, rfl⟩ ⟨Nat.zero_le _, Nat.zero_le _⟩ ?_
  refine g_istore_n (i := 3) C dDr_beginStart_45 rfl (by decide) ?_
  refine g_iconst (v := Int32.ofInt (0)) C dDr_beginStart_46 (by decide) ?_
  refine g_istore C dDr_beginStart_47 (by decide) ?_
  have lp_49 : ∀ (x4_49 : Int32) (I_49 : WI), lp (B_Dr_beginStart_49 N O a0 a1 J0 z_42) (fun _ _ => none) N x4_49 I_49 = some I' → GG X 5 P K I_49 O J0 0 0 49 [(0, .ref a0), (1, .ref a1), (2, .int x2), (3, .int z_42), (4, .int x4_49)] [] := by
    refine x_lp (fun (rec_49 : Int32 → WI → Option (WI)) => ∀ (x4_49 : Int32) (I_49 : WI), rec_49 x4_49 I_49 = some I' → GG X 5 P K I_49 O J0 0 0 49 [(0, .ref a0), (1, .ref a1), (2, .int x2), (3, .int z_42), (4, .int x4_49)] []) (fun _ _ h => by cases h) (fun rec_49 hr_49 x4_49 I_49 h => ?_) N
    unfold B_Dr_beginStart_49 at h
    refine g_iload C dDr_beginStart_49 rfl ?_
    refine g_iconst (v := Int32.ofInt (5)) C dDr_beginStart_51 (by decide) ?_
    refine gt_icmp_ge 80 C dDr_beginStart_52 (by decide) rfl (ofI (by decide)) (fun c_52 => ?_) (fun c_52 => ?_)
    · have h := x_pos c_52 h
      exact x_vret1 C E dDr_beginStart_80 ⟨Nat.zero_le _, Nat.zero_le _⟩ h
    · have h := x_neg (Int.not_le.mpr c_52) h
      refine g_aload_n C dDr_beginStart_55 rfl ?_
      have t_56 := rf_ok hT h0 (show sp 0 0 = some 2 from rfl)
      refine x_getr C dDr_beginStart_56 fl_Dr_12 h0 hT (show sp 0 0 = some 2 from rfl) ?_
      have t_59 := rf_ok hT t_56 (show sp 2 0 = some 11 from rfl)
      refine x_getr C dDr_beginStart_59 fl_Dr_95 t_56 hT (show sp 2 0 = some 11 from rfl) ?_
      refine g_iload C dDr_beginStart_62 rfl ?_
      refine g_iload_n C dDr_beginStart_64 rfl ?_
      refine g_aload_n C dDr_beginStart_65 rfl ?_
      refine g_iconst (v := Int32.ofInt (0)) C dDr_beginStart_66 (by decide) ?_
      refine g_iload C dDr_beginStart_67 rfl ?_
      obtain ⟨z_69, e_69, h⟩ := bd1_some h
      refine x_callVi (av := fun ad => [.int (Int32.ofInt (0)), .int x4_49]) C dDr_beginStart_69 mfMl_tonsOf mvMl_tonsOf ln_Dr_98 h1 (by decide) rfl (f_Ml_tonsOf hT h1 e_69) rfl rfl (Nat.le_of_ble_eq_true rfl) ⟨Nat.le_of_ble_eq_true rfl, Nat.le_of_ble_eq_true rfl⟩ ⟨rfl, rfl⟩ ⟨Nat.zero_le _, Nat.zero_le _⟩ ?_
      refine g_imul C dDr_beginStart_72 ?_
      obtain ⟨g_73, h⟩ := x_g h
      refine x_iast (m := 5) C dDr_beginStart_73 t_59 (by decide) rfl rfl g_73 h (fun I10 h => ?_)
      refine x_iinc C dDr_beginStart_74 rfl (by decide) h (fun v4_74 h => ?_)
      refine g_goto 49 C dDr_beginStart_77 (by decide) ?_
      exact g_sub (hr_49 (v4_74) I10 h) ⟨rfl, rfl, rfl, rfl, rfl, trivial⟩
  exact g_sub (lp_49 ((Int32.ofInt (0))) I7 h) ⟨rfl, rfl, rfl, rfl, rfl, trivial⟩
def F_Dr_copyFrom (N : Nat) (O : WO) (I0 : WI) (J0 : WJ) (a0 : Nat) (a1 : Nat) : Option (WI) := bd1 (F_Ld_copyFrom N O I0 J0 (rf O a0 0) (rf O a1 0)) fun I1 => bd1 (F_RM_copyRow N O I1 J0 (rf O a1 1) 11 (rf O a0 1) 11) fun I2 => lb (up2 I2 a0 2 (I2 a1 2)) fun I3 => lb (up2 I3 a0 3 (I3 a1 3)) fun I4 => lb (up2 I4 a0 4 (I4 a1 4)) fun I5 => if ((I5 a1 5)).toInt = 0 ∨ ((I5 a1 5)).toInt = 1 then (lb (up2 I5 a0 5 (I5 a1 5)) fun I6 => lb (up2 I6 a0 6 (I6 a1 6)) fun I7 => lb (up2 I7 a0 7 (I7 a1 7)) fun I8 => lb (up2 I8 a0 8 (I8 a1 8)) fun I9 => lb (up2 I9 a0 9 (I9 a1 9)) fun I10 => lb (up2 I10 a0 10 (I10 a1 10)) fun I11 => lb (up2 I11 a0 11 (I11 a1 11)) fun I12 => lb (up2 I12 a0 12 (I12 a1 12)) fun I13 => lb (up2 I13 a0 13 (I13 a1 13)) fun I14 => lb (up2 I14 a0 14 (I14 a1 14)) fun I15 => lb (up2 I15 a0 15 (I15 a1 15)) fun I16 => lb (up2 I16 a0 16 (I16 a1 16)) fun I17 => some I17) else none
set_option maxHeartbeats 4000000 in
set_option maxRecDepth 100000 in
theorem f_Dr_copyFrom {P : List Nat} {K : Nat → Nat} {N : Nat} {O : WO} {I0 : WI} {J0 : WJ} (hT : TR P K O) {a0 : Nat} (h0 : a0 ∈ P ∧ K a0 = 0) {a1 : Nat} (h1 : a1 ∈ P ∧ K a1 = 0) {I' : WI} (h : F_Dr_copyFrom N O I0 J0 a0 a1 = some I') : Con yDr_copyFrom bDr_copyFrom 2 none ({ frames := 2, cells := 0, slots := 0, locals := 43 } : Room) P K I0 O J0 [.ref a0, .ref a1] (EPo none I' J0 P K O) := by
  refine Con.ofG mfDr_copyFrom (Nat.le_of_ble_eq_true rfl) ?_
  intro X C E
  unfold F_Dr_copyFrom at h
  refine g_aload_n C dDr_copyFrom_0 rfl ?_
  have t_1 := rf_ok hT h0 (show sp 0 0 = some 2 from rfl)
  refine x_getr C dDr_copyFrom_1 fl_Dr_12 h0 hT (show sp 0 0 = some 2 from rfl) ?_
  refine g_aload_n C dDr_copyFrom_4 rfl ?_
  have t_5 := rf_ok hT h1 (show sp 0 0 = some 2 from rfl)
  refine x_getr C dDr_copyFrom_5 fl_Dr_12 h1 hT (show sp 0 0 = some 2 from rfl) ?_
  obtain ⟨I1, e_8, h⟩ := bd1_some h
  refine x_callVv (av := fun ad => [.ref (rf O a1 0)]) C dDr_copyFrom_8 mfLd_copyFrom mvLd_copyFrom ln_Dr_101 t_1 (by decide) rfl (f_Ld_copyFrom hT t_1 t_5 e_8) rfl rfl (Nat.le_of_ble_eq_true rfl) ⟨Nat.le_of_ble_eq_true rfl, Nat.le_of_ble_eq_true rfl⟩ ⟨rfl, rfl⟩ ⟨Nat.zero_le _, Nat.zero_le _⟩ ?_
  refine g_aload_n C dDr_copyFrom_11 rfl ?_
  have t_12 := rf_ok hT h1 (show sp 0 1 = some 11 from rfl)
  refine x_getr C dDr_copyFrom_12 fl_Dr_18 h1 hT (show sp 0 1 = some 11 from rfl) ?_
  refine g_aload_n C dDr_copyFrom_15 rfl ?_
  have t_16 := rf_ok hT h0 (show sp 0 1 = some 11 from rfl)
  refine x_getr C dDr_copyFrom_16 fl_Dr_18 h0 hT (show sp 0 1 = some 11 from rfl) ?_
  obtain ⟨I2, e_19, h⟩ := bd1_some h
  refine x_callSv (av := fun ad => [.ref (rf O a1 1), .ref (rf O a0 1)]) C dDr_copyFrom_19 mfRM_copyRow msRM_copyRow ln_Dr_105 (f_RM_copyRow hT t_12 ⟨by decide, rfl⟩ t_16 ⟨by decide, rfl⟩ e_19) rfl rfl (Nat.le_of_ble_eq_true rfl) ⟨Nat.le_of_ble_eq_true rfl, Nat.le_of_ble_eq_true rfl⟩ ⟨rfl, rfl⟩ ⟨Nat.zero_le _, Nat.zero_le _⟩ ?_
  refine g_aload_n C dDr_copyFrom_22 rfl ?_
  refine g_aload_n C dDr_copyFrom_23 rfl ?_
  refine g_geti C dDr_copyFrom_24 fl_Dr_29 h1 ?_
  refine x_puti C dDr_copyFrom_27 fl_Dr_29 h0 rfl (Or.inl rfl) h (fun I3 h => ?_)
  refine g_aload_n C dDr_copyFrom_30 rfl ?_
  refine g_aload_n C dDr_copyFrom_31 rfl ?_
  refine g_geti C dDr_copyFrom_32 fl_Dr_33 h1 ?_
  refine x_puti C dDr_copyFrom_35 fl_Dr_33 h0 rfl (Or.inl rfl) h (fun I4 h => ?_)
  refine g_aload_n C dDr_copyFrom_38 rfl ?_
  refine g_aload_n C dDr_copyFrom_39 rfl ?_
  refine g_geti C dDr_copyFrom_40 fl_Dr_36 h1 ?_
  refine x_puti C dDr_copyFrom_43 fl_Dr_36 h0 rfl (Or.inl rfl) h (fun I5 h => ?_)
  refine g_aload_n C dDr_copyFrom_46 rfl ?_
  refine g_aload_n C dDr_copyFrom_47 rfl ?_
  refine g_geti C dDr_copyFrom_48 fl_Dr_39 h1 ?_
  obtain ⟨g_51, h⟩ := x_g h
  refine x_puti C dDr_copyFrom_51 fl_Dr_39 h0 rfl (Or.inr ⟨rfl, x_01 g_51⟩) h (fun I6 h => ?_)
  refine g_aload_n C dDr_copyFrom_54 rfl ?_
  refine g_aload_n C dDr_copyFrom_55 rfl ?_
  refine g_geti C dDr_copyFrom_56 fl_Dr_43 h1 ?_
  refine x_puti C dDr_copyFrom_59 fl_Dr_43 h0 rfl (Or.inl rfl) h (fun I7 h => ?_)
  refine g_aload_n C dDr_copyFrom_62 rfl ?_
  refine g_aload_n C dDr_copyFrom_63 rfl ?_
  refine g_geti C dDr_copyFrom_64 fl_Dr_46 h1 ?_
  refine x_puti C dDr_copyFrom_67 fl_Dr_46 h0 rfl (Or.inl rfl) h (fun I8 h => ?_)
  refine g_aload_n C dDr_copyFrom_70 rfl ?_
  refine g_aload_n C dDr_copyFrom_71 rfl ?_
  refine g_geti C dDr_copyFrom_72 fl_Dr_49 h1 ?_
  refine x_puti C dDr_copyFrom_75 fl_Dr_49 h0 rfl (Or.inl rfl) h (fun I9 h => ?_)
  refine g_aload_n C dDr_copyFrom_78 rfl ?_
  refine g_aload_n C dDr_copyFrom_79 rfl ?_
  refine g_geti C dDr_copyFrom_80 fl_Dr_52 h1 ?_
  refine x_puti C dDr_copyFrom_83 fl_Dr_52 h0 rfl (Or.inl rfl) h (fun I10 h => ?_)
  refine g_aload_n C dDr_copyFrom_86 rfl ?_
  refine g_aload_n C dDr_copyFrom_87 rfl ?_
  refine g_geti C dDr_copyFrom_88 fl_Dr_55 h1 ?_
  refine x_puti C dDr_copyFrom_91 fl_Dr_55 h0 rfl (Or.inl rfl) h (fun I11 h => ?_)
  refine g_aload_n C dDr_copyFrom_94 rfl ?_
  refine g_aload_n C dDr_copyFrom_95 rfl ?_
  refine g_geti C dDr_copyFrom_96 fl_Dr_58 h1 ?_
  refine x_puti C dDr_copyFrom_99 fl_Dr_58 h0 rfl (Or.inl rfl) h (fun I12 h => ?_)
  refine g_aload_n C dDr_copyFrom_102 rfl ?_
  refine g_aload_n C dDr_copyFrom_103 rfl ?_
  refine g_geti C dDr_copyFrom_104 fl_Dr_61 h1 ?_
  refine x_puti C dDr_copyFrom_107 fl_Dr_61 h0 rfl (Or.inl rfl) h (fun I13 h => ?_)
  refine g_aload_n C dDr_copyFrom_110 rfl ?_
  refine g_aload_n C dDr_copyFrom_111 rfl ?_
  refine g_geti C dDr_copyFrom_112 fl_Dr_64 h1 ?_
  refine x_puti C dDr_copyFrom_115 fl_Dr_64 h0 rfl (Or.inl rfl) h (fun I14 h => ?_)
  refine g_aload_n C dDr_copyFrom_118 rfl ?_
  refine g_aload_n C dDr_copyFrom_119 rfl ?_
  refine g_geti C dDr_copyFrom_120 fl_Dr_67 h1 ?_
  refine x_puti C dDr_copyFrom_123 fl_Dr_67 h0 rfl (Or.inl rfl) h (fun I15 h => ?_)
  refine g_aload_n C dDr_copyFrom_126 rfl ?_
  refine g_aload_n C dDr_copyFrom_127 rfl ?_
  refine g_geti C dDr_copyFrom_128 fl_Dr_70 h1 ?_
  refine x_puti C dDr_copyFrom_131 fl_Dr_70 h0 rfl (Or.inl rfl) h (fun I16 h => ?_)
  refine g_aload_n C dDr_copyFrom_134 rfl ?_
  refine g_aload_n C dDr_copyFrom_135 rfl ?_
  refine g_geti C dDr_copyFrom_136 fl_Dr_73 h1 ?_
  refine x_puti C dDr_copyFrom_139 fl_Dr_73 h0 rfl (Or.inl rfl) h (fun I17 h => ?_)
  exact x_vret1 C E dDr_copyFrom_142 ⟨Nat.zero_le _, Nat.zero_le _⟩ h
def F_Dr_wentWell (N : Nat) (O : WO) (I0 : WI) (J0 : WJ) (a0 : Nat) : Option (Int32) := if ((I0 a0 5)).toInt = 0 then (if ((I0 a0 11)).toInt = 0 then (some (Int32.ofInt (1))) else (some (Int32.ofInt (0)))) else (some (Int32.ofInt (0)))
set_option maxHeartbeats 4000000 in
set_option maxRecDepth 100000 in
theorem f_Dr_wentWell {P : List Nat} {K : Nat → Nat} {N : Nat} {O : WO} {I0 : WI} {J0 : WJ} (hT : TR P K O) {a0 : Nat} (h0 : a0 ∈ P ∧ K a0 = 0) {r : Int32} (h : F_Dr_wentWell N O I0 J0 a0 = some r) : Con yDr_wentWell bDr_wentWell 1 (some .boolean) ({ frames := 0, cells := 0, slots := 0, locals := 0 } : Room) P K I0 O J0 [.ref a0] (EPo (some (.int r)) I0 J0 P K O) := by
  refine Con.ofG mfDr_wentWell (Nat.le_of_ble_eq_true rfl) ?_
  intro X C E
  unfold F_Dr_wentWell at h
  refine g_aload_n C dDr_wentWell_0 rfl ?_
  refine g_geti C dDr_wentWell_1 fl_Dr_39 h0 ?_
  refine gt_if_ne 18 C dDr_wentWell_4 (by decide) rfl (fun c_4 => ?_) (fun c_4 => ?_)
  · have h := x_neg c_4 h
    refine g_iconst (v := Int32.ofInt (0)) C dDr_wentWell_18 (by decide) ?_
    exact x_zret0 C E dDr_wentWell_19 (by decide) ⟨Nat.zero_le _, Nat.zero_le _⟩ h
  · have h := x_pos c_4 h
    refine g_aload_n C dDr_wentWell_7 rfl ?_
    refine g_geti C dDr_wentWell_8 fl_Dr_58 h0 ?_
    refine gt_if_ne 18 C dDr_wentWell_11 (by decide) rfl (fun c_11 => ?_) (fun c_11 => ?_)
    · have h := x_neg c_11 h
      refine g_iconst (v := Int32.ofInt (0)) C dDr_wentWell_18 (by decide) ?_
      exact x_zret0 C E dDr_wentWell_19 (by decide) ⟨Nat.zero_le _, Nat.zero_le _⟩ h
    · have h := x_pos c_11 h
      refine g_iconst (v := Int32.ofInt (1)) C dDr_wentWell_14 (by decide) ?_
      refine g_goto 19 C dDr_wentWell_15 (by decide) ?_
      exact x_zret0 C E dDr_wentWell_19 (by decide) ⟨Nat.zero_le _, Nat.zero_le _⟩ h
def B_Dr_takeOre_3 (N : Nat) (O : WO) (a0 : Nat) (a1 : Nat) (x2 : Int32) (x3 : Int32) (J0 : WJ) (rec_3 : Int32 → WI → Option (WI)) (x4_3 : Int32) (I_3 : WI) : Option (WI) := if 5 ≤ (x4_3).toInt then (some I_3) else (bd1 (F_Ml_tonsOf N O I_3 J0 a1 x3 x4_3) fun z_14 => lb ((x2 * z_14)) fun v5_18 => if 0 ≤ (x4_3).toInt ∧ (x4_3).toInt < 5 then (if 0 ≤ (x4_3).toInt ∧ (x4_3).toInt < 5 then (lb (up2 I_3 (rf O (rf O a0 0) 0) (x4_3).toInt.toNat ((I_3 (rf O (rf O a0 0) 0) (x4_3).toInt.toNat) + v5_18)) fun I2 => lb (up2 I2 a0 16 ((I2 a0 16) + v5_18)) fun I3 => lb (x4_3 + Int32.ofInt (1)) fun v4_46 => rec_3 (v4_46) I3) else none) else none)
def F_Dr_takeOre (N : Nat) (O : WO) (I0 : WI) (J0 : WJ) (a0 : Nat) (a1 : Nat) (x2 : Int32) (x3 : Int32) : Option (WI) := lp (B_Dr_takeOre_3 N O a0 a1 x2 x3 J0) (fun _ _ => none) N ((Int32.ofInt (0))) I0
set_option maxHeartbeats 4000000 in
set_option maxRecDepth 100000 in
theorem f_Dr_takeOre {P : List Nat} {K : Nat → Nat} {N : Nat} {O : WO} {I0 : WI} {J0 : WJ} (hT : TR P K O) {a0 : Nat} (h0 : a0 ∈ P ∧ K a0 = 0) {a1 : Nat} (h1 : a1 ∈ P ∧ K a1 = 3) {x2 : Int32} {x3 : Int32} {I' : WI} (h : F_Dr_takeOre N O I0 J0 a0 a1 x2 x3 = some I') : Con yDr_takeOre bDr_takeOre 6 none ({ frames := 1, cells := 0, slots := 0, locals := 22 } : Room) P K I0 O J0 [.ref a0, .ref a1, .int x2, .int x3] (EPo none I' J0 P K O) := by
  refine Con.ofG mfDr_takeOre (Nat.le_of_ble_eq_true rfl) ?_
  intro X C E
  unfold F_Dr_takeOre at h
  refine g_iconst (v := Int32.ofInt (0)) C dDr_takeOre_0 (by decide) ?_
  refine g_istore C dDr_takeOre_1 (by decide) ?_
  have lp_3 : ∀ (x4_3 : Int32) (I_3 : WI), lp (B_Dr_takeOre_3 N O a0 a1 x2 x3 J0) (fun _ _ => none) N x4_3 I_3 = some I' → GG X 6 P K I_3 O J0 0 0 3 [(0, .ref a0), (1, .ref a1), (2, .int x2), (3, .int x3), (4, .int x4_3)] [] := by
    refine x_lp (fun (rec_3 : Int32 → WI → Option (WI)) => ∀ (x4_3 : Int32) (I_3 : WI), rec_3 x4_3 I_3 = some I' → GG X 6 P K I_3 O J0 0 0 3 [(0, .ref a0), (1, .ref a1), (2, .int x2), (3, .int x3), (4, .int x4_3)] []) (fun _ _ h => by cases h) (fun rec_3 hr_3 x4_3 I_3 h => ?_) N
    unfold B_Dr_takeOre_3 at h
    refine g_iload C dDr_takeOre_3 rfl ?_
    refine g_iconst (v := Int32.ofInt (5)) C dDr_takeOre_5 (by decide) ?_
    refine gt_icmp_ge 52 C dDr_takeOre_6 (by decide) rfl (ofI (by decide)) (fun c_6 => ?_) (fun c_6 => ?_)
    · have h := x_pos c_6 h
      exact x_vret1 C E dDr_takeOre_52 ⟨Nat.zero_le _, Nat.zero_le _⟩ h
    · have h := x_neg (Int.not_le.mpr c_6) h
      refine g_iload_n C dDr_takeOre_9 rfl ?_
      refine g_aload_n C dDr_takeOre_10 rfl ?_
      refine g_iload_n C dDr_takeOre_11 rfl ?_
      refine g_iload C dDr_takeOre_12 rfl ?_
      obtain ⟨z_14, e_14, h⟩ := bd1_some h
      refine x_callVi (av := fun ad => [.int x3, .int x4_3]) C dDr_takeOre_14 mfMl_tonsOf mvMl_tonsOf ln_Dr_98 h1 (by decide) rfl (f_Ml_tonsOf hT h1 e_14) rfl rfl (Nat.le_of_ble_eq_true rfl) ⟨Nat.le_of_ble_eq_true rfl, Nat.le_of_ble_eq_true rfl⟩ ⟨rfl, rfl⟩ ⟨Nat.zero_le _, Nat.zero_le _⟩ ?_
      refine g_imul C dDr_takeOre_17 ?_
      refine x_istore C dDr_takeOre_18 (by decide) h (fun v5_18 h => ?_)
      refine g_aload_n C dDr_takeOre_20 rfl ?_
      have t_21 := rf_ok hT h0 (show sp 0 0 = some 2 from rfl)
      refine x_getr C dDr_takeOre_21 fl_Dr_12 h0 hT (show sp 0 0 = some 2 from rfl) ?_
      have t_24 := rf_ok hT t_21 (show sp 2 0 = some 11 from rfl)
      refine x_getr C dDr_takeOre_24 fl_Dr_95 t_21 hT (show sp 2 0 = some 11 from rfl) ?_
      refine g_iload C dDr_takeOre_27 rfl ?_
      refine g_dup2 C dDr_takeOre_29 rfl rfl ?_
      obtain ⟨g_30, h⟩ := x_g h
      refine x_iald (m := 5) C dDr_takeOre_30 t_24 (by decide) rfl rfl g_30 ?_
      refine g_iload C dDr_takeOre_31 rfl ?_
      refine g_iadd C dDr_takeOre_33 ?_
      obtain ⟨g_34, h⟩ := x_g h
      refine x_iast (m := 5) C dDr_takeOre_34 t_24 (by decide) rfl rfl g_34 h (fun I2 h => ?_)
      refine g_aload_n C dDr_takeOre_35 rfl ?_
      refine g_dup C dDr_takeOre_36 rfl ?_
      refine g_geti C dDr_takeOre_37 fl_Dr_73 h0 ?_
      refine g_iload C dDr_takeOre_40 rfl ?_
      refine g_iadd C dDr_takeOre_42 ?_
      refine x_puti C dDr_takeOre_43 fl_Dr_73 h0 rfl (Or.inl rfl) h (fun I3 h => ?_)
      refine x_iinc C dDr_takeOre_46 rfl (by decide) h (fun v4_46 h => ?_)
      refine g_goto 3 C dDr_takeOre_49 (by decide) ?_
      exact g_sub (hr_3 (v4_46) I3 h) ⟨rfl, rfl, rfl, rfl, rfl, trivial⟩
  exact g_sub (lp_3 ((Int32.ofInt (0))) I0 h) ⟨rfl, rfl, rfl, rfl, rfl, trivial⟩
def F_Dr_standStill (N : Nat) (O : WO) (I0 : WI) (J0 : WJ) (a0 : Nat) : Option (WI) := bd2 (F_Ld_digOut N O I0 J0 (rf O a0 0)) fun z_9 I1 => lb (up2 I1 a0 13 ((I0 a0 13) + z_9)) fun I2 => bd1 (F_RM_wipe N O I2 J0 (rf O (rf O a0 0) 2) 11) fun I3 => lb (up2 I3 a0 8 (Int32.ofInt (0))) fun I4 => lb (up2 I4 a0 9 (Int32.ofInt (0))) fun I5 => some I5
set_option maxHeartbeats 4000000 in
set_option maxRecDepth 100000 in
theorem f_Dr_standStill {P : List Nat} {K : Nat → Nat} {N : Nat} {O : WO} {I0 : WI} {J0 : WJ} (hT : TR P K O) {a0 : Nat} (h0 : a0 ∈ P ∧ K a0 = 0) {I' : WI} (h : F_Dr_standStill N O I0 J0 a0 = some I') : Con yDr_standStill bDr_standStill 1 none ({ frames := 2, cells := 0, slots := 0, locals := 44 } : Room) P K I0 O J0 [.ref a0] (EPo none I' J0 P K O) := by
  refine Con.ofG mfDr_standStill (Nat.le_of_ble_eq_true rfl) ?_
  intro X C E
  unfold F_Dr_standStill at h
  refine g_aload_n C dDr_standStill_0 rfl ?_
  refine g_dup C dDr_standStill_1 rfl ?_
  refine g_geti C dDr_standStill_2 fl_Dr_64 h0 ?_
  refine g_aload_n C dDr_standStill_5 rfl ?_
  have t_6 := rf_ok hT h0 (show sp 0 0 = some 2 from rfl)
  refine x_getr C dDr_standStill_6 fl_Dr_12 h0 hT (show sp 0 0 = some 2 from rfl) ?_
  obtain ⟨z_9, I1, e_9, h⟩ := bd2_some h
  refine x_callVi (av := fun ad => []) C dDr_standStill_9 mfLd_digOut mvLd_digOut ln_Dr_156 t_6 (by decide) rfl (f_Ld_digOut hT t_6 e_9) rfl rfl (Nat.le_of_ble_eq_true rfl) ⟨Nat.le_of_ble_eq_true rfl, Nat.le_of_ble_eq_true rfl⟩ ⟨rfl, rfl⟩ ⟨Nat.zero_le _, Nat.zero_le _⟩ ?_
  refine g_iadd C dDr_standStill_12 ?_
  refine x_puti C dDr_standStill_13 fl_Dr_64 h0 rfl (Or.inl rfl) h (fun I2 h => ?_)
  refine g_aload_n C dDr_standStill_16 rfl ?_
  have t_17 := rf_ok hT h0 (show sp 0 0 = some 2 from rfl)
  refine x_getr C dDr_standStill_17 fl_Dr_12 h0 hT (show sp 0 0 = some 2 from rfl) ?_
  have t_20 := rf_ok hT t_17 (show sp 2 2 = some 11 from rfl)
  refine x_getr C dDr_standStill_20 fl_Dr_160 t_17 hT (show sp 2 2 = some 11 from rfl) ?_
  obtain ⟨I3, e_23, h⟩ := bd1_some h
  refine x_callSv (av := fun ad => [.ref (rf O (rf O a0 0) 2)]) C dDr_standStill_23 mfRM_wipe msRM_wipe ln_Dr_25 (f_RM_wipe hT t_20 ⟨by decide, rfl⟩ e_23) rfl rfl (Nat.le_of_ble_eq_true rfl) ⟨Nat.le_of_ble_eq_true rfl, Nat.le_of_ble_eq_true rfl⟩ ⟨rfl, rfl⟩ ⟨Nat.zero_le _, Nat.zero_le _⟩ ?_
  refine g_aload_n C dDr_standStill_26 rfl ?_
  refine g_iconst (v := Int32.ofInt (0)) C dDr_standStill_27 (by decide) ?_
  refine x_puti C dDr_standStill_28 fl_Dr_49 h0 rfl (Or.inl rfl) h (fun I4 h => ?_)
  refine g_aload_n C dDr_standStill_31 rfl ?_
  refine g_iconst (v := Int32.ofInt (0)) C dDr_standStill_32 (by decide) ?_
  refine x_puti C dDr_standStill_33 fl_Dr_52 h0 rfl (Or.inl rfl) h (fun I5 h => ?_)
  exact x_vret1 C E dDr_standStill_36 ⟨Nat.zero_le _, Nat.zero_le _⟩ h
def F_Dr_effectOf (N : Nat) (O : WO) (I0 : WI) (J0 : WJ) (a0 : Nat) (a1 : Nat) (x2 : Int32) : Option (Int32) := bd1 (F_RM_share N O I0 J0 (Int32.ofInt (100)) (I0 a0 7) (I0 a1 0)) fun z_10 => lb ((z_10 - (Int32.ofInt (50)))) fun v3_16 => lb (((Int32.ofInt (100)) - (abI v3_16))) fun v4_24 => lb ((mxI ((I0 a1 4) - (I0 a0 3)) ((I0 a1 4) / (Int32.ofInt (2))))) fun v5_44 => bd1 (F_RM_share N O I0 J0 v4_24 v5_44 (I0 a1 4)) fun z_54 => bd1 (F_Ml_hardOf N O I0 J0 a1 x2) fun z_67 => bd1 (F_RM_share N O I0 J0 z_54 (Int32.ofInt (10)) ((Int32.ofInt (9)) + z_67)) fun z_71 => some z_71
set_option maxHeartbeats 4000000 in
set_option maxRecDepth 100000 in
theorem f_Dr_effectOf {P : List Nat} {K : Nat → Nat} {N : Nat} {O : WO} {I0 : WI} {J0 : WJ} (hT : TR P K O) {a0 : Nat} (h0 : a0 ∈ P ∧ K a0 = 0) {a1 : Nat} (h1 : a1 ∈ P ∧ K a1 = 3) {x2 : Int32} {r : Int32} (h : F_Dr_effectOf N O I0 J0 a0 a1 x2 = some r) : Con yDr_effectOf bDr_effectOf 7 (some .int) ({ frames := 1, cells := 0, slots := 0, locals := 22 } : Room) P K I0 O J0 [.ref a0, .ref a1, .int x2] (EPo (some (.int r)) I0 J0 P K O) := by
  refine Con.ofG mfDr_effectOf (Nat.le_of_ble_eq_true rfl) ?_
  intro X C E
  unfold F_Dr_effectOf at h
  refine g_bipush (v := Int32.ofInt (100)) C dDr_effectOf_0 (by decide) ?_
  refine g_aload_n C dDr_effectOf_2 rfl ?_
  refine g_geti C dDr_effectOf_3 fl_Dr_46 h0 ?_
  refine g_aload_n C dDr_effectOf_6 rfl ?_
  refine g_geti C dDr_effectOf_7 fl_Dr_120 h1 ?_
  obtain ⟨z_10, e_10, h⟩ := bd1_some h
  refine x_callSi (av := fun ad => [.int (Int32.ofInt (100)), .int (I0 a0 7), .int (I0 a1 0)]) C dDr_effectOf_10 mfRM_share msRM_share ln_Dr_88 (f_RM_share hT  e_10) rfl rfl (Nat.le_of_ble_eq_true rfl) ⟨Nat.le_of_ble_eq_true rfl, Nat.le_of_ble_eq_true rfl⟩ ⟨rfl, rfl⟩ ⟨Nat.zero_le _, Nat.zero_le _⟩ ?_
  refine g_bipush (v := Int32.ofInt (50)) C dDr_effectOf_13 (by decide) ?_
  refine g_isub C dDr_effectOf_15 ?_
  refine x_istore_n (i := 3) C dDr_effectOf_16 rfl (by decide) h (fun v3_16 h => ?_)
  refine g_bipush (v := Int32.ofInt (100)) C dDr_effectOf_17 (by decide) ?_
  refine g_iload_n C dDr_effectOf_19 rfl ?_
  refine x_abs C dDr_effectOf_20 ml_Dr_163 (Nat.le_of_ble_eq_true rfl) ⟨Nat.le_of_ble_eq_true rfl, Nat.le_of_ble_eq_true rfl⟩ ⟨Nat.zero_le _, Nat.zero_le _⟩ ?_
  refine g_isub C dDr_effectOf_23 ?_
  refine x_istore C dDr_effectOf_24 (by decide) h (fun v4_24 h => ?_)
  refine g_aload_n C dDr_effectOf_26 rfl ?_
  refine g_geti C dDr_effectOf_27 fl_Dr_83 h1 ?_
  refine g_aload_n C dDr_effectOf_30 rfl ?_
  refine g_geti C dDr_effectOf_31 fl_Dr_33 h0 ?_
  refine g_isub C dDr_effectOf_34 ?_
  refine g_aload_n C dDr_effectOf_35 rfl ?_
  refine g_geti C dDr_effectOf_36 fl_Dr_83 h1 ?_
  refine g_iconst (v := Int32.ofInt (2)) C dDr_effectOf_39 (by decide) ?_
  refine x_idiv C dDr_effectOf_40 (by decide) ?_
  refine x_max C dDr_effectOf_41 ml_Dr_147 (Nat.le_of_ble_eq_true rfl) ⟨Nat.le_of_ble_eq_true rfl, Nat.le_of_ble_eq_true rfl⟩ ⟨Nat.zero_le _, Nat.zero_le _⟩ ?_
  refine x_istore C dDr_effectOf_44 (by decide) h (fun v5_44 h => ?_)
  refine g_iload C dDr_effectOf_46 rfl ?_
  refine g_iload C dDr_effectOf_48 rfl ?_
  refine g_aload_n C dDr_effectOf_50 rfl ?_
  refine g_geti C dDr_effectOf_51 fl_Dr_83 h1 ?_
  obtain ⟨z_54, e_54, h⟩ := bd1_some h
  refine x_callSi (av := fun ad => [.int v4_24, .int v5_44, .int (I0 a1 4)]) C dDr_effectOf_54 mfRM_share msRM_share ln_Dr_88 (f_RM_share hT  e_54) rfl rfl (Nat.le_of_ble_eq_true rfl) ⟨Nat.le_of_ble_eq_true rfl, Nat.le_of_ble_eq_true rfl⟩ ⟨rfl, rfl⟩ ⟨Nat.zero_le _, Nat.zero_le _⟩ ?_
  refine g_istore C dDr_effectOf_57 (by decide) ?_
  refine g_iload C dDr_effectOf_59 rfl ?_
  refine g_bipush (v := Int32.ofInt (10)) C dDr_effectOf_61 (by decide) ?_
  refine g_bipush (v := Int32.ofInt (9)) C dDr_effectOf_63 (by decide) ?_
  refine g_aload_n C dDr_effectOf_65 rfl ?_
  refine g_iload_n C dDr_effectOf_66 rfl ?_
  obtain ⟨z_67, e_67, h⟩ := bd1_some h
  refine x_callVi (av := fun ad => [.int x2]) C dDr_effectOf_67 mfMl_hardOf mvMl_hardOf ln_Dr_166 h1 (by decide) rfl (f_Ml_hardOf hT h1 e_67) rfl rfl (Nat.le_of_ble_eq_true rfl) ⟨Nat.le_of_ble_eq_true rfl, Nat.le_of_ble_eq_true rfl⟩ ⟨rfl, rfl⟩ ⟨Nat.zero_le _, Nat.zero_le _⟩ ?_
  refine g_iadd C dDr_effectOf_70 ?_
  obtain ⟨z_71, e_71, h⟩ := bd1_some h
  refine x_callSi (av := fun ad => [.int z_54, .int (Int32.ofInt (10)), .int ((Int32.ofInt (9)) + z_67)]) C dDr_effectOf_71 mfRM_share msRM_share ln_Dr_88 (f_RM_share hT  e_71) rfl rfl (Nat.le_of_ble_eq_true rfl) ⟨Nat.le_of_ble_eq_true rfl, Nat.le_of_ble_eq_true rfl⟩ ⟨rfl, rfl⟩ ⟨Nat.zero_le _, Nat.zero_le _⟩ ?_
  exact x_iret0 C E dDr_effectOf_74 ⟨Nat.zero_le _, Nat.zero_le _⟩ h
def B_Dr_fillBin_2 (N : Nat) (O : WO) (a0 : Nat) (a1 : Nat) (rec_2 : Int32 → WI → Option (WI)) (x2_2 : Int32) (I_2 : WI) : Option (WI) := if 5 ≤ (x2_2).toInt then (if ((I_2 a0 2)).toInt ≤ ((I_2 a1 5)).toInt then (some I_2) else (lb (up2 I_2 a0 13 ((I_2 a0 13) + ((I_2 a0 2) - (I_2 a1 5)))) fun I1 => lb (up2 I1 a0 2 (I1 a1 5)) fun I2 => some I2)) else (if 0 ≤ (x2_2).toInt ∧ (x2_2).toInt < 5 then (lb (up2 I_2 a0 2 ((I_2 a0 2) + (I_2 (rf O (rf O a0 0) 2) (x2_2).toInt.toNat))) fun I3 => if 0 ≤ (x2_2).toInt ∧ (x2_2).toInt < 5 then (if 0 ≤ (x2_2).toInt ∧ (x2_2).toInt < 5 then (if 0 ≤ (x2_2).toInt ∧ (x2_2).toInt < 5 then (lb (up2 I3 (rf O a0 1) (x2_2).toInt.toNat ((I3 (rf O a0 1) (x2_2).toInt.toNat) + (I3 (rf O (rf O a0 0) 2) (x2_2).toInt.toNat))) fun I4 => lb (x2_2 + Int32.ofInt (1)) fun v2_43 => rec_2 (v2_43) I4) else none) else none) else none) else none)
def F_Dr_fillBin (N : Nat) (O : WO) (I0 : WI) (J0 : WJ) (a0 : Nat) (a1 : Nat) : Option (WI) := lp (B_Dr_fillBin_2 N O a0 a1) (fun _ _ => none) N ((Int32.ofInt (0))) I0
set_option maxHeartbeats 4000000 in
set_option maxRecDepth 100000 in
theorem f_Dr_fillBin {P : List Nat} {K : Nat → Nat} {N : Nat} {O : WO} {I0 : WI} {J0 : WJ} (hT : TR P K O) {a0 : Nat} (h0 : a0 ∈ P ∧ K a0 = 0) {a1 : Nat} (h1 : a1 ∈ P ∧ K a1 = 3) {I' : WI} (h : F_Dr_fillBin N O I0 J0 a0 a1 = some I') : Con yDr_fillBin bDr_fillBin 3 none ({ frames := 0, cells := 0, slots := 0, locals := 0 } : Room) P K I0 O J0 [.ref a0, .ref a1] (EPo none I' J0 P K O) := by
  refine Con.ofG mfDr_fillBin (Nat.le_of_ble_eq_true rfl) ?_
  intro X C E
  unfold F_Dr_fillBin at h
  refine g_iconst (v := Int32.ofInt (0)) C dDr_fillBin_0 (by decide) ?_
  refine g_istore_n (i := 2) C dDr_fillBin_1 rfl (by decide) ?_
  have lp_2 : ∀ (x2_2 : Int32) (I_2 : WI), lp (B_Dr_fillBin_2 N O a0 a1) (fun _ _ => none) N x2_2 I_2 = some I' → GG X 3 P K I_2 O J0 0 0 2 [(0, .ref a0), (1, .ref a1), (2, .int x2_2)] [] := by
    refine x_lp (fun (rec_2 : Int32 → WI → Option (WI)) => ∀ (x2_2 : Int32) (I_2 : WI), rec_2 x2_2 I_2 = some I' → GG X 3 P K I_2 O J0 0 0 2 [(0, .ref a0), (1, .ref a1), (2, .int x2_2)] []) (fun _ _ h => by cases h) (fun rec_2 hr_2 x2_2 I_2 h => ?_) N
    unfold B_Dr_fillBin_2 at h
    refine g_iload_n C dDr_fillBin_2 rfl ?_
    refine g_iconst (v := Int32.ofInt (5)) C dDr_fillBin_3 (by decide) ?_
    refine gt_icmp_ge 49 C dDr_fillBin_4 (by decide) rfl (ofI (by decide)) (fun c_4 => ?_) (fun c_4 => ?_)
    · have h := x_pos c_4 h
      refine g_aload_n C dDr_fillBin_49 rfl ?_
      refine g_geti C dDr_fillBin_50 fl_Dr_29 h0 ?_
      refine g_aload_n C dDr_fillBin_53 rfl ?_
      refine g_geti C dDr_fillBin_54 fl_Dr_92 h1 ?_
      refine gt_icmp_le 86 C dDr_fillBin_57 (by decide) rfl rfl (fun c_57 => ?_) (fun c_57 => ?_)
      · have h := x_pos c_57 h
        exact x_vret1 C E dDr_fillBin_86 ⟨Nat.zero_le _, Nat.zero_le _⟩ h
      · have h := x_neg (Int.not_le.mpr c_57) h
        refine g_aload_n C dDr_fillBin_60 rfl ?_
        refine g_dup C dDr_fillBin_61 rfl ?_
        refine g_geti C dDr_fillBin_62 fl_Dr_64 h0 ?_
        refine g_aload_n C dDr_fillBin_65 rfl ?_
        refine g_geti C dDr_fillBin_66 fl_Dr_29 h0 ?_
        refine g_aload_n C dDr_fillBin_69 rfl ?_
        refine g_geti C dDr_fillBin_70 fl_Dr_92 h1 ?_
        refine g_isub C dDr_fillBin_73 ?_
        refine g_iadd C dDr_fillBin_74 ?_
        refine x_puti C dDr_fillBin_75 fl_Dr_64 h0 rfl (Or.inl rfl) h (fun I1 h => ?_)
        refine g_aload_n C dDr_fillBin_78 rfl ?_
        refine g_aload_n C dDr_fillBin_79 rfl ?_
        refine g_geti C dDr_fillBin_80 fl_Dr_92 h1 ?_
        refine x_puti C dDr_fillBin_83 fl_Dr_29 h0 rfl (Or.inl rfl) h (fun I2 h => ?_)
        exact x_vret1 C E dDr_fillBin_86 ⟨Nat.zero_le _, Nat.zero_le _⟩ h
    · have h := x_neg (Int.not_le.mpr c_4) h
      refine g_aload_n C dDr_fillBin_7 rfl ?_
      refine g_dup C dDr_fillBin_8 rfl ?_
      refine g_geti C dDr_fillBin_9 fl_Dr_29 h0 ?_
      refine g_aload_n C dDr_fillBin_12 rfl ?_
      have t_13 := rf_ok hT h0 (show sp 0 0 = some 2 from rfl)
      refine x_getr C dDr_fillBin_13 fl_Dr_12 h0 hT (show sp 0 0 = some 2 from rfl) ?_
      have t_16 := rf_ok hT t_13 (show sp 2 2 = some 11 from rfl)
      refine x_getr C dDr_fillBin_16 fl_Dr_160 t_13 hT (show sp 2 2 = some 11 from rfl) ?_
      refine g_iload_n C dDr_fillBin_19 rfl ?_
      obtain ⟨g_20, h⟩ := x_g h
      refine x_iald (m := 5) C dDr_fillBin_20 t_16 (by decide) rfl rfl g_20 ?_
      refine g_iadd C dDr_fillBin_21 ?_
      refine x_puti C dDr_fillBin_22 fl_Dr_29 h0 rfl (Or.inl rfl) h (fun I3 h => ?_)
      refine g_aload_n C dDr_fillBin_25 rfl ?_
      have t_26 := rf_ok hT h0 (show sp 0 1 = some 11 from rfl)
      refine x_getr C dDr_fillBin_26 fl_Dr_18 h0 hT (show sp 0 1 = some 11 from rfl) ?_
      refine g_iload_n C dDr_fillBin_29 rfl ?_
      refine g_dup2 C dDr_fillBin_30 rfl rfl ?_
      obtain ⟨g_31, h⟩ := x_g h
      refine x_iald (m := 5) C dDr_fillBin_31 t_26 (by decide) rfl rfl g_31 ?_
      refine g_aload_n C dDr_fillBin_32 rfl ?_
      have t_33 := rf_ok hT h0 (show sp 0 0 = some 2 from rfl)
      refine x_getr C dDr_fillBin_33 fl_Dr_12 h0 hT (show sp 0 0 = some 2 from rfl) ?_
      have t_36 := rf_ok hT t_33 (show sp 2 2 = some 11 from rfl)
      refine x_getr C dDr_fillBin_36 fl_Dr_160 t_33 hT (show sp 2 2 = some 11 from rfl) ?_
      refine g_iload_n C dDr_fillBin_39 rfl ?_
      obtain ⟨g_40, h⟩ := x_g h
      refine x_iald (m := 5) C dDr_fillBin_40 t_36 (by decide) rfl rfl g_40 ?_
      refine g_iadd C dDr_fillBin_41 ?_
      obtain ⟨g_42, h⟩ := x_g h
      refine x_iast (m := 5) C dDr_fillBin_42 t_26 (by decide) rfl rfl g_42 h (fun I4 h => ?_)
      refine x_iinc C dDr_fillBin_43 rfl (by decide) h (fun v2_43 h => ?_)
      refine g_goto 2 C dDr_fillBin_46 (by decide) ?_
      exact g_sub (hr_2 (v2_43) I4 h) ⟨rfl, rfl, rfl, trivial⟩
  exact g_sub (lp_2 ((Int32.ofInt (0))) I0 h) ⟨rfl, rfl, rfl, trivial⟩
def F_Dr_drawFromBin (N : Nat) (O : WO) (I0 : WI) (J0 : WJ) (a0 : Nat) (a1 : Nat) : Option (WI) := lb ((mnI (I0 a0 2) (I0 a1 6))) fun v2_11 => lb (up2 I0 a0 2 ((I0 a0 2) - v2_11)) fun I1 => lb (up2 I1 a0 14 ((I1 a0 14) + v2_11)) fun I2 => lb (up2 I2 a0 11 ((I2 a1 6) - v2_11)) fun I3 => lb (up2 I3 a0 12 ((I3 a0 12) + (I3 a0 11))) fun I4 => some I4
set_option maxHeartbeats 4000000 in
set_option maxRecDepth 100000 in
theorem f_Dr_drawFromBin {P : List Nat} {K : Nat → Nat} {N : Nat} {O : WO} {I0 : WI} {J0 : WJ} (hT : TR P K O) {a0 : Nat} (h0 : a0 ∈ P ∧ K a0 = 0) {a1 : Nat} (h1 : a1 ∈ P ∧ K a1 = 3) {I' : WI} (h : F_Dr_drawFromBin N O I0 J0 a0 a1 = some I') : Con yDr_drawFromBin bDr_drawFromBin 3 none ({ frames := 1, cells := 0, slots := 0, locals := 21 } : Room) P K I0 O J0 [.ref a0, .ref a1] (EPo none I' J0 P K O) := by
  refine Con.ofG mfDr_drawFromBin (Nat.le_of_ble_eq_true rfl) ?_
  intro X C E
  unfold F_Dr_drawFromBin at h
  refine g_aload_n C dDr_drawFromBin_0 rfl ?_
  refine g_geti C dDr_drawFromBin_1 fl_Dr_29 h0 ?_
  refine g_aload_n C dDr_drawFromBin_4 rfl ?_
  refine g_geti C dDr_drawFromBin_5 fl_Dr_169 h1 ?_
  refine x_min C dDr_drawFromBin_8 ml_Dr_172 (Nat.le_of_ble_eq_true rfl) ⟨Nat.le_of_ble_eq_true rfl, Nat.le_of_ble_eq_true rfl⟩ ⟨Nat.zero_le _, Nat.zero_le _⟩ ?_
  refine x_istore_n (i := 2) C dDr_drawFromBin_11 rfl (by decide) h (fun v2_11 h => ?_)
  refine g_aload_n C dDr_drawFromBin_12 rfl ?_
  refine g_dup C dDr_drawFromBin_13 rfl ?_
  refine g_geti C dDr_drawFromBin_14 fl_Dr_29 h0 ?_
  refine g_iload_n C dDr_drawFromBin_17 rfl ?_
  refine g_isub C dDr_drawFromBin_18 ?_
  refine x_puti C dDr_drawFromBin_19 fl_Dr_29 h0 rfl (Or.inl rfl) h (fun I1 h => ?_)
  refine g_aload_n C dDr_drawFromBin_22 rfl ?_
  refine g_dup C dDr_drawFromBin_23 rfl ?_
  refine g_geti C dDr_drawFromBin_24 fl_Dr_67 h0 ?_
  refine g_iload_n C dDr_drawFromBin_27 rfl ?_
  refine g_iadd C dDr_drawFromBin_28 ?_
  refine x_puti C dDr_drawFromBin_29 fl_Dr_67 h0 rfl (Or.inl rfl) h (fun I2 h => ?_)
  refine g_aload_n C dDr_drawFromBin_32 rfl ?_
  refine g_aload_n C dDr_drawFromBin_33 rfl ?_
  refine g_geti C dDr_drawFromBin_34 fl_Dr_169 h1 ?_
  refine g_iload_n C dDr_drawFromBin_37 rfl ?_
  refine g_isub C dDr_drawFromBin_38 ?_
  refine x_puti C dDr_drawFromBin_39 fl_Dr_58 h0 rfl (Or.inl rfl) h (fun I3 h => ?_)
  refine g_aload_n C dDr_drawFromBin_42 rfl ?_
  refine g_dup C dDr_drawFromBin_43 rfl ?_
  refine g_geti C dDr_drawFromBin_44 fl_Dr_61 h0 ?_
  refine g_aload_n C dDr_drawFromBin_47 rfl ?_
  refine g_geti C dDr_drawFromBin_48 fl_Dr_58 h0 ?_
  refine g_iadd C dDr_drawFromBin_51 ?_
  refine x_puti C dDr_drawFromBin_52 fl_Dr_61 h0 rfl (Or.inl rfl) h (fun I4 h => ?_)
  exact x_vret1 C E dDr_drawFromBin_55 ⟨Nat.zero_le _, Nat.zero_le _⟩ h
def F_Dr_runHour (N : Nat) (O : WO) (I0 : WI) (J0 : WJ) (a0 : Nat) (a1 : Nat) (a2 κ2 : Nat) (x3 : Int32) : Option (WI) := if (x3).toInt < 0 then (some I0) else (if ((x3 + (Int32.ofInt (3)))).toInt ≤ ((Int32.ofNat (alen κ2))).toInt then (jn (fun (IJ_35 : WI) => bd1 (F_Ld_takeBack N O IJ_35 J0 (rf O a0 0)) fun I1 => bd1 (F_RM_sumOf N O I1 J0 (rf O (rf O a0 0) 0)) fun z_50 => lb (up2 I1 a0 7 z_50) fun I3 => jn (fun (s0_73 : Int32) => if (s0_73).toInt = 0 ∨ (s0_73).toInt = 1 then (lb (up2 I3 a0 5 s0_73) fun I4 => jn (fun (IJ_150 : WI) => bd1 (F_Dr_fillBin N O IJ_150 J0 a0 a1) fun I5 => bd1 (F_Dr_drawFromBin N O I5 J0 a0 a1) fun I6 => bd1 (F_RM_share N O I6 J0 (I6 a1 1) (I6 a0 7) (I6 a1 0)) fun z_177 => lb (up2 I6 a0 10 (mxI ((I6 a1 1) - z_177) (Int32.ofInt (0)))) fun I8 => bd1 (F_Ml_priceAt N O I8 J0 a1 (I8 a0 6)) fun z_202 => lb (up2 I8 a0 15 ((I8 a0 15) + ((I8 a0 9) * z_202))) fun I10 => lb (up2 I10 a0 3 ((I10 a0 3) + (Int32.ofInt (1)))) fun I11 => lb (up2 I11 a0 6 ((I11 a0 6) + (Int32.ofInt (1)))) fun I12 => some I12) fun k_150 => if ((I4 a0 5)).toInt = 0 then (if 0 ≤ ((x3 + (Int32.ofInt (2)))).toInt ∧ ((x3 + (Int32.ofInt (2)))).toInt < ((alen κ2 : Nat) : Int) then (bd1 (F_Dr_effectOf N O I4 J0 a0 a1 (I4 a2 ((x3 + (Int32.ofInt (2)))).toInt.toNat)) fun z_98 => lb (up2 I4 a0 8 z_98) fun I14 => bd1 (F_RM_share N O I14 J0 (I14 a0 7) (I14 a0 8) (Int32.ofInt (100))) fun z_115 => lb (up2 I14 a0 9 z_115) fun I16 => bd1 (F_Ld_breakUp N O I16 J0 (rf O a0 0) a1 (I16 a0 8)) fun I17 => if 0 ≤ ((x3 + (Int32.ofInt (1)))).toInt ∧ ((x3 + (Int32.ofInt (1)))).toInt < ((alen κ2 : Nat) : Int) then (bd1 (F_Ld_sift N O I17 J0 (rf O a0 0) a1 (I17 a2 ((x3 + (Int32.ofInt (1)))).toInt.toNat) (I17 a0 4)) fun I18 => k_150  I18) else none) else none) else (bd1 (F_Dr_standStill N O I4 J0 a0) fun I19 => k_150  I19)) else none) fun k_73 => if ((I3 a0 7)).toInt ≤ ((I3 a1 0)).toInt then (k_73 ((Int32.ofInt (0)))) else (k_73 ((Int32.ofInt (1))))) fun k_35 => if ((I0 a0 5)).toInt = 0 then (if 0 ≤ ((x3 + (Int32.ofInt (0)))).toInt ∧ ((x3 + (Int32.ofInt (0)))).toInt < ((alen κ2 : Nat) : Int) then (if 0 ≤ ((x3 + (Int32.ofInt (2)))).toInt ∧ ((x3 + (Int32.ofInt (2)))).toInt < ((alen κ2 : Nat) : Int) then (bd1 (F_Dr_takeOre N O I0 J0 a0 a1 (I0 a2 ((x3 + (Int32.ofInt (0)))).toInt.toNat) (I0 a2 ((x3 + (Int32.ofInt (2)))).toInt.toNat)) fun I20 => k_35  I20) else none) else none) else (k_35  I0)) else (some I0))
set_option maxHeartbeats 4000000 in
set_option maxRecDepth 100000 in
theorem f_Dr_runHour {P : List Nat} {K : Nat → Nat} {N : Nat} {O : WO} {I0 : WI} {J0 : WJ} (hT : TR P K O) {a0 : Nat} (h0 : a0 ∈ P ∧ K a0 = 0) {a1 : Nat} (h1 : a1 ∈ P ∧ K a1 = 3) {a2 κ2 : Nat} (h2 : a2 ∈ P ∧ K a2 = κ2) (p2 : ¬ κ2 < 11 ∧ aty κ2 = 1) {x3 : Int32} {I' : WI} (h : F_Dr_runHour N O I0 J0 a0 a1 a2 κ2 x3 = some I') : Con yDr_runHour bDr_runHour 4 none ({ frames := 3, cells := 0, slots := 0, locals := 64 } : Room) P K I0 O J0 [.ref a0, .ref a1, .ref a2, .int x3] (EPo none I' J0 P K O) := by
  refine Con.ofG mfDr_runHour (Nat.le_of_ble_eq_true rfl) ?_
  intro X C E
  unfold F_Dr_runHour at h
  refine g_iload_n C dDr_runHour_0 rfl ?_
  refine gt_if_lt 12 C dDr_runHour_1 (by decide) rfl (fun c_1 => ?_) (fun c_1 => ?_)
  · have h := x_pos c_1 h
    exact x_vret1 C E dDr_runHour_12 ⟨Nat.zero_le _, Nat.zero_le _⟩ h
  · have h := x_neg (Int.not_lt.mpr c_1) h
    refine g_iload_n C dDr_runHour_4 rfl ?_
    refine g_iconst (v := Int32.ofInt (3)) C dDr_runHour_5 (by decide) ?_
    refine g_iadd C dDr_runHour_6 ?_
    refine g_aload_n C dDr_runHour_7 rfl ?_
    refine x_alen C dDr_runHour_8 h2 p2.1 (by rw [p2.2]; decide) ?_
    refine gt_icmp_le 13 C dDr_runHour_9 (by decide) rfl rfl (fun c_9 => ?_) (fun c_9 => ?_)
    · have h := x_pos c_9 h
      refine g_aload_n C dDr_runHour_13 rfl ?_
      refine g_geti C dDr_runHour_14 fl_Dr_39 h0 ?_
      refine x_jn h (fun (k_35 : WI → Option (WI)) => ∀ (IJ_35 : WI), k_35 IJ_35 = some I' → GG X 4 P K IJ_35 O J0 0 0 35 [(0, .ref a0), (1, .ref a1), (2, .ref a2), (3, .int x3)] []) (fun IJ_35 h => ?_) (fun k_35 hk_35 h => ?_)
      · skip
        refine g_aload_n C dDr_runHour_35 rfl ?_
        have t_36 := rf_ok hT h0 (show sp 0 0 = some 2 from rfl)
        refine x_getr C dDr_runHour_36 fl_Dr_12 h0 hT (show sp 0 0 = some 2 from rfl) ?_
        obtain ⟨I1, e_39, h⟩ := bd1_some h
        refine x_callVv (av := fun ad => []) C dDr_runHour_39 mfLd_takeBack mvLd_takeBack ln_Dr_113 t_36 (by decide) rfl (f_Ld_takeBack hT t_36 e_39) rfl rfl (Nat.le_of_ble_eq_true rfl) ⟨Nat.le_of_ble_eq_true rfl, Nat.le_of_ble_eq_true rfl⟩ ⟨rfl, rfl⟩ ⟨Nat.zero_le _, Nat.zero_le _⟩ ?_
        refine g_aload_n C dDr_runHour_42 rfl ?_
        refine g_aload_n C dDr_runHour_43 rfl ?_
        have t_44 := rf_ok hT h0 (show sp 0 0 = some 2 from rfl)
        refine x_getr C dDr_runHour_44 fl_Dr_12 h0 hT (show sp 0 0 = some 2 from rfl) ?_
        have t_47 := rf_ok hT t_44 (show sp 2 0 = some 11 from rfl)
        refine x_getr C dDr_runHour_47 fl_Dr_95 t_44 hT (show sp 2 0 = some 11 from rfl) ?_
        obtain ⟨z_50, e_50, h⟩ := bd1_some h
        refine x_callSi (av := fun ad => [.ref (rf O (rf O a0 0) 0)]) C dDr_runHour_50 mfRM_sumOf msRM_sumOf ln_Dr_116 (f_RM_sumOf hT t_47 e_50) rfl rfl (Nat.le_of_ble_eq_true rfl) ⟨Nat.le_of_ble_eq_true rfl, Nat.le_of_ble_eq_true rfl⟩ ⟨rfl, rfl⟩ ⟨Nat.zero_le _, Nat.zero_le _⟩ ?_
        refine x_puti C dDr_runHour_53 fl_Dr_46 h0 rfl (Or.inl rfl) h (fun I3 h => ?_)
        refine g_aload_n C dDr_runHour_56 rfl ?_
        refine g_aload_n C dDr_runHour_57 rfl ?_
        refine g_geti C dDr_runHour_58 fl_Dr_46 h0 ?_
        refine g_aload_n C dDr_runHour_61 rfl ?_
        refine g_geti C dDr_runHour_62 fl_Dr_120 h1 ?_
        refine x_jn h (fun (k_73 : Int32 → Option (WI)) => ∀ (s0_73 : Int32), k_73 s0_73 = some I' → GG X 4 P K I3 O J0 0 0 73 [(0, .ref a0), (1, .ref a1), (2, .ref a2), (3, .int x3)] [.int s0_73, .ref a0]) (fun s0_73 h => ?_) (fun k_73 hk_73 h => ?_)
        · skip
          obtain ⟨g_73, h⟩ := x_g h
          refine x_puti C dDr_runHour_73 fl_Dr_39 h0 rfl (Or.inr ⟨rfl, x_01 g_73⟩) h (fun I4 h => ?_)
          refine g_aload_n C dDr_runHour_76 rfl ?_
          refine g_geti C dDr_runHour_77 fl_Dr_39 h0 ?_
          refine x_jn h (fun (k_150 : WI → Option (WI)) => ∀ (IJ_150 : WI), k_150 IJ_150 = some I' → GG X 4 P K IJ_150 O J0 0 0 150 [(0, .ref a0), (1, .ref a1), (2, .ref a2), (3, .int x3)] []) (fun IJ_150 h => ?_) (fun k_150 hk_150 h => ?_)
          · skip
            refine g_aload_n C dDr_runHour_150 rfl ?_
            refine g_aload_n C dDr_runHour_151 rfl ?_
            obtain ⟨I5, e_152, h⟩ := bd1_some h
            refine x_callVv (av := fun ad => [.ref a1]) C dDr_runHour_152 mfDr_fillBin mvDr_fillBin ln_Dr_137 h0 (by decide) rfl (f_Dr_fillBin hT h0 h1 e_152) rfl rfl (Nat.le_of_ble_eq_true rfl) ⟨Nat.le_of_ble_eq_true rfl, Nat.le_of_ble_eq_true rfl⟩ ⟨rfl, rfl⟩ ⟨Nat.zero_le _, Nat.zero_le _⟩ ?_
            refine g_aload_n C dDr_runHour_155 rfl ?_
            refine g_aload_n C dDr_runHour_156 rfl ?_
            obtain ⟨I6, e_157, h⟩ := bd1_some h
            refine x_callVv (av := fun ad => [.ref a1]) C dDr_runHour_157 mfDr_drawFromBin mvDr_drawFromBin ln_Dr_141 h0 (by decide) rfl (f_Dr_drawFromBin hT h0 h1 e_157) rfl rfl (Nat.le_of_ble_eq_true rfl) ⟨Nat.le_of_ble_eq_true rfl, Nat.le_of_ble_eq_true rfl⟩ ⟨rfl, rfl⟩ ⟨Nat.zero_le _, Nat.zero_le _⟩ ?_
            refine g_aload_n C dDr_runHour_160 rfl ?_
            refine g_aload_n C dDr_runHour_161 rfl ?_
            refine g_geti C dDr_runHour_162 fl_Dr_144 h1 ?_
            refine g_aload_n C dDr_runHour_165 rfl ?_
            refine g_geti C dDr_runHour_166 fl_Dr_144 h1 ?_
            refine g_aload_n C dDr_runHour_169 rfl ?_
            refine g_geti C dDr_runHour_170 fl_Dr_46 h0 ?_
            refine g_aload_n C dDr_runHour_173 rfl ?_
            refine g_geti C dDr_runHour_174 fl_Dr_120 h1 ?_
            obtain ⟨z_177, e_177, h⟩ := bd1_some h
            refine x_callSi (av := fun ad => [.int (I6 a1 1), .int (I6 a0 7), .int (I6 a1 0)]) C dDr_runHour_177 mfRM_share msRM_share ln_Dr_88 (f_RM_share hT  e_177) rfl rfl (Nat.le_of_ble_eq_true rfl) ⟨Nat.le_of_ble_eq_true rfl, Nat.le_of_ble_eq_true rfl⟩ ⟨rfl, rfl⟩ ⟨Nat.zero_le _, Nat.zero_le _⟩ ?_
            refine g_isub C dDr_runHour_180 ?_
            refine g_iconst (v := Int32.ofInt (0)) C dDr_runHour_181 (by decide) ?_
            refine x_max C dDr_runHour_182 ml_Dr_147 (Nat.le_of_ble_eq_true rfl) ⟨Nat.le_of_ble_eq_true rfl, Nat.le_of_ble_eq_true rfl⟩ ⟨Nat.zero_le _, Nat.zero_le _⟩ ?_
            refine x_puti C dDr_runHour_185 fl_Dr_55 h0 rfl (Or.inl rfl) h (fun I8 h => ?_)
            refine g_aload_n C dDr_runHour_188 rfl ?_
            refine g_dup C dDr_runHour_189 rfl ?_
            refine g_geti C dDr_runHour_190 fl_Dr_70 h0 ?_
            refine g_aload_n C dDr_runHour_193 rfl ?_
            refine g_geti C dDr_runHour_194 fl_Dr_52 h0 ?_
            refine g_aload_n C dDr_runHour_197 rfl ?_
            refine g_aload_n C dDr_runHour_198 rfl ?_
            refine g_geti C dDr_runHour_199 fl_Dr_43 h0 ?_
            obtain ⟨z_202, e_202, h⟩ := bd1_some h
            refine x_callVi (av := fun ad => [.int (I8 a0 6)]) C dDr_runHour_202 mfMl_priceAt mvMl_priceAt ln_Dr_152 h1 (by decide) rfl (f_Ml_priceAt hT h1 e_202) rfl rfl (Nat.le_of_ble_eq_true rfl) ⟨Nat.le_of_ble_eq_true rfl, Nat.le_of_ble_eq_true rfl⟩ ⟨rfl, rfl⟩ ⟨Nat.zero_le _, Nat.zero_le _⟩ ?_
            refine g_imul C dDr_runHour_205 ?_
            refine g_iadd C dDr_runHour_206 ?_
            refine x_puti C dDr_runHour_207 fl_Dr_70 h0 rfl (Or.inl rfl) h (fun I10 h => ?_)
            refine g_aload_n C dDr_runHour_210 rfl ?_
            refine g_dup C dDr_runHour_211 rfl ?_
            refine g_geti C dDr_runHour_212 fl_Dr_33 h0 ?_
            refine g_iconst (v := Int32.ofInt (1)) C dDr_runHour_215 (by decide) ?_
            refine g_iadd C dDr_runHour_216 ?_
            refine x_puti C dDr_runHour_217 fl_Dr_33 h0 rfl (Or.inl rfl) h (fun I11 h => ?_)
            refine g_aload_n C dDr_runHour_220 rfl ?_
            refine g_dup C dDr_runHour_221 rfl ?_
            refine g_geti C dDr_runHour_222 fl_Dr_43 h0 ?_
            refine g_iconst (v := Int32.ofInt (1)) C dDr_runHour_225 (by decide) ?_
            refine g_iadd C dDr_runHour_226 ?_
            refine x_puti C dDr_runHour_227 fl_Dr_43 h0 rfl (Or.inl rfl) h (fun I12 h => ?_)
            exact x_vret1 C E dDr_runHour_230 ⟨Nat.zero_le _, Nat.zero_le _⟩ h
          refine gt_if_eq 90 C dDr_runHour_80 (by decide) rfl (fun c_80 => ?_) (fun c_80 => ?_)
          · have h := x_pos c_80 h
            refine g_aload_n C dDr_runHour_90 rfl ?_
            refine g_aload_n C dDr_runHour_91 rfl ?_
            refine g_aload_n C dDr_runHour_92 rfl ?_
            refine g_aload_n C dDr_runHour_93 rfl ?_
            refine g_iload_n C dDr_runHour_94 rfl ?_
            refine g_iconst (v := Int32.ofInt (2)) C dDr_runHour_95 (by decide) ?_
            refine g_iadd C dDr_runHour_96 ?_
            obtain ⟨g_97, h⟩ := x_g h
            refine x_iald (m := (alen κ2)) C dDr_runHour_97 h2 p2.1 p2.2 rfl g_97 ?_
            obtain ⟨z_98, e_98, h⟩ := bd1_some h
            refine x_callVi (av := fun ad => [.ref a1, .int (I4 a2 ((x3 + (Int32.ofInt (2)))).toInt.toNat)]) C dDr_runHour_98 mfDr_effectOf mvDr_effectOf ln_Dr_126 h0 (by decide) rfl (f_Dr_effectOf hT h0 h1 e_98) rfl rfl (Nat.le_of_ble_eq_true rfl) ⟨Nat.le_of_ble_eq_true rfl, Nat.le_of_ble_eq_true rfl⟩ ⟨rfl, rfl⟩ ⟨Nat.zero_le _, Nat.zero_le _⟩ ?_
            refine x_puti C dDr_runHour_101 fl_Dr_49 h0 rfl (Or.inl rfl) h (fun I14 h => ?_)
            refine g_aload_n C dDr_runHour_104 rfl ?_
            refine g_aload_n C dDr_runHour_105 rfl ?_
            refine g_geti C dDr_runHour_106 fl_Dr_46 h0 ?_
            refine g_aload_n C dDr_runHour_109 rfl ?_
            refine g_geti C dDr_runHour_110 fl_Dr_49 h0 ?_
            refine g_bipush (v := Int32.ofInt (100)) C dDr_runHour_113 (by decide) ?_
            obtain ⟨z_115, e_115, h⟩ := bd1_some h
            refine x_callSi (av := fun ad => [.int (I14 a0 7), .int (I14 a0 8), .int (Int32.ofInt (100))]) C dDr_runHour_115 mfRM_share msRM_share ln_Dr_88 (f_RM_share hT  e_115) rfl rfl (Nat.le_of_ble_eq_true rfl) ⟨Nat.le_of_ble_eq_true rfl, Nat.le_of_ble_eq_true rfl⟩ ⟨rfl, rfl⟩ ⟨Nat.zero_le _, Nat.zero_le _⟩ ?_
            refine x_puti C dDr_runHour_118 fl_Dr_52 h0 rfl (Or.inl rfl) h (fun I16 h => ?_)
            refine g_aload_n C dDr_runHour_121 rfl ?_
            have t_122 := rf_ok hT h0 (show sp 0 0 = some 2 from rfl)
            refine x_getr C dDr_runHour_122 fl_Dr_12 h0 hT (show sp 0 0 = some 2 from rfl) ?_
            refine g_aload_n C dDr_runHour_125 rfl ?_
            refine g_aload_n C dDr_runHour_126 rfl ?_
            refine g_geti C dDr_runHour_127 fl_Dr_49 h0 ?_
            obtain ⟨I17, e_130, h⟩ := bd1_some h
            refine x_callVv (av := fun ad => [.ref a1, .int (I16 a0 8)]) C dDr_runHour_130 mfLd_breakUp mvLd_breakUp ln_Dr_130 t_122 (by decide) rfl (f_Ld_breakUp hT t_122 h1 e_130) rfl rfl (Nat.le_of_ble_eq_true rfl) ⟨Nat.le_of_ble_eq_true rfl, Nat.le_of_ble_eq_true rfl⟩ ⟨rfl, rfl⟩ ⟨Nat.zero_le _, Nat.zero_le _⟩ ?_
            refine g_aload_n C dDr_runHour_133 rfl ?_
            have t_134 := rf_ok hT h0 (show sp 0 0 = some 2 from rfl)
            refine x_getr C dDr_runHour_134 fl_Dr_12 h0 hT (show sp 0 0 = some 2 from rfl) ?_
            refine g_aload_n C dDr_runHour_137 rfl ?_
            refine g_aload_n C dDr_runHour_138 rfl ?_
            refine g_iload_n C dDr_runHour_139 rfl ?_
            refine g_iconst (v := Int32.ofInt (1)) C dDr_runHour_140 (by decide) ?_
            refine g_iadd C dDr_runHour_141 ?_
            obtain ⟨g_142, h⟩ := x_g h
            refine x_iald (m := (alen κ2)) C dDr_runHour_142 h2 p2.1 p2.2 rfl g_142 ?_
            refine g_aload_n C dDr_runHour_143 rfl ?_
            refine g_geti C dDr_runHour_144 fl_Dr_36 h0 ?_
            obtain ⟨I18, e_147, h⟩ := bd1_some h
            refine x_callVv (av := fun ad => [.ref a1, .int (I17 a2 ((x3 + (Int32.ofInt (1)))).toInt.toNat), .int (I17 a0 4)]) C dDr_runHour_147 mfLd_sift mvLd_sift ln_Dr_134 t_134 (by decide) rfl (f_Ld_sift hT t_134 h1 e_147) rfl rfl (Nat.le_of_ble_eq_true rfl) ⟨Nat.le_of_ble_eq_true rfl, Nat.le_of_ble_eq_true rfl⟩ ⟨rfl, rfl⟩ ⟨Nat.zero_le _, Nat.zero_le _⟩ ?_
            exact g_sub (hk_150  I18 h) ⟨rfl, rfl, rfl, rfl, trivial⟩
          · have h := x_neg c_80 h
            refine g_aload_n C dDr_runHour_83 rfl ?_
            obtain ⟨I19, e_84, h⟩ := bd1_some h
            refine x_callVv (av := fun ad => []) C dDr_runHour_84 mfDr_standStill mvDr_standStill ln_Dr_123 h0 (by decide) rfl (f_Dr_standStill hT h0 e_84) rfl rfl (Nat.le_of_ble_eq_true rfl) ⟨Nat.le_of_ble_eq_true rfl, Nat.le_of_ble_eq_true rfl⟩ ⟨rfl, rfl⟩ ⟨Nat.zero_le _, Nat.zero_le _⟩ ?_
            refine g_goto 150 C dDr_runHour_87 (by decide) ?_
            exact g_sub (hk_150  I19 h) ⟨rfl, rfl, rfl, rfl, trivial⟩
        refine gt_icmp_le 72 C dDr_runHour_65 (by decide) rfl rfl (fun c_65 => ?_) (fun c_65 => ?_)
        · have h := x_pos c_65 h
          refine g_iconst (v := Int32.ofInt (0)) C dDr_runHour_72 (by decide) ?_
          exact g_sub (hk_73 ((Int32.ofInt (0))) h) ⟨rfl, rfl, rfl, rfl, trivial⟩
        · have h := x_neg (Int.not_le.mpr c_65) h
          refine g_iconst (v := Int32.ofInt (1)) C dDr_runHour_68 (by decide) ?_
          refine g_goto 73 C dDr_runHour_69 (by decide) ?_
          exact g_sub (hk_73 ((Int32.ofInt (1))) h) ⟨rfl, rfl, rfl, rfl, trivial⟩
      refine gt_if_ne 35 C dDr_runHour_17 (by decide) rfl (fun c_17 => ?_) (fun c_17 => ?_)
      · have h := x_neg c_17 h
        exact g_sub (hk_35  I0 h) ⟨rfl, rfl, rfl, rfl, trivial⟩
      · have h := x_pos c_17 h
        refine g_aload_n C dDr_runHour_20 rfl ?_
        refine g_aload_n C dDr_runHour_21 rfl ?_
        refine g_aload_n C dDr_runHour_22 rfl ?_
        refine g_iload_n C dDr_runHour_23 rfl ?_
        refine g_iconst (v := Int32.ofInt (0)) C dDr_runHour_24 (by decide) ?_
        refine g_iadd C dDr_runHour_25 ?_
        obtain ⟨g_26, h⟩ := x_g h
        refine x_iald (m := (alen κ2)) C dDr_runHour_26 h2 p2.1 p2.2 rfl g_26 ?_
        refine g_aload_n C dDr_runHour_27 rfl ?_
        refine g_iload_n C dDr_runHour_28 rfl ?_
        refine g_iconst (v := Int32.ofInt (2)) C dDr_runHour_29 (by decide) ?_
        refine g_iadd C dDr_runHour_30 ?_
        obtain ⟨g_31, h⟩ := x_g h
        refine x_iald (m := (alen κ2)) C dDr_runHour_31 h2 p2.1 p2.2 rfl g_31 ?_
        obtain ⟨I20, e_32, h⟩ := bd1_some h
        refine x_callVv (av := fun ad => [.ref a1, .int (I0 a2 ((x3 + (Int32.ofInt (0)))).toInt.toNat), .int (I0 a2 ((x3 + (Int32.ofInt (2)))).toInt.toNat)]) C dDr_runHour_32 mfDr_takeOre mvDr_takeOre ln_Dr_109 h0 (by decide) rfl (f_Dr_takeOre hT h0 h1 e_32) rfl rfl (Nat.le_of_ble_eq_true rfl) ⟨Nat.le_of_ble_eq_true rfl, Nat.le_of_ble_eq_true rfl⟩ ⟨rfl, rfl⟩ ⟨Nat.zero_le _, Nat.zero_le _⟩ ?_
        exact g_sub (hk_35  I20 h) ⟨rfl, rfl, rfl, rfl, trivial⟩
    · have h := x_neg (Int.not_le.mpr c_9) h
      exact x_vret1 C E dDr_runHour_12 ⟨Nat.zero_le _, Nat.zero_le _⟩ h
