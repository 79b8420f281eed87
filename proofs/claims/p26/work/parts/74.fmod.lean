def F_Mo_refused (N : Nat) (O : WO) (I0 : WI) (J0 : WJ) (a0 : Nat) (x1 : Int32) : Option (Int32 × WI) := lb (up2 I0 a0 1 x1) fun I1 => lb (up2 I1 a0 2 (Int32.ofInt (-1))) fun I2 => some ((Int32.ofInt (-1)), I2)
set_option maxHeartbeats 4000000 in
set_option maxRecDepth 100000 in
theorem f_Mo_refused {P : List Nat} {K : Nat → Nat} {N : Nat} {O : WO} {I0 : WI} {J0 : WJ} (hT : TR P K O) {a0 : Nat} (h0 : a0 ∈ P ∧ K a0 = 10) {x1 : Int32} {r : Int32} {I' : WI} (h : F_Mo_refused N O I0 J0 a0 x1 = some (r, I')) : Con yMo_refused bMo_refused 2 (some .int) ({ frames := 0, cells := 0, slots := 0, locals := 0 } : Room) P K I0 O J0 [.ref a0, .int x1] (EPo (some (.int r)) I' J0 P K O) := by
  refine Con.ofG mfMo_refused (Nat.le_of_ble_eq_true rfl) ?_
  intro X C E
  unfold F_Mo_refused at h
  refine g_aload_n C dMo_refused_0 rfl ?_
  refine g_iload_n C dMo_refused_1 rfl ?_
  refine x_puti C dMo_refused_2 fl_Mo_76 h0 rfl (Or.inl rfl) h (fun I1 h => ?_)
  refine g_aload_n C dMo_refused_5 rfl ?_
  refine g_iconst (v := Int32.ofInt (-1)) C dMo_refused_6 (by decide) ?_
  refine x_puti C dMo_refused_7 fl_Mo_9 h0 rfl (Or.inl rfl) h (fun I2 h => ?_)
  refine g_iconst (v := Int32.ofInt (-1)) C dMo_refused_10 (by decide) ?_
  exact x_iret1 C E dMo_refused_11 ⟨Nat.zero_le _, Nat.zero_le _⟩ h
def F_Mo_denied (N : Nat) (O : WO) (I0 : WI) (J0 : WJ) (a0 : Nat) (x1 : Int32) : Option (Int32 × WI) := lb (up2 I0 a0 1 x1) fun I1 => lb (up2 I1 a0 2 (Int32.ofInt (-1))) fun I2 => some ((Int32.ofInt (0)), I2)
set_option maxHeartbeats 4000000 in
set_option maxRecDepth 100000 in
theorem f_Mo_denied {P : List Nat} {K : Nat → Nat} {N : Nat} {O : WO} {I0 : WI} {J0 : WJ} (hT : TR P K O) {a0 : Nat} (h0 : a0 ∈ P ∧ K a0 = 10) {x1 : Int32} {r : Int32} {I' : WI} (h : F_Mo_denied N O I0 J0 a0 x1 = some (r, I')) : Con yMo_denied bMo_denied 2 (some .boolean) ({ frames := 0, cells := 0, slots := 0, locals := 0 } : Room) P K I0 O J0 [.ref a0, .int x1] (EPo (some (.int r)) I' J0 P K O) := by
  refine Con.ofG mfMo_denied (Nat.le_of_ble_eq_true rfl) ?_
  intro X C E
  unfold F_Mo_denied at h
  refine g_aload_n C dMo_denied_0 rfl ?_
  refine g_iload_n C dMo_denied_1 rfl ?_
  refine x_puti C dMo_denied_2 fl_Mo_76 h0 rfl (Or.inl rfl) h (fun I1 h => ?_)
  refine g_aload_n C dMo_denied_5 rfl ?_
  refine g_iconst (v := Int32.ofInt (-1)) C dMo_denied_6 (by decide) ?_
  refine x_puti C dMo_denied_7 fl_Mo_9 h0 rfl (Or.inl rfl) h (fun I2 h => ?_)
  refine g_iconst (v := Int32.ofInt (0)) C dMo_denied_10 (by decide) ?_
  exact x_zret1 C E dMo_denied_11 (by decide) ⟨Nat.zero_le _, Nat.zero_le _⟩ h
def F_Mo_done (N : Nat) (O : WO) (I0 : WI) (J0 : WJ) (a0 : Nat) (x1 : Int32) : Option (Int32 × WI) := lb (up2 I0 a0 1 (Int32.ofInt (0))) fun I1 => lb (up2 I1 a0 2 (Int32.ofInt (-1))) fun I2 => some (x1, I2)
set_option maxHeartbeats 4000000 in
set_option maxRecDepth 100000 in
theorem f_Mo_done {P : List Nat} {K : Nat → Nat} {N : Nat} {O : WO} {I0 : WI} {J0 : WJ} (hT : TR P K O) {a0 : Nat} (h0 : a0 ∈ P ∧ K a0 = 10) {x1 : Int32} {r : Int32} {I' : WI} (h : F_Mo_done N O I0 J0 a0 x1 = some (r, I')) : Con yMo_done bMo_done 2 (some .int) ({ frames := 0, cells := 0, slots := 0, locals := 0 } : Room) P K I0 O J0 [.ref a0, .int x1] (EPo (some (.int r)) I' J0 P K O) := by
  refine Con.ofG mfMo_done (Nat.le_of_ble_eq_true rfl) ?_
  intro X C E
  unfold F_Mo_done at h
  refine g_aload_n C dMo_done_0 rfl ?_
  refine g_iconst (v := Int32.ofInt (0)) C dMo_done_1 (by decide) ?_
  refine x_puti C dMo_done_2 fl_Mo_76 h0 rfl (Or.inl rfl) h (fun I1 h => ?_)
  refine g_aload_n C dMo_done_5 rfl ?_
  refine g_iconst (v := Int32.ofInt (-1)) C dMo_done_6 (by decide) ?_
  refine x_puti C dMo_done_7 fl_Mo_9 h0 rfl (Or.inl rfl) h (fun I2 h => ?_)
  refine g_iload_n C dMo_done_10 rfl ?_
  exact x_iret1 C E dMo_done_11 ⟨Nat.zero_le _, Nat.zero_le _⟩ h
def F_Mo_granted (N : Nat) (O : WO) (I0 : WI) (J0 : WJ) (a0 : Nat) : Option (Int32 × WI) := lb (up2 I0 a0 1 (Int32.ofInt (0))) fun I1 => lb (up2 I1 a0 2 (Int32.ofInt (-1))) fun I2 => some ((Int32.ofInt (1)), I2)
set_option maxHeartbeats 4000000 in
set_option maxRecDepth 100000 in
theorem f_Mo_granted {P : List Nat} {K : Nat → Nat} {N : Nat} {O : WO} {I0 : WI} {J0 : WJ} (hT : TR P K O) {a0 : Nat} (h0 : a0 ∈ P ∧ K a0 = 10) {r : Int32} {I' : WI} (h : F_Mo_granted N O I0 J0 a0 = some (r, I')) : Con yMo_granted bMo_granted 1 (some .boolean) ({ frames := 0, cells := 0, slots := 0, locals := 0 } : Room) P K I0 O J0 [.ref a0] (EPo (some (.int r)) I' J0 P K O) := by
  refine Con.ofG mfMo_granted (Nat.le_of_ble_eq_true rfl) ?_
  intro X C E
  unfold F_Mo_granted at h
  refine g_aload_n C dMo_granted_0 rfl ?_
  refine g_iconst (v := Int32.ofInt (0)) C dMo_granted_1 (by decide) ?_
  refine x_puti C dMo_granted_2 fl_Mo_76 h0 rfl (Or.inl rfl) h (fun I1 h => ?_)
  refine g_aload_n C dMo_granted_5 rfl ?_
  refine g_iconst (v := Int32.ofInt (-1)) C dMo_granted_6 (by decide) ?_
  refine x_puti C dMo_granted_7 fl_Mo_9 h0 rfl (Or.inl rfl) h (fun I2 h => ?_)
  refine g_iconst (v := Int32.ofInt (1)) C dMo_granted_10 (by decide) ?_
  exact x_zret1 C E dMo_granted_11 (by decide) ⟨Nat.zero_le _, Nat.zero_le _⟩ h
def B_Mo_sumOfS_5 (N : Nat) (O : WO) (a0 : Nat) (a1 : Nat) (x2 : Int32) (I0 : WI) (rec_5 : Int32 → Int32 → Option (Int32)) (x3_5 : Int32) (x4_5 : Int32) : Option (Int32) := if ((I0 (rf O a0 3) 8)).toInt ≤ (x4_5).toInt then (some x3_5) else (if 0 ≤ ((x2 + x4_5)).toInt ∧ ((x2 + x4_5)).toInt < 37 then (lb ((x3_5 + (I0 a1 ((x2 + x4_5)).toInt.toNat))) fun v3_25 => lb (x4_5 + Int32.ofInt (1)) fun v4_26 => rec_5 (v3_25) (v4_26)) else none)
def F_Mo_sumOfS (N : Nat) (O : WO) (I0 : WI) (J0 : WJ) (a0 : Nat) (a1 : Nat) (x2 : Int32) : Option (Int32) := lp (B_Mo_sumOfS_5 N O a0 a1 x2 I0) (fun _ _ => none) N ((Int32.ofInt (0))) ((Int32.ofInt (0)))
set_option maxHeartbeats 4000000 in
set_option maxRecDepth 100000 in
theorem f_Mo_sumOfS {P : List Nat} {K : Nat → Nat} {N : Nat} {O : WO} {I0 : WI} {J0 : WJ} (hT : TR P K O) {a0 : Nat} (h0 : a0 ∈ P ∧ K a0 = 10) {a1 : Nat} (h1 : a1 ∈ P ∧ K a1 = 31) {x2 : Int32} (hN3 : NN P K O a0 3 9) {r : Int32} (h : F_Mo_sumOfS N O I0 J0 a0 a1 x2 = some r) : Con yMo_sumOf bMo_sumOf 5 (some .int) ({ frames := 0, cells := 0, slots := 0, locals := 0 } : Room) P K I0 O J0 [.ref a0, .ref a1, .int x2] (EPo (some (.int r)) I0 J0 P K O) := by
  refine Con.ofG mfMo_sumOf (Nat.le_of_ble_eq_true rfl) ?_
  intro X C E
  unfold F_Mo_sumOfS at h
  refine g_iconst (v := Int32.ofInt (0)) C dMo_sumOf_0 (by decide) ?_
  refine g_istore_n (i := 3) C dMo_sumOf_1 rfl (by decide) ?_
  refine g_iconst (v := Int32.ofInt (0)) C dMo_sumOf_2 (by decide) ?_
  refine g_istore C dMo_sumOf_3 (by decide) ?_
  have lp_5 : ∀ (x3_5 : Int32) (x4_5 : Int32), lp (B_Mo_sumOfS_5 N O a0 a1 x2 I0) (fun _ _ => none) N x3_5 x4_5 = some r → GG X 5 P K I0 O J0 0 0 5 [(0, .ref a0), (1, .ref a1), (2, .int x2), (3, .int x3_5), (4, .int x4_5)] [] := by
    refine x_lp (fun (rec_5 : Int32 → Int32 → Option (Int32)) => ∀ (x3_5 : Int32) (x4_5 : Int32), rec_5 x3_5 x4_5 = some r → GG X 5 P K I0 O J0 0 0 5 [(0, .ref a0), (1, .ref a1), (2, .int x2), (3, .int x3_5), (4, .int x4_5)] []) (fun _ _ h => by cases h) (fun rec_5 hr_5 x3_5 x4_5 h => ?_) N
    unfold B_Mo_sumOfS_5 at h
    refine g_iload C dMo_sumOf_5 rfl ?_
    refine g_aload_n C dMo_sumOf_7 rfl ?_
    refine gt_getS C dMo_sumOf_8 fl_Mo_290 h0 hN3.1 ?_
    refine g_geti C dMo_sumOf_11 fl_Mo_191 hN3.2 ?_
    refine gt_icmp_ge 32 C dMo_sumOf_14 (by decide) rfl rfl (fun c_14 => ?_) (fun c_14 => ?_)
    · have h := x_pos c_14 h
      refine g_iload_n C dMo_sumOf_32 rfl ?_
      exact x_iret0 C E dMo_sumOf_33 ⟨Nat.zero_le _, Nat.zero_le _⟩ h
    · have h := x_neg (Int.not_le.mpr c_14) h
      refine g_iload_n C dMo_sumOf_17 rfl ?_
      refine g_aload_n C dMo_sumOf_18 rfl ?_
      refine g_iload_n C dMo_sumOf_19 rfl ?_
      refine g_iload C dMo_sumOf_20 rfl ?_
      refine g_iadd C dMo_sumOf_22 ?_
      obtain ⟨g_23, h⟩ := x_g h
      refine x_iald (m := 37) C dMo_sumOf_23 h1 (by decide) rfl rfl g_23 ?_
      refine g_iadd C dMo_sumOf_24 ?_
      refine x_istore_n (i := 3) C dMo_sumOf_25 rfl (by decide) h (fun v3_25 h => ?_)
      refine x_iinc C dMo_sumOf_26 rfl (by decide) h (fun v4_26 h => ?_)
      refine g_goto 5 C dMo_sumOf_29 (by decide) ?_
      exact g_sub (hr_5 (v3_25) (v4_26) h) ⟨rfl, rfl, rfl, rfl, rfl, trivial⟩
  exact g_sub (lp_5 ((Int32.ofInt (0))) ((Int32.ofInt (0))) h) ⟨rfl, rfl, rfl, rfl, rfl, trivial⟩
def B_Mo_sumOfT_5 (N : Nat) (O : WO) (a0 : Nat) (a1 : Nat) (x2 : Int32) (I0 : WI) (rec_5 : Int32 → Int32 → Option (Int32)) (x3_5 : Int32) (x4_5 : Int32) : Option (Int32) := if ((I0 (rf O a0 3) 8)).toInt ≤ (x4_5).toInt then (some x3_5) else (if 0 ≤ ((x2 + x4_5)).toInt ∧ ((x2 + x4_5)).toInt < 37 then (lb ((x3_5 + (I0 a1 ((x2 + x4_5)).toInt.toNat))) fun v3_25 => lb (x4_5 + Int32.ofInt (1)) fun v4_26 => rec_5 (v3_25) (v4_26)) else none)
def F_Mo_sumOfT (N : Nat) (O : WO) (I0 : WI) (J0 : WJ) (a0 : Nat) (a1 : Nat) (x2 : Int32) : Option (Int32) := lp (B_Mo_sumOfT_5 N O a0 a1 x2 I0) (fun _ _ => none) N ((Int32.ofInt (0))) ((Int32.ofInt (0)))
set_option maxHeartbeats 4000000 in
set_option maxRecDepth 100000 in
theorem f_Mo_sumOfT {P : List Nat} {K : Nat → Nat} {N : Nat} {O : WO} {I0 : WI} {J0 : WJ} (hT : TR P K O) {a0 : Nat} (h0 : a0 ∈ P ∧ K a0 = 10) {a1 : Nat} (h1 : a1 ∈ P ∧ K a1 = 49) {x2 : Int32} (hN3 : NN P K O a0 3 9) {r : Int32} (h : F_Mo_sumOfT N O I0 J0 a0 a1 x2 = some r) : Con yMo_sumOf bMo_sumOf 5 (some .int) ({ frames := 0, cells := 0, slots := 0, locals := 0 } : Room) P K I0 O J0 [.ref a0, .ref a1, .int x2] (EPo (some (.int r)) I0 J0 P K O) := by
  refine Con.ofG mfMo_sumOf (Nat.le_of_ble_eq_true rfl) ?_
  intro X C E
  unfold F_Mo_sumOfT at h
  refine g_iconst (v := Int32.ofInt (0)) C dMo_sumOf_0 (by decide) ?_
  refine g_istore_n (i := 3) C dMo_sumOf_1 rfl (by decide) ?_
  refine g_iconst (v := Int32.ofInt (0)) C dMo_sumOf_2 (by decide) ?_
  refine g_istore C dMo_sumOf_3 (by decide) ?_
  have lp_5 : ∀ (x3_5 : Int32) (x4_5 : Int32), lp (B_Mo_sumOfT_5 N O a0 a1 x2 I0) (fun _ _ => none) N x3_5 x4_5 = some r → GG X 5 P K I0 O J0 0 0 5 [(0, .ref a0), (1, .ref a1), (2, .int x2), (3, .int x3_5), (4, .int x4_5)] [] := by
    refine x_lp (fun (rec_5 : Int32 → Int32 → Option (Int32)) => ∀ (x3_5 : Int32) (x4_5 : Int32), rec_5 x3_5 x4_5 = some r → GG X 5 P K I0 O J0 0 0 5 [(0, .ref a0), (1, .ref a1), (2, .int x2), (3, .int x3_5), (4, .int x4_5)] []) (fun _ _ h => by cases h) (fun rec_5 hr_5 x3_5 x4_5 h => ?_) N
    unfold B_Mo_sumOfT_5 at h
    refine g_iload C dMo_sumOf_5 rfl ?_
    refine g_aload_n C dMo_sumOf_7 rfl ?_
    refine gt_getS C dMo_sumOf_8 fl_Mo_290 h0 hN3.1 ?_
    refine g_geti C dMo_sumOf_11 fl_Mo_191 hN3.2 ?_
    refine gt_icmp_ge 32 C dMo_sumOf_14 (by decide) rfl rfl (fun c_14 => ?_) (fun c_14 => ?_)
    · have h := x_pos c_14 h
      refine g_iload_n C dMo_sumOf_32 rfl ?_
      exact x_iret0 C E dMo_sumOf_33 ⟨Nat.zero_le _, Nat.zero_le _⟩ h
    · have h := x_neg (Int.not_le.mpr c_14) h
      refine g_iload_n C dMo_sumOf_17 rfl ?_
      refine g_aload_n C dMo_sumOf_18 rfl ?_
      refine g_iload_n C dMo_sumOf_19 rfl ?_
      refine g_iload C dMo_sumOf_20 rfl ?_
      refine g_iadd C dMo_sumOf_22 ?_
      obtain ⟨g_23, h⟩ := x_g h
      refine x_iald (m := 37) C dMo_sumOf_23 h1 (by decide) rfl rfl g_23 ?_
      refine g_iadd C dMo_sumOf_24 ?_
      refine x_istore_n (i := 3) C dMo_sumOf_25 rfl (by decide) h (fun v3_25 h => ?_)
      refine x_iinc C dMo_sumOf_26 rfl (by decide) h (fun v4_26 h => ?_)
      refine g_goto 5 C dMo_sumOf_29 (by decide) ?_
      exact g_sub (hr_5 (v3_25) (v4_26) h) ⟨rfl, rfl, rfl, rfl, rfl, trivial⟩
  exact g_sub (lp_5 ((Int32.ofInt (0))) ((Int32.ofInt (0))) h) ⟨rfl, rfl, rfl, rfl, rfl, trivial⟩
def B_Mo_sumOfU_5 (N : Nat) (O : WO) (a0 : Nat) (a1 : Nat) (x2 : Int32) (I0 : WI) (rec_5 : Int32 → Int32 → Option (Int32)) (x3_5 : Int32) (x4_5 : Int32) : Option (Int32) := if ((I0 (rf O a0 3) 8)).toInt ≤ (x4_5).toInt then (some x3_5) else (if 0 ≤ ((x2 + x4_5)).toInt ∧ ((x2 + x4_5)).toInt < 37 then (lb ((x3_5 + (I0 a1 ((x2 + x4_5)).toInt.toNat))) fun v3_25 => lb (x4_5 + Int32.ofInt (1)) fun v4_26 => rec_5 (v3_25) (v4_26)) else none)
def F_Mo_sumOfU (N : Nat) (O : WO) (I0 : WI) (J0 : WJ) (a0 : Nat) (a1 : Nat) (x2 : Int32) : Option (Int32) := lp (B_Mo_sumOfU_5 N O a0 a1 x2 I0) (fun _ _ => none) N ((Int32.ofInt (0))) ((Int32.ofInt (0)))
set_option maxHeartbeats 4000000 in
set_option maxRecDepth 100000 in
theorem f_Mo_sumOfU {P : List Nat} {K : Nat → Nat} {N : Nat} {O : WO} {I0 : WI} {J0 : WJ} (hT : TR P K O) {a0 : Nat} (h0 : a0 ∈ P ∧ K a0 = 10) {a1 : Nat} (h1 : a1 ∈ P ∧ K a1 = 50) {x2 : Int32} (hN3 : NN P K O a0 3 9) {r : Int32} (h : F_Mo_sumOfU N O I0 J0 a0 a1 x2 = some r) : Con yMo_sumOf bMo_sumOf 5 (some .int) ({ frames := 0, cells := 0, slots := 0, locals := 0 } : Room) P K I0 O J0 [.ref a0, .ref a1, .int x2] (EPo (some (.int r)) I0 J0 P K O) := by
  refine Con.ofG mfMo_sumOf (Nat.le_of_ble_eq_true rfl) ?_
  intro X C E
  unfold F_Mo_sumOfU at h
  refine g_iconst (v := Int32.ofInt (0)) C dMo_sumOf_0 (by decide) ?_
  refine g_istore_n (i := 3) C dMo_sumOf_1 rfl (by decide) ?_
  refine g_iconst (v := Int32.ofInt (0)) C dMo_sumOf_2 (by decide) ?_
  refine g_istore C dMo_sumOf_3 (by decide) ?_
  have lp_5 : ∀ (x3_5 : Int32) (x4_5 : Int32), lp (B_Mo_sumOfU_5 N O a0 a1 x2 I0) (fun _ _ => none) N x3_5 x4_5 = some r → GG X 5 P K I0 O J0 0 0 5 [(0, .ref a0), (1, .ref a1), (2, .int x2), (3, .int x3_5), (4, .int x4_5)] [] := by
    refine x_lp (fun (rec_5 : Int32 → Int32 → Option (Int32)) => ∀ (x3_5 : Int32) (x4_5 : Int32), rec_5 x3_5 x4_5 = some r → GG X 5 P K I0 O J0 0 0 5 [(0, .ref a0), (1, .ref a1), (2, .int x2), (3, .int x3_5), (4, .int x4_5)] []) (fun _ _ h => by cases h) (fun rec_5 hr_5 x3_5 x4_5 h => ?_) N
    unfold B_Mo_sumOfU_5 at h
    refine g_iload C dMo_sumOf_5 rfl ?_
    refine g_aload_n C dMo_sumOf_7 rfl ?_
    refine gt_getS C dMo_sumOf_8 fl_Mo_290 h0 hN3.1 ?_
    refine g_geti C dMo_sumOf_11 fl_Mo_191 hN3.2 ?_
    refine gt_icmp_ge 32 C dMo_sumOf_14 (by decide) rfl rfl (fun c_14 => ?_) (fun c_14 => ?_)
    · have h := x_pos c_14 h
      refine g_iload_n C dMo_sumOf_32 rfl ?_
      exact x_iret0 C E dMo_sumOf_33 ⟨Nat.zero_le _, Nat.zero_le _⟩ h
    · have h := x_neg (Int.not_le.mpr c_14) h
      refine g_iload_n C dMo_sumOf_17 rfl ?_
      refine g_aload_n C dMo_sumOf_18 rfl ?_
      refine g_iload_n C dMo_sumOf_19 rfl ?_
      refine g_iload C dMo_sumOf_20 rfl ?_
      refine g_iadd C dMo_sumOf_22 ?_
      obtain ⟨g_23, h⟩ := x_g h
      refine x_iald (m := 37) C dMo_sumOf_23 h1 (by decide) rfl rfl g_23 ?_
      refine g_iadd C dMo_sumOf_24 ?_
      refine x_istore_n (i := 3) C dMo_sumOf_25 rfl (by decide) h (fun v3_25 h => ?_)
      refine x_iinc C dMo_sumOf_26 rfl (by decide) h (fun v4_26 h => ?_)
      refine g_goto 5 C dMo_sumOf_29 (by decide) ?_
      exact g_sub (hr_5 (v3_25) (v4_26) h) ⟨rfl, rfl, rfl, rfl, rfl, trivial⟩
  exact g_sub (lp_5 ((Int32.ofInt (0))) ((Int32.ofInt (0))) h) ⟨rfl, rfl, rfl, rfl, rfl, trivial⟩
def B_Mo_digsS_2 (N : Nat) (O : WO) (a0 : Nat) (a1 : Nat) (rec_2 : Int32 → WI → Option (WI)) (x2_2 : Int32) (I_2 : WI) : Option (WI) := if ((I_2 (rf O a0 3) 8)).toInt ≤ (x2_2).toInt then (some I_2) else (if 0 ≤ (((Int32.ofInt (0)) + x2_2)).toInt ∧ (((Int32.ofInt (0)) + x2_2)).toInt < 37 then (if 0 ≤ (((Int32.ofInt (0)) + x2_2)).toInt ∧ (((Int32.ofInt (0)) + x2_2)).toInt < 37 then (jn (fun (s0_49 : Int32) => if 0 ≤ (((Int32.ofInt (0)) + x2_2)).toInt ∧ (((Int32.ofInt (0)) + x2_2)).toInt < 37 then (if 0 ≤ (((Int32.ofInt (0)) + x2_2)).toInt ∧ (((Int32.ofInt (0)) + x2_2)).toInt < 37 then (lb (up2 I_2 a1 (((Int32.ofInt (0)) + x2_2)).toInt.toNat ((I_2 a1 (((Int32.ofInt (0)) + x2_2)).toInt.toNat) - s0_49)) fun I1 => lb (up2 I1 a1 21 ((I1 a1 21) + s0_49)) fun I2 => lb (x2_2 + Int32.ofInt (1)) fun v2_67 => rec_2 (v2_67) I2) else none) else none) fun k_49 => if ((((I_2 a1 (((Int32.ofInt (0)) + x2_2)).toInt.toNat) / (Int32.ofInt (10))) + (Int32.ofInt (1)))).toInt ≤ ((I_2 a1 (((Int32.ofInt (0)) + x2_2)).toInt.toNat)).toInt then (if 0 ≤ (((Int32.ofInt (0)) + x2_2)).toInt ∧ (((Int32.ofInt (0)) + x2_2)).toInt < 37 then (k_49 ((((I_2 a1 (((Int32.ofInt (0)) + x2_2)).toInt.toNat) / (Int32.ofInt (10))) + (Int32.ofInt (1))))) else none) else (if 0 ≤ (((Int32.ofInt (0)) + x2_2)).toInt ∧ (((Int32.ofInt (0)) + x2_2)).toInt < 37 then (k_49 ((I_2 a1 (((Int32.ofInt (0)) + x2_2)).toInt.toNat))) else none)) else none) else none)
def F_Mo_digsS (N : Nat) (O : WO) (I0 : WI) (J0 : WJ) (a0 : Nat) (a1 : Nat) : Option (WI) := lp (B_Mo_digsS_2 N O a0 a1) (fun _ _ => none) N ((Int32.ofInt (0))) I0
set_option maxHeartbeats 4000000 in
set_option maxRecDepth 100000 in
theorem f_Mo_digsS {P : List Nat} {K : Nat → Nat} {N : Nat} {O : WO} {I0 : WI} {J0 : WJ} (hT : TR P K O) {a0 : Nat} (h0 : a0 ∈ P ∧ K a0 = 10) {a1 : Nat} (h1 : a1 ∈ P ∧ K a1 = 31) (hN3 : NN P K O a0 3 9) {I' : WI} (h : F_Mo_digsS N O I0 J0 a0 a1 = some I') : Con yMo_digs bMo_digs 4 none ({ frames := 0, cells := 0, slots := 0, locals := 0 } : Room) P K I0 O J0 [.ref a0, .ref a1] (EPo none I' J0 P K O) := by
  refine Con.ofG mfMo_digs (Nat.le_of_ble_eq_true rfl) ?_
  intro X C E
  unfold F_Mo_digsS at h
  refine g_iconst (v := Int32.ofInt (0)) C dMo_digs_0 (by decide) ?_
  refine g_istore_n (i := 2) C dMo_digs_1 rfl (by decide) ?_
  have lp_2 : ∀ (x2_2 : Int32) (I_2 : WI), lp (B_Mo_digsS_2 N O a0 a1) (fun _ _ => none) N x2_2 I_2 = some I' → GG X 4 P K I_2 O J0 0 0 2 [(0, .ref a0), (1, .ref a1), (2, .int x2_2)] [] := by
    refine x_lp (fun (rec_2 : Int32 → WI → Option (WI)) => ∀ (x2_2 : Int32) (I_2 : WI), rec_2 x2_2 I_2 = some I' → GG X 4 P K I_2 O J0 0 0 2 [(0, .ref a0), (1, .ref a1), (2, .int x2_2)] []) (fun _ _ h => by cases h) (fun rec_2 hr_2 x2_2 I_2 h => ?_) N
    unfold B_Mo_digsS_2 at h
    refine g_iload_n C dMo_digs_2 rfl ?_
    refine g_aload_n C dMo_digs_3 rfl ?_
    refine gt_getS C dMo_digs_4 fl_Mo_290 h0 hN3.1 ?_
    refine g_geti C dMo_digs_7 fl_Mo_191 hN3.2 ?_
    refine gt_icmp_ge 73 C dMo_digs_10 (by decide) rfl rfl (fun c_10 => ?_) (fun c_10 => ?_)
    · have h := x_pos c_10 h
      exact x_vret1 C E dMo_digs_73 ⟨Nat.zero_le _, Nat.zero_le _⟩ h
    · have h := x_neg (Int.not_le.mpr c_10) h
      refine g_aload_n C dMo_digs_13 rfl ?_
      refine g_iconst (v := Int32.ofInt (0)) C dMo_digs_14 (by decide) ?_
      refine g_iload_n C dMo_digs_15 rfl ?_
      refine g_iadd C dMo_digs_16 ?_
      obtain ⟨g_17, h⟩ := x_g h
      refine x_iald (m := 37) C dMo_digs_17 h1 (by decide) rfl rfl g_17 ?_
      refine g_bipush (v := Int32.ofInt (10)) C dMo_digs_18 (by decide) ?_
      refine x_idiv C dMo_digs_20 (by decide) ?_
      refine g_iconst (v := Int32.ofInt (1)) C dMo_digs_21 (by decide) ?_
      refine g_iadd C dMo_digs_22 ?_
      refine g_aload_n C dMo_digs_23 rfl ?_
      refine g_iconst (v := Int32.ofInt (0)) C dMo_digs_24 (by decide) ?_
      refine g_iload_n C dMo_digs_25 rfl ?_
      refine g_iadd C dMo_digs_26 ?_
      obtain ⟨g_27, h⟩ := x_g h
      refine x_iald (m := 37) C dMo_digs_27 h1 (by decide) rfl rfl g_27 ?_
      refine x_jn h (fun (k_49 : Int32 → Option (WI)) => ∀ (s0_49 : Int32), k_49 s0_49 = some I' → GG X 4 P K I_2 O J0 0 0 49 [(0, .ref a0), (1, .ref a1), (2, .int x2_2)] [.int s0_49]) (fun s0_49 h => ?_) (fun k_49 hk_49 h => ?_)
      · skip
        refine g_istore_n (i := 3) C dMo_digs_49 rfl (by decide) ?_
        refine g_aload_n C dMo_digs_50 rfl ?_
        refine g_iconst (v := Int32.ofInt (0)) C dMo_digs_51 (by decide) ?_
        refine g_iload_n C dMo_digs_52 rfl ?_
        refine g_iadd C dMo_digs_53 ?_
        refine g_dup2 C dMo_digs_54 rfl rfl ?_
        obtain ⟨g_55, h⟩ := x_g h
        refine x_iald (m := 37) C dMo_digs_55 h1 (by decide) rfl rfl g_55 ?_
        refine g_iload_n C dMo_digs_56 rfl ?_
        refine g_isub C dMo_digs_57 ?_
        obtain ⟨g_58, h⟩ := x_g h
        refine x_iast (m := 37) C dMo_digs_58 h1 (by decide) rfl rfl g_58 h (fun I1 h => ?_)
        refine g_aload_n C dMo_digs_59 rfl ?_
        refine g_bipush (v := Int32.ofInt (21)) C dMo_digs_60 (by decide) ?_
        refine g_dup2 C dMo_digs_62 rfl rfl ?_
        refine x_ialdc (m := 37) (c := 21) C dMo_digs_63 h1 (by decide) rfl rfl rfl (by decide) ?_
        refine g_iload_n C dMo_digs_64 rfl ?_
        refine g_iadd C dMo_digs_65 ?_
        refine x_iastc (m := 37) (c := 21) C dMo_digs_66 h1 (by decide) rfl rfl rfl (by decide) h (fun I2 h => ?_)
        refine x_iinc C dMo_digs_67 rfl (by decide) h (fun v2_67 h => ?_)
        refine g_goto 2 C dMo_digs_70 (by decide) ?_
        exact g_sub (hr_2 (v2_67) I2 h) ⟨rfl, rfl, rfl, trivial⟩
      refine gt_icmp_le 39 C dMo_digs_28 (by decide) rfl rfl (fun c_28 => ?_) (fun c_28 => ?_)
      · have h := x_pos c_28 h
        refine g_aload_n C dMo_digs_39 rfl ?_
        refine g_iconst (v := Int32.ofInt (0)) C dMo_digs_40 (by decide) ?_
        refine g_iload_n C dMo_digs_41 rfl ?_
        refine g_iadd C dMo_digs_42 ?_
        obtain ⟨g_43, h⟩ := x_g h
        refine x_iald (m := 37) C dMo_digs_43 h1 (by decide) rfl rfl g_43 ?_
        refine g_bipush (v := Int32.ofInt (10)) C dMo_digs_44 (by decide) ?_
        refine x_idiv C dMo_digs_46 (by decide) ?_
        refine g_iconst (v := Int32.ofInt (1)) C dMo_digs_47 (by decide) ?_
        refine g_iadd C dMo_digs_48 ?_
        exact g_sub (hk_49 ((((I_2 a1 (((Int32.ofInt (0)) + x2_2)).toInt.toNat) / (Int32.ofInt (10))) + (Int32.ofInt (1)))) h) ⟨rfl, rfl, rfl, trivial⟩
      · have h := x_neg (Int.not_le.mpr c_28) h
        refine g_aload_n C dMo_digs_31 rfl ?_
        refine g_iconst (v := Int32.ofInt (0)) C dMo_digs_32 (by decide) ?_
        refine g_iload_n C dMo_digs_33 rfl ?_
        refine g_iadd C dMo_digs_34 ?_
        obtain ⟨g_35, h⟩ := x_g h
        refine x_iald (m := 37) C dMo_digs_35 h1 (by decide) rfl rfl g_35 ?_
        refine g_goto 49 C dMo_digs_36 (by decide) ?_
        exact g_sub (hk_49 ((I_2 a1 (((Int32.ofInt (0)) + x2_2)).toInt.toNat)) h) ⟨rfl, rfl, rfl, trivial⟩
  exact g_sub (lp_2 ((Int32.ofInt (0))) I0 h) ⟨rfl, rfl, rfl, trivial⟩
def B_Mo_digsT_2 (N : Nat) (O : WO) (a0 : Nat) (a1 : Nat) (rec_2 : Int32 → WI → Option (WI)) (x2_2 : Int32) (I_2 : WI) : Option (WI) := if ((I_2 (rf O a0 3) 8)).toInt ≤ (x2_2).toInt then (some I_2) else (if 0 ≤ (((Int32.ofInt (0)) + x2_2)).toInt ∧ (((Int32.ofInt (0)) + x2_2)).toInt < 37 then (if 0 ≤ (((Int32.ofInt (0)) + x2_2)).toInt ∧ (((Int32.ofInt (0)) + x2_2)).toInt < 37 then (jn (fun (s0_49 : Int32) => if 0 ≤ (((Int32.ofInt (0)) + x2_2)).toInt ∧ (((Int32.ofInt (0)) + x2_2)).toInt < 37 then (if 0 ≤ (((Int32.ofInt (0)) + x2_2)).toInt ∧ (((Int32.ofInt (0)) + x2_2)).toInt < 37 then (lb (up2 I_2 a1 (((Int32.ofInt (0)) + x2_2)).toInt.toNat ((I_2 a1 (((Int32.ofInt (0)) + x2_2)).toInt.toNat) - s0_49)) fun I1 => lb (up2 I1 a1 21 ((I1 a1 21) + s0_49)) fun I2 => lb (x2_2 + Int32.ofInt (1)) fun v2_67 => rec_2 (v2_67) I2) else none) else none) fun k_49 => if ((((I_2 a1 (((Int32.ofInt (0)) + x2_2)).toInt.toNat) / (Int32.ofInt (10))) + (Int32.ofInt (1)))).toInt ≤ ((I_2 a1 (((Int32.ofInt (0)) + x2_2)).toInt.toNat)).toInt then (if 0 ≤ (((Int32.ofInt (0)) + x2_2)).toInt ∧ (((Int32.ofInt (0)) + x2_2)).toInt < 37 then (k_49 ((((I_2 a1 (((Int32.ofInt (0)) + x2_2)).toInt.toNat) / (Int32.ofInt (10))) + (Int32.ofInt (1))))) else none) else (if 0 ≤ (((Int32.ofInt (0)) + x2_2)).toInt ∧ (((Int32.ofInt (0)) + x2_2)).toInt < 37 then (k_49 ((I_2 a1 (((Int32.ofInt (0)) + x2_2)).toInt.toNat))) else none)) else none) else none)
def F_Mo_digsT (N : Nat) (O : WO) (I0 : WI) (J0 : WJ) (a0 : Nat) (a1 : Nat) : Option (WI) := lp (B_Mo_digsT_2 N O a0 a1) (fun _ _ => none) N ((Int32.ofInt (0))) I0
set_option maxHeartbeats 4000000 in
set_option maxRecDepth 100000 in
theorem f_Mo_digsT {P : List Nat} {K : Nat → Nat} {N : Nat} {O : WO} {I0 : WI} {J0 : WJ} (hT : TR P K O) {a0 : Nat} (h0 : a0 ∈ P ∧ K a0 = 10) {a1 : Nat} (h1 : a1 ∈ P ∧ K a1 = 49) (hN3 : NN P K O a0 3 9) {I' : WI} (h : F_Mo_digsT N O I0 J0 a0 a1 = some I') : Con yMo_digs bMo_digs 4 none ({ frames := 0, cells := 0, slots := 0, locals := 0 } : Room) P K I0 O J0 [.ref a0, .ref a1] (EPo none I' J0 P K O) := by
  refine Con.ofG mfMo_digs (Nat.le_of_ble_eq_true rfl) ?_
  intro X C E
  unfold F_Mo_digsT at h
  refine g_iconst (v := Int32.ofInt (0)) C dMo_digs_0 (by decide) ?_
  refine g_istore_n (i := 2) C dMo_digs_1 rfl (by decide) ?_
  have lp_2 : ∀ (x2_2 : Int32) (I_2 : WI), lp (B_Mo_digsT_2 N O a0 a1) (fun _ _ => none) N x2_2 I_2 = some I' → GG X 4 P K I_2 O J0 0 0 2 [(0, .ref a0), (1, .ref a1), (2, .int x2_2)] [] := by
    refine x_lp (fun (rec_2 : Int32 → WI → Option (WI)) => ∀ (x2_2 : Int32) (I_2 : WI), rec_2 x2_2 I_2 = some I' → GG X 4 P K I_2 O J0 0 0 2 [(0, .ref a0), (1, .ref a1), (2, .int x2_2)] []) (fun _ _ h => by cases h) (fun rec_2 hr_2 x2_2 I_2 h => ?_) N
    unfold B_Mo_digsT_2 at h
    refine g_iload_n C dMo_digs_2 rfl ?_
    refine g_aload_n C dMo_digs_3 rfl ?_
    refine gt_getS C dMo_digs_4 fl_Mo_290 h0 hN3.1 ?_
    refine g_geti C dMo_digs_7 fl_Mo_191 hN3.2 ?_
    refine gt_icmp_ge 73 C dMo_digs_10 (by decide) rfl rfl (fun c_10 => ?_) (fun c_10 => ?_)
    · have h := x_pos c_10 h
      exact x_vret1 C E dMo_digs_73 ⟨Nat.zero_le _, Nat.zero_le _⟩ h
    · have h := x_neg (Int.not_le.mpr c_10) h
      refine g_aload_n C dMo_digs_13 rfl ?_
      refine g_iconst (v := Int32.ofInt (0)) C dMo_digs_14 (by decide) ?_
      refine g_iload_n C dMo_digs_15 rfl ?_
      refine g_iadd C dMo_digs_16 ?_
      obtain ⟨g_17, h⟩ := x_g h
      refine x_iald (m := 37) C dMo_digs_17 h1 (by decide) rfl rfl g_17 ?_
      refine g_bipush (v := Int32.ofInt (10)) C dMo_digs_18 (by decide) ?_
      refine x_idiv C dMo_digs_20 (by decide) ?_
      refine g_iconst (v := Int32.ofInt (1)) C dMo_digs_21 (by decide) ?_
      refine g_iadd C dMo_digs_22 ?_
      refine g_aload_n C dMo_digs_23 rfl ?_
      refine g_iconst (v := Int32.ofInt (0)) C dMo_digs_24 (by decide) ?_
      refine g_iload_n C dMo_digs_25 rfl ?_
      refine g_iadd C dMo_digs_26 ?_
      obtain ⟨g_27, h⟩ := x_g h
      refine x_iald (m := 37) C dMo_digs_27 h1 (by decide) rfl rfl g_27 ?_
      refine x_jn h (fun (k_49 : Int32 → Option (WI)) => ∀ (s0_49 : Int32), k_49 s0_49 = some I' → GG X 4 P K I_2 O J0 0 0 49 [(0, .ref a0), (1, .ref a1), (2, .int x2_2)] [.int s0_49]) (fun s0_49 h => ?_) (fun k_49 hk_49 h => ?_)
      · skip
        refine g_istore_n (i := 3) C dMo_digs_49 rfl (by decide) ?_
        refine g_aload_n C dMo_digs_50 rfl ?_
        refine g_iconst (v := Int32.ofInt (0)) C dMo_digs_51 (by decide) ?_
        refine g_iload_n C dMo_digs_52 rfl ?_
        refine g_iadd C dMo_digs_53 ?_
        refine g_dup2 C dMo_digs_54 rfl rfl ?_
        obtain ⟨g_55, h⟩ := x_g h
        refine x_iald (m := 37) C dMo_digs_55 h1 (by decide) rfl rfl g_55 ?_
        refine g_iload_n C dMo_digs_56 rfl ?_
        refine g_isub C dMo_digs_57 ?_
        obtain ⟨g_58, h⟩ := x_g h
        refine x_iast (m := 37) C dMo_digs_58 h1 (by decide) rfl rfl g_58 h (fun I1 h => ?_)
        refine g_aload_n C dMo_digs_59 rfl ?_
        refine g_bipush (v := Int32.ofInt (21)) C dMo_digs_60 (by decide) ?_
        refine g_dup2 C dMo_digs_62 rfl rfl ?_
        refine x_ialdc (m := 37) (c := 21) C dMo_digs_63 h1 (by decide) rfl rfl rfl (by decide) ?_
        refine g_iload_n C dMo_digs_64 rfl ?_
        refine g_iadd C dMo_digs_65 ?_
        refine x_iastc (m := 37) (c := 21) C dMo_digs_66 h1 (by decide) rfl rfl rfl (by decide) h (fun I2 h => ?_)
        refine x_iinc C dMo_digs_67 rfl (by decide) h (fun v2_67 h => ?_)
        refine g_goto 2 C dMo_digs_70 (by decide) ?_
        exact g_sub (hr_2 (v2_67) I2 h) ⟨rfl, rfl, rfl, trivial⟩
      refine gt_icmp_le 39 C dMo_digs_28 (by decide) rfl rfl (fun c_28 => ?_) (fun c_28 => ?_)
      · have h := x_pos c_28 h
        refine g_aload_n C dMo_digs_39 rfl ?_
        refine g_iconst (v := Int32.ofInt (0)) C dMo_digs_40 (by decide) ?_
        refine g_iload_n C dMo_digs_41 rfl ?_
        refine g_iadd C dMo_digs_42 ?_
        obtain ⟨g_43, h⟩ := x_g h
        refine x_iald (m := 37) C dMo_digs_43 h1 (by decide) rfl rfl g_43 ?_
        refine g_bipush (v := Int32.ofInt (10)) C dMo_digs_44 (by decide) ?_
        refine x_idiv C dMo_digs_46 (by decide) ?_
        refine g_iconst (v := Int32.ofInt (1)) C dMo_digs_47 (by decide) ?_
        refine g_iadd C dMo_digs_48 ?_
        exact g_sub (hk_49 ((((I_2 a1 (((Int32.ofInt (0)) + x2_2)).toInt.toNat) / (Int32.ofInt (10))) + (Int32.ofInt (1)))) h) ⟨rfl, rfl, rfl, trivial⟩
      · have h := x_neg (Int.not_le.mpr c_28) h
        refine g_aload_n C dMo_digs_31 rfl ?_
        refine g_iconst (v := Int32.ofInt (0)) C dMo_digs_32 (by decide) ?_
        refine g_iload_n C dMo_digs_33 rfl ?_
        refine g_iadd C dMo_digs_34 ?_
        obtain ⟨g_35, h⟩ := x_g h
        refine x_iald (m := 37) C dMo_digs_35 h1 (by decide) rfl rfl g_35 ?_
        refine g_goto 49 C dMo_digs_36 (by decide) ?_
        exact g_sub (hk_49 ((I_2 a1 (((Int32.ofInt (0)) + x2_2)).toInt.toNat)) h) ⟨rfl, rfl, rfl, trivial⟩
  exact g_sub (lp_2 ((Int32.ofInt (0))) I0 h) ⟨rfl, rfl, rfl, trivial⟩
def B_Mo_digsU_2 (N : Nat) (O : WO) (a0 : Nat) (a1 : Nat) (rec_2 : Int32 → WI → Option (WI)) (x2_2 : Int32) (I_2 : WI) : Option (WI) := if ((I_2 (rf O a0 3) 8)).toInt ≤ (x2_2).toInt then (some I_2) else (if 0 ≤ (((Int32.ofInt (0)) + x2_2)).toInt ∧ (((Int32.ofInt (0)) + x2_2)).toInt < 37 then (if 0 ≤ (((Int32.ofInt (0)) + x2_2)).toInt ∧ (((Int32.ofInt (0)) + x2_2)).toInt < 37 then (jn (fun (s0_49 : Int32) => if 0 ≤ (((Int32.ofInt (0)) + x2_2)).toInt ∧ (((Int32.ofInt (0)) + x2_2)).toInt < 37 then (if 0 ≤ (((Int32.ofInt (0)) + x2_2)).toInt ∧ (((Int32.ofInt (0)) + x2_2)).toInt < 37 then (lb (up2 I_2 a1 (((Int32.ofInt (0)) + x2_2)).toInt.toNat ((I_2 a1 (((Int32.ofInt (0)) + x2_2)).toInt.toNat) - s0_49)) fun I1 => lb (up2 I1 a1 21 ((I1 a1 21) + s0_49)) fun I2 => lb (x2_2 + Int32.ofInt (1)) fun v2_67 => rec_2 (v2_67) I2) else none) else none) fun k_49 => if ((((I_2 a1 (((Int32.ofInt (0)) + x2_2)).toInt.toNat) / (Int32.ofInt (10))) + (Int32.ofInt (1)))).toInt ≤ ((I_2 a1 (((Int32.ofInt (0)) + x2_2)).toInt.toNat)).toInt then (if 0 ≤ (((Int32.ofInt (0)) + x2_2)).toInt ∧ (((Int32.ofInt (0)) + x2_2)).toInt < 37 then (k_49 ((((I_2 a1 (((Int32.ofInt (0)) + x2_2)).toInt.toNat) / (Int32.ofInt (10))) + (Int32.ofInt (1))))) else none) else (if 0 ≤ (((Int32.ofInt (0)) + x2_2)).toInt ∧ (((Int32.ofInt (0)) + x2_2)).toInt < 37 then (k_49 ((I_2 a1 (((Int32.ofInt (0)) + x2_2)).toInt.toNat))) else none)) else none) else none)
def F_Mo_digsU (N : Nat) (O : WO) (I0 : WI) (J0 : WJ) (a0 : Nat) (a1 : Nat) : Option (WI) := lp (B_Mo_digsU_2 N O a0 a1) (fun _ _ => none) N ((Int32.ofInt (0))) I0
set_option maxHeartbeats 4000000 in
set_option maxRecDepth 100000 in
theorem f_Mo_digsU {P : List Nat} {K : Nat → Nat} {N : Nat} {O : WO} {I0 : WI} {J0 : WJ} (hT : TR P K O) {a0 : Nat} (h0 : a0 ∈ P ∧ K a0 = 10) {a1 : Nat} (h1 : a1 ∈ P ∧ K a1 = 50) (hN3 : NN P K O a0 3 9) {I' : WI} (h : F_Mo_digsU N O I0 J0 a0 a1 = some I') : Con yMo_digs bMo_digs 4 none ({ frames := 0, cells := 0, slots := 0, locals := 0 } : Room) P K I0 O J0 [.ref a0, .ref a1] (EPo none I' J0 P K O) := by
  refine Con.ofG mfMo_digs (Nat.le_of_ble_eq_true rfl) ?_
  intro X C E
  unfold F_Mo_digsU at h
  refine g_iconst (v := Int32.ofInt (0)) C dMo_digs_0 (by decide) ?_
  refine g_istore_n (i := 2) C dMo_digs_1 rfl (by decide) ?_
  have lp_2 : ∀ (x2_2 : Int32) (I_2 : WI), lp (B_Mo_digsU_2 N O a0 a1) (fun _ _ => none) N x2_2 I_2 = some I' → GG X 4 P K I_2 O J0 0 0 2 [(0, .ref a0), (1, .ref a1), (2, .int x2_2)] [] := by
    refine x_lp (fun (rec_2 : Int32 → WI → Option (WI)) => ∀ (x2_2 : Int32) (I_2 : WI), rec_2 x2_2 I_2 = some I' → GG X 4 P K I_2 O J0 0 0 2 [(0, .ref a0), (1, .ref a1), (2, .int x2_2)] []) (fun _ _ h => by cases h) (fun rec_2 hr_2 x2_2 I_2 h => ?_) N
    unfold B_Mo_digsU_2 at h
    refine g_iload_n C dMo_digs_2 rfl ?_
    refine g_aload_n C dMo_digs_3 rfl ?_
    refine gt_getS C dMo_digs_4 fl_Mo_290 h0 hN3.1 ?_
    refine g_geti C dMo_digs_7 fl_Mo_191 hN3.2 ?_
    refine gt_icmp_ge 73 C dMo_digs_10 (by decide) rfl rfl (fun c_10 => ?_) (fun c_10 => ?_)
    · have h := x_pos c_10 h
      exact x_vret1 C E dMo_digs_73 ⟨Nat.zero_le _, Nat.zero_le _⟩ h
    · have h := x_neg (Int.not_le.mpr c_10) h
      refine g_aload_n C dMo_digs_13 rfl ?_
      refine g_iconst (v := Int32.ofInt (0)) C dMo_digs_14 (by decide) ?_
      refine g_iload_n C dMo_digs_15 rfl ?_
      refine g_iadd C dMo_digs_16 ?_
      obtain ⟨g_17, h⟩ := x_g h
      refine x_iald (m := 37) C dMo_digs_17 h1 (by decide) rfl rfl g_17 ?_
      refine g_bipush (v := Int32.ofInt (10)) C dMo_digs_18 (by decide) ?_
      refine x_idiv C dMo_digs_20 (by decide) ?_
      refine g_iconst (v := Int32.ofInt (1)) C dMo_digs_21 (by decide) ?_
      refine g_iadd C dMo_digs_22 ?_
      refine g_aload_n C dMo_digs_23 rfl ?_
      refine g_iconst (v := Int32.ofInt (0)) C dMo_digs_24 (by decide) ?_
      refine g_iload_n C dMo_digs_25 rfl ?_
      refine g_iadd C dMo_digs_26 ?_
      obtain ⟨g_27, h⟩ := x_g h
      refine x_iald (m := 37) C dMo_digs_27 h1 (by decide) rfl rfl g_27 ?_
      refine x_jn h (fun (k_49 : Int32 → Option (WI)) => ∀ (s0_49 : Int32), k_49 s0_49 = some I' → GG X 4 P K I_2 O J0 0 0 49 [(0, .ref a0), (1, .ref a1), (2, .int x2_2)] [.int s0_49]) (fun s0_49 h => ?_) (fun k_49 hk_49 h => ?_)
      · skip
        refine g_istore_n (i := 3) C dMo_digs_49 rfl (by decide) ?_
        refine g_aload_n C dMo_digs_50 rfl ?_
        refine g_iconst (v := Int32.ofInt (0)) C dMo_digs_51 (by decide) ?_
        refine g_iload_n C dMo_digs_52 rfl ?_
        refine g_iadd C dMo_digs_53 ?_
        refine g_dup2 C dMo_digs_54 rfl rfl ?_
        obtain ⟨g_55, h⟩ := x_g h
        refine x_iald (m := 37) C dMo_digs_55 h1 (by decide) rfl rfl g_55 ?_
        refine g_iload_n C dMo_digs_56 rfl ?_
        refine g_isub C dMo_digs_57 ?_
        obtain ⟨g_58, h⟩ := x_g h
        refine x_iast (m := 37) C dMo_digs_58 h1 (by decide) rfl rfl g_58 h (fun I1 h => ?_)
        refine g_aload_n C dMo_digs_59 rfl ?_
        refine g_bipush (v := Int32.ofInt (21)) C dMo_digs_60 (by decide) ?_
        refine g_dup2 C dMo_digs_62 rfl rfl ?_
        refine x_ialdc (m := 37) (c := 21) C dMo_digs_63 h1 (by decide) rfl rfl rfl (by decide) ?_
        refine g_iload_n C dMo_digs_64 rfl ?_
        refine g_iadd C dMo_digs_65 ?_
        refine x_iastc (m := 37) (c := 21) C dMo_digs_66 h1 (by decide) rfl rfl rfl (by decide) h (fun I2 h => ?_)
        refine x_iinc C dMo_digs_67 rfl (by decide) h (fun v2_67 h => ?_)
        refine g_goto 2 C dMo_digs_70 (by decide) ?_
        exact g_sub (hr_2 (v2_67) I2 h) ⟨rfl, rfl, rfl, trivial⟩
      refine gt_icmp_le 39 C dMo_digs_28 (by decide) rfl rfl (fun c_28 => ?_) (fun c_28 => ?_)
      · have h := x_pos c_28 h
        refine g_aload_n C dMo_digs_39 rfl ?_
        refine g_iconst (v := Int32.ofInt (0)) C dMo_digs_40 (by decide) ?_
        refine g_iload_n C dMo_digs_41 rfl ?_
        refine g_iadd C dMo_digs_42 ?_
        obtain ⟨g_43, h⟩ := x_g h
        refine x_iald (m := 37) C dMo_digs_43 h1 (by decide) rfl rfl g_43 ?_
        refine g_bipush (v := Int32.ofInt (10)) C dMo_digs_44 (by decide) ?_
        refine x_idiv C dMo_digs_46 (by decide) ?_
        refine g_iconst (v := Int32.ofInt (1)) C dMo_digs_47 (by decide) ?_
        refine g_iadd C dMo_digs_48 ?_
        exact g_sub (hk_49 ((((I_2 a1 (((Int32.ofInt (0)) + x2_2)).toInt.toNat) / (Int32.ofInt (10))) + (Int32.ofInt (1)))) h) ⟨rfl, rfl, rfl, trivial⟩
      · have h := x_neg (Int.not_le.mpr c_28) h
        refine g_aload_n C dMo_digs_31 rfl ?_
        refine g_iconst (v := Int32.ofInt (0)) C dMo_digs_32 (by decide) ?_
        refine g_iload_n C dMo_digs_33 rfl ?_
        refine g_iadd C dMo_digs_34 ?_
        obtain ⟨g_35, h⟩ := x_g h
        refine x_iald (m := 37) C dMo_digs_35 h1 (by decide) rfl rfl g_35 ?_
        refine g_goto 49 C dMo_digs_36 (by decide) ?_
        exact g_sub (hk_49 ((I_2 a1 (((Int32.ofInt (0)) + x2_2)).toInt.toNat)) h) ⟨rfl, rfl, rfl, trivial⟩
  exact g_sub (lp_2 ((Int32.ofInt (0))) I0 h) ⟨rfl, rfl, rfl, trivial⟩
def F_Mo_effectOf (N : Nat) (O : WO) (I0 : WI) (J0 : WJ) (a0 : Nat) (x1 : Int32) (x2 : Int32) (x3 : Int32) : Option (Int32) := if ¬ ((I0 (rf O a0 3) 0)).toInt = 0 then (lb (((((Int32.ofInt (100)) * x1) / (I0 (rf O a0 3) 0)) - (Int32.ofInt (50)))) fun v4_15 => lb (((I0 (rf O a0 3) 4) / (Int32.ofInt (2)))) fun v5_26 => jn (fun (s0_56 : Int32) => jn (fun (s0_73 : Int32) => if ¬ ((I0 (rf O a0 3) 4)).toInt = 0 then (lb (((((Int32.ofInt (100)) - s0_73) * s0_56) / (I0 (rf O a0 3) 4))) fun v7_85 => if 0 ≤ (x3).toInt ∧ (x3).toInt < 4 then (if ¬ (((Int32.ofInt (9)) + (I0 (rf O (rf O a0 3) 14) (x3).toInt.toNat))).toInt = 0 then (some (((Int32.ofInt (10)) * v7_85) / ((Int32.ofInt (9)) + (I0 (rf O (rf O a0 3) 14) (x3).toInt.toNat)))) else none) else none) else none) fun k_73 => if 0 ≤ (v4_15).toInt then (k_73 (v4_15)) else (k_73 ((-v4_15)))) fun k_56 => if (v5_26).toInt ≤ (((I0 (rf O a0 3) 4) - x2)).toInt then (k_56 (((I0 (rf O a0 3) 4) - x2))) else (k_56 (v5_26))) else none
set_option maxHeartbeats 4000000 in
set_option maxRecDepth 100000 in
theorem f_Mo_effectOf {P : List Nat} {K : Nat → Nat} {N : Nat} {O : WO} {I0 : WI} {J0 : WJ} (hT : TR P K O) {a0 : Nat} (h0 : a0 ∈ P ∧ K a0 = 10) {x1 : Int32} {x2 : Int32} {x3 : Int32} (hN3 : NN P K O a0 3 9) {r : Int32} (h : F_Mo_effectOf N O I0 J0 a0 x1 x2 x3 = some r) : Con yMo_effectOf bMo_effectOf 8 (some .int) ({ frames := 0, cells := 0, slots := 0, locals := 0 } : Room) P K I0 O J0 [.ref a0, .int x1, .int x2, .int x3] (EPo (some (.int r)) I0 J0 P K O) := by
  refine Con.ofG mfMo_effectOf (Nat.le_of_ble_eq_true rfl) ?_
  intro X C E
  unfold F_Mo_effectOf at h
  refine g_bipush (v := Int32.ofInt (100)) C dMo_effectOf_0 (by decide) ?_
  refine g_iload_n C dMo_effectOf_2 rfl ?_
  refine g_imul C dMo_effectOf_3 ?_
  refine g_aload_n C dMo_effectOf_4 rfl ?_
  refine gt_getS C dMo_effectOf_5 fl_Mo_290 h0 hN3.1 ?_
  refine g_geti C dMo_effectOf_8 fl_Mo_176 hN3.2 ?_
  obtain ⟨g_11, h⟩ := x_g h
  refine x_idiv C dMo_effectOf_11 g_11 ?_
  refine g_bipush (v := Int32.ofInt (50)) C dMo_effectOf_12 (by decide) ?_
  refine g_isub C dMo_effectOf_14 ?_
  refine x_istore C dMo_effectOf_15 (by decide) h (fun v4_15 h => ?_)
  refine g_aload_n C dMo_effectOf_17 rfl ?_
  refine gt_getS C dMo_effectOf_18 fl_Mo_290 h0 hN3.1 ?_
  refine g_geti C dMo_effectOf_21 fl_Mo_183 hN3.2 ?_
  refine g_iconst (v := Int32.ofInt (2)) C dMo_effectOf_24 (by decide) ?_
  refine x_idiv C dMo_effectOf_25 (by decide) ?_
  refine x_istore C dMo_effectOf_26 (by decide) h (fun v5_26 h => ?_)
  refine g_aload_n C dMo_effectOf_28 rfl ?_
  refine gt_getS C dMo_effectOf_29 fl_Mo_290 h0 hN3.1 ?_
  refine g_geti C dMo_effectOf_32 fl_Mo_183 hN3.2 ?_
  refine g_iload_n C dMo_effectOf_35 rfl ?_
  refine g_isub C dMo_effectOf_36 ?_
  refine g_iload C dMo_effectOf_37 rfl ?_
  refine x_jn h (fun (k_56 : Int32 → Option (Int32)) => ∀ (s0_56 : Int32), k_56 s0_56 = some r → GG X 8 P K I0 O J0 0 0 56 [(0, .ref a0), (1, .int x1), (2, .int x2), (3, .int x3), (4, .int v4_15), (5, .int v5_26)] [.int s0_56]) (fun s0_56 h => ?_) (fun k_56 hk_56 h => ?_)
  · skip
    refine g_istore C dMo_effectOf_56 (by decide) ?_
    refine g_bipush (v := Int32.ofInt (100)) C dMo_effectOf_58 (by decide) ?_
    refine g_iload C dMo_effectOf_60 rfl ?_
    refine x_jn h (fun (k_73 : Int32 → Option (Int32)) => ∀ (s0_73 : Int32), k_73 s0_73 = some r → GG X 8 P K I0 O J0 0 0 73 [(0, .ref a0), (1, .int x1), (2, .int x2), (3, .int x3), (4, .int v4_15), (5, .int v5_26), (6, .int s0_56)] [.int s0_73, .int (Int32.ofInt (100))]) (fun s0_73 h => ?_) (fun k_73 hk_73 h => ?_)
    · skip
      refine g_isub C dMo_effectOf_73 ?_
      refine g_iload C dMo_effectOf_74 rfl ?_
      refine g_imul C dMo_effectOf_76 ?_
      refine g_aload_n C dMo_effectOf_77 rfl ?_
      refine gt_getS C dMo_effectOf_78 fl_Mo_290 h0 hN3.1 ?_
      refine g_geti C dMo_effectOf_81 fl_Mo_183 hN3.2 ?_
      obtain ⟨g_84, h⟩ := x_g h
      refine x_idiv C dMo_effectOf_84 g_84 ?_
      refine x_istore C dMo_effectOf_85 (by decide) h (fun v7_85 h => ?_)
      refine g_bipush (v := Int32.ofInt (10)) C dMo_effectOf_87 (by decide) ?_
      refine g_iload C dMo_effectOf_89 rfl ?_
      refine g_imul C dMo_effectOf_91 ?_
      refine g_bipush (v := Int32.ofInt (9)) C dMo_effectOf_92 (by decide) ?_
      refine g_aload_n C dMo_effectOf_94 rfl ?_
      refine gt_getS C dMo_effectOf_95 fl_Mo_290 h0 hN3.1 ?_
      have t_98 := rf_ok hT hN3.2 (show sp 9 14 = some 44 from rfl)
      refine x_getr C dMo_effectOf_98 fl_Mo_276 hN3.2 hT (show sp 9 14 = some 44 from rfl) ?_
      refine g_iload_n C dMo_effectOf_101 rfl ?_
      obtain ⟨g_102, h⟩ := x_g h
      refine x_iald (m := 4) C dMo_effectOf_102 t_98 (by decide) rfl rfl g_102 ?_
      refine g_iadd C dMo_effectOf_103 ?_
      obtain ⟨g_104, h⟩ := x_g h
      refine x_idiv C dMo_effectOf_104 g_104 ?_
      exact x_iret0 C E dMo_effectOf_105 ⟨Nat.zero_le _, Nat.zero_le _⟩ h
    refine gt_if_ge 71 C dMo_effectOf_62 (by decide) rfl (fun c_62 => ?_) (fun c_62 => ?_)
    · have h := x_pos c_62 h
      refine g_iload C dMo_effectOf_71 rfl ?_
      exact g_sub (hk_73 (v4_15) h) ⟨rfl, rfl, rfl, rfl, rfl, rfl, rfl, trivial⟩
    · have h := x_neg (Int.not_le.mpr c_62) h
      refine g_iload C dMo_effectOf_65 rfl ?_
      refine g_ineg C dMo_effectOf_67 ?_
      refine g_goto 73 C dMo_effectOf_68 (by decide) ?_
      exact g_sub (hk_73 ((-v4_15)) h) ⟨rfl, rfl, rfl, rfl, rfl, rfl, rfl, trivial⟩
  refine gt_icmp_ge 47 C dMo_effectOf_39 (by decide) rfl rfl (fun c_39 => ?_) (fun c_39 => ?_)
  · have h := x_pos c_39 h
    refine g_aload_n C dMo_effectOf_47 rfl ?_
    refine gt_getS C dMo_effectOf_48 fl_Mo_290 h0 hN3.1 ?_
    refine g_geti C dMo_effectOf_51 fl_Mo_183 hN3.2 ?_
    refine g_iload_n C dMo_effectOf_54 rfl ?_
    refine g_isub C dMo_effectOf_55 ?_
    exact g_sub (hk_56 (((I0 (rf O a0 3) 4) - x2)) h) ⟨rfl, rfl, rfl, rfl, rfl, rfl, trivial⟩
  · have h := x_neg (Int.not_le.mpr c_39) h
    refine g_iload C dMo_effectOf_42 rfl ?_
    refine g_goto 56 C dMo_effectOf_44 (by decide) ?_
    exact g_sub (hk_56 (v5_26) h) ⟨rfl, rfl, rfl, rfl, rfl, rfl, trivial⟩
def F_Mo_passes (N : Nat) (O : WO) (I0 : WI) (J0 : WJ) (a0 : Nat) (x1 : Int32) (x2 : Int32) : Option (Int32) := if (x1).toInt < ((I0 (rf O a0 3) 2)).toInt then (if ((x2 * (I0 (rf O a0 3) 3))).toInt ≤ 100 then (some (x2 * (I0 (rf O a0 3) 3))) else (some (Int32.ofInt (100)))) else (some (Int32.ofInt (100)))
set_option maxHeartbeats 4000000 in
set_option maxRecDepth 100000 in
theorem f_Mo_passes {P : List Nat} {K : Nat → Nat} {N : Nat} {O : WO} {I0 : WI} {J0 : WJ} (hT : TR P K O) {a0 : Nat} (h0 : a0 ∈ P ∧ K a0 = 10) {x1 : Int32} {x2 : Int32} (hN3 : NN P K O a0 3 9) {r : Int32} (h : F_Mo_passes N O I0 J0 a0 x1 x2 = some r) : Con yMo_passes bMo_passes 3 (some .int) ({ frames := 0, cells := 0, slots := 0, locals := 0 } : Room) P K I0 O J0 [.ref a0, .int x1, .int x2] (EPo (some (.int r)) I0 J0 P K O) := by
  refine Con.ofG mfMo_passes (Nat.le_of_ble_eq_true rfl) ?_
  intro X C E
  unfold F_Mo_passes at h
  refine g_iload_n C dMo_passes_0 rfl ?_
  refine g_aload_n C dMo_passes_1 rfl ?_
  refine gt_getS C dMo_passes_2 fl_Mo_290 h0 hN3.1 ?_
  refine g_geti C dMo_passes_5 fl_Mo_181 hN3.2 ?_
  refine gt_icmp_lt 14 C dMo_passes_8 (by decide) rfl rfl (fun c_8 => ?_) (fun c_8 => ?_)
  · have h := x_pos c_8 h
    refine g_iload_n C dMo_passes_14 rfl ?_
    refine g_aload_n C dMo_passes_15 rfl ?_
    refine gt_getS C dMo_passes_16 fl_Mo_290 h0 hN3.1 ?_
    refine g_geti C dMo_passes_19 fl_Mo_248 hN3.2 ?_
    refine g_imul C dMo_passes_22 ?_
    refine g_bipush (v := Int32.ofInt (100)) C dMo_passes_23 (by decide) ?_
    refine gt_icmp_le 33 C dMo_passes_25 (by decide) rfl (ofI (by decide)) (fun c_25 => ?_) (fun c_25 => ?_)
    · have h := x_pos c_25 h
      refine g_iload_n C dMo_passes_33 rfl ?_
      refine g_aload_n C dMo_passes_34 rfl ?_
      refine gt_getS C dMo_passes_35 fl_Mo_290 h0 hN3.1 ?_
      refine g_geti C dMo_passes_38 fl_Mo_248 hN3.2 ?_
      refine g_imul C dMo_passes_41 ?_
      exact x_iret0 C E dMo_passes_42 ⟨Nat.zero_le _, Nat.zero_le _⟩ h
    · have h := x_neg (Int.not_le.mpr c_25) h
      refine g_bipush (v := Int32.ofInt (100)) C dMo_passes_28 (by decide) ?_
      refine g_goto 42 C dMo_passes_30 (by decide) ?_
      exact x_iret0 C E dMo_passes_42 ⟨Nat.zero_le _, Nat.zero_le _⟩ h
  · have h := x_neg (Int.not_lt.mpr c_8) h
    refine g_bipush (v := Int32.ofInt (100)) C dMo_passes_11 (by decide) ?_
    exact x_iret0 C E dMo_passes_13 ⟨Nat.zero_le _, Nat.zero_le _⟩ h
def B_Mo_grindsS_153 (N : Nat) (O : WO) (a0 : Nat) (a1 : Nat) (J0 : WJ) (rec_153 : Int32 → WI → Option (WI)) (x2_153 : Int32) (I_153 : WI) : Option (WI) := if ((I_153 (rf O a0 3) 8)).toInt ≤ (x2_153).toInt then (some I_153) else (if 0 ≤ (((Int32.ofInt (0)) + x2_153)).toInt ∧ (((Int32.ofInt (0)) + x2_153)).toInt < 37 then (lb ((((I_153 a1 (((Int32.ofInt (0)) + x2_153)).toInt.toNat) * ((Int32.ofInt (20)) + ((Int32.ofInt (10)) * (I_153 a1 35)))) / (Int32.ofInt (100)))) fun v3_183 => bd1 (F_Mo_passes N O I_153 J0 a0 x2_153 (I_153 a1 25)) fun z_191 => lb (((v3_183 * z_191) / (Int32.ofInt (100)))) fun v4_198 => if 0 ≤ (((Int32.ofInt (0)) + x2_153)).toInt ∧ (((Int32.ofInt (0)) + x2_153)).toInt < 37 then (if 0 ≤ (((Int32.ofInt (0)) + x2_153)).toInt ∧ (((Int32.ofInt (0)) + x2_153)).toInt < 37 then (lb (up2 I_153 a1 (((Int32.ofInt (0)) + x2_153)).toInt.toNat ((I_153 a1 (((Int32.ofInt (0)) + x2_153)).toInt.toNat) - v3_183)) fun I5 => if 0 ≤ (((Int32.ofInt (10)) + x2_153)).toInt ∧ (((Int32.ofInt (10)) + x2_153)).toInt < 37 then (lb (up2 I5 a1 (((Int32.ofInt (10)) + x2_153)).toInt.toNat v4_198) fun I6 => if 0 ≤ (((Int32.ofInt (15)) + x2_153)).toInt ∧ (((Int32.ofInt (15)) + x2_153)).toInt < 37 then (if 0 ≤ (((Int32.ofInt (15)) + x2_153)).toInt ∧ (((Int32.ofInt (15)) + x2_153)).toInt < 37 then (lb (up2 I6 a1 (((Int32.ofInt (15)) + x2_153)).toInt.toNat ((I6 a1 (((Int32.ofInt (15)) + x2_153)).toInt.toNat) + v4_198)) fun I7 => if 0 ≤ (((Int32.ofInt (5)) + x2_153)).toInt ∧ (((Int32.ofInt (5)) + x2_153)).toInt < 37 then (lb (up2 I7 a1 (((Int32.ofInt (5)) + x2_153)).toInt.toNat (v3_183 - v4_198)) fun I8 => lb (x2_153 + Int32.ofInt (1)) fun v2_237 => rec_153 (v2_237) I8) else none) else none) else none) else none) else none) else none) else none)
def B_Mo_grindsS_46 (N : Nat) (O : WO) (a0 : Nat) (a1 : Nat) (J0 : WJ) (rec_46 : Int32 → WI → Option (WI)) (x2_46 : Int32) (I_46 : WI) : Option (WI) := if (x2_46).toInt < 0 then (lp (B_Mo_grindsS_153 N O a0 a1 J0) (fun _ _ => none) N ((Int32.ofInt (0))) I_46) else (if 0 ≤ (((Int32.ofInt (0)) + x2_46)).toInt ∧ (((Int32.ofInt (0)) + x2_46)).toInt < 37 then (if 0 ≤ (x2_46).toInt ∧ (x2_46).toInt < 5 then (lb (((((I_46 a1 (((Int32.ofInt (0)) + x2_46)).toInt.toNat) * (I_46 (rf O (rf O a0 3) 12) (x2_46).toInt.toNat)) * (I_46 a1 29)) / (Int32.ofInt (10000)))) fun v3_74 => if 0 ≤ (x2_46).toInt ∧ (x2_46).toInt < 5 then (lb (((v3_74 * (I_46 (rf O (rf O a0 3) 13) (x2_46).toInt.toNat)) / (Int32.ofInt (100)))) fun v4_89 => if 0 ≤ (((Int32.ofInt (0)) + x2_46)).toInt ∧ (((Int32.ofInt (0)) + x2_46)).toInt < 37 then (if 0 ≤ (((Int32.ofInt (0)) + x2_46)).toInt ∧ (((Int32.ofInt (0)) + x2_46)).toInt < 37 then (lb (up2 I_46 a1 (((Int32.ofInt (0)) + x2_46)).toInt.toNat ((I_46 a1 (((Int32.ofInt (0)) + x2_46)).toInt.toNat) - v3_74)) fun I9 => if 0 ≤ ((((Int32.ofInt (0)) + x2_46) + (Int32.ofInt (1)))).toInt ∧ ((((Int32.ofInt (0)) + x2_46) + (Int32.ofInt (1)))).toInt < 37 then (if 0 ≤ ((((Int32.ofInt (0)) + x2_46) + (Int32.ofInt (1)))).toInt ∧ ((((Int32.ofInt (0)) + x2_46) + (Int32.ofInt (1)))).toInt < 37 then (lb (up2 I9 a1 ((((Int32.ofInt (0)) + x2_46) + (Int32.ofInt (1)))).toInt.toNat ((I9 a1 ((((Int32.ofInt (0)) + x2_46) + (Int32.ofInt (1)))).toInt.toNat) + v4_89)) fun I10 => jn (fun (s0_136 : Int32) => if 0 ≤ (((Int32.ofInt (0)) + s0_136)).toInt ∧ (((Int32.ofInt (0)) + s0_136)).toInt < 37 then (if 0 ≤ (((Int32.ofInt (0)) + s0_136)).toInt ∧ (((Int32.ofInt (0)) + s0_136)).toInt < 37 then (lb (up2 I10 a1 (((Int32.ofInt (0)) + s0_136)).toInt.toNat ((I10 a1 (((Int32.ofInt (0)) + s0_136)).toInt.toNat) + (v3_74 - v4_89))) fun I11 => lb (x2_46 + Int32.ofInt (-1)) fun v2_145 => rec_46 (v2_145) I11) else none) else none) fun k_136 => if ((I10 (rf O a0 3) 8)).toInt ≤ ((x2_46 + (Int32.ofInt (2)))).toInt then (k_136 ((x2_46 + (Int32.ofInt (1))))) else (k_136 ((x2_46 + (Int32.ofInt (2)))))) else none) else none) else none) else none) else none) else none) else none)
def F_Mo_grindsS (N : Nat) (O : WO) (I0 : WI) (J0 : WJ) (a0 : Nat) (a1 : Nat) : Option (WI) := bd1 (F_Mo_effectOf N O I0 J0 a0 (I0 a1 28) (I0 a1 24) (I0 a1 36)) fun z_16 => lb (up2 I0 a1 29 z_16) fun I2 => lb (up2 I2 a1 30 (((I2 a1 28) * (I2 a1 29)) / (Int32.ofInt (100)))) fun I3 => lb (((I3 (rf O a0 3) 8) - (Int32.ofInt (2)))) fun v2_45 => lp (B_Mo_grindsS_46 N O a0 a1 J0) (fun _ _ => none) N (v2_45) I3
set_option maxHeartbeats 4000000 in
set_option maxRecDepth 100000 in
theorem f_Mo_grindsS {P : List Nat} {K : Nat → Nat} {N : Nat} {O : WO} {I0 : WI} {J0 : WJ} (hT : TR P K O) {a0 : Nat} (h0 : a0 ∈ P ∧ K a0 = 10) {a1 : Nat} (h1 : a1 ∈ P ∧ K a1 = 31) (hN3 : NN P K O a0 3 9) {I' : WI} (h : F_Mo_grindsS N O I0 J0 a0 a1 = some I') : Con yMo_grinds bMo_grinds 5 none ({ frames := 1, cells := 0, slots := 0, locals := 27 } : Room) P K I0 O J0 [.ref a0, .ref a1] (EPo none I' J0 P K O) := by
  refine Con.ofG mfMo_grinds (Nat.le_of_ble_eq_true rfl) ?_
  intro X C E
  unfold F_Mo_grindsS at h
  refine g_aload_n C dMo_grinds_0 rfl ?_
  refine g_bipush (v := Int32.ofInt (29)) C dMo_grinds_1 (by decide) ?_
  refine g_aload_n C dMo_grinds_3 rfl ?_
  refine g_aload_n C dMo_grinds_4 rfl ?_
  refine g_bipush (v := Int32.ofInt (28)) C dMo_grinds_5 (by decide) ?_
  refine x_ialdc (m := 37) (c := 28) C dMo_grinds_7 h1 (by decide) rfl rfl rfl (by decide) ?_
  refine g_aload_n C dMo_grinds_8 rfl ?_
  refine g_bipush (v := Int32.ofInt (24)) C dMo_grinds_9 (by decide) ?_
  refine x_ialdc (m := 37) (c := 24) C dMo_grinds_11 h1 (by decide) rfl rfl rfl (by decide) ?_
  refine g_aload_n C dMo_grinds_12 rfl ?_
  refine g_bipush (v := Int32.ofInt (36)) C dMo_grinds_13 (by decide) ?_
  refine x_ialdc (m := 37) (c := 36) C dMo_grinds_15 h1 (by decide) rfl rfl rfl (by decide) ?_
  obtain ⟨z_16, e_16, h⟩ := bd1_some h
  refine x_callVi (av := fun ad => [.int (I0 a1 28), .int (I0 a1 24), .int (I0 a1 36)]) C dMo_grinds_16 mfMo_effectOf mvMo_effectOf ln_Mo_316 h0 (by decide) rfl (f_Mo_effectOf hT h0 hN3 e_16) rfl rfl (Nat.le_of_ble_eq_true rfl) ⟨Nat.le_of_ble_eq_true rfl, Nat.le_of_ble_eq_true rfl⟩ ⟨rfl, rfl⟩ ⟨Nat.zero_le _, Nat.zero_le _⟩ ?_
  refine x_iastc (m := 37) (c := 29) C dMo_grinds_19 h1 (by decide) rfl rfl rfl (by decide) h (fun I2 h => ?_)
  refine g_aload_n C dMo_grinds_20 rfl ?_
  refine g_bipush (v := Int32.ofInt (30)) C dMo_grinds_21 (by decide) ?_
  refine g_aload_n C dMo_grinds_23 rfl ?_
  refine g_bipush (v := Int32.ofInt (28)) C dMo_grinds_24 (by decide) ?_
  refine x_ialdc (m := 37) (c := 28) C dMo_grinds_26 h1 (by decide) rfl rfl rfl (by decide) ?_
  refine g_aload_n C dMo_grinds_27 rfl ?_
  refine g_bipush (v := Int32.ofInt (29)) C dMo_grinds_28 (by decide) ?_
  refine x_ialdc (m := 37) (c := 29) C dMo_grinds_30 h1 (by decide) rfl rfl rfl (by decide) ?_
  refine g_imul C dMo_grinds_31 ?_
  refine g_bipush (v := Int32.ofInt (100)) C dMo_grinds_32 (by decide) ?_
  refine x_idiv C dMo_grinds_34 (by decide) ?_
  refine x_iastc (m := 37) (c := 30) C dMo_grinds_35 h1 (by decide) rfl rfl rfl (by decide) h (fun I3 h => ?_)
  refine g_aload_n C dMo_grinds_36 rfl ?_
  refine gt_getS C dMo_grinds_37 fl_Mo_290 h0 hN3.1 ?_
  refine g_geti C dMo_grinds_40 fl_Mo_191 hN3.2 ?_
  refine g_iconst (v := Int32.ofInt (2)) C dMo_grinds_43 (by decide) ?_
  refine g_isub C dMo_grinds_44 ?_
  refine x_istore_n (i := 2) C dMo_grinds_45 rfl (by decide) h (fun v2_45 h => ?_)
  have lp_46 : ∀ (x2_46 : Int32) (I_46 : WI), lp (B_Mo_grindsS_46 N O a0 a1 J0) (fun _ _ => none) N x2_46 I_46 = some I' → GG X 5 P K I_46 O J0 0 0 46 [(0, .ref a0), (1, .ref a1), (2, .int x2_46)] [] := by
    refine x_lp (fun (rec_46 : Int32 → WI → Option (WI)) => ∀ (x2_46 : Int32) (I_46 : WI), rec_46 x2_46 I_46 = some I' → GG X 5 P K I_46 O J0 0 0 46 [(0, .ref a0), (1, .ref a1), (2, .int x2_46)] []) (fun _ _ h => by cases h) (fun rec_46 hr_46 x2_46 I_46 h => ?_) N
    unfold B_Mo_grindsS_46 at h
    refine g_iload_n C dMo_grinds_46 rfl ?_
    refine gt_if_lt 151 C dMo_grinds_47 (by decide) rfl (fun c_47 => ?_) (fun c_47 => ?_)
    · have h := x_pos c_47 h
      refine g_iconst (v := Int32.ofInt (0)) C dMo_grinds_151 (by decide) ?_
      refine g_istore_n (i := 2) C dMo_grinds_152 rfl (by decide) ?_
      have lp_153 : ∀ (x2_153 : Int32) (I_153 : WI), lp (B_Mo_grindsS_153 N O a0 a1 J0) (fun _ _ => none) N x2_153 I_153 = some I' → GG X 5 P K I_153 O J0 0 0 153 [(0, .ref a0), (1, .ref a1), (2, .int x2_153)] [] := by
        refine x_lp (fun (rec_153 : Int32 → WI → Option (WI)) => ∀ (x2_153 : Int32) (I_153 : WI), rec_153 x2_153 I_153 = some I' → GG X 5 P K I_153 O J0 0 0 153 [(0, .ref a0), (1, .ref a1), (2, .int x2_153)] []) (fun _ _ h => by cases h) (fun rec_153 hr_153 x2_153 I_153 h => ?_) N
        unfold B_Mo_grindsS_153 at h
        refine g_iload_n C dMo_grinds_153 rfl ?_
        refine g_aload_n C dMo_grinds_154 rfl ?_
        refine gt_getS C dMo_grinds_155 fl_Mo_290 h0 hN3.1 ?_
        refine g_geti C dMo_grinds_158 fl_Mo_191 hN3.2 ?_
        refine gt_icmp_ge 243 C dMo_grinds_161 (by decide) rfl rfl (fun c_161 => ?_) (fun c_161 => ?_)
        · have h := x_pos c_161 h
          exact x_vret1 C E dMo_grinds_243 ⟨Nat.zero_le _, Nat.zero_le _⟩ h
        · have h := x_neg (Int.not_le.mpr c_161) h
          refine g_aload_n C dMo_grinds_164 rfl ?_
          refine g_iconst (v := Int32.ofInt (0)) C dMo_grinds_165 (by decide) ?_
          refine g_iload_n C dMo_grinds_166 rfl ?_
          refine g_iadd C dMo_grinds_167 ?_
          obtain ⟨g_168, h⟩ := x_g h
          refine x_iald (m := 37) C dMo_grinds_168 h1 (by decide) rfl rfl g_168 ?_
          refine g_bipush (v := Int32.ofInt (20)) C dMo_grinds_169 (by decide) ?_
          refine g_bipush (v := Int32.ofInt (10)) C dMo_grinds_171 (by decide) ?_
          refine g_aload_n C dMo_grinds_173 rfl ?_
          refine g_bipush (v := Int32.ofInt (35)) C dMo_grinds_174 (by decide) ?_
          refine x_ialdc (m := 37) (c := 35) C dMo_grinds_176 h1 (by decide) rfl rfl rfl (by decide) ?_
          refine g_imul C dMo_grinds_177 ?_
          refine g_iadd C dMo_grinds_178 ?_
          refine g_imul C dMo_grinds_179 ?_
          refine g_bipush (v := Int32.ofInt (100)) C dMo_grinds_180 (by decide) ?_
          refine x_idiv C dMo_grinds_182 (by decide) ?_
          refine x_istore_n (i := 3) C dMo_grinds_183 rfl (by decide) h (fun v3_183 h => ?_)
          refine g_iload_n C dMo_grinds_184 rfl ?_
          refine g_aload_n C dMo_grinds_185 rfl ?_
          refine g_iload_n C dMo_grinds_186 rfl ?_
          refine g_aload_n C dMo_grinds_187 rfl ?_
          refine g_bipush (v := Int32.ofInt (25)) C dMo_grinds_188 (by decide) ?_
          refine x_ialdc (m := 37) (c := 25) C dMo_grinds_190 h1 (by decide) rfl rfl rfl (by decide) ?_
          obtain ⟨z_191, e_191, h⟩ := bd1_some h
          refine x_callVi (av := fun ad => [.int x2_153, .int (I_153 a1 25)]) C dMo_grinds_191 mfMo_passes mvMo_passes ln_Mo_320 h0 (by decide) rfl (f_Mo_passes hT h0 hN3 e_191) rfl rfl (Nat.le_of_ble_eq_true rfl) ⟨Nat.le_of_ble_eq_true rfl, Nat.le_of_ble_eq_true rfl⟩ ⟨rfl, rfl⟩ ⟨Nat.zero_le _, Nat.zero_le _⟩ ?_
          refine g_imul C dMo_grinds_194 ?_
          refine g_bipush (v := Int32.ofInt (100)) C dMo_grinds_195 (by decide) ?_
          refine x_idiv C dMo_grinds_197 (by decide) ?_
          refine x_istore C dMo_grinds_198 (by decide) h (fun v4_198 h => ?_)
          refine g_aload_n C dMo_grinds_200 rfl ?_
          refine g_iconst (v := Int32.ofInt (0)) C dMo_grinds_201 (by decide) ?_
          refine g_iload_n C dMo_grinds_202 rfl ?_
          refine g_iadd C dMo_grinds_203 ?_
          refine g_dup2 C dMo_grinds_204 rfl rfl ?_
          obtain ⟨g_205, h⟩ := x_g h
          refine x_iald (m := 37) C dMo_grinds_205 h1 (by decide) rfl rfl g_205 ?_
          refine g_iload_n C dMo_grinds_206 rfl ?_
          refine g_isub C dMo_grinds_207 ?_
          obtain ⟨g_208, h⟩ := x_g h
          refine x_iast (m := 37) C dMo_grinds_208 h1 (by decide) rfl rfl g_208 h (fun I5 h => ?_)
          refine g_aload_n C dMo_grinds_209 rfl ?_
          refine g_bipush (v := Int32.ofInt (10)) C dMo_grinds_210 (by decide) ?_
          refine g_iload_n C dMo_grinds_212 rfl ?_
          refine g_iadd C dMo_grinds_213 ?_
          refine g_iload C dMo_grinds_214 rfl ?_
          obtain ⟨g_216, h⟩ := x_g h
          refine x_iast (m := 37) C dMo_grinds_216 h1 (by decide) rfl rfl g_216 h (fun I6 h => ?_)
          refine g_aload_n C dMo_grinds_217 rfl ?_
          refine g_bipush (v := Int32.ofInt (15)) C dMo_grinds_218 (by decide) ?_
          refine g_iload_n C dMo_grinds_220 rfl ?_
          refine g_iadd C dMo_grinds_221 ?_
          refine g_dup2 C dMo_grinds_222 rfl rfl ?_
          obtain ⟨g_223, h⟩ := x_g h
          refine x_iald (m := 37) C dMo_grinds_223 h1 (by decide) rfl rfl g_223 ?_
          refine g_iload C dMo_grinds_224 rfl ?_
          refine g_iadd C dMo_grinds_226 ?_
          obtain ⟨g_227, h⟩ := x_g h
          refine x_iast (m := 37) C dMo_grinds_227 h1 (by decide) rfl rfl g_227 h (fun I7 h => ?_)
          refine g_aload_n C dMo_grinds_228 rfl ?_
          refine g_iconst (v := Int32.ofInt (5)) C dMo_grinds_229 (by decide) ?_
          refine g_iload_n C dMo_grinds_230 rfl ?_
          refine g_iadd C dMo_grinds_231 ?_
          refine g_iload_n C dMo_grinds_232 rfl ?_
          refine g_iload C dMo_grinds_233 rfl ?_
          refine g_isub C dMo_grinds_235 ?_
          obtain ⟨g_236, h⟩ := x_g h
          refine x_iast (m := 37) C dMo_grinds_236 h1 (by decide) rfl rfl g_236 h (fun I8 h => ?_)
          refine x_iinc C dMo_grinds_237 rfl (by decide) h (fun v2_237 h => ?_)
          refine g_goto 153 C dMo_grinds_240 (by decide) ?_
          exact g_sub (hr_153 (v2_237) I8 h) ⟨rfl, rfl, rfl, trivial⟩
      exact g_sub (lp_153 ((Int32.ofInt (0))) I_46 h) ⟨rfl, rfl, rfl, trivial⟩
    · have h := x_neg (Int.not_lt.mpr c_47) h
      refine g_aload_n C dMo_grinds_50 rfl ?_
      refine g_iconst (v := Int32.ofInt (0)) C dMo_grinds_51 (by decide) ?_
      refine g_iload_n C dMo_grinds_52 rfl ?_
      refine g_iadd C dMo_grinds_53 ?_
      obtain ⟨g_54, h⟩ := x_g h
      refine x_iald (m := 37) C dMo_grinds_54 h1 (by decide) rfl rfl g_54 ?_
      refine g_aload_n C dMo_grinds_55 rfl ?_
      refine gt_getS C dMo_grinds_56 fl_Mo_290 h0 hN3.1 ?_
      have t_59 := rf_ok hT hN3.2 (show sp 9 12 = some 43 from rfl)
      refine x_getr C dMo_grinds_59 fl_Mo_267 hN3.2 hT (show sp 9 12 = some 43 from rfl) ?_
      refine g_iload_n C dMo_grinds_62 rfl ?_
      obtain ⟨g_63, h⟩ := x_g h
      refine x_iald (m := 5) C dMo_grinds_63 t_59 (by decide) rfl rfl g_63 ?_
      refine g_imul C dMo_grinds_64 ?_
      refine g_aload_n C dMo_grinds_65 rfl ?_
      refine g_bipush (v := Int32.ofInt (29)) C dMo_grinds_66 (by decide) ?_
      refine x_ialdc (m := 37) (c := 29) C dMo_grinds_68 h1 (by decide) rfl rfl rfl (by decide) ?_
      refine g_imul C dMo_grinds_69 ?_
      refine g_sipush (v := Int32.ofInt (10000)) C dMo_grinds_70 (by decide) ?_
      refine x_idiv C dMo_grinds_73 (by decide) ?_
      refine x_istore_n (i := 3) C dMo_grinds_74 rfl (by decide) h (fun v3_74 h => ?_)
      refine g_iload_n C dMo_grinds_75 rfl ?_
      refine g_aload_n C dMo_grinds_76 rfl ?_
      refine gt_getS C dMo_grinds_77 fl_Mo_290 h0 hN3.1 ?_
      have t_80 := rf_ok hT hN3.2 (show sp 9 13 = some 43 from rfl)
      refine x_getr C dMo_grinds_80 fl_Mo_270 hN3.2 hT (show sp 9 13 = some 43 from rfl) ?_
      refine g_iload_n C dMo_grinds_83 rfl ?_
      obtain ⟨g_84, h⟩ := x_g h
      refine x_iald (m := 5) C dMo_grinds_84 t_80 (by decide) rfl rfl g_84 ?_
      refine g_imul C dMo_grinds_85 ?_
      refine g_bipush (v := Int32.ofInt (100)) C dMo_grinds_86 (by decide) ?_
      refine x_idiv C dMo_grinds_88 (by decide) ?_
      refine x_istore C dMo_grinds_89 (by decide) h (fun v4_89 h => ?_)
      refine g_aload_n C dMo_grinds_91 rfl ?_
      refine g_iconst (v := Int32.ofInt (0)) C dMo_grinds_92 (by decide) ?_
      refine g_iload_n C dMo_grinds_93 rfl ?_
      refine g_iadd C dMo_grinds_94 ?_
      refine g_dup2 C dMo_grinds_95 rfl rfl ?_
      obtain ⟨g_96, h⟩ := x_g h
      refine x_iald (m := 37) C dMo_grinds_96 h1 (by decide) rfl rfl g_96 ?_
      refine g_iload_n C dMo_grinds_97 rfl ?_
      refine g_isub C dMo_grinds_98 ?_
      obtain ⟨g_99, h⟩ := x_g h
      refine x_iast (m := 37) C dMo_grinds_99 h1 (by decide) rfl rfl g_99 h (fun I9 h => ?_)
      refine g_aload_n C dMo_grinds_100 rfl ?_
      refine g_iconst (v := Int32.ofInt (0)) C dMo_grinds_101 (by decide) ?_
      refine g_iload_n C dMo_grinds_102 rfl ?_
      refine g_iadd C dMo_grinds_103 ?_
      refine g_iconst (v := Int32.ofInt (1)) C dMo_grinds_104 (by decide) ?_
      refine g_iadd C dMo_grinds_105 ?_
      refine g_dup2 C dMo_grinds_106 rfl rfl ?_
      obtain ⟨g_107, h⟩ := x_g h
      refine x_iald (m := 37) C dMo_grinds_107 h1 (by decide) rfl rfl g_107 ?_
      refine g_iload C dMo_grinds_108 rfl ?_
      refine g_iadd C dMo_grinds_110 ?_
      obtain ⟨g_111, h⟩ := x_g h
      refine x_iast (m := 37) C dMo_grinds_111 h1 (by decide) rfl rfl g_111 h (fun I10 h => ?_)
      refine g_aload_n C dMo_grinds_112 rfl ?_
      refine g_iconst (v := Int32.ofInt (0)) C dMo_grinds_113 (by decide) ?_
      refine g_iload_n C dMo_grinds_114 rfl ?_
      refine g_iconst (v := Int32.ofInt (2)) C dMo_grinds_115 (by decide) ?_
      refine g_iadd C dMo_grinds_116 ?_
      refine g_aload_n C dMo_grinds_117 rfl ?_
      refine gt_getS C dMo_grinds_118 fl_Mo_290 h0 hN3.1 ?_
      refine g_geti C dMo_grinds_121 fl_Mo_191 hN3.2 ?_
      refine x_jn h (fun (k_136 : Int32 → Option (WI)) => ∀ (s0_136 : Int32), k_136 s0_136 = some I' → GG X 5 P K I10 O J0 0 0 136 [(0, .ref a0), (1, .ref a1), (2, .int x2_46), (3, .int v3_74), (4, .int v4_89)] [.int s0_136, .int (Int32.ofInt (0)), .ref a1]) (fun s0_136 h => ?_) (fun k_136 hk_136 h => ?_)
      · skip
        refine g_iadd C dMo_grinds_136 ?_
        refine g_dup2 C dMo_grinds_137 rfl rfl ?_
        obtain ⟨g_138, h⟩ := x_g h
        refine x_iald (m := 37) C dMo_grinds_138 h1 (by decide) rfl rfl g_138 ?_
        refine g_iload_n C dMo_grinds_139 rfl ?_
        refine g_iload C dMo_grinds_140 rfl ?_
        refine g_isub C dMo_grinds_142 ?_
        refine g_iadd C dMo_grinds_143 ?_
        obtain ⟨g_144, h⟩ := x_g h
        refine x_iast (m := 37) C dMo_grinds_144 h1 (by decide) rfl rfl g_144 h (fun I11 h => ?_)
        refine x_iinc C dMo_grinds_145 rfl (by decide) h (fun v2_145 h => ?_)
        refine g_goto 46 C dMo_grinds_148 (by decide) ?_
        exact g_sub (hr_46 (v2_145) I11 h) ⟨rfl, rfl, rfl, trivial⟩
      refine gt_icmp_ge 133 C dMo_grinds_124 (by decide) rfl rfl (fun c_124 => ?_) (fun c_124 => ?_)
      · have h := x_pos c_124 h
        refine g_iload_n C dMo_grinds_133 rfl ?_
        refine g_iconst (v := Int32.ofInt (1)) C dMo_grinds_134 (by decide) ?_
        refine g_iadd C dMo_grinds_135 ?_
        exact g_sub (hk_136 ((x2_46 + (Int32.ofInt (1)))) h) ⟨rfl, rfl, rfl, rfl, rfl, trivial⟩
      · have h := x_neg (Int.not_le.mpr c_124) h
        refine g_iload_n C dMo_grinds_127 rfl ?_
        refine g_iconst (v := Int32.ofInt (2)) C dMo_grinds_128 (by decide) ?_
        refine g_iadd C dMo_grinds_129 ?_
        refine g_goto 136 C dMo_grinds_130 (by decide) ?_
        exact g_sub (hk_136 ((x2_46 + (Int32.ofInt (2)))) h) ⟨rfl, rfl, rfl, rfl, rfl, trivial⟩
  exact g_sub (lp_46 (v2_45) I3 h) ⟨rfl, rfl, rfl, trivial⟩
def B_Mo_grindsT_153 (N : Nat) (O : WO) (a0 : Nat) (a1 : Nat) (J0 : WJ) (rec_153 : Int32 → WI → Option (WI)) (x2_153 : Int32) (I_153 : WI) : Option (WI) := if ((I_153 (rf O a0 3) 8)).toInt ≤ (x2_153).toInt then (some I_153) else (if 0 ≤ (((Int32.ofInt (0)) + x2_153)).toInt ∧ (((Int32.ofInt (0)) + x2_153)).toInt < 37 then (lb ((((I_153 a1 (((Int32.ofInt (0)) + x2_153)).toInt.toNat) * ((Int32.ofInt (20)) + ((Int32.ofInt (10)) * (I_153 a1 35)))) / (Int32.ofInt (100)))) fun v3_183 => bd1 (F_Mo_passes N O I_153 J0 a0 x2_153 (I_153 a1 25)) fun z_191 => lb (((v3_183 * z_191) / (Int32.ofInt (100)))) fun v4_198 => if 0 ≤ (((Int32.ofInt (0)) + x2_153)).toInt ∧ (((Int32.ofInt (0)) + x2_153)).toInt < 37 then (if 0 ≤ (((Int32.ofInt (0)) + x2_153)).toInt ∧ (((Int32.ofInt (0)) + x2_153)).toInt < 37 then (lb (up2 I_153 a1 (((Int32.ofInt (0)) + x2_153)).toInt.toNat ((I_153 a1 (((Int32.ofInt (0)) + x2_153)).toInt.toNat) - v3_183)) fun I5 => if 0 ≤ (((Int32.ofInt (10)) + x2_153)).toInt ∧ (((Int32.ofInt (10)) + x2_153)).toInt < 37 then (lb (up2 I5 a1 (((Int32.ofInt (10)) + x2_153)).toInt.toNat v4_198) fun I6 => if 0 ≤ (((Int32.ofInt (15)) + x2_153)).toInt ∧ (((Int32.ofInt (15)) + x2_153)).toInt < 37 then (if 0 ≤ (((Int32.ofInt (15)) + x2_153)).toInt ∧ (((Int32.ofInt (15)) + x2_153)).toInt < 37 then (lb (up2 I6 a1 (((Int32.ofInt (15)) + x2_153)).toInt.toNat ((I6 a1 (((Int32.ofInt (15)) + x2_153)).toInt.toNat) + v4_198)) fun I7 => if 0 ≤ (((Int32.ofInt (5)) + x2_153)).toInt ∧ (((Int32.ofInt (5)) + x2_153)).toInt < 37 then (lb (up2 I7 a1 (((Int32.ofInt (5)) + x2_153)).toInt.toNat (v3_183 - v4_198)) fun I8 => lb (x2_153 + Int32.ofInt (1)) fun v2_237 => rec_153 (v2_237) I8) else none) else none) else none) else none) else none) else none) else none)
def B_Mo_grindsT_46 (N : Nat) (O : WO) (a0 : Nat) (a1 : Nat) (J0 : WJ) (rec_46 : Int32 → WI → Option (WI)) (x2_46 : Int32) (I_46 : WI) : Option (WI) := if (x2_46).toInt < 0 then (lp (B_Mo_grindsT_153 N O a0 a1 J0) (fun _ _ => none) N ((Int32.ofInt (0))) I_46) else (if 0 ≤ (((Int32.ofInt (0)) + x2_46)).toInt ∧ (((Int32.ofInt (0)) + x2_46)).toInt < 37 then (if 0 ≤ (x2_46).toInt ∧ (x2_46).toInt < 5 then (lb (((((I_46 a1 (((Int32.ofInt (0)) + x2_46)).toInt.toNat) * (I_46 (rf O (rf O a0 3) 12) (x2_46).toInt.toNat)) * (I_46 a1 29)) / (Int32.ofInt (10000)))) fun v3_74 => if 0 ≤ (x2_46).toInt ∧ (x2_46).toInt < 5 then (lb (((v3_74 * (I_46 (rf O (rf O a0 3) 13) (x2_46).toInt.toNat)) / (Int32.ofInt (100)))) fun v4_89 => if 0 ≤ (((Int32.ofInt (0)) + x2_46)).toInt ∧ (((Int32.ofInt (0)) + x2_46)).toInt < 37 then (if 0 ≤ (((Int32.ofInt (0)) + x2_46)).toInt ∧ (((Int32.ofInt (0)) + x2_46)).toInt < 37 then (lb (up2 I_46 a1 (((Int32.ofInt (0)) + x2_46)).toInt.toNat ((I_46 a1 (((Int32.ofInt (0)) + x2_46)).toInt.toNat) - v3_74)) fun I9 => if 0 ≤ ((((Int32.ofInt (0)) + x2_46) + (Int32.ofInt (1)))).toInt ∧ ((((Int32.ofInt (0)) + x2_46) + (Int32.ofInt (1)))).toInt < 37 then (if 0 ≤ ((((Int32.ofInt (0)) + x2_46) + (Int32.ofInt (1)))).toInt ∧ ((((Int32.ofInt (0)) + x2_46) + (Int32.ofInt (1)))).toInt < 37 then (lb (up2 I9 a1 ((((Int32.ofInt (0)) + x2_46) + (Int32.ofInt (1)))).toInt.toNat ((I9 a1 ((((Int32.ofInt (0)) + x2_46) + (Int32.ofInt (1)))).toInt.toNat) + v4_89)) fun I10 => jn (fun (s0_136 : Int32) => if 0 ≤ (((Int32.ofInt (0)) + s0_136)).toInt ∧ (((Int32.ofInt (0)) + s0_136)).toInt < 37 then (if 0 ≤ (((Int32.ofInt (0)) + s0_136)).toInt ∧ (((Int32.ofInt (0)) + s0_136)).toInt < 37 then (lb (up2 I10 a1 (((Int32.ofInt (0)) + s0_136)).toInt.toNat ((I10 a1 (((Int32.ofInt (0)) + s0_136)).toInt.toNat) + (v3_74 - v4_89))) fun I11 => lb (x2_46 + Int32.ofInt (-1)) fun v2_145 => rec_46 (v2_145) I11) else none) else none) fun k_136 => if ((I10 (rf O a0 3) 8)).toInt ≤ ((x2_46 + (Int32.ofInt (2)))).toInt then (k_136 ((x2_46 + (Int32.ofInt (1))))) else (k_136 ((x2_46 + (Int32.ofInt (2)))))) else none) else none) else none) else none) else none) else none) else none)
def F_Mo_grindsT (N : Nat) (O : WO) (I0 : WI) (J0 : WJ) (a0 : Nat) (a1 : Nat) : Option (WI) := bd1 (F_Mo_effectOf N O I0 J0 a0 (I0 a1 28) (I0 a1 24) (I0 a1 36)) fun z_16 => lb (up2 I0 a1 29 z_16) fun I2 => lb (up2 I2 a1 30 (((I2 a1 28) * (I2 a1 29)) / (Int32.ofInt (100)))) fun I3 => lb (((I3 (rf O a0 3) 8) - (Int32.ofInt (2)))) fun v2_45 => lp (B_Mo_grindsT_46 N O a0 a1 J0) (fun _ _ => none) N (v2_45) I3
set_option maxHeartbeats 4000000 in
set_option maxRecDepth 100000 in
theorem f_Mo_grindsT {P : List Nat} {K : Nat → Nat} {N : Nat} {O : WO} {I0 : WI} {J0 : WJ} (hT : TR P K O) {a0 : Nat} (h0 : a0 ∈ P ∧ K a0 = 10) {a1 : Nat} (h1 : a1 ∈ P ∧ K a1 = 49) (hN3 : NN P K O a0 3 9) {I' : WI} (h : F_Mo_grindsT N O I0 J0 a0 a1 = some I') : Con yMo_grinds bMo_grinds 5 none ({ frames := 1, cells := 0, slots := 0, locals := 27 } : Room) P K I0 O J0 [.ref a0, .ref a1] (EPo none I' J0 P K O) := by
  refine Con.ofG mfMo_grinds (Nat.le_of_ble_eq_true rfl) ?_
  intro X C E
  unfold F_Mo_grindsT at h
  refine g_aload_n C dMo_grinds_0 rfl ?_
  refine g_bipush (v := Int32.ofInt (29)) C dMo_grinds_1 (by decide) ?_
  refine g_aload_n C dMo_grinds_3 rfl ?_
  refine g_aload_n C dMo_grinds_4 rfl ?_
  refine g_bipush (v := Int32.ofInt (28)) C dMo_grinds_5 (by decide) ?_
  refine x_ialdc (m := 37) (c := 28) C dMo_grinds_7 h1 (by decide) rfl rfl rfl (by decide) ?_
  refine g_aload_n C dMo_grinds_8 rfl ?_
  refine g_bipush (v := Int32.ofInt (24)) C dMo_grinds_9 (by decide) ?_
  refine x_ialdc (m := 37) (c := 24) C dMo_grinds_11 h1 (by decide) rfl rfl rfl (by decide) ?_
  refine g_aload_n C dMo_grinds_12 rfl ?_
  refine g_bipush (v := Int32.ofInt (36)) C dMo_grinds_13 (by decide) ?_
  refine x_ialdc (m := 37) (c := 36) C dMo_grinds_15 h1 (by decide) rfl rfl rfl (by decide) ?_
  obtain ⟨z_16, e_16, h⟩ := bd1_some h
  refine x_callVi (av := fun ad => [.int (I0 a1 28), .int (I0 a1 24), .int (I0 a1 36)]) C dMo_grinds_16 mfMo_effectOf mvMo_effectOf ln_Mo_316 h0 (by decide) rfl (f_Mo_effectOf hT h0 hN3 e_16) rfl rfl (Nat.le_of_ble_eq_true rfl) ⟨Nat.le_of_ble_eq_true rfl, Nat.le_of_ble_eq_true rfl⟩ ⟨rfl, rfl⟩ ⟨Nat.zero_le _, Nat.zero_le _⟩ ?_
  refine x_iastc (m := 37) (c := 29) C dMo_grinds_19 h1 (by decide) rfl rfl rfl (by decide) h (fun I2 h => ?_)
  refine g_aload_n C dMo_grinds_20 rfl ?_
  refine g_bipush (v := Int32.ofInt (30)) C dMo_grinds_21 (by decide) ?_
  refine g_aload_n C dMo_grinds_23 rfl ?_
  refine g_bipush (v := Int32.ofInt (28)) C dMo_grinds_24 (by decide) ?_
  refine x_ialdc (m := 37) (c := 28) C dMo_grinds_26 h1 (by decide) rfl rfl rfl (by decide) ?_
  refine g_aload_n C dMo_grinds_27 rfl ?_
  refine g_bipush (v := Int32.ofInt (29)) C dMo_grinds_28 (by decide) ?_
  refine x_ialdc (m := 37) (c := 29) C dMo_grinds_30 h1 (by decide) rfl rfl rfl (by decide) ?_
  refine g_imul C dMo_grinds_31 ?_
  refine g_bipush (v := Int32.ofInt (100)) C dMo_grinds_32 (by decide) ?_
  refine x_idiv C dMo_grinds_34 (by decide) ?_
  refine x_iastc (m := 37) (c := 30) C dMo_grinds_35 h1 (by decide) rfl rfl rfl (by decide) h (fun I3 h => ?_)
  refine g_aload_n C dMo_grinds_36 rfl ?_
  refine gt_getS C dMo_grinds_37 fl_Mo_290 h0 hN3.1 ?_
  refine g_geti C dMo_grinds_40 fl_Mo_191 hN3.2 ?_
  refine g_iconst (v := Int32.ofInt (2)) C dMo_grinds_43 (by decide) ?_
  refine g_isub C dMo_grinds_44 ?_
  refine x_istore_n (i := 2) C dMo_grinds_45 rfl (by decide) h (fun v2_45 h => ?_)
  have lp_46 : ∀ (x2_46 : Int32) (I_46 : WI), lp (B_Mo_grindsT_46 N O a0 a1 J0) (fun _ _ => none) N x2_46 I_46 = some I' → GG X 5 P K I_46 O J0 0 0 46 [(0, .ref a0), (1, .ref a1), (2, .int x2_46)] [] := by
    refine x_lp (fun (rec_46 : Int32 → WI → Option (WI)) => ∀ (x2_46 : Int32) (I_46 : WI), rec_46 x2_46 I_46 = some I' → GG X 5 P K I_46 O J0 0 0 46 [(0, .ref a0), (1, .ref a1), (2, .int x2_46)] []) (fun _ _ h => by cases h) (fun rec_46 hr_46 x2_46 I_46 h => ?_) N
    unfold B_Mo_grindsT_46 at h
    refine g_iload_n C dMo_grinds_46 rfl ?_
    refine gt_if_lt 151 C dMo_grinds_47 (by decide) rfl (fun c_47 => ?_) (fun c_47 => ?_)
    · have h := x_pos c_47 h
      refine g_iconst (v := Int32.ofInt (0)) C dMo_grinds_151 (by decide) ?_
      refine g_istore_n (i := 2) C dMo_grinds_152 rfl (by decide) ?_
      have lp_153 : ∀ (x2_153 : Int32) (I_153 : WI), lp (B_Mo_grindsT_153 N O a0 a1 J0) (fun _ _ => none) N x2_153 I_153 = some I' → GG X 5 P K I_153 O J0 0 0 153 [(0, .ref a0), (1, .ref a1), (2, .int x2_153)] [] := by
        refine x_lp (fun (rec_153 : Int32 → WI → Option (WI)) => ∀ (x2_153 : Int32) (I_153 : WI), rec_153 x2_153 I_153 = some I' → GG X 5 P K I_153 O J0 0 0 153 [(0, .ref a0), (1, .ref a1), (2, .int x2_153)] []) (fun _ _ h => by cases h) (fun rec_153 hr_153 x2_153 I_153 h => ?_) N
        unfold B_Mo_grindsT_153 at h
        refine g_iload_n C dMo_grinds_153 rfl ?_
        refine g_aload_n C dMo_grinds_154 rfl ?_
        refine gt_getS C dMo_grinds_155 fl_Mo_290 h0 hN3.1 ?_
        refine g_geti C dMo_grinds_158 fl_Mo_191 hN3.2 ?_
        refine gt_icmp_ge 243 C dMo_grinds_161 (by decide) rfl rfl (fun c_161 => ?_) (fun c_161 => ?_)
        · have h := x_pos c_161 h
          exact x_vret1 C E dMo_grinds_243 ⟨Nat.zero_le _, Nat.zero_le _⟩ h
        · have h := x_neg (Int.not_le.mpr c_161) h
          refine g_aload_n C dMo_grinds_164 rfl ?_
          refine g_iconst (v := Int32.ofInt (0)) C dMo_grinds_165 (by decide) ?_
          refine g_iload_n C dMo_grinds_166 rfl ?_
          refine g_iadd C dMo_grinds_167 ?_
          obtain ⟨g_168, h⟩ := x_g h
          refine x_iald (m := 37) C dMo_grinds_168 h1 (by decide) rfl rfl g_168 ?_
          refine g_bipush (v := Int32.ofInt (20)) C dMo_grinds_169 (by decide) ?_
          refine g_bipush (v := Int32.ofInt (10)) C dMo_grinds_171 (by decide) ?_
          refine g_aload_n C dMo_grinds_173 rfl ?_
          refine g_bipush (v := Int32.ofInt (35)) C dMo_grinds_174 (by decide) ?_
          refine x_ialdc (m := 37) (c := 35) C dMo_grinds_176 h1 (by decide) rfl rfl rfl (by decide) ?_
          refine g_imul C dMo_grinds_177 ?_
          refine g_iadd C dMo_grinds_178 ?_
          refine g_imul C dMo_grinds_179 ?_
          refine g_bipush (v := Int32.ofInt (100)) C dMo_grinds_180 (by decide) ?_
          refine x_idiv C dMo_grinds_182 (by decide) ?_
          refine x_istore_n (i := 3) C dMo_grinds_183 rfl (by decide) h (fun v3_183 h => ?_)
          refine g_iload_n C dMo_grinds_184 rfl ?_
          refine g_aload_n C dMo_grinds_185 rfl ?_
          refine g_iload_n C dMo_grinds_186 rfl ?_
          refine g_aload_n C dMo_grinds_187 rfl ?_
          refine g_bipush (v := Int32.ofInt (25)) C dMo_grinds_188 (by decide) ?_
          refine x_ialdc (m := 37) (c := 25) C dMo_grinds_190 h1 (by decide) rfl rfl rfl (by decide) ?_
          obtain ⟨z_191, e_191, h⟩ := bd1_some h
          refine x_callVi (av := fun ad => [.int x2_153, .int (I_153 a1 25)]) C dMo_grinds_191 mfMo_passes mvMo_passes ln_Mo_320 h0 (by decide) rfl (f_Mo_passes hT h0 hN3 e_191) rfl rfl (Nat.le_of_ble_eq_true rfl) ⟨Nat.le_of_ble_eq_true rfl, Nat.le_of_ble_eq_true rfl⟩ ⟨rfl, rfl⟩ ⟨Nat.zero_le _, Nat.zero_le _⟩ ?_
          refine g_imul C dMo_grinds_194 ?_
          refine g_bipush (v := Int32.ofInt (100)) C dMo_grinds_195 (by decide) ?_
          refine x_idiv C dMo_grinds_197 (by decide) ?_
          refine x_istore C dMo_grinds_198 (by decide) h (fun v4_198 h => ?_)
          refine g_aload_n C dMo_grinds_200 rfl ?_
          refine g_iconst (v := Int32.ofInt (0)) C dMo_grinds_201 (by decide) ?_
          refine g_iload_n C dMo_grinds_202 rfl ?_
          refine g_iadd C dMo_grinds_203 ?_
          refine g_dup2 C dMo_grinds_204 rfl rfl ?_
          obtain ⟨g_205, h⟩ := x_g h
          refine x_iald (m := 37) C dMo_grinds_205 h1 (by decide) rfl rfl g_205 ?_
          refine g_iload_n C dMo_grinds_206 rfl ?_
          refine g_isub C dMo_grinds_207 ?_
          obtain ⟨g_208, h⟩ := x_g h
          refine x_iast (m := 37) C dMo_grinds_208 h1 (by decide) rfl rfl g_208 h (fun I5 h => ?_)
          refine g_aload_n C dMo_grinds_209 rfl ?_
          refine g_bipush (v := Int32.ofInt (10)) C dMo_grinds_210 (by decide) ?_
          refine g_iload_n C dMo_grinds_212 rfl ?_
          refine g_iadd C dMo_grinds_213 ?_
          refine g_iload C dMo_grinds_214 rfl ?_
          obtain ⟨g_216, h⟩ := x_g h
          refine x_iast (m := 37) C dMo_grinds_216 h1 (by decide) rfl rfl g_216 h (fun I6 h => ?_)
          refine g_aload_n C dMo_grinds_217 rfl ?_
          refine g_bipush (v := Int32.ofInt (15)) C dMo_grinds_218 (by decide) ?_
          refine g_iload_n C dMo_grinds_220 rfl ?_
          refine g_iadd C dMo_grinds_221 ?_
          refine g_dup2 C dMo_grinds_222 rfl rfl ?_
          obtain ⟨g_223, h⟩ := x_g h
          refine x_iald (m := 37) C dMo_grinds_223 h1 (by decide) rfl rfl g_223 ?_
          refine g_iload C dMo_grinds_224 rfl ?_
          refine g_iadd C dMo_grinds_226 ?_
          obtain ⟨g_227, h⟩ := x_g h
          refine x_iast (m := 37) C dMo_grinds_227 h1 (by decide) rfl rfl g_227 h (fun I7 h => ?_)
          refine g_aload_n C dMo_grinds_228 rfl ?_
          refine g_iconst (v := Int32.ofInt (5)) C dMo_grinds_229 (by decide) ?_
          refine g_iload_n C dMo_grinds_230 rfl ?_
          refine g_iadd C dMo_grinds_231 ?_
          refine g_iload_n C dMo_grinds_232 rfl ?_
          refine g_iload C dMo_grinds_233 rfl ?_
          refine g_isub C dMo_grinds_235 ?_
          obtain ⟨g_236, h⟩ := x_g h
          refine x_iast (m := 37) C dMo_grinds_236 h1 (by decide) rfl rfl g_236 h (fun I8 h => ?_)
          refine x_iinc C dMo_grinds_237 rfl (by decide) h (fun v2_237 h => ?_)
          refine g_goto 153 C dMo_grinds_240 (by decide) ?_
          exact g_sub (hr_153 (v2_237) I8 h) ⟨rfl, rfl, rfl, trivial⟩
      exact g_sub (lp_153 ((Int32.ofInt (0))) I_46 h) ⟨rfl, rfl, rfl, trivial⟩
    · have h := x_neg (Int.not_lt.mpr c_47) h
      refine g_aload_n C dMo_grinds_50 rfl ?_
      refine g_iconst (v := Int32.ofInt (0)) C dMo_grinds_51 (by decide) ?_
      refine g_iload_n C dMo_grinds_52 rfl ?_
      refine g_iadd C dMo_grinds_53 ?_
      obtain ⟨g_54, h⟩ := x_g h
      refine x_iald (m := 37) C dMo_grinds_54 h1 (by decide) rfl rfl g_54 ?_
      refine g_aload_n C dMo_grinds_55 rfl ?_
      refine gt_getS C dMo_grinds_56 fl_Mo_290 h0 hN3.1 ?_
      have t_59 := rf_ok hT hN3.2 (show sp 9 12 = some 43 from rfl)
      refine x_getr C dMo_grinds_59 fl_Mo_267 hN3.2 hT (show sp 9 12 = some 43 from rfl) ?_
      refine g_iload_n C dMo_grinds_62 rfl ?_
      obtain ⟨g_63, h⟩ := x_g h
      refine x_iald (m := 5) C dMo_grinds_63 t_59 (by decide) rfl rfl g_63 ?_
      refine g_imul C dMo_grinds_64 ?_
      refine g_aload_n C dMo_grinds_65 rfl ?_
      refine g_bipush (v := Int32.ofInt (29)) C dMo_grinds_66 (by decide) ?_
      refine x_ialdc (m := 37) (c := 29) C dMo_grinds_68 h1 (by decide) rfl rfl rfl (by decide) ?_
      refine g_imul C dMo_grinds_69 ?_
      refine g_sipush (v := Int32.ofInt (10000)) C dMo_grinds_70 (by decide) ?_
      refine x_idiv C dMo_grinds_73 (by decide) ?_
      refine x_istore_n (i := 3) C dMo_grinds_74 rfl (by decide) h (fun v3_74 h => ?_)
      refine g_iload_n C dMo_grinds_75 rfl ?_
      refine g_aload_n C dMo_grinds_76 rfl ?_
      refine gt_getS C dMo_grinds_77 fl_Mo_290 h0 hN3.1 ?_
      have t_80 := rf_ok hT hN3.2 (show sp 9 13 = some 43 from rfl)
      refine x_getr C dMo_grinds_80 fl_Mo_270 hN3.2 hT (show sp 9 13 = some 43 from rfl) ?_
      refine g_iload_n C dMo_grinds_83 rfl ?_
      obtain ⟨g_84, h⟩ := x_g h
      refine x_iald (m := 5) C dMo_grinds_84 t_80 (by decide) rfl rfl g_84 ?_
      refine g_imul C dMo_grinds_85 ?_
      refine g_bipush (v := Int32.ofInt (100)) C dMo_grinds_86 (by decide) ?_
      refine x_idiv C dMo_grinds_88 (by decide) ?_
      refine x_istore C dMo_grinds_89 (by decide) h (fun v4_89 h => ?_)
      refine g_aload_n C dMo_grinds_91 rfl ?_
      refine g_iconst (v := Int32.ofInt (0)) C dMo_grinds_92 (by decide) ?_
      refine g_iload_n C dMo_grinds_93 rfl ?_
      refine g_iadd C dMo_grinds_94 ?_
      refine g_dup2 C dMo_grinds_95 rfl rfl ?_
      obtain ⟨g_96, h⟩ := x_g h
      refine x_iald (m := 37) C dMo_grinds_96 h1 (by decide) rfl rfl g_96 ?_
      refine g_iload_n C dMo_grinds_97 rfl ?_
      refine g_isub C dMo_grinds_98 ?_
      obtain ⟨g_99, h⟩ := x_g h
      refine x_iast (m := 37) C dMo_grinds_99 h1 (by decide) rfl rfl g_99 h (fun I9 h => ?_)
      refine g_aload_n C dMo_grinds_100 rfl ?_
      refine g_iconst (v := Int32.ofInt (0)) C dMo_grinds_101 (by decide) ?_
      refine g_iload_n C dMo_grinds_102 rfl ?_
      refine g_iadd C dMo_grinds_103 ?_
      refine g_iconst (v := Int32.ofInt (1)) C dMo_grinds_104 (by decide) ?_
      refine g_iadd C dMo_grinds_105 ?_
      refine g_dup2 C dMo_grinds_106 rfl rfl ?_
      obtain ⟨g_107, h⟩ := x_g h
      refine x_iald (m := 37) C dMo_grinds_107 h1 (by decide) rfl rfl g_107 ?_
      refine g_iload C dMo_grinds_108 rfl ?_
      refine g_iadd C dMo_grinds_110 ?_
      obtain ⟨g_111, h⟩ := x_g h
      refine x_iast (m := 37) C dMo_grinds_111 h1 (by decide) rfl rfl g_111 h (fun I10 h => ?_)
      refine g_aload_n C dMo_grinds_112 rfl ?_
      refine g_iconst (v := Int32.ofInt (0)) C dMo_grinds_113 (by decide) ?_
      refine g_iload_n C dMo_grinds_114 rfl ?_
      refine g_iconst (v := Int32.ofInt (2)) C dMo_grinds_115 (by decide) ?_
      refine g_iadd C dMo_grinds_116 ?_
      refine g_aload_n C dMo_grinds_117 rfl ?_
      refine gt_getS C dMo_grinds_118 fl_Mo_290 h0 hN3.1 ?_
      refine g_geti C dMo_grinds_121 fl_Mo_191 hN3.2 ?_
      refine x_jn h (fun (k_136 : Int32 → Option (WI)) => ∀ (s0_136 : Int32), k_136 s0_136 = some I' → GG X 5 P K I10 O J0 0 0 136 [(0, .ref a0), (1, .ref a1), (2, .int x2_46), (3, .int v3_74), (4, .int v4_89)] [.int s0_136, .int (Int32.ofInt (0)), .ref a1]) (fun s0_136 h => ?_) (fun k_136 hk_136 h => ?_)
      · skip
        refine g_iadd C dMo_grinds_136 ?_
        refine g_dup2 C dMo_grinds_137 rfl rfl ?_
        obtain ⟨g_138, h⟩ := x_g h
        refine x_iald (m := 37) C dMo_grinds_138 h1 (by decide) rfl rfl g_138 ?_
        refine g_iload_n C dMo_grinds_139 rfl ?_
        refine g_iload C dMo_grinds_140 rfl ?_
        refine g_isub C dMo_grinds_142 ?_
        refine g_iadd C dMo_grinds_143 ?_
        obtain ⟨g_144, h⟩ := x_g h
        refine x_iast (m := 37) C dMo_grinds_144 h1 (by decide) rfl rfl g_144 h (fun I11 h => ?_)
        refine x_iinc C dMo_grinds_145 rfl (by decide) h (fun v2_145 h => ?_)
        refine g_goto 46 C dMo_grinds_148 (by decide) ?_
        exact g_sub (hr_46 (v2_145) I11 h) ⟨rfl, rfl, rfl, trivial⟩
      refine gt_icmp_ge 133 C dMo_grinds_124 (by decide) rfl rfl (fun c_124 => ?_) (fun c_124 => ?_)
      · have h := x_pos c_124 h
        refine g_iload_n C dMo_grinds_133 rfl ?_
        refine g_iconst (v := Int32.ofInt (1)) C dMo_grinds_134 (by decide) ?_
        refine g_iadd C dMo_grinds_135 ?_
        exact g_sub (hk_136 ((x2_46 + (Int32.ofInt (1)))) h) ⟨rfl, rfl, rfl, rfl, rfl, trivial⟩
      · have h := x_neg (Int.not_le.mpr c_124) h
        refine g_iload_n C dMo_grinds_127 rfl ?_
        refine g_iconst (v := Int32.ofInt (2)) C dMo_grinds_128 (by decide) ?_
        refine g_iadd C dMo_grinds_129 ?_
        refine g_goto 136 C dMo_grinds_130 (by decide) ?_
        exact g_sub (hk_136 ((x2_46 + (Int32.ofInt (2)))) h) ⟨rfl, rfl, rfl, rfl, rfl, trivial⟩
  exact g_sub (lp_46 (v2_45) I3 h) ⟨rfl, rfl, rfl, trivial⟩
def B_Mo_grindsU_153 (N : Nat) (O : WO) (a0 : Nat) (a1 : Nat) (J0 : WJ) (rec_153 : Int32 → WI → Option (WI)) (x2_153 : Int32) (I_153 : WI) : Option (WI) := if ((I_153 (rf O a0 3) 8)).toInt ≤ (x2_153).toInt then (some I_153) else (if 0 ≤ (((Int32.ofInt (0)) + x2_153)).toInt ∧ (((Int32.ofInt (0)) + x2_153)).toInt < 37 then (lb ((((I_153 a1 (((Int32.ofInt (0)) + x2_153)).toInt.toNat) * ((Int32.ofInt (20)) + ((Int32.ofInt (10)) * (I_153 a1 35)))) / (Int32.ofInt (100)))) fun v3_183 => bd1 (F_Mo_passes N O I_153 J0 a0 x2_153 (I_153 a1 25)) fun z_191 => lb (((v3_183 * z_191) / (Int32.ofInt (100)))) fun v4_198 => if 0 ≤ (((Int32.ofInt (0)) + x2_153)).toInt ∧ (((Int32.ofInt (0)) + x2_153)).toInt < 37 then (if 0 ≤ (((Int32.ofInt (0)) + x2_153)).toInt ∧ (((Int32.ofInt (0)) + x2_153)).toInt < 37 then (lb (up2 I_153 a1 (((Int32.ofInt (0)) + x2_153)).toInt.toNat ((I_153 a1 (((Int32.ofInt (0)) + x2_153)).toInt.toNat) - v3_183)) fun I5 => if 0 ≤ (((Int32.ofInt (10)) + x2_153)).toInt ∧ (((Int32.ofInt (10)) + x2_153)).toInt < 37 then (lb (up2 I5 a1 (((Int32.ofInt (10)) + x2_153)).toInt.toNat v4_198) fun I6 => if 0 ≤ (((Int32.ofInt (15)) + x2_153)).toInt ∧ (((Int32.ofInt (15)) + x2_153)).toInt < 37 then (if 0 ≤ (((Int32.ofInt (15)) + x2_153)).toInt ∧ (((Int32.ofInt (15)) + x2_153)).toInt < 37 then (lb (up2 I6 a1 (((Int32.ofInt (15)) + x2_153)).toInt.toNat ((I6 a1 (((Int32.ofInt (15)) + x2_153)).toInt.toNat) + v4_198)) fun I7 => if 0 ≤ (((Int32.ofInt (5)) + x2_153)).toInt ∧ (((Int32.ofInt (5)) + x2_153)).toInt < 37 then (lb (up2 I7 a1 (((Int32.ofInt (5)) + x2_153)).toInt.toNat (v3_183 - v4_198)) fun I8 => lb (x2_153 + Int32.ofInt (1)) fun v2_237 => rec_153 (v2_237) I8) else none) else none) else none) else none) else none) else none) else none)
def B_Mo_grindsU_46 (N : Nat) (O : WO) (a0 : Nat) (a1 : Nat) (J0 : WJ) (rec_46 : Int32 → WI → Option (WI)) (x2_46 : Int32) (I_46 : WI) : Option (WI) := if (x2_46).toInt < 0 then (lp (B_Mo_grindsU_153 N O a0 a1 J0) (fun _ _ => none) N ((Int32.ofInt (0))) I_46) else (if 0 ≤ (((Int32.ofInt (0)) + x2_46)).toInt ∧ (((Int32.ofInt (0)) + x2_46)).toInt < 37 then (if 0 ≤ (x2_46).toInt ∧ (x2_46).toInt < 5 then (lb (((((I_46 a1 (((Int32.ofInt (0)) + x2_46)).toInt.toNat) * (I_46 (rf O (rf O a0 3) 12) (x2_46).toInt.toNat)) * (I_46 a1 29)) / (Int32.ofInt (10000)))) fun v3_74 => if 0 ≤ (x2_46).toInt ∧ (x2_46).toInt < 5 then (lb (((v3_74 * (I_46 (rf O (rf O a0 3) 13) (x2_46).toInt.toNat)) / (Int32.ofInt (100)))) fun v4_89 => if 0 ≤ (((Int32.ofInt (0)) + x2_46)).toInt ∧ (((Int32.ofInt (0)) + x2_46)).toInt < 37 then (if 0 ≤ (((Int32.ofInt (0)) + x2_46)).toInt ∧ (((Int32.ofInt (0)) + x2_46)).toInt < 37 then (lb (up2 I_46 a1 (((Int32.ofInt (0)) + x2_46)).toInt.toNat ((I_46 a1 (((Int32.ofInt (0)) + x2_46)).toInt.toNat) - v3_74)) fun I9 => if 0 ≤ ((((Int32.ofInt (0)) + x2_46) + (Int32.ofInt (1)))).toInt ∧ ((((Int32.ofInt (0)) + x2_46) + (Int32.ofInt (1)))).toInt < 37 then (if 0 ≤ ((((Int32.ofInt (0)) + x2_46) + (Int32.ofInt (1)))).toInt ∧ ((((Int32.ofInt (0)) + x2_46) + (Int32.ofInt (1)))).toInt < 37 then (lb (up2 I9 a1 ((((Int32.ofInt (0)) + x2_46) + (Int32.ofInt (1)))).toInt.toNat ((I9 a1 ((((Int32.ofInt (0)) + x2_46) + (Int32.ofInt (1)))).toInt.toNat) + v4_89)) fun I10 => jn (fun (s0_136 : Int32) => if 0 ≤ (((Int32.ofInt (0)) + s0_136)).toInt ∧ (((Int32.ofInt (0)) + s0_136)).toInt < 37 then (if 0 ≤ (((Int32.ofInt (0)) + s0_136)).toInt ∧ (((Int32.ofInt (0)) + s0_136)).toInt < 37 then (lb (up2 I10 a1 (((Int32.ofInt (0)) + s0_136)).toInt.toNat ((I10 a1 (((Int32.ofInt (0)) + s0_136)).toInt.toNat) + (v3_74 - v4_89))) fun I11 => lb (x2_46 + Int32.ofInt (-1)) fun v2_145 => rec_46 (v2_145) I11) else none) else none) fun k_136 => if ((I10 (rf O a0 3) 8)).toInt ≤ ((x2_46 + (Int32.ofInt (2)))).toInt then (k_136 ((x2_46 + (Int32.ofInt (1))))) else (k_136 ((x2_46 + (Int32.ofInt (2)))))) else none) else none) else none) else none) else none) else none) else none)
def F_Mo_grindsU (N : Nat) (O : WO) (I0 : WI) (J0 : WJ) (a0 : Nat) (a1 : Nat) : Option (WI) := bd1 (F_Mo_effectOf N O I0 J0 a0 (I0 a1 28) (I0 a1 24) (I0 a1 36)) fun z_16 => lb (up2 I0 a1 29 z_16) fun I2 => lb (up2 I2 a1 30 (((I2 a1 28) * (I2 a1 29)) / (Int32.ofInt (100)))) fun I3 => lb (((I3 (rf O a0 3) 8) - (Int32.ofInt (2)))) fun v2_45 => lp (B_Mo_grindsU_46 N O a0 a1 J0) (fun _ _ => none) N (v2_45) I3
set_option maxHeartbeats 4000000 in
set_option maxRecDepth 100000 in
theorem f_Mo_grindsU {P : List Nat} {K : Nat → Nat} {N : Nat} {O : WO} {I0 : WI} {J0 : WJ} (hT : TR P K O) {a0 : Nat} (h0 : a0 ∈ P ∧ K a0 = 10) {a1 : Nat} (h1 : a1 ∈ P ∧ K a1 = 50) (hN3 : NN P K O a0 3 9) {I' : WI} (h : F_Mo_grindsU N O I0 J0 a0 a1 = some I') : Con yMo_grinds bMo_grinds 5 none ({ frames := 1, cells := 0, slots := 0, locals := 27 } : Room) P K I0 O J0 [.ref a0, .ref a1] (EPo none I' J0 P K O) := by
  refine Con.ofG mfMo_grinds (Nat.le_of_ble_eq_true rfl) ?_
  intro X C E
  unfold F_Mo_grindsU at h
  refine g_aload_n C dMo_grinds_0 rfl ?_
  refine g_bipush (v := Int32.ofInt (29)) C dMo_grinds_1 (by decide) ?_
  refine g_aload_n C dMo_grinds_3 rfl ?_
  refine g_aload_n C dMo_grinds_4 rfl ?_
  refine g_bipush (v := Int32.ofInt (28)) C dMo_grinds_5 (by decide) ?_
  refine x_ialdc (m := 37) (c := 28) C dMo_grinds_7 h1 (by decide) rfl rfl rfl (by decide) ?_
  refine g_aload_n C dMo_grinds_8 rfl ?_
  refine g_bipush (v := Int32.ofInt (24)) C dMo_grinds_9 (by decide) ?_
  refine x_ialdc (m := 37) (c := 24) C dMo_grinds_11 h1 (by decide) rfl rfl rfl (by decide) ?_
  refine g_aload_n C dMo_grinds_12 rfl ?_
  refine g_bipush (v := Int32.ofInt (36)) C dMo_grinds_13 (by decide) ?_
  refine x_ialdc (m := 37) (c := 36) C dMo_grinds_15 h1 (by decide) rfl rfl rfl (by decide) ?_
  obtain ⟨z_16, e_16, h⟩ := bd1_some h
  refine x_callVi (av := fun ad => [.int (I0 a1 28), .int (I0 a1 24), .int (I0 a1 36)]) C dMo_grinds_16 mfMo_effectOf mvMo_effectOf ln_Mo_316 h0 (by decide) rfl (f_Mo_effectOf hT h0 hN3 e_16) rfl rfl (Nat.le_of_ble_eq_true rfl) ⟨Nat.le_of_ble_eq_true rfl, Nat.le_of_ble_eq_true rfl⟩ ⟨rfl, rfl⟩ ⟨Nat.zero_le _, Nat.zero_le _⟩ ?_
  refine x_iastc (m := 37) (c := 29) C dMo_grinds_19 h1 (by decide) rfl rfl rfl (by decide) h (fun I2 h => ?_)
  refine g_aload_n C dMo_grinds_20 rfl ?_
  refine g_bipush (v := Int32.ofInt (30)) C dMo_grinds_21 (by decide) ?_
  refine g_aload_n C dMo_grinds_23 rfl ?_
  refine g_bipush (v := Int32.ofInt (28)) C dMo_grinds_24 (by decide) ?_
  refine x_ialdc (m := 37) (c := 28) C dMo_grinds_26 h1 (by decide) rfl rfl rfl (by decide) ?_
  refine g_aload_n C dMo_grinds_27 rfl ?_
  refine g_bipush (v := Int32.ofInt (29)) C dMo_grinds_28 (by decide) ?_
  refine x_ialdc (m := 37) (c := 29) C dMo_grinds_30 h1 (by decide) rfl rfl rfl (by decide) ?_
  refine g_imul C dMo_grinds_31 ?_
  refine g_bipush (v := Int32.ofInt (100)) C dMo_grinds_32 (by decide) ?_
  refine x_idiv C dMo_grinds_34 (by decide) ?_
  refine x_iastc (m := 37) (c := 30) C dMo_grinds_35 h1 (by decide) rfl rfl rfl (by decide) h (fun I3 h => ?_)
  refine g_aload_n C dMo_grinds_36 rfl ?_
  refine gt_getS C dMo_grinds_37 fl_Mo_290 h0 hN3.1 ?_
  refine g_geti C dMo_grinds_40 fl_Mo_191 hN3.2 ?_
  refine g_iconst (v := Int32.ofInt (2)) C dMo_grinds_43 (by decide) ?_
  refine g_isub C dMo_grinds_44 ?_
  refine x_istore_n (i := 2) C dMo_grinds_45 rfl (by decide) h (fun v2_45 h => ?_)
  have lp_46 : ∀ (x2_46 : Int32) (I_46 : WI), lp (B_Mo_grindsU_46 N O a0 a1 J0) (fun _ _ => none) N x2_46 I_46 = some I' → GG X 5 P K I_46 O J0 0 0 46 [(0, .ref a0), (1, .ref a1), (2, .int x2_46)] [] := by
    refine x_lp (fun (rec_46 : Int32 → WI → Option (WI)) => ∀ (x2_46 : Int32) (I_46 : WI), rec_46 x2_46 I_46 = some I' → GG X 5 P K I_46 O J0 0 0 46 [(0, .ref a0), (1, .ref a1), (2, .int x2_46)] []) (fun _ _ h => by cases h) (fun rec_46 hr_46 x2_46 I_46 h => ?_) N
    unfold B_Mo_grindsU_46 at h
    refine g_iload_n C dMo_grinds_46 rfl ?_
    refine gt_if_lt 151 C dMo_grinds_47 (by decide) rfl (fun c_47 => ?_) (fun c_47 => ?_)
    · have h := x_pos c_47 h
      refine g_iconst (v := Int32.ofInt (0)) C dMo_grinds_151 (by decide) ?_
      refine g_istore_n (i := 2) C dMo_grinds_152 rfl (by decide) ?_
      have lp_153 : ∀ (x2_153 : Int32) (I_153 : WI), lp (B_Mo_grindsU_153 N O a0 a1 J0) (fun _ _ => none) N x2_153 I_153 = some I' → GG X 5 P K I_153 O J0 0 0 153 [(0, .ref a0), (1, .ref a1), (2, .int x2_153)] [] := by
        refine x_lp (fun (rec_153 : Int32 → WI → Option (WI)) => ∀ (x2_153 : Int32) (I_153 : WI), rec_153 x2_153 I_153 = some I' → GG X 5 P K I_153 O J0 0 0 153 [(0, .ref a0), (1, .ref a1), (2, .int x2_153)] []) (fun _ _ h => by cases h) (fun rec_153 hr_153 x2_153 I_153 h => ?_) N
        unfold B_Mo_grindsU_153 at h
        refine g_iload_n C dMo_grinds_153 rfl ?_
        refine g_aload_n C dMo_grinds_154 rfl ?_
        refine gt_getS C dMo_grinds_155 fl_Mo_290 h0 hN3.1 ?_
        refine g_geti C dMo_grinds_158 fl_Mo_191 hN3.2 ?_
        refine gt_icmp_ge 243 C dMo_grinds_161 (by decide) rfl rfl (fun c_161 => ?_) (fun c_161 => ?_)
        · have h := x_pos c_161 h
          exact x_vret1 C E dMo_grinds_243 ⟨Nat.zero_le _, Nat.zero_le _⟩ h
        · have h := x_neg (Int.not_le.mpr c_161) h
          refine g_aload_n C dMo_grinds_164 rfl ?_
          refine g_iconst (v := Int32.ofInt (0)) C dMo_grinds_165 (by decide) ?_
          refine g_iload_n C dMo_grinds_166 rfl ?_
          refine g_iadd C dMo_grinds_167 ?_
          obtain ⟨g_168, h⟩ := x_g h
          refine x_iald (m := 37) C dMo_grinds_168 h1 (by decide) rfl rfl g_168 ?_
          refine g_bipush (v := Int32.ofInt (20)) C dMo_grinds_169 (by decide) ?_
          refine g_bipush (v := Int32.ofInt (10)) C dMo_grinds_171 (by decide) ?_
          refine g_aload_n C dMo_grinds_173 rfl ?_
          refine g_bipush (v := Int32.ofInt (35)) C dMo_grinds_174 (by decide) ?_
          refine x_ialdc (m := 37) (c := 35) C dMo_grinds_176 h1 (by decide) rfl rfl rfl (by decide) ?_
          refine g_imul C dMo_grinds_177 ?_
          refine g_iadd C dMo_grinds_178 ?_
          refine g_imul C dMo_grinds_179 ?_
          refine g_bipush (v := Int32.ofInt (100)) C dMo_grinds_180 (by decide) ?_
          refine x_idiv C dMo_grinds_182 (by decide) ?_
          refine x_istore_n (i := 3) C dMo_grinds_183 rfl (by decide) h (fun v3_183 h => ?_)
          refine g_iload_n C dMo_grinds_184 rfl ?_
          refine g_aload_n C dMo_grinds_185 rfl ?_
          refine g_iload_n C dMo_grinds_186 rfl ?_
          refine g_aload_n C dMo_grinds_187 rfl ?_
          refine g_bipush (v := Int32.ofInt (25)) C dMo_grinds_188 (by decide) ?_
          refine x_ialdc (m := 37) (c := 25) C dMo_grinds_190 h1 (by decide) rfl rfl rfl (by decide) ?_
          obtain ⟨z_191, e_191, h⟩ := bd1_some h
          refine x_callVi (av := fun ad => [.int x2_153, .int (I_153 a1 25)]) C dMo_grinds_191 mfMo_passes mvMo_passes ln_Mo_320 h0 (by decide) rfl (f_Mo_passes hT h0 hN3 e_191) rfl rfl (Nat.le_of_ble_eq_true rfl) ⟨Nat.le_of_ble_eq_true rfl, Nat.le_of_ble_eq_true rfl⟩ ⟨rfl, rfl⟩ ⟨Nat.zero_le _, Nat.zero_le _⟩ ?_
          refine g_imul C dMo_grinds_194 ?_
          refine g_bipush (v := Int32.ofInt (100)) C dMo_grinds_195 (by decide) ?_
          refine x_idiv C dMo_grinds_197 (by decide) ?_
          refine x_istore C dMo_grinds_198 (by decide) h (fun v4_198 h => ?_)
          refine g_aload_n C dMo_grinds_200 rfl ?_
          refine g_iconst (v := Int32.ofInt (0)) C dMo_grinds_201 (by decide) ?_
          refine g_iload_n C dMo_grinds_202 rfl ?_
          refine g_iadd C dMo_grinds_203 ?_
          refine g_dup2 C dMo_grinds_204 rfl rfl ?_
          obtain ⟨g_205, h⟩ := x_g h
          refine x_iald (m := 37) C dMo_grinds_205 h1 (by decide) rfl rfl g_205 ?_
          refine g_iload_n C dMo_grinds_206 rfl ?_
          refine g_isub C dMo_grinds_207 ?_
          obtain ⟨g_208, h⟩ := x_g h
          refine x_iast (m := 37) C dMo_grinds_208 h1 (by decide) rfl rfl g_208 h (fun I5 h => ?_)
          refine g_aload_n C dMo_grinds_209 rfl ?_
          refine g_bipush (v := Int32.ofInt (10)) C dMo_grinds_210 (by decide) ?_
          refine g_iload_n C dMo_grinds_212 rfl ?_
          refine g_iadd C dMo_grinds_213 ?_
          refine g_iload C dMo_grinds_214 rfl ?_
          obtain ⟨g_216, h⟩ := x_g h
          refine x_iast (m := 37) C dMo_grinds_216 h1 (by decide) rfl rfl g_216 h (fun I6 h => ?_)
          refine g_aload_n C dMo_grinds_217 rfl ?_
          refine g_bipush (v := Int32.ofInt (15)) C dMo_grinds_218 (by decide) ?_
          refine g_iload_n C dMo_grinds_220 rfl ?_
          refine g_iadd C dMo_grinds_221 ?_
          refine g_dup2 C dMo_grinds_222 rfl rfl ?_
          obtain ⟨g_223, h⟩ := x_g h
          refine x_iald (m := 37) C dMo_grinds_223 h1 (by decide) rfl rfl g_223 ?_
          refine g_iload C dMo_grinds_224 rfl ?_
          refine g_iadd C dMo_grinds_226 ?_
          obtain ⟨g_227, h⟩ := x_g h
          refine x_iast (m := 37) C dMo_grinds_227 h1 (by decide) rfl rfl g_227 h (fun I7 h => ?_)
          refine g_aload_n C dMo_grinds_228 rfl ?_
          refine g_iconst (v := Int32.ofInt (5)) C dMo_grinds_229 (by decide) ?_
          refine g_iload_n C dMo_grinds_230 rfl ?_
          refine g_iadd C dMo_grinds_231 ?_
          refine g_iload_n C dMo_grinds_232 rfl ?_
          refine g_iload C dMo_grinds_233 rfl ?_
          refine g_isub C dMo_grinds_235 ?_
          obtain ⟨g_236, h⟩ := x_g h
          refine x_iast (m := 37) C dMo_grinds_236 h1 (by decide) rfl rfl g_236 h (fun I8 h => ?_)
          refine x_iinc C dMo_grinds_237 rfl (by decide) h (fun v2_237 h => ?_)
          refine g_goto 153 C dMo_grinds_240 (by decide) ?_
          exact g_sub (hr_153 (v2_237) I8 h) ⟨rfl, rfl, rfl, trivial⟩
      exact g_sub (lp_153 ((Int32.ofInt (0))) I_46 h) ⟨rfl, rfl, rfl, trivial⟩
    · have h := x_neg (Int.not_lt.mpr c_47) h
      refine g_aload_n C dMo_grinds_50 rfl ?_
      refine g_iconst (v := Int32.ofInt (0)) C dMo_grinds_51 (by decide) ?_
      refine g_iload_n C dMo_grinds_52 rfl ?_
      refine g_iadd C dMo_grinds_53 ?_
      obtain ⟨g_54, h⟩ := x_g h
      refine x_iald (m := 37) C dMo_grinds_54 h1 (by decide) rfl rfl g_54 ?_
      refine g_aload_n C dMo_grinds_55 rfl ?_
      refine gt_getS C dMo_grinds_56 fl_Mo_290 h0 hN3.1 ?_
      have t_59 := rf_ok hT hN3.2 (show sp 9 12 = some 43 from rfl)
      refine x_getr C dMo_grinds_59 fl_Mo_267 hN3.2 hT (show sp 9 12 = some 43 from rfl) ?_
      refine g_iload_n C dMo_grinds_62 rfl ?_
      obtain ⟨g_63, h⟩ := x_g h
      refine x_iald (m := 5) C dMo_grinds_63 t_59 (by decide) rfl rfl g_63 ?_
      refine g_imul C dMo_grinds_64 ?_
      refine g_aload_n C dMo_grinds_65 rfl ?_
      refine g_bipush (v := Int32.ofInt (29)) C dMo_grinds_66 (by decide) ?_
      refine x_ialdc (m := 37) (c := 29) C dMo_grinds_68 h1 (by decide) rfl rfl rfl (by decide) ?_
      refine g_imul C dMo_grinds_69 ?_
      refine g_sipush (v := Int32.ofInt (10000)) C dMo_grinds_70 (by decide) ?_
      refine x_idiv C dMo_grinds_73 (by decide) ?_
      refine x_istore_n (i := 3) C dMo_grinds_74 rfl (by decide) h (fun v3_74 h => ?_)
      refine g_iload_n C dMo_grinds_75 rfl ?_
      refine g_aload_n C dMo_grinds_76 rfl ?_
      refine gt_getS C dMo_grinds_77 fl_Mo_290 h0 hN3.1 ?_
      have t_80 := rf_ok hT hN3.2 (show sp 9 13 = some 43 from rfl)
      refine x_getr C dMo_grinds_80 fl_Mo_270 hN3.2 hT (show sp 9 13 = some 43 from rfl) ?_
      refine g_iload_n C dMo_grinds_83 rfl ?_
      obtain ⟨g_84, h⟩ := x_g h
      refine x_iald (m := 5) C dMo_grinds_84 t_80 (by decide) rfl rfl g_84 ?_
      refine g_imul C dMo_grinds_85 ?_
      refine g_bipush (v := Int32.ofInt (100)) C dMo_grinds_86 (by decide) ?_
      refine x_idiv C dMo_grinds_88 (by decide) ?_
      refine x_istore C dMo_grinds_89 (by decide) h (fun v4_89 h => ?_)
      refine g_aload_n C dMo_grinds_91 rfl ?_
      refine g_iconst (v := Int32.ofInt (0)) C dMo_grinds_92 (by decide) ?_
      refine g_iload_n C dMo_grinds_93 rfl ?_
      refine g_iadd C dMo_grinds_94 ?_
      refine g_dup2 C dMo_grinds_95 rfl rfl ?_
      obtain ⟨g_96, h⟩ := x_g h
      refine x_iald (m := 37) C dMo_grinds_96 h1 (by decide) rfl rfl g_96 ?_
      refine g_iload_n C dMo_grinds_97 rfl ?_
      refine g_isub C dMo_grinds_98 ?_
      obtain ⟨g_99, h⟩ := x_g h
      refine x_iast (m := 37) C dMo_grinds_99 h1 (by decide) rfl rfl g_99 h (fun I9 h => ?_)
      refine g_aload_n C dMo_grinds_100 rfl ?_
      refine g_iconst (v := Int32.ofInt (0)) C dMo_grinds_101 (by decide) ?_
      refine g_iload_n C dMo_grinds_102 rfl ?_
      refine g_iadd C dMo_grinds_103 ?_
      refine g_iconst (v := Int32.ofInt (1)) C dMo_grinds_104 (by decide) ?_
      refine g_iadd C dMo_grinds_105 ?_
      refine g_dup2 C dMo_grinds_106 rfl rfl ?_
      obtain ⟨g_107, h⟩ := x_g h
      refine x_iald (m := 37) C dMo_grinds_107 h1 (by decide) rfl rfl g_107 ?_
      refine g_iload C dMo_grinds_108 rfl ?_
      refine g_iadd C dMo_grinds_110 ?_
      obtain ⟨g_111, h⟩ := x_g h
      refine x_iast (m := 37) C dMo_grinds_111 h1 (by decide) rfl rfl g_111 h (fun I10 h => ?_)
      refine g_aload_n C dMo_grinds_112 rfl ?_
      refine g_iconst (v := Int32.ofInt (0)) C dMo_grinds_113 (by decide) ?_
      refine g_iload_n C dMo_grinds_114 rfl ?_
      refine g_iconst (v := Int32.ofInt (2)) C dMo_grinds_115 (by decide) ?_
      refine g_iadd C dMo_grinds_116 ?_
      refine g_aload_n C dMo_grinds_117 rfl ?_
      refine gt_getS C dMo_grinds_118 fl_Mo_290 h0 hN3.1 ?_
      refine g_geti C dMo_grinds_121 fl_Mo_191 hN3.2 ?_
      refine x_jn h (fun (k_136 : Int32 → Option (WI)) => ∀ (s0_136 : Int32), k_136 s0_136 = some I' → GG X 5 P K I10 O J0 0 0 136 [(0, .ref a0), (1, .ref a1), (2, .int x2_46), (3, .int v3_74), (4, .int v4_89)] [.int s0_136, .int (Int32.ofInt (0)), .ref a1]) (fun s0_136 h => ?_) (fun k_136 hk_136 h => ?_)
      · skip
        refine g_iadd C dMo_grinds_136 ?_
        refine g_dup2 C dMo_grinds_137 rfl rfl ?_
        obtain ⟨g_138, h⟩ := x_g h
        refine x_iald (m := 37) C dMo_grinds_138 h1 (by decide) rfl rfl g_138 ?_
        refine g_iload_n C dMo_grinds_139 rfl ?_
        refine g_iload C dMo_grinds_140 rfl ?_
        refine g_isub C dMo_grinds_142 ?_
        refine g_iadd C dMo_grinds_143 ?_
        obtain ⟨g_144, h⟩ := x_g h
        refine x_iast (m := 37) C dMo_grinds_144 h1 (by decide) rfl rfl g_144 h (fun I11 h => ?_)
        refine x_iinc C dMo_grinds_145 rfl (by decide) h (fun v2_145 h => ?_)
        refine g_goto 46 C dMo_grinds_148 (by decide) ?_
        exact g_sub (hr_46 (v2_145) I11 h) ⟨rfl, rfl, rfl, trivial⟩
      refine gt_icmp_ge 133 C dMo_grinds_124 (by decide) rfl rfl (fun c_124 => ?_) (fun c_124 => ?_)
      · have h := x_pos c_124 h
        refine g_iload_n C dMo_grinds_133 rfl ?_
        refine g_iconst (v := Int32.ofInt (1)) C dMo_grinds_134 (by decide) ?_
        refine g_iadd C dMo_grinds_135 ?_
        exact g_sub (hk_136 ((x2_46 + (Int32.ofInt (1)))) h) ⟨rfl, rfl, rfl, rfl, rfl, trivial⟩
      · have h := x_neg (Int.not_le.mpr c_124) h
        refine g_iload_n C dMo_grinds_127 rfl ?_
        refine g_iconst (v := Int32.ofInt (2)) C dMo_grinds_128 (by decide) ?_
        refine g_iadd C dMo_grinds_129 ?_
        refine g_goto 136 C dMo_grinds_130 (by decide) ?_
        exact g_sub (hk_136 ((x2_46 + (Int32.ofInt (2)))) h) ⟨rfl, rfl, rfl, rfl, rfl, trivial⟩
  exact g_sub (lp_46 (v2_45) I3 h) ⟨rfl, rfl, rfl, trivial⟩
def B_Mo_goesS_2 (N : Nat) (O : WO) (a0 : Nat) (a1 : Nat) (J0 : WJ) (rec_2 : Int32 → WI → Option (WI)) (x2_2 : Int32) (I_2 : WI) : Option (WI) := if ((I_2 (rf O a0 3) 8)).toInt ≤ (x2_2).toInt then (bd1 (F_Mo_sumOfS N O I_2 J0 a0 a1 (Int32.ofInt (0))) fun z_95 => lb (up2 I_2 a1 28 z_95) fun I2 => jn (fun (s0_121 : Int32) => lb (up2 I2 a1 26 s0_121) fun I3 => lb (up2 I3 a1 29 (Int32.ofInt (0))) fun I4 => lb (up2 I4 a1 30 (Int32.ofInt (0))) fun I5 => jn (fun (IJ_152 : WI) => bd1 (F_Mo_sumOfS N O IJ_152 J0 a0 a1 (Int32.ofInt (10))) fun z_161 => lb (up2 IJ_152 a1 20 ((IJ_152 a1 20) + z_161)) fun I7 => jn (fun (s0_196 : Int32) => lb (up2 I7 a1 21 ((I7 a1 21) + s0_196)) fun I8 => lb (up2 I8 a1 20 ((I8 a1 20) - s0_196)) fun I9 => jn (fun (s0_241 : Int32) => lb (up2 I9 a1 20 ((I9 a1 20) - s0_241)) fun I10 => lb (up2 I10 a1 22 ((I10 a1 22) + s0_241)) fun I11 => lb (up2 I11 a1 23 ((I11 a1 23) + ((I11 (rf O a0 3) 6) - s0_241))) fun I12 => if ¬ ((I12 (rf O a0 3) 0)).toInt = 0 then (lb (((I12 (rf O a0 3) 1) - (((I12 (rf O a0 3) 1) * (I12 a1 28)) / (I12 (rf O a0 3) 0)))) fun v4_302 => jn (fun (s0_318 : Int32) => lb (up2 I12 a1 31 s0_318) fun I13 => if ¬ ((I13 (rf O a0 3) 7)).toInt = 0 then (if 0 ≤ (((I13 a1 27) - (I13 a1 27) / (I13 (rf O a0 3) 7) * (I13 (rf O a0 3) 7))).toInt ∧ (((I13 a1 27) - (I13 a1 27) / (I13 (rf O a0 3) 7) * (I13 (rf O a0 3) 7))).toInt < 6 then (lb (up2 I13 a1 32 ((I13 a1 32) + ((I13 a1 30) * (I13 (rf O (rf O a0 3) 11) (((I13 a1 27) - (I13 a1 27) / (I13 (rf O a0 3) 7) * (I13 (rf O a0 3) 7))).toInt.toNat)))) fun I14 => lb (up2 I14 a1 24 ((I14 a1 24) + (Int32.ofInt (1)))) fun I15 => lb (up2 I15 a1 27 ((I15 a1 27) + (Int32.ofInt (1)))) fun I16 => some I16) else none) else none) fun k_318 => if 0 ≤ (v4_302).toInt then (k_318 (v4_302)) else (k_318 ((Int32.ofInt (0))))) else none) fun k_241 => if ((I9 (rf O a0 3) 6)).toInt ≤ ((I9 a1 20)).toInt then (k_241 ((I9 (rf O a0 3) 6))) else (k_241 ((I9 a1 20)))) fun k_196 => if ((I7 a1 20)).toInt ≤ ((I7 (rf O a0 3) 5)).toInt then (k_196 ((Int32.ofInt (0)))) else (k_196 (((I7 a1 20) - (I7 (rf O a0 3) 5))))) fun k_152 => if ((I5 a1 26)).toInt = 0 then (bd1 (F_Mo_grindsS N O I5 J0 a0 a1) fun I18 => k_152  I18) else (bd1 (F_Mo_digsS N O I5 J0 a0 a1) fun I17 => k_152  I17)) fun k_121 => if ((I2 a1 28)).toInt ≤ ((I2 (rf O a0 3) 0)).toInt then (k_121 ((Int32.ofInt (0)))) else (k_121 ((Int32.ofInt (1))))) else (jn (fun (s0_46 : Int32) => lb (up2 I_2 a1 33 ((I_2 a1 33) + s0_46)) fun I19 => if 0 ≤ (((Int32.ofInt (0)) + x2_2)).toInt ∧ (((Int32.ofInt (0)) + x2_2)).toInt < 37 then (if 0 ≤ (((Int32.ofInt (5)) + x2_2)).toInt ∧ (((Int32.ofInt (5)) + x2_2)).toInt < 37 then (if 0 ≤ (((Int32.ofInt (0)) + x2_2)).toInt ∧ (((Int32.ofInt (0)) + x2_2)).toInt < 37 then (lb (up2 I19 a1 (((Int32.ofInt (0)) + x2_2)).toInt.toNat ((I19 a1 (((Int32.ofInt (0)) + x2_2)).toInt.toNat) + (s0_46 + (I19 a1 (((Int32.ofInt (5)) + x2_2)).toInt.toNat)))) fun I20 => if 0 ≤ (((Int32.ofInt (5)) + x2_2)).toInt ∧ (((Int32.ofInt (5)) + x2_2)).toInt < 37 then (lb (up2 I20 a1 (((Int32.ofInt (5)) + x2_2)).toInt.toNat (Int32.ofInt (0))) fun I21 => if 0 ≤ (((Int32.ofInt (10)) + x2_2)).toInt ∧ (((Int32.ofInt (10)) + x2_2)).toInt < 37 then (lb (up2 I21 a1 (((Int32.ofInt (10)) + x2_2)).toInt.toNat (Int32.ofInt (0))) fun I22 => lb (x2_2 + Int32.ofInt (1)) fun v2_83 => rec_2 (v2_83) I22) else none) else none) else none) else none) else none) fun k_46 => if ((I_2 a1 26)).toInt = 1 then (k_46 ((Int32.ofInt (0)))) else (if 0 ≤ ((((Int32.ofInt (5)) * (I_2 a1 36)) + x2_2)).toInt ∧ ((((Int32.ofInt (5)) * (I_2 a1 36)) + x2_2)).toInt < 20 then (k_46 (((I_2 a1 34) * (I_2 (rf O (rf O a0 3) 15) ((((Int32.ofInt (5)) * (I_2 a1 36)) + x2_2)).toInt.toNat)))) else none))
def F_Mo_goesS (N : Nat) (O : WO) (I0 : WI) (J0 : WJ) (a0 : Nat) (a1 : Nat) : Option (WI) := lp (B_Mo_goesS_2 N O a0 a1 J0) (fun _ _ => none) N ((Int32.ofInt (0))) I0
set_option maxHeartbeats 4000000 in
set_option maxRecDepth 100000 in
theorem f_Mo_goesS {P : List Nat} {K : Nat → Nat} {N : Nat} {O : WO} {I0 : WI} {J0 : WJ} (hT : TR P K O) {a0 : Nat} (h0 : a0 ∈ P ∧ K a0 = 10) {a1 : Nat} (h1 : a1 ∈ P ∧ K a1 = 31) (hN3 : NN P K O a0 3 9) {I' : WI} (h : F_Mo_goesS N O I0 J0 a0 a1 = some I') : Con yMo_goes bMo_goes 5 none ({ frames := 2, cells := 0, slots := 0, locals := 51 } : Room) P K I0 O J0 [.ref a0, .ref a1] (EPo none I' J0 P K O) := by
  refine Con.ofG mfMo_goes (Nat.le_of_ble_eq_true rfl) ?_
  intro X C E
  unfold F_Mo_goesS at h
  refine g_iconst (v := Int32.ofInt (0)) C dMo_goes_0 (by decide) ?_
  refine g_istore_n (i := 2) C dMo_goes_1 rfl (by decide) ?_
  have lp_2 : ∀ (x2_2 : Int32) (I_2 : WI), lp (B_Mo_goesS_2 N O a0 a1 J0) (fun _ _ => none) N x2_2 I_2 = some I' → GG X 5 P K I_2 O J0 0 0 2 [(0, .ref a0), (1, .ref a1), (2, .int x2_2)] [] := by
    refine x_lp (fun (rec_2 : Int32 → WI → Option (WI)) => ∀ (x2_2 : Int32) (I_2 : WI), rec_2 x2_2 I_2 = some I' → GG X 5 P K I_2 O J0 0 0 2 [(0, .ref a0), (1, .ref a1), (2, .int x2_2)] []) (fun _ _ h => by cases h) (fun rec_2 hr_2 x2_2 I_2 h => ?_) N
    unfold B_Mo_goesS_2 at h
    refine g_iload_n C dMo_goes_2 rfl ?_
    refine g_aload_n C dMo_goes_3 rfl ?_
    refine gt_getS C dMo_goes_4 fl_Mo_290 h0 hN3.1 ?_
    refine g_geti C dMo_goes_7 fl_Mo_191 hN3.2 ?_
    refine gt_icmp_ge 89 C dMo_goes_10 (by decide) rfl rfl (fun c_10 => ?_) (fun c_10 => ?_)
    · have h := x_pos c_10 h
      refine g_aload_n C dMo_goes_89 rfl ?_
      refine g_bipush (v := Int32.ofInt (28)) C dMo_goes_90 (by decide) ?_
      refine g_aload_n C dMo_goes_92 rfl ?_
      refine g_aload_n C dMo_goes_93 rfl ?_
      refine g_iconst (v := Int32.ofInt (0)) C dMo_goes_94 (by decide) ?_
      obtain ⟨z_95, e_95, h⟩ := bd1_some h
      refine x_callVi (av := fun ad => [.ref a1, .int (Int32.ofInt (0))]) C dMo_goes_95 mfMo_sumOf mvMo_sumOf ln_Mo_305 h0 (by decide) rfl (f_Mo_sumOfS hT h0 h1 hN3 e_95) rfl rfl (Nat.le_of_ble_eq_true rfl) ⟨Nat.le_of_ble_eq_true rfl, Nat.le_of_ble_eq_true rfl⟩ ⟨rfl, rfl⟩ ⟨Nat.zero_le _, Nat.zero_le _⟩ ?_
      refine x_iastc (m := 37) (c := 28) C dMo_goes_98 h1 (by decide) rfl rfl rfl (by decide) h (fun I2 h => ?_)
      refine g_aload_n C dMo_goes_99 rfl ?_
      refine g_bipush (v := Int32.ofInt (26)) C dMo_goes_100 (by decide) ?_
      refine g_aload_n C dMo_goes_102 rfl ?_
      refine g_bipush (v := Int32.ofInt (28)) C dMo_goes_103 (by decide) ?_
      refine x_ialdc (m := 37) (c := 28) C dMo_goes_105 h1 (by decide) rfl rfl rfl (by decide) ?_
      refine g_aload_n C dMo_goes_106 rfl ?_
      refine gt_getS C dMo_goes_107 fl_Mo_290 h0 hN3.1 ?_
      refine g_geti C dMo_goes_110 fl_Mo_176 hN3.2 ?_
      refine x_jn h (fun (k_121 : Int32 → Option (WI)) => ∀ (s0_121 : Int32), k_121 s0_121 = some I' → GG X 5 P K I2 O J0 0 0 121 [(0, .ref a0), (1, .ref a1), (2, .int x2_2)] [.int s0_121, .int (Int32.ofInt (26)), .ref a1]) (fun s0_121 h => ?_) (fun k_121 hk_121 h => ?_)
      · skip
        refine x_iastc (m := 37) (c := 26) C dMo_goes_121 h1 (by decide) rfl rfl rfl (by decide) h (fun I3 h => ?_)
        refine g_aload_n C dMo_goes_122 rfl ?_
        refine g_bipush (v := Int32.ofInt (29)) C dMo_goes_123 (by decide) ?_
        refine g_iconst (v := Int32.ofInt (0)) C dMo_goes_125 (by decide) ?_
        refine x_iastc (m := 37) (c := 29) C dMo_goes_126 h1 (by decide) rfl rfl rfl (by decide) h (fun I4 h => ?_)
        refine g_aload_n C dMo_goes_127 rfl ?_
        refine g_bipush (v := Int32.ofInt (30)) C dMo_goes_128 (by decide) ?_
        refine g_iconst (v := Int32.ofInt (0)) C dMo_goes_130 (by decide) ?_
        refine x_iastc (m := 37) (c := 30) C dMo_goes_131 h1 (by decide) rfl rfl rfl (by decide) h (fun I5 h => ?_)
        refine g_aload_n C dMo_goes_132 rfl ?_
        refine g_bipush (v := Int32.ofInt (26)) C dMo_goes_133 (by decide) ?_
        refine x_ialdc (m := 37) (c := 26) C dMo_goes_135 h1 (by decide) rfl rfl rfl (by decide) ?_
        refine x_jn h (fun (k_152 : WI → Option (WI)) => ∀ (IJ_152 : WI), k_152 IJ_152 = some I' → GG X 5 P K IJ_152 O J0 0 0 152 [(0, .ref a0), (1, .ref a1), (2, .int x2_2)] []) (fun IJ_152 h => ?_) (fun k_152 hk_152 h => ?_)
        · skip
          refine g_aload_n C dMo_goes_152 rfl ?_
          refine g_bipush (v := Int32.ofInt (20)) C dMo_goes_153 (by decide) ?_
          refine g_dup2 C dMo_goes_155 rfl rfl ?_
          refine x_ialdc (m := 37) (c := 20) C dMo_goes_156 h1 (by decide) rfl rfl rfl (by decide) ?_
          refine g_aload_n C dMo_goes_157 rfl ?_
          refine g_aload_n C dMo_goes_158 rfl ?_
          refine g_bipush (v := Int32.ofInt (10)) C dMo_goes_159 (by decide) ?_
          obtain ⟨z_161, e_161, h⟩ := bd1_some h
          refine x_callVi (av := fun ad => [.ref a1, .int (Int32.ofInt (10))]) C dMo_goes_161 mfMo_sumOf mvMo_sumOf ln_Mo_305 h0 (by decide) rfl (f_Mo_sumOfS hT h0 h1 hN3 e_161) rfl rfl (Nat.le_of_ble_eq_true rfl) ⟨Nat.le_of_ble_eq_true rfl, Nat.le_of_ble_eq_true rfl⟩ ⟨rfl, rfl⟩ ⟨Nat.zero_le _, Nat.zero_le _⟩ ?_
          refine g_iadd C dMo_goes_164 ?_
          refine x_iastc (m := 37) (c := 20) C dMo_goes_165 h1 (by decide) rfl rfl rfl (by decide) h (fun I7 h => ?_)
          refine g_aload_n C dMo_goes_166 rfl ?_
          refine g_bipush (v := Int32.ofInt (20)) C dMo_goes_167 (by decide) ?_
          refine x_ialdc (m := 37) (c := 20) C dMo_goes_169 h1 (by decide) rfl rfl rfl (by decide) ?_
          refine g_aload_n C dMo_goes_170 rfl ?_
          refine gt_getS C dMo_goes_171 fl_Mo_290 h0 hN3.1 ?_
          refine g_geti C dMo_goes_174 fl_Mo_186 hN3.2 ?_
          refine x_jn h (fun (k_196 : Int32 → Option (WI)) => ∀ (s0_196 : Int32), k_196 s0_196 = some I' → GG X 5 P K I7 O J0 0 0 196 [(0, .ref a0), (1, .ref a1), (2, .int x2_2)] [.int s0_196]) (fun s0_196 h => ?_) (fun k_196 hk_196 h => ?_)
          · skip
            refine g_istore_n (i := 2) C dMo_goes_196 rfl (by decide) ?_
            refine g_aload_n C dMo_goes_197 rfl ?_
            refine g_bipush (v := Int32.ofInt (21)) C dMo_goes_198 (by decide) ?_
            refine g_dup2 C dMo_goes_200 rfl rfl ?_
            refine x_ialdc (m := 37) (c := 21) C dMo_goes_201 h1 (by decide) rfl rfl rfl (by decide) ?_
            refine g_iload_n C dMo_goes_202 rfl ?_
            refine g_iadd C dMo_goes_203 ?_
            refine x_iastc (m := 37) (c := 21) C dMo_goes_204 h1 (by decide) rfl rfl rfl (by decide) h (fun I8 h => ?_)
            refine g_aload_n C dMo_goes_205 rfl ?_
            refine g_bipush (v := Int32.ofInt (20)) C dMo_goes_206 (by decide) ?_
            refine g_dup2 C dMo_goes_208 rfl rfl ?_
            refine x_ialdc (m := 37) (c := 20) C dMo_goes_209 h1 (by decide) rfl rfl rfl (by decide) ?_
            refine g_iload_n C dMo_goes_210 rfl ?_
            refine g_isub C dMo_goes_211 ?_
            refine x_iastc (m := 37) (c := 20) C dMo_goes_212 h1 (by decide) rfl rfl rfl (by decide) h (fun I9 h => ?_)
            refine g_aload_n C dMo_goes_213 rfl ?_
            refine g_bipush (v := Int32.ofInt (20)) C dMo_goes_214 (by decide) ?_
            refine x_ialdc (m := 37) (c := 20) C dMo_goes_216 h1 (by decide) rfl rfl rfl (by decide) ?_
            refine g_aload_n C dMo_goes_217 rfl ?_
            refine gt_getS C dMo_goes_218 fl_Mo_290 h0 hN3.1 ?_
            refine g_geti C dMo_goes_221 fl_Mo_252 hN3.2 ?_
            refine x_jn h (fun (k_241 : Int32 → Option (WI)) => ∀ (s0_241 : Int32), k_241 s0_241 = some I' → GG X 5 P K I9 O J0 0 0 241 [(0, .ref a0), (1, .ref a1), (2, .int s0_196)] [.int s0_241]) (fun s0_241 h => ?_) (fun k_241 hk_241 h => ?_)
            · skip
              refine g_istore_n (i := 3) C dMo_goes_241 rfl (by decide) ?_
              refine g_aload_n C dMo_goes_242 rfl ?_
              refine g_bipush (v := Int32.ofInt (20)) C dMo_goes_243 (by decide) ?_
              refine g_dup2 C dMo_goes_245 rfl rfl ?_
              refine x_ialdc (m := 37) (c := 20) C dMo_goes_246 h1 (by decide) rfl rfl rfl (by decide) ?_
              refine g_iload_n C dMo_goes_247 rfl ?_
              refine g_isub C dMo_goes_248 ?_
              refine x_iastc (m := 37) (c := 20) C dMo_goes_249 h1 (by decide) rfl rfl rfl (by decide) h (fun I10 h => ?_)
              refine g_aload_n C dMo_goes_250 rfl ?_
              refine g_bipush (v := Int32.ofInt (22)) C dMo_goes_251 (by decide) ?_
              refine g_dup2 C dMo_goes_253 rfl rfl ?_
              refine x_ialdc (m := 37) (c := 22) C dMo_goes_254 h1 (by decide) rfl rfl rfl (by decide) ?_
              refine g_iload_n C dMo_goes_255 rfl ?_
              refine g_iadd C dMo_goes_256 ?_
              refine x_iastc (m := 37) (c := 22) C dMo_goes_257 h1 (by decide) rfl rfl rfl (by decide) h (fun I11 h => ?_)
              refine g_aload_n C dMo_goes_258 rfl ?_
              refine g_bipush (v := Int32.ofInt (23)) C dMo_goes_259 (by decide) ?_
              refine g_dup2 C dMo_goes_261 rfl rfl ?_
              refine x_ialdc (m := 37) (c := 23) C dMo_goes_262 h1 (by decide) rfl rfl rfl (by decide) ?_
              refine g_aload_n C dMo_goes_263 rfl ?_
              refine gt_getS C dMo_goes_264 fl_Mo_290 h0 hN3.1 ?_
              refine g_geti C dMo_goes_267 fl_Mo_252 hN3.2 ?_
              refine g_iload_n C dMo_goes_270 rfl ?_
              refine g_isub C dMo_goes_271 ?_
              refine g_iadd C dMo_goes_272 ?_
              refine x_iastc (m := 37) (c := 23) C dMo_goes_273 h1 (by decide) rfl rfl rfl (by decide) h (fun I12 h => ?_)
              refine g_aload_n C dMo_goes_274 rfl ?_
              refine gt_getS C dMo_goes_275 fl_Mo_290 h0 hN3.1 ?_
              refine g_geti C dMo_goes_278 fl_Mo_233 hN3.2 ?_
              refine g_aload_n C dMo_goes_281 rfl ?_
              refine gt_getS C dMo_goes_282 fl_Mo_290 h0 hN3.1 ?_
              refine g_geti C dMo_goes_285 fl_Mo_233 hN3.2 ?_
              refine g_aload_n C dMo_goes_288 rfl ?_
              refine g_bipush (v := Int32.ofInt (28)) C dMo_goes_289 (by decide) ?_
              refine x_ialdc (m := 37) (c := 28) C dMo_goes_291 h1 (by decide) rfl rfl rfl (by decide) ?_
              refine g_imul C dMo_goes_292 ?_
              refine g_aload_n C dMo_goes_293 rfl ?_
              refine gt_getS C dMo_goes_294 fl_Mo_290 h0 hN3.1 ?_
              refine g_geti C dMo_goes_297 fl_Mo_176 hN3.2 ?_
              obtain ⟨g_300, h⟩ := x_g h
              refine x_idiv C dMo_goes_300 g_300 ?_
              refine g_isub C dMo_goes_301 ?_
              refine x_istore C dMo_goes_302 (by decide) h (fun v4_302 h => ?_)
              refine g_aload_n C dMo_goes_304 rfl ?_
              refine g_bipush (v := Int32.ofInt (31)) C dMo_goes_305 (by decide) ?_
              refine g_iload C dMo_goes_307 rfl ?_
              refine x_jn h (fun (k_318 : Int32 → Option (WI)) => ∀ (s0_318 : Int32), k_318 s0_318 = some I' → GG X 5 P K I12 O J0 0 0 318 [(0, .ref a0), (1, .ref a1), (2, .int s0_196), (3, .int s0_241), (4, .int v4_302)] [.int s0_318, .int (Int32.ofInt (31)), .ref a1]) (fun s0_318 h => ?_) (fun k_318 hk_318 h => ?_)
              · skip
                refine x_iastc (m := 37) (c := 31) C dMo_goes_318 h1 (by decide) rfl rfl rfl (by decide) h (fun I13 h => ?_)
                refine g_aload_n C dMo_goes_319 rfl ?_
                refine g_bipush (v := Int32.ofInt (32)) C dMo_goes_320 (by decide) ?_
                refine g_dup2 C dMo_goes_322 rfl rfl ?_
                refine x_ialdc (m := 37) (c := 32) C dMo_goes_323 h1 (by decide) rfl rfl rfl (by decide) ?_
                refine g_aload_n C dMo_goes_324 rfl ?_
                refine g_bipush (v := Int32.ofInt (30)) C dMo_goes_325 (by decide) ?_
                refine x_ialdc (m := 37) (c := 30) C dMo_goes_327 h1 (by decide) rfl rfl rfl (by decide) ?_
                refine g_aload_n C dMo_goes_328 rfl ?_
                refine gt_getS C dMo_goes_329 fl_Mo_290 h0 hN3.1 ?_
                have t_332 := rf_ok hT hN3.2 (show sp 9 11 = some 42 from rfl)
                refine x_getr C dMo_goes_332 fl_Mo_254 hN3.2 hT (show sp 9 11 = some 42 from rfl) ?_
                refine g_aload_n C dMo_goes_335 rfl ?_
                refine g_bipush (v := Int32.ofInt (27)) C dMo_goes_336 (by decide) ?_
                refine x_ialdc (m := 37) (c := 27) C dMo_goes_338 h1 (by decide) rfl rfl rfl (by decide) ?_
                refine g_aload_n C dMo_goes_339 rfl ?_
                refine gt_getS C dMo_goes_340 fl_Mo_290 h0 hN3.1 ?_
                refine g_geti C dMo_goes_343 fl_Mo_188 hN3.2 ?_
                obtain ⟨g_346, h⟩ := x_g h
                refine x_irem C dMo_goes_346 g_346 ?_
                obtain ⟨g_347, h⟩ := x_g h
                refine x_iald (m := 6) C dMo_goes_347 t_332 (by decide) rfl rfl g_347 ?_
                refine g_imul C dMo_goes_348 ?_
                refine g_iadd C dMo_goes_349 ?_
                refine x_iastc (m := 37) (c := 32) C dMo_goes_350 h1 (by decide) rfl rfl rfl (by decide) h (fun I14 h => ?_)
                refine g_aload_n C dMo_goes_351 rfl ?_
                refine g_bipush (v := Int32.ofInt (24)) C dMo_goes_352 (by decide) ?_
                refine g_dup2 C dMo_goes_354 rfl rfl ?_
                refine x_ialdc (m := 37) (c := 24) C dMo_goes_355 h1 (by decide) rfl rfl rfl (by decide) ?_
                refine g_iconst (v := Int32.ofInt (1)) C dMo_goes_356 (by decide) ?_
                refine g_iadd C dMo_goes_357 ?_
                refine x_iastc (m := 37) (c := 24) C dMo_goes_358 h1 (by decide) rfl rfl rfl (by decide) h (fun I15 h => ?_)
                refine g_aload_n C dMo_goes_359 rfl ?_
                refine g_bipush (v := Int32.ofInt (27)) C dMo_goes_360 (by decide) ?_
                refine g_dup2 C dMo_goes_362 rfl rfl ?_
                refine x_ialdc (m := 37) (c := 27) C dMo_goes_363 h1 (by decide) rfl rfl rfl (by decide) ?_
                refine g_iconst (v := Int32.ofInt (1)) C dMo_goes_364 (by decide) ?_
                refine g_iadd C dMo_goes_365 ?_
                refine x_iastc (m := 37) (c := 27) C dMo_goes_366 h1 (by decide) rfl rfl rfl (by decide) h (fun I16 h => ?_)
                exact x_vret1 C E dMo_goes_367 ⟨Nat.zero_le _, Nat.zero_le _⟩ h
              refine gt_if_ge 316 C dMo_goes_309 (by decide) rfl (fun c_309 => ?_) (fun c_309 => ?_)
              · have h := x_pos c_309 h
                refine g_iload C dMo_goes_316 rfl ?_
                exact g_sub (hk_318 (v4_302) h) ⟨rfl, rfl, rfl, rfl, rfl, trivial⟩
              · have h := x_neg (Int.not_le.mpr c_309) h
                refine g_iconst (v := Int32.ofInt (0)) C dMo_goes_312 (by decide) ?_
                refine g_goto 318 C dMo_goes_313 (by decide) ?_
                exact g_sub (hk_318 ((Int32.ofInt (0))) h) ⟨rfl, rfl, rfl, rfl, rfl, trivial⟩
            refine gt_icmp_ge 234 C dMo_goes_224 (by decide) rfl rfl (fun c_224 => ?_) (fun c_224 => ?_)
            · have h := x_pos c_224 h
              refine g_aload_n C dMo_goes_234 rfl ?_
              refine gt_getS C dMo_goes_235 fl_Mo_290 h0 hN3.1 ?_
              refine g_geti C dMo_goes_238 fl_Mo_252 hN3.2 ?_
              exact g_sub (hk_241 ((I9 (rf O a0 3) 6)) h) ⟨rfl, rfl, rfl, trivial⟩
            · have h := x_neg (Int.not_le.mpr c_224) h
              refine g_aload_n C dMo_goes_227 rfl ?_
              refine g_bipush (v := Int32.ofInt (20)) C dMo_goes_228 (by decide) ?_
              refine x_ialdc (m := 37) (c := 20) C dMo_goes_230 h1 (by decide) rfl rfl rfl (by decide) ?_
              refine g_goto 241 C dMo_goes_231 (by decide) ?_
              exact g_sub (hk_241 ((I9 a1 20)) h) ⟨rfl, rfl, rfl, trivial⟩
          refine gt_icmp_le 195 C dMo_goes_177 (by decide) rfl rfl (fun c_177 => ?_) (fun c_177 => ?_)
          · have h := x_pos c_177 h
            refine g_iconst (v := Int32.ofInt (0)) C dMo_goes_195 (by decide) ?_
            exact g_sub (hk_196 ((Int32.ofInt (0))) h) ⟨rfl, rfl, rfl, trivial⟩
          · have h := x_neg (Int.not_le.mpr c_177) h
            refine g_aload_n C dMo_goes_180 rfl ?_
            refine g_bipush (v := Int32.ofInt (20)) C dMo_goes_181 (by decide) ?_
            refine x_ialdc (m := 37) (c := 20) C dMo_goes_183 h1 (by decide) rfl rfl rfl (by decide) ?_
            refine g_aload_n C dMo_goes_184 rfl ?_
            refine gt_getS C dMo_goes_185 fl_Mo_290 h0 hN3.1 ?_
            refine g_geti C dMo_goes_188 fl_Mo_186 hN3.2 ?_
            refine g_isub C dMo_goes_191 ?_
            refine g_goto 196 C dMo_goes_192 (by decide) ?_
            exact g_sub (hk_196 (((I7 a1 20) - (I7 (rf O a0 3) 5))) h) ⟨rfl, rfl, rfl, trivial⟩
        refine gt_if_ne 147 C dMo_goes_136 (by decide) rfl (fun c_136 => ?_) (fun c_136 => ?_)
        · have h := x_neg c_136 h
          refine g_aload_n C dMo_goes_147 rfl ?_
          refine g_aload_n C dMo_goes_148 rfl ?_
          obtain ⟨I17, e_149, h⟩ := bd1_some h
          refine x_callVv (av := fun ad => [.ref a1]) C dMo_goes_149 mfMo_digs mvMo_digs ln_Mo_313 h0 (by decide) rfl (f_Mo_digsS hT h0 h1 hN3 e_149) rfl rfl (Nat.le_of_ble_eq_true rfl) ⟨Nat.le_of_ble_eq_true rfl, Nat.le_of_ble_eq_true rfl⟩ ⟨rfl, rfl⟩ ⟨Nat.zero_le _, Nat.zero_le _⟩ ?_
          exact g_sub (hk_152  I17 h) ⟨rfl, rfl, rfl, trivial⟩
        · have h := x_pos c_136 h
          refine g_aload_n C dMo_goes_139 rfl ?_
          refine g_aload_n C dMo_goes_140 rfl ?_
          obtain ⟨I18, e_141, h⟩ := bd1_some h
          refine x_callVv (av := fun ad => [.ref a1]) C dMo_goes_141 mfMo_grinds mvMo_grinds ln_Mo_309 h0 (by decide) rfl (f_Mo_grindsS hT h0 h1 hN3 e_141) rfl rfl (Nat.le_of_ble_eq_true rfl) ⟨Nat.le_of_ble_eq_true rfl, Nat.le_of_ble_eq_true rfl⟩ ⟨rfl, rfl⟩ ⟨Nat.zero_le _, Nat.zero_le _⟩ ?_
          refine g_goto 152 C dMo_goes_144 (by decide) ?_
          exact g_sub (hk_152  I18 h) ⟨rfl, rfl, rfl, trivial⟩
      refine gt_icmp_le 120 C dMo_goes_113 (by decide) rfl rfl (fun c_113 => ?_) (fun c_113 => ?_)
      · have h := x_pos c_113 h
        refine g_iconst (v := Int32.ofInt (0)) C dMo_goes_120 (by decide) ?_
        exact g_sub (hk_121 ((Int32.ofInt (0))) h) ⟨rfl, rfl, rfl, trivial⟩
      · have h := x_neg (Int.not_le.mpr c_113) h
        refine g_iconst (v := Int32.ofInt (1)) C dMo_goes_116 (by decide) ?_
        refine g_goto 121 C dMo_goes_117 (by decide) ?_
        exact g_sub (hk_121 ((Int32.ofInt (1))) h) ⟨rfl, rfl, rfl, trivial⟩
    · have h := x_neg (Int.not_le.mpr c_10) h
      refine g_aload_n C dMo_goes_13 rfl ?_
      refine g_bipush (v := Int32.ofInt (26)) C dMo_goes_14 (by decide) ?_
      refine x_ialdc (m := 37) (c := 26) C dMo_goes_16 h1 (by decide) rfl rfl rfl (by decide) ?_
      refine g_iconst (v := Int32.ofInt (1)) C dMo_goes_17 (by decide) ?_
      refine x_jn h (fun (k_46 : Int32 → Option (WI)) => ∀ (s0_46 : Int32), k_46 s0_46 = some I' → GG X 5 P K I_2 O J0 0 0 46 [(0, .ref a0), (1, .ref a1), (2, .int x2_2)] [.int s0_46]) (fun s0_46 h => ?_) (fun k_46 hk_46 h => ?_)
      · skip
        refine g_istore_n (i := 3) C dMo_goes_46 rfl (by decide) ?_
        refine g_aload_n C dMo_goes_47 rfl ?_
        refine g_bipush (v := Int32.ofInt (33)) C dMo_goes_48 (by decide) ?_
        refine g_dup2 C dMo_goes_50 rfl rfl ?_
        refine x_ialdc (m := 37) (c := 33) C dMo_goes_51 h1 (by decide) rfl rfl rfl (by decide) ?_
        refine g_iload_n C dMo_goes_52 rfl ?_
        refine g_iadd C dMo_goes_53 ?_
        refine x_iastc (m := 37) (c := 33) C dMo_goes_54 h1 (by decide) rfl rfl rfl (by decide) h (fun I19 h => ?_)
        refine g_aload_n C dMo_goes_55 rfl ?_
        refine g_iconst (v := Int32.ofInt (0)) C dMo_goes_56 (by decide) ?_
        refine g_iload_n C dMo_goes_57 rfl ?_
        refine g_iadd C dMo_goes_58 ?_
        refine g_dup2 C dMo_goes_59 rfl rfl ?_
        obtain ⟨g_60, h⟩ := x_g h
        refine x_iald (m := 37) C dMo_goes_60 h1 (by decide) rfl rfl g_60 ?_
        refine g_iload_n C dMo_goes_61 rfl ?_
        refine g_aload_n C dMo_goes_62 rfl ?_
        refine g_iconst (v := Int32.ofInt (5)) C dMo_goes_63 (by decide) ?_
        refine g_iload_n C dMo_goes_64 rfl ?_
        refine g_iadd C dMo_goes_65 ?_
        obtain ⟨g_66, h⟩ := x_g h
        refine x_iald (m := 37) C dMo_goes_66 h1 (by decide) rfl rfl g_66 ?_
        refine g_iadd C dMo_goes_67 ?_
        refine g_iadd C dMo_goes_68 ?_
        obtain ⟨g_69, h⟩ := x_g h
        refine x_iast (m := 37) C dMo_goes_69 h1 (by decide) rfl rfl g_69 h (fun I20 h => ?_)
        refine g_aload_n C dMo_goes_70 rfl ?_
        refine g_iconst (v := Int32.ofInt (5)) C dMo_goes_71 (by decide) ?_
        refine g_iload_n C dMo_goes_72 rfl ?_
        refine g_iadd C dMo_goes_73 ?_
        refine g_iconst (v := Int32.ofInt (0)) C dMo_goes_74 (by decide) ?_
        obtain ⟨g_75, h⟩ := x_g h
        refine x_iast (m := 37) C dMo_goes_75 h1 (by decide) rfl rfl g_75 h (fun I21 h => ?_)
        refine g_aload_n C dMo_goes_76 rfl ?_
        refine g_bipush (v := Int32.ofInt (10)) C dMo_goes_77 (by decide) ?_
        refine g_iload_n C dMo_goes_79 rfl ?_
        refine g_iadd C dMo_goes_80 ?_
        refine g_iconst (v := Int32.ofInt (0)) C dMo_goes_81 (by decide) ?_
        obtain ⟨g_82, h⟩ := x_g h
        refine x_iast (m := 37) C dMo_goes_82 h1 (by decide) rfl rfl g_82 h (fun I22 h => ?_)
        refine x_iinc C dMo_goes_83 rfl (by decide) h (fun v2_83 h => ?_)
        refine g_goto 2 C dMo_goes_86 (by decide) ?_
        exact g_sub (hr_2 (v2_83) I22 h) ⟨rfl, rfl, rfl, trivial⟩
      refine gt_icmp_ne 25 C dMo_goes_18 (by decide) rfl (ofI (by decide)) (fun c_18 => ?_) (fun c_18 => ?_)
      · have h := x_neg c_18 h
        refine g_aload_n C dMo_goes_25 rfl ?_
        refine g_bipush (v := Int32.ofInt (34)) C dMo_goes_26 (by decide) ?_
        refine x_ialdc (m := 37) (c := 34) C dMo_goes_28 h1 (by decide) rfl rfl rfl (by decide) ?_
        refine g_aload_n C dMo_goes_29 rfl ?_
        refine gt_getS C dMo_goes_30 fl_Mo_290 h0 hN3.1 ?_
        have t_33 := rf_ok hT hN3.2 (show sp 9 15 = some 45 from rfl)
        refine x_getr C dMo_goes_33 fl_Mo_278 hN3.2 hT (show sp 9 15 = some 45 from rfl) ?_
        refine g_iconst (v := Int32.ofInt (5)) C dMo_goes_36 (by decide) ?_
        refine g_aload_n C dMo_goes_37 rfl ?_
        refine g_bipush (v := Int32.ofInt (36)) C dMo_goes_38 (by decide) ?_
        refine x_ialdc (m := 37) (c := 36) C dMo_goes_40 h1 (by decide) rfl rfl rfl (by decide) ?_
        refine g_imul C dMo_goes_41 ?_
        refine g_iload_n C dMo_goes_42 rfl ?_
        refine g_iadd C dMo_goes_43 ?_
        obtain ⟨g_44, h⟩ := x_g h
        refine x_iald (m := 20) C dMo_goes_44 t_33 (by decide) rfl rfl g_44 ?_
        refine g_imul C dMo_goes_45 ?_
        exact g_sub (hk_46 (((I_2 a1 34) * (I_2 (rf O (rf O a0 3) 15) ((((Int32.ofInt (5)) * (I_2 a1 36)) + x2_2)).toInt.toNat))) h) ⟨rfl, rfl, rfl, trivial⟩
      · have h := x_pos c_18 h
        refine g_iconst (v := Int32.ofInt (0)) C dMo_goes_21 (by decide) ?_
        refine g_goto 46 C dMo_goes_22 (by decide) ?_
        exact g_sub (hk_46 ((Int32.ofInt (0))) h) ⟨rfl, rfl, rfl, trivial⟩
  exact g_sub (lp_2 ((Int32.ofInt (0))) I0 h) ⟨rfl, rfl, rfl, trivial⟩
def B_Mo_goesT_2 (N : Nat) (O : WO) (a0 : Nat) (a1 : Nat) (J0 : WJ) (rec_2 : Int32 → WI → Option (WI)) (x2_2 : Int32) (I_2 : WI) : Option (WI) := if ((I_2 (rf O a0 3) 8)).toInt ≤ (x2_2).toInt then (bd1 (F_Mo_sumOfT N O I_2 J0 a0 a1 (Int32.ofInt (0))) fun z_95 => lb (up2 I_2 a1 28 z_95) fun I2 => jn (fun (s0_121 : Int32) => lb (up2 I2 a1 26 s0_121) fun I3 => lb (up2 I3 a1 29 (Int32.ofInt (0))) fun I4 => lb (up2 I4 a1 30 (Int32.ofInt (0))) fun I5 => jn (fun (IJ_152 : WI) => bd1 (F_Mo_sumOfT N O IJ_152 J0 a0 a1 (Int32.ofInt (10))) fun z_161 => lb (up2 IJ_152 a1 20 ((IJ_152 a1 20) + z_161)) fun I7 => jn (fun (s0_196 : Int32) => lb (up2 I7 a1 21 ((I7 a1 21) + s0_196)) fun I8 => lb (up2 I8 a1 20 ((I8 a1 20) - s0_196)) fun I9 => jn (fun (s0_241 : Int32) => lb (up2 I9 a1 20 ((I9 a1 20) - s0_241)) fun I10 => lb (up2 I10 a1 22 ((I10 a1 22) + s0_241)) fun I11 => lb (up2 I11 a1 23 ((I11 a1 23) + ((I11 (rf O a0 3) 6) - s0_241))) fun I12 => if ¬ ((I12 (rf O a0 3) 0)).toInt = 0 then (lb (((I12 (rf O a0 3) 1) - (((I12 (rf O a0 3) 1) * (I12 a1 28)) / (I12 (rf O a0 3) 0)))) fun v4_302 => jn (fun (s0_318 : Int32) => lb (up2 I12 a1 31 s0_318) fun I13 => if ¬ ((I13 (rf O a0 3) 7)).toInt = 0 then (if 0 ≤ (((I13 a1 27) - (I13 a1 27) / (I13 (rf O a0 3) 7) * (I13 (rf O a0 3) 7))).toInt ∧ (((I13 a1 27) - (I13 a1 27) / (I13 (rf O a0 3) 7) * (I13 (rf O a0 3) 7))).toInt < 6 then (lb (up2 I13 a1 32 ((I13 a1 32) + ((I13 a1 30) * (I13 (rf O (rf O a0 3) 11) (((I13 a1 27) - (I13 a1 27) / (I13 (rf O a0 3) 7) * (I13 (rf O a0 3) 7))).toInt.toNat)))) fun I14 => lb (up2 I14 a1 24 ((I14 a1 24) + (Int32.ofInt (1)))) fun I15 => lb (up2 I15 a1 27 ((I15 a1 27) + (Int32.ofInt (1)))) fun I16 => some I16) else none) else none) fun k_318 => if 0 ≤ (v4_302).toInt then (k_318 (v4_302)) else (k_318 ((Int32.ofInt (0))))) else none) fun k_241 => if ((I9 (rf O a0 3) 6)).toInt ≤ ((I9 a1 20)).toInt then (k_241 ((I9 (rf O a0 3) 6))) else (k_241 ((I9 a1 20)))) fun k_196 => if ((I7 a1 20)).toInt ≤ ((I7 (rf O a0 3) 5)).toInt then (k_196 ((Int32.ofInt (0)))) else (k_196 (((I7 a1 20) - (I7 (rf O a0 3) 5))))) fun k_152 => if ((I5 a1 26)).toInt = 0 then (bd1 (F_Mo_grindsT N O I5 J0 a0 a1) fun I18 => k_152  I18) else (bd1 (F_Mo_digsT N O I5 J0 a0 a1) fun I17 => k_152  I17)) fun k_121 => if ((I2 a1 28)).toInt ≤ ((I2 (rf O a0 3) 0)).toInt then (k_121 ((Int32.ofInt (0)))) else (k_121 ((Int32.ofInt (1))))) else (jn (fun (s0_46 : Int32) => lb (up2 I_2 a1 33 ((I_2 a1 33) + s0_46)) fun I19 => if 0 ≤ (((Int32.ofInt (0)) + x2_2)).toInt ∧ (((Int32.ofInt (0)) + x2_2)).toInt < 37 then (if 0 ≤ (((Int32.ofInt (5)) + x2_2)).toInt ∧ (((Int32.ofInt (5)) + x2_2)).toInt < 37 then (if 0 ≤ (((Int32.ofInt (0)) + x2_2)).toInt ∧ (((Int32.ofInt (0)) + x2_2)).toInt < 37 then (lb (up2 I19 a1 (((Int32.ofInt (0)) + x2_2)).toInt.toNat ((I19 a1 (((Int32.ofInt (0)) + x2_2)).toInt.toNat) + (s0_46 + (I19 a1 (((Int32.ofInt (5)) + x2_2)).toInt.toNat)))) fun I20 => if 0 ≤ (((Int32.ofInt (5)) + x2_2)).toInt ∧ (((Int32.ofInt (5)) + x2_2)).toInt < 37 then (lb (up2 I20 a1 (((Int32.ofInt (5)) + x2_2)).toInt.toNat (Int32.ofInt (0))) fun I21 => if 0 ≤ (((Int32.ofInt (10)) + x2_2)).toInt ∧ (((Int32.ofInt (10)) + x2_2)).toInt < 37 then (lb (up2 I21 a1 (((Int32.ofInt (10)) + x2_2)).toInt.toNat (Int32.ofInt (0))) fun I22 => lb (x2_2 + Int32.ofInt (1)) fun v2_83 => rec_2 (v2_83) I22) else none) else none) else none) else none) else none) fun k_46 => if ((I_2 a1 26)).toInt = 1 then (k_46 ((Int32.ofInt (0)))) else (if 0 ≤ ((((Int32.ofInt (5)) * (I_2 a1 36)) + x2_2)).toInt ∧ ((((Int32.ofInt (5)) * (I_2 a1 36)) + x2_2)).toInt < 20 then (k_46 (((I_2 a1 34) * (I_2 (rf O (rf O a0 3) 15) ((((Int32.ofInt (5)) * (I_2 a1 36)) + x2_2)).toInt.toNat)))) else none))
def F_Mo_goesT (N : Nat) (O : WO) (I0 : WI) (J0 : WJ) (a0 : Nat) (a1 : Nat) : Option (WI) := lp (B_Mo_goesT_2 N O a0 a1 J0) (fun _ _ => none) N ((Int32.ofInt (0))) I0
set_option maxHeartbeats 4000000 in
set_option maxRecDepth 100000 in
theorem f_Mo_goesT {P : List Nat} {K : Nat → Nat} {N : Nat} {O : WO} {I0 : WI} {J0 : WJ} (hT : TR P K O) {a0 : Nat} (h0 : a0 ∈ P ∧ K a0 = 10) {a1 : Nat} (h1 : a1 ∈ P ∧ K a1 = 49) (hN3 : NN P K O a0 3 9) {I' : WI} (h : F_Mo_goesT N O I0 J0 a0 a1 = some I') : Con yMo_goes bMo_goes 5 none ({ frames := 2, cells := 0, slots := 0, locals := 51 } : Room) P K I0 O J0 [.ref a0, .ref a1] (EPo none I' J0 P K O) := by
  refine Con.ofG mfMo_goes (Nat.le_of_ble_eq_true rfl) ?_
  intro X C E
  unfold F_Mo_goesT at h
  refine g_iconst (v := Int32.ofInt (0)) C dMo_goes_0 (by decide) ?_
  refine g_istore_n (i := 2) C dMo_goes_1 rfl (by decide) ?_
  have lp_2 : ∀ (x2_2 : Int32) (I_2 : WI), lp (B_Mo_goesT_2 N O a0 a1 J0) (fun _ _ => none) N x2_2 I_2 = some I' → GG X 5 P K I_2 O J0 0 0 2 [(0, .ref a0), (1, .ref a1), (2, .int x2_2)] [] := by
    refine x_lp (fun (rec_2 : Int32 → WI → Option (WI)) => ∀ (x2_2 : Int32) (I_2 : WI), rec_2 x2_2 I_2 = some I' → GG X 5 P K I_2 O J0 0 0 2 [(0, .ref a0), (1, .ref a1), (2, .int x2_2)] []) (fun _ _ h => by cases h) (fun rec_2 hr_2 x2_2 I_2 h => ?_) N
    unfold B_Mo_goesT_2 at h
    refine g_iload_n C dMo_goes_2 rfl ?_
    refine g_aload_n C dMo_goes_3 rfl ?_
    refine gt_getS C dMo_goes_4 fl_Mo_290 h0 hN3.1 ?_
    refine g_geti C dMo_goes_7 fl_Mo_191 hN3.2 ?_
    refine gt_icmp_ge 89 C dMo_goes_10 (by decide) rfl rfl (fun c_10 => ?_) (fun c_10 => ?_)
    · have h := x_pos c_10 h
      refine g_aload_n C dMo_goes_89 rfl ?_
      refine g_bipush (v := Int32.ofInt (28)) C dMo_goes_90 (by decide) ?_
      refine g_aload_n C dMo_goes_92 rfl ?_
      refine g_aload_n C dMo_goes_93 rfl ?_
      refine g_iconst (v := Int32.ofInt (0)) C dMo_goes_94 (by decide) ?_
      obtain ⟨z_95, e_95, h⟩ := bd1_some h
      refine x_callVi (av := fun ad => [.ref a1, .int (Int32.ofInt (0))]) C dMo_goes_95 mfMo_sumOf mvMo_sumOf ln_Mo_305 h0 (by decide) rfl (f_Mo_sumOfT hT h0 h1 hN3 e_95) rfl rfl (Nat.le_of_ble_eq_true rfl) ⟨Nat.le_of_ble_eq_true rfl, Nat.le_of_ble_eq_true rfl⟩ ⟨rfl, rfl⟩ ⟨Nat.zero_le _, Nat.zero_le _⟩ ?_
      refine x_iastc (m := 37) (c := 28) C dMo_goes_98 h1 (by decide) rfl rfl rfl (by decide) h (fun I2 h => ?_)
      refine g_aload_n C dMo_goes_99 rfl ?_
      refine g_bipush (v := Int32.ofInt (26)) C dMo_goes_100 (by decide) ?_
      refine g_aload_n C dMo_goes_102 rfl ?_
      refine g_bipush (v := Int32.ofInt (28)) C dMo_goes_103 (by decide) ?_
      refine x_ialdc (m := 37) (c := 28) C dMo_goes_105 h1 (by decide) rfl rfl rfl (by decide) ?_
      refine g_aload_n C dMo_goes_106 rfl ?_
      refine gt_getS C dMo_goes_107 fl_Mo_290 h0 hN3.1 ?_
      refine g_geti C dMo_goes_110 fl_Mo_176 hN3.2 ?_
      refine x_jn h (fun (k_121 : Int32 → Option (WI)) => ∀ (s0_121 : Int32), k_121 s0_121 = some I' → GG X 5 P K I2 O J0 0 0 121 [(0, .ref a0), (1, .ref a1), (2, .int x2_2)] [.int s0_121, .int (Int32.ofInt (26)), .ref a1]) (fun s0_121 h => ?_) (fun k_121 hk_121 h => ?_)
      · skip
        refine x_iastc (m := 37) (c := 26) C dMo_goes_121 h1 (by decide) rfl rfl rfl (by decide) h (fun I3 h => ?_)
        refine g_aload_n C dMo_goes_122 rfl ?_
        refine g_bipush (v := Int32.ofInt (29)) C dMo_goes_123 (by decide) ?_
        refine g_iconst (v := Int32.ofInt (0)) C dMo_goes_125 (by decide) ?_
        refine x_iastc (m := 37) (c := 29) C dMo_goes_126 h1 (by decide) rfl rfl rfl (by decide) h (fun I4 h => ?_)
        refine g_aload_n C dMo_goes_127 rfl ?_
        refine g_bipush (v := Int32.ofInt (30)) C dMo_goes_128 (by decide) ?_
        refine g_iconst (v := Int32.ofInt (0)) C dMo_goes_130 (by decide) ?_
        refine x_iastc (m := 37) (c := 30) C dMo_goes_131 h1 (by decide) rfl rfl rfl (by decide) h (fun I5 h => ?_)
        refine g_aload_n C dMo_goes_132 rfl ?_
        refine g_bipush (v := Int32.ofInt (26)) C dMo_goes_133 (by decide) ?_
        refine x_ialdc (m := 37) (c := 26) C dMo_goes_135 h1 (by decide) rfl rfl rfl (by decide) ?_
        refine x_jn h (fun (k_152 : WI → Option (WI)) => ∀ (IJ_152 : WI), k_152 IJ_152 = some I' → GG X 5 P K IJ_152 O J0 0 0 152 [(0, .ref a0), (1, .ref a1), (2, .int x2_2)] []) (fun IJ_152 h => ?_) (fun k_152 hk_152 h => ?_)
        · skip
          refine g_aload_n C dMo_goes_152 rfl ?_
          refine g_bipush (v := Int32.ofInt (20)) C dMo_goes_153 (by decide) ?_
          refine g_dup2 C dMo_goes_155 rfl rfl ?_
          refine x_ialdc (m := 37) (c := 20) C dMo_goes_156 h1 (by decide) rfl rfl rfl (by decide) ?_
          refine g_aload_n C dMo_goes_157 rfl ?_
          refine g_aload_n C dMo_goes_158 rfl ?_
          refine g_bipush (v := Int32.ofInt (10)) C dMo_goes_159 (by decide) ?_
          obtain ⟨z_161, e_161, h⟩ := bd1_some h
          refine x_callVi (av := fun ad => [.ref a1, .int (Int32.ofInt (10))]) C dMo_goes_161 mfMo_sumOf mvMo_sumOf ln_Mo_305 h0 (by decide) rfl (f_Mo_sumOfT hT h0 h1 hN3 e_161) rfl rfl (Nat.le_of_ble_eq_true rfl) ⟨Nat.le_of_ble_eq_true rfl, Nat.le_of_ble_eq_true rfl⟩ ⟨rfl, rfl⟩ ⟨Nat.zero_le _, Nat.zero_le _⟩ ?_
          refine g_iadd C dMo_goes_164 ?_
          refine x_iastc (m := 37) (c := 20) C dMo_goes_165 h1 (by decide) rfl rfl rfl (by decide) h (fun I7 h => ?_)
          refine g_aload_n C dMo_goes_166 rfl ?_
          refine g_bipush (v := Int32.ofInt (20)) C dMo_goes_167 (by decide) ?_
          refine x_ialdc (m := 37) (c := 20) C dMo_goes_169 h1 (by decide) rfl rfl rfl (by decide) ?_
          refine g_aload_n C dMo_goes_170 rfl ?_
          refine gt_getS C dMo_goes_171 fl_Mo_290 h0 hN3.1 ?_
          refine g_geti C dMo_goes_174 fl_Mo_186 hN3.2 ?_
          refine x_jn h (fun (k_196 : Int32 → Option (WI)) => ∀ (s0_196 : Int32), k_196 s0_196 = some I' → GG X 5 P K I7 O J0 0 0 196 [(0, .ref a0), (1, .ref a1), (2, .int x2_2)] [.int s0_196]) (fun s0_196 h => ?_) (fun k_196 hk_196 h => ?_)
          · skip
            refine g_istore_n (i := 2) C dMo_goes_196 rfl (by decide) ?_
            refine g_aload_n C dMo_goes_197 rfl ?_
            refine g_bipush (v := Int32.ofInt (21)) C dMo_goes_198 (by decide) ?_
            refine g_dup2 C dMo_goes_200 rfl rfl ?_
            refine x_ialdc (m := 37) (c := 21) C dMo_goes_201 h1 (by decide) rfl rfl rfl (by decide) ?_
            refine g_iload_n C dMo_goes_202 rfl ?_
            refine g_iadd C dMo_goes_203 ?_
            refine x_iastc (m := 37) (c := 21) C dMo_goes_204 h1 (by decide) rfl rfl rfl (by decide) h (fun I8 h => ?_)
            refine g_aload_n C dMo_goes_205 rfl ?_
            refine g_bipush (v := Int32.ofInt (20)) C dMo_goes_206 (by decide) ?_
            refine g_dup2 C dMo_goes_208 rfl rfl ?_
            refine x_ialdc (m := 37) (c := 20) C dMo_goes_209 h1 (by decide) rfl rfl rfl (by decide) ?_
            refine g_iload_n C dMo_goes_210 rfl ?_
            refine g_isub C dMo_goes_211 ?_
            refine x_iastc (m := 37) (c := 20) C dMo_goes_212 h1 (by decide) rfl rfl rfl (by decide) h (fun I9 h => ?_)
            refine g_aload_n C dMo_goes_213 rfl ?_
            refine g_bipush (v := Int32.ofInt (20)) C dMo_goes_214 (by decide) ?_
            refine x_ialdc (m := 37) (c := 20) C dMo_goes_216 h1 (by decide) rfl rfl rfl (by decide) ?_
            refine g_aload_n C dMo_goes_217 rfl ?_
            refine gt_getS C dMo_goes_218 fl_Mo_290 h0 hN3.1 ?_
            refine g_geti C dMo_goes_221 fl_Mo_252 hN3.2 ?_
            refine x_jn h (fun (k_241 : Int32 → Option (WI)) => ∀ (s0_241 : Int32), k_241 s0_241 = some I' → GG X 5 P K I9 O J0 0 0 241 [(0, .ref a0), (1, .ref a1), (2, .int s0_196)] [.int s0_241]) (fun s0_241 h => ?_) (fun k_241 hk_241 h => ?_)
            · skip
              refine g_istore_n (i := 3) C dMo_goes_241 rfl (by decide) ?_
              refine g_aload_n C dMo_goes_242 rfl ?_
              refine g_bipush (v := Int32.ofInt (20)) C dMo_goes_243 (by decide) ?_
              refine g_dup2 C dMo_goes_245 rfl rfl ?_
              refine x_ialdc (m := 37) (c := 20) C dMo_goes_246 h1 (by decide) rfl rfl rfl (by decide) ?_
              refine g_iload_n C dMo_goes_247 rfl ?_
              refine g_isub C dMo_goes_248 ?_
              refine x_iastc (m := 37) (c := 20) C dMo_goes_249 h1 (by decide) rfl rfl rfl (by decide) h (fun I10 h => ?_)
              refine g_aload_n C dMo_goes_250 rfl ?_
              refine g_bipush (v := Int32.ofInt (22)) C dMo_goes_251 (by decide) ?_
              refine g_dup2 C dMo_goes_253 rfl rfl ?_
              refine x_ialdc (m := 37) (c := 22) C dMo_goes_254 h1 (by decide) rfl rfl rfl (by decide) ?_
              refine g_iload_n C dMo_goes_255 rfl ?_
              refine g_iadd C dMo_goes_256 ?_
              refine x_iastc (m := 37) (c := 22) C dMo_goes_257 h1 (by decide) rfl rfl rfl (by decide) h (fun I11 h => ?_)
              refine g_aload_n C dMo_goes_258 rfl ?_
              refine g_bipush (v := Int32.ofInt (23)) C dMo_goes_259 (by decide) ?_
              refine g_dup2 C dMo_goes_261 rfl rfl ?_
              refine x_ialdc (m := 37) (c := 23) C dMo_goes_262 h1 (by decide) rfl rfl rfl (by decide) ?_
              refine g_aload_n C dMo_goes_263 rfl ?_
              refine gt_getS C dMo_goes_264 fl_Mo_290 h0 hN3.1 ?_
              refine g_geti C dMo_goes_267 fl_Mo_252 hN3.2 ?_
              refine g_iload_n C dMo_goes_270 rfl ?_
              refine g_isub C dMo_goes_271 ?_
              refine g_iadd C dMo_goes_272 ?_
              refine x_iastc (m := 37) (c := 23) C dMo_goes_273 h1 (by decide) rfl rfl rfl (by decide) h (fun I12 h => ?_)
              refine g_aload_n C dMo_goes_274 rfl ?_
              refine gt_getS C dMo_goes_275 fl_Mo_290 h0 hN3.1 ?_
              refine g_geti C dMo_goes_278 fl_Mo_233 hN3.2 ?_
              refine g_aload_n C dMo_goes_281 rfl ?_
              refine gt_getS C dMo_goes_282 fl_Mo_290 h0 hN3.1 ?_
              refine g_geti C dMo_goes_285 fl_Mo_233 hN3.2 ?_
              refine g_aload_n C dMo_goes_288 rfl ?_
              refine g_bipush (v := Int32.ofInt (28)) C dMo_goes_289 (by decide) ?_
              refine x_ialdc (m := 37) (c := 28) C dMo_goes_291 h1 (by decide) rfl rfl rfl (by decide) ?_
              refine g_imul C dMo_goes_292 ?_
              refine g_aload_n C dMo_goes_293 rfl ?_
              refine gt_getS C dMo_goes_294 fl_Mo_290 h0 hN3.1 ?_
              refine g_geti C dMo_goes_297 fl_Mo_176 hN3.2 ?_
              obtain ⟨g_300, h⟩ := x_g h
              refine x_idiv C dMo_goes_300 g_300 ?_
              refine g_isub C dMo_goes_301 ?_
              refine x_istore C dMo_goes_302 (by decide) h (fun v4_302 h => ?_)
              refine g_aload_n C dMo_goes_304 rfl ?_
              refine g_bipush (v := Int32.ofInt (31)) C dMo_goes_305 (by decide) ?_
              refine g_iload C dMo_goes_307 rfl ?_
              refine x_jn h (fun (k_318 : Int32 → Option (WI)) => ∀ (s0_318 : Int32), k_318 s0_318 = some I' → GG X 5 P K I12 O J0 0 0 318 [(0, .ref a0), (1, .ref a1), (2, .int s0_196), (3, .int s0_241), (4, .int v4_302)] [.int s0_318, .int (Int32.ofInt (31)), .ref a1]) (fun s0_318 h => ?_) (fun k_318 hk_318 h => ?_)
              · skip
                refine x_iastc (m := 37) (c := 31) C dMo_goes_318 h1 (by decide) rfl rfl rfl (by decide) h (fun I13 h => ?_)
                refine g_aload_n C dMo_goes_319 rfl ?_
                refine g_bipush (v := Int32.ofInt (32)) C dMo_goes_320 (by decide) ?_
                refine g_dup2 C dMo_goes_322 rfl rfl ?_
                refine x_ialdc (m := 37) (c := 32) C dMo_goes_323 h1 (by decide) rfl rfl rfl (by decide) ?_
                refine g_aload_n C dMo_goes_324 rfl ?_
                refine g_bipush (v := Int32.ofInt (30)) C dMo_goes_325 (by decide) ?_
                refine x_ialdc (m := 37) (c := 30) C dMo_goes_327 h1 (by decide) rfl rfl rfl (by decide) ?_
                refine g_aload_n C dMo_goes_328 rfl ?_
                refine gt_getS C dMo_goes_329 fl_Mo_290 h0 hN3.1 ?_
                have t_332 := rf_ok hT hN3.2 (show sp 9 11 = some 42 from rfl)
                refine x_getr C dMo_goes_332 fl_Mo_254 hN3.2 hT (show sp 9 11 = some 42 from rfl) ?_
                refine g_aload_n C dMo_goes_335 rfl ?_
                refine g_bipush (v := Int32.ofInt (27)) C dMo_goes_336 (by decide) ?_
                refine x_ialdc (m := 37) (c := 27) C dMo_goes_338 h1 (by decide) rfl rfl rfl (by decide) ?_
                refine g_aload_n C dMo_goes_339 rfl ?_
                refine gt_getS C dMo_goes_340 fl_Mo_290 h0 hN3.1 ?_
                refine g_geti C dMo_goes_343 fl_Mo_188 hN3.2 ?_
                obtain ⟨g_346, h⟩ := x_g h
                refine x_irem C dMo_goes_346 g_346 ?_
                obtain ⟨g_347, h⟩ := x_g h
                refine x_iald (m := 6) C dMo_goes_347 t_332 (by decide) rfl rfl g_347 ?_
                refine g_imul C dMo_goes_348 ?_
                refine g_iadd C dMo_goes_349 ?_
                refine x_iastc (m := 37) (c := 32) C dMo_goes_350 h1 (by decide) rfl rfl rfl (by decide) h (fun I14 h => ?_)
                refine g_aload_n C dMo_goes_351 rfl ?_
                refine g_bipush (v := Int32.ofInt (24)) C dMo_goes_352 (by decide) ?_
                refine g_dup2 C dMo_goes_354 rfl rfl ?_
                refine x_ialdc (m := 37) (c := 24) C dMo_goes_355 h1 (by decide) rfl rfl rfl (by decide) ?_
                refine g_iconst (v := Int32.ofInt (1)) C dMo_goes_356 (by decide) ?_
                refine g_iadd C dMo_goes_357 ?_
                refine x_iastc (m := 37) (c := 24) C dMo_goes_358 h1 (by decide) rfl rfl rfl (by decide) h (fun I15 h => ?_)
                refine g_aload_n C dMo_goes_359 rfl ?_
                refine g_bipush (v := Int32.ofInt (27)) C dMo_goes_360 (by decide) ?_
                refine g_dup2 C dMo_goes_362 rfl rfl ?_
                refine x_ialdc (m := 37) (c := 27) C dMo_goes_363 h1 (by decide) rfl rfl rfl (by decide) ?_
                refine g_iconst (v := Int32.ofInt (1)) C dMo_goes_364 (by decide) ?_
                refine g_iadd C dMo_goes_365 ?_
                refine x_iastc (m := 37) (c := 27) C dMo_goes_366 h1 (by decide) rfl rfl rfl (by decide) h (fun I16 h => ?_)
                exact x_vret1 C E dMo_goes_367 ⟨Nat.zero_le _, Nat.zero_le _⟩ h
              refine gt_if_ge 316 C dMo_goes_309 (by decide) rfl (fun c_309 => ?_) (fun c_309 => ?_)
              · have h := x_pos c_309 h
                refine g_iload C dMo_goes_316 rfl ?_
                exact g_sub (hk_318 (v4_302) h) ⟨rfl, rfl, rfl, rfl, rfl, trivial⟩
              · have h := x_neg (Int.not_le.mpr c_309) h
                refine g_iconst (v := Int32.ofInt (0)) C dMo_goes_312 (by decide) ?_
                refine g_goto 318 C dMo_goes_313 (by decide) ?_
                exact g_sub (hk_318 ((Int32.ofInt (0))) h) ⟨rfl, rfl, rfl, rfl, rfl, trivial⟩
            refine gt_icmp_ge 234 C dMo_goes_224 (by decide) rfl rfl (fun c_224 => ?_) (fun c_224 => ?_)
            · have h := x_pos c_224 h
              refine g_aload_n C dMo_goes_234 rfl ?_
              refine gt_getS C dMo_goes_235 fl_Mo_290 h0 hN3.1 ?_
              refine g_geti C dMo_goes_238 fl_Mo_252 hN3.2 ?_
              exact g_sub (hk_241 ((I9 (rf O a0 3) 6)) h) ⟨rfl, rfl, rfl, trivial⟩
            · have h := x_neg (Int.not_le.mpr c_224) h
              refine g_aload_n C dMo_goes_227 rfl ?_
              refine g_bipush (v := Int32.ofInt (20)) C dMo_goes_228 (by decide) ?_
              refine x_ialdc (m := 37) (c := 20) C dMo_goes_230 h1 (by decide) rfl rfl rfl (by decide) ?_
              refine g_goto 241 C dMo_goes_231 (by decide) ?_
              exact g_sub (hk_241 ((I9 a1 20)) h) ⟨rfl, rfl, rfl, trivial⟩
          refine gt_icmp_le 195 C dMo_goes_177 (by decide) rfl rfl (fun c_177 => ?_) (fun c_177 => ?_)
          · have h := x_pos c_177 h
            refine g_iconst (v := Int32.ofInt (0)) C dMo_goes_195 (by decide) ?_
            exact g_sub (hk_196 ((Int32.ofInt (0))) h) ⟨rfl, rfl, rfl, trivial⟩
          · have h := x_neg (Int.not_le.mpr c_177) h
            refine g_aload_n C dMo_goes_180 rfl ?_
            refine g_bipush (v := Int32.ofInt (20)) C dMo_goes_181 (by decide) ?_
            refine x_ialdc (m := 37) (c := 20) C dMo_goes_183 h1 (by decide) rfl rfl rfl (by decide) ?_
            refine g_aload_n C dMo_goes_184 rfl ?_
            refine gt_getS C dMo_goes_185 fl_Mo_290 h0 hN3.1 ?_
            refine g_geti C dMo_goes_188 fl_Mo_186 hN3.2 ?_
            refine g_isub C dMo_goes_191 ?_
            refine g_goto 196 C dMo_goes_192 (by decide) ?_
            exact g_sub (hk_196 (((I7 a1 20) - (I7 (rf O a0 3) 5))) h) ⟨rfl, rfl, rfl, trivial⟩
        refine gt_if_ne 147 C dMo_goes_136 (by decide) rfl (fun c_136 => ?_) (fun c_136 => ?_)
        · have h := x_neg c_136 h
          refine g_aload_n C dMo_goes_147 rfl ?_
          refine g_aload_n C dMo_goes_148 rfl ?_
          obtain ⟨I17, e_149, h⟩ := bd1_some h
          refine x_callVv (av := fun ad => [.ref a1]) C dMo_goes_149 mfMo_digs mvMo_digs ln_Mo_313 h0 (by decide) rfl (f_Mo_digsT hT h0 h1 hN3 e_149) rfl rfl (Nat.le_of_ble_eq_true rfl) ⟨Nat.le_of_ble_eq_true rfl, Nat.le_of_ble_eq_true rfl⟩ ⟨rfl, rfl⟩ ⟨Nat.zero_le _, Nat.zero_le _⟩ ?_
          exact g_sub (hk_152  I17 h) ⟨rfl, rfl, rfl, trivial⟩
        · have h := x_pos c_136 h
          refine g_aload_n C dMo_goes_139 rfl ?_
          refine g_aload_n C dMo_goes_140 rfl ?_
          obtain ⟨I18, e_141, h⟩ := bd1_some h
          refine x_callVv (av := fun ad => [.ref a1]) C dMo_goes_141 mfMo_grinds mvMo_grinds ln_Mo_309 h0 (by decide) rfl (f_Mo_grindsT hT h0 h1 hN3 e_141) rfl rfl (Nat.le_of_ble_eq_true rfl) ⟨Nat.le_of_ble_eq_true rfl, Nat.le_of_ble_eq_true rfl⟩ ⟨rfl, rfl⟩ ⟨Nat.zero_le _, Nat.zero_le _⟩ ?_
          refine g_goto 152 C dMo_goes_144 (by decide) ?_
          exact g_sub (hk_152  I18 h) ⟨rfl, rfl, rfl, trivial⟩
      refine gt_icmp_le 120 C dMo_goes_113 (by decide) rfl rfl (fun c_113 => ?_) (fun c_113 => ?_)
      · have h := x_pos c_113 h
        refine g_iconst (v := Int32.ofInt (0)) C dMo_goes_120 (by decide) ?_
        exact g_sub (hk_121 ((Int32.ofInt (0))) h) ⟨rfl, rfl, rfl, trivial⟩
      · have h := x_neg (Int.not_le.mpr c_113) h
        refine g_iconst (v := Int32.ofInt (1)) C dMo_goes_116 (by decide) ?_
        refine g_goto 121 C dMo_goes_117 (by decide) ?_
        exact g_sub (hk_121 ((Int32.ofInt (1))) h) ⟨rfl, rfl, rfl, trivial⟩
    · have h := x_neg (Int.not_le.mpr c_10) h
      refine g_aload_n C dMo_goes_13 rfl ?_
      refine g_bipush (v := Int32.ofInt (26)) C dMo_goes_14 (by decide) ?_
      refine x_ialdc (m := 37) (c := 26) C dMo_goes_16 h1 (by decide) rfl rfl rfl (by decide) ?_
      refine g_iconst (v := Int32.ofInt (1)) C dMo_goes_17 (by decide) ?_
      refine x_jn h (fun (k_46 : Int32 → Option (WI)) => ∀ (s0_46 : Int32), k_46 s0_46 = some I' → GG X 5 P K I_2 O J0 0 0 46 [(0, .ref a0), (1, .ref a1), (2, .int x2_2)] [.int s0_46]) (fun s0_46 h => ?_) (fun k_46 hk_46 h => ?_)
      · skip
        refine g_istore_n (i := 3) C dMo_goes_46 rfl (by decide) ?_
        refine g_aload_n C dMo_goes_47 rfl ?_
        refine g_bipush (v := Int32.ofInt (33)) C dMo_goes_48 (by decide) ?_
        refine g_dup2 C dMo_goes_50 rfl rfl ?_
        refine x_ialdc (m := 37) (c := 33) C dMo_goes_51 h1 (by decide) rfl rfl rfl (by decide) ?_
        refine g_iload_n C dMo_goes_52 rfl ?_
        refine g_iadd C dMo_goes_53 ?_
        refine x_iastc (m := 37) (c := 33) C dMo_goes_54 h1 (by decide) rfl rfl rfl (by decide) h (fun I19 h => ?_)
        refine g_aload_n C dMo_goes_55 rfl ?_
        refine g_iconst (v := Int32.ofInt (0)) C dMo_goes_56 (by decide) ?_
        refine g_iload_n C dMo_goes_57 rfl ?_
        refine g_iadd C dMo_goes_58 ?_
        refine g_dup2 C dMo_goes_59 rfl rfl ?_
        obtain ⟨g_60, h⟩ := x_g h
        refine x_iald (m := 37) C dMo_goes_60 h1 (by decide) rfl rfl g_60 ?_
        refine g_iload_n C dMo_goes_61 rfl ?_
        refine g_aload_n C dMo_goes_62 rfl ?_
        refine g_iconst (v := Int32.ofInt (5)) C dMo_goes_63 (by decide) ?_
        refine g_iload_n C dMo_goes_64 rfl ?_
        refine g_iadd C dMo_goes_65 ?_
        obtain ⟨g_66, h⟩ := x_g h
        refine x_iald (m := 37) C dMo_goes_66 h1 (by decide) rfl rfl g_66 ?_
        refine g_iadd C dMo_goes_67 ?_
        refine g_iadd C dMo_goes_68 ?_
        obtain ⟨g_69, h⟩ := x_g h
        refine x_iast (m := 37) C dMo_goes_69 h1 (by decide) rfl rfl g_69 h (fun I20 h => ?_)
        refine g_aload_n C dMo_goes_70 rfl ?_
        refine g_iconst (v := Int32.ofInt (5)) C dMo_goes_71 (by decide) ?_
        refine g_iload_n C dMo_goes_72 rfl ?_
        refine g_iadd C dMo_goes_73 ?_
        refine g_iconst (v := Int32.ofInt (0)) C dMo_goes_74 (by decide) ?_
        obtain ⟨g_75, h⟩ := x_g h
        refine x_iast (m := 37) C dMo_goes_75 h1 (by decide) rfl rfl g_75 h (fun I21 h => ?_)
        refine g_aload_n C dMo_goes_76 rfl ?_
        refine g_bipush (v := Int32.ofInt (10)) C dMo_goes_77 (by decide) ?_
        refine g_iload_n C dMo_goes_79 rfl ?_
        refine g_iadd C dMo_goes_80 ?_
        refine g_iconst (v := Int32.ofInt (0)) C dMo_goes_81 (by decide) ?_
        obtain ⟨g_82, h⟩ := x_g h
        refine x_iast (m := 37) C dMo_goes_82 h1 (by decide) rfl rfl g_82 h (fun I22 h => ?_)
        refine x_iinc C dMo_goes_83 rfl (by decide) h (fun v2_83 h => ?_)
        refine g_goto 2 C dMo_goes_86 (by decide) ?_
        exact g_sub (hr_2 (v2_83) I22 h) ⟨rfl, rfl, rfl, trivial⟩
      refine gt_icmp_ne 25 C dMo_goes_18 (by decide) rfl (ofI (by decide)) (fun c_18 => ?_) (fun c_18 => ?_)
      · have h := x_neg c_18 h
        refine g_aload_n C dMo_goes_25 rfl ?_
        refine g_bipush (v := Int32.ofInt (34)) C dMo_goes_26 (by decide) ?_
        refine x_ialdc (m := 37) (c := 34) C dMo_goes_28 h1 (by decide) rfl rfl rfl (by decide) ?_
        refine g_aload_n C dMo_goes_29 rfl ?_
        refine gt_getS C dMo_goes_30 fl_Mo_290 h0 hN3.1 ?_
        have t_33 := rf_ok hT hN3.2 (show sp 9 15 = some 45 from rfl)
        refine x_getr C dMo_goes_33 fl_Mo_278 hN3.2 hT (show sp 9 15 = some 45 from rfl) ?_
        refine g_iconst (v := Int32.ofInt (5)) C dMo_goes_36 (by decide) ?_
        refine g_aload_n C dMo_goes_37 rfl ?_
        refine g_bipush (v := Int32.ofInt (36)) C dMo_goes_38 (by decide) ?_
        refine x_ialdc (m := 37) (c := 36) C dMo_goes_40 h1 (by decide) rfl rfl rfl (by decide) ?_
        refine g_imul C dMo_goes_41 ?_
        refine g_iload_n C dMo_goes_42 rfl ?_
        refine g_iadd C dMo_goes_43 ?_
        obtain ⟨g_44, h⟩ := x_g h
        refine x_iald (m := 20) C dMo_goes_44 t_33 (by decide) rfl rfl g_44 ?_
        refine g_imul C dMo_goes_45 ?_
        exact g_sub (hk_46 (((I_2 a1 34) * (I_2 (rf O (rf O a0 3) 15) ((((Int32.ofInt (5)) * (I_2 a1 36)) + x2_2)).toInt.toNat))) h) ⟨rfl, rfl, rfl, trivial⟩
      · have h := x_pos c_18 h
        refine g_iconst (v := Int32.ofInt (0)) C dMo_goes_21 (by decide) ?_
        refine g_goto 46 C dMo_goes_22 (by decide) ?_
        exact g_sub (hk_46 ((Int32.ofInt (0))) h) ⟨rfl, rfl, rfl, trivial⟩
  exact g_sub (lp_2 ((Int32.ofInt (0))) I0 h) ⟨rfl, rfl, rfl, trivial⟩
def B_Mo_goesU_2 (N : Nat) (O : WO) (a0 : Nat) (a1 : Nat) (J0 : WJ) (rec_2 : Int32 → WI → Option (WI)) (x2_2 : Int32) (I_2 : WI) : Option (WI) := if ((I_2 (rf O a0 3) 8)).toInt ≤ (x2_2).toInt then (bd1 (F_Mo_sumOfU N O I_2 J0 a0 a1 (Int32.ofInt (0))) fun z_95 => lb (up2 I_2 a1 28 z_95) fun I2 => jn (fun (s0_121 : Int32) => lb (up2 I2 a1 26 s0_121) fun I3 => lb (up2 I3 a1 29 (Int32.ofInt (0))) fun I4 => lb (up2 I4 a1 30 (Int32.ofInt (0))) fun I5 => jn (fun (IJ_152 : WI) => bd1 (F_Mo_sumOfU N O IJ_152 J0 a0 a1 (Int32.ofInt (10))) fun z_161 => lb (up2 IJ_152 a1 20 ((IJ_152 a1 20) + z_161)) fun I7 => jn (fun (s0_196 : Int32) => lb (up2 I7 a1 21 ((I7 a1 21) + s0_196)) fun I8 => lb (up2 I8 a1 20 ((I8 a1 20) - s0_196)) fun I9 => jn (fun (s0_241 : Int32) => lb (up2 I9 a1 20 ((I9 a1 20) - s0_241)) fun I10 => lb (up2 I10 a1 22 ((I10 a1 22) + s0_241)) fun I11 => lb (up2 I11 a1 23 ((I11 a1 23) + ((I11 (rf O a0 3) 6) - s0_241))) fun I12 => if ¬ ((I12 (rf O a0 3) 0)).toInt = 0 then (lb (((I12 (rf O a0 3) 1) - (((I12 (rf O a0 3) 1) * (I12 a1 28)) / (I12 (rf O a0 3) 0)))) fun v4_302 => jn (fun (s0_318 : Int32) => lb (up2 I12 a1 31 s0_318) fun I13 => if ¬ ((I13 (rf O a0 3) 7)).toInt = 0 then (if 0 ≤ (((I13 a1 27) - (I13 a1 27) / (I13 (rf O a0 3) 7) * (I13 (rf O a0 3) 7))).toInt ∧ (((I13 a1 27) - (I13 a1 27) / (I13 (rf O a0 3) 7) * (I13 (rf O a0 3) 7))).toInt < 6 then (lb (up2 I13 a1 32 ((I13 a1 32) + ((I13 a1 30) * (I13 (rf O (rf O a0 3) 11) (((I13 a1 27) - (I13 a1 27) / (I13 (rf O a0 3) 7) * (I13 (rf O a0 3) 7))).toInt.toNat)))) fun I14 => lb (up2 I14 a1 24 ((I14 a1 24) + (Int32.ofInt (1)))) fun I15 => lb (up2 I15 a1 27 ((I15 a1 27) + (Int32.ofInt (1)))) fun I16 => some I16) else none) else none) fun k_318 => if 0 ≤ (v4_302).toInt then (k_318 (v4_302)) else (k_318 ((Int32.ofInt (0))))) else none) fun k_241 => if ((I9 (rf O a0 3) 6)).toInt ≤ ((I9 a1 20)).toInt then (k_241 ((I9 (rf O a0 3) 6))) else (k_241 ((I9 a1 20)))) fun k_196 => if ((I7 a1 20)).toInt ≤ ((I7 (rf O a0 3) 5)).toInt then (k_196 ((Int32.ofInt (0)))) else (k_196 (((I7 a1 20) - (I7 (rf O a0 3) 5))))) fun k_152 => if ((I5 a1 26)).toInt = 0 then (bd1 (F_Mo_grindsU N O I5 J0 a0 a1) fun I18 => k_152  I18) else (bd1 (F_Mo_digsU N O I5 J0 a0 a1) fun I17 => k_152  I17)) fun k_121 => if ((I2 a1 28)).toInt ≤ ((I2 (rf O a0 3) 0)).toInt then (k_121 ((Int32.ofInt (0)))) else (k_121 ((Int32.ofInt (1))))) else (jn (fun (s0_46 : Int32) => lb (up2 I_2 a1 33 ((I_2 a1 33) + s0_46)) fun I19 => if 0 ≤ (((Int32.ofInt (0)) + x2_2)).toInt ∧ (((Int32.ofInt (0)) + x2_2)).toInt < 37 then (if 0 ≤ (((Int32.ofInt (5)) + x2_2)).toInt ∧ (((Int32.ofInt (5)) + x2_2)).toInt < 37 then (if 0 ≤ (((Int32.ofInt (0)) + x2_2)).toInt ∧ (((Int32.ofInt (0)) + x2_2)).toInt < 37 then (lb (up2 I19 a1 (((Int32.ofInt (0)) + x2_2)).toInt.toNat ((I19 a1 (((Int32.ofInt (0)) + x2_2)).toInt.toNat) + (s0_46 + (I19 a1 (((Int32.ofInt (5)) + x2_2)).toInt.toNat)))) fun I20 => if 0 ≤ (((Int32.ofInt (5)) + x2_2)).toInt ∧ (((Int32.ofInt (5)) + x2_2)).toInt < 37 then (lb (up2 I20 a1 (((Int32.ofInt (5)) + x2_2)).toInt.toNat (Int32.ofInt (0))) fun I21 => if 0 ≤ (((Int32.ofInt (10)) + x2_2)).toInt ∧ (((Int32.ofInt (10)) + x2_2)).toInt < 37 then (lb (up2 I21 a1 (((Int32.ofInt (10)) + x2_2)).toInt.toNat (Int32.ofInt (0))) fun I22 => lb (x2_2 + Int32.ofInt (1)) fun v2_83 => rec_2 (v2_83) I22) else none) else none) else none) else none) else none) fun k_46 => if ((I_2 a1 26)).toInt = 1 then (k_46 ((Int32.ofInt (0)))) else (if 0 ≤ ((((Int32.ofInt (5)) * (I_2 a1 36)) + x2_2)).toInt ∧ ((((Int32.ofInt (5)) * (I_2 a1 36)) + x2_2)).toInt < 20 then (k_46 (((I_2 a1 34) * (I_2 (rf O (rf O a0 3) 15) ((((Int32.ofInt (5)) * (I_2 a1 36)) + x2_2)).toInt.toNat)))) else none))
def F_Mo_goesU (N : Nat) (O : WO) (I0 : WI) (J0 : WJ) (a0 : Nat) (a1 : Nat) : Option (WI) := lp (B_Mo_goesU_2 N O a0 a1 J0) (fun _ _ => none) N ((Int32.ofInt (0))) I0
set_option maxHeartbeats 4000000 in
set_option maxRecDepth 100000 in
theorem f_Mo_goesU {P : List Nat} {K : Nat → Nat} {N : Nat} {O : WO} {I0 : WI} {J0 : WJ} (hT : TR P K O) {a0 : Nat} (h0 : a0 ∈ P ∧ K a0 = 10) {a1 : Nat} (h1 : a1 ∈ P ∧ K a1 = 50) (hN3 : NN P K O a0 3 9) {I' : WI} (h : F_Mo_goesU N O I0 J0 a0 a1 = some I') : Con yMo_goes bMo_goes 5 none ({ frames := 2, cells := 0, slots := 0, locals := 51 } : Room) P K I0 O J0 [.ref a0, .ref a1] (EPo none I' J0 P K O) := by
  refine Con.ofG mfMo_goes (Nat.le_of_ble_eq_true rfl) ?_
  intro X C E
  unfold F_Mo_goesU at h
  refine g_iconst (v := Int32.ofInt (0)) C dMo_goes_0 (by decide) ?_
  refine g_istore_n (i := 2) C dMo_goes_1 rfl (by decide) ?_
  have lp_2 : ∀ (x2_2 : Int32) (I_2 : WI), lp (B_Mo_goesU_2 N O a0 a1 J0) (fun _ _ => none) N x2_2 I_2 = some I' → GG X 5 P K I_2 O J0 0 0 2 [(0, .ref a0), (1, .ref a1), (2, .int x2_2)] [] := by
    refine x_lp (fun (rec_2 : Int32 → WI → Option (WI)) => ∀ (x2_2 : Int32) (I_2 : WI), rec_2 x2_2 I_2 = some I' → GG X 5 P K I_2 O J0 0 0 2 [(0, .ref a0), (1, .ref a1), (2, .int x2_2)] []) (fun _ _ h => by cases h) (fun rec_2 hr_2 x2_2 I_2 h => ?_) N
    unfold B_Mo_goesU_2 at h
    refine g_iload_n C dMo_goes_2 rfl ?_
    refine g_aload_n C dMo_goes_3 rfl ?_
    refine gt_getS C dMo_goes_4 fl_Mo_290 h0 hN3.1 ?_
    refine g_geti C dMo_goes_7 fl_Mo_191 hN3.2 ?_
    refine gt_icmp_ge 89 C dMo_goes_10 (by decide) rfl rfl (fun c_10 => ?_) (fun c_10 => ?_)
    · have h := x_pos c_10 h
      refine g_aload_n C dMo_goes_89 rfl ?_
      refine g_bipush (v := Int32.ofInt (28)) C dMo_goes_90 (by decide) ?_
      refine g_aload_n C dMo_goes_92 rfl ?_
      refine g_aload_n C dMo_goes_93 rfl ?_
      refine g_iconst (v := Int32.ofInt (0)) C dMo_goes_94 (by decide) ?_
      obtain ⟨z_95, e_95, h⟩ := bd1_some h
      refine x_callVi (av := fun ad => [.ref a1, .int (Int32.ofInt (0))]) C dMo_goes_95 mfMo_sumOf mvMo_sumOf ln_Mo_305 h0 (by decide) rfl (f_Mo_sumOfU hT h0 h1 hN3 e_95) rfl rfl (Nat.le_of_ble_eq_true rfl) ⟨Nat.le_of_ble_eq_true rfl, Nat.le_of_ble_eq_true rfl⟩ ⟨rfl, rfl⟩ ⟨Nat.zero_le _, Nat.zero_le _⟩ ?_
      refine x_iastc (m := 37) (c := 28) C dMo_goes_98 h1 (by decide) rfl rfl rfl (by decide) h (fun I2 h => ?_)
      refine g_aload_n C dMo_goes_99 rfl ?_
      refine g_bipush (v := Int32.ofInt (26)) C dMo_goes_100 (by decide) ?_
      refine g_aload_n C dMo_goes_102 rfl ?_
      refine g_bipush (v := Int32.ofInt (28)) C dMo_goes_103 (by decide) ?_
      refine x_ialdc (m := 37) (c := 28) C dMo_goes_105 h1 (by decide) rfl rfl rfl (by decide) ?_
      refine g_aload_n C dMo_goes_106 rfl ?_
      refine gt_getS C dMo_goes_107 fl_Mo_290 h0 hN3.1 ?_
      refine g_geti C dMo_goes_110 fl_Mo_176 hN3.2 ?_
      refine x_jn h (fun (k_121 : Int32 → Option (WI)) => ∀ (s0_121 : Int32), k_121 s0_121 = some I' → GG X 5 P K I2 O J0 0 0 121 [(0, .ref a0), (1, .ref a1), (2, .int x2_2)] [.int s0_121, .int (Int32.ofInt (26)), .ref a1]) (fun s0_121 h => ?_) (fun k_121 hk_121 h => ?_)
      · skip
        refine x_iastc (m := 37) (c := 26) C dMo_goes_121 h1 (by decide) rfl rfl rfl (by decide) h (fun I3 h => ?_)
        refine g_aload_n C dMo_goes_122 rfl ?_
        refine g_bipush (v := Int32.ofInt (29)) C dMo_goes_123 (by decide) ?_
        refine g_iconst (v := Int32.ofInt (0)) C dMo_goes_125 (by decide) ?_
        refine x_iastc (m := 37) (c := 29) C dMo_goes_126 h1 (by decide) rfl rfl rfl (by decide) h (fun I4 h => ?_)
        refine g_aload_n C dMo_goes_127 rfl ?_
        refine g_bipush (v := Int32.ofInt (30)) C dMo_goes_128 (by decide) ?_
        refine g_iconst (v := Int32.ofInt (0)) C dMo_goes_130 (by decide) ?_
        refine x_iastc (m := 37) (c := 30) C dMo_goes_131 h1 (by decide) rfl rfl rfl (by decide) h (fun I5 h => ?_)
        refine g_aload_n C dMo_goes_132 rfl ?_
        refine g_bipush (v := Int32.ofInt (26)) C dMo_goes_133 (by decide) ?_
        refine x_ialdc (m := 37) (c := 26) C dMo_goes_135 h1 (by decide) rfl rfl rfl (by decide) ?_
        refine x_jn h (fun (k_152 : WI → Option (WI)) => ∀ (IJ_152 : WI), k_152 IJ_152 = some I' → GG X 5 P K IJ_152 O J0 0 0 152 [(0, .ref a0), (1, .ref a1), (2, .int x2_2)] []) (fun IJ_152 h => ?_) (fun k_152 hk_152 h => ?_)
        · skip
          refine g_aload_n C dMo_goes_152 rfl ?_
          refine g_bipush (v := Int32.ofInt (20)) C dMo_goes_153 (by decide) ?_
          refine g_dup2 C dMo_goes_155 rfl rfl ?_
          refine x_ialdc (m := 37) (c := 20) C dMo_goes_156 h1 (by decide) rfl rfl rfl (by decide) ?_
          refine g_aload_n C dMo_goes_157 rfl ?_
          refine g_aload_n C dMo_goes_158 rfl ?_
          refine g_bipush (v := Int32.ofInt (10)) C dMo_goes_159 (by decide) ?_
          obtain ⟨z_161, e_161, h⟩ := bd1_some h
          refine x_callVi (av := fun ad => [.ref a1, .int (Int32.ofInt (10))]) C dMo_goes_161 mfMo_sumOf mvMo_sumOf ln_Mo_305 h0 (by decide) rfl (f_Mo_sumOfU hT h0 h1 hN3 e_161) rfl rfl (Nat.le_of_ble_eq_true rfl) ⟨Nat.le_of_ble_eq_true rfl, Nat.le_of_ble_eq_true rfl⟩ ⟨rfl, rfl⟩ ⟨Nat.zero_le _, Nat.zero_le _⟩ ?_
          refine g_iadd C dMo_goes_164 ?_
          refine x_iastc (m := 37) (c := 20) C dMo_goes_165 h1 (by decide) rfl rfl rfl (by decide) h (fun I7 h => ?_)
          refine g_aload_n C dMo_goes_166 rfl ?_
          refine g_bipush (v := Int32.ofInt (20)) C dMo_goes_167 (by decide) ?_
          refine x_ialdc (m := 37) (c := 20) C dMo_goes_169 h1 (by decide) rfl rfl rfl (by decide) ?_
          refine g_aload_n C dMo_goes_170 rfl ?_
          refine gt_getS C dMo_goes_171 fl_Mo_290 h0 hN3.1 ?_
          refine g_geti C dMo_goes_174 fl_Mo_186 hN3.2 ?_
          refine x_jn h (fun (k_196 : Int32 → Option (WI)) => ∀ (s0_196 : Int32), k_196 s0_196 = some I' → GG X 5 P K I7 O J0 0 0 196 [(0, .ref a0), (1, .ref a1), (2, .int x2_2)] [.int s0_196]) (fun s0_196 h => ?_) (fun k_196 hk_196 h => ?_)
          · skip
            refine g_istore_n (i := 2) C dMo_goes_196 rfl (by decide) ?_
            refine g_aload_n C dMo_goes_197 rfl ?_
            refine g_bipush (v := Int32.ofInt (21)) C dMo_goes_198 (by decide) ?_
            refine g_dup2 C dMo_goes_200 rfl rfl ?_
            refine x_ialdc (m := 37) (c := 21) C dMo_goes_201 h1 (by decide) rfl rfl rfl (by decide) ?_
            refine g_iload_n C dMo_goes_202 rfl ?_
            refine g_iadd C dMo_goes_203 ?_
            refine x_iastc (m := 37) (c := 21) C dMo_goes_204 h1 (by decide) rfl rfl rfl (by decide) h (fun I8 h => ?_)
            refine g_aload_n C dMo_goes_205 rfl ?_
            refine g_bipush (v := Int32.ofInt (20)) C dMo_goes_206 (by decide) ?_
            refine g_dup2 C dMo_goes_208 rfl rfl ?_
            refine x_ialdc (m := 37) (c := 20) C dMo_goes_209 h1 (by decide) rfl rfl rfl (by decide) ?_
            refine g_iload_n C dMo_goes_210 rfl ?_
            refine g_isub C dMo_goes_211 ?_
            refine x_iastc (m := 37) (c := 20) C dMo_goes_212 h1 (by decide) rfl rfl rfl (by decide) h (fun I9 h => ?_)
            refine g_aload_n C dMo_goes_213 rfl ?_
            refine g_bipush (v := Int32.ofInt (20)) C dMo_goes_214 (by decide) ?_
            refine x_ialdc (m := 37) (c := 20) C dMo_goes_216 h1 (by decide) rfl rfl rfl (by decide) ?_
            refine g_aload_n C dMo_goes_217 rfl ?_
            refine gt_getS C dMo_goes_218 fl_Mo_290 h0 hN3.1 ?_
            refine g_geti C dMo_goes_221 fl_Mo_252 hN3.2 ?_
            refine x_jn h (fun (k_241 : Int32 → Option (WI)) => ∀ (s0_241 : Int32), k_241 s0_241 = some I' → GG X 5 P K I9 O J0 0 0 241 [(0, .ref a0), (1, .ref a1), (2, .int s0_196)] [.int s0_241]) (fun s0_241 h => ?_) (fun k_241 hk_241 h => ?_)
            · skip
              refine g_istore_n (i := 3) C dMo_goes_241 rfl (by decide) ?_
              refine g_aload_n C dMo_goes_242 rfl ?_
              refine g_bipush (v := Int32.ofInt (20)) C dMo_goes_243 (by decide) ?_
              refine g_dup2 C dMo_goes_245 rfl rfl ?_
              refine x_ialdc (m := 37) (c := 20) C dMo_goes_246 h1 (by decide) rfl rfl rfl (by decide) ?_
              refine g_iload_n C dMo_goes_247 rfl ?_
              refine g_isub C dMo_goes_248 ?_
              refine x_iastc (m := 37) (c := 20) C dMo_goes_249 h1 (by decide) rfl rfl rfl (by decide) h (fun I10 h => ?_)
              refine g_aload_n C dMo_goes_250 rfl ?_
              refine g_bipush (v := Int32.ofInt (22)) C dMo_goes_251 (by decide) ?_
              refine g_dup2 C dMo_goes_253 rfl rfl ?_
              refine x_ialdc (m := 37) (c := 22) C dMo_goes_254 h1 (by decide) rfl rfl rfl (by decide) ?_
              refine g_iload_n C dMo_goes_255 rfl ?_
              refine g_iadd C dMo_goes_256 ?_
              refine x_iastc (m := 37) (c := 22) C dMo_goes_257 h1 (by decide) rfl rfl rfl (by decide) h (fun I11 h => ?_)
              refine g_aload_n C dMo_goes_258 rfl ?_
              refine g_bipush (v := Int32.ofInt (23)) C dMo_goes_259 (by decide) ?_
              refine g_dup2 C dMo_goes_261 rfl rfl ?_
              refine x_ialdc (m := 37) (c := 23) C dMo_goes_262 h1 (by decide) rfl rfl rfl (by decide) ?_
              refine g_aload_n C dMo_goes_263 rfl ?_
              refine gt_getS C dMo_goes_264 fl_Mo_290 h0 hN3.1 ?_
              refine g_geti C dMo_goes_267 fl_Mo_252 hN3.2 ?_
              refine g_iload_n C dMo_goes_270 rfl ?_
              refine g_isub C dMo_goes_271 ?_
              refine g_iadd C dMo_goes_272 ?_
              refine x_iastc (m := 37) (c := 23) C dMo_goes_273 h1 (by decide) rfl rfl rfl (by decide) h (fun I12 h => ?_)
              refine g_aload_n C dMo_goes_274 rfl ?_
              refine gt_getS C dMo_goes_275 fl_Mo_290 h0 hN3.1 ?_
              refine g_geti C dMo_goes_278 fl_Mo_233 hN3.2 ?_
              refine g_aload_n C dMo_goes_281 rfl ?_
              refine gt_getS C dMo_goes_282 fl_Mo_290 h0 hN3.1 ?_
              refine g_geti C dMo_goes_285 fl_Mo_233 hN3.2 ?_
              refine g_aload_n C dMo_goes_288 rfl ?_
              refine g_bipush (v := Int32.ofInt (28)) C dMo_goes_289 (by decide) ?_
              refine x_ialdc (m := 37) (c := 28) C dMo_goes_291 h1 (by decide) rfl rfl rfl (by decide) ?_
              refine g_imul C dMo_goes_292 ?_
              refine g_aload_n C dMo_goes_293 rfl ?_
              refine gt_getS C dMo_goes_294 fl_Mo_290 h0 hN3.1 ?_
              refine g_geti C dMo_goes_297 fl_Mo_176 hN3.2 ?_
              obtain ⟨g_300, h⟩ := x_g h
              refine x_idiv C dMo_goes_300 g_300 ?_
              refine g_isub C dMo_goes_301 ?_
              refine x_istore C dMo_goes_302 (by decide) h (fun v4_302 h => ?_)
              refine g_aload_n C dMo_goes_304 rfl ?_
              refine g_bipush (v := Int32.ofInt (31)) C dMo_goes_305 (by decide) ?_
              refine g_iload C dMo_goes_307 rfl ?_
              refine x_jn h (fun (k_318 : Int32 → Option (WI)) => ∀ (s0_318 : Int32), k_318 s0_318 = some I' → GG X 5 P K I12 O J0 0 0 318 [(0, .ref a0), (1, .ref a1), (2, .int s0_196), (3, .int s0_241), (4, .int v4_302)] [.int s0_318, .int (Int32.ofInt (31)), .ref a1]) (fun s0_318 h => ?_) (fun k_318 hk_318 h => ?_)
              · skip
                refine x_iastc (m := 37) (c := 31) C dMo_goes_318 h1 (by decide) rfl rfl rfl (by decide) h (fun I13 h => ?_)
                refine g_aload_n C dMo_goes_319 rfl ?_
                refine g_bipush (v := Int32.ofInt (32)) C dMo_goes_320 (by decide) ?_
                refine g_dup2 C dMo_goes_322 rfl rfl ?_
                refine x_ialdc (m := 37) (c := 32) C dMo_goes_323 h1 (by decide) rfl rfl rfl (by decide) ?_
                refine g_aload_n C dMo_goes_324 rfl ?_
                refine g_bipush (v := Int32.ofInt (30)) C dMo_goes_325 (by decide) ?_
                refine x_ialdc (m := 37) (c := 30) C dMo_goes_327 h1 (by decide) rfl rfl rfl (by decide) ?_
                refine g_aload_n C dMo_goes_328 rfl ?_
                refine gt_getS C dMo_goes_329 fl_Mo_290 h0 hN3.1 ?_
                have t_332 := rf_ok hT hN3.2 (show sp 9 11 = some 42 from rfl)
                refine x_getr C dMo_goes_332 fl_Mo_254 hN3.2 hT (show sp 9 11 = some 42 from rfl) ?_
                refine g_aload_n C dMo_goes_335 rfl ?_
                refine g_bipush (v := Int32.ofInt (27)) C dMo_goes_336 (by decide) ?_
                refine x_ialdc (m := 37) (c := 27) C dMo_goes_338 h1 (by decide) rfl rfl rfl (by decide) ?_
                refine g_aload_n C dMo_goes_339 rfl ?_
                refine gt_getS C dMo_goes_340 fl_Mo_290 h0 hN3.1 ?_
                refine g_geti C dMo_goes_343 fl_Mo_188 hN3.2 ?_
                obtain ⟨g_346, h⟩ := x_g h
                refine x_irem C dMo_goes_346 g_346 ?_
                obtain ⟨g_347, h⟩ := x_g h
                refine x_iald (m := 6) C dMo_goes_347 t_332 (by decide) rfl rfl g_347 ?_
                refine g_imul C dMo_goes_348 ?_
                refine g_iadd C dMo_goes_349 ?_
                refine x_iastc (m := 37) (c := 32) C dMo_goes_350 h1 (by decide) rfl rfl rfl (by decide) h (fun I14 h => ?_)
                refine g_aload_n C dMo_goes_351 rfl ?_
                refine g_bipush (v := Int32.ofInt (24)) C dMo_goes_352 (by decide) ?_
                refine g_dup2 C dMo_goes_354 rfl rfl ?_
                refine x_ialdc (m := 37) (c := 24) C dMo_goes_355 h1 (by decide) rfl rfl rfl (by decide) ?_
                refine g_iconst (v := Int32.ofInt (1)) C dMo_goes_356 (by decide) ?_
                refine g_iadd C dMo_goes_357 ?_
                refine x_iastc (m := 37) (c := 24) C dMo_goes_358 h1 (by decide) rfl rfl rfl (by decide) h (fun I15 h => ?_)
                refine g_aload_n C dMo_goes_359 rfl ?_
                refine g_bipush (v := Int32.ofInt (27)) C dMo_goes_360 (by decide) ?_
                refine g_dup2 C dMo_goes_362 rfl rfl ?_
                refine x_ialdc (m := 37) (c := 27) C dMo_goes_363 h1 (by decide) rfl rfl rfl (by decide) ?_
                refine g_iconst (v := Int32.ofInt (1)) C dMo_goes_364 (by decide) ?_
                refine g_iadd C dMo_goes_365 ?_
                refine x_iastc (m := 37) (c := 27) C dMo_goes_366 h1 (by decide) rfl rfl rfl (by decide) h (fun I16 h => ?_)
                exact x_vret1 C E dMo_goes_367 ⟨Nat.zero_le _, Nat.zero_le _⟩ h
              refine gt_if_ge 316 C dMo_goes_309 (by decide) rfl (fun c_309 => ?_) (fun c_309 => ?_)
              · have h := x_pos c_309 h
                refine g_iload C dMo_goes_316 rfl ?_
                exact g_sub (hk_318 (v4_302) h) ⟨rfl, rfl, rfl, rfl, rfl, trivial⟩
              · have h := x_neg (Int.not_le.mpr c_309) h
                refine g_iconst (v := Int32.ofInt (0)) C dMo_goes_312 (by decide) ?_
                refine g_goto 318 C dMo_goes_313 (by decide) ?_
                exact g_sub (hk_318 ((Int32.ofInt (0))) h) ⟨rfl, rfl, rfl, rfl, rfl, trivial⟩
            refine gt_icmp_ge 234 C dMo_goes_224 (by decide) rfl rfl (fun c_224 => ?_) (fun c_224 => ?_)
            · have h := x_pos c_224 h
              refine g_aload_n C dMo_goes_234 rfl ?_
              refine gt_getS C dMo_goes_235 fl_Mo_290 h0 hN3.1 ?_
              refine g_geti C dMo_goes_238 fl_Mo_252 hN3.2 ?_
              exact g_sub (hk_241 ((I9 (rf O a0 3) 6)) h) ⟨rfl, rfl, rfl, trivial⟩
            · have h := x_neg (Int.not_le.mpr c_224) h
              refine g_aload_n C dMo_goes_227 rfl ?_
              refine g_bipush (v := Int32.ofInt (20)) C dMo_goes_228 (by decide) ?_
              refine x_ialdc (m := 37) (c := 20) C dMo_goes_230 h1 (by decide) rfl rfl rfl (by decide) ?_
              refine g_goto 241 C dMo_goes_231 (by decide) ?_
              exact g_sub (hk_241 ((I9 a1 20)) h) ⟨rfl, rfl, rfl, trivial⟩
          refine gt_icmp_le 195 C dMo_goes_177 (by decide) rfl rfl (fun c_177 => ?_) (fun c_177 => ?_)
          · have h := x_pos c_177 h
            refine g_iconst (v := Int32.ofInt (0)) C dMo_goes_195 (by decide) ?_
            exact g_sub (hk_196 ((Int32.ofInt (0))) h) ⟨rfl, rfl, rfl, trivial⟩
          · have h := x_neg (Int.not_le.mpr c_177) h
            refine g_aload_n C dMo_goes_180 rfl ?_
            refine g_bipush (v := Int32.ofInt (20)) C dMo_goes_181 (by decide) ?_
            refine x_ialdc (m := 37) (c := 20) C dMo_goes_183 h1 (by decide) rfl rfl rfl (by decide) ?_
            refine g_aload_n C dMo_goes_184 rfl ?_
            refine gt_getS C dMo_goes_185 fl_Mo_290 h0 hN3.1 ?_
            refine g_geti C dMo_goes_188 fl_Mo_186 hN3.2 ?_
            refine g_isub C dMo_goes_191 ?_
            refine g_goto 196 C dMo_goes_192 (by decide) ?_
            exact g_sub (hk_196 (((I7 a1 20) - (I7 (rf O a0 3) 5))) h) ⟨rfl, rfl, rfl, trivial⟩
        refine gt_if_ne 147 C dMo_goes_136 (by decide) rfl (fun c_136 => ?_) (fun c_136 => ?_)
        · have h := x_neg c_136 h
          refine g_aload_n C dMo_goes_147 rfl ?_
          refine g_aload_n C dMo_goes_148 rfl ?_
          obtain ⟨I17, e_149, h⟩ := bd1_some h
          refine x_callVv (av := fun ad => [.ref a1]) C dMo_goes_149 mfMo_digs mvMo_digs ln_Mo_313 h0 (by decide) rfl (f_Mo_digsU hT h0 h1 hN3 e_149) rfl rfl (Nat.le_of_ble_eq_true rfl) ⟨Nat.le_of_ble_eq_true rfl, Nat.le_of_ble_eq_true rfl⟩ ⟨rfl, rfl⟩ ⟨Nat.zero_le _, Nat.zero_le _⟩ ?_
          exact g_sub (hk_152  I17 h) ⟨rfl, rfl, rfl, trivial⟩
        · have h := x_pos c_136 h
          refine g_aload_n C dMo_goes_139 rfl ?_
          refine g_aload_n C dMo_goes_140 rfl ?_
          obtain ⟨I18, e_141, h⟩ := bd1_some h
          refine x_callVv (av := fun ad => [.ref a1]) C dMo_goes_141 mfMo_grinds mvMo_grinds ln_Mo_309 h0 (by decide) rfl (f_Mo_grindsU hT h0 h1 hN3 e_141) rfl rfl (Nat.le_of_ble_eq_true rfl) ⟨Nat.le_of_ble_eq_true rfl, Nat.le_of_ble_eq_true rfl⟩ ⟨rfl, rfl⟩ ⟨Nat.zero_le _, Nat.zero_le _⟩ ?_
          refine g_goto 152 C dMo_goes_144 (by decide) ?_
          exact g_sub (hk_152  I18 h) ⟨rfl, rfl, rfl, trivial⟩
      refine gt_icmp_le 120 C dMo_goes_113 (by decide) rfl rfl (fun c_113 => ?_) (fun c_113 => ?_)
      · have h := x_pos c_113 h
        refine g_iconst (v := Int32.ofInt (0)) C dMo_goes_120 (by decide) ?_
        exact g_sub (hk_121 ((Int32.ofInt (0))) h) ⟨rfl, rfl, rfl, trivial⟩
      · have h := x_neg (Int.not_le.mpr c_113) h
        refine g_iconst (v := Int32.ofInt (1)) C dMo_goes_116 (by decide) ?_
        refine g_goto 121 C dMo_goes_117 (by decide) ?_
        exact g_sub (hk_121 ((Int32.ofInt (1))) h) ⟨rfl, rfl, rfl, trivial⟩
    · have h := x_neg (Int.not_le.mpr c_10) h
      refine g_aload_n C dMo_goes_13 rfl ?_
      refine g_bipush (v := Int32.ofInt (26)) C dMo_goes_14 (by decide) ?_
      refine x_ialdc (m := 37) (c := 26) C dMo_goes_16 h1 (by decide) rfl rfl rfl (by decide) ?_
      refine g_iconst (v := Int32.ofInt (1)) C dMo_goes_17 (by decide) ?_
      refine x_jn h (fun (k_46 : Int32 → Option (WI)) => ∀ (s0_46 : Int32), k_46 s0_46 = some I' → GG X 5 P K I_2 O J0 0 0 46 [(0, .ref a0), (1, .ref a1), (2, .int x2_2)] [.int s0_46]) (fun s0_46 h => ?_) (fun k_46 hk_46 h => ?_)
      · skip
        refine g_istore_n (i := 3) C dMo_goes_46 rfl (by decide) ?_
        refine g_aload_n C dMo_goes_47 rfl ?_
        refine g_bipush (v := Int32.ofInt (33)) C dMo_goes_48 (by decide) ?_
        refine g_dup2 C dMo_goes_50 rfl rfl ?_
        refine x_ialdc (m := 37) (c := 33) C dMo_goes_51 h1 (by decide) rfl rfl rfl (by decide) ?_
        refine g_iload_n C dMo_goes_52 rfl ?_
        refine g_iadd C dMo_goes_53 ?_
        refine x_iastc (m := 37) (c := 33) C dMo_goes_54 h1 (by decide) rfl rfl rfl (by decide) h (fun I19 h => ?_)
        refine g_aload_n C dMo_goes_55 rfl ?_
        refine g_iconst (v := Int32.ofInt (0)) C dMo_goes_56 (by decide) ?_
        refine g_iload_n C dMo_goes_57 rfl ?_
        refine g_iadd C dMo_goes_58 ?_
        refine g_dup2 C dMo_goes_59 rfl rfl ?_
        obtain ⟨g_60, h⟩ := x_g h
        refine x_iald (m := 37) C dMo_goes_60 h1 (by decide) rfl rfl g_60 ?_
        refine g_iload_n C dMo_goes_61 rfl ?_
        refine g_aload_n C dMo_goes_62 rfl ?_
        refine g_iconst (v := Int32.ofInt (5)) C dMo_goes_63 (by decide) ?_
        refine g_iload_n C dMo_goes_64 rfl ?_
        refine g_iadd C dMo_goes_65 ?_
        obtain ⟨g_66, h⟩ := x_g h
        refine x_iald (m := 37) C dMo_goes_66 h1 (by decide) rfl rfl g_66 ?_
        refine g_iadd C dMo_goes_67 ?_
        refine g_iadd C dMo_goes_68 ?_
        obtain ⟨g_69, h⟩ := x_g h
        refine x_iast (m := 37) C dMo_goes_69 h1 (by decide) rfl rfl g_69 h (fun I20 h => ?_)
        refine g_aload_n C dMo_goes_70 rfl ?_
        refine g_iconst (v := Int32.ofInt (5)) C dMo_goes_71 (by decide) ?_
        refine g_iload_n C dMo_goes_72 rfl ?_
        refine g_iadd C dMo_goes_73 ?_
        refine g_iconst (v := Int32.ofInt (0)) C dMo_goes_74 (by decide) ?_
        obtain ⟨g_75, h⟩ := x_g h
        refine x_iast (m := 37) C dMo_goes_75 h1 (by decide) rfl rfl g_75 h (fun I21 h => ?_)
        refine g_aload_n C dMo_goes_76 rfl ?_
        refine g_bipush (v := Int32.ofInt (10)) C dMo_goes_77 (by decide) ?_
        refine g_iload_n C dMo_goes_79 rfl ?_
        refine g_iadd C dMo_goes_80 ?_
        refine g_iconst (v := Int32.ofInt (0)) C dMo_goes_81 (by decide) ?_
        obtain ⟨g_82, h⟩ := x_g h
        refine x_iast (m := 37) C dMo_goes_82 h1 (by decide) rfl rfl g_82 h (fun I22 h => ?_)
        refine x_iinc C dMo_goes_83 rfl (by decide) h (fun v2_83 h => ?_)
        refine g_goto 2 C dMo_goes_86 (by decide) ?_
        exact g_sub (hr_2 (v2_83) I22 h) ⟨rfl, rfl, rfl, trivial⟩
      refine gt_icmp_ne 25 C dMo_goes_18 (by decide) rfl (ofI (by decide)) (fun c_18 => ?_) (fun c_18 => ?_)
      · have h := x_neg c_18 h
        refine g_aload_n C dMo_goes_25 rfl ?_
        refine g_bipush (v := Int32.ofInt (34)) C dMo_goes_26 (by decide) ?_
        refine x_ialdc (m := 37) (c := 34) C dMo_goes_28 h1 (by decide) rfl rfl rfl (by decide) ?_
        refine g_aload_n C dMo_goes_29 rfl ?_
        refine gt_getS C dMo_goes_30 fl_Mo_290 h0 hN3.1 ?_
        have t_33 := rf_ok hT hN3.2 (show sp 9 15 = some 45 from rfl)
        refine x_getr C dMo_goes_33 fl_Mo_278 hN3.2 hT (show sp 9 15 = some 45 from rfl) ?_
        refine g_iconst (v := Int32.ofInt (5)) C dMo_goes_36 (by decide) ?_
        refine g_aload_n C dMo_goes_37 rfl ?_
        refine g_bipush (v := Int32.ofInt (36)) C dMo_goes_38 (by decide) ?_
        refine x_ialdc (m := 37) (c := 36) C dMo_goes_40 h1 (by decide) rfl rfl rfl (by decide) ?_
        refine g_imul C dMo_goes_41 ?_
        refine g_iload_n C dMo_goes_42 rfl ?_
        refine g_iadd C dMo_goes_43 ?_
        obtain ⟨g_44, h⟩ := x_g h
        refine x_iald (m := 20) C dMo_goes_44 t_33 (by decide) rfl rfl g_44 ?_
        refine g_imul C dMo_goes_45 ?_
        exact g_sub (hk_46 (((I_2 a1 34) * (I_2 (rf O (rf O a0 3) 15) ((((Int32.ofInt (5)) * (I_2 a1 36)) + x2_2)).toInt.toNat))) h) ⟨rfl, rfl, rfl, trivial⟩
      · have h := x_pos c_18 h
        refine g_iconst (v := Int32.ofInt (0)) C dMo_goes_21 (by decide) ?_
        refine g_goto 46 C dMo_goes_22 (by decide) ?_
        exact g_sub (hk_46 ((Int32.ofInt (0))) h) ⟨rfl, rfl, rfl, trivial⟩
  exact g_sub (lp_2 ((Int32.ofInt (0))) I0 h) ⟨rfl, rfl, rfl, trivial⟩
def B_Mo_begins_24 (N : Nat) (O : WO) (a0 : Nat) (a1 : Nat) (x2 : Int32) (x3 : Int32) (x4 : Int32) (rec_24 : Int32 → WI → Option (WI)) (x5_24 : Int32) (I_24 : WI) : Option (WI) := if ((I_24 (rf O a0 3) 8)).toInt ≤ (x5_24).toInt then (lb (up2 I_24 a1 25 x2) fun I1 => lb (up2 I1 a1 24 ((x3 * (I1 (rf O a0 3) 4)) / (Int32.ofInt (4)))) fun I2 => lb (up2 I2 a1 20 ((I2 (rf O a0 3) 5) / (Int32.ofInt (2)))) fun I3 => some I3) else (if 0 ≤ (x5_24).toInt ∧ (x5_24).toInt < 20 then (if 0 ≤ (((Int32.ofInt (0)) + x5_24)).toInt ∧ (((Int32.ofInt (0)) + x5_24)).toInt < 37 then (lb (up2 I_24 a1 (((Int32.ofInt (0)) + x5_24)).toInt.toNat (x4 * (I_24 (rf O (rf O a0 3) 15) (x5_24).toInt.toNat))) fun I4 => lb (x5_24 + Int32.ofInt (1)) fun v5_55 => rec_24 (v5_55) I4) else none) else none)
def B_Mo_begins_3 (N : Nat) (O : WO) (a0 : Nat) (a1 : Nat) (x2 : Int32) (x3 : Int32) (x4 : Int32) (rec_3 : Int32 → WI → Option (WI)) (x5_3 : Int32) (I_3 : WI) : Option (WI) := if 37 ≤ (x5_3).toInt then (lp (B_Mo_begins_24 N O a0 a1 x2 x3 x4) (fun _ _ => none) N ((Int32.ofInt (0))) I_3) else (if 0 ≤ (x5_3).toInt ∧ (x5_3).toInt < 37 then (lb (up2 I_3 a1 (x5_3).toInt.toNat (Int32.ofInt (0))) fun I5 => lb (x5_3 + Int32.ofInt (1)) fun v5_15 => rec_3 (v5_15) I5) else none)
def F_Mo_begins (N : Nat) (O : WO) (I0 : WI) (J0 : WJ) (a0 : Nat) (a1 : Nat) (x2 : Int32) (x3 : Int32) (x4 : Int32) : Option (WI) := lp (B_Mo_begins_3 N O a0 a1 x2 x3 x4) (fun _ _ => none) N ((Int32.ofInt (0))) I0
set_option maxHeartbeats 4000000 in
set_option maxRecDepth 100000 in
theorem f_Mo_begins {P : List Nat} {K : Nat → Nat} {N : Nat} {O : WO} {I0 : WI} {J0 : WJ} (hT : TR P K O) {a0 : Nat} (h0 : a0 ∈ P ∧ K a0 = 10) {a1 : Nat} (h1 : a1 ∈ P ∧ K a1 = 49) {x2 : Int32} {x3 : Int32} {x4 : Int32} (hN3 : NN P K O a0 3 9) {I' : WI} (h : F_Mo_begins N O I0 J0 a0 a1 x2 x3 x4 = some I') : Con yMo_begins bMo_begins 6 none ({ frames := 0, cells := 0, slots := 0, locals := 0 } : Room) P K I0 O J0 [.ref a0, .ref a1, .int x2, .int x3, .int x4] (EPo none I' J0 P K O) := by
  refine Con.ofG mfMo_begins (Nat.le_of_ble_eq_true rfl) ?_
  intro X C E
  unfold F_Mo_begins at h
  refine g_iconst (v := Int32.ofInt (0)) C dMo_begins_0 (by decide) ?_
  refine g_istore C dMo_begins_1 (by decide) ?_
  have lp_3 : ∀ (x5_3 : Int32) (I_3 : WI), lp (B_Mo_begins_3 N O a0 a1 x2 x3 x4) (fun _ _ => none) N x5_3 I_3 = some I' → GG X 6 P K I_3 O J0 0 0 3 [(0, .ref a0), (1, .ref a1), (2, .int x2), (3, .int x3), (4, .int x4), (5, .int x5_3)] [] := by
    refine x_lp (fun (rec_3 : Int32 → WI → Option (WI)) => ∀ (x5_3 : Int32) (I_3 : WI), rec_3 x5_3 I_3 = some I' → GG X 6 P K I_3 O J0 0 0 3 [(0, .ref a0), (1, .ref a1), (2, .int x2), (3, .int x3), (4, .int x4), (5, .int x5_3)] []) (fun _ _ h => by cases h) (fun rec_3 hr_3 x5_3 I_3 h => ?_) N
    unfold B_Mo_begins_3 at h
    refine g_iload C dMo_begins_3 rfl ?_
    refine g_bipush (v := Int32.ofInt (37)) C dMo_begins_5 (by decide) ?_
    refine gt_icmp_ge 21 C dMo_begins_7 (by decide) rfl (ofI (by decide)) (fun c_7 => ?_) (fun c_7 => ?_)
    · have h := x_pos c_7 h
      refine g_iconst (v := Int32.ofInt (0)) C dMo_begins_21 (by decide) ?_
      refine g_istore C dMo_begins_22 (by decide) ?_
      have lp_24 : ∀ (x5_24 : Int32) (I_24 : WI), lp (B_Mo_begins_24 N O a0 a1 x2 x3 x4) (fun _ _ => none) N x5_24 I_24 = some I' → GG X 6 P K I_24 O J0 0 0 24 [(0, .ref a0), (1, .ref a1), (2, .int x2), (3, .int x3), (4, .int x4), (5, .int x5_24)] [] := by
        refine x_lp (fun (rec_24 : Int32 → WI → Option (WI)) => ∀ (x5_24 : Int32) (I_24 : WI), rec_24 x5_24 I_24 = some I' → GG X 6 P K I_24 O J0 0 0 24 [(0, .ref a0), (1, .ref a1), (2, .int x2), (3, .int x3), (4, .int x4), (5, .int x5_24)] []) (fun _ _ h => by cases h) (fun rec_24 hr_24 x5_24 I_24 h => ?_) N
        unfold B_Mo_begins_24 at h
        refine g_iload C dMo_begins_24 rfl ?_
        refine g_aload_n C dMo_begins_26 rfl ?_
        refine gt_getS C dMo_begins_27 fl_Mo_290 h0 hN3.1 ?_
        refine g_geti C dMo_begins_30 fl_Mo_191 hN3.2 ?_
        refine gt_icmp_ge 61 C dMo_begins_33 (by decide) rfl rfl (fun c_33 => ?_) (fun c_33 => ?_)
        · have h := x_pos c_33 h
          refine g_aload_n C dMo_begins_61 rfl ?_
          refine g_bipush (v := Int32.ofInt (25)) C dMo_begins_62 (by decide) ?_
          refine g_iload_n C dMo_begins_64 rfl ?_
          refine x_iastc (m := 37) (c := 25) C dMo_begins_65 h1 (by decide) rfl rfl rfl (by decide) h (fun I1 h => ?_)
          refine g_aload_n C dMo_begins_66 rfl ?_
          refine g_bipush (v := Int32.ofInt (24)) C dMo_begins_67 (by decide) ?_
          refine g_iload_n C dMo_begins_69 rfl ?_
          refine g_aload_n C dMo_begins_70 rfl ?_
          refine gt_getS C dMo_begins_71 fl_Mo_290 h0 hN3.1 ?_
          refine g_geti C dMo_begins_74 fl_Mo_183 hN3.2 ?_
          refine g_imul C dMo_begins_77 ?_
          refine g_iconst (v := Int32.ofInt (4)) C dMo_begins_78 (by decide) ?_
          refine x_idiv C dMo_begins_79 (by decide) ?_
          refine x_iastc (m := 37) (c := 24) C dMo_begins_80 h1 (by decide) rfl rfl rfl (by decide) h (fun I2 h => ?_)
          refine g_aload_n C dMo_begins_81 rfl ?_
          refine g_bipush (v := Int32.ofInt (20)) C dMo_begins_82 (by decide) ?_
          refine g_aload_n C dMo_begins_84 rfl ?_
          refine gt_getS C dMo_begins_85 fl_Mo_290 h0 hN3.1 ?_
          refine g_geti C dMo_begins_88 fl_Mo_186 hN3.2 ?_
          refine g_iconst (v := Int32.ofInt (2)) C dMo_begins_91 (by decide) ?_
          refine x_idiv C dMo_begins_92 (by decide) ?_
          refine x_iastc (m := 37) (c := 20) C dMo_begins_93 h1 (by decide) rfl rfl rfl (by decide) h (fun I3 h => ?_)
          exact x_vret1 C E dMo_begins_94 ⟨Nat.zero_le _, Nat.zero_le _⟩ h
        · have h := x_neg (Int.not_le.mpr c_33) h
          refine g_aload_n C dMo_begins_36 rfl ?_
          refine g_iconst (v := Int32.ofInt (0)) C dMo_begins_37 (by decide) ?_
          refine g_iload C dMo_begins_38 rfl ?_
          refine g_iadd C dMo_begins_40 ?_
          refine g_iload C dMo_begins_41 rfl ?_
          refine g_aload_n C dMo_begins_43 rfl ?_
          refine gt_getS C dMo_begins_44 fl_Mo_290 h0 hN3.1 ?_
          have t_47 := rf_ok hT hN3.2 (show sp 9 15 = some 45 from rfl)
          refine x_getr C dMo_begins_47 fl_Mo_278 hN3.2 hT (show sp 9 15 = some 45 from rfl) ?_
          refine g_iload C dMo_begins_50 rfl ?_
          obtain ⟨g_52, h⟩ := x_g h
          refine x_iald (m := 20) C dMo_begins_52 t_47 (by decide) rfl rfl g_52 ?_
          refine g_imul C dMo_begins_53 ?_
          obtain ⟨g_54, h⟩ := x_g h
          refine x_iast (m := 37) C dMo_begins_54 h1 (by decide) rfl rfl g_54 h (fun I4 h => ?_)
          refine x_iinc C dMo_begins_55 rfl (by decide) h (fun v5_55 h => ?_)
          refine g_goto 24 C dMo_begins_58 (by decide) ?_
          exact g_sub (hr_24 (v5_55) I4 h) ⟨rfl, rfl, rfl, rfl, rfl, rfl, trivial⟩
      exact g_sub (lp_24 ((Int32.ofInt (0))) I_3 h) ⟨rfl, rfl, rfl, rfl, rfl, rfl, trivial⟩
    · have h := x_neg (Int.not_le.mpr c_7) h
      refine g_aload_n C dMo_begins_10 rfl ?_
      refine g_iload C dMo_begins_11 rfl ?_
      refine g_iconst (v := Int32.ofInt (0)) C dMo_begins_13 (by decide) ?_
      obtain ⟨g_14, h⟩ := x_g h
      refine x_iast (m := 37) C dMo_begins_14 h1 (by decide) rfl rfl g_14 h (fun I5 h => ?_)
      refine x_iinc C dMo_begins_15 rfl (by decide) h (fun v5_15 h => ?_)
      refine g_goto 3 C dMo_begins_18 (by decide) ?_
      exact g_sub (hr_3 (v5_15) I5 h) ⟨rfl, rfl, rfl, rfl, rfl, rfl, trivial⟩
  exact g_sub (lp_3 ((Int32.ofInt (0))) I0 h) ⟨rfl, rfl, rfl, rfl, rfl, rfl, trivial⟩
def F_Mo_byProgram (N : Nat) (O : WO) (I0 : WI) (J0 : WJ) (a0 : Nat) (a1 : Nat) (x2 : Int32) : Option (WI) := if 0 ≤ (x2).toInt ∧ (x2).toInt < 12 then (lb (up2 I0 a1 34 (I0 (rf O a0 20) (x2).toInt.toNat)) fun I1 => if 0 ≤ (x2).toInt ∧ (x2).toInt < 12 then (lb (up2 I1 a1 35 (I1 (rf O a0 21) (x2).toInt.toNat)) fun I2 => if 0 ≤ (x2).toInt ∧ (x2).toInt < 12 then (lb (up2 I2 a1 36 (I2 (rf O a0 22) (x2).toInt.toNat)) fun I3 => bd1 (F_Mo_goesT N O I3 J0 a0 a1) fun I4 => some I4) else none) else none) else none
set_option maxHeartbeats 4000000 in
set_option maxRecDepth 100000 in
theorem f_Mo_byProgram {P : List Nat} {K : Nat → Nat} {N : Nat} {O : WO} {I0 : WI} {J0 : WJ} (hT : TR P K O) {a0 : Nat} (h0 : a0 ∈ P ∧ K a0 = 10) {a1 : Nat} (h1 : a1 ∈ P ∧ K a1 = 49) {x2 : Int32} (hN3 : NN P K O a0 3 9) {I' : WI} (h : F_Mo_byProgram N O I0 J0 a0 a1 x2 = some I') : Con yMo_byProgram bMo_byProgram 3 none ({ frames := 3, cells := 0, slots := 0, locals := 75 } : Room) P K I0 O J0 [.ref a0, .ref a1, .int x2] (EPo none I' J0 P K O) := by
  refine Con.ofG mfMo_byProgram (Nat.le_of_ble_eq_true rfl) ?_
  intro X C E
  unfold F_Mo_byProgram at h
  refine g_aload_n C dMo_byProgram_0 rfl ?_
  refine g_bipush (v := Int32.ofInt (34)) C dMo_byProgram_1 (by decide) ?_
  refine g_aload_n C dMo_byProgram_3 rfl ?_
  have t_4 := rf_ok hT h0 (show sp 10 20 = some 33 from rfl)
  refine x_getr C dMo_byProgram_4 fl_Mo_27 h0 hT (show sp 10 20 = some 33 from rfl) ?_
  refine g_iload_n C dMo_byProgram_7 rfl ?_
  obtain ⟨g_8, h⟩ := x_g h
  refine x_iald (m := 12) C dMo_byProgram_8 t_4 (by decide) rfl rfl g_8 ?_
  refine x_iastc (m := 37) (c := 34) C dMo_byProgram_9 h1 (by decide) rfl rfl rfl (by decide) h (fun I1 h => ?_)
  refine g_aload_n C dMo_byProgram_10 rfl ?_
  refine g_bipush (v := Int32.ofInt (35)) C dMo_byProgram_11 (by decide) ?_
  refine g_aload_n C dMo_byProgram_13 rfl ?_
  have t_14 := rf_ok hT h0 (show sp 10 21 = some 33 from rfl)
  refine x_getr C dMo_byProgram_14 fl_Mo_30 h0 hT (show sp 10 21 = some 33 from rfl) ?_
  refine g_iload_n C dMo_byProgram_17 rfl ?_
  obtain ⟨g_18, h⟩ := x_g h
  refine x_iald (m := 12) C dMo_byProgram_18 t_14 (by decide) rfl rfl g_18 ?_
  refine x_iastc (m := 37) (c := 35) C dMo_byProgram_19 h1 (by decide) rfl rfl rfl (by decide) h (fun I2 h => ?_)
  refine g_aload_n C dMo_byProgram_20 rfl ?_
  refine g_bipush (v := Int32.ofInt (36)) C dMo_byProgram_21 (by decide) ?_
  refine g_aload_n C dMo_byProgram_23 rfl ?_
  have t_24 := rf_ok hT h0 (show sp 10 22 = some 34 from rfl)
  refine x_getr C dMo_byProgram_24 fl_Mo_33 h0 hT (show sp 10 22 = some 34 from rfl) ?_
  refine g_iload_n C dMo_byProgram_27 rfl ?_
  obtain ⟨g_28, h⟩ := x_g h
  refine x_iald (m := 12) C dMo_byProgram_28 t_24 (by decide) rfl rfl g_28 ?_
  refine x_iastc (m := 37) (c := 36) C dMo_byProgram_29 h1 (by decide) rfl rfl rfl (by decide) h (fun I3 h => ?_)
  refine g_aload_n C dMo_byProgram_30 rfl ?_
  refine g_aload_n C dMo_byProgram_31 rfl ?_
  obtain ⟨I4, e_32, h⟩ := bd1_some h
  refine x_callVv (av := fun ad => [.ref a1]) C dMo_byProgram_32 mfMo_goes mvMo_goes ln_Mo_332 h0 (by decide) rfl (f_Mo_goesT hT h0 h1 hN3 e_32) rfl rfl (Nat.le_of_ble_eq_true rfl) ⟨Nat.le_of_ble_eq_true rfl, Nat.le_of_ble_eq_true rfl⟩ ⟨rfl, rfl⟩ ⟨Nat.zero_le _, Nat.zero_le _⟩ ?_
  exact x_vret1 C E dMo_byProgram_35 ⟨Nat.zero_le _, Nat.zero_le _⟩ h
def F_Mo_valueOf (N : Nat) (O : WO) (I0 : WI) (J0 : WJ) (a0 : Nat) (x1 : Int32) : Option (Int32) := if (x1).toInt = 0 then (some (I0 a0 31)) else (if (x1).toInt = 1 then (some (I0 a0 30)) else (if 0 ≤ ((((Int32.ofInt (10)) + x1) - (Int32.ofInt (2)))).toInt ∧ ((((Int32.ofInt (10)) + x1) - (Int32.ofInt (2)))).toInt < 37 then (some (I0 a0 ((((Int32.ofInt (10)) + x1) - (Int32.ofInt (2)))).toInt.toNat)) else none))
set_option maxHeartbeats 4000000 in
set_option maxRecDepth 100000 in
theorem f_Mo_valueOf {P : List Nat} {K : Nat → Nat} {N : Nat} {O : WO} {I0 : WI} {J0 : WJ} (hT : TR P K O) {a0 : Nat} (h0 : a0 ∈ P ∧ K a0 = 49) {x1 : Int32} {r : Int32} (h : F_Mo_valueOf N O I0 J0 a0 x1 = some r) : Con yMo_valueOf bMo_valueOf 2 (some .int) ({ frames := 0, cells := 0, slots := 0, locals := 0 } : Room) P K I0 O J0 [.ref a0, .int x1] (EPo (some (.int r)) I0 J0 P K O) := by
  refine Con.ofG mfMo_valueOf (Nat.le_of_ble_eq_true rfl) ?_
  intro X C E
  unfold F_Mo_valueOf at h
  refine g_iload_n C dMo_valueOf_0 rfl ?_
  refine gt_if_ne 11 C dMo_valueOf_1 (by decide) rfl (fun c_1 => ?_) (fun c_1 => ?_)
  · have h := x_neg c_1 h
    refine g_iload_n C dMo_valueOf_11 rfl ?_
    refine g_iconst (v := Int32.ofInt (1)) C dMo_valueOf_12 (by decide) ?_
    refine gt_icmp_ne 23 C dMo_valueOf_13 (by decide) rfl (ofI (by decide)) (fun c_13 => ?_) (fun c_13 => ?_)
    · have h := x_neg c_13 h
      refine g_aload_n C dMo_valueOf_23 rfl ?_
      refine g_bipush (v := Int32.ofInt (10)) C dMo_valueOf_24 (by decide) ?_
      refine g_iload_n C dMo_valueOf_26 rfl ?_
      refine g_iadd C dMo_valueOf_27 ?_
      refine g_iconst (v := Int32.ofInt (2)) C dMo_valueOf_28 (by decide) ?_
      refine g_isub C dMo_valueOf_29 ?_
      obtain ⟨g_30, h⟩ := x_g h
      refine x_iald (m := 37) C dMo_valueOf_30 h0 (by decide) rfl rfl g_30 ?_
      exact x_iret0 C E dMo_valueOf_31 ⟨Nat.zero_le _, Nat.zero_le _⟩ h
    · have h := x_pos c_13 h
      refine g_aload_n C dMo_valueOf_16 rfl ?_
      refine g_bipush (v := Int32.ofInt (30)) C dMo_valueOf_17 (by decide) ?_
      refine x_ialdc (m := 37) (c := 30) C dMo_valueOf_19 h0 (by decide) rfl rfl rfl (by decide) ?_
      refine g_goto 31 C dMo_valueOf_20 (by decide) ?_
      exact x_iret0 C E dMo_valueOf_31 ⟨Nat.zero_le _, Nat.zero_le _⟩ h
  · have h := x_pos c_1 h
    refine g_aload_n C dMo_valueOf_4 rfl ?_
    refine g_bipush (v := Int32.ofInt (31)) C dMo_valueOf_5 (by decide) ?_
    refine x_ialdc (m := 37) (c := 31) C dMo_valueOf_7 h0 (by decide) rfl rfl rfl (by decide) ?_
    refine g_goto 31 C dMo_valueOf_8 (by decide) ?_
    exact x_iret0 C E dMo_valueOf_31 ⟨Nat.zero_le _, Nat.zero_le _⟩ h
def F_Mo_hourOf (N : Nat) (O : WO) (I0 : WI) (J0 : WJ) (a0 : Nat) (x1 : Int32) (x2 : Int32) (x3 : Int32) : Option (Int32) := if 0 ≤ (x1).toInt ∧ (x1).toInt < 24 then (lb ((I0 (rf O a0 24) (x1).toInt.toNat)) fun v4_6 => if 0 ≤ (x1).toInt ∧ (x1).toInt < 24 then (if 2 ≤ ((I0 (rf O a0 25) (x1).toInt.toNat)).toInt then (if (v4_6).toInt = (x2).toInt then (some x3) else (if (v4_6).toInt = (x3).toInt then (some x2) else (some v4_6))) else (some v4_6)) else none) else none
set_option maxHeartbeats 4000000 in
set_option maxRecDepth 100000 in
theorem f_Mo_hourOf {P : List Nat} {K : Nat → Nat} {N : Nat} {O : WO} {I0 : WI} {J0 : WJ} (hT : TR P K O) {a0 : Nat} (h0 : a0 ∈ P ∧ K a0 = 10) {x1 : Int32} {x2 : Int32} {x3 : Int32} {r : Int32} (h : F_Mo_hourOf N O I0 J0 a0 x1 x2 x3 = some r) : Con yMo_hourOf bMo_hourOf 5 (some .int) ({ frames := 0, cells := 0, slots := 0, locals := 0 } : Room) P K I0 O J0 [.ref a0, .int x1, .int x2, .int x3] (EPo (some (.int r)) I0 J0 P K O) := by
  refine Con.ofG mfMo_hourOf (Nat.le_of_ble_eq_true rfl) ?_
  intro X C E
  unfold F_Mo_hourOf at h
  refine g_aload_n C dMo_hourOf_0 rfl ?_
  have t_1 := rf_ok hT h0 (show sp 10 24 = some 35 from rfl)
  refine x_getr C dMo_hourOf_1 fl_Mo_36 h0 hT (show sp 10 24 = some 35 from rfl) ?_
  refine g_iload_n C dMo_hourOf_4 rfl ?_
  obtain ⟨g_5, h⟩ := x_g h
  refine x_iald (m := 24) C dMo_hourOf_5 t_1 (by decide) rfl rfl g_5 ?_
  refine x_istore C dMo_hourOf_6 (by decide) h (fun v4_6 h => ?_)
  refine g_aload_n C dMo_hourOf_8 rfl ?_
  have t_9 := rf_ok hT h0 (show sp 10 25 = some 36 from rfl)
  refine x_getr C dMo_hourOf_9 fl_Mo_39 h0 hT (show sp 10 25 = some 36 from rfl) ?_
  refine g_iload_n C dMo_hourOf_12 rfl ?_
  obtain ⟨g_13, h⟩ := x_g h
  refine x_iald (m := 24) C dMo_hourOf_13 t_9 (by decide) rfl rfl g_13 ?_
  refine g_iconst (v := Int32.ofInt (2)) C dMo_hourOf_14 (by decide) ?_
  refine gt_icmp_ge 21 C dMo_hourOf_15 (by decide) rfl (ofI (by decide)) (fun c_15 => ?_) (fun c_15 => ?_)
  · have h := x_pos c_15 h
    refine g_iload C dMo_hourOf_21 rfl ?_
    refine g_iload_n C dMo_hourOf_23 rfl ?_
    refine gt_icmp_ne 31 C dMo_hourOf_24 (by decide) rfl rfl (fun c_24 => ?_) (fun c_24 => ?_)
    · have h := x_neg c_24 h
      refine g_iload C dMo_hourOf_31 rfl ?_
      refine g_iload_n C dMo_hourOf_33 rfl ?_
      refine gt_icmp_ne 41 C dMo_hourOf_34 (by decide) rfl rfl (fun c_34 => ?_) (fun c_34 => ?_)
      · have h := x_neg c_34 h
        refine g_iload C dMo_hourOf_41 rfl ?_
        exact x_iret0 C E dMo_hourOf_43 ⟨Nat.zero_le _, Nat.zero_le _⟩ h
      · have h := x_pos c_34 h
        refine g_iload_n C dMo_hourOf_37 rfl ?_
        refine g_goto 43 C dMo_hourOf_38 (by decide) ?_
        exact x_iret0 C E dMo_hourOf_43 ⟨Nat.zero_le _, Nat.zero_le _⟩ h
    · have h := x_pos c_24 h
      refine g_iload_n C dMo_hourOf_27 rfl ?_
      refine g_goto 43 C dMo_hourOf_28 (by decide) ?_
      exact x_iret0 C E dMo_hourOf_43 ⟨Nat.zero_le _, Nat.zero_le _⟩ h
  · have h := x_neg (Int.not_le.mpr c_15) h
    refine g_iload C dMo_hourOf_18 rfl ?_
    exact x_iret0 C E dMo_hourOf_20 ⟨Nat.zero_le _, Nat.zero_le _⟩ h
def B_Mo_agrees_43 (N : Nat) (O : WO) (a0 : Nat) (x2 : Int32) (x3 : Int32) (J0 : WJ) (x4_23 : Int32) (rec_23 : Int32 → WI → Option (Int32 × WI)) (I2 : WI) (rec_43 : Int32 → Option (Int32 × WI)) (x5_43 : Int32) : Option (Int32 × WI) := if ((I2 a0 23)).toInt ≤ (x5_43).toInt then (lb (x4_23 + Int32.ofInt (1)) fun v4_125 => rec_23 (v4_125) I2) else (bd1 (F_Mo_hourOf N O I2 J0 a0 x5_43 x2 x3) fun z_57 => jn (lb (x5_43 + Int32.ofInt (1)) fun v5_119 => rec_43 (v5_119)) fun k_119 => if (z_57).toInt = (x4_23).toInt then (if 0 ≤ (x5_43).toInt ∧ (x5_43).toInt < 24 then (bd1 (F_Mo_valueOf N O I2 J0 (rf O a0 17) (I2 (rf O a0 25) (x5_43).toInt.toNat)) fun z_79 => if 0 ≤ (x5_43).toInt ∧ (x5_43).toInt < 24 then (lb ((z_79 - (I2 (rf O a0 26) (x5_43).toInt.toNat))) fun v6_90 => if 0 ≤ (x5_43).toInt ∧ (x5_43).toInt < 24 then (if ((I2 (rf O a0 27) (x5_43).toInt.toNat)).toInt < (v6_90).toInt then (some ((Int32.ofInt (0)), I2)) else (if 0 ≤ (x5_43).toInt ∧ (x5_43).toInt < 24 then (if ((-v6_90)).toInt ≤ ((I2 (rf O a0 27) (x5_43).toInt.toNat)).toInt then (k_119 ) else (some ((Int32.ofInt (0)), I2))) else none)) else none) else none) else none) else (k_119 ))
def B_Mo_agrees_23 (N : Nat) (O : WO) (a0 : Nat) (x2 : Int32) (x3 : Int32) (J0 : WJ) (rec_23 : Int32 → WI → Option (Int32 × WI)) (x4_23 : Int32) (I_23 : WI) : Option (Int32 × WI) := if 12 ≤ (x4_23).toInt then (some ((Int32.ofInt (1)), I_23)) else (bd1 (F_Mo_byProgram N O I_23 J0 a0 (rf O a0 17) x4_23) fun I2 => lp (B_Mo_agrees_43 N O a0 x2 x3 J0 x4_23 rec_23 I2) (fun _ => none) N ((Int32.ofInt (0))))
def F_Mo_agrees (N : Nat) (O : WO) (I0 : WI) (J0 : WJ) (a0 : Nat) (x1 : Int32) (x2 : Int32) (x3 : Int32) : Option (Int32 × WI) := bd1 (F_Mo_begins N O I0 J0 a0 (rf O a0 17) (x1 / (Int32.ofInt (25))) ((x1 / (Int32.ofInt (5))) - (x1 / (Int32.ofInt (5))) / (Int32.ofInt (5)) * (Int32.ofInt (5))) (x1 - x1 / (Int32.ofInt (5)) * (Int32.ofInt (5)))) fun I1 => lp (B_Mo_agrees_23 N O a0 x2 x3 J0) (fun _ _ => none) N ((Int32.ofInt (0))) I1
set_option maxHeartbeats 4000000 in
set_option maxRecDepth 100000 in
theorem f_Mo_agrees {P : List Nat} {K : Nat → Nat} {N : Nat} {O : WO} {I0 : WI} {J0 : WJ} (hT : TR P K O) {a0 : Nat} (h0 : a0 ∈ P ∧ K a0 = 10) {x1 : Int32} {x2 : Int32} {x3 : Int32} (hN3 : NN P K O a0 3 9) {r : Int32} {I' : WI} (h : F_Mo_agrees N O I0 J0 a0 x1 x2 x3 = some (r, I')) : Con yMo_agrees bMo_agrees 7 (some .boolean) ({ frames := 4, cells := 0, slots := 0, locals := 97 } : Room) P K I0 O J0 [.ref a0, .int x1, .int x2, .int x3] (EPo (some (.int r)) I' J0 P K O) := by
  refine Con.ofG mfMo_agrees (Nat.le_of_ble_eq_true rfl) ?_
  intro X C E
  unfold F_Mo_agrees at h
  refine g_aload_n C dMo_agrees_0 rfl ?_
  refine g_aload_n C dMo_agrees_1 rfl ?_
  have t_2 := rf_ok hT h0 (show sp 10 17 = some 49 from rfl)
  refine x_getr C dMo_agrees_2 fl_Mo_21 h0 hT (show sp 10 17 = some 49 from rfl) ?_
  refine g_iload_n C dMo_agrees_5 rfl ?_
  refine g_bipush (v := Int32.ofInt (25)) C dMo_agrees_6 (by decide) ?_
  refine x_idiv C dMo_agrees_8 (by decide) ?_
  refine g_iload_n C dMo_agrees_9 rfl ?_
  refine g_iconst (v := Int32.ofInt (5)) C dMo_agrees_10 (by decide) ?_
  refine x_idiv C dMo_agrees_11 (by decide) ?_
  refine g_iconst (v := Int32.ofInt (5)) C dMo_agrees_12 (by decide) ?_
  refine x_irem C dMo_agrees_13 (by decide) ?_
  refine g_iload_n C dMo_agrees_14 rfl ?_
  refine g_iconst (v := Int32.ofInt (5)) C dMo_agrees_15 (by decide) ?_
  refine x_irem C dMo_agrees_16 (by decide) ?_
  obtain ⟨I1, e_17, h⟩ := bd1_some h
  refine x_callVv (av := fun ad => [.ref (rf O a0 17), .int (x1 / (Int32.ofInt (25))), .int ((x1 / (Int32.ofInt (5))) - (x1 / (Int32.ofInt (5))) / (Int32.ofInt (5)) * (Int32.ofInt (5))), .int (x1 - x1 / (Int32.ofInt (5)) * (Int32.ofInt (5)))]) C dMo_agrees_17 mfMo_begins mvMo_begins ln_Mo_343 h0 (by decide) rfl (f_Mo_begins hT h0 t_2 hN3 e_17) rfl rfl (Nat.le_of_ble_eq_true rfl) ⟨Nat.le_of_ble_eq_true rfl, Nat.le_of_ble_eq_true rfl⟩ ⟨rfl, rfl⟩ ⟨Nat.zero_le _, Nat.zero_le _⟩ ?_
  refine g_iconst (v := Int32.ofInt (0)) C dMo_agrees_20 (by decide) ?_
  refine g_istore C dMo_agrees_21 (by decide) ?_
  have lp_23 : ∀ (x4_23 : Int32) (I_23 : WI), lp (B_Mo_agrees_23 N O a0 x2 x3 J0) (fun _ _ => none) N x4_23 I_23 = some (r, I') → GG X 7 P K I_23 O J0 0 0 23 [(0, .ref a0), (1, .int x1), (2, .int x2), (3, .int x3), (4, .int x4_23)] [] := by
    refine x_lp (fun (rec_23 : Int32 → WI → Option (Int32 × WI)) => ∀ (x4_23 : Int32) (I_23 : WI), rec_23 x4_23 I_23 = some (r, I') → GG X 7 P K I_23 O J0 0 0 23 [(0, .ref a0), (1, .int x1), (2, .int x2), (3, .int x3), (4, .int x4_23)] []) (fun _ _ h => by cases h) (fun rec_23 hr_23 x4_23 I_23 h => ?_) N
    unfold B_Mo_agrees_23 at h
    refine g_iload C dMo_agrees_23 rfl ?_
    refine g_bipush (v := Int32.ofInt (12)) C dMo_agrees_25 (by decide) ?_
    refine gt_icmp_ge 131 C dMo_agrees_27 (by decide) rfl (ofI (by decide)) (fun c_27 => ?_) (fun c_27 => ?_)
    · have h := x_pos c_27 h
      refine g_iconst (v := Int32.ofInt (1)) C dMo_agrees_131 (by decide) ?_
      exact x_zret1 C E dMo_agrees_132 (by decide) ⟨Nat.zero_le _, Nat.zero_le _⟩ h
    · have h := x_neg (Int.not_le.mpr c_27) h
      refine g_aload_n C dMo_agrees_30 rfl ?_
      refine g_aload_n C dMo_agrees_31 rfl ?_
      have t_32 := rf_ok hT h0 (show sp 10 17 = some 49 from rfl)
      refine x_getr C dMo_agrees_32 fl_Mo_21 h0 hT (show sp 10 17 = some 49 from rfl) ?_
      refine g_iload C dMo_agrees_35 rfl ?_
      obtain ⟨I2, e_37, h⟩ := bd1_some h
      refine x_callVv (av := fun ad => [.ref (rf O a0 17), .int x4_23]) C dMo_agrees_37 mfMo_byProgram mvMo_byProgram ln_Mo_347 h0 (by decide) rfl (f_Mo_byProgram hT h0 t_32 hN3 e_37) rfl rfl (Nat.le_of_ble_eq_true rfl) ⟨Nat.le_of_ble_eq_true rfl, Nat.le_of_ble_eq_true rfl⟩ ⟨rfl, rfl⟩ ⟨Nat.zero_le _, Nat.zero_le _⟩ ?_
      refine g_iconst (v := Int32.ofInt (0)) C dMo_agrees_40 (by decide) ?_
      refine g_istore C dMo_agrees_41 (by decide) ?_
      have lp_43 : ∀ (x5_43 : Int32), lp (B_Mo_agrees_43 N O a0 x2 x3 J0 x4_23 rec_23 I2) (fun _ => none) N x5_43 = some (r, I') → GG X 7 P K I2 O J0 0 0 43 [(0, .ref a0), (1, .int x1), (2, .int x2), (3, .int x3), (4, .int x4_23), (5, .int x5_43)] [] := by
        refine x_lp (fun (rec_43 : Int32 → Option (Int32 × WI)) => ∀ (x5_43 : Int32), rec_43 x5_43 = some (r, I') → GG X 7 P K I2 O J0 0 0 43 [(0, .ref a0), (1, .int x1), (2, .int x2), (3, .int x3), (4, .int x4_23), (5, .int x5_43)] []) (fun _ h => by cases h) (fun rec_43 hr_43 x5_43 h => ?_) N
        unfold B_Mo_agrees_43 at h
        refine g_iload C dMo_agrees_43 rfl ?_
        refine g_aload_n C dMo_agrees_45 rfl ?_
        refine g_geti C dMo_agrees_46 fl_Mo_293 h0 ?_
        refine gt_icmp_ge 125 C dMo_agrees_49 (by decide) rfl rfl (fun c_49 => ?_) (fun c_49 => ?_)
        · have h := x_pos c_49 h
          refine x_iinc C dMo_agrees_125 rfl (by decide) h (fun v4_125 h => ?_)
          refine g_goto 23 C dMo_agrees_128 (by decide) ?_
          exact g_sub (hr_23 (v4_125) I2 h) ⟨rfl, rfl, rfl, rfl, rfl, trivial⟩
        · have h := x_neg (Int.not_le.mpr c_49) h
          refine g_aload_n C dMo_agrees_52 rfl ?_
          refine g_iload C dMo_agrees_53 rfl ?_
          refine g_iload_n C dMo_agrees_55 rfl ?_
          refine g_iload_n C dMo_agrees_56 rfl ?_
          obtain ⟨z_57, e_57, h⟩ := bd1_some h
          refine x_callVi (av := fun ad => [.int x5_43, .int x2, .int x3]) C dMo_agrees_57 mfMo_hourOf mvMo_hourOf ln_Mo_351 h0 (by decide) rfl (f_Mo_hourOf hT h0 e_57) rfl rfl (Nat.le_of_ble_eq_true rfl) ⟨Nat.le_of_ble_eq_true rfl, Nat.le_of_ble_eq_true rfl⟩ ⟨rfl, rfl⟩ ⟨Nat.zero_le _, Nat.zero_le _⟩ ?_
          refine g_iload C dMo_agrees_60 rfl ?_
          refine x_jn h (fun (k_119 : Option (Int32 × WI)) => k_119  = some (r, I') → GG X 7 P K I2 O J0 0 0 119 [(0, .ref a0), (1, .int x1), (2, .int x2), (3, .int x3), (4, .int x4_23), (5, .int x5_43)] []) (fun  h => ?_) (fun k_119 hk_119 h => ?_)
          · skip
            refine x_iinc C dMo_agrees_119 rfl (by decide) h (fun v5_119 h => ?_)
            refine g_goto 43 C dMo_agrees_122 (by decide) ?_
            exact g_sub (hr_43 (v5_119) h) ⟨rfl, rfl, rfl, rfl, rfl, rfl, trivial⟩
          refine gt_icmp_eq 68 C dMo_agrees_62 (by decide) rfl rfl (fun c_62 => ?_) (fun c_62 => ?_)
          · have h := x_pos c_62 h
            refine g_aload_n C dMo_agrees_68 rfl ?_
            have t_69 := rf_ok hT h0 (show sp 10 17 = some 49 from rfl)
            refine x_getr C dMo_agrees_69 fl_Mo_21 h0 hT (show sp 10 17 = some 49 from rfl) ?_
            refine g_aload_n C dMo_agrees_72 rfl ?_
            have t_73 := rf_ok hT h0 (show sp 10 25 = some 36 from rfl)
            refine x_getr C dMo_agrees_73 fl_Mo_39 h0 hT (show sp 10 25 = some 36 from rfl) ?_
            refine g_iload C dMo_agrees_76 rfl ?_
            obtain ⟨g_78, h⟩ := x_g h
            refine x_iald (m := 24) C dMo_agrees_78 t_73 (by decide) rfl rfl g_78 ?_
            obtain ⟨z_79, e_79, h⟩ := bd1_some h
            refine x_callSi (av := fun ad => [.ref (rf O a0 17), .int (I2 (rf O a0 25) (x5_43).toInt.toNat)]) C dMo_agrees_79 mfMo_valueOf msMo_valueOf ln_Mo_354 (f_Mo_valueOf hT t_69 e_79) rfl rfl (Nat.le_of_ble_eq_true rfl) ⟨Nat.le_of_ble_eq_true rfl, Nat.le_of_ble_eq_true rfl⟩ ⟨rfl, rfl⟩ ⟨Nat.zero_le _, Nat.zero_le _⟩ ?_
            refine g_aload_n C dMo_agrees_82 rfl ?_
            have t_83 := rf_ok hT h0 (show sp 10 26 = some 35 from rfl)
            refine x_getr C dMo_agrees_83 fl_Mo_42 h0 hT (show sp 10 26 = some 35 from rfl) ?_
            refine g_iload C dMo_agrees_86 rfl ?_
            obtain ⟨g_88, h⟩ := x_g h
            refine x_iald (m := 24) C dMo_agrees_88 t_83 (by decide) rfl rfl g_88 ?_
            refine g_isub C dMo_agrees_89 ?_
            refine x_istore C dMo_agrees_90 (by decide) h (fun v6_90 h => ?_)
            refine g_iload C dMo_agrees_92 rfl ?_
            refine g_aload_n C dMo_agrees_94 rfl ?_
            have t_95 := rf_ok hT h0 (show sp 10 27 = some 35 from rfl)
            refine x_getr C dMo_agrees_95 fl_Mo_45 h0 hT (show sp 10 27 = some 35 from rfl) ?_
            refine g_iload C dMo_agrees_98 rfl ?_
            obtain ⟨g_100, h⟩ := x_g h
            refine x_iald (m := 24) C dMo_agrees_100 t_95 (by decide) rfl rfl g_100 ?_
            refine gt_icmp_gt 117 C dMo_agrees_101 (by decide) rfl rfl (fun c_101 => ?_) (fun c_101 => ?_)
            · have h := x_pos c_101 h
              refine g_iconst (v := Int32.ofInt (0)) C dMo_agrees_117 (by decide) ?_
              exact x_zret1 C E dMo_agrees_118 (by decide) ⟨Nat.zero_le _, Nat.zero_le _⟩ h
            · have h := x_neg (Int.not_lt.mpr c_101) h
              refine g_iload C dMo_agrees_104 rfl ?_
              refine g_ineg C dMo_agrees_106 ?_
              refine g_aload_n C dMo_agrees_107 rfl ?_
              have t_108 := rf_ok hT h0 (show sp 10 27 = some 35 from rfl)
              refine x_getr C dMo_agrees_108 fl_Mo_45 h0 hT (show sp 10 27 = some 35 from rfl) ?_
              refine g_iload C dMo_agrees_111 rfl ?_
              obtain ⟨g_113, h⟩ := x_g h
              refine x_iald (m := 24) C dMo_agrees_113 t_108 (by decide) rfl rfl g_113 ?_
              refine gt_icmp_le 119 C dMo_agrees_114 (by decide) rfl rfl (fun c_114 => ?_) (fun c_114 => ?_)
              · have h := x_pos c_114 h
                exact g_sub (hk_119  h) ⟨rfl, rfl, rfl, rfl, rfl, rfl, trivial⟩
              · have h := x_neg (Int.not_le.mpr c_114) h
                refine g_iconst (v := Int32.ofInt (0)) C dMo_agrees_117 (by decide) ?_
                exact x_zret1 C E dMo_agrees_118 (by decide) ⟨Nat.zero_le _, Nat.zero_le _⟩ h
          · have h := x_neg c_62 h
            refine g_goto 119 C dMo_agrees_65 (by decide) ?_
            exact g_sub (hk_119  h) ⟨rfl, rfl, rfl, rfl, rfl, rfl, trivial⟩
      exact g_sub (lp_43 ((Int32.ofInt (0))) h) ⟨rfl, rfl, rfl, rfl, rfl, rfl, trivial⟩
  exact g_sub (lp_23 ((Int32.ofInt (0))) I1 h) ⟨rfl, rfl, rfl, rfl, rfl, trivial⟩
def B_Mo_allFits_5 (N : Nat) (O : WO) (a0 : Nat) (x1 : Int32) (x2 : Int32) (J0 : WJ) (rec_5 : Int32 → Int32 → WI → Option (Int32 × WI)) (x3_5 : Int32) (x4_5 : Int32) (I_5 : WI) : Option (Int32 × WI) := if 100 ≤ (x4_5).toInt then (some (x3_5, I_5)) else (bd2 (F_Mo_agrees N O I_5 J0 a0 x4_5 x1 x2) fun z_17 I1 => jn (fun (y3_37 : Int32) (IJ_37 : WI) => lb (x4_5 + Int32.ofInt (1)) fun v4_37 => rec_5 (y3_37) (v4_37) IJ_37) fun k_37 => if (z_17).toInt = 0 then (k_37 (x3_5) I1) else (if 0 ≤ (x3_5).toInt ∧ (x3_5).toInt < 100 then (lb (up2 I1 (rf O a0 28) (x3_5).toInt.toNat x4_5) fun I2 => lb (x3_5 + Int32.ofInt (1)) fun v3_34 => k_37 (v3_34) I2) else none))
def F_Mo_allFits (N : Nat) (O : WO) (I0 : WI) (J0 : WJ) (a0 : Nat) (x1 : Int32) (x2 : Int32) : Option (Int32 × WI) := lp (B_Mo_allFits_5 N O a0 x1 x2 J0) (fun _ _ _ => none) N ((Int32.ofInt (0))) ((Int32.ofInt (0))) I0
set_option maxHeartbeats 4000000 in
set_option maxRecDepth 100000 in
theorem f_Mo_allFits {P : List Nat} {K : Nat → Nat} {N : Nat} {O : WO} {I0 : WI} {J0 : WJ} (hT : TR P K O) {a0 : Nat} (h0 : a0 ∈ P ∧ K a0 = 10) {x1 : Int32} {x2 : Int32} (hN3 : NN P K O a0 3 9) {r : Int32} {I' : WI} (h : F_Mo_allFits N O I0 J0 a0 x1 x2 = some (r, I')) : Con yMo_allFits bMo_allFits 5 (some .int) ({ frames := 5, cells := 0, slots := 0, locals := 123 } : Room) P K I0 O J0 [.ref a0, .int x1, .int x2] (EPo (some (.int r)) I' J0 P K O) := by
  refine Con.ofG mfMo_allFits (Nat.le_of_ble_eq_true rfl) ?_
  intro X C E
  unfold F_Mo_allFits at h
  refine g_iconst (v := Int32.ofInt (0)) C dMo_allFits_0 (by decide) ?_
  refine g_istore_n (i := 3) C dMo_allFits_1 rfl (by decide) ?_
  refine g_iconst (v := Int32.ofInt (0)) C dMo_allFits_2 (by decide) ?_
  refine g_istore C dMo_allFits_3 (by decide) ?_
  have lp_5 : ∀ (x3_5 : Int32) (x4_5 : Int32) (I_5 : WI), lp (B_Mo_allFits_5 N O a0 x1 x2 J0) (fun _ _ _ => none) N x3_5 x4_5 I_5 = some (r, I') → GG X 5 P K I_5 O J0 0 0 5 [(0, .ref a0), (1, .int x1), (2, .int x2), (3, .int x3_5), (4, .int x4_5)] [] := by
    refine x_lp (fun (rec_5 : Int32 → Int32 → WI → Option (Int32 × WI)) => ∀ (x3_5 : Int32) (x4_5 : Int32) (I_5 : WI), rec_5 x3_5 x4_5 I_5 = some (r, I') → GG X 5 P K I_5 O J0 0 0 5 [(0, .ref a0), (1, .int x1), (2, .int x2), (3, .int x3_5), (4, .int x4_5)] []) (fun _ _ _ h => by cases h) (fun rec_5 hr_5 x3_5 x4_5 I_5 h => ?_) N
    unfold B_Mo_allFits_5 at h
    refine g_iload C dMo_allFits_5 rfl ?_
    refine g_bipush (v := Int32.ofInt (100)) C dMo_allFits_7 (by decide) ?_
    refine gt_icmp_ge 43 C dMo_allFits_9 (by decide) rfl (ofI (by decide)) (fun c_9 => ?_) (fun c_9 => ?_)
    · have h := x_pos c_9 h
      refine g_iload_n C dMo_allFits_43 rfl ?_
      exact x_iret1 C E dMo_allFits_44 ⟨Nat.zero_le _, Nat.zero_le _⟩ h
    · have h := x_neg (Int.not_le.mpr c_9) h
      refine g_aload_n C dMo_allFits_12 rfl ?_
      refine g_iload C dMo_allFits_13 rfl ?_
      refine g_iload_n C dMo_allFits_15 rfl ?_
      refine g_iload_n C dMo_allFits_16 rfl ?_
      obtain ⟨z_17, I1, e_17, h⟩ := bd2_some h
      refine x_callVi (av := fun ad => [.int x4_5, .int x1, .int x2]) C dMo_allFits_17 mfMo_agrees mvMo_agrees ln_Mo_357 h0 (by decide) rfl (f_Mo_agrees hT h0 hN3 e_17) rfl rfl (Nat.le_of_ble_eq_true rfl) ⟨Nat.le_of_ble_eq_true rfl, Nat.le_of_ble_eq_true rfl⟩ ⟨rfl, rfl⟩ ⟨Nat.zero_le _, Nat.zero_le _⟩ ?_
      refine x_jn h (fun (k_37 : Int32 → WI → Option (Int32 × WI)) => ∀ (y3_37 : Int32) (IJ_37 : WI), k_37 y3_37 IJ_37 = some (r, I') → GG X 5 P K IJ_37 O J0 0 0 37 [(0, .ref a0), (1, .int x1), (2, .int x2), (3, .int y3_37), (4, .int x4_5)] []) (fun y3_37 IJ_37 h => ?_) (fun k_37 hk_37 h => ?_)
      · skip
        refine x_iinc C dMo_allFits_37 rfl (by decide) h (fun v4_37 h => ?_)
        refine g_goto 5 C dMo_allFits_40 (by decide) ?_
        exact g_sub (hr_5 (y3_37) (v4_37) IJ_37 h) ⟨rfl, rfl, rfl, rfl, rfl, trivial⟩
      refine gt_if_ne 26 C dMo_allFits_20 (by decide) rfl (fun c_20 => ?_) (fun c_20 => ?_)
      · have h := x_neg c_20 h
        refine g_aload_n C dMo_allFits_26 rfl ?_
        have t_27 := rf_ok hT h0 (show sp 10 28 = some 37 from rfl)
        refine x_getr C dMo_allFits_27 fl_Mo_48 h0 hT (show sp 10 28 = some 37 from rfl) ?_
        refine g_iload_n C dMo_allFits_30 rfl ?_
        refine g_iload C dMo_allFits_31 rfl ?_
        obtain ⟨g_33, h⟩ := x_g h
        refine x_iast (m := 100) C dMo_allFits_33 t_27 (by decide) rfl rfl g_33 h (fun I2 h => ?_)
        refine x_iinc C dMo_allFits_34 rfl (by decide) h (fun v3_34 h => ?_)
        exact g_sub (hk_37 (v3_34) I2 h) ⟨rfl, rfl, rfl, rfl, rfl, trivial⟩
      · have h := x_pos c_20 h
        refine g_goto 37 C dMo_allFits_23 (by decide) ?_
        exact g_sub (hk_37 (x3_5) I1 h) ⟨rfl, rfl, rfl, rfl, rfl, trivial⟩
  exact g_sub (lp_5 ((Int32.ofInt (0))) ((Int32.ofInt (0))) I0 h) ⟨rfl, rfl, rfl, rfl, rfl, trivial⟩
def F_Mo_partOf (N : Nat) (O : WO) (I0 : WI) (J0 : WJ) (x0 : Int32) (x1 : Int32) : Option (Int32) := if (x1).toInt = 0 then (some (x0 / (Int32.ofInt (25)))) else (if (x1).toInt = 1 then (some ((x0 / (Int32.ofInt (5))) - (x0 / (Int32.ofInt (5))) / (Int32.ofInt (5)) * (Int32.ofInt (5)))) else (some (x0 - x0 / (Int32.ofInt (5)) * (Int32.ofInt (5)))))
set_option maxHeartbeats 4000000 in
set_option maxRecDepth 100000 in
theorem f_Mo_partOf {P : List Nat} {K : Nat → Nat} {N : Nat} {O : WO} {I0 : WI} {J0 : WJ} (hT : TR P K O) {x0 : Int32} {x1 : Int32} {r : Int32} (h : F_Mo_partOf N O I0 J0 x0 x1 = some r) : Con yMo_partOf bMo_partOf 2 (some .int) ({ frames := 0, cells := 0, slots := 0, locals := 0 } : Room) P K I0 O J0 [.int x0, .int x1] (EPo (some (.int r)) I0 J0 P K O) := by
  refine Con.ofG mfMo_partOf (Nat.le_of_ble_eq_true rfl) ?_
  intro X C E
  unfold F_Mo_partOf at h
  refine g_iload_n C dMo_partOf_0 rfl ?_
  refine gt_if_ne 11 C dMo_partOf_1 (by decide) rfl (fun c_1 => ?_) (fun c_1 => ?_)
  · have h := x_neg c_1 h
    refine g_iload_n C dMo_partOf_11 rfl ?_
    refine g_iconst (v := Int32.ofInt (1)) C dMo_partOf_12 (by decide) ?_
    refine gt_icmp_ne 24 C dMo_partOf_13 (by decide) rfl (ofI (by decide)) (fun c_13 => ?_) (fun c_13 => ?_)
    · have h := x_neg c_13 h
      refine g_iload_n C dMo_partOf_24 rfl ?_
      refine g_iconst (v := Int32.ofInt (5)) C dMo_partOf_25 (by decide) ?_
      refine x_irem C dMo_partOf_26 (by decide) ?_
      exact x_iret0 C E dMo_partOf_27 ⟨Nat.zero_le _, Nat.zero_le _⟩ h
    · have h := x_pos c_13 h
      refine g_iload_n C dMo_partOf_16 rfl ?_
      refine g_iconst (v := Int32.ofInt (5)) C dMo_partOf_17 (by decide) ?_
      refine x_idiv C dMo_partOf_18 (by decide) ?_
      refine g_iconst (v := Int32.ofInt (5)) C dMo_partOf_19 (by decide) ?_
      refine x_irem C dMo_partOf_20 (by decide) ?_
      refine g_goto 27 C dMo_partOf_21 (by decide) ?_
      exact x_iret0 C E dMo_partOf_27 ⟨Nat.zero_le _, Nat.zero_le _⟩ h
  · have h := x_pos c_1 h
    refine g_iload_n C dMo_partOf_4 rfl ?_
    refine g_bipush (v := Int32.ofInt (25)) C dMo_partOf_5 (by decide) ?_
    refine x_idiv C dMo_partOf_7 (by decide) ?_
    refine g_goto 27 C dMo_partOf_8 (by decide) ?_
    exact x_iret0 C E dMo_partOf_27 ⟨Nat.zero_le _, Nat.zero_le _⟩ h
def F_Mo_isStart (N : Nat) (O : WO) (I0 : WI) (J0 : WJ) (x0 : Int32) (x1 : Int32) (x2 : Int32) : Option (Int32) := bd1 (F_Mo_in N O I0 J0 x0 (Int32.ofInt (0)) (Int32.ofInt (3))) fun z_3 => if (z_3).toInt = 0 then (some (Int32.ofInt (0))) else (bd1 (F_Mo_in N O I0 J0 x1 (Int32.ofInt (0)) (Int32.ofInt (4))) fun z_12 => if (z_12).toInt = 0 then (some (Int32.ofInt (0))) else (bd1 (F_Mo_in N O I0 J0 x2 (Int32.ofInt (0)) (Int32.ofInt (4))) fun z_21 => if (z_21).toInt = 0 then (some (Int32.ofInt (0))) else (some (Int32.ofInt (1)))))
set_option maxHeartbeats 4000000 in
set_option maxRecDepth 100000 in
theorem f_Mo_isStart {P : List Nat} {K : Nat → Nat} {N : Nat} {O : WO} {I0 : WI} {J0 : WJ} (hT : TR P K O) {x0 : Int32} {x1 : Int32} {x2 : Int32} {r : Int32} (h : F_Mo_isStart N O I0 J0 x0 x1 x2 = some r) : Con yMo_isStart bMo_isStart 3 (some .boolean) ({ frames := 1, cells := 0, slots := 0, locals := 22 } : Room) P K I0 O J0 [.int x0, .int x1, .int x2] (EPo (some (.int r)) I0 J0 P K O) := by
  refine Con.ofG mfMo_isStart (Nat.le_of_ble_eq_true rfl) ?_
  intro X C E
  unfold F_Mo_isStart at h
  refine g_iload_n C dMo_isStart_0 rfl ?_
  refine g_iconst (v := Int32.ofInt (0)) C dMo_isStart_1 (by decide) ?_
  refine g_iconst (v := Int32.ofInt (3)) C dMo_isStart_2 (by decide) ?_
  obtain ⟨z_3, e_3, h⟩ := bd1_some h
  refine x_callSi (av := fun ad => [.int x0, .int (Int32.ofInt (0)), .int (Int32.ofInt (3))]) C dMo_isStart_3 mfMo_in msMo_in ln_Mo_149 (f_Mo_in hT  e_3) rfl rfl (Nat.le_of_ble_eq_true rfl) ⟨Nat.le_of_ble_eq_true rfl, Nat.le_of_ble_eq_true rfl⟩ ⟨rfl, rfl⟩ ⟨Nat.zero_le _, Nat.zero_le _⟩ ?_
  refine gt_if_eq 31 C dMo_isStart_6 (by decide) rfl (fun c_6 => ?_) (fun c_6 => ?_)
  · have h := x_pos c_6 h
    refine g_iconst (v := Int32.ofInt (0)) C dMo_isStart_31 (by decide) ?_
    exact x_zret0 C E dMo_isStart_32 (by decide) ⟨Nat.zero_le _, Nat.zero_le _⟩ h
  · have h := x_neg c_6 h
    refine g_iload_n C dMo_isStart_9 rfl ?_
    refine g_iconst (v := Int32.ofInt (0)) C dMo_isStart_10 (by decide) ?_
    refine g_iconst (v := Int32.ofInt (4)) C dMo_isStart_11 (by decide) ?_
    obtain ⟨z_12, e_12, h⟩ := bd1_some h
    refine x_callSi (av := fun ad => [.int x1, .int (Int32.ofInt (0)), .int (Int32.ofInt (4))]) C dMo_isStart_12 mfMo_in msMo_in ln_Mo_149 (f_Mo_in hT  e_12) rfl rfl (Nat.le_of_ble_eq_true rfl) ⟨Nat.le_of_ble_eq_true rfl, Nat.le_of_ble_eq_true rfl⟩ ⟨rfl, rfl⟩ ⟨Nat.zero_le _, Nat.zero_le _⟩ ?_
    refine gt_if_eq 31 C dMo_isStart_15 (by decide) rfl (fun c_15 => ?_) (fun c_15 => ?_)
    · have h := x_pos c_15 h
      refine g_iconst (v := Int32.ofInt (0)) C dMo_isStart_31 (by decide) ?_
      exact x_zret0 C E dMo_isStart_32 (by decide) ⟨Nat.zero_le _, Nat.zero_le _⟩ h
    · have h := x_neg c_15 h
      refine g_iload_n C dMo_isStart_18 rfl ?_
      refine g_iconst (v := Int32.ofInt (0)) C dMo_isStart_19 (by decide) ?_
      refine g_iconst (v := Int32.ofInt (4)) C dMo_isStart_20 (by decide) ?_
      obtain ⟨z_21, e_21, h⟩ := bd1_some h
      refine x_callSi (av := fun ad => [.int x2, .int (Int32.ofInt (0)), .int (Int32.ofInt (4))]) C dMo_isStart_21 mfMo_in msMo_in ln_Mo_149 (f_Mo_in hT  e_21) rfl rfl (Nat.le_of_ble_eq_true rfl) ⟨Nat.le_of_ble_eq_true rfl, Nat.le_of_ble_eq_true rfl⟩ ⟨rfl, rfl⟩ ⟨Nat.zero_le _, Nat.zero_le _⟩ ?_
      refine gt_if_eq 31 C dMo_isStart_24 (by decide) rfl (fun c_24 => ?_) (fun c_24 => ?_)
      · have h := x_pos c_24 h
        refine g_iconst (v := Int32.ofInt (0)) C dMo_isStart_31 (by decide) ?_
        exact x_zret0 C E dMo_isStart_32 (by decide) ⟨Nat.zero_le _, Nat.zero_le _⟩ h
      · have h := x_neg c_24 h
        refine g_iconst (v := Int32.ofInt (1)) C dMo_isStart_27 (by decide) ?_
        refine g_goto 32 C dMo_isStart_28 (by decide) ?_
        exact x_zret0 C E dMo_isStart_32 (by decide) ⟨Nat.zero_le _, Nat.zero_le _⟩ h
def B_Mo_copies_2 (N : Nat) (O : WO) (a0 : Nat) (rec_2 : Int32 → WI → Option (WI)) (x1_2 : Int32) (I_2 : WI) : Option (WI) := if 37 ≤ (x1_2).toInt then (some I_2) else (if 0 ≤ (x1_2).toInt ∧ (x1_2).toInt < 37 then (if 0 ≤ (x1_2).toInt ∧ (x1_2).toInt < 37 then (lb (up2 I_2 (rf O a0 17) (x1_2).toInt.toNat (I_2 (rf O a0 16) (x1_2).toInt.toNat)) fun I1 => lb (x1_2 + Int32.ofInt (1)) fun v1_20 => rec_2 (v1_20) I1) else none) else none)
def F_Mo_copies (N : Nat) (O : WO) (I0 : WI) (J0 : WJ) (a0 : Nat) : Option (WI) := lp (B_Mo_copies_2 N O a0) (fun _ _ => none) N ((Int32.ofInt (0))) I0
set_option maxHeartbeats 4000000 in
set_option maxRecDepth 100000 in
theorem f_Mo_copies {P : List Nat} {K : Nat → Nat} {N : Nat} {O : WO} {I0 : WI} {J0 : WJ} (hT : TR P K O) {a0 : Nat} (h0 : a0 ∈ P ∧ K a0 = 10) {I' : WI} (h : F_Mo_copies N O I0 J0 a0 = some I') : Con yMo_copies bMo_copies 2 none ({ frames := 0, cells := 0, slots := 0, locals := 0 } : Room) P K I0 O J0 [.ref a0] (EPo none I' J0 P K O) := by
  refine Con.ofG mfMo_copies (Nat.le_of_ble_eq_true rfl) ?_
  intro X C E
  unfold F_Mo_copies at h
  refine g_iconst (v := Int32.ofInt (0)) C dMo_copies_0 (by decide) ?_
  refine g_istore_n (i := 1) C dMo_copies_1 rfl (by decide) ?_
  have lp_2 : ∀ (x1_2 : Int32) (I_2 : WI), lp (B_Mo_copies_2 N O a0) (fun _ _ => none) N x1_2 I_2 = some I' → GG X 2 P K I_2 O J0 0 0 2 [(0, .ref a0), (1, .int x1_2)] [] := by
    refine x_lp (fun (rec_2 : Int32 → WI → Option (WI)) => ∀ (x1_2 : Int32) (I_2 : WI), rec_2 x1_2 I_2 = some I' → GG X 2 P K I_2 O J0 0 0 2 [(0, .ref a0), (1, .int x1_2)] []) (fun _ _ h => by cases h) (fun rec_2 hr_2 x1_2 I_2 h => ?_) N
    unfold B_Mo_copies_2 at h
    refine g_iload_n C dMo_copies_2 rfl ?_
    refine g_bipush (v := Int32.ofInt (37)) C dMo_copies_3 (by decide) ?_
    refine gt_icmp_ge 26 C dMo_copies_5 (by decide) rfl (ofI (by decide)) (fun c_5 => ?_) (fun c_5 => ?_)
    · have h := x_pos c_5 h
      exact x_vret1 C E dMo_copies_26 ⟨Nat.zero_le _, Nat.zero_le _⟩ h
    · have h := x_neg (Int.not_le.mpr c_5) h
      refine g_aload_n C dMo_copies_8 rfl ?_
      have t_9 := rf_ok hT h0 (show sp 10 17 = some 49 from rfl)
      refine x_getr C dMo_copies_9 fl_Mo_21 h0 hT (show sp 10 17 = some 49 from rfl) ?_
      refine g_iload_n C dMo_copies_12 rfl ?_
      refine g_aload_n C dMo_copies_13 rfl ?_
      have t_14 := rf_ok hT h0 (show sp 10 16 = some 31 from rfl)
      refine x_getr C dMo_copies_14 fl_Mo_17 h0 hT (show sp 10 16 = some 31 from rfl) ?_
      refine g_iload_n C dMo_copies_17 rfl ?_
      obtain ⟨g_18, h⟩ := x_g h
      refine x_iald (m := 37) C dMo_copies_18 t_14 (by decide) rfl rfl g_18 ?_
      obtain ⟨g_19, h⟩ := x_g h
      refine x_iast (m := 37) C dMo_copies_19 t_9 (by decide) rfl rfl g_19 h (fun I1 h => ?_)
      refine x_iinc C dMo_copies_20 rfl (by decide) h (fun v1_20 h => ?_)
      refine g_goto 2 C dMo_copies_23 (by decide) ?_
      exact g_sub (hr_2 (v1_20) I1 h) ⟨rfl, rfl, trivial⟩
  exact g_sub (lp_2 ((Int32.ofInt (0))) I0 h) ⟨rfl, rfl, trivial⟩
def B_Mo_isWell_6 (N : Nat) (O : WO) (a0 : Nat) (x1 : Int32) (x2 : Int32) (J0 : WJ) (rec_6 : Int32 → WI → Option (Int32 × WI)) (x3_6 : Int32) (I_6 : WI) : Option (Int32 × WI) := if (x1).toInt ≤ (x3_6).toInt then (some ((Int32.ofInt (1)), I_6)) else (if 0 ≤ (x3_6).toInt ∧ (x3_6).toInt < 5 then (lb (up2 I_6 (rf O a0 31) (x3_6).toInt.toNat ((x2 >>> (((Int32.ofInt (2)) * ((x1 - (Int32.ofInt (1))) - x3_6)) &&& 31)) &&& (Int32.ofInt (3)))) fun I2 => if 0 ≤ (x3_6).toInt ∧ (x3_6).toInt < 5 then (lb (up2 I2 (rf O a0 17) 34 (I2 (rf O a0 31) (x3_6).toInt.toNat)) fun I3 => bd1 (F_Mo_goesT N O I3 J0 a0 (rf O a0 17)) fun I4 => if ((I4 (rf O a0 17) 26)).toInt = 1 then (some ((Int32.ofInt (0)), I4)) else (if ((I4 (rf O a0 17) 23)).toInt = ((I4 (rf O a0 16) 23)).toInt then (lb (x3_6 + Int32.ofInt (1)) fun v3_79 => rec_6 (v3_79) I4) else (some ((Int32.ofInt (0)), I4)))) else none) else none)
def F_Mo_isWell (N : Nat) (O : WO) (I0 : WI) (J0 : WJ) (a0 : Nat) (x1 : Int32) (x2 : Int32) : Option (Int32 × WI) := bd1 (F_Mo_copies N O I0 J0 a0) fun I1 => lp (B_Mo_isWell_6 N O a0 x1 x2 J0) (fun _ _ => none) N ((Int32.ofInt (0))) I1
set_option maxHeartbeats 4000000 in
set_option maxRecDepth 100000 in
theorem f_Mo_isWell {P : List Nat} {K : Nat → Nat} {N : Nat} {O : WO} {I0 : WI} {J0 : WJ} (hT : TR P K O) {a0 : Nat} (h0 : a0 ∈ P ∧ K a0 = 10) {x1 : Int32} {x2 : Int32} (hN3 : NN P K O a0 3 9) {r : Int32} {I' : WI} (h : F_Mo_isWell N O I0 J0 a0 x1 x2 = some (r, I')) : Con yMo_isWell bMo_isWell 4 (some .boolean) ({ frames := 3, cells := 0, slots := 0, locals := 75 } : Room) P K I0 O J0 [.ref a0, .int x1, .int x2] (EPo (some (.int r)) I' J0 P K O) := by
  refine Con.ofG mfMo_isWell (Nat.le_of_ble_eq_true rfl) ?_
  intro X C E
  unfold F_Mo_isWell at h
  refine g_aload_n C dMo_isWell_0 rfl ?_
  obtain ⟨I1, e_1, h⟩ := bd1_some h
  refine x_callVv (av := fun ad => []) C dMo_isWell_1 mfMo_copies mvMo_copies ln_Mo_369 h0 (by decide) rfl (f_Mo_copies hT h0 e_1) rfl rfl (Nat.le_of_ble_eq_true rfl) ⟨Nat.le_of_ble_eq_true rfl, Nat.le_of_ble_eq_true rfl⟩ ⟨rfl, rfl⟩ ⟨Nat.zero_le _, Nat.zero_le _⟩ ?_
  refine g_iconst (v := Int32.ofInt (0)) C dMo_isWell_4 (by decide) ?_
  refine g_istore_n (i := 3) C dMo_isWell_5 rfl (by decide) ?_
  have lp_6 : ∀ (x3_6 : Int32) (I_6 : WI), lp (B_Mo_isWell_6 N O a0 x1 x2 J0) (fun _ _ => none) N x3_6 I_6 = some (r, I') → GG X 4 P K I_6 O J0 0 0 6 [(0, .ref a0), (1, .int x1), (2, .int x2), (3, .int x3_6)] [] := by
    refine x_lp (fun (rec_6 : Int32 → WI → Option (Int32 × WI)) => ∀ (x3_6 : Int32) (I_6 : WI), rec_6 x3_6 I_6 = some (r, I') → GG X 4 P K I_6 O J0 0 0 6 [(0, .ref a0), (1, .int x1), (2, .int x2), (3, .int x3_6)] []) (fun _ _ h => by cases h) (fun rec_6 hr_6 x3_6 I_6 h => ?_) N
    unfold B_Mo_isWell_6 at h
    refine g_iload_n C dMo_isWell_6 rfl ?_
    refine g_iload_n C dMo_isWell_7 rfl ?_
    refine gt_icmp_ge 85 C dMo_isWell_8 (by decide) rfl rfl (fun c_8 => ?_) (fun c_8 => ?_)
    · have h := x_pos c_8 h
      refine g_iconst (v := Int32.ofInt (1)) C dMo_isWell_85 (by decide) ?_
      exact x_zret1 C E dMo_isWell_86 (by decide) ⟨Nat.zero_le _, Nat.zero_le _⟩ h
    · have h := x_neg (Int.not_le.mpr c_8) h
      refine g_aload_n C dMo_isWell_11 rfl ?_
      have t_12 := rf_ok hT h0 (show sp 10 31 = some 38 from rfl)
      refine x_getr C dMo_isWell_12 fl_Mo_54 h0 hT (show sp 10 31 = some 38 from rfl) ?_
      refine g_iload_n C dMo_isWell_15 rfl ?_
      refine g_iload_n C dMo_isWell_16 rfl ?_
      refine g_iconst (v := Int32.ofInt (2)) C dMo_isWell_17 (by decide) ?_
      refine g_iload_n C dMo_isWell_18 rfl ?_
      refine g_iconst (v := Int32.ofInt (1)) C dMo_isWell_19 (by decide) ?_
      refine g_isub C dMo_isWell_20 ?_
      refine g_iload_n C dMo_isWell_21 rfl ?_
      refine g_isub C dMo_isWell_22 ?_
      refine g_imul C dMo_isWell_23 ?_
      refine g_ishr C dMo_isWell_24 ?_
      refine g_iconst (v := Int32.ofInt (3)) C dMo_isWell_25 (by decide) ?_
      refine g_iand C dMo_isWell_26 ?_
      obtain ⟨g_27, h⟩ := x_g h
      refine x_iast (m := 5) C dMo_isWell_27 t_12 (by decide) rfl rfl g_27 h (fun I2 h => ?_)
      refine g_aload_n C dMo_isWell_28 rfl ?_
      have t_29 := rf_ok hT h0 (show sp 10 17 = some 49 from rfl)
      refine x_getr C dMo_isWell_29 fl_Mo_21 h0 hT (show sp 10 17 = some 49 from rfl) ?_
      refine g_bipush (v := Int32.ofInt (34)) C dMo_isWell_32 (by decide) ?_
      refine g_aload_n C dMo_isWell_34 rfl ?_
      have t_35 := rf_ok hT h0 (show sp 10 31 = some 38 from rfl)
      refine x_getr C dMo_isWell_35 fl_Mo_54 h0 hT (show sp 10 31 = some 38 from rfl) ?_
      refine g_iload_n C dMo_isWell_38 rfl ?_
      obtain ⟨g_39, h⟩ := x_g h
      refine x_iald (m := 5) C dMo_isWell_39 t_35 (by decide) rfl rfl g_39 ?_
      refine x_iastc (m := 37) (c := 34) C dMo_isWell_40 t_29 (by decide) rfl rfl rfl (by decide) h (fun I3 h => ?_)
      refine g_aload_n C dMo_isWell_41 rfl ?_
      refine g_aload_n C dMo_isWell_42 rfl ?_
      have t_43 := rf_ok hT h0 (show sp 10 17 = some 49 from rfl)
      refine x_getr C dMo_isWell_43 fl_Mo_21 h0 hT (show sp 10 17 = some 49 from rfl) ?_
      obtain ⟨I4, e_46, h⟩ := bd1_some h
      refine x_callVv (av := fun ad => [.ref (rf O a0 17)]) C dMo_isWell_46 mfMo_goes mvMo_goes ln_Mo_332 h0 (by decide) rfl (f_Mo_goesT hT h0 t_43 hN3 e_46) rfl rfl (Nat.le_of_ble_eq_true rfl) ⟨Nat.le_of_ble_eq_true rfl, Nat.le_of_ble_eq_true rfl⟩ ⟨rfl, rfl⟩ ⟨Nat.zero_le _, Nat.zero_le _⟩ ?_
      refine g_aload_n C dMo_isWell_49 rfl ?_
      have t_50 := rf_ok hT h0 (show sp 10 17 = some 49 from rfl)
      refine x_getr C dMo_isWell_50 fl_Mo_21 h0 hT (show sp 10 17 = some 49 from rfl) ?_
      refine g_bipush (v := Int32.ofInt (26)) C dMo_isWell_53 (by decide) ?_
      refine x_ialdc (m := 37) (c := 26) C dMo_isWell_55 t_50 (by decide) rfl rfl rfl (by decide) ?_
      refine g_iconst (v := Int32.ofInt (1)) C dMo_isWell_56 (by decide) ?_
      refine gt_icmp_eq 77 C dMo_isWell_57 (by decide) rfl (ofI (by decide)) (fun c_57 => ?_) (fun c_57 => ?_)
      · have h := x_pos c_57 h
        refine g_iconst (v := Int32.ofInt (0)) C dMo_isWell_77 (by decide) ?_
        exact x_zret1 C E dMo_isWell_78 (by decide) ⟨Nat.zero_le _, Nat.zero_le _⟩ h
      · have h := x_neg c_57 h
        refine g_aload_n C dMo_isWell_60 rfl ?_
        have t_61 := rf_ok hT h0 (show sp 10 17 = some 49 from rfl)
        refine x_getr C dMo_isWell_61 fl_Mo_21 h0 hT (show sp 10 17 = some 49 from rfl) ?_
        refine g_bipush (v := Int32.ofInt (23)) C dMo_isWell_64 (by decide) ?_
        refine x_ialdc (m := 37) (c := 23) C dMo_isWell_66 t_61 (by decide) rfl rfl rfl (by decide) ?_
        refine g_aload_n C dMo_isWell_67 rfl ?_
        have t_68 := rf_ok hT h0 (show sp 10 16 = some 31 from rfl)
        refine x_getr C dMo_isWell_68 fl_Mo_17 h0 hT (show sp 10 16 = some 31 from rfl) ?_
        refine g_bipush (v := Int32.ofInt (23)) C dMo_isWell_71 (by decide) ?_
        refine x_ialdc (m := 37) (c := 23) C dMo_isWell_73 t_68 (by decide) rfl rfl rfl (by decide) ?_
        refine gt_icmp_eq 79 C dMo_isWell_74 (by decide) rfl rfl (fun c_74 => ?_) (fun c_74 => ?_)
        · have h := x_pos c_74 h
          refine x_iinc C dMo_isWell_79 rfl (by decide) h (fun v3_79 h => ?_)
          refine g_goto 6 C dMo_isWell_82 (by decide) ?_
          exact g_sub (hr_6 (v3_79) I4 h) ⟨rfl, rfl, rfl, rfl, trivial⟩
        · have h := x_neg c_74 h
          refine g_iconst (v := Int32.ofInt (0)) C dMo_isWell_77 (by decide) ?_
          exact x_zret1 C E dMo_isWell_78 (by decide) ⟨Nat.zero_le _, Nat.zero_le _⟩ h
  exact g_sub (lp_6 ((Int32.ofInt (0))) I1 h) ⟨rfl, rfl, rfl, rfl, trivial⟩
def B_Mo_rules_30 (N : Nat) (O : WO) (a0 : Nat) (J0 : WJ) (x3_16 : Int32) (x4_16 : Int32) (rec_16 : Int32 → Int32 → WI → Option (WI)) (rec_30 : Int32 → WI → Option (WI)) (x5_30 : Int32) (I_30 : WI) : Option (WI) := if 37 ≤ (x5_30).toInt then (lb (up2 I_30 (rf O a0 32) 34 x4_16) fun I4 => bd1 (F_Mo_goesU N O I4 J0 a0 (rf O a0 32)) fun I5 => jn (fun (y3_104 : Int32) => lb (x4_16 + Int32.ofInt (1)) fun v4_104 => rec_16 (y3_104) (v4_104) I5) fun k_104 => if ((I5 (rf O a0 32) 26)).toInt = 0 then (if ((I5 (rf O a0 32) 23)).toInt = ((I5 (rf O a0 17) 23)).toInt then (k_104 (x4_16)) else (k_104 (x3_16))) else (k_104 (x3_16))) else (if 0 ≤ (x5_30).toInt ∧ (x5_30).toInt < 37 then (if 0 ≤ (x5_30).toInt ∧ (x5_30).toInt < 37 then (lb (up2 I_30 (rf O a0 32) (x5_30).toInt.toNat (I_30 (rf O a0 17) (x5_30).toInt.toNat)) fun I6 => lb (x5_30 + Int32.ofInt (1)) fun v5_51 => rec_30 (v5_51) I6) else none) else none)
def B_Mo_rules_16 (N : Nat) (O : WO) (a0 : Nat) (J0 : WJ) (x2_6 : Int32) (rec_6 : Int32 → WI → Option (WI)) (rec_16 : Int32 → Int32 → WI → Option (WI)) (x3_16 : Int32) (x4_16 : Int32) (I_16 : WI) : Option (WI) := jn (fun (y3_110 : Int32) (y4_110 : Int32) (IJ_110 : WI) => jn (fun (s0_126 : Int32) => lb (up2 IJ_110 (rf O a0 17) 34 s0_126) fun I2 => bd1 (F_Mo_goesT N O I2 J0 a0 (rf O a0 17)) fun I3 => lb (x2_6 + Int32.ofInt (1)) fun v2_135 => rec_6 (v2_135) I3) fun k_126 => if (y3_110).toInt = (-1) then (k_126 ((Int32.ofInt (0)))) else (k_126 (y3_110))) fun k_110 => if 3 < (x4_16).toInt then (k_110 (x3_16) (x4_16) I_16) else (if (x3_16).toInt = (-1) then (lp (B_Mo_rules_30 N O a0 J0 x3_16 x4_16 rec_16) (fun _ _ => none) N ((Int32.ofInt (0))) I_16) else (k_110 (x3_16) (x4_16) I_16))
def B_Mo_rules_6 (N : Nat) (O : WO) (a0 : Nat) (x1 : Int32) (J0 : WJ) (rec_6 : Int32 → WI → Option (WI)) (x2_6 : Int32) (I_6 : WI) : Option (WI) := if (x1).toInt ≤ (x2_6).toInt then (some I_6) else (lp (B_Mo_rules_16 N O a0 J0 x2_6 rec_6) (fun _ _ _ => none) N ((Int32.ofInt (-1))) ((Int32.ofInt (0))) I_6)
def F_Mo_rules (N : Nat) (O : WO) (I0 : WI) (J0 : WJ) (a0 : Nat) (x1 : Int32) : Option (WI) := bd1 (F_Mo_copies N O I0 J0 a0) fun I1 => lp (B_Mo_rules_6 N O a0 x1 J0) (fun _ _ => none) N ((Int32.ofInt (0))) I1
set_option maxHeartbeats 4000000 in
set_option maxRecDepth 100000 in
theorem f_Mo_rules {P : List Nat} {K : Nat → Nat} {N : Nat} {O : WO} {I0 : WI} {J0 : WJ} (hT : TR P K O) {a0 : Nat} (h0 : a0 ∈ P ∧ K a0 = 10) {x1 : Int32} (hN3 : NN P K O a0 3 9) {I' : WI} (h : F_Mo_rules N O I0 J0 a0 x1 = some I') : Con yMo_rules bMo_rules 6 none ({ frames := 3, cells := 0, slots := 0, locals := 75 } : Room) P K I0 O J0 [.ref a0, .int x1] (EPo none I' J0 P K O) := by
  refine Con.ofG mfMo_rules (Nat.le_of_ble_eq_true rfl) ?_
  intro X C E
  unfold F_Mo_rules at h
  refine g_aload_n C dMo_rules_0 rfl ?_
  obtain ⟨I1, e_1, h⟩ := bd1_some h
  refine x_callVv (av := fun ad => []) C dMo_rules_1 mfMo_copies mvMo_copies ln_Mo_369 h0 (by decide) rfl (f_Mo_copies hT h0 e_1) rfl rfl (Nat.le_of_ble_eq_true rfl) ⟨Nat.le_of_ble_eq_true rfl, Nat.le_of_ble_eq_true rfl⟩ ⟨rfl, rfl⟩ ⟨Nat.zero_le _, Nat.zero_le _⟩ ?_
  refine g_iconst (v := Int32.ofInt (0)) C dMo_rules_4 (by decide) ?_
  refine g_istore_n (i := 2) C dMo_rules_5 rfl (by decide) ?_
  have lp_6 : ∀ (x2_6 : Int32) (I_6 : WI), lp (B_Mo_rules_6 N O a0 x1 J0) (fun _ _ => none) N x2_6 I_6 = some I' → GG X 6 P K I_6 O J0 0 0 6 [(0, .ref a0), (1, .int x1), (2, .int x2_6)] [] := by
    refine x_lp (fun (rec_6 : Int32 → WI → Option (WI)) => ∀ (x2_6 : Int32) (I_6 : WI), rec_6 x2_6 I_6 = some I' → GG X 6 P K I_6 O J0 0 0 6 [(0, .ref a0), (1, .int x1), (2, .int x2_6)] []) (fun _ _ h => by cases h) (fun rec_6 hr_6 x2_6 I_6 h => ?_) N
    unfold B_Mo_rules_6 at h
    refine g_iload_n C dMo_rules_6 rfl ?_
    refine g_iload_n C dMo_rules_7 rfl ?_
    refine gt_icmp_ge 141 C dMo_rules_8 (by decide) rfl rfl (fun c_8 => ?_) (fun c_8 => ?_)
    · have h := x_pos c_8 h
      exact x_vret1 C E dMo_rules_141 ⟨Nat.zero_le _, Nat.zero_le _⟩ h
    · have h := x_neg (Int.not_le.mpr c_8) h
      refine g_iconst (v := Int32.ofInt (-1)) C dMo_rules_11 (by decide) ?_
      refine g_istore_n (i := 3) C dMo_rules_12 rfl (by decide) ?_
      refine g_iconst (v := Int32.ofInt (0)) C dMo_rules_13 (by decide) ?_
      refine g_istore C dMo_rules_14 (by decide) ?_
      have lp_16 : ∀ (x3_16 : Int32) (x4_16 : Int32) (I_16 : WI), lp (B_Mo_rules_16 N O a0 J0 x2_6 rec_6) (fun _ _ _ => none) N x3_16 x4_16 I_16 = some I' → GG X 6 P K I_16 O J0 0 0 16 [(0, .ref a0), (1, .int x1), (2, .int x2_6), (3, .int x3_16), (4, .int x4_16)] [] := by
        refine x_lp (fun (rec_16 : Int32 → Int32 → WI → Option (WI)) => ∀ (x3_16 : Int32) (x4_16 : Int32) (I_16 : WI), rec_16 x3_16 x4_16 I_16 = some I' → GG X 6 P K I_16 O J0 0 0 16 [(0, .ref a0), (1, .int x1), (2, .int x2_6), (3, .int x3_16), (4, .int x4_16)] []) (fun _ _ _ h => by cases h) (fun rec_16 hr_16 x3_16 x4_16 I_16 h => ?_) N
        unfold B_Mo_rules_16 at h
        refine g_iload C dMo_rules_16 rfl ?_
        refine g_iconst (v := Int32.ofInt (3)) C dMo_rules_18 (by decide) ?_
        refine x_jn h (fun (k_110 : Int32 → Int32 → WI → Option (WI)) => ∀ (y3_110 : Int32) (y4_110 : Int32) (IJ_110 : WI), k_110 y3_110 y4_110 IJ_110 = some I' → GG X 6 P K IJ_110 O J0 0 0 110 [(0, .ref a0), (1, .int x1), (2, .int x2_6), (3, .int y3_110), (4, .int y4_110)] []) (fun y3_110 y4_110 IJ_110 h => ?_) (fun k_110 hk_110 h => ?_)
        · skip
          refine g_aload_n C dMo_rules_110 rfl ?_
          have t_111 := rf_ok hT h0 (show sp 10 17 = some 49 from rfl)
          refine x_getr C dMo_rules_111 fl_Mo_21 h0 hT (show sp 10 17 = some 49 from rfl) ?_
          refine g_bipush (v := Int32.ofInt (34)) C dMo_rules_114 (by decide) ?_
          refine g_iload_n C dMo_rules_116 rfl ?_
          refine g_iconst (v := Int32.ofInt (-1)) C dMo_rules_117 (by decide) ?_
          refine x_jn h (fun (k_126 : Int32 → Option (WI)) => ∀ (s0_126 : Int32), k_126 s0_126 = some I' → GG X 6 P K IJ_110 O J0 0 0 126 [(0, .ref a0), (1, .int x1), (2, .int x2_6), (3, .int y3_110), (4, .int y4_110)] [.int s0_126, .int (Int32.ofInt (34)), .ref (rf O a0 17)]) (fun s0_126 h => ?_) (fun k_126 hk_126 h => ?_)
          · skip
            refine x_iastc (m := 37) (c := 34) C dMo_rules_126 t_111 (by decide) rfl rfl rfl (by decide) h (fun I2 h => ?_)
            refine g_aload_n C dMo_rules_127 rfl ?_
            refine g_aload_n C dMo_rules_128 rfl ?_
            have t_129 := rf_ok hT h0 (show sp 10 17 = some 49 from rfl)
            refine x_getr C dMo_rules_129 fl_Mo_21 h0 hT (show sp 10 17 = some 49 from rfl) ?_
            obtain ⟨I3, e_132, h⟩ := bd1_some h
            refine x_callVv (av := fun ad => [.ref (rf O a0 17)]) C dMo_rules_132 mfMo_goes mvMo_goes ln_Mo_332 h0 (by decide) rfl (f_Mo_goesT hT h0 t_129 hN3 e_132) rfl rfl (Nat.le_of_ble_eq_true rfl) ⟨Nat.le_of_ble_eq_true rfl, Nat.le_of_ble_eq_true rfl⟩ ⟨rfl, rfl⟩ ⟨Nat.zero_le _, Nat.zero_le _⟩ ?_
            refine x_iinc C dMo_rules_135 rfl (by decide) h (fun v2_135 h => ?_)
            refine g_goto 6 C dMo_rules_138 (by decide) ?_
            exact g_sub (hr_6 (v2_135) I3 h) ⟨rfl, rfl, rfl, trivial⟩
          refine gt_icmp_ne 125 C dMo_rules_118 (by decide) rfl (ofI (by decide)) (fun c_118 => ?_) (fun c_118 => ?_)
          · have h := x_neg c_118 h
            refine g_iload_n C dMo_rules_125 rfl ?_
            exact g_sub (hk_126 (y3_110) h) ⟨rfl, rfl, rfl, rfl, rfl, trivial⟩
          · have h := x_pos c_118 h
            refine g_iconst (v := Int32.ofInt (0)) C dMo_rules_121 (by decide) ?_
            refine g_goto 126 C dMo_rules_122 (by decide) ?_
            exact g_sub (hk_126 ((Int32.ofInt (0))) h) ⟨rfl, rfl, rfl, rfl, rfl, trivial⟩
        refine gt_icmp_gt 110 C dMo_rules_19 (by decide) rfl (ofI (by decide)) (fun c_19 => ?_) (fun c_19 => ?_)
        · have h := x_pos c_19 h
          exact g_sub (hk_110 (x3_16) (x4_16) I_16 h) ⟨rfl, rfl, rfl, rfl, rfl, trivial⟩
        · have h := x_neg (Int.not_lt.mpr c_19) h
          refine g_iload_n C dMo_rules_22 rfl ?_
          refine g_iconst (v := Int32.ofInt (-1)) C dMo_rules_23 (by decide) ?_
          refine gt_icmp_ne 110 C dMo_rules_24 (by decide) rfl (ofI (by decide)) (fun c_24 => ?_) (fun c_24 => ?_)
          · have h := x_neg c_24 h
            exact g_sub (hk_110 (x3_16) (x4_16) I_16 h) ⟨rfl, rfl, rfl, rfl, rfl, trivial⟩
          · have h := x_pos c_24 h
            refine g_iconst (v := Int32.ofInt (0)) C dMo_rules_27 (by decide) ?_
            refine g_istore C dMo_rules_28 (by decide) ?_
            have lp_30 : ∀ (x5_30 : Int32) (I_30 : WI), lp (B_Mo_rules_30 N O a0 J0 x3_16 x4_16 rec_16) (fun _ _ => none) N x5_30 I_30 = some I' → GG X 6 P K I_30 O J0 0 0 30 [(0, .ref a0), (1, .int x1), (2, .int x2_6), (3, .int x3_16), (4, .int x4_16), (5, .int x5_30)] [] := by
              refine x_lp (fun (rec_30 : Int32 → WI → Option (WI)) => ∀ (x5_30 : Int32) (I_30 : WI), rec_30 x5_30 I_30 = some I' → GG X 6 P K I_30 O J0 0 0 30 [(0, .ref a0), (1, .int x1), (2, .int x2_6), (3, .int x3_16), (4, .int x4_16), (5, .int x5_30)] []) (fun _ _ h => by cases h) (fun rec_30 hr_30 x5_30 I_30 h => ?_) N
              unfold B_Mo_rules_30 at h
              refine g_iload C dMo_rules_30 rfl ?_
              refine g_bipush (v := Int32.ofInt (37)) C dMo_rules_32 (by decide) ?_
              refine gt_icmp_ge 57 C dMo_rules_34 (by decide) rfl (ofI (by decide)) (fun c_34 => ?_) (fun c_34 => ?_)
              · have h := x_pos c_34 h
                refine g_aload_n C dMo_rules_57 rfl ?_
                have t_58 := rf_ok hT h0 (show sp 10 32 = some 50 from rfl)
                refine x_getr C dMo_rules_58 fl_Mo_57 h0 hT (show sp 10 32 = some 50 from rfl) ?_
                refine g_bipush (v := Int32.ofInt (34)) C dMo_rules_61 (by decide) ?_
                refine g_iload C dMo_rules_63 rfl ?_
                refine x_iastc (m := 37) (c := 34) C dMo_rules_65 t_58 (by decide) rfl rfl rfl (by decide) h (fun I4 h => ?_)
                refine g_aload_n C dMo_rules_66 rfl ?_
                refine g_aload_n C dMo_rules_67 rfl ?_
                have t_68 := rf_ok hT h0 (show sp 10 32 = some 50 from rfl)
                refine x_getr C dMo_rules_68 fl_Mo_57 h0 hT (show sp 10 32 = some 50 from rfl) ?_
                obtain ⟨I5, e_71, h⟩ := bd1_some h
                refine x_callVv (av := fun ad => [.ref (rf O a0 32)]) C dMo_rules_71 mfMo_goes mvMo_goes ln_Mo_332 h0 (by decide) rfl (f_Mo_goesU hT h0 t_68 hN3 e_71) rfl rfl (Nat.le_of_ble_eq_true rfl) ⟨Nat.le_of_ble_eq_true rfl, Nat.le_of_ble_eq_true rfl⟩ ⟨rfl, rfl⟩ ⟨Nat.zero_le _, Nat.zero_le _⟩ ?_
                refine g_aload_n C dMo_rules_74 rfl ?_
                have t_75 := rf_ok hT h0 (show sp 10 32 = some 50 from rfl)
                refine x_getr C dMo_rules_75 fl_Mo_57 h0 hT (show sp 10 32 = some 50 from rfl) ?_
                refine g_bipush (v := Int32.ofInt (26)) C dMo_rules_78 (by decide) ?_
                refine x_ialdc (m := 37) (c := 26) C dMo_rules_80 t_75 (by decide) rfl rfl rfl (by decide) ?_
                refine x_jn h (fun (k_104 : Int32 → Option (WI)) => ∀ (y3_104 : Int32), k_104 y3_104 = some I' → GG X 6 P K I5 O J0 0 0 104 [(0, .ref a0), (1, .int x1), (2, .int x2_6), (3, .int y3_104), (4, .int x4_16), (5, .int x5_30)] []) (fun y3_104 h => ?_) (fun k_104 hk_104 h => ?_)
                · skip
                  refine x_iinc C dMo_rules_104 rfl (by decide) h (fun v4_104 h => ?_)
                  refine g_goto 16 C dMo_rules_107 (by decide) ?_
                  exact g_sub (hr_16 (y3_104) (v4_104) I5 h) ⟨rfl, rfl, rfl, rfl, rfl, trivial⟩
                refine gt_if_ne 104 C dMo_rules_81 (by decide) rfl (fun c_81 => ?_) (fun c_81 => ?_)
                · have h := x_neg c_81 h
                  exact g_sub (hk_104 (x3_16) h) ⟨rfl, rfl, rfl, rfl, rfl, rfl, trivial⟩
                · have h := x_pos c_81 h
                  refine g_aload_n C dMo_rules_84 rfl ?_
                  have t_85 := rf_ok hT h0 (show sp 10 32 = some 50 from rfl)
                  refine x_getr C dMo_rules_85 fl_Mo_57 h0 hT (show sp 10 32 = some 50 from rfl) ?_
                  refine g_bipush (v := Int32.ofInt (23)) C dMo_rules_88 (by decide) ?_
                  refine x_ialdc (m := 37) (c := 23) C dMo_rules_90 t_85 (by decide) rfl rfl rfl (by decide) ?_
                  refine g_aload_n C dMo_rules_91 rfl ?_
                  have t_92 := rf_ok hT h0 (show sp 10 17 = some 49 from rfl)
                  refine x_getr C dMo_rules_92 fl_Mo_21 h0 hT (show sp 10 17 = some 49 from rfl) ?_
                  refine g_bipush (v := Int32.ofInt (23)) C dMo_rules_95 (by decide) ?_
                  refine x_ialdc (m := 37) (c := 23) C dMo_rules_97 t_92 (by decide) rfl rfl rfl (by decide) ?_
                  refine gt_icmp_ne 104 C dMo_rules_98 (by decide) rfl rfl (fun c_98 => ?_) (fun c_98 => ?_)
                  · have h := x_neg c_98 h
                    exact g_sub (hk_104 (x3_16) h) ⟨rfl, rfl, rfl, rfl, rfl, rfl, trivial⟩
                  · have h := x_pos c_98 h
                    refine g_iload C dMo_rules_101 rfl ?_
                    refine g_istore_n (i := 3) C dMo_rules_103 rfl (by decide) ?_
                    exact g_sub (hk_104 (x4_16) h) ⟨rfl, rfl, rfl, rfl, rfl, rfl, trivial⟩
              · have h := x_neg (Int.not_le.mpr c_34) h
                refine g_aload_n C dMo_rules_37 rfl ?_
                have t_38 := rf_ok hT h0 (show sp 10 32 = some 50 from rfl)
                refine x_getr C dMo_rules_38 fl_Mo_57 h0 hT (show sp 10 32 = some 50 from rfl) ?_
                refine g_iload C dMo_rules_41 rfl ?_
                refine g_aload_n C dMo_rules_43 rfl ?_
                have t_44 := rf_ok hT h0 (show sp 10 17 = some 49 from rfl)
                refine x_getr C dMo_rules_44 fl_Mo_21 h0 hT (show sp 10 17 = some 49 from rfl) ?_
                refine g_iload C dMo_rules_47 rfl ?_
                obtain ⟨g_49, h⟩ := x_g h
                refine x_iald (m := 37) C dMo_rules_49 t_44 (by decide) rfl rfl g_49 ?_
                obtain ⟨g_50, h⟩ := x_g h
                refine x_iast (m := 37) C dMo_rules_50 t_38 (by decide) rfl rfl g_50 h (fun I6 h => ?_)
                refine x_iinc C dMo_rules_51 rfl (by decide) h (fun v5_51 h => ?_)
                refine g_goto 30 C dMo_rules_54 (by decide) ?_
                exact g_sub (hr_30 (v5_51) I6 h) ⟨rfl, rfl, rfl, rfl, rfl, rfl, trivial⟩
            exact g_sub (lp_30 ((Int32.ofInt (0))) I_16 h) ⟨rfl, rfl, rfl, rfl, rfl, rfl, trivial⟩
      exact g_sub (lp_16 ((Int32.ofInt (-1))) ((Int32.ofInt (0))) I_6 h) ⟨rfl, rfl, rfl, rfl, rfl, trivial⟩
  exact g_sub (lp_6 ((Int32.ofInt (0))) I1 h) ⟨rfl, rfl, rfl, trivial⟩
def B_Mo_bits_4 (N : Nat) (O : WO)  (rec_4 : Int32 → Int32 → Option (Int32)) (x1_4 : Int32) (x2_4 : Int32) : Option (Int32) := if (x2_4).toInt = 0 then (some x1_4) else (lb (x1_4 + Int32.ofInt (1)) fun v1_8 => lb ((x2_4 &&& (x2_4 - (Int32.ofInt (1))))) fun v2_16 => rec_4 (v1_8) (v2_16))
def F_Mo_bits (N : Nat) (O : WO) (I0 : WI) (J0 : WJ) (x0 : Int32) : Option (Int32) := lp (B_Mo_bits_4 N O ) (fun _ _ => none) N ((Int32.ofInt (0))) (x0)
set_option maxHeartbeats 4000000 in
set_option maxRecDepth 100000 in
theorem f_Mo_bits {P : List Nat} {K : Nat → Nat} {N : Nat} {O : WO} {I0 : WI} {J0 : WJ} (hT : TR P K O) {x0 : Int32} {r : Int32} (h : F_Mo_bits N O I0 J0 x0 = some r) : Con yMo_bits bMo_bits 3 (some .int) ({ frames := 0, cells := 0, slots := 0, locals := 0 } : Room) P K I0 O J0 [.int x0] (EPo (some (.int r)) I0 J0 P K O) := by
  refine Con.ofG mfMo_bits (Nat.le_of_ble_eq_true rfl) ?_
  intro X C E
  unfold F_Mo_bits at h
  refine g_iconst (v := Int32.ofInt (0)) C dMo_bits_0 (by decide) ?_
  refine g_istore_n (i := 1) C dMo_bits_1 rfl (by decide) ?_
  refine g_iload_n C dMo_bits_2 rfl ?_
  refine g_istore_n (i := 2) C dMo_bits_3 rfl (by decide) ?_
  have lp_4 : ∀ (x1_4 : Int32) (x2_4 : Int32), lp (B_Mo_bits_4 N O ) (fun _ _ => none) N x1_4 x2_4 = some r → GG X 3 P K I0 O J0 0 0 4 [(0, .int x0), (1, .int x1_4), (2, .int x2_4)] [] := by
    refine x_lp (fun (rec_4 : Int32 → Int32 → Option (Int32)) => ∀ (x1_4 : Int32) (x2_4 : Int32), rec_4 x1_4 x2_4 = some r → GG X 3 P K I0 O J0 0 0 4 [(0, .int x0), (1, .int x1_4), (2, .int x2_4)] []) (fun _ _ h => by cases h) (fun rec_4 hr_4 x1_4 x2_4 h => ?_) N
    unfold B_Mo_bits_4 at h
    refine g_iload_n C dMo_bits_4 rfl ?_
    refine gt_if_eq 20 C dMo_bits_5 (by decide) rfl (fun c_5 => ?_) (fun c_5 => ?_)
    · have h := x_pos c_5 h
      refine g_iload_n C dMo_bits_20 rfl ?_
      exact x_iret0 C E dMo_bits_21 ⟨Nat.zero_le _, Nat.zero_le _⟩ h
    · have h := x_neg c_5 h
      refine x_iinc C dMo_bits_8 rfl (by decide) h (fun v1_8 h => ?_)
      refine g_iload_n C dMo_bits_11 rfl ?_
      refine g_iload_n C dMo_bits_12 rfl ?_
      refine g_iconst (v := Int32.ofInt (1)) C dMo_bits_13 (by decide) ?_
      refine g_isub C dMo_bits_14 ?_
      refine g_iand C dMo_bits_15 ?_
      refine x_istore_n (i := 2) C dMo_bits_16 rfl (by decide) h (fun v2_16 h => ?_)
      refine g_goto 4 C dMo_bits_17 (by decide) ?_
      exact g_sub (hr_4 (v1_8) (v2_16) h) ⟨rfl, rfl, rfl, trivial⟩
  exact g_sub (lp_4 ((Int32.ofInt (0))) (x0) h) ⟨rfl, rfl, rfl, trivial⟩
def B_Mo_splitsFrom_50 (N : Nat) (O : WO) (a0 : Nat) (x1 : Int32) (I0 : WI) (v2_13 : Int32) (x3_19 : Int32) (x4_19 : Int32) (k_125 : Int32 → Option (Int32)) (rec_50 : Int32 → Int32 → Option (Int32)) (x5_50 : Int32) (x6_50 : Int32) : Option (Int32) := if (v2_13).toInt ≤ (x6_50).toInt then (jn (fun (s0_123 : Int32) => lb ((x3_19 + s0_123)) fun v3_124 => k_125 (v3_124)) fun k_123 => if (x5_50).toInt < (x1).toInt then (k_123 ((Int32.ofInt (0)))) else (k_123 ((Int32.ofInt (1))))) else (jn (fun (y5_105 : Int32) => lb (x6_50 + Int32.ofInt (1)) fun v6_105 => rec_50 (y5_105) (v6_105)) fun k_105 => if (((x4_19 >>> (x6_50 &&& 31)) &&& (Int32.ofInt (1)))).toInt = 1 then (jn (fun (s0_101 : Int32) => if 0 ≤ (s0_101).toInt ∧ (s0_101).toInt < 16 then (lb ((x5_50 + (I0 (rf O a0 34) (s0_101).toInt.toNat))) fun v5_103 => k_105 (v5_103)) else none) fun k_101 => if ((I0 (rf O a0 33) 0)).toInt ≤ (x6_50).toInt then (k_101 ((((Int32.ofInt (8)) + x6_50) - (I0 (rf O a0 33) 0)))) else (k_101 (x6_50))) else (k_105 (x5_50)))
def B_Mo_splitsFrom_19 (N : Nat) (O : WO) (a0 : Nat) (x1 : Int32) (I0 : WI) (J0 : WJ) (v2_13 : Int32) (rec_19 : Int32 → Int32 → Option (Int32)) (x3_19 : Int32) (x4_19 : Int32) : Option (Int32) := if (((Int32.ofInt (1)) <<< (v2_13 &&& 31))).toInt ≤ (x4_19).toInt then (some x3_19) else (bd1 (F_Mo_bits N O I0 J0 x4_19) fun z_29 => jn (fun (y3_125 : Int32) => lb (x4_19 + Int32.ofInt (1)) fun v4_125 => rec_19 (y3_125) (v4_125)) fun k_125 => if (z_29).toInt = ((I0 (rf O a0 33) 1)).toInt then (lp (B_Mo_splitsFrom_50 N O a0 x1 I0 v2_13 x3_19 x4_19 k_125) (fun _ _ => none) N ((Int32.ofInt (0))) ((Int32.ofInt (0)))) else (k_125 (x3_19)))
def F_Mo_splitsFrom (N : Nat) (O : WO) (I0 : WI) (J0 : WJ) (a0 : Nat) (x1 : Int32) : Option (Int32) := lb (((I0 (rf O a0 33) 0) + (I0 (rf O a0 33) 1))) fun v2_13 => lp (B_Mo_splitsFrom_19 N O a0 x1 I0 J0 v2_13) (fun _ _ => none) N ((Int32.ofInt (0))) ((Int32.ofInt (0)))
set_option maxHeartbeats 4000000 in
set_option maxRecDepth 100000 in
theorem f_Mo_splitsFrom {P : List Nat} {K : Nat → Nat} {N : Nat} {O : WO} {I0 : WI} {J0 : WJ} (hT : TR P K O) {a0 : Nat} (h0 : a0 ∈ P ∧ K a0 = 10) {x1 : Int32} {r : Int32} (h : F_Mo_splitsFrom N O I0 J0 a0 x1 = some r) : Con yMo_splitsFrom bMo_splitsFrom 7 (some .int) ({ frames := 1, cells := 0, slots := 0, locals := 22 } : Room) P K I0 O J0 [.ref a0, .int x1] (EPo (some (.int r)) I0 J0 P K O) := by
  refine Con.ofG mfMo_splitsFrom (Nat.le_of_ble_eq_true rfl) ?_
  intro X C E
  unfold F_Mo_splitsFrom at h
  refine g_aload_n C dMo_splitsFrom_0 rfl ?_
  have t_1 := rf_ok hT h0 (show sp 10 33 = some 39 from rfl)
  refine x_getr C dMo_splitsFrom_1 fl_Mo_60 h0 hT (show sp 10 33 = some 39 from rfl) ?_
  refine g_iconst (v := Int32.ofInt (0)) C dMo_splitsFrom_4 (by decide) ?_
  refine x_ialdc (m := 2) (c := 0) C dMo_splitsFrom_5 t_1 (by decide) rfl rfl rfl (by decide) ?_
  refine g_aload_n C dMo_splitsFrom_6 rfl ?_
  have t_7 := rf_ok hT h0 (show sp 10 33 = some 39 from rfl)
  refine x_getr C dMo_splitsFrom_7 fl_Mo_60 h0 hT (show sp 10 33 = some 39 from rfl) ?_
  refine g_iconst (v := Int32.ofInt (1)) C dMo_splitsFrom_10 (by decide) ?_
  refine x_ialdc (m := 2) (c := 1) C dMo_splitsFrom_11 t_7 (by decide) rfl rfl rfl (by decide) ?_
  refine g_iadd C dMo_splitsFrom_12 ?_
  refine x_istore_n (i := 2) C dMo_splitsFrom_13 rfl (by decide) h (fun v2_13 h => ?_)
  refine g_iconst (v := Int32.ofInt (0)) C dMo_splitsFrom_14 (by decide) ?_
  refine g_istore_n (i := 3) C dMo_splitsFrom_15 rfl (by decide) ?_
  refine g_iconst (v := Int32.ofInt (0)) C dMo_splitsFrom_16 (by decide) ?_
  refine g_istore C dMo_splitsFrom_17 (by decide) ?_
  have lp_19 : ∀ (x3_19 : Int32) (x4_19 : Int32), lp (B_Mo_splitsFrom_19 N O a0 x1 I0 J0 v2_13) (fun _ _ => none) N x3_19 x4_19 = some r → GG X 7 P K I0 O J0 0 0 19 [(0, .ref a0), (1, .int x1), (2, .int v2_13), (3, .int x3_19), (4, .int x4_19)] [] := by
    refine x_lp (fun (rec_19 : Int32 → Int32 → Option (Int32)) => ∀ (x3_19 : Int32) (x4_19 : Int32), rec_19 x3_19 x4_19 = some r → GG X 7 P K I0 O J0 0 0 19 [(0, .ref a0), (1, .int x1), (2, .int v2_13), (3, .int x3_19), (4, .int x4_19)] []) (fun _ _ h => by cases h) (fun rec_19 hr_19 x3_19 x4_19 h => ?_) N
    unfold B_Mo_splitsFrom_19 at h
    refine g_iload C dMo_splitsFrom_19 rfl ?_
    refine g_iconst (v := Int32.ofInt (1)) C dMo_splitsFrom_21 (by decide) ?_
    refine g_iload_n C dMo_splitsFrom_22 rfl ?_
    refine g_ishl C dMo_splitsFrom_23 ?_
    refine gt_icmp_ge 131 C dMo_splitsFrom_24 (by decide) rfl rfl (fun c_24 => ?_) (fun c_24 => ?_)
    · have h := x_pos c_24 h
      refine g_iload_n C dMo_splitsFrom_131 rfl ?_
      exact x_iret0 C E dMo_splitsFrom_132 ⟨Nat.zero_le _, Nat.zero_le _⟩ h
    · have h := x_neg (Int.not_le.mpr c_24) h
      refine g_iload C dMo_splitsFrom_27 rfl ?_
      obtain ⟨z_29, e_29, h⟩ := bd1_some h
      refine x_callSi (av := fun ad => [.int x4_19]) C dMo_splitsFrom_29 mfMo_bits msMo_bits ln_Mo_378 (f_Mo_bits hT  e_29) rfl rfl (Nat.le_of_ble_eq_true rfl) ⟨Nat.le_of_ble_eq_true rfl, Nat.le_of_ble_eq_true rfl⟩ ⟨rfl, rfl⟩ ⟨Nat.zero_le _, Nat.zero_le _⟩ ?_
      refine g_aload_n C dMo_splitsFrom_32 rfl ?_
      have t_33 := rf_ok hT h0 (show sp 10 33 = some 39 from rfl)
      refine x_getr C dMo_splitsFrom_33 fl_Mo_60 h0 hT (show sp 10 33 = some 39 from rfl) ?_
      refine g_iconst (v := Int32.ofInt (1)) C dMo_splitsFrom_36 (by decide) ?_
      refine x_ialdc (m := 2) (c := 1) C dMo_splitsFrom_37 t_33 (by decide) rfl rfl rfl (by decide) ?_
      refine x_jn h (fun (k_125 : Int32 → Option (Int32)) => ∀ (y3_125 : Int32), k_125 y3_125 = some r → GG X 7 P K I0 O J0 0 0 125 [(0, .ref a0), (1, .int x1), (2, .int v2_13), (3, .int y3_125), (4, .int x4_19)] []) (fun y3_125 h => ?_) (fun k_125 hk_125 h => ?_)
      · skip
        refine x_iinc C dMo_splitsFrom_125 rfl (by decide) h (fun v4_125 h => ?_)
        refine g_goto 19 C dMo_splitsFrom_128 (by decide) ?_
        exact g_sub (hr_19 (y3_125) (v4_125) h) ⟨rfl, rfl, rfl, rfl, rfl, trivial⟩
      refine gt_icmp_eq 44 C dMo_splitsFrom_38 (by decide) rfl rfl (fun c_38 => ?_) (fun c_38 => ?_)
      · have h := x_pos c_38 h
        refine g_iconst (v := Int32.ofInt (0)) C dMo_splitsFrom_44 (by decide) ?_
        refine g_istore C dMo_splitsFrom_45 (by decide) ?_
        refine g_iconst (v := Int32.ofInt (0)) C dMo_splitsFrom_47 (by decide) ?_
        refine g_istore C dMo_splitsFrom_48 (by decide) ?_
        have lp_50 : ∀ (x5_50 : Int32) (x6_50 : Int32), lp (B_Mo_splitsFrom_50 N O a0 x1 I0 v2_13 x3_19 x4_19 k_125) (fun _ _ => none) N x5_50 x6_50 = some r → GG X 7 P K I0 O J0 0 0 50 [(0, .ref a0), (1, .int x1), (2, .int v2_13), (3, .int x3_19), (4, .int x4_19), (5, .int x5_50), (6, .int x6_50)] [] := by
          refine x_lp (fun (rec_50 : Int32 → Int32 → Option (Int32)) => ∀ (x5_50 : Int32) (x6_50 : Int32), rec_50 x5_50 x6_50 = some r → GG X 7 P K I0 O J0 0 0 50 [(0, .ref a0), (1, .int x1), (2, .int v2_13), (3, .int x3_19), (4, .int x4_19), (5, .int x5_50), (6, .int x6_50)] []) (fun _ _ h => by cases h) (fun rec_50 hr_50 x5_50 x6_50 h => ?_) N
          unfold B_Mo_splitsFrom_50 at h
          refine g_iload C dMo_splitsFrom_50 rfl ?_
          refine g_iload_n C dMo_splitsFrom_52 rfl ?_
          refine gt_icmp_ge 111 C dMo_splitsFrom_53 (by decide) rfl rfl (fun c_53 => ?_) (fun c_53 => ?_)
          · have h := x_pos c_53 h
            refine g_iload_n C dMo_splitsFrom_111 rfl ?_
            refine g_iload C dMo_splitsFrom_112 rfl ?_
            refine g_iload_n C dMo_splitsFrom_114 rfl ?_
            refine x_jn h (fun (k_123 : Int32 → Option (Int32)) => ∀ (s0_123 : Int32), k_123 s0_123 = some r → GG X 7 P K I0 O J0 0 0 123 [(0, .ref a0), (1, .int x1), (2, .int v2_13), (3, .int x3_19), (4, .int x4_19), (5, .int x5_50), (6, .int x6_50)] [.int s0_123, .int x3_19]) (fun s0_123 h => ?_) (fun k_123 hk_123 h => ?_)
            · skip
              refine g_iadd C dMo_splitsFrom_123 ?_
              refine x_istore_n (i := 3) C dMo_splitsFrom_124 rfl (by decide) h (fun v3_124 h => ?_)
              exact g_sub (hk_125 (v3_124) h) ⟨rfl, rfl, rfl, rfl, rfl, trivial⟩
            refine gt_icmp_lt 122 C dMo_splitsFrom_115 (by decide) rfl rfl (fun c_115 => ?_) (fun c_115 => ?_)
            · have h := x_pos c_115 h
              refine g_iconst (v := Int32.ofInt (0)) C dMo_splitsFrom_122 (by decide) ?_
              exact g_sub (hk_123 ((Int32.ofInt (0))) h) ⟨rfl, rfl, rfl, rfl, rfl, rfl, rfl, trivial⟩
            · have h := x_neg (Int.not_lt.mpr c_115) h
              refine g_iconst (v := Int32.ofInt (1)) C dMo_splitsFrom_118 (by decide) ?_
              refine g_goto 123 C dMo_splitsFrom_119 (by decide) ?_
              exact g_sub (hk_123 ((Int32.ofInt (1))) h) ⟨rfl, rfl, rfl, rfl, rfl, rfl, rfl, trivial⟩
          · have h := x_neg (Int.not_le.mpr c_53) h
            refine g_iload C dMo_splitsFrom_56 rfl ?_
            refine g_iload C dMo_splitsFrom_58 rfl ?_
            refine g_ishr C dMo_splitsFrom_60 ?_
            refine g_iconst (v := Int32.ofInt (1)) C dMo_splitsFrom_61 (by decide) ?_
            refine g_iand C dMo_splitsFrom_62 ?_
            refine g_iconst (v := Int32.ofInt (1)) C dMo_splitsFrom_63 (by decide) ?_
            refine x_jn h (fun (k_105 : Int32 → Option (Int32)) => ∀ (y5_105 : Int32), k_105 y5_105 = some r → GG X 7 P K I0 O J0 0 0 105 [(0, .ref a0), (1, .int x1), (2, .int v2_13), (3, .int x3_19), (4, .int x4_19), (5, .int y5_105), (6, .int x6_50)] []) (fun y5_105 h => ?_) (fun k_105 hk_105 h => ?_)
            · skip
              refine x_iinc C dMo_splitsFrom_105 rfl (by decide) h (fun v6_105 h => ?_)
              refine g_goto 50 C dMo_splitsFrom_108 (by decide) ?_
              exact g_sub (hr_50 (y5_105) (v6_105) h) ⟨rfl, rfl, rfl, rfl, rfl, rfl, rfl, trivial⟩
            refine gt_icmp_ne 105 C dMo_splitsFrom_64 (by decide) rfl (ofI (by decide)) (fun c_64 => ?_) (fun c_64 => ?_)
            · have h := x_neg c_64 h
              exact g_sub (hk_105 (x5_50) h) ⟨rfl, rfl, rfl, rfl, rfl, rfl, rfl, trivial⟩
            · have h := x_pos c_64 h
              refine g_iload C dMo_splitsFrom_67 rfl ?_
              refine g_aload_n C dMo_splitsFrom_69 rfl ?_
              have t_70 := rf_ok hT h0 (show sp 10 34 = some 40 from rfl)
              refine x_getr C dMo_splitsFrom_70 fl_Mo_63 h0 hT (show sp 10 34 = some 40 from rfl) ?_
              refine g_iload C dMo_splitsFrom_73 rfl ?_
              refine g_aload_n C dMo_splitsFrom_75 rfl ?_
              have t_76 := rf_ok hT h0 (show sp 10 33 = some 39 from rfl)
              refine x_getr C dMo_splitsFrom_76 fl_Mo_60 h0 hT (show sp 10 33 = some 39 from rfl) ?_
              refine g_iconst (v := Int32.ofInt (0)) C dMo_splitsFrom_79 (by decide) ?_
              refine x_ialdc (m := 2) (c := 0) C dMo_splitsFrom_80 t_76 (by decide) rfl rfl rfl (by decide) ?_
              refine x_jn h (fun (k_101 : Int32 → Option (Int32)) => ∀ (s0_101 : Int32), k_101 s0_101 = some r → GG X 7 P K I0 O J0 0 0 101 [(0, .ref a0), (1, .int x1), (2, .int v2_13), (3, .int x3_19), (4, .int x4_19), (5, .int x5_50), (6, .int x6_50)] [.int s0_101, .ref (rf O a0 34), .int x5_50]) (fun s0_101 h => ?_) (fun k_101 hk_101 h => ?_)
              · skip
                obtain ⟨g_101, h⟩ := x_g h
                refine x_iald (m := 16) C dMo_splitsFrom_101 t_70 (by decide) rfl rfl g_101 ?_
                refine g_iadd C dMo_splitsFrom_102 ?_
                refine x_istore C dMo_splitsFrom_103 (by decide) h (fun v5_103 h => ?_)
                exact g_sub (hk_105 (v5_103) h) ⟨rfl, rfl, rfl, rfl, rfl, rfl, rfl, trivial⟩
              refine gt_icmp_ge 89 C dMo_splitsFrom_81 (by decide) rfl rfl (fun c_81 => ?_) (fun c_81 => ?_)
              · have h := x_pos c_81 h
                refine g_bipush (v := Int32.ofInt (8)) C dMo_splitsFrom_89 (by decide) ?_
                refine g_iload C dMo_splitsFrom_91 rfl ?_
                refine g_iadd C dMo_splitsFrom_93 ?_
                refine g_aload_n C dMo_splitsFrom_94 rfl ?_
                have t_95 := rf_ok hT h0 (show sp 10 33 = some 39 from rfl)
                refine x_getr C dMo_splitsFrom_95 fl_Mo_60 h0 hT (show sp 10 33 = some 39 from rfl) ?_
                refine g_iconst (v := Int32.ofInt (0)) C dMo_splitsFrom_98 (by decide) ?_
                refine x_ialdc (m := 2) (c := 0) C dMo_splitsFrom_99 t_95 (by decide) rfl rfl rfl (by decide) ?_
                refine g_isub C dMo_splitsFrom_100 ?_
                exact g_sub (hk_101 ((((Int32.ofInt (8)) + x6_50) - (I0 (rf O a0 33) 0))) h) ⟨rfl, rfl, rfl, rfl, rfl, rfl, rfl, trivial⟩
              · have h := x_neg (Int.not_le.mpr c_81) h
                refine g_iload C dMo_splitsFrom_84 rfl ?_
                refine g_goto 101 C dMo_splitsFrom_86 (by decide) ?_
                exact g_sub (hk_101 (x6_50) h) ⟨rfl, rfl, rfl, rfl, rfl, rfl, rfl, trivial⟩
        exact g_sub (lp_50 ((Int32.ofInt (0))) ((Int32.ofInt (0))) h) ⟨rfl, rfl, rfl, rfl, rfl, rfl, rfl, trivial⟩
      · have h := x_neg c_38 h
        refine g_goto 125 C dMo_splitsFrom_41 (by decide) ?_
        exact g_sub (hk_125 (x3_19) h) ⟨rfl, rfl, rfl, rfl, rfl, trivial⟩
  exact g_sub (lp_19 ((Int32.ofInt (0))) ((Int32.ofInt (0))) h) ⟨rfl, rfl, rfl, rfl, rfl, trivial⟩
def B_Mo_leads_184 (N : Nat) (O : WO) (a0 : Nat) (I0 : WI) (rec_184 : Int64 → Int32 → WJ → Option (Int64 × WI × WJ)) (x1_184 : Int64) (x3_184 : Int32) (J_184 : WJ) : Option (Int64 × WI × WJ) := if ((I0 (rf O a0 3) 8)).toInt ≤ (x3_184).toInt then (some (x1_184, I0, J_184)) else (if 0 ≤ (x3_184).toInt ∧ (x3_184).toInt < 5 then (lb ((((J_184 (rf O a0 35) (x3_184).toInt.toNat) * (((Int32.ofInt (20)) + ((Int32.ofInt (10)) * (I0 (rf O a0 17) 35)))).toInt64) / (100 : Int64))) fun v4_220 => bd1 (F_Mo_passes N O I0 J_184 a0 x3_184 (I0 (rf O a0 17) 25)) fun z_233 => lb (((v4_220 * (z_233).toInt64) / (100 : Int64))) fun v6_242 => if 0 ≤ (x3_184).toInt ∧ (x3_184).toInt < 5 then (if 0 ≤ (x3_184).toInt ∧ (x3_184).toInt < 5 then (lb (up2 J_184 (rf O a0 35) (x3_184).toInt.toNat ((J_184 (rf O a0 35) (x3_184).toInt.toNat) - v4_220)) fun J2 => if 0 ≤ (x3_184).toInt ∧ (x3_184).toInt < 5 then (lb (up2 J2 (rf O a0 36) (x3_184).toInt.toNat (v4_220 - v6_242)) fun J3 => lb ((x1_184 + v6_242)) fun v1_270 => lb (x3_184 + Int32.ofInt (1)) fun v3_271 => rec_184 (v1_270) (v3_271) J3) else none) else none) else none) else none)
def B_Mo_leads_64 (N : Nat) (O : WO) (a0 : Nat) (I0 : WI) (rec_64 : Int32 → WJ → Option (Int64 × WI × WJ)) (x1_64 : Int32) (J_64 : WJ) : Option (Int64 × WI × WJ) := if (x1_64).toInt < 0 then (lp (B_Mo_leads_184 N O a0 I0) (fun _ _ _ => none) N ((0 : Int64)) ((Int32.ofInt (0))) J_64) else (if 0 ≤ (x1_64).toInt ∧ (x1_64).toInt < 5 then (if 0 ≤ (x1_64).toInt ∧ (x1_64).toInt < 5 then (lb (((((J_64 (rf O a0 35) (x1_64).toInt.toNat) * ((I0 (rf O (rf O a0 3) 12) (x1_64).toInt.toNat)).toInt64) * ((I0 (rf O a0 17) 29)).toInt64) / (10000 : Int64))) fun v2_98 => if 0 ≤ (x1_64).toInt ∧ (x1_64).toInt < 5 then (lb (((v2_98 * ((I0 (rf O (rf O a0 3) 13) (x1_64).toInt.toNat)).toInt64) / (100 : Int64))) fun v4_115 => if 0 ≤ (x1_64).toInt ∧ (x1_64).toInt < 5 then (if 0 ≤ (x1_64).toInt ∧ (x1_64).toInt < 5 then (lb (up2 J_64 (rf O a0 35) (x1_64).toInt.toNat ((J_64 (rf O a0 35) (x1_64).toInt.toNat) - v2_98)) fun J4 => if 0 ≤ ((x1_64 + (Int32.ofInt (1)))).toInt ∧ ((x1_64 + (Int32.ofInt (1)))).toInt < 5 then (if 0 ≤ ((x1_64 + (Int32.ofInt (1)))).toInt ∧ ((x1_64 + (Int32.ofInt (1)))).toInt < 5 then (lb (up2 J4 (rf O a0 35) ((x1_64 + (Int32.ofInt (1)))).toInt.toNat ((J4 (rf O a0 35) ((x1_64 + (Int32.ofInt (1)))).toInt.toNat) + v4_115)) fun J5 => jn (fun (s0_166 : Int32) => if 0 ≤ (s0_166).toInt ∧ (s0_166).toInt < 5 then (if 0 ≤ (s0_166).toInt ∧ (s0_166).toInt < 5 then (lb (up2 J5 (rf O a0 35) (s0_166).toInt.toNat ((J5 (rf O a0 35) (s0_166).toInt.toNat) + (v2_98 - v4_115))) fun J6 => lb (x1_64 + Int32.ofInt (-1)) fun v1_174 => rec_64 (v1_174) J6) else none) else none) fun k_166 => if ((I0 (rf O a0 3) 8)).toInt ≤ ((x1_64 + (Int32.ofInt (2)))).toInt then (k_166 ((x1_64 + (Int32.ofInt (1))))) else (k_166 ((x1_64 + (Int32.ofInt (2)))))) else none) else none) else none) else none) else none) else none) else none)
def B_Mo_leads_2 (N : Nat) (O : WO) (a0 : Nat) (I0 : WI) (rec_2 : Int32 → WJ → Option (Int64 × WI × WJ)) (x1_2 : Int32) (J_2 : WJ) : Option (Int64 × WI × WJ) := if ((I0 (rf O a0 3) 8)).toInt ≤ (x1_2).toInt then (if ((I0 (rf O a0 17) 26)).toInt = 1 then (some ((0 : Int64), I0, J_2)) else (lb (((I0 (rf O a0 3) 8) - (Int32.ofInt (2)))) fun v1_63 => lp (B_Mo_leads_64 N O a0 I0) (fun _ _ => none) N (v1_63) J_2)) else (if 0 ≤ (x1_2).toInt ∧ (x1_2).toInt < 5 then (if 0 ≤ (x1_2).toInt ∧ (x1_2).toInt < 5 then (if 0 ≤ (x1_2).toInt ∧ (x1_2).toInt < 5 then (lb (up2 J_2 (rf O a0 35) (x1_2).toInt.toNat ((J_2 (rf O a0 35) (x1_2).toInt.toNat) + (J_2 (rf O a0 36) (x1_2).toInt.toNat))) fun J7 => if 0 ≤ (x1_2).toInt ∧ (x1_2).toInt < 5 then (lb (up2 J7 (rf O a0 36) (x1_2).toInt.toNat (0 : Int64)) fun J8 => lb (x1_2 + Int32.ofInt (1)) fun v1_35 => rec_2 (v1_35) J8) else none) else none) else none) else none)
def F_Mo_leads (N : Nat) (O : WO) (I0 : WI) (J0 : WJ) (a0 : Nat) : Option (Int64 × WI × WJ) := lp (B_Mo_leads_2 N O a0 I0) (fun _ _ => none) N ((Int32.ofInt (0))) J0
set_option maxHeartbeats 4000000 in
set_option maxRecDepth 100000 in
theorem f_Mo_leads {P : List Nat} {K : Nat → Nat} {N : Nat} {O : WO} {I0 : WI} {J0 : WJ} (hT : TR P K O) {a0 : Nat} (h0 : a0 ∈ P ∧ K a0 = 10) (hN3 : NN P K O a0 3 9) {r : Int64} {I' : WI} {J' : WJ} (h : F_Mo_leads N O I0 J0 a0 = some (r, I', J')) : Con yMo_leads bMo_leads 8 (some .long) ({ frames := 1, cells := 0, slots := 0, locals := 22 } : Room) P K I0 O J0 [.ref a0] (EPo (some (.long r)) I' J' P K O) := by
  refine Con.ofG mfMo_leads (Nat.le_of_ble_eq_true rfl) ?_
  intro X C E
  unfold F_Mo_leads at h
  refine g_iconst (v := Int32.ofInt (0)) C dMo_leads_0 (by decide) ?_
  refine g_istore_n (i := 1) C dMo_leads_1 rfl (by decide) ?_
  have lp_2 : ∀ (x1_2 : Int32) (J_2 : WJ), lp (B_Mo_leads_2 N O a0 I0) (fun _ _ => none) N x1_2 J_2 = some (r, I', J') → GG X 8 P K I0 O J_2 0 0 2 [(0, .ref a0), (1, .int x1_2)] [] := by
    refine x_lp (fun (rec_2 : Int32 → WJ → Option (Int64 × WI × WJ)) => ∀ (x1_2 : Int32) (J_2 : WJ), rec_2 x1_2 J_2 = some (r, I', J') → GG X 8 P K I0 O J_2 0 0 2 [(0, .ref a0), (1, .int x1_2)] []) (fun _ _ h => by cases h) (fun rec_2 hr_2 x1_2 J_2 h => ?_) N
    unfold B_Mo_leads_2 at h
    refine g_iload_n C dMo_leads_2 rfl ?_
    refine g_aload_n C dMo_leads_3 rfl ?_
    refine gt_getS C dMo_leads_4 fl_Mo_290 h0 hN3.1 ?_
    refine g_geti C dMo_leads_7 fl_Mo_191 hN3.2 ?_
    refine gt_icmp_ge 41 C dMo_leads_10 (by decide) rfl rfl (fun c_10 => ?_) (fun c_10 => ?_)
    · have h := x_pos c_10 h
      refine g_aload_n C dMo_leads_41 rfl ?_
      have t_42 := rf_ok hT h0 (show sp 10 17 = some 49 from rfl)
      refine x_getr C dMo_leads_42 fl_Mo_21 h0 hT (show sp 10 17 = some 49 from rfl) ?_
      refine g_bipush (v := Int32.ofInt (26)) C dMo_leads_45 (by decide) ?_
      refine x_ialdc (m := 37) (c := 26) C dMo_leads_47 t_42 (by decide) rfl rfl rfl (by decide) ?_
      refine g_iconst (v := Int32.ofInt (1)) C dMo_leads_48 (by decide) ?_
      refine gt_icmp_ne 54 C dMo_leads_49 (by decide) rfl (ofI (by decide)) (fun c_49 => ?_) (fun c_49 => ?_)
      · have h := x_neg c_49 h
        refine g_aload_n C dMo_leads_54 rfl ?_
        refine gt_getS C dMo_leads_55 fl_Mo_290 h0 hN3.1 ?_
        refine g_geti C dMo_leads_58 fl_Mo_191 hN3.2 ?_
        refine g_iconst (v := Int32.ofInt (2)) C dMo_leads_61 (by decide) ?_
        refine g_isub C dMo_leads_62 ?_
        refine x_istore_n (i := 1) C dMo_leads_63 rfl (by decide) h (fun v1_63 h => ?_)
        have lp_64 : ∀ (x1_64 : Int32) (J_64 : WJ), lp (B_Mo_leads_64 N O a0 I0) (fun _ _ => none) N x1_64 J_64 = some (r, I', J') → GG X 8 P K I0 O J_64 0 0 64 [(0, .ref a0), (1, .int x1_64)] [] := by
          refine x_lp (fun (rec_64 : Int32 → WJ → Option (Int64 × WI × WJ)) => ∀ (x1_64 : Int32) (J_64 : WJ), rec_64 x1_64 J_64 = some (r, I', J') → GG X 8 P K I0 O J_64 0 0 64 [(0, .ref a0), (1, .int x1_64)] []) (fun _ _ h => by cases h) (fun rec_64 hr_64 x1_64 J_64 h => ?_) N
          unfold B_Mo_leads_64 at h
          refine g_iload_n C dMo_leads_64 rfl ?_
          refine gt_if_lt 180 C dMo_leads_65 (by decide) rfl (fun c_65 => ?_) (fun c_65 => ?_)
          · have h := x_pos c_65 h
            refine g_lconst (v := 0) C dMo_leads_180 (by decide) ?_
            refine g_lstore_n (i := 1) C dMo_leads_181 rfl (by decide) ?_
            refine g_iconst (v := Int32.ofInt (0)) C dMo_leads_182 (by decide) ?_
            refine g_istore_n (i := 3) C dMo_leads_183 rfl (by decide) ?_
            have lp_184 : ∀ (x1_184 : Int64) (x3_184 : Int32) (J_184 : WJ), lp (B_Mo_leads_184 N O a0 I0) (fun _ _ _ => none) N x1_184 x3_184 J_184 = some (r, I', J') → GG X 8 P K I0 O J_184 0 0 184 [(0, .ref a0), (1, .long x1_184), (3, .int x3_184)] [] := by
              refine x_lp (fun (rec_184 : Int64 → Int32 → WJ → Option (Int64 × WI × WJ)) => ∀ (x1_184 : Int64) (x3_184 : Int32) (J_184 : WJ), rec_184 x1_184 x3_184 J_184 = some (r, I', J') → GG X 8 P K I0 O J_184 0 0 184 [(0, .ref a0), (1, .long x1_184), (3, .int x3_184)] []) (fun _ _ _ h => by cases h) (fun rec_184 hr_184 x1_184 x3_184 J_184 h => ?_) N
              unfold B_Mo_leads_184 at h
              refine g_iload_n C dMo_leads_184 rfl ?_
              refine g_aload_n C dMo_leads_185 rfl ?_
              refine gt_getS C dMo_leads_186 fl_Mo_290 h0 hN3.1 ?_
              refine g_geti C dMo_leads_189 fl_Mo_191 hN3.2 ?_
              refine gt_icmp_ge 277 C dMo_leads_192 (by decide) rfl rfl (fun c_192 => ?_) (fun c_192 => ?_)
              · have h := x_pos c_192 h
                refine g_lload_n C dMo_leads_277 rfl ?_
                exact x_lret2 C E dMo_leads_278 ⟨Nat.zero_le _, Nat.zero_le _⟩ h
              · have h := x_neg (Int.not_le.mpr c_192) h
                refine g_aload_n C dMo_leads_195 rfl ?_
                have t_196 := rf_ok hT h0 (show sp 10 35 = some 41 from rfl)
                refine x_getr C dMo_leads_196 fl_Mo_66 h0 hT (show sp 10 35 = some 41 from rfl) ?_
                refine g_iload_n C dMo_leads_199 rfl ?_
                obtain ⟨g_200, h⟩ := x_g h
                refine x_lald (m := 5) C dMo_leads_200 t_196 (by decide) rfl rfl g_200 ?_
                refine g_bipush (v := Int32.ofInt (20)) C dMo_leads_201 (by decide) ?_
                refine g_bipush (v := Int32.ofInt (10)) C dMo_leads_203 (by decide) ?_
                refine g_aload_n C dMo_leads_205 rfl ?_
                have t_206 := rf_ok hT h0 (show sp 10 17 = some 49 from rfl)
                refine x_getr C dMo_leads_206 fl_Mo_21 h0 hT (show sp 10 17 = some 49 from rfl) ?_
                refine g_bipush (v := Int32.ofInt (35)) C dMo_leads_209 (by decide) ?_
                refine x_ialdc (m := 37) (c := 35) C dMo_leads_211 t_206 (by decide) rfl rfl rfl (by decide) ?_
                refine g_imul C dMo_leads_212 ?_
                refine g_iadd C dMo_leads_213 ?_
                refine g_i2l C dMo_leads_214 ?_
                refine g_lmul C dMo_leads_215 ?_
                refine g_ldc2 (v := 100) C dMo_leads_216 k_Mo_386 ?_
                refine x_ldiv C dMo_leads_219 (by decide) ?_
                refine x_lstore C dMo_leads_220 (by decide) h (fun v4_220 h => ?_)
                refine g_lload C dMo_leads_222 rfl ?_
                refine g_aload_n C dMo_leads_224 rfl ?_
                refine g_iload_n C dMo_leads_225 rfl ?_
                refine g_aload_n C dMo_leads_226 rfl ?_
                have t_227 := rf_ok hT h0 (show sp 10 17 = some 49 from rfl)
                refine x_getr C dMo_leads_227 fl_Mo_21 h0 hT (show sp 10 17 = some 49 from rfl) ?_
                refine g_bipush (v := Int32.ofInt (25)) C dMo_leads_230 (by decide) ?_
                refine x_ialdc (m := 37) (c := 25) C dMo_leads_232 t_227 (by decide) rfl rfl rfl (by decide) ?_
                obtain ⟨z_233, e_233, h⟩ := bd1_some h
                refine x_callVi (av := fun ad => [.int x3_184, .int (I0 (rf O a0 17) 25)]) C dMo_leads_233 mfMo_passes mvMo_passes ln_Mo_320 h0 (by decide) rfl (f_Mo_passes hT h0 hN3 e_233) rfl rfl (Nat.le_of_ble_eq_true rfl) ⟨Nat.le_of_ble_eq_true rfl, Nat.le_of_ble_eq_true rfl⟩ ⟨rfl, rfl⟩ ⟨Nat.zero_le _, Nat.zero_le _⟩ ?_
                refine g_i2l C dMo_leads_236 ?_
                refine g_lmul C dMo_leads_237 ?_
                refine g_ldc2 (v := 100) C dMo_leads_238 k_Mo_386 ?_
                refine x_ldiv C dMo_leads_241 (by decide) ?_
                refine x_lstore C dMo_leads_242 (by decide) h (fun v6_242 h => ?_)
                refine g_aload_n C dMo_leads_244 rfl ?_
                have t_245 := rf_ok hT h0 (show sp 10 35 = some 41 from rfl)
                refine x_getr C dMo_leads_245 fl_Mo_66 h0 hT (show sp 10 35 = some 41 from rfl) ?_
                refine g_iload_n C dMo_leads_248 rfl ?_
                refine g_dup2 C dMo_leads_249 rfl rfl ?_
                obtain ⟨g_250, h⟩ := x_g h
                refine x_lald (m := 5) C dMo_leads_250 t_245 (by decide) rfl rfl g_250 ?_
                refine g_lload C dMo_leads_251 rfl ?_
                refine g_lsub C dMo_leads_253 ?_
                obtain ⟨g_254, h⟩ := x_g h
                refine x_last (m := 5) C dMo_leads_254 t_245 (by decide) rfl rfl g_254 h (fun J2 h => ?_)
                refine g_aload_n C dMo_leads_255 rfl ?_
                have t_256 := rf_ok hT h0 (show sp 10 36 = some 41 from rfl)
                refine x_getr C dMo_leads_256 fl_Mo_70 h0 hT (show sp 10 36 = some 41 from rfl) ?_
                refine g_iload_n C dMo_leads_259 rfl ?_
                refine g_lload C dMo_leads_260 rfl ?_
                refine g_lload C dMo_leads_262 rfl ?_
                refine g_lsub C dMo_leads_264 ?_
                obtain ⟨g_265, h⟩ := x_g h
                refine x_last (m := 5) C dMo_leads_265 t_256 (by decide) rfl rfl g_265 h (fun J3 h => ?_)
                refine g_lload_n C dMo_leads_266 rfl ?_
                refine g_lload C dMo_leads_267 rfl ?_
                refine g_ladd C dMo_leads_269 ?_
                refine x_lstore_n (i := 1) C dMo_leads_270 rfl (by decide) h (fun v1_270 h => ?_)
                refine x_iinc C dMo_leads_271 rfl (by decide) h (fun v3_271 h => ?_)
                refine g_goto 184 C dMo_leads_274 (by decide) ?_
                exact g_sub (hr_184 (v1_270) (v3_271) J3 h) ⟨rfl, rfl, rfl, trivial⟩
            exact g_sub (lp_184 ((0 : Int64)) ((Int32.ofInt (0))) J_64 h) ⟨rfl, rfl, rfl, trivial⟩
          · have h := x_neg (Int.not_lt.mpr c_65) h
            refine g_aload_n C dMo_leads_68 rfl ?_
            have t_69 := rf_ok hT h0 (show sp 10 35 = some 41 from rfl)
            refine x_getr C dMo_leads_69 fl_Mo_66 h0 hT (show sp 10 35 = some 41 from rfl) ?_
            refine g_iload_n C dMo_leads_72 rfl ?_
            obtain ⟨g_73, h⟩ := x_g h
            refine x_lald (m := 5) C dMo_leads_73 t_69 (by decide) rfl rfl g_73 ?_
            refine g_aload_n C dMo_leads_74 rfl ?_
            refine gt_getS C dMo_leads_75 fl_Mo_290 h0 hN3.1 ?_
            have t_78 := rf_ok hT hN3.2 (show sp 9 12 = some 43 from rfl)
            refine x_getr C dMo_leads_78 fl_Mo_267 hN3.2 hT (show sp 9 12 = some 43 from rfl) ?_
            refine g_iload_n C dMo_leads_81 rfl ?_
            obtain ⟨g_82, h⟩ := x_g h
            refine x_iald (m := 5) C dMo_leads_82 t_78 (by decide) rfl rfl g_82 ?_
            refine g_i2l C dMo_leads_83 ?_
            refine g_lmul C dMo_leads_84 ?_
            refine g_aload_n C dMo_leads_85 rfl ?_
            have t_86 := rf_ok hT h0 (show sp 10 17 = some 49 from rfl)
            refine x_getr C dMo_leads_86 fl_Mo_21 h0 hT (show sp 10 17 = some 49 from rfl) ?_
            refine g_bipush (v := Int32.ofInt (29)) C dMo_leads_89 (by decide) ?_
            refine x_ialdc (m := 37) (c := 29) C dMo_leads_91 t_86 (by decide) rfl rfl rfl (by decide) ?_
            refine g_i2l C dMo_leads_92 ?_
            refine g_lmul C dMo_leads_93 ?_
            refine g_ldc2 (v := 10000) C dMo_leads_94 k_Mo_384 ?_
            refine x_ldiv C dMo_leads_97 (by decide) ?_
            refine x_lstore_n (i := 2) C dMo_leads_98 rfl (by decide) h (fun v2_98 h => ?_)
            refine g_lload_n C dMo_leads_99 rfl ?_
            refine g_aload_n C dMo_leads_100 rfl ?_
            refine gt_getS C dMo_leads_101 fl_Mo_290 h0 hN3.1 ?_
            have t_104 := rf_ok hT hN3.2 (show sp 9 13 = some 43 from rfl)
            refine x_getr C dMo_leads_104 fl_Mo_270 hN3.2 hT (show sp 9 13 = some 43 from rfl) ?_
            refine g_iload_n C dMo_leads_107 rfl ?_
            obtain ⟨g_108, h⟩ := x_g h
            refine x_iald (m := 5) C dMo_leads_108 t_104 (by decide) rfl rfl g_108 ?_
            refine g_i2l C dMo_leads_109 ?_
            refine g_lmul C dMo_leads_110 ?_
            refine g_ldc2 (v := 100) C dMo_leads_111 k_Mo_386 ?_
            refine x_ldiv C dMo_leads_114 (by decide) ?_
            refine x_lstore C dMo_leads_115 (by decide) h (fun v4_115 h => ?_)
            refine g_aload_n C dMo_leads_117 rfl ?_
            have t_118 := rf_ok hT h0 (show sp 10 35 = some 41 from rfl)
            refine x_getr C dMo_leads_118 fl_Mo_66 h0 hT (show sp 10 35 = some 41 from rfl) ?_
            refine g_iload_n C dMo_leads_121 rfl ?_
            refine g_dup2 C dMo_leads_122 rfl rfl ?_
            obtain ⟨g_123, h⟩ := x_g h
            refine x_lald (m := 5) C dMo_leads_123 t_118 (by decide) rfl rfl g_123 ?_
            refine g_lload_n C dMo_leads_124 rfl ?_
            refine g_lsub C dMo_leads_125 ?_
            obtain ⟨g_126, h⟩ := x_g h
            refine x_last (m := 5) C dMo_leads_126 t_118 (by decide) rfl rfl g_126 h (fun J4 h => ?_)
            refine g_aload_n C dMo_leads_127 rfl ?_
            have t_128 := rf_ok hT h0 (show sp 10 35 = some 41 from rfl)
            refine x_getr C dMo_leads_128 fl_Mo_66 h0 hT (show sp 10 35 = some 41 from rfl) ?_
            refine g_iload_n C dMo_leads_131 rfl ?_
            refine g_iconst (v := Int32.ofInt (1)) C dMo_leads_132 (by decide) ?_
            refine g_iadd C dMo_leads_133 ?_
            refine g_dup2 C dMo_leads_134 rfl rfl ?_
            obtain ⟨g_135, h⟩ := x_g h
            refine x_lald (m := 5) C dMo_leads_135 t_128 (by decide) rfl rfl g_135 ?_
            refine g_lload C dMo_leads_136 rfl ?_
            refine g_ladd C dMo_leads_138 ?_
            obtain ⟨g_139, h⟩ := x_g h
            refine x_last (m := 5) C dMo_leads_139 t_128 (by decide) rfl rfl g_139 h (fun J5 h => ?_)
            refine g_aload_n C dMo_leads_140 rfl ?_
            have t_141 := rf_ok hT h0 (show sp 10 35 = some 41 from rfl)
            refine x_getr C dMo_leads_141 fl_Mo_66 h0 hT (show sp 10 35 = some 41 from rfl) ?_
            refine g_iload_n C dMo_leads_144 rfl ?_
            refine g_iconst (v := Int32.ofInt (2)) C dMo_leads_145 (by decide) ?_
            refine g_iadd C dMo_leads_146 ?_
            refine g_aload_n C dMo_leads_147 rfl ?_
            refine gt_getS C dMo_leads_148 fl_Mo_290 h0 hN3.1 ?_
            refine g_geti C dMo_leads_151 fl_Mo_191 hN3.2 ?_
            refine x_jn h (fun (k_166 : Int32 → Option (Int64 × WI × WJ)) => ∀ (s0_166 : Int32), k_166 s0_166 = some (r, I', J') → GG X 8 P K I0 O J5 0 0 166 [(0, .ref a0), (1, .int x1_64), (2, .long v2_98), (4, .long v4_115)] [.int s0_166, .ref (rf O a0 35)]) (fun s0_166 h => ?_) (fun k_166 hk_166 h => ?_)
            · skip
              refine g_dup2 C dMo_leads_166 rfl rfl ?_
              obtain ⟨g_167, h⟩ := x_g h
              refine x_lald (m := 5) C dMo_leads_167 t_141 (by decide) rfl rfl g_167 ?_
              refine g_lload_n C dMo_leads_168 rfl ?_
              refine g_lload C dMo_leads_169 rfl ?_
              refine g_lsub C dMo_leads_171 ?_
              refine g_ladd C dMo_leads_172 ?_
              obtain ⟨g_173, h⟩ := x_g h
              refine x_last (m := 5) C dMo_leads_173 t_141 (by decide) rfl rfl g_173 h (fun J6 h => ?_)
              refine x_iinc C dMo_leads_174 rfl (by decide) h (fun v1_174 h => ?_)
              refine g_goto 64 C dMo_leads_177 (by decide) ?_
              exact g_sub (hr_64 (v1_174) J6 h) ⟨rfl, rfl, trivial⟩
            refine gt_icmp_ge 163 C dMo_leads_154 (by decide) rfl rfl (fun c_154 => ?_) (fun c_154 => ?_)
            · have h := x_pos c_154 h
              refine g_iload_n C dMo_leads_163 rfl ?_
              refine g_iconst (v := Int32.ofInt (1)) C dMo_leads_164 (by decide) ?_
              refine g_iadd C dMo_leads_165 ?_
              exact g_sub (hk_166 ((x1_64 + (Int32.ofInt (1)))) h) ⟨rfl, rfl, rfl, rfl, trivial⟩
            · have h := x_neg (Int.not_le.mpr c_154) h
              refine g_iload_n C dMo_leads_157 rfl ?_
              refine g_iconst (v := Int32.ofInt (2)) C dMo_leads_158 (by decide) ?_
              refine g_iadd C dMo_leads_159 ?_
              refine g_goto 166 C dMo_leads_160 (by decide) ?_
              exact g_sub (hk_166 ((x1_64 + (Int32.ofInt (2)))) h) ⟨rfl, rfl, rfl, rfl, trivial⟩
        exact g_sub (lp_64 (v1_63) J_2 h) ⟨rfl, rfl, trivial⟩
      · have h := x_pos c_49 h
        refine g_lconst (v := 0) C dMo_leads_52 (by decide) ?_
        exact x_lret2 C E dMo_leads_53 ⟨Nat.zero_le _, Nat.zero_le _⟩ h
    · have h := x_neg (Int.not_le.mpr c_10) h
      refine g_aload_n C dMo_leads_13 rfl ?_
      have t_14 := rf_ok hT h0 (show sp 10 35 = some 41 from rfl)
      refine x_getr C dMo_leads_14 fl_Mo_66 h0 hT (show sp 10 35 = some 41 from rfl) ?_
      refine g_iload_n C dMo_leads_17 rfl ?_
      refine g_dup2 C dMo_leads_18 rfl rfl ?_
      obtain ⟨g_19, h⟩ := x_g h
      refine x_lald (m := 5) C dMo_leads_19 t_14 (by decide) rfl rfl g_19 ?_
      refine g_aload_n C dMo_leads_20 rfl ?_
      have t_21 := rf_ok hT h0 (show sp 10 36 = some 41 from rfl)
      refine x_getr C dMo_leads_21 fl_Mo_70 h0 hT (show sp 10 36 = some 41 from rfl) ?_
      refine g_iload_n C dMo_leads_24 rfl ?_
      obtain ⟨g_25, h⟩ := x_g h
      refine x_lald (m := 5) C dMo_leads_25 t_21 (by decide) rfl rfl g_25 ?_
      refine g_ladd C dMo_leads_26 ?_
      obtain ⟨g_27, h⟩ := x_g h
      refine x_last (m := 5) C dMo_leads_27 t_14 (by decide) rfl rfl g_27 h (fun J7 h => ?_)
      refine g_aload_n C dMo_leads_28 rfl ?_
      have t_29 := rf_ok hT h0 (show sp 10 36 = some 41 from rfl)
      refine x_getr C dMo_leads_29 fl_Mo_70 h0 hT (show sp 10 36 = some 41 from rfl) ?_
      refine g_iload_n C dMo_leads_32 rfl ?_
      refine g_lconst (v := 0) C dMo_leads_33 (by decide) ?_
      obtain ⟨g_34, h⟩ := x_g h
      refine x_last (m := 5) C dMo_leads_34 t_29 (by decide) rfl rfl g_34 h (fun J8 h => ?_)
      refine x_iinc C dMo_leads_35 rfl (by decide) h (fun v1_35 h => ?_)
      refine g_goto 2 C dMo_leads_38 (by decide) ?_
      exact g_sub (hr_2 (v1_35) J8 h) ⟨rfl, rfl, trivial⟩
  exact g_sub (lp_2 ((Int32.ofInt (0))) J0 h) ⟨rfl, rfl, trivial⟩
