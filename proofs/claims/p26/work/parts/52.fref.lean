def F_Mo_in (N : Nat) (O : WO) (I0 : WI) (J0 : WJ) (x0 : Int32) (x1 : Int32) (x2 : Int32) : Option (Int32) := if (x0).toInt < (x1).toInt then (some (Int32.ofInt (0))) else (if (x2).toInt < (x0).toInt then (some (Int32.ofInt (0))) else (some (Int32.ofInt (1))))
set_option maxHeartbeats 4000000 in
set_option maxRecDepth 100000 in
theorem f_Mo_in {P : List Nat} {K : Nat → Nat} {N : Nat} {O : WO} {I0 : WI} {J0 : WJ} (hT : TR P K O) {x0 : Int32} {x1 : Int32} {x2 : Int32} {r : Int32} (h : F_Mo_in N O I0 J0 x0 x1 x2 = some r) : Con yMo_in bMo_in 3 (some .boolean) ({ frames := 0, cells := 0, slots := 0, locals := 0 } : Room) P K I0 O J0 [.int x0, .int x1, .int x2] (EPo (some (.int r)) I0 J0 P K O) := by
  refine Con.ofG mfMo_in (Nat.le_of_ble_eq_true rfl) ?_
  intro X C E
  unfold F_Mo_in at h
  refine g_iload_n C dMo_in_0 rfl ?_
  refine g_iload_n C dMo_in_1 rfl ?_
  refine gt_icmp_lt 14 C dMo_in_2 (by decide) rfl rfl (fun c_2 => ?_) (fun c_2 => ?_)
  · have h := x_pos c_2 h
    refine g_iconst (v := Int32.ofInt (0)) C dMo_in_14 (by decide) ?_
    exact x_zret0 C E dMo_in_15 (by decide) ⟨Nat.zero_le _, Nat.zero_le _⟩ h
  · have h := x_neg (Int.not_lt.mpr c_2) h
    refine g_iload_n C dMo_in_5 rfl ?_
    refine g_iload_n C dMo_in_6 rfl ?_
    refine gt_icmp_gt 14 C dMo_in_7 (by decide) rfl rfl (fun c_7 => ?_) (fun c_7 => ?_)
    · have h := x_pos c_7 h
      refine g_iconst (v := Int32.ofInt (0)) C dMo_in_14 (by decide) ?_
      exact x_zret0 C E dMo_in_15 (by decide) ⟨Nat.zero_le _, Nat.zero_le _⟩ h
    · have h := x_neg (Int.not_lt.mpr c_7) h
      refine g_iconst (v := Int32.ofInt (1)) C dMo_in_10 (by decide) ?_
      refine g_goto 15 C dMo_in_11 (by decide) ?_
      exact x_zret0 C E dMo_in_15 (by decide) ⟨Nat.zero_le _, Nat.zero_le _⟩ h
def F_Mo_byteAt (N : Nat) (O : WO) (I0 : WI) (J0 : WJ) (a0 : Nat) (x1 : Int32) : Option (Int32) := if ((I0 a0 7)).toInt ≤ (x1).toInt then (some (Int32.ofInt (-1))) else (if 0 ≤ (x1).toInt ∧ (x1).toInt < 700 then (some ((I0 (rf O a0 5) (x1).toInt.toNat) &&& (Int32.ofInt (255)))) else none)
set_option maxHeartbeats 4000000 in
set_option maxRecDepth 100000 in
theorem f_Mo_byteAt {P : List Nat} {K : Nat → Nat} {N : Nat} {O : WO} {I0 : WI} {J0 : WJ} (hT : TR P K O) {a0 : Nat} (h0 : a0 ∈ P ∧ K a0 = 10) {x1 : Int32} {r : Int32} (h : F_Mo_byteAt N O I0 J0 a0 x1 = some r) : Con yMo_byteAt bMo_byteAt 2 (some .int) ({ frames := 0, cells := 0, slots := 0, locals := 0 } : Room) P K I0 O J0 [.ref a0, .int x1] (EPo (some (.int r)) I0 J0 P K O) := by
  refine Con.ofG mfMo_byteAt (Nat.le_of_ble_eq_true rfl) ?_
  intro X C E
  unfold F_Mo_byteAt at h
  refine g_iload_n C dMo_byteAt_0 rfl ?_
  refine g_aload_n C dMo_byteAt_1 rfl ?_
  refine g_geti C dMo_byteAt_2 fl_Mo_79 h0 ?_
  refine gt_icmp_ge 21 C dMo_byteAt_5 (by decide) rfl rfl (fun c_5 => ?_) (fun c_5 => ?_)
  · have h := x_pos c_5 h
    refine g_iconst (v := Int32.ofInt (-1)) C dMo_byteAt_21 (by decide) ?_
    exact x_iret0 C E dMo_byteAt_22 ⟨Nat.zero_le _, Nat.zero_le _⟩ h
  · have h := x_neg (Int.not_le.mpr c_5) h
    refine g_aload_n C dMo_byteAt_8 rfl ?_
    have t_9 := rf_ok hT h0 (show sp 10 5 = some 30 from rfl)
    refine x_getr C dMo_byteAt_9 fl_Mo_13 h0 hT (show sp 10 5 = some 30 from rfl) ?_
    refine g_iload_n C dMo_byteAt_12 rfl ?_
    obtain ⟨g_13, h⟩ := x_g h
    refine x_bald (m := 700) C dMo_byteAt_13 t_9 (by decide) rfl rfl g_13 ?_
    refine g_sipush (v := Int32.ofInt (255)) C dMo_byteAt_14 (by decide) ?_
    refine g_iand C dMo_byteAt_17 ?_
    refine g_goto 22 C dMo_byteAt_18 (by decide) ?_
    exact x_iret0 C E dMo_byteAt_22 ⟨Nat.zero_le _, Nat.zero_le _⟩ h
def F_Mo_isLetter (N : Nat) (O : WO) (I0 : WI) (J0 : WJ) (x0 : Int32) : Option (Int32) := if (x0).toInt < 97 then (some (Int32.ofInt (0))) else (if 122 < (x0).toInt then (some (Int32.ofInt (0))) else (some (Int32.ofInt (1))))
set_option maxHeartbeats 4000000 in
set_option maxRecDepth 100000 in
theorem f_Mo_isLetter {P : List Nat} {K : Nat → Nat} {N : Nat} {O : WO} {I0 : WI} {J0 : WJ} (hT : TR P K O) {x0 : Int32} {r : Int32} (h : F_Mo_isLetter N O I0 J0 x0 = some r) : Con yMo_isLetter bMo_isLetter 1 (some .boolean) ({ frames := 0, cells := 0, slots := 0, locals := 0 } : Room) P K I0 O J0 [.int x0] (EPo (some (.int r)) I0 J0 P K O) := by
  refine Con.ofG mfMo_isLetter (Nat.le_of_ble_eq_true rfl) ?_
  intro X C E
  unfold F_Mo_isLetter at h
  refine g_iload_n C dMo_isLetter_0 rfl ?_
  refine g_bipush (v := Int32.ofInt (97)) C dMo_isLetter_1 (by decide) ?_
  refine gt_icmp_lt 16 C dMo_isLetter_3 (by decide) rfl (ofI (by decide)) (fun c_3 => ?_) (fun c_3 => ?_)
  · have h := x_pos c_3 h
    refine g_iconst (v := Int32.ofInt (0)) C dMo_isLetter_16 (by decide) ?_
    exact x_zret0 C E dMo_isLetter_17 (by decide) ⟨Nat.zero_le _, Nat.zero_le _⟩ h
  · have h := x_neg (Int.not_lt.mpr c_3) h
    refine g_iload_n C dMo_isLetter_6 rfl ?_
    refine g_bipush (v := Int32.ofInt (122)) C dMo_isLetter_7 (by decide) ?_
    refine gt_icmp_gt 16 C dMo_isLetter_9 (by decide) rfl (ofI (by decide)) (fun c_9 => ?_) (fun c_9 => ?_)
    · have h := x_pos c_9 h
      refine g_iconst (v := Int32.ofInt (0)) C dMo_isLetter_16 (by decide) ?_
      exact x_zret0 C E dMo_isLetter_17 (by decide) ⟨Nat.zero_le _, Nat.zero_le _⟩ h
    · have h := x_neg (Int.not_lt.mpr c_9) h
      refine g_iconst (v := Int32.ofInt (1)) C dMo_isLetter_12 (by decide) ?_
      refine g_goto 17 C dMo_isLetter_13 (by decide) ?_
      exact x_zret0 C E dMo_isLetter_17 (by decide) ⟨Nat.zero_le _, Nat.zero_le _⟩ h
def F_Mo_isDigit (N : Nat) (O : WO) (I0 : WI) (J0 : WJ) (x0 : Int32) : Option (Int32) := if (x0).toInt < 48 then (some (Int32.ofInt (0))) else (if 57 < (x0).toInt then (some (Int32.ofInt (0))) else (some (Int32.ofInt (1))))
set_option maxHeartbeats 4000000 in
set_option maxRecDepth 100000 in
theorem f_Mo_isDigit {P : List Nat} {K : Nat → Nat} {N : Nat} {O : WO} {I0 : WI} {J0 : WJ} (hT : TR P K O) {x0 : Int32} {r : Int32} (h : F_Mo_isDigit N O I0 J0 x0 = some r) : Con yMo_isDigit bMo_isDigit 1 (some .boolean) ({ frames := 0, cells := 0, slots := 0, locals := 0 } : Room) P K I0 O J0 [.int x0] (EPo (some (.int r)) I0 J0 P K O) := by
  refine Con.ofG mfMo_isDigit (Nat.le_of_ble_eq_true rfl) ?_
  intro X C E
  unfold F_Mo_isDigit at h
  refine g_iload_n C dMo_isDigit_0 rfl ?_
  refine g_bipush (v := Int32.ofInt (48)) C dMo_isDigit_1 (by decide) ?_
  refine gt_icmp_lt 16 C dMo_isDigit_3 (by decide) rfl (ofI (by decide)) (fun c_3 => ?_) (fun c_3 => ?_)
  · have h := x_pos c_3 h
    refine g_iconst (v := Int32.ofInt (0)) C dMo_isDigit_16 (by decide) ?_
    exact x_zret0 C E dMo_isDigit_17 (by decide) ⟨Nat.zero_le _, Nat.zero_le _⟩ h
  · have h := x_neg (Int.not_lt.mpr c_3) h
    refine g_iload_n C dMo_isDigit_6 rfl ?_
    refine g_bipush (v := Int32.ofInt (57)) C dMo_isDigit_7 (by decide) ?_
    refine gt_icmp_gt 16 C dMo_isDigit_9 (by decide) rfl (ofI (by decide)) (fun c_9 => ?_) (fun c_9 => ?_)
    · have h := x_pos c_9 h
      refine g_iconst (v := Int32.ofInt (0)) C dMo_isDigit_16 (by decide) ?_
      exact x_zret0 C E dMo_isDigit_17 (by decide) ⟨Nat.zero_le _, Nat.zero_le _⟩ h
    · have h := x_neg (Int.not_lt.mpr c_9) h
      refine g_iconst (v := Int32.ofInt (1)) C dMo_isDigit_12 (by decide) ?_
      refine g_goto 17 C dMo_isDigit_13 (by decide) ?_
      exact x_zret0 C E dMo_isDigit_17 (by decide) ⟨Nat.zero_le _, Nat.zero_le _⟩ h
def B_Mo_wordOf_4 (N : Nat) (O : WO) (i0 : Nat) (rec_4 : Int64 → Int32 → Option (Int64)) (x1_4 : Int64) (x3_4 : Int32) : Option (Int64) := if ((sL i0)).toInt ≤ (x3_4).toInt then (some x1_4) else (if 0 ≤ (x3_4).toInt ∧ (x3_4).toInt < ((sLen.getD i0 0 : Nat) : Int) then (lb ((((32 : Int64) * x1_4) + ((((sC i0 (x3_4).toInt.toNat) - (Int32.ofInt (97))) + (Int32.ofInt (1)))).toInt64)) fun v1_29 => lb (x3_4 + Int32.ofInt (1)) fun v3_30 => rec_4 (v1_29) (v3_30)) else none)
def F_Mo_wordOf (N : Nat) (O : WO) (I0 : WI) (J0 : WJ) (i0 : Nat) : Option (Int64) := lp (B_Mo_wordOf_4 N O i0) (fun _ _ => none) N ((0 : Int64)) ((Int32.ofInt (0)))
set_option maxHeartbeats 4000000 in
set_option maxRecDepth 100000 in
theorem f_Mo_wordOf {P : List Nat} {K : Nat → Nat} {N : Nat} {O : WO} {I0 : WI} {J0 : WJ} (hT : TR P K O) {i0 : Nat} (h0 : i0 < 31) {r : Int64} (h : F_Mo_wordOf N O I0 J0 i0 = some r) : ConA yMo_wordOf bMo_wordOf 4 (some .long) ({ frames := 4, cells := 0, slots := 0, locals := 85 } : Room) P K I0 O J0 (fun ad => [.ref (ad.1 i0)]) (EPo (some (.long r)) I0 J0 P K O) := by
  refine ConA.ofG mfMo_wordOf (fun _ => Nat.le_of_ble_eq_true rfl) ?_
  intro X C E
  unfold F_Mo_wordOf at h
  refine g_lconst (v := 0) C dMo_wordOf_0 (by decide) ?_
  refine g_lstore_n (i := 1) C dMo_wordOf_1 rfl (by decide) ?_
  refine g_iconst (v := Int32.ofInt (0)) C dMo_wordOf_2 (by decide) ?_
  refine g_istore_n (i := 3) C dMo_wordOf_3 rfl (by decide) ?_
  have lp_4 : ∀ (x1_4 : Int64) (x3_4 : Int32), lp (B_Mo_wordOf_4 N O i0) (fun _ _ => none) N x1_4 x3_4 = some r → GG X 4 P K I0 O J0 0 0 4 [(0, .ref ((adX X).1 i0)), (1, .long x1_4), (3, .int x3_4)] [] := by
    refine x_lp (fun (rec_4 : Int64 → Int32 → Option (Int64)) => ∀ (x1_4 : Int64) (x3_4 : Int32), rec_4 x1_4 x3_4 = some r → GG X 4 P K I0 O J0 0 0 4 [(0, .ref ((adX X).1 i0)), (1, .long x1_4), (3, .int x3_4)] []) (fun _ _ h => by cases h) (fun rec_4 hr_4 x1_4 x3_4 h => ?_) N
    unfold B_Mo_wordOf_4 at h
    refine g_iload_n C dMo_wordOf_4 rfl ?_
    refine g_aload_n C dMo_wordOf_5 rfl ?_
    refine z_callW (av := fun _ => []) C dMo_wordOf_6 mfJS_length mvJS_length ln_Mo_82 h0 rfl (eJS_length h0) rfl rfl (Nat.le_of_ble_eq_true rfl) ⟨Nat.le_of_ble_eq_true rfl, Nat.le_of_ble_eq_true rfl⟩ ⟨rfl, rfl⟩ ⟨Nat.zero_le _, Nat.zero_le _⟩ (fun z_6 p_6 => ?_)
    obtain rfl := x_sL h0 p_6
    refine gt_icmp_ge 36 C dMo_wordOf_9 (by decide) rfl rfl (fun c_9 => ?_) (fun c_9 => ?_)
    · have h := x_pos c_9 h
      refine g_lload_n C dMo_wordOf_36 rfl ?_
      exact x_lret0 C E dMo_wordOf_37 ⟨Nat.zero_le _, Nat.zero_le _⟩ h
    · have h := x_neg (Int.not_le.mpr c_9) h
      refine g_ldc2 (v := 32) C dMo_wordOf_12 k_Mo_88 ?_
      refine g_lload_n C dMo_wordOf_15 rfl ?_
      refine g_lmul C dMo_wordOf_16 ?_
      refine g_aload_n C dMo_wordOf_17 rfl ?_
      refine g_iload_n C dMo_wordOf_18 rfl ?_
      obtain ⟨g_19, h⟩ := x_g h
      refine z_callW (av := fun _ => [.int x3_4]) C dMo_wordOf_19 mfJS_charAt mvJS_charAt ln_Mo_90 h0 rfl (eJS_charAt h0 g_19) rfl rfl (Nat.le_of_ble_eq_true rfl) ⟨Nat.le_of_ble_eq_true rfl, Nat.le_of_ble_eq_true rfl⟩ ⟨rfl, rfl⟩ ⟨Nat.zero_le _, Nat.zero_le _⟩ (fun z_19 p_19 => ?_)
      replace p_19 : z_19 = sC i0 (x3_4).toInt.toNat := p_19
      subst p_19
      refine g_bipush (v := Int32.ofInt (97)) C dMo_wordOf_22 (by decide) ?_
      refine g_isub C dMo_wordOf_24 ?_
      refine g_iconst (v := Int32.ofInt (1)) C dMo_wordOf_25 (by decide) ?_
      refine g_iadd C dMo_wordOf_26 ?_
      refine g_i2l C dMo_wordOf_27 ?_
      refine g_ladd C dMo_wordOf_28 ?_
      refine x_lstore_n (i := 1) C dMo_wordOf_29 rfl (by decide) h (fun v1_29 h => ?_)
      refine x_iinc C dMo_wordOf_30 rfl (by decide) h (fun v3_30 h => ?_)
      refine g_goto 4 C dMo_wordOf_33 (by decide) ?_
      exact g_sub (hr_4 (v1_29) (v3_30) h) ⟨rfl, rfl, rfl, trivial⟩
  exact g_sub (lp_4 ((0 : Int64)) ((Int32.ofInt (0))) h) ⟨rfl, rfl, rfl, trivial⟩
def B_Mo_next_178 (N : Nat) (O : WO) (a0 : Nat) (J0 : WJ) (rec_178 : Int32 → WI → Option (WI × WJ)) (x2_178 : Int32) (I_178 : WI) : Option (WI × WJ) := bd1 (F_Mo_byteAt N O I_178 J0 a0 (I_178 a0 8)) fun z_183 => bd1 (F_Mo_isDigit N O I_178 J0 z_183) fun z_186 => if (z_186).toInt = 0 then (if 3 < (x2_178).toInt then (some (I_178, J0)) else (lb (up2 I_178 a0 9 (Int32.ofInt (3))) fun I14 => some (I14, J0))) else (jn (fun (IJ_220 : WI) => lb (x2_178 + Int32.ofInt (1)) fun v2_220 => lb (up2 IJ_220 a0 8 ((IJ_220 a0 8) + (Int32.ofInt (1)))) fun I15 => rec_178 (v2_220) I15) fun k_220 => if 3 ≤ (x2_178).toInt then (k_220  I_178) else (bd1 (F_Mo_byteAt N O I_178 J0 a0 (I_178 a0 8)) fun z_210 => lb (up2 I_178 a0 12 ((((Int32.ofInt (10)) * (I_178 a0 12)) + z_210) - (Int32.ofInt (48)))) fun I17 => k_220  I17))
def B_Mo_next_89 (N : Nat) (O : WO) (a0 : Nat) (rec_89 : Int32 → WI → WJ → Option (WI × WJ)) (x2_89 : Int32) (I_89 : WI) (J_89 : WJ) : Option (WI × WJ) := bd1 (F_Mo_byteAt N O I_89 J_89 a0 (I_89 a0 8)) fun z_94 => bd1 (F_Mo_isLetter N O I_89 J_89 z_94) fun z_97 => if (z_97).toInt = 0 then (if 8 < (x2_89).toInt then (some (I_89, J_89)) else (lb (up2 I_89 a0 9 (Int32.ofInt (2))) fun I21 => some (I21, J_89))) else (jn (fun (JJ_136 : WJ) => lb (x2_89 + Int32.ofInt (1)) fun v2_136 => lb (up2 I_89 a0 8 ((I_89 a0 8) + (Int32.ofInt (1)))) fun I22 => rec_89 (v2_136) I22 JJ_136) fun k_136 => if 8 ≤ (x2_89).toInt then (k_136  J_89) else (bd1 (F_Mo_byteAt N O I_89 J_89 a0 (I_89 a0 8)) fun z_123 => lb (up2 J_89 a0 15 (((32 : Int64) * (J_89 a0 15)) + (((z_123 - (Int32.ofInt (97))) + (Int32.ofInt (1)))).toInt64)) fun J24 => k_136  J24))
def B_Mo_next_9 (N : Nat) (O : WO) (a0 : Nat) (J0 : WJ) (rec_9 : WI → Option (WI × WJ)) (I_9 : WI) : Option (WI × WJ) := bd1 (F_Mo_byteAt N O I_9 J0 a0 (I_9 a0 8)) fun z_14 => if (z_14).toInt = 32 then (lb (up2 I_9 a0 8 ((I_9 a0 8) + (Int32.ofInt (1)))) fun I26 => rec_9  I26) else (lb (up2 I_9 a0 10 (I_9 a0 8)) fun I2 => lb (up2 I2 a0 9 (Int32.ofInt (0))) fun I3 => lb (up2 I3 a0 11 (Int32.ofInt (0))) fun I4 => bd1 (F_Mo_byteAt N O I4 J0 a0 (I4 a0 8)) fun z_58 => if (z_58).toInt = (-1) then (lb (up2 I4 a0 9 (Int32.ofInt (1))) fun I25 => some (I25, J0)) else (bd1 (F_Mo_isLetter N O I4 J0 z_58) fun z_78 => if (z_78).toInt = 0 then (bd1 (F_Mo_isDigit N O I4 J0 z_58) fun z_167 => if (z_167).toInt = 0 then (jn (lb (up2 I4 a0 9 (Int32.ofInt (4))) fun I8 => lb (up2 I8 a0 11 z_58) fun I9 => lb (up2 I9 a0 8 ((I9 a0 8) + (Int32.ofInt (1)))) fun I10 => some (I10, J0)) fun k_261 => if (z_58).toInt = 59 then (k_261 ) else (if (z_58).toInt = 44 then (k_261 ) else (some (I4, J0)))) else (lb (up2 I4 a0 12 (Int32.ofInt (0))) fun I11 => lp (B_Mo_next_178 N O a0 J0) (fun _ _ => none) N ((Int32.ofInt (0))) I11)) else (lb (up2 J0 a0 15 (0 : Int64)) fun J18 => lp (B_Mo_next_89 N O a0) (fun _ _ _ => none) N ((Int32.ofInt (0))) I4 J18)))
def F_Mo_next (N : Nat) (O : WO) (I0 : WI) (J0 : WJ) (a0 : Nat) : Option (WI × WJ) := if ((I0 a0 9)).toInt = 5 then (some (I0, J0)) else (lp (B_Mo_next_9 N O a0 J0) (fun _ => none) N  I0)
set_option maxHeartbeats 4000000 in
set_option maxRecDepth 100000 in
theorem f_Mo_next {P : List Nat} {K : Nat → Nat} {N : Nat} {O : WO} {I0 : WI} {J0 : WJ} (hT : TR P K O) {a0 : Nat} (h0 : a0 ∈ P ∧ K a0 = 10) {I' : WI} {J' : WJ} (h : F_Mo_next N O I0 J0 a0 = some (I', J')) : Con yMo_next bMo_next 3 none ({ frames := 1, cells := 0, slots := 0, locals := 21 } : Room) P K I0 O J0 [.ref a0] (EPo none I' J' P K O) := by
  refine Con.ofG mfMo_next (Nat.le_of_ble_eq_true rfl) ?_
  intro X C E
  unfold F_Mo_next at h
  refine g_aload_n C dMo_next_0 rfl ?_
  refine g_geti C dMo_next_1 fl_Mo_94 h0 ?_
  refine g_iconst (v := Int32.ofInt (5)) C dMo_next_4 (by decide) ?_
  refine gt_icmp_ne 9 C dMo_next_5 (by decide) rfl (ofI (by decide)) (fun c_5 => ?_) (fun c_5 => ?_)
  · have h := x_neg c_5 h
    have lp_9 : ∀ (I_9 : WI), lp (B_Mo_next_9 N O a0 J0) (fun _ => none) N I_9 = some (I', J') → GG X 3 P K I_9 O J0 0 0 9 [(0, .ref a0)] [] := by
      refine x_lp (fun (rec_9 : WI → Option (WI × WJ)) => ∀ (I_9 : WI), rec_9 I_9 = some (I', J') → GG X 3 P K I_9 O J0 0 0 9 [(0, .ref a0)] []) (fun _ h => by cases h) (fun rec_9 hr_9 I_9 h => ?_) N
      unfold B_Mo_next_9 at h
      refine g_aload_n C dMo_next_9 rfl ?_
      refine g_aload_n C dMo_next_10 rfl ?_
      refine g_geti C dMo_next_11 fl_Mo_97 h0 ?_
      obtain ⟨z_14, e_14, h⟩ := bd1_some h
      refine x_callVi (av := fun ad => [.int (I_9 a0 8)]) C dMo_next_14 mfMo_byteAt mvMo_byteAt ln_Mo_100 h0 (by decide) rfl (f_Mo_byteAt hT h0 e_14) rfl rfl (Nat.le_of_ble_eq_true rfl) ⟨Nat.le_of_ble_eq_true rfl, Nat.le_of_ble_eq_true rfl⟩ ⟨rfl, rfl⟩ ⟨Nat.zero_le _, Nat.zero_le _⟩ ?_
      refine g_bipush (v := Int32.ofInt (32)) C dMo_next_17 (by decide) ?_
      refine gt_icmp_ne 35 C dMo_next_19 (by decide) rfl (ofI (by decide)) (fun c_19 => ?_) (fun c_19 => ?_)
      · have h := x_neg c_19 h
        refine g_aload_n C dMo_next_35 rfl ?_
        refine g_aload_n C dMo_next_36 rfl ?_
        refine g_geti C dMo_next_37 fl_Mo_97 h0 ?_
        refine x_puti C dMo_next_40 fl_Mo_104 h0 rfl (Or.inl rfl) h (fun I2 h => ?_)
        refine g_aload_n C dMo_next_43 rfl ?_
        refine g_iconst (v := Int32.ofInt (0)) C dMo_next_44 (by decide) ?_
        refine x_puti C dMo_next_45 fl_Mo_94 h0 rfl (Or.inl rfl) h (fun I3 h => ?_)
        refine g_aload_n C dMo_next_48 rfl ?_
        refine g_iconst (v := Int32.ofInt (0)) C dMo_next_49 (by decide) ?_
        refine x_puti C dMo_next_50 fl_Mo_107 h0 rfl (Or.inl rfl) h (fun I4 h => ?_)
        refine g_aload_n C dMo_next_53 rfl ?_
        refine g_aload_n C dMo_next_54 rfl ?_
        refine g_geti C dMo_next_55 fl_Mo_97 h0 ?_
        obtain ⟨z_58, e_58, h⟩ := bd1_some h
        refine x_callVi (av := fun ad => [.int (I4 a0 8)]) C dMo_next_58 mfMo_byteAt mvMo_byteAt ln_Mo_100 h0 (by decide) rfl (f_Mo_byteAt hT h0 e_58) rfl rfl (Nat.le_of_ble_eq_true rfl) ⟨Nat.le_of_ble_eq_true rfl, Nat.le_of_ble_eq_true rfl⟩ ⟨rfl, rfl⟩ ⟨Nat.zero_le _, Nat.zero_le _⟩ ?_
        refine g_istore_n (i := 1) C dMo_next_61 rfl (by decide) ?_
        refine g_iconst (v := Int32.ofInt (0)) C dMo_next_62 (by decide) ?_
        refine g_istore_n (i := 2) C dMo_next_63 rfl (by decide) ?_
        refine g_iload_n C dMo_next_64 rfl ?_
        refine g_iconst (v := Int32.ofInt (-1)) C dMo_next_65 (by decide) ?_
        refine gt_icmp_ne 77 C dMo_next_66 (by decide) rfl (ofI (by decide)) (fun c_66 => ?_) (fun c_66 => ?_)
        · have h := x_neg c_66 h
          refine g_iload_n C dMo_next_77 rfl ?_
          obtain ⟨z_78, e_78, h⟩ := bd1_some h
          refine x_callSi (av := fun ad => [.int z_58]) C dMo_next_78 mfMo_isLetter msMo_isLetter ln_Mo_110 (f_Mo_isLetter hT  e_78) rfl rfl (Nat.le_of_ble_eq_true rfl) ⟨Nat.le_of_ble_eq_true rfl, Nat.le_of_ble_eq_true rfl⟩ ⟨rfl, rfl⟩ ⟨Nat.zero_le _, Nat.zero_le _⟩ ?_
          refine gt_if_eq 166 C dMo_next_81 (by decide) rfl (fun c_81 => ?_) (fun c_81 => ?_)
          · have h := x_pos c_81 h
            refine g_iload_n C dMo_next_166 rfl ?_
            obtain ⟨z_167, e_167, h⟩ := bd1_some h
            refine x_callSi (av := fun ad => [.int z_58]) C dMo_next_167 mfMo_isDigit msMo_isDigit ln_Mo_118 (f_Mo_isDigit hT  e_167) rfl rfl (Nat.le_of_ble_eq_true rfl) ⟨Nat.le_of_ble_eq_true rfl, Nat.le_of_ble_eq_true rfl⟩ ⟨rfl, rfl⟩ ⟨Nat.zero_le _, Nat.zero_le _⟩ ?_
            refine gt_if_eq 249 C dMo_next_170 (by decide) rfl (fun c_170 => ?_) (fun c_170 => ?_)
            · have h := x_pos c_170 h
              refine g_iload_n C dMo_next_249 rfl ?_
              refine g_bipush (v := Int32.ofInt (59)) C dMo_next_250 (by decide) ?_
              refine x_jn h (fun (k_261 : Option (WI × WJ)) => k_261  = some (I', J') → GG X 3 P K I4 O J0 0 0 261 [(0, .ref a0), (1, .int z_58), (2, .int (Int32.ofInt (0)))] []) (fun  h => ?_) (fun k_261 hk_261 h => ?_)
              · skip
                refine g_aload_n C dMo_next_261 rfl ?_
                refine g_iconst (v := Int32.ofInt (4)) C dMo_next_262 (by decide) ?_
                refine x_puti C dMo_next_263 fl_Mo_94 h0 rfl (Or.inl rfl) h (fun I8 h => ?_)
                refine g_aload_n C dMo_next_266 rfl ?_
                refine g_iload_n C dMo_next_267 rfl ?_
                refine x_puti C dMo_next_268 fl_Mo_107 h0 rfl (Or.inl rfl) h (fun I9 h => ?_)
                refine g_aload_n C dMo_next_271 rfl ?_
                refine g_dup C dMo_next_272 rfl ?_
                refine g_geti C dMo_next_273 fl_Mo_97 h0 ?_
                refine g_iconst (v := Int32.ofInt (1)) C dMo_next_276 (by decide) ?_
                refine g_iadd C dMo_next_277 ?_
                refine x_puti C dMo_next_278 fl_Mo_97 h0 rfl (Or.inl rfl) h (fun I10 h => ?_)
                exact x_vret2 C E dMo_next_281 ⟨Nat.zero_le _, Nat.zero_le _⟩ h
              refine gt_icmp_eq 261 C dMo_next_252 (by decide) rfl (ofI (by decide)) (fun c_252 => ?_) (fun c_252 => ?_)
              · have h := x_pos c_252 h
                exact g_sub (hk_261  h) ⟨rfl, rfl, rfl, trivial⟩
              · have h := x_neg c_252 h
                refine g_iload_n C dMo_next_255 rfl ?_
                refine g_bipush (v := Int32.ofInt (44)) C dMo_next_256 (by decide) ?_
                refine gt_icmp_ne 281 C dMo_next_258 (by decide) rfl (ofI (by decide)) (fun c_258 => ?_) (fun c_258 => ?_)
                · have h := x_neg c_258 h
                  exact x_vret2 C E dMo_next_281 ⟨Nat.zero_le _, Nat.zero_le _⟩ h
                · have h := x_pos c_258 h
                  exact g_sub (hk_261  h) ⟨rfl, rfl, rfl, trivial⟩
            · have h := x_neg c_170 h
              refine g_aload_n C dMo_next_173 rfl ?_
              refine g_iconst (v := Int32.ofInt (0)) C dMo_next_174 (by decide) ?_
              refine x_puti C dMo_next_175 fl_Mo_121 h0 rfl (Or.inl rfl) h (fun I11 h => ?_)
              have lp_178 : ∀ (x2_178 : Int32) (I_178 : WI), lp (B_Mo_next_178 N O a0 J0) (fun _ _ => none) N x2_178 I_178 = some (I', J') → GG X 3 P K I_178 O J0 0 0 178 [(0, .ref a0), (1, .int z_58), (2, .int x2_178)] [] := by
                refine x_lp (fun (rec_178 : Int32 → WI → Option (WI × WJ)) => ∀ (x2_178 : Int32) (I_178 : WI), rec_178 x2_178 I_178 = some (I', J') → GG X 3 P K I_178 O J0 0 0 178 [(0, .ref a0), (1, .int z_58), (2, .int x2_178)] []) (fun _ _ h => by cases h) (fun rec_178 hr_178 x2_178 I_178 h => ?_) N
                unfold B_Mo_next_178 at h
                refine g_aload_n C dMo_next_178 rfl ?_
                refine g_aload_n C dMo_next_179 rfl ?_
                refine g_geti C dMo_next_180 fl_Mo_97 h0 ?_
                obtain ⟨z_183, e_183, h⟩ := bd1_some h
                refine x_callVi (av := fun ad => [.int (I_178 a0 8)]) C dMo_next_183 mfMo_byteAt mvMo_byteAt ln_Mo_100 h0 (by decide) rfl (f_Mo_byteAt hT h0 e_183) rfl rfl (Nat.le_of_ble_eq_true rfl) ⟨Nat.le_of_ble_eq_true rfl, Nat.le_of_ble_eq_true rfl⟩ ⟨rfl, rfl⟩ ⟨Nat.zero_le _, Nat.zero_le _⟩ ?_
                obtain ⟨z_186, e_186, h⟩ := bd1_some h
                refine x_callSi (av := fun ad => [.int z_183]) C dMo_next_186 mfMo_isDigit msMo_isDigit ln_Mo_118 (f_Mo_isDigit hT  e_186) rfl rfl (Nat.le_of_ble_eq_true rfl) ⟨Nat.le_of_ble_eq_true rfl, Nat.le_of_ble_eq_true rfl⟩ ⟨rfl, rfl⟩ ⟨Nat.zero_le _, Nat.zero_le _⟩ ?_
                refine gt_if_eq 236 C dMo_next_189 (by decide) rfl (fun c_189 => ?_) (fun c_189 => ?_)
                · have h := x_pos c_189 h
                  refine g_iload_n C dMo_next_236 rfl ?_
                  refine g_iconst (v := Int32.ofInt (3)) C dMo_next_237 (by decide) ?_
                  refine gt_icmp_gt 281 C dMo_next_238 (by decide) rfl (ofI (by decide)) (fun c_238 => ?_) (fun c_238 => ?_)
                  · have h := x_pos c_238 h
                    exact x_vret2 C E dMo_next_281 ⟨Nat.zero_le _, Nat.zero_le _⟩ h
                  · have h := x_neg (Int.not_lt.mpr c_238) h
                    refine g_aload_n C dMo_next_241 rfl ?_
                    refine g_iconst (v := Int32.ofInt (3)) C dMo_next_242 (by decide) ?_
                    refine x_puti C dMo_next_243 fl_Mo_94 h0 rfl (Or.inl rfl) h (fun I14 h => ?_)
                    refine g_goto 281 C dMo_next_246 (by decide) ?_
                    exact x_vret2 C E dMo_next_281 ⟨Nat.zero_le _, Nat.zero_le _⟩ h
                · have h := x_neg c_189 h
                  refine g_iload_n C dMo_next_192 rfl ?_
                  refine g_iconst (v := Int32.ofInt (3)) C dMo_next_193 (by decide) ?_
                  refine x_jn h (fun (k_220 : WI → Option (WI × WJ)) => ∀ (IJ_220 : WI), k_220 IJ_220 = some (I', J') → GG X 3 P K IJ_220 O J0 0 0 220 [(0, .ref a0), (1, .int z_58), (2, .int x2_178)] []) (fun IJ_220 h => ?_) (fun k_220 hk_220 h => ?_)
                  · skip
                    refine x_iinc C dMo_next_220 rfl (by decide) h (fun v2_220 h => ?_)
                    refine g_aload_n C dMo_next_223 rfl ?_
                    refine g_dup C dMo_next_224 rfl ?_
                    refine g_geti C dMo_next_225 fl_Mo_97 h0 ?_
                    refine g_iconst (v := Int32.ofInt (1)) C dMo_next_228 (by decide) ?_
                    refine g_iadd C dMo_next_229 ?_
                    refine x_puti C dMo_next_230 fl_Mo_97 h0 rfl (Or.inl rfl) h (fun I15 h => ?_)
                    refine g_goto 178 C dMo_next_233 (by decide) ?_
                    exact g_sub (hr_178 (v2_220) I15 h) ⟨rfl, rfl, rfl, trivial⟩
                  refine gt_icmp_ge 220 C dMo_next_194 (by decide) rfl (ofI (by decide)) (fun c_194 => ?_) (fun c_194 => ?_)
                  · have h := x_pos c_194 h
                    exact g_sub (hk_220  I_178 h) ⟨rfl, rfl, rfl, trivial⟩
                  · have h := x_neg (Int.not_le.mpr c_194) h
                    refine g_aload_n C dMo_next_197 rfl ?_
                    refine g_bipush (v := Int32.ofInt (10)) C dMo_next_198 (by decide) ?_
                    refine g_aload_n C dMo_next_200 rfl ?_
                    refine g_geti C dMo_next_201 fl_Mo_121 h0 ?_
                    refine g_imul C dMo_next_204 ?_
                    refine g_aload_n C dMo_next_205 rfl ?_
                    refine g_aload_n C dMo_next_206 rfl ?_
                    refine g_geti C dMo_next_207 fl_Mo_97 h0 ?_
                    obtain ⟨z_210, e_210, h⟩ := bd1_some h
                    refine x_callVi (av := fun ad => [.int (I_178 a0 8)]) C dMo_next_210 mfMo_byteAt mvMo_byteAt ln_Mo_100 h0 (by decide) rfl (f_Mo_byteAt hT h0 e_210) rfl rfl (Nat.le_of_ble_eq_true rfl) ⟨Nat.le_of_ble_eq_true rfl, Nat.le_of_ble_eq_true rfl⟩ ⟨rfl, rfl⟩ ⟨Nat.zero_le _, Nat.zero_le _⟩ ?_
                    refine g_iadd C dMo_next_213 ?_
                    refine g_bipush (v := Int32.ofInt (48)) C dMo_next_214 (by decide) ?_
                    refine g_isub C dMo_next_216 ?_
                    refine x_puti C dMo_next_217 fl_Mo_121 h0 rfl (Or.inl rfl) h (fun I17 h => ?_)
                    exact g_sub (hk_220  I17 h) ⟨rfl, rfl, rfl, trivial⟩
              exact g_sub (lp_178 ((Int32.ofInt (0))) I11 h) ⟨rfl, rfl, rfl, trivial⟩
          · have h := x_neg c_81 h
            refine g_aload_n C dMo_next_84 rfl ?_
            refine g_lconst (v := 0) C dMo_next_85 (by decide) ?_
            refine x_putl C dMo_next_86 fl_Mo_114 h0 rfl rfl h (fun J18 h => ?_)
            have lp_89 : ∀ (x2_89 : Int32) (I_89 : WI) (J_89 : WJ), lp (B_Mo_next_89 N O a0) (fun _ _ _ => none) N x2_89 I_89 J_89 = some (I', J') → GG X 3 P K I_89 O J_89 0 0 89 [(0, .ref a0), (1, .int z_58), (2, .int x2_89)] [] := by
              refine x_lp (fun (rec_89 : Int32 → WI → WJ → Option (WI × WJ)) => ∀ (x2_89 : Int32) (I_89 : WI) (J_89 : WJ), rec_89 x2_89 I_89 J_89 = some (I', J') → GG X 3 P K I_89 O J_89 0 0 89 [(0, .ref a0), (1, .int z_58), (2, .int x2_89)] []) (fun _ _ _ h => by cases h) (fun rec_89 hr_89 x2_89 I_89 J_89 h => ?_) N
              unfold B_Mo_next_89 at h
              refine g_aload_n C dMo_next_89 rfl ?_
              refine g_aload_n C dMo_next_90 rfl ?_
              refine g_geti C dMo_next_91 fl_Mo_97 h0 ?_
              obtain ⟨z_94, e_94, h⟩ := bd1_some h
              refine x_callVi (av := fun ad => [.int (I_89 a0 8)]) C dMo_next_94 mfMo_byteAt mvMo_byteAt ln_Mo_100 h0 (by decide) rfl (f_Mo_byteAt hT h0 e_94) rfl rfl (Nat.le_of_ble_eq_true rfl) ⟨Nat.le_of_ble_eq_true rfl, Nat.le_of_ble_eq_true rfl⟩ ⟨rfl, rfl⟩ ⟨Nat.zero_le _, Nat.zero_le _⟩ ?_
              obtain ⟨z_97, e_97, h⟩ := bd1_some h
              refine x_callSi (av := fun ad => [.int z_94]) C dMo_next_97 mfMo_isLetter msMo_isLetter ln_Mo_110 (f_Mo_isLetter hT  e_97) rfl rfl (Nat.le_of_ble_eq_true rfl) ⟨Nat.le_of_ble_eq_true rfl, Nat.le_of_ble_eq_true rfl⟩ ⟨rfl, rfl⟩ ⟨Nat.zero_le _, Nat.zero_le _⟩ ?_
              refine gt_if_eq 152 C dMo_next_100 (by decide) rfl (fun c_100 => ?_) (fun c_100 => ?_)
              · have h := x_pos c_100 h
                refine g_iload_n C dMo_next_152 rfl ?_
                refine g_bipush (v := Int32.ofInt (8)) C dMo_next_153 (by decide) ?_
                refine gt_icmp_gt 281 C dMo_next_155 (by decide) rfl (ofI (by decide)) (fun c_155 => ?_) (fun c_155 => ?_)
                · have h := x_pos c_155 h
                  exact x_vret2 C E dMo_next_281 ⟨Nat.zero_le _, Nat.zero_le _⟩ h
                · have h := x_neg (Int.not_lt.mpr c_155) h
                  refine g_aload_n C dMo_next_158 rfl ?_
                  refine g_iconst (v := Int32.ofInt (2)) C dMo_next_159 (by decide) ?_
                  refine x_puti C dMo_next_160 fl_Mo_94 h0 rfl (Or.inl rfl) h (fun I21 h => ?_)
                  refine g_goto 281 C dMo_next_163 (by decide) ?_
                  exact x_vret2 C E dMo_next_281 ⟨Nat.zero_le _, Nat.zero_le _⟩ h
              · have h := x_neg c_100 h
                refine g_iload_n C dMo_next_103 rfl ?_
                refine g_bipush (v := Int32.ofInt (8)) C dMo_next_104 (by decide) ?_
                refine x_jn h (fun (k_136 : WJ → Option (WI × WJ)) => ∀ (JJ_136 : WJ), k_136 JJ_136 = some (I', J') → GG X 3 P K I_89 O JJ_136 0 0 136 [(0, .ref a0), (1, .int z_58), (2, .int x2_89)] []) (fun JJ_136 h => ?_) (fun k_136 hk_136 h => ?_)
                · skip
                  refine x_iinc C dMo_next_136 rfl (by decide) h (fun v2_136 h => ?_)
                  refine g_aload_n C dMo_next_139 rfl ?_
                  refine g_dup C dMo_next_140 rfl ?_
                  refine g_geti C dMo_next_141 fl_Mo_97 h0 ?_
                  refine g_iconst (v := Int32.ofInt (1)) C dMo_next_144 (by decide) ?_
                  refine g_iadd C dMo_next_145 ?_
                  refine x_puti C dMo_next_146 fl_Mo_97 h0 rfl (Or.inl rfl) h (fun I22 h => ?_)
                  refine g_goto 89 C dMo_next_149 (by decide) ?_
                  exact g_sub (hr_89 (v2_136) I22 JJ_136 h) ⟨rfl, rfl, rfl, trivial⟩
                refine gt_icmp_ge 136 C dMo_next_106 (by decide) rfl (ofI (by decide)) (fun c_106 => ?_) (fun c_106 => ?_)
                · have h := x_pos c_106 h
                  exact g_sub (hk_136  J_89 h) ⟨rfl, rfl, rfl, trivial⟩
                · have h := x_neg (Int.not_le.mpr c_106) h
                  refine g_aload_n C dMo_next_109 rfl ?_
                  refine g_ldc2 (v := 32) C dMo_next_110 k_Mo_88 ?_
                  refine g_aload_n C dMo_next_113 rfl ?_
                  refine g_getl C dMo_next_114 fl_Mo_114 h0 ?_
                  refine g_lmul C dMo_next_117 ?_
                  refine g_aload_n C dMo_next_118 rfl ?_
                  refine g_aload_n C dMo_next_119 rfl ?_
                  refine g_geti C dMo_next_120 fl_Mo_97 h0 ?_
                  obtain ⟨z_123, e_123, h⟩ := bd1_some h
                  refine x_callVi (av := fun ad => [.int (I_89 a0 8)]) C dMo_next_123 mfMo_byteAt mvMo_byteAt ln_Mo_100 h0 (by decide) rfl (f_Mo_byteAt hT h0 e_123) rfl rfl (Nat.le_of_ble_eq_true rfl) ⟨Nat.le_of_ble_eq_true rfl, Nat.le_of_ble_eq_true rfl⟩ ⟨rfl, rfl⟩ ⟨Nat.zero_le _, Nat.zero_le _⟩ ?_
                  refine g_bipush (v := Int32.ofInt (97)) C dMo_next_126 (by decide) ?_
                  refine g_isub C dMo_next_128 ?_
                  refine g_iconst (v := Int32.ofInt (1)) C dMo_next_129 (by decide) ?_
                  refine g_iadd C dMo_next_130 ?_
                  refine g_i2l C dMo_next_131 ?_
                  refine g_ladd C dMo_next_132 ?_
                  refine x_putl C dMo_next_133 fl_Mo_114 h0 rfl rfl h (fun J24 h => ?_)
                  exact g_sub (hk_136  J24 h) ⟨rfl, rfl, rfl, trivial⟩
            exact g_sub (lp_89 ((Int32.ofInt (0))) I4 J18 h) ⟨rfl, rfl, rfl, trivial⟩
        · have h := x_pos c_66 h
          refine g_aload_n C dMo_next_69 rfl ?_
          refine g_iconst (v := Int32.ofInt (1)) C dMo_next_70 (by decide) ?_
          refine x_puti C dMo_next_71 fl_Mo_94 h0 rfl (Or.inl rfl) h (fun I25 h => ?_)
          refine g_goto 281 C dMo_next_74 (by decide) ?_
          exact x_vret2 C E dMo_next_281 ⟨Nat.zero_le _, Nat.zero_le _⟩ h
      · have h := x_pos c_19 h
        refine g_aload_n C dMo_next_22 rfl ?_
        refine g_dup C dMo_next_23 rfl ?_
        refine g_geti C dMo_next_24 fl_Mo_97 h0 ?_
        refine g_iconst (v := Int32.ofInt (1)) C dMo_next_27 (by decide) ?_
        refine g_iadd C dMo_next_28 ?_
        refine x_puti C dMo_next_29 fl_Mo_97 h0 rfl (Or.inl rfl) h (fun I26 h => ?_)
        refine g_goto 9 C dMo_next_32 (by decide) ?_
        exact g_sub (hr_9  I26 h) ⟨rfl, trivial⟩
    exact g_sub (lp_9  I0 h) ⟨rfl, trivial⟩
  · have h := x_pos c_5 h
    exact x_vret2 C E dMo_next_8 ⟨Nat.zero_le _, Nat.zero_le _⟩ h
def F_Mo_wrongHere (N : Nat) (O : WO) (I0 : WI) (J0 : WJ) (a0 : Nat) (x1 : Int32) (x2 : Int32) : Option (WI) := if ((I0 a0 9)).toInt = 5 then (some I0) else (lb (up2 I0 a0 13 x1) fun I1 => lb (up2 I1 a0 14 x2) fun I2 => lb (up2 I2 a0 9 (Int32.ofInt (5))) fun I3 => some I3)
set_option maxHeartbeats 4000000 in
set_option maxRecDepth 100000 in
theorem f_Mo_wrongHere {P : List Nat} {K : Nat → Nat} {N : Nat} {O : WO} {I0 : WI} {J0 : WJ} (hT : TR P K O) {a0 : Nat} (h0 : a0 ∈ P ∧ K a0 = 10) {x1 : Int32} {x2 : Int32} {I' : WI} (h : F_Mo_wrongHere N O I0 J0 a0 x1 x2 = some I') : Con yMo_wrongHere bMo_wrongHere 3 none ({ frames := 0, cells := 0, slots := 0, locals := 0 } : Room) P K I0 O J0 [.ref a0, .int x1, .int x2] (EPo none I' J0 P K O) := by
  refine Con.ofG mfMo_wrongHere (Nat.le_of_ble_eq_true rfl) ?_
  intro X C E
  unfold F_Mo_wrongHere at h
  refine g_aload_n C dMo_wrongHere_0 rfl ?_
  refine g_geti C dMo_wrongHere_1 fl_Mo_94 h0 ?_
  refine g_iconst (v := Int32.ofInt (5)) C dMo_wrongHere_4 (by decide) ?_
  refine gt_icmp_ne 9 C dMo_wrongHere_5 (by decide) rfl (ofI (by decide)) (fun c_5 => ?_) (fun c_5 => ?_)
  · have h := x_neg c_5 h
    refine g_aload_n C dMo_wrongHere_9 rfl ?_
    refine g_iload_n C dMo_wrongHere_10 rfl ?_
    refine x_puti C dMo_wrongHere_11 fl_Mo_128 h0 rfl (Or.inl rfl) h (fun I1 h => ?_)
    refine g_aload_n C dMo_wrongHere_14 rfl ?_
    refine g_iload_n C dMo_wrongHere_15 rfl ?_
    refine x_puti C dMo_wrongHere_16 fl_Mo_131 h0 rfl (Or.inl rfl) h (fun I2 h => ?_)
    refine g_aload_n C dMo_wrongHere_19 rfl ?_
    refine g_iconst (v := Int32.ofInt (5)) C dMo_wrongHere_20 (by decide) ?_
    refine x_puti C dMo_wrongHere_21 fl_Mo_94 h0 rfl (Or.inl rfl) h (fun I3 h => ?_)
    exact x_vret1 C E dMo_wrongHere_24 ⟨Nat.zero_le _, Nat.zero_le _⟩ h
  · have h := x_pos c_5 h
    exact x_vret1 C E dMo_wrongHere_8 ⟨Nat.zero_le _, Nat.zero_le _⟩ h
def F_Mo_wrong (N : Nat) (O : WO) (I0 : WI) (J0 : WJ) (a0 : Nat) (x1 : Int32) : Option (WI) := bd1 (F_Mo_wrongHere N O I0 J0 a0 x1 (I0 a0 10)) fun I1 => some I1
set_option maxHeartbeats 4000000 in
set_option maxRecDepth 100000 in
theorem f_Mo_wrong {P : List Nat} {K : Nat → Nat} {N : Nat} {O : WO} {I0 : WI} {J0 : WJ} (hT : TR P K O) {a0 : Nat} (h0 : a0 ∈ P ∧ K a0 = 10) {x1 : Int32} {I' : WI} (h : F_Mo_wrong N O I0 J0 a0 x1 = some I') : Con yMo_wrong bMo_wrong 2 none ({ frames := 1, cells := 0, slots := 0, locals := 22 } : Room) P K I0 O J0 [.ref a0, .int x1] (EPo none I' J0 P K O) := by
  refine Con.ofG mfMo_wrong (Nat.le_of_ble_eq_true rfl) ?_
  intro X C E
  unfold F_Mo_wrong at h
  refine g_aload_n C dMo_wrong_0 rfl ?_
  refine g_iload_n C dMo_wrong_1 rfl ?_
  refine g_aload_n C dMo_wrong_2 rfl ?_
  refine g_geti C dMo_wrong_3 fl_Mo_104 h0 ?_
  obtain ⟨I1, e_6, h⟩ := bd1_some h
  refine x_callVv (av := fun ad => [.int x1, .int (I0 a0 10)]) C dMo_wrong_6 mfMo_wrongHere mvMo_wrongHere ln_Mo_124 h0 (by decide) rfl (f_Mo_wrongHere hT h0 e_6) rfl rfl (Nat.le_of_ble_eq_true rfl) ⟨Nat.le_of_ble_eq_true rfl, Nat.le_of_ble_eq_true rfl⟩ ⟨rfl, rfl⟩ ⟨Nat.zero_le _, Nat.zero_le _⟩ ?_
  exact x_vret1 C E dMo_wrong_9 ⟨Nat.zero_le _, Nat.zero_le _⟩ h
def F_Mo_isWord (N : Nat) (O : WO) (I0 : WI) (J0 : WJ) (a0 : Nat) (i1 : Nat) : Option (Int32) := if ((I0 a0 9)).toInt = 2 then (bd1 (F_Mo_wordOf N O I0 J0 i1) fun z_13 => if ((lg_cmp (J0 a0 15) z_13)).toInt = 0 then (some (Int32.ofInt (1))) else (some (Int32.ofInt (0)))) else (some (Int32.ofInt (0)))
set_option maxHeartbeats 4000000 in
set_option maxRecDepth 100000 in
theorem f_Mo_isWord {P : List Nat} {K : Nat → Nat} {N : Nat} {O : WO} {I0 : WI} {J0 : WJ} (hT : TR P K O) {a0 : Nat} (h0 : a0 ∈ P ∧ K a0 = 10) {i1 : Nat} (h1 : i1 < 31) {r : Int32} (h : F_Mo_isWord N O I0 J0 a0 i1 = some r) : ConA yMo_isWord bMo_isWord 2 (some .boolean) ({ frames := 5, cells := 0, slots := 0, locals := 108 } : Room) P K I0 O J0 (fun ad => [.ref a0, .ref (ad.1 i1)]) (EPo (some (.int r)) I0 J0 P K O) := by
  refine ConA.ofG mfMo_isWord (fun _ => Nat.le_of_ble_eq_true rfl) ?_
  intro X C E
  unfold F_Mo_isWord at h
  refine g_aload_n C dMo_isWord_0 rfl ?_
  refine g_geti C dMo_isWord_1 fl_Mo_94 h0 ?_
  refine g_iconst (v := Int32.ofInt (2)) C dMo_isWord_4 (by decide) ?_
  refine gt_icmp_ne 24 C dMo_isWord_5 (by decide) rfl (ofI (by decide)) (fun c_5 => ?_) (fun c_5 => ?_)
  · have h := x_neg c_5 h
    refine g_iconst (v := Int32.ofInt (0)) C dMo_isWord_24 (by decide) ?_
    exact x_zret0 C E dMo_isWord_25 (by decide) ⟨Nat.zero_le _, Nat.zero_le _⟩ h
  · have h := x_pos c_5 h
    refine g_aload_n C dMo_isWord_8 rfl ?_
    refine g_getl C dMo_isWord_9 fl_Mo_114 h0 ?_
    refine g_aload_n C dMo_isWord_12 rfl ?_
    obtain ⟨z_13, e_13, h⟩ := bd1_some h
    refine x_callSl (av := fun ad => [.ref (ad.1 i1)]) C dMo_isWord_13 mfMo_wordOf msMo_wordOf ln_Mo_134 (f_Mo_wordOf hT h1 e_13) rfl rfl (Nat.le_of_ble_eq_true rfl) ⟨Nat.le_of_ble_eq_true rfl, Nat.le_of_ble_eq_true rfl⟩ ⟨rfl, rfl⟩ ⟨Nat.zero_le _, Nat.zero_le _⟩ ?_
    refine g_lcmp C dMo_isWord_16 ?_
    refine gt_if_ne 24 C dMo_isWord_17 (by decide) rfl (fun c_17 => ?_) (fun c_17 => ?_)
    · have h := x_neg c_17 h
      refine g_iconst (v := Int32.ofInt (0)) C dMo_isWord_24 (by decide) ?_
      exact x_zret0 C E dMo_isWord_25 (by decide) ⟨Nat.zero_le _, Nat.zero_le _⟩ h
    · have h := x_pos c_17 h
      refine g_iconst (v := Int32.ofInt (1)) C dMo_isWord_20 (by decide) ?_
      refine g_goto 25 C dMo_isWord_21 (by decide) ?_
      exact x_zret0 C E dMo_isWord_25 (by decide) ⟨Nat.zero_le _, Nat.zero_le _⟩ h
def F_Mo_is (N : Nat) (O : WO) (I0 : WI) (J0 : WJ) (a0 : Nat) (x1 : Int32) : Option (Int32) := if ((I0 a0 9)).toInt = 4 then (if ((I0 a0 11)).toInt = (x1).toInt then (some (Int32.ofInt (1))) else (some (Int32.ofInt (0)))) else (some (Int32.ofInt (0)))
set_option maxHeartbeats 4000000 in
set_option maxRecDepth 100000 in
theorem f_Mo_is {P : List Nat} {K : Nat → Nat} {N : Nat} {O : WO} {I0 : WI} {J0 : WJ} (hT : TR P K O) {a0 : Nat} (h0 : a0 ∈ P ∧ K a0 = 10) {x1 : Int32} {r : Int32} (h : F_Mo_is N O I0 J0 a0 x1 = some r) : Con yMo_is bMo_is 2 (some .boolean) ({ frames := 0, cells := 0, slots := 0, locals := 0 } : Room) P K I0 O J0 [.ref a0, .int x1] (EPo (some (.int r)) I0 J0 P K O) := by
  refine Con.ofG mfMo_is (Nat.le_of_ble_eq_true rfl) ?_
  intro X C E
  unfold F_Mo_is at h
  refine g_aload_n C dMo_is_0 rfl ?_
  refine g_geti C dMo_is_1 fl_Mo_94 h0 ?_
  refine g_iconst (v := Int32.ofInt (4)) C dMo_is_4 (by decide) ?_
  refine gt_icmp_ne 20 C dMo_is_5 (by decide) rfl (ofI (by decide)) (fun c_5 => ?_) (fun c_5 => ?_)
  · have h := x_neg c_5 h
    refine g_iconst (v := Int32.ofInt (0)) C dMo_is_20 (by decide) ?_
    exact x_zret0 C E dMo_is_21 (by decide) ⟨Nat.zero_le _, Nat.zero_le _⟩ h
  · have h := x_pos c_5 h
    refine g_aload_n C dMo_is_8 rfl ?_
    refine g_geti C dMo_is_9 fl_Mo_107 h0 ?_
    refine g_iload_n C dMo_is_12 rfl ?_
    refine gt_icmp_ne 20 C dMo_is_13 (by decide) rfl rfl (fun c_13 => ?_) (fun c_13 => ?_)
    · have h := x_neg c_13 h
      refine g_iconst (v := Int32.ofInt (0)) C dMo_is_20 (by decide) ?_
      exact x_zret0 C E dMo_is_21 (by decide) ⟨Nat.zero_le _, Nat.zero_le _⟩ h
    · have h := x_pos c_13 h
      refine g_iconst (v := Int32.ofInt (1)) C dMo_is_16 (by decide) ?_
      refine g_goto 21 C dMo_is_17 (by decide) ?_
      exact x_zret0 C E dMo_is_21 (by decide) ⟨Nat.zero_le _, Nat.zero_le _⟩ h
def F_Mo_needWord (N : Nat) (O : WO) (I0 : WI) (J0 : WJ) (a0 : Nat) (i1 : Nat) : Option (WI × WJ) := bd1 (F_Mo_isWord N O I0 J0 a0 i1) fun z_2 => jn (fun (IJ_13 : WI) => bd2 (F_Mo_next N O IJ_13 J0 a0) fun I2 J2 => some (I2, J2)) fun k_13 => if (z_2).toInt = 0 then (bd1 (F_Mo_wrong N O I0 J0 a0 (Int32.ofInt (1))) fun I3 => k_13  I3) else (k_13  I0)
set_option maxHeartbeats 4000000 in
set_option maxRecDepth 100000 in
theorem f_Mo_needWord {P : List Nat} {K : Nat → Nat} {N : Nat} {O : WO} {I0 : WI} {J0 : WJ} (hT : TR P K O) {a0 : Nat} (h0 : a0 ∈ P ∧ K a0 = 10) {i1 : Nat} (h1 : i1 < 31) {I' : WI} {J' : WJ} (h : F_Mo_needWord N O I0 J0 a0 i1 = some (I', J')) : ConA yMo_needWord bMo_needWord 2 none ({ frames := 6, cells := 0, slots := 0, locals := 129 } : Room) P K I0 O J0 (fun ad => [.ref a0, .ref (ad.1 i1)]) (EPo none I' J' P K O) := by
  refine ConA.ofG mfMo_needWord (fun _ => Nat.le_of_ble_eq_true rfl) ?_
  intro X C E
  unfold F_Mo_needWord at h
  refine g_aload_n C dMo_needWord_0 rfl ?_
  refine g_aload_n C dMo_needWord_1 rfl ?_
  obtain ⟨z_2, e_2, h⟩ := bd1_some h
  refine x_callVi (av := fun ad => [.ref (ad.1 i1)]) C dMo_needWord_2 mfMo_isWord mvMo_isWord ln_Mo_138 h0 (by decide) rfl (f_Mo_isWord hT h0 h1 e_2) rfl rfl (Nat.le_of_ble_eq_true rfl) ⟨Nat.le_of_ble_eq_true rfl, Nat.le_of_ble_eq_true rfl⟩ ⟨rfl, rfl⟩ ⟨Nat.zero_le _, Nat.zero_le _⟩ ?_
  refine x_jn h (fun (k_13 : WI → Option (WI × WJ)) => ∀ (IJ_13 : WI), k_13 IJ_13 = some (I', J') → GG X 2 P K IJ_13 O J0 0 0 13 [(0, .ref a0), (1, .ref ((adX X).1 i1))] []) (fun IJ_13 h => ?_) (fun k_13 hk_13 h => ?_)
  · skip
    refine g_aload_n C dMo_needWord_13 rfl ?_
    obtain ⟨I2, J2, e_14, h⟩ := bd2_some h
    refine x_callVv (av := fun ad => []) C dMo_needWord_14 mfMo_next mvMo_next ln_Mo_146 h0 (by decide) rfl (f_Mo_next hT h0 e_14) rfl rfl (Nat.le_of_ble_eq_true rfl) ⟨Nat.le_of_ble_eq_true rfl, Nat.le_of_ble_eq_true rfl⟩ ⟨rfl, rfl⟩ ⟨Nat.zero_le _, Nat.zero_le _⟩ ?_
    exact x_vret2 C E dMo_needWord_17 ⟨Nat.zero_le _, Nat.zero_le _⟩ h
  refine gt_if_ne 13 C dMo_needWord_5 (by decide) rfl (fun c_5 => ?_) (fun c_5 => ?_)
  · have h := x_neg c_5 h
    exact g_sub (hk_13  I0 h) ⟨rfl, rfl, trivial⟩
  · have h := x_pos c_5 h
    refine g_aload_n C dMo_needWord_8 rfl ?_
    refine g_iconst (v := Int32.ofInt (1)) C dMo_needWord_9 (by decide) ?_
    obtain ⟨I3, e_10, h⟩ := bd1_some h
    refine x_callVv (av := fun ad => [.int (Int32.ofInt (1))]) C dMo_needWord_10 mfMo_wrong mvMo_wrong ln_Mo_142 h0 (by decide) rfl (f_Mo_wrong hT h0 e_10) rfl rfl (Nat.le_of_ble_eq_true rfl) ⟨Nat.le_of_ble_eq_true rfl, Nat.le_of_ble_eq_true rfl⟩ ⟨rfl, rfl⟩ ⟨Nat.zero_le _, Nat.zero_le _⟩ ?_
    exact g_sub (hk_13  I3 h) ⟨rfl, rfl, trivial⟩
def F_Mo_readWhole (N : Nat) (O : WO) (I0 : WI) (J0 : WJ) (a0 : Nat) (x1 : Int32) (x2 : Int32) : Option (Int32 × WI × WJ) := jn (fun (IJ_33 : WI) => lb ((IJ_33 a0 12)) fun v3_37 => bd2 (F_Mo_next N O IJ_33 J0 a0) fun I1 J1 => some (v3_37, I1, J1)) fun k_33 => if ((I0 a0 9)).toInt = 3 then (bd1 (F_Mo_in N O I0 J0 (I0 a0 12) x1 x2) fun z_22 => if (z_22).toInt = 0 then (bd1 (F_Mo_wrong N O I0 J0 a0 (Int32.ofInt (4))) fun I3 => k_33  I3) else (k_33  I0)) else (bd1 (F_Mo_wrong N O I0 J0 a0 (Int32.ofInt (1))) fun I4 => k_33  I4)
set_option maxHeartbeats 4000000 in
set_option maxRecDepth 100000 in
theorem f_Mo_readWhole {P : List Nat} {K : Nat → Nat} {N : Nat} {O : WO} {I0 : WI} {J0 : WJ} (hT : TR P K O) {a0 : Nat} (h0 : a0 ∈ P ∧ K a0 = 10) {x1 : Int32} {x2 : Int32} {r : Int32} {I' : WI} {J' : WJ} (h : F_Mo_readWhole N O I0 J0 a0 x1 x2 = some (r, I', J')) : Con yMo_readWhole bMo_readWhole 4 (some .int) ({ frames := 2, cells := 0, slots := 0, locals := 43 } : Room) P K I0 O J0 [.ref a0, .int x1, .int x2] (EPo (some (.int r)) I' J' P K O) := by
  refine Con.ofG mfMo_readWhole (Nat.le_of_ble_eq_true rfl) ?_
  intro X C E
  unfold F_Mo_readWhole at h
  refine g_aload_n C dMo_readWhole_0 rfl ?_
  refine g_geti C dMo_readWhole_1 fl_Mo_94 h0 ?_
  refine g_iconst (v := Int32.ofInt (3)) C dMo_readWhole_4 (by decide) ?_
  refine x_jn h (fun (k_33 : WI → Option (Int32 × WI × WJ)) => ∀ (IJ_33 : WI), k_33 IJ_33 = some (r, I', J') → GG X 4 P K IJ_33 O J0 0 0 33 [(0, .ref a0), (1, .int x1), (2, .int x2)] []) (fun IJ_33 h => ?_) (fun k_33 hk_33 h => ?_)
  · skip
    refine g_aload_n C dMo_readWhole_33 rfl ?_
    refine g_geti C dMo_readWhole_34 fl_Mo_121 h0 ?_
    refine x_istore_n (i := 3) C dMo_readWhole_37 rfl (by decide) h (fun v3_37 h => ?_)
    refine g_aload_n C dMo_readWhole_38 rfl ?_
    obtain ⟨I1, J1, e_39, h⟩ := bd2_some h
    refine x_callVv (av := fun ad => []) C dMo_readWhole_39 mfMo_next mvMo_next ln_Mo_146 h0 (by decide) rfl (f_Mo_next hT h0 e_39) rfl rfl (Nat.le_of_ble_eq_true rfl) ⟨Nat.le_of_ble_eq_true rfl, Nat.le_of_ble_eq_true rfl⟩ ⟨rfl, rfl⟩ ⟨Nat.zero_le _, Nat.zero_le _⟩ ?_
    refine g_iload_n C dMo_readWhole_42 rfl ?_
    exact x_iret2 C E dMo_readWhole_43 ⟨Nat.zero_le _, Nat.zero_le _⟩ h
  refine gt_icmp_eq 16 C dMo_readWhole_5 (by decide) rfl (ofI (by decide)) (fun c_5 => ?_) (fun c_5 => ?_)
  · have h := x_pos c_5 h
    refine g_aload_n C dMo_readWhole_16 rfl ?_
    refine g_geti C dMo_readWhole_17 fl_Mo_121 h0 ?_
    refine g_iload_n C dMo_readWhole_20 rfl ?_
    refine g_iload_n C dMo_readWhole_21 rfl ?_
    obtain ⟨z_22, e_22, h⟩ := bd1_some h
    refine x_callSi (av := fun ad => [.int (I0 a0 12), .int x1, .int x2]) C dMo_readWhole_22 mfMo_in msMo_in ln_Mo_149 (f_Mo_in hT  e_22) rfl rfl (Nat.le_of_ble_eq_true rfl) ⟨Nat.le_of_ble_eq_true rfl, Nat.le_of_ble_eq_true rfl⟩ ⟨rfl, rfl⟩ ⟨Nat.zero_le _, Nat.zero_le _⟩ ?_
    refine gt_if_ne 33 C dMo_readWhole_25 (by decide) rfl (fun c_25 => ?_) (fun c_25 => ?_)
    · have h := x_neg c_25 h
      exact g_sub (hk_33  I0 h) ⟨rfl, rfl, rfl, trivial⟩
    · have h := x_pos c_25 h
      refine g_aload_n C dMo_readWhole_28 rfl ?_
      refine g_iconst (v := Int32.ofInt (4)) C dMo_readWhole_29 (by decide) ?_
      obtain ⟨I3, e_30, h⟩ := bd1_some h
      refine x_callVv (av := fun ad => [.int (Int32.ofInt (4))]) C dMo_readWhole_30 mfMo_wrong mvMo_wrong ln_Mo_142 h0 (by decide) rfl (f_Mo_wrong hT h0 e_30) rfl rfl (Nat.le_of_ble_eq_true rfl) ⟨Nat.le_of_ble_eq_true rfl, Nat.le_of_ble_eq_true rfl⟩ ⟨rfl, rfl⟩ ⟨Nat.zero_le _, Nat.zero_le _⟩ ?_
      exact g_sub (hk_33  I3 h) ⟨rfl, rfl, rfl, trivial⟩
  · have h := x_neg c_5 h
    refine g_aload_n C dMo_readWhole_8 rfl ?_
    refine g_iconst (v := Int32.ofInt (1)) C dMo_readWhole_9 (by decide) ?_
    obtain ⟨I4, e_10, h⟩ := bd1_some h
    refine x_callVv (av := fun ad => [.int (Int32.ofInt (1))]) C dMo_readWhole_10 mfMo_wrong mvMo_wrong ln_Mo_142 h0 (by decide) rfl (f_Mo_wrong hT h0 e_10) rfl rfl (Nat.le_of_ble_eq_true rfl) ⟨Nat.le_of_ble_eq_true rfl, Nat.le_of_ble_eq_true rfl⟩ ⟨rfl, rfl⟩ ⟨Nat.zero_le _, Nat.zero_le _⟩ ?_
    refine g_goto 33 C dMo_readWhole_13 (by decide) ?_
    exact g_sub (hk_33  I4 h) ⟨rfl, rfl, rfl, trivial⟩
def F_Mo_isName (N : Nat) (O : WO) (I0 : WI) (J0 : WJ) (a0 : Nat) : Option (Int32) := if ((I0 a0 9)).toInt = 2 then (bd1 (F_Mo_isWord N O I0 J0 a0 16) fun z_11 => if (z_11).toInt = 0 then (bd1 (F_Mo_isWord N O I0 J0 a0 19) fun z_20 => if (z_20).toInt = 0 then (bd1 (F_Mo_isWord N O I0 J0 a0 20) fun z_29 => if (z_29).toInt = 0 then (bd1 (F_Mo_isWord N O I0 J0 a0 21) fun z_38 => if (z_38).toInt = 0 then (bd1 (F_Mo_isWord N O I0 J0 a0 22) fun z_47 => if (z_47).toInt = 0 then (bd1 (F_Mo_isWord N O I0 J0 a0 23) fun z_56 => if (z_56).toInt = 0 then (bd1 (F_Mo_isWord N O I0 J0 a0 24) fun z_65 => if (z_65).toInt = 0 then (some (Int32.ofInt (1))) else (some (Int32.ofInt (0)))) else (some (Int32.ofInt (0)))) else (some (Int32.ofInt (0)))) else (some (Int32.ofInt (0)))) else (some (Int32.ofInt (0)))) else (some (Int32.ofInt (0)))) else (some (Int32.ofInt (0)))) else (some (Int32.ofInt (0)))
set_option maxHeartbeats 4000000 in
set_option maxRecDepth 100000 in
theorem f_Mo_isName {P : List Nat} {K : Nat → Nat} {N : Nat} {O : WO} {I0 : WI} {J0 : WJ} (hT : TR P K O) {a0 : Nat} (h0 : a0 ∈ P ∧ K a0 = 10) {r : Int32} (h : F_Mo_isName N O I0 J0 a0 = some r) : Con yMo_isName bMo_isName 1 (some .boolean) ({ frames := 6, cells := 0, slots := 0, locals := 129 } : Room) P K I0 O J0 [.ref a0] (EPo (some (.int r)) I0 J0 P K O) := by
  refine Con.ofG mfMo_isName (Nat.le_of_ble_eq_true rfl) ?_
  intro X C E
  unfold F_Mo_isName at h
  refine g_aload_n C dMo_isName_0 rfl ?_
  refine g_geti C dMo_isName_1 fl_Mo_94 h0 ?_
  refine g_iconst (v := Int32.ofInt (2)) C dMo_isName_4 (by decide) ?_
  refine gt_icmp_ne 75 C dMo_isName_5 (by decide) rfl (ofI (by decide)) (fun c_5 => ?_) (fun c_5 => ?_)
  · have h := x_neg c_5 h
    refine g_iconst (v := Int32.ofInt (0)) C dMo_isName_75 (by decide) ?_
    exact x_zret0 C E dMo_isName_76 (by decide) ⟨Nat.zero_le _, Nat.zero_le _⟩ h
  · have h := x_pos c_5 h
    refine g_aload_n C dMo_isName_8 rfl ?_
    refine g_ldcS 16 C dMo_isName_9 rfl ?_
    obtain ⟨z_11, e_11, h⟩ := bd1_some h
    refine x_callVi (av := fun ad => [.ref (ad.1 16)]) C dMo_isName_11 mfMo_isWord mvMo_isWord ln_Mo_138 h0 (by decide) rfl (f_Mo_isWord hT h0 (by decide) e_11) rfl rfl (Nat.le_of_ble_eq_true rfl) ⟨Nat.le_of_ble_eq_true rfl, Nat.le_of_ble_eq_true rfl⟩ ⟨rfl, rfl⟩ ⟨Nat.zero_le _, Nat.zero_le _⟩ ?_
    refine gt_if_ne 75 C dMo_isName_14 (by decide) rfl (fun c_14 => ?_) (fun c_14 => ?_)
    · have h := x_neg c_14 h
      refine g_iconst (v := Int32.ofInt (0)) C dMo_isName_75 (by decide) ?_
      exact x_zret0 C E dMo_isName_76 (by decide) ⟨Nat.zero_le _, Nat.zero_le _⟩ h
    · have h := x_pos c_14 h
      refine g_aload_n C dMo_isName_17 rfl ?_
      refine g_ldcS 19 C dMo_isName_18 rfl ?_
      obtain ⟨z_20, e_20, h⟩ := bd1_some h
      refine x_callVi (av := fun ad => [.ref (ad.1 19)]) C dMo_isName_20 mfMo_isWord mvMo_isWord ln_Mo_138 h0 (by decide) rfl (f_Mo_isWord hT h0 (by decide) e_20) rfl rfl (Nat.le_of_ble_eq_true rfl) ⟨Nat.le_of_ble_eq_true rfl, Nat.le_of_ble_eq_true rfl⟩ ⟨rfl, rfl⟩ ⟨Nat.zero_le _, Nat.zero_le _⟩ ?_
      refine gt_if_ne 75 C dMo_isName_23 (by decide) rfl (fun c_23 => ?_) (fun c_23 => ?_)
      · have h := x_neg c_23 h
        refine g_iconst (v := Int32.ofInt (0)) C dMo_isName_75 (by decide) ?_
        exact x_zret0 C E dMo_isName_76 (by decide) ⟨Nat.zero_le _, Nat.zero_le _⟩ h
      · have h := x_pos c_23 h
        refine g_aload_n C dMo_isName_26 rfl ?_
        refine g_ldcS 20 C dMo_isName_27 rfl ?_
        obtain ⟨z_29, e_29, h⟩ := bd1_some h
        refine x_callVi (av := fun ad => [.ref (ad.1 20)]) C dMo_isName_29 mfMo_isWord mvMo_isWord ln_Mo_138 h0 (by decide) rfl (f_Mo_isWord hT h0 (by decide) e_29) rfl rfl (Nat.le_of_ble_eq_true rfl) ⟨Nat.le_of_ble_eq_true rfl, Nat.le_of_ble_eq_true rfl⟩ ⟨rfl, rfl⟩ ⟨Nat.zero_le _, Nat.zero_le _⟩ ?_
        refine gt_if_ne 75 C dMo_isName_32 (by decide) rfl (fun c_32 => ?_) (fun c_32 => ?_)
        · have h := x_neg c_32 h
          refine g_iconst (v := Int32.ofInt (0)) C dMo_isName_75 (by decide) ?_
          exact x_zret0 C E dMo_isName_76 (by decide) ⟨Nat.zero_le _, Nat.zero_le _⟩ h
        · have h := x_pos c_32 h
          refine g_aload_n C dMo_isName_35 rfl ?_
          refine g_ldcS 21 C dMo_isName_36 rfl ?_
          obtain ⟨z_38, e_38, h⟩ := bd1_some h
          refine x_callVi (av := fun ad => [.ref (ad.1 21)]) C dMo_isName_38 mfMo_isWord mvMo_isWord ln_Mo_138 h0 (by decide) rfl (f_Mo_isWord hT h0 (by decide) e_38) rfl rfl (Nat.le_of_ble_eq_true rfl) ⟨Nat.le_of_ble_eq_true rfl, Nat.le_of_ble_eq_true rfl⟩ ⟨rfl, rfl⟩ ⟨Nat.zero_le _, Nat.zero_le _⟩ ?_
          refine gt_if_ne 75 C dMo_isName_41 (by decide) rfl (fun c_41 => ?_) (fun c_41 => ?_)
          · have h := x_neg c_41 h
            refine g_iconst (v := Int32.ofInt (0)) C dMo_isName_75 (by decide) ?_
            exact x_zret0 C E dMo_isName_76 (by decide) ⟨Nat.zero_le _, Nat.zero_le _⟩ h
          · have h := x_pos c_41 h
            refine g_aload_n C dMo_isName_44 rfl ?_
            refine g_ldcS 22 C dMo_isName_45 rfl ?_
            obtain ⟨z_47, e_47, h⟩ := bd1_some h
            refine x_callVi (av := fun ad => [.ref (ad.1 22)]) C dMo_isName_47 mfMo_isWord mvMo_isWord ln_Mo_138 h0 (by decide) rfl (f_Mo_isWord hT h0 (by decide) e_47) rfl rfl (Nat.le_of_ble_eq_true rfl) ⟨Nat.le_of_ble_eq_true rfl, Nat.le_of_ble_eq_true rfl⟩ ⟨rfl, rfl⟩ ⟨Nat.zero_le _, Nat.zero_le _⟩ ?_
            refine gt_if_ne 75 C dMo_isName_50 (by decide) rfl (fun c_50 => ?_) (fun c_50 => ?_)
            · have h := x_neg c_50 h
              refine g_iconst (v := Int32.ofInt (0)) C dMo_isName_75 (by decide) ?_
              exact x_zret0 C E dMo_isName_76 (by decide) ⟨Nat.zero_le _, Nat.zero_le _⟩ h
            · have h := x_pos c_50 h
              refine g_aload_n C dMo_isName_53 rfl ?_
              refine g_ldcS 23 C dMo_isName_54 rfl ?_
              obtain ⟨z_56, e_56, h⟩ := bd1_some h
              refine x_callVi (av := fun ad => [.ref (ad.1 23)]) C dMo_isName_56 mfMo_isWord mvMo_isWord ln_Mo_138 h0 (by decide) rfl (f_Mo_isWord hT h0 (by decide) e_56) rfl rfl (Nat.le_of_ble_eq_true rfl) ⟨Nat.le_of_ble_eq_true rfl, Nat.le_of_ble_eq_true rfl⟩ ⟨rfl, rfl⟩ ⟨Nat.zero_le _, Nat.zero_le _⟩ ?_
              refine gt_if_ne 75 C dMo_isName_59 (by decide) rfl (fun c_59 => ?_) (fun c_59 => ?_)
              · have h := x_neg c_59 h
                refine g_iconst (v := Int32.ofInt (0)) C dMo_isName_75 (by decide) ?_
                exact x_zret0 C E dMo_isName_76 (by decide) ⟨Nat.zero_le _, Nat.zero_le _⟩ h
              · have h := x_pos c_59 h
                refine g_aload_n C dMo_isName_62 rfl ?_
                refine g_ldcS 24 C dMo_isName_63 rfl ?_
                obtain ⟨z_65, e_65, h⟩ := bd1_some h
                refine x_callVi (av := fun ad => [.ref (ad.1 24)]) C dMo_isName_65 mfMo_isWord mvMo_isWord ln_Mo_138 h0 (by decide) rfl (f_Mo_isWord hT h0 (by decide) e_65) rfl rfl (Nat.le_of_ble_eq_true rfl) ⟨Nat.le_of_ble_eq_true rfl, Nat.le_of_ble_eq_true rfl⟩ ⟨rfl, rfl⟩ ⟨Nat.zero_le _, Nat.zero_le _⟩ ?_
                refine gt_if_ne 75 C dMo_isName_68 (by decide) rfl (fun c_68 => ?_) (fun c_68 => ?_)
                · have h := x_neg c_68 h
                  refine g_iconst (v := Int32.ofInt (0)) C dMo_isName_75 (by decide) ?_
                  exact x_zret0 C E dMo_isName_76 (by decide) ⟨Nat.zero_le _, Nat.zero_le _⟩ h
                · have h := x_pos c_68 h
                  refine g_iconst (v := Int32.ofInt (1)) C dMo_isName_71 (by decide) ?_
                  refine g_goto 76 C dMo_isName_72 (by decide) ?_
                  exact x_zret0 C E dMo_isName_76 (by decide) ⟨Nat.zero_le _, Nat.zero_le _⟩ h
def B_Mx_find_2 (N : Nat) (O : WO) (a0 : Nat) (x1 : Int64) (I0 : WI) (J0 : WJ) (rec_2 : Int32 → Option (Int32)) (x3_2 : Int32) : Option (Int32) := if ((I0 a0 10)).toInt ≤ (x3_2).toInt then (some (Int32.ofInt (-1))) else (if 0 ≤ (x3_2).toInt ∧ (x3_2).toInt < 9 then (if ((lg_cmp (J0 (rf O a0 16) (x3_2).toInt.toNat) x1)).toInt = 0 then (some x3_2) else (lb (x3_2 + Int32.ofInt (1)) fun v3_23 => rec_2 (v3_23))) else none)
def F_Mx_find (N : Nat) (O : WO) (I0 : WI) (J0 : WJ) (a0 : Nat) (x1 : Int64) : Option (Int32) := lp (B_Mx_find_2 N O a0 x1 I0 J0) (fun _ => none) N ((Int32.ofInt (0)))
set_option maxHeartbeats 4000000 in
set_option maxRecDepth 100000 in
theorem f_Mx_find {P : List Nat} {K : Nat → Nat} {N : Nat} {O : WO} {I0 : WI} {J0 : WJ} (hT : TR P K O) {a0 : Nat} (h0 : a0 ∈ P ∧ K a0 = 9) {x1 : Int64} {r : Int32} (h : F_Mx_find N O I0 J0 a0 x1 = some r) : Con yMx_find bMx_find 4 (some .int) ({ frames := 0, cells := 0, slots := 0, locals := 0 } : Room) P K I0 O J0 [.ref a0, .long x1] (EPo (some (.int r)) I0 J0 P K O) := by
  refine Con.ofG mfMx_find (Nat.le_of_ble_eq_true rfl) ?_
  intro X C E
  unfold F_Mx_find at h
  refine g_iconst (v := Int32.ofInt (0)) C dMx_find_0 (by decide) ?_
  refine g_istore_n (i := 3) C dMx_find_1 rfl (by decide) ?_
  have lp_2 : ∀ (x3_2 : Int32), lp (B_Mx_find_2 N O a0 x1 I0 J0) (fun _ => none) N x3_2 = some r → GG X 4 P K I0 O J0 0 0 2 [(0, .ref a0), (1, .long x1), (3, .int x3_2)] [] := by
    refine x_lp (fun (rec_2 : Int32 → Option (Int32)) => ∀ (x3_2 : Int32), rec_2 x3_2 = some r → GG X 4 P K I0 O J0 0 0 2 [(0, .ref a0), (1, .long x1), (3, .int x3_2)] []) (fun _ h => by cases h) (fun rec_2 hr_2 x3_2 h => ?_) N
    unfold B_Mx_find_2 at h
    refine g_iload_n C dMx_find_2 rfl ?_
    refine g_aload_n C dMx_find_3 rfl ?_
    refine g_geti C dMx_find_4 fl_Mx_47 h0 ?_
    refine gt_icmp_ge 29 C dMx_find_7 (by decide) rfl rfl (fun c_7 => ?_) (fun c_7 => ?_)
    · have h := x_pos c_7 h
      refine g_iconst (v := Int32.ofInt (-1)) C dMx_find_29 (by decide) ?_
      exact x_iret0 C E dMx_find_30 ⟨Nat.zero_le _, Nat.zero_le _⟩ h
    · have h := x_neg (Int.not_le.mpr c_7) h
      refine g_aload_n C dMx_find_10 rfl ?_
      have t_11 := rf_ok hT h0 (show sp 9 16 = some 46 from rfl)
      refine x_getr C dMx_find_11 fl_Mx_40 h0 hT (show sp 9 16 = some 46 from rfl) ?_
      refine g_iload_n C dMx_find_14 rfl ?_
      obtain ⟨g_15, h⟩ := x_g h
      refine x_lald (m := 9) C dMx_find_15 t_11 (by decide) rfl rfl g_15 ?_
      refine g_lload_n C dMx_find_16 rfl ?_
      refine g_lcmp C dMx_find_17 ?_
      refine gt_if_ne 23 C dMx_find_18 (by decide) rfl (fun c_18 => ?_) (fun c_18 => ?_)
      · have h := x_neg c_18 h
        refine x_iinc C dMx_find_23 rfl (by decide) h (fun v3_23 h => ?_)
        refine g_goto 2 C dMx_find_26 (by decide) ?_
        exact g_sub (hr_2 (v3_23) h) ⟨rfl, rfl, rfl, trivial⟩
      · have h := x_pos c_18 h
        refine g_iload_n C dMx_find_21 rfl ?_
        exact x_iret0 C E dMx_find_22 ⟨Nat.zero_le _, Nat.zero_le _⟩ h
  exact g_sub (lp_2 ((Int32.ofInt (0))) h) ⟨rfl, rfl, rfl, trivial⟩
def F_Mo_once (N : Nat) (O : WO) (I0 : WI) (J0 : WJ) (a0 : Nat) (x1 : Int32) : Option (WI × WJ) := jn (fun (IJ_9 : WI) => bd2 (F_Mo_next N O IJ_9 J0 a0) fun I1 J1 => some (I1, J1)) fun k_9 => if (x1).toInt = 0 then (k_9  I0) else (bd1 (F_Mo_wrong N O I0 J0 a0 (Int32.ofInt (3))) fun I2 => k_9  I2)
set_option maxHeartbeats 4000000 in
set_option maxRecDepth 100000 in
theorem f_Mo_once {P : List Nat} {K : Nat → Nat} {N : Nat} {O : WO} {I0 : WI} {J0 : WJ} (hT : TR P K O) {a0 : Nat} (h0 : a0 ∈ P ∧ K a0 = 10) {x1 : Int32} {I' : WI} {J' : WJ} (h : F_Mo_once N O I0 J0 a0 x1 = some (I', J')) : Con yMo_once bMo_once 2 none ({ frames := 2, cells := 0, slots := 0, locals := 43 } : Room) P K I0 O J0 [.ref a0, .int x1] (EPo none I' J' P K O) := by
  refine Con.ofG mfMo_once (Nat.le_of_ble_eq_true rfl) ?_
  intro X C E
  unfold F_Mo_once at h
  refine g_iload_n C dMo_once_0 rfl ?_
  refine x_jn h (fun (k_9 : WI → Option (WI × WJ)) => ∀ (IJ_9 : WI), k_9 IJ_9 = some (I', J') → GG X 2 P K IJ_9 O J0 0 0 9 [(0, .ref a0), (1, .int x1)] []) (fun IJ_9 h => ?_) (fun k_9 hk_9 h => ?_)
  · skip
    refine g_aload_n C dMo_once_9 rfl ?_
    obtain ⟨I1, J1, e_10, h⟩ := bd2_some h
    refine x_callVv (av := fun ad => []) C dMo_once_10 mfMo_next mvMo_next ln_Mo_146 h0 (by decide) rfl (f_Mo_next hT h0 e_10) rfl rfl (Nat.le_of_ble_eq_true rfl) ⟨Nat.le_of_ble_eq_true rfl, Nat.le_of_ble_eq_true rfl⟩ ⟨rfl, rfl⟩ ⟨Nat.zero_le _, Nat.zero_le _⟩ ?_
    exact x_vret2 C E dMo_once_13 ⟨Nat.zero_le _, Nat.zero_le _⟩ h
  refine gt_if_eq 9 C dMo_once_1 (by decide) rfl (fun c_1 => ?_) (fun c_1 => ?_)
  · have h := x_pos c_1 h
    exact g_sub (hk_9  I0 h) ⟨rfl, rfl, trivial⟩
  · have h := x_neg c_1 h
    refine g_aload_n C dMo_once_4 rfl ?_
    refine g_iconst (v := Int32.ofInt (3)) C dMo_once_5 (by decide) ?_
    obtain ⟨I2, e_6, h⟩ := bd1_some h
    refine x_callVv (av := fun ad => [.int (Int32.ofInt (3))]) C dMo_once_6 mfMo_wrong mvMo_wrong ln_Mo_142 h0 (by decide) rfl (f_Mo_wrong hT h0 e_6) rfl rfl (Nat.le_of_ble_eq_true rfl) ⟨Nat.le_of_ble_eq_true rfl, Nat.le_of_ble_eq_true rfl⟩ ⟨rfl, rfl⟩ ⟨Nat.zero_le _, Nat.zero_le _⟩ ?_
    exact g_sub (hk_9  I2 h) ⟨rfl, rfl, trivial⟩
def F_Mo_readDrum (N : Nat) (O : WO) (I0 : WI) (J0 : WJ) (a0 : Nat) : Option (WI × WJ) := jn (fun (s0_17 : Int32) => bd2 (F_Mo_once N O I0 J0 a0 s0_17) fun I1 J1 => bd2 (F_Mo_needWord N O I1 J1 a0 17) fun I2 J2 => bd3 (F_Mo_readWhole N O I2 J2 a0 (Int32.ofInt (20)) (Int32.ofInt (999))) fun z_36 I3 J3 => lb (up2 I3 (rf O a0 4) 0 z_36) fun I4 => bd2 (F_Mo_needWord N O I4 J3 a0 18) fun I5 J5 => bd3 (F_Mo_readWhole N O I5 J5 a0 (Int32.ofInt (10)) (Int32.ofInt (200))) fun z_58 I6 J6 => lb (up2 I6 (rf O a0 4) 1 z_58) fun I7 => some (I7, J6)) fun k_17 => if ((I0 (rf O a0 4) 0)).toInt = (-1) then (k_17 ((Int32.ofInt (0)))) else (k_17 ((Int32.ofInt (1))))
set_option maxHeartbeats 4000000 in
set_option maxRecDepth 100000 in
theorem f_Mo_readDrum {P : List Nat} {K : Nat → Nat} {N : Nat} {O : WO} {I0 : WI} {J0 : WJ} (hT : TR P K O) {a0 : Nat} (h0 : a0 ∈ P ∧ K a0 = 10) (hN4 : NN P K O a0 4 9) {I' : WI} {J' : WJ} (h : F_Mo_readDrum N O I0 J0 a0 = some (I', J')) : Con yMo_readDrum bMo_readDrum 1 none ({ frames := 7, cells := 0, slots := 0, locals := 150 } : Room) P K I0 O J0 [.ref a0] (EPo none I' J' P K O) := by
  refine Con.ofG mfMo_readDrum (Nat.le_of_ble_eq_true rfl) ?_
  intro X C E
  unfold F_Mo_readDrum at h
  refine g_aload_n C dMo_readDrum_0 rfl ?_
  refine g_aload_n C dMo_readDrum_1 rfl ?_
  refine gt_getS C dMo_readDrum_2 fl_Mo_172 h0 hN4.1 ?_
  refine g_geti C dMo_readDrum_5 fl_Mo_176 hN4.2 ?_
  refine g_iconst (v := Int32.ofInt (-1)) C dMo_readDrum_8 (by decide) ?_
  refine x_jn h (fun (k_17 : Int32 → Option (WI × WJ)) => ∀ (s0_17 : Int32), k_17 s0_17 = some (I', J') → GG X 1 P K I0 O J0 0 0 17 [(0, .ref a0)] [.int s0_17, .ref a0]) (fun s0_17 h => ?_) (fun k_17 hk_17 h => ?_)
  · skip
    obtain ⟨I1, J1, e_17, h⟩ := bd2_some h
    refine x_callVv (av := fun ad => [.int s0_17]) C dMo_readDrum_17 mfMo_once mvMo_once ln_Mo_218 h0 (by decide) rfl (f_Mo_once hT h0 e_17) rfl rfl (Nat.le_of_ble_eq_true rfl) ⟨Nat.le_of_ble_eq_true rfl, Nat.le_of_ble_eq_true rfl⟩ ⟨rfl, rfl⟩ ⟨Nat.zero_le _, Nat.zero_le _⟩ ?_
    refine g_aload_n C dMo_readDrum_20 rfl ?_
    refine g_ldcS 17 C dMo_readDrum_21 rfl ?_
    obtain ⟨I2, J2, e_23, h⟩ := bd2_some h
    refine x_callVv (av := fun ad => [.ref (ad.1 17)]) C dMo_readDrum_23 mfMo_needWord mvMo_needWord ln_Mo_223 h0 (by decide) rfl (f_Mo_needWord hT h0 (by decide) e_23) rfl rfl (Nat.le_of_ble_eq_true rfl) ⟨Nat.le_of_ble_eq_true rfl, Nat.le_of_ble_eq_true rfl⟩ ⟨rfl, rfl⟩ ⟨Nat.zero_le _, Nat.zero_le _⟩ ?_
    refine g_aload_n C dMo_readDrum_26 rfl ?_
    refine gt_getS C dMo_readDrum_27 fl_Mo_172 h0 hN4.1 ?_
    refine g_aload_n C dMo_readDrum_30 rfl ?_
    refine g_bipush (v := Int32.ofInt (20)) C dMo_readDrum_31 (by decide) ?_
    refine g_sipush (v := Int32.ofInt (999)) C dMo_readDrum_33 (by decide) ?_
    obtain ⟨z_36, I3, J3, e_36, h⟩ := bd3_some h
    refine x_callVi (av := fun ad => [.int (Int32.ofInt (20)), .int (Int32.ofInt (999))]) C dMo_readDrum_36 mfMo_readWhole mvMo_readWhole ln_Mo_227 h0 (by decide) rfl (f_Mo_readWhole hT h0 e_36) rfl rfl (Nat.le_of_ble_eq_true rfl) ⟨Nat.le_of_ble_eq_true rfl, Nat.le_of_ble_eq_true rfl⟩ ⟨rfl, rfl⟩ ⟨Nat.zero_le _, Nat.zero_le _⟩ ?_
    refine x_puti C dMo_readDrum_39 fl_Mo_176 hN4.2 rfl (Or.inl rfl) h (fun I4 h => ?_)
    refine g_aload_n C dMo_readDrum_42 rfl ?_
    refine g_ldcS 18 C dMo_readDrum_43 rfl ?_
    obtain ⟨I5, J5, e_45, h⟩ := bd2_some h
    refine x_callVv (av := fun ad => [.ref (ad.1 18)]) C dMo_readDrum_45 mfMo_needWord mvMo_needWord ln_Mo_223 h0 (by decide) rfl (f_Mo_needWord hT h0 (by decide) e_45) rfl rfl (Nat.le_of_ble_eq_true rfl) ⟨Nat.le_of_ble_eq_true rfl, Nat.le_of_ble_eq_true rfl⟩ ⟨rfl, rfl⟩ ⟨Nat.zero_le _, Nat.zero_le _⟩ ?_
    refine g_aload_n C dMo_readDrum_48 rfl ?_
    refine gt_getS C dMo_readDrum_49 fl_Mo_172 h0 hN4.1 ?_
    refine g_aload_n C dMo_readDrum_52 rfl ?_
    refine g_bipush (v := Int32.ofInt (10)) C dMo_readDrum_53 (by decide) ?_
    refine g_sipush (v := Int32.ofInt (200)) C dMo_readDrum_55 (by decide) ?_
    obtain ⟨z_58, I6, J6, e_58, h⟩ := bd3_some h
    refine x_callVi (av := fun ad => [.int (Int32.ofInt (10)), .int (Int32.ofInt (200))]) C dMo_readDrum_58 mfMo_readWhole mvMo_readWhole ln_Mo_227 h0 (by decide) rfl (f_Mo_readWhole hT h0 e_58) rfl rfl (Nat.le_of_ble_eq_true rfl) ⟨Nat.le_of_ble_eq_true rfl, Nat.le_of_ble_eq_true rfl⟩ ⟨rfl, rfl⟩ ⟨Nat.zero_le _, Nat.zero_le _⟩ ?_
    refine x_puti C dMo_readDrum_61 fl_Mo_233 hN4.2 rfl (Or.inl rfl) h (fun I7 h => ?_)
    exact x_vret2 C E dMo_readDrum_64 ⟨Nat.zero_le _, Nat.zero_le _⟩ h
  refine gt_icmp_eq 16 C dMo_readDrum_9 (by decide) rfl (ofI (by decide)) (fun c_9 => ?_) (fun c_9 => ?_)
  · have h := x_pos c_9 h
    refine g_iconst (v := Int32.ofInt (0)) C dMo_readDrum_16 (by decide) ?_
    exact g_sub (hk_17 ((Int32.ofInt (0))) h) ⟨rfl, trivial⟩
  · have h := x_neg c_9 h
    refine g_iconst (v := Int32.ofInt (1)) C dMo_readDrum_12 (by decide) ?_
    refine g_goto 17 C dMo_readDrum_13 (by decide) ?_
    exact g_sub (hk_17 ((Int32.ofInt (1))) h) ⟨rfl, trivial⟩
def F_Mo_readSieve (N : Nat) (O : WO) (I0 : WI) (J0 : WJ) (a0 : Nat) : Option (WI × WJ) := jn (fun (s0_17 : Int32) => bd2 (F_Mo_once N O I0 J0 a0 s0_17) fun I1 J1 => bd1 (F_Mo_isName N O I1 J1 a0) fun z_21 => jn (fun (IJ_32 : WI) => bd1 (F_Mx_find N O IJ_32 J1 (rf O a0 4) (J1 a0 15)) fun z_40 => jn (fun (IJ_67 : WI) => jn (fun (s0_89 : Int32) => lb (up2 IJ_67 (rf O a0 4) 2 s0_89) fun I4 => bd2 (F_Mo_next N O I4 J1 a0) fun I5 J5 => bd2 (F_Mo_needWord N O I5 J5 a0 25) fun I6 J6 => bd3 (F_Mo_readWhole N O I6 J6 a0 (Int32.ofInt (0)) (Int32.ofInt (50))) fun z_110 I7 J7 => lb (up2 I7 (rf O a0 4) 3 z_110) fun I8 => some (I8, J7)) fun k_89 => if (z_40).toInt = (-1) then (k_89 ((Int32.ofInt (0)))) else (if 0 ≤ (z_40).toInt ∧ (z_40).toInt < 9 then (k_89 ((IJ_67 (rf O (rf O a0 4) 17) (z_40).toInt.toNat))) else none)) fun k_67 => jn (bd1 (F_Mo_wrong N O IJ_32 J1 a0 (Int32.ofInt (2))) fun I9 => k_67  I9) fun k_62 => if (z_40).toInt = (-1) then (k_62 ) else (if 0 ≤ (z_40).toInt ∧ (z_40).toInt < 9 then (if ((IJ_32 (rf O (rf O a0 4) 17) (z_40).toInt.toNat)).toInt = (-1) then (k_62 ) else (k_67  IJ_32)) else none)) fun k_32 => if (z_21).toInt = 0 then (bd1 (F_Mo_wrong N O I1 J1 a0 (Int32.ofInt (1))) fun I10 => k_32  I10) else (k_32  I1)) fun k_17 => if ((I0 (rf O a0 4) 2)).toInt = (-1) then (k_17 ((Int32.ofInt (0)))) else (k_17 ((Int32.ofInt (1))))
set_option maxHeartbeats 4000000 in
set_option maxRecDepth 100000 in
theorem f_Mo_readSieve {P : List Nat} {K : Nat → Nat} {N : Nat} {O : WO} {I0 : WI} {J0 : WJ} (hT : TR P K O) {a0 : Nat} (h0 : a0 ∈ P ∧ K a0 = 10) (hN4 : NN P K O a0 4 9) {I' : WI} {J' : WJ} (h : F_Mo_readSieve N O I0 J0 a0 = some (I', J')) : Con yMo_readSieve bMo_readSieve 2 none ({ frames := 7, cells := 0, slots := 0, locals := 150 } : Room) P K I0 O J0 [.ref a0] (EPo none I' J' P K O) := by
  refine Con.ofG mfMo_readSieve (Nat.le_of_ble_eq_true rfl) ?_
  intro X C E
  unfold F_Mo_readSieve at h
  refine g_aload_n C dMo_readSieve_0 rfl ?_
  refine g_aload_n C dMo_readSieve_1 rfl ?_
  refine gt_getS C dMo_readSieve_2 fl_Mo_172 h0 hN4.1 ?_
  refine g_geti C dMo_readSieve_5 fl_Mo_181 hN4.2 ?_
  refine g_iconst (v := Int32.ofInt (-1)) C dMo_readSieve_8 (by decide) ?_
  refine x_jn h (fun (k_17 : Int32 → Option (WI × WJ)) => ∀ (s0_17 : Int32), k_17 s0_17 = some (I', J') → GG X 2 P K I0 O J0 0 0 17 [(0, .ref a0)] [.int s0_17, .ref a0]) (fun s0_17 h => ?_) (fun k_17 hk_17 h => ?_)
  · skip
    obtain ⟨I1, J1, e_17, h⟩ := bd2_some h
    refine x_callVv (av := fun ad => [.int s0_17]) C dMo_readSieve_17 mfMo_once mvMo_once ln_Mo_218 h0 (by decide) rfl (f_Mo_once hT h0 e_17) rfl rfl (Nat.le_of_ble_eq_true rfl) ⟨Nat.le_of_ble_eq_true rfl, Nat.le_of_ble_eq_true rfl⟩ ⟨rfl, rfl⟩ ⟨Nat.zero_le _, Nat.zero_le _⟩ ?_
    refine g_aload_n C dMo_readSieve_20 rfl ?_
    obtain ⟨z_21, e_21, h⟩ := bd1_some h
    refine x_callVi (av := fun ad => []) C dMo_readSieve_21 mfMo_isName mvMo_isName ln_Mo_235 h0 (by decide) rfl (f_Mo_isName hT h0 e_21) rfl rfl (Nat.le_of_ble_eq_true rfl) ⟨Nat.le_of_ble_eq_true rfl, Nat.le_of_ble_eq_true rfl⟩ ⟨rfl, rfl⟩ ⟨Nat.zero_le _, Nat.zero_le _⟩ ?_
    refine x_jn h (fun (k_32 : WI → Option (WI × WJ)) => ∀ (IJ_32 : WI), k_32 IJ_32 = some (I', J') → GG X 2 P K IJ_32 O J1 0 0 32 [(0, .ref a0)] []) (fun IJ_32 h => ?_) (fun k_32 hk_32 h => ?_)
    · skip
      refine g_aload_n C dMo_readSieve_32 rfl ?_
      refine gt_getS C dMo_readSieve_33 fl_Mo_172 h0 hN4.1 ?_
      refine g_aload_n C dMo_readSieve_36 rfl ?_
      refine g_getl C dMo_readSieve_37 fl_Mo_114 h0 ?_
      obtain ⟨z_40, e_40, h⟩ := bd1_some h
      refine x_callVi (av := fun ad => [.long (J1 a0 15)]) C dMo_readSieve_40 mfMx_find mvMx_find ln_Mo_239 hN4.2 (by decide) rfl (f_Mx_find hT hN4.2 e_40) rfl rfl (Nat.le_of_ble_eq_true rfl) ⟨Nat.le_of_ble_eq_true rfl, Nat.le_of_ble_eq_true rfl⟩ ⟨rfl, rfl⟩ ⟨Nat.zero_le _, Nat.zero_le _⟩ ?_
      refine g_istore_n (i := 1) C dMo_readSieve_43 rfl (by decide) ?_
      refine g_iload_n C dMo_readSieve_44 rfl ?_
      refine g_iconst (v := Int32.ofInt (-1)) C dMo_readSieve_45 (by decide) ?_
      refine x_jn h (fun (k_67 : WI → Option (WI × WJ)) => ∀ (IJ_67 : WI), k_67 IJ_67 = some (I', J') → GG X 2 P K IJ_67 O J1 0 0 67 [(0, .ref a0), (1, .int z_40)] []) (fun IJ_67 h => ?_) (fun k_67 hk_67 h => ?_)
      · skip
        refine g_aload_n C dMo_readSieve_67 rfl ?_
        refine gt_getS C dMo_readSieve_68 fl_Mo_172 h0 hN4.1 ?_
        refine g_iload_n C dMo_readSieve_71 rfl ?_
        refine g_iconst (v := Int32.ofInt (-1)) C dMo_readSieve_72 (by decide) ?_
        refine x_jn h (fun (k_89 : Int32 → Option (WI × WJ)) => ∀ (s0_89 : Int32), k_89 s0_89 = some (I', J') → GG X 2 P K IJ_67 O J1 0 0 89 [(0, .ref a0), (1, .int z_40)] [.int s0_89, .ref (rf O a0 4)]) (fun s0_89 h => ?_) (fun k_89 hk_89 h => ?_)
        · skip
          refine x_puti C dMo_readSieve_89 fl_Mo_181 hN4.2 rfl (Or.inl rfl) h (fun I4 h => ?_)
          refine g_aload_n C dMo_readSieve_92 rfl ?_
          obtain ⟨I5, J5, e_93, h⟩ := bd2_some h
          refine x_callVv (av := fun ad => []) C dMo_readSieve_93 mfMo_next mvMo_next ln_Mo_146 h0 (by decide) rfl (f_Mo_next hT h0 e_93) rfl rfl (Nat.le_of_ble_eq_true rfl) ⟨Nat.le_of_ble_eq_true rfl, Nat.le_of_ble_eq_true rfl⟩ ⟨rfl, rfl⟩ ⟨Nat.zero_le _, Nat.zero_le _⟩ ?_
          refine g_aload_n C dMo_readSieve_96 rfl ?_
          refine g_ldcS 25 C dMo_readSieve_97 rfl ?_
          obtain ⟨I6, J6, e_99, h⟩ := bd2_some h
          refine x_callVv (av := fun ad => [.ref (ad.1 25)]) C dMo_readSieve_99 mfMo_needWord mvMo_needWord ln_Mo_223 h0 (by decide) rfl (f_Mo_needWord hT h0 (by decide) e_99) rfl rfl (Nat.le_of_ble_eq_true rfl) ⟨Nat.le_of_ble_eq_true rfl, Nat.le_of_ble_eq_true rfl⟩ ⟨rfl, rfl⟩ ⟨Nat.zero_le _, Nat.zero_le _⟩ ?_
          refine g_aload_n C dMo_readSieve_102 rfl ?_
          refine gt_getS C dMo_readSieve_103 fl_Mo_172 h0 hN4.1 ?_
          refine g_aload_n C dMo_readSieve_106 rfl ?_
          refine g_iconst (v := Int32.ofInt (0)) C dMo_readSieve_107 (by decide) ?_
          refine g_bipush (v := Int32.ofInt (50)) C dMo_readSieve_108 (by decide) ?_
          obtain ⟨z_110, I7, J7, e_110, h⟩ := bd3_some h
          refine x_callVi (av := fun ad => [.int (Int32.ofInt (0)), .int (Int32.ofInt (50))]) C dMo_readSieve_110 mfMo_readWhole mvMo_readWhole ln_Mo_227 h0 (by decide) rfl (f_Mo_readWhole hT h0 e_110) rfl rfl (Nat.le_of_ble_eq_true rfl) ⟨Nat.le_of_ble_eq_true rfl, Nat.le_of_ble_eq_true rfl⟩ ⟨rfl, rfl⟩ ⟨Nat.zero_le _, Nat.zero_le _⟩ ?_
          refine x_puti C dMo_readSieve_113 fl_Mo_248 hN4.2 rfl (Or.inl rfl) h (fun I8 h => ?_)
          exact x_vret2 C E dMo_readSieve_116 ⟨Nat.zero_le _, Nat.zero_le _⟩ h
        refine gt_icmp_ne 80 C dMo_readSieve_73 (by decide) rfl (ofI (by decide)) (fun c_73 => ?_) (fun c_73 => ?_)
        · have h := x_neg c_73 h
          refine g_aload_n C dMo_readSieve_80 rfl ?_
          refine gt_getS C dMo_readSieve_81 fl_Mo_172 h0 hN4.1 ?_
          have t_84 := rf_ok hT hN4.2 (show sp 9 17 = some 47 from rfl)
          refine x_getr C dMo_readSieve_84 fl_Mo_243 hN4.2 hT (show sp 9 17 = some 47 from rfl) ?_
          refine g_iload_n C dMo_readSieve_87 rfl ?_
          obtain ⟨g_88, h⟩ := x_g h
          refine x_iald (m := 9) C dMo_readSieve_88 t_84 (by decide) rfl rfl g_88 ?_
          exact g_sub (hk_89 ((IJ_67 (rf O (rf O a0 4) 17) (z_40).toInt.toNat)) h) ⟨rfl, rfl, trivial⟩
        · have h := x_pos c_73 h
          refine g_iconst (v := Int32.ofInt (0)) C dMo_readSieve_76 (by decide) ?_
          refine g_goto 89 C dMo_readSieve_77 (by decide) ?_
          exact g_sub (hk_89 ((Int32.ofInt (0))) h) ⟨rfl, rfl, trivial⟩
      refine x_jn h (fun (k_62 : Option (WI × WJ)) => k_62  = some (I', J') → GG X 2 P K IJ_32 O J1 0 0 62 [(0, .ref a0), (1, .int z_40)] []) (fun  h => ?_) (fun k_62 hk_62 h => ?_)
      · skip
        refine g_aload_n C dMo_readSieve_62 rfl ?_
        refine g_iconst (v := Int32.ofInt (2)) C dMo_readSieve_63 (by decide) ?_
        obtain ⟨I9, e_64, h⟩ := bd1_some h
        refine x_callVv (av := fun ad => [.int (Int32.ofInt (2))]) C dMo_readSieve_64 mfMo_wrong mvMo_wrong ln_Mo_142 h0 (by decide) rfl (f_Mo_wrong hT h0 e_64) rfl rfl (Nat.le_of_ble_eq_true rfl) ⟨Nat.le_of_ble_eq_true rfl, Nat.le_of_ble_eq_true rfl⟩ ⟨rfl, rfl⟩ ⟨Nat.zero_le _, Nat.zero_le _⟩ ?_
        exact g_sub (hk_67  I9 h) ⟨rfl, rfl, trivial⟩
      refine gt_icmp_eq 62 C dMo_readSieve_46 (by decide) rfl (ofI (by decide)) (fun c_46 => ?_) (fun c_46 => ?_)
      · have h := x_pos c_46 h
        exact g_sub (hk_62  h) ⟨rfl, rfl, trivial⟩
      · have h := x_neg c_46 h
        refine g_aload_n C dMo_readSieve_49 rfl ?_
        refine gt_getS C dMo_readSieve_50 fl_Mo_172 h0 hN4.1 ?_
        have t_53 := rf_ok hT hN4.2 (show sp 9 17 = some 47 from rfl)
        refine x_getr C dMo_readSieve_53 fl_Mo_243 hN4.2 hT (show sp 9 17 = some 47 from rfl) ?_
        refine g_iload_n C dMo_readSieve_56 rfl ?_
        obtain ⟨g_57, h⟩ := x_g h
        refine x_iald (m := 9) C dMo_readSieve_57 t_53 (by decide) rfl rfl g_57 ?_
        refine g_iconst (v := Int32.ofInt (-1)) C dMo_readSieve_58 (by decide) ?_
        refine gt_icmp_ne 67 C dMo_readSieve_59 (by decide) rfl (ofI (by decide)) (fun c_59 => ?_) (fun c_59 => ?_)
        · have h := x_neg c_59 h
          exact g_sub (hk_67  IJ_32 h) ⟨rfl, rfl, trivial⟩
        · have h := x_pos c_59 h
          exact g_sub (hk_62  h) ⟨rfl, rfl, trivial⟩
    refine gt_if_ne 32 C dMo_readSieve_24 (by decide) rfl (fun c_24 => ?_) (fun c_24 => ?_)
    · have h := x_neg c_24 h
      exact g_sub (hk_32  I1 h) ⟨rfl, trivial⟩
    · have h := x_pos c_24 h
      refine g_aload_n C dMo_readSieve_27 rfl ?_
      refine g_iconst (v := Int32.ofInt (1)) C dMo_readSieve_28 (by decide) ?_
      obtain ⟨I10, e_29, h⟩ := bd1_some h
      refine x_callVv (av := fun ad => [.int (Int32.ofInt (1))]) C dMo_readSieve_29 mfMo_wrong mvMo_wrong ln_Mo_142 h0 (by decide) rfl (f_Mo_wrong hT h0 e_29) rfl rfl (Nat.le_of_ble_eq_true rfl) ⟨Nat.le_of_ble_eq_true rfl, Nat.le_of_ble_eq_true rfl⟩ ⟨rfl, rfl⟩ ⟨Nat.zero_le _, Nat.zero_le _⟩ ?_
      exact g_sub (hk_32  I10 h) ⟨rfl, trivial⟩
  refine gt_icmp_eq 16 C dMo_readSieve_9 (by decide) rfl (ofI (by decide)) (fun c_9 => ?_) (fun c_9 => ?_)
  · have h := x_pos c_9 h
    refine g_iconst (v := Int32.ofInt (0)) C dMo_readSieve_16 (by decide) ?_
    exact g_sub (hk_17 ((Int32.ofInt (0))) h) ⟨rfl, trivial⟩
  · have h := x_neg c_9 h
    refine g_iconst (v := Int32.ofInt (1)) C dMo_readSieve_12 (by decide) ?_
    refine g_goto 17 C dMo_readSieve_13 (by decide) ?_
    exact g_sub (hk_17 ((Int32.ofInt (1))) h) ⟨rfl, trivial⟩
def F_Mo_readLiner (N : Nat) (O : WO) (I0 : WI) (J0 : WJ) (a0 : Nat) : Option (WI × WJ) := jn (fun (s0_17 : Int32) => bd2 (F_Mo_once N O I0 J0 a0 s0_17) fun I1 J1 => bd3 (F_Mo_readWhole N O I1 J1 a0 (Int32.ofInt (1)) (Int32.ofInt (200))) fun z_29 I2 J2 => lb (up2 I2 (rf O a0 4) 4 z_29) fun I3 => some (I3, J2)) fun k_17 => if ((I0 (rf O a0 4) 4)).toInt = (-1) then (k_17 ((Int32.ofInt (0)))) else (k_17 ((Int32.ofInt (1))))
set_option maxHeartbeats 4000000 in
set_option maxRecDepth 100000 in
theorem f_Mo_readLiner {P : List Nat} {K : Nat → Nat} {N : Nat} {O : WO} {I0 : WI} {J0 : WJ} (hT : TR P K O) {a0 : Nat} (h0 : a0 ∈ P ∧ K a0 = 10) (hN4 : NN P K O a0 4 9) {I' : WI} {J' : WJ} (h : F_Mo_readLiner N O I0 J0 a0 = some (I', J')) : Con yMo_readLiner bMo_readLiner 1 none ({ frames := 3, cells := 0, slots := 0, locals := 66 } : Room) P K I0 O J0 [.ref a0] (EPo none I' J' P K O) := by
  refine Con.ofG mfMo_readLiner (Nat.le_of_ble_eq_true rfl) ?_
  intro X C E
  unfold F_Mo_readLiner at h
  refine g_aload_n C dMo_readLiner_0 rfl ?_
  refine g_aload_n C dMo_readLiner_1 rfl ?_
  refine gt_getS C dMo_readLiner_2 fl_Mo_172 h0 hN4.1 ?_
  refine g_geti C dMo_readLiner_5 fl_Mo_183 hN4.2 ?_
  refine g_iconst (v := Int32.ofInt (-1)) C dMo_readLiner_8 (by decide) ?_
  refine x_jn h (fun (k_17 : Int32 → Option (WI × WJ)) => ∀ (s0_17 : Int32), k_17 s0_17 = some (I', J') → GG X 1 P K I0 O J0 0 0 17 [(0, .ref a0)] [.int s0_17, .ref a0]) (fun s0_17 h => ?_) (fun k_17 hk_17 h => ?_)
  · skip
    obtain ⟨I1, J1, e_17, h⟩ := bd2_some h
    refine x_callVv (av := fun ad => [.int s0_17]) C dMo_readLiner_17 mfMo_once mvMo_once ln_Mo_218 h0 (by decide) rfl (f_Mo_once hT h0 e_17) rfl rfl (Nat.le_of_ble_eq_true rfl) ⟨Nat.le_of_ble_eq_true rfl, Nat.le_of_ble_eq_true rfl⟩ ⟨rfl, rfl⟩ ⟨Nat.zero_le _, Nat.zero_le _⟩ ?_
    refine g_aload_n C dMo_readLiner_20 rfl ?_
    refine gt_getS C dMo_readLiner_21 fl_Mo_172 h0 hN4.1 ?_
    refine g_aload_n C dMo_readLiner_24 rfl ?_
    refine g_iconst (v := Int32.ofInt (1)) C dMo_readLiner_25 (by decide) ?_
    refine g_sipush (v := Int32.ofInt (200)) C dMo_readLiner_26 (by decide) ?_
    obtain ⟨z_29, I2, J2, e_29, h⟩ := bd3_some h
    refine x_callVi (av := fun ad => [.int (Int32.ofInt (1)), .int (Int32.ofInt (200))]) C dMo_readLiner_29 mfMo_readWhole mvMo_readWhole ln_Mo_227 h0 (by decide) rfl (f_Mo_readWhole hT h0 e_29) rfl rfl (Nat.le_of_ble_eq_true rfl) ⟨Nat.le_of_ble_eq_true rfl, Nat.le_of_ble_eq_true rfl⟩ ⟨rfl, rfl⟩ ⟨Nat.zero_le _, Nat.zero_le _⟩ ?_
    refine x_puti C dMo_readLiner_32 fl_Mo_183 hN4.2 rfl (Or.inl rfl) h (fun I3 h => ?_)
    exact x_vret2 C E dMo_readLiner_35 ⟨Nat.zero_le _, Nat.zero_le _⟩ h
  refine gt_icmp_eq 16 C dMo_readLiner_9 (by decide) rfl (ofI (by decide)) (fun c_9 => ?_) (fun c_9 => ?_)
  · have h := x_pos c_9 h
    refine g_iconst (v := Int32.ofInt (0)) C dMo_readLiner_16 (by decide) ?_
    exact g_sub (hk_17 ((Int32.ofInt (0))) h) ⟨rfl, trivial⟩
  · have h := x_neg c_9 h
    refine g_iconst (v := Int32.ofInt (1)) C dMo_readLiner_12 (by decide) ?_
    refine g_goto 17 C dMo_readLiner_13 (by decide) ?_
    exact g_sub (hk_17 ((Int32.ofInt (1))) h) ⟨rfl, trivial⟩
def F_Mo_readBin (N : Nat) (O : WO) (I0 : WI) (J0 : WJ) (a0 : Nat) : Option (WI × WJ) := jn (fun (s0_17 : Int32) => bd2 (F_Mo_once N O I0 J0 a0 s0_17) fun I1 J1 => bd3 (F_Mo_readWhole N O I1 J1 a0 (Int32.ofInt (1)) (Int32.ofInt (999))) fun z_29 I2 J2 => lb (up2 I2 (rf O a0 4) 5 z_29) fun I3 => bd2 (F_Mo_needWord N O I3 J2 a0 26) fun I4 J4 => bd3 (F_Mo_readWhole N O I4 J4 a0 (Int32.ofInt (0)) (Int32.ofInt (200))) fun z_50 I5 J5 => lb (up2 I5 (rf O a0 4) 6 z_50) fun I6 => some (I6, J5)) fun k_17 => if ((I0 (rf O a0 4) 5)).toInt = (-1) then (k_17 ((Int32.ofInt (0)))) else (k_17 ((Int32.ofInt (1))))
set_option maxHeartbeats 4000000 in
set_option maxRecDepth 100000 in
theorem f_Mo_readBin {P : List Nat} {K : Nat → Nat} {N : Nat} {O : WO} {I0 : WI} {J0 : WJ} (hT : TR P K O) {a0 : Nat} (h0 : a0 ∈ P ∧ K a0 = 10) (hN4 : NN P K O a0 4 9) {I' : WI} {J' : WJ} (h : F_Mo_readBin N O I0 J0 a0 = some (I', J')) : Con yMo_readBin bMo_readBin 1 none ({ frames := 7, cells := 0, slots := 0, locals := 150 } : Room) P K I0 O J0 [.ref a0] (EPo none I' J' P K O) := by
  refine Con.ofG mfMo_readBin (Nat.le_of_ble_eq_true rfl) ?_
  intro X C E
  unfold F_Mo_readBin at h
  refine g_aload_n C dMo_readBin_0 rfl ?_
  refine g_aload_n C dMo_readBin_1 rfl ?_
  refine gt_getS C dMo_readBin_2 fl_Mo_172 h0 hN4.1 ?_
  refine g_geti C dMo_readBin_5 fl_Mo_186 hN4.2 ?_
  refine g_iconst (v := Int32.ofInt (-1)) C dMo_readBin_8 (by decide) ?_
  refine x_jn h (fun (k_17 : Int32 → Option (WI × WJ)) => ∀ (s0_17 : Int32), k_17 s0_17 = some (I', J') → GG X 1 P K I0 O J0 0 0 17 [(0, .ref a0)] [.int s0_17, .ref a0]) (fun s0_17 h => ?_) (fun k_17 hk_17 h => ?_)
  · skip
    obtain ⟨I1, J1, e_17, h⟩ := bd2_some h
    refine x_callVv (av := fun ad => [.int s0_17]) C dMo_readBin_17 mfMo_once mvMo_once ln_Mo_218 h0 (by decide) rfl (f_Mo_once hT h0 e_17) rfl rfl (Nat.le_of_ble_eq_true rfl) ⟨Nat.le_of_ble_eq_true rfl, Nat.le_of_ble_eq_true rfl⟩ ⟨rfl, rfl⟩ ⟨Nat.zero_le _, Nat.zero_le _⟩ ?_
    refine g_aload_n C dMo_readBin_20 rfl ?_
    refine gt_getS C dMo_readBin_21 fl_Mo_172 h0 hN4.1 ?_
    refine g_aload_n C dMo_readBin_24 rfl ?_
    refine g_iconst (v := Int32.ofInt (1)) C dMo_readBin_25 (by decide) ?_
    refine g_sipush (v := Int32.ofInt (999)) C dMo_readBin_26 (by decide) ?_
    obtain ⟨z_29, I2, J2, e_29, h⟩ := bd3_some h
    refine x_callVi (av := fun ad => [.int (Int32.ofInt (1)), .int (Int32.ofInt (999))]) C dMo_readBin_29 mfMo_readWhole mvMo_readWhole ln_Mo_227 h0 (by decide) rfl (f_Mo_readWhole hT h0 e_29) rfl rfl (Nat.le_of_ble_eq_true rfl) ⟨Nat.le_of_ble_eq_true rfl, Nat.le_of_ble_eq_true rfl⟩ ⟨rfl, rfl⟩ ⟨Nat.zero_le _, Nat.zero_le _⟩ ?_
    refine x_puti C dMo_readBin_32 fl_Mo_186 hN4.2 rfl (Or.inl rfl) h (fun I3 h => ?_)
    refine g_aload_n C dMo_readBin_35 rfl ?_
    refine g_ldcS 26 C dMo_readBin_36 rfl ?_
    obtain ⟨I4, J4, e_38, h⟩ := bd2_some h
    refine x_callVv (av := fun ad => [.ref (ad.1 26)]) C dMo_readBin_38 mfMo_needWord mvMo_needWord ln_Mo_223 h0 (by decide) rfl (f_Mo_needWord hT h0 (by decide) e_38) rfl rfl (Nat.le_of_ble_eq_true rfl) ⟨Nat.le_of_ble_eq_true rfl, Nat.le_of_ble_eq_true rfl⟩ ⟨rfl, rfl⟩ ⟨Nat.zero_le _, Nat.zero_le _⟩ ?_
    refine g_aload_n C dMo_readBin_41 rfl ?_
    refine gt_getS C dMo_readBin_42 fl_Mo_172 h0 hN4.1 ?_
    refine g_aload_n C dMo_readBin_45 rfl ?_
    refine g_iconst (v := Int32.ofInt (0)) C dMo_readBin_46 (by decide) ?_
    refine g_sipush (v := Int32.ofInt (200)) C dMo_readBin_47 (by decide) ?_
    obtain ⟨z_50, I5, J5, e_50, h⟩ := bd3_some h
    refine x_callVi (av := fun ad => [.int (Int32.ofInt (0)), .int (Int32.ofInt (200))]) C dMo_readBin_50 mfMo_readWhole mvMo_readWhole ln_Mo_227 h0 (by decide) rfl (f_Mo_readWhole hT h0 e_50) rfl rfl (Nat.le_of_ble_eq_true rfl) ⟨Nat.le_of_ble_eq_true rfl, Nat.le_of_ble_eq_true rfl⟩ ⟨rfl, rfl⟩ ⟨Nat.zero_le _, Nat.zero_le _⟩ ?_
    refine x_puti C dMo_readBin_53 fl_Mo_252 hN4.2 rfl (Or.inl rfl) h (fun I6 h => ?_)
    exact x_vret2 C E dMo_readBin_56 ⟨Nat.zero_le _, Nat.zero_le _⟩ h
  refine gt_icmp_eq 16 C dMo_readBin_9 (by decide) rfl (ofI (by decide)) (fun c_9 => ?_) (fun c_9 => ?_)
  · have h := x_pos c_9 h
    refine g_iconst (v := Int32.ofInt (0)) C dMo_readBin_16 (by decide) ?_
    exact g_sub (hk_17 ((Int32.ofInt (0))) h) ⟨rfl, trivial⟩
  · have h := x_neg c_9 h
    refine g_iconst (v := Int32.ofInt (1)) C dMo_readBin_12 (by decide) ?_
    refine g_goto 17 C dMo_readBin_13 (by decide) ?_
    exact g_sub (hk_17 ((Int32.ofInt (1))) h) ⟨rfl, trivial⟩
def B_Mo_readPrices_21 (N : Nat) (O : WO) (a0 : Nat) (rec_21 : Int32 → WI → WJ → Option (WI × WJ)) (x1_21 : Int32) (I_21 : WI) (J_21 : WJ) : Option (WI × WJ) := if (x1_21).toInt = 0 then (some (I_21, J_21)) else (lb ((I_21 a0 10)) fun v2_29 => bd3 (F_Mo_readWhole N O I_21 J_21 a0 (Int32.ofInt (0)) (Int32.ofInt (99))) fun z_34 I2 J2 => jn (fun (IJ_56 : WI) => if ((IJ_56 a0 9)).toInt = 5 then (some (IJ_56, J2)) else (if 0 ≤ ((IJ_56 (rf O a0 4) 7)).toInt ∧ ((IJ_56 (rf O a0 4) 7)).toInt < 6 then (lb (up2 IJ_56 (rf O (rf O a0 4) 11) ((IJ_56 (rf O a0 4) 7)).toInt.toNat z_34) fun I3 => lb (up2 I3 (rf O a0 4) 7 ((I3 (rf O a0 4) 7) + (Int32.ofInt (1)))) fun I4 => bd1 (F_Mo_is N O I4 J2 a0 (Int32.ofInt (44))) fun z_97 => jn (fun (IJ_109 : WI) (JJ_109 : WJ) => rec_21 (z_97) IJ_109 JJ_109) fun k_109 => if (z_97).toInt = 0 then (k_109  I4 J2) else (bd2 (F_Mo_next N O I4 J2 a0) fun I6 J6 => k_109  I6 J6)) else none)) fun k_56 => if ((I2 (rf O a0 4) 7)).toInt = 6 then (bd1 (F_Mo_wrongHere N O I2 J2 a0 (Int32.ofInt (5)) v2_29) fun I7 => k_56  I7) else (k_56  I2))
def F_Mo_readPrices (N : Nat) (O : WO) (I0 : WI) (J0 : WJ) (a0 : Nat) : Option (WI × WJ) := jn (fun (s0_16 : Int32) => bd2 (F_Mo_once N O I0 J0 a0 s0_16) fun I1 J1 => lp (B_Mo_readPrices_21 N O a0) (fun _ _ _ => none) N ((Int32.ofInt (1))) I1 J1) fun k_16 => if ((I0 (rf O a0 4) 7)).toInt ≤ 0 then (k_16 ((Int32.ofInt (0)))) else (k_16 ((Int32.ofInt (1))))
set_option maxHeartbeats 4000000 in
set_option maxRecDepth 100000 in
theorem f_Mo_readPrices {P : List Nat} {K : Nat → Nat} {N : Nat} {O : WO} {I0 : WI} {J0 : WJ} (hT : TR P K O) {a0 : Nat} (h0 : a0 ∈ P ∧ K a0 = 10) (hN4 : NN P K O a0 4 9) {I' : WI} {J' : WJ} (h : F_Mo_readPrices N O I0 J0 a0 = some (I', J')) : Con yMo_readPrices bMo_readPrices 4 none ({ frames := 3, cells := 0, slots := 0, locals := 66 } : Room) P K I0 O J0 [.ref a0] (EPo none I' J' P K O) := by
  refine Con.ofG mfMo_readPrices (Nat.le_of_ble_eq_true rfl) ?_
  intro X C E
  unfold F_Mo_readPrices at h
  refine g_aload_n C dMo_readPrices_0 rfl ?_
  refine g_aload_n C dMo_readPrices_1 rfl ?_
  refine gt_getS C dMo_readPrices_2 fl_Mo_172 h0 hN4.1 ?_
  refine g_geti C dMo_readPrices_5 fl_Mo_188 hN4.2 ?_
  refine x_jn h (fun (k_16 : Int32 → Option (WI × WJ)) => ∀ (s0_16 : Int32), k_16 s0_16 = some (I', J') → GG X 4 P K I0 O J0 0 0 16 [(0, .ref a0)] [.int s0_16, .ref a0]) (fun s0_16 h => ?_) (fun k_16 hk_16 h => ?_)
  · skip
    obtain ⟨I1, J1, e_16, h⟩ := bd2_some h
    refine x_callVv (av := fun ad => [.int s0_16]) C dMo_readPrices_16 mfMo_once mvMo_once ln_Mo_218 h0 (by decide) rfl (f_Mo_once hT h0 e_16) rfl rfl (Nat.le_of_ble_eq_true rfl) ⟨Nat.le_of_ble_eq_true rfl, Nat.le_of_ble_eq_true rfl⟩ ⟨rfl, rfl⟩ ⟨Nat.zero_le _, Nat.zero_le _⟩ ?_
    refine g_iconst (v := Int32.ofInt (1)) C dMo_readPrices_19 (by decide) ?_
    refine g_istore_n (i := 1) C dMo_readPrices_20 rfl (by decide) ?_
    have lp_21 : ∀ (x1_21 : Int32) (I_21 : WI) (J_21 : WJ), lp (B_Mo_readPrices_21 N O a0) (fun _ _ _ => none) N x1_21 I_21 J_21 = some (I', J') → GG X 4 P K I_21 O J_21 0 0 21 [(0, .ref a0), (1, .int x1_21)] [] := by
      refine x_lp (fun (rec_21 : Int32 → WI → WJ → Option (WI × WJ)) => ∀ (x1_21 : Int32) (I_21 : WI) (J_21 : WJ), rec_21 x1_21 I_21 J_21 = some (I', J') → GG X 4 P K I_21 O J_21 0 0 21 [(0, .ref a0), (1, .int x1_21)] []) (fun _ _ _ h => by cases h) (fun rec_21 hr_21 x1_21 I_21 J_21 h => ?_) N
      unfold B_Mo_readPrices_21 at h
      refine g_iload_n C dMo_readPrices_21 rfl ?_
      refine gt_if_eq 112 C dMo_readPrices_22 (by decide) rfl (fun c_22 => ?_) (fun c_22 => ?_)
      · have h := x_pos c_22 h
        exact x_vret2 C E dMo_readPrices_112 ⟨Nat.zero_le _, Nat.zero_le _⟩ h
      · have h := x_neg c_22 h
        refine g_aload_n C dMo_readPrices_25 rfl ?_
        refine g_geti C dMo_readPrices_26 fl_Mo_104 h0 ?_
        refine x_istore_n (i := 2) C dMo_readPrices_29 rfl (by decide) h (fun v2_29 h => ?_)
        refine g_aload_n C dMo_readPrices_30 rfl ?_
        refine g_iconst (v := Int32.ofInt (0)) C dMo_readPrices_31 (by decide) ?_
        refine g_bipush (v := Int32.ofInt (99)) C dMo_readPrices_32 (by decide) ?_
        obtain ⟨z_34, I2, J2, e_34, h⟩ := bd3_some h
        refine x_callVi (av := fun ad => [.int (Int32.ofInt (0)), .int (Int32.ofInt (99))]) C dMo_readPrices_34 mfMo_readWhole mvMo_readWhole ln_Mo_227 h0 (by decide) rfl (f_Mo_readWhole hT h0 e_34) rfl rfl (Nat.le_of_ble_eq_true rfl) ⟨Nat.le_of_ble_eq_true rfl, Nat.le_of_ble_eq_true rfl⟩ ⟨rfl, rfl⟩ ⟨Nat.zero_le _, Nat.zero_le _⟩ ?_
        refine g_istore_n (i := 3) C dMo_readPrices_37 rfl (by decide) ?_
        refine g_aload_n C dMo_readPrices_38 rfl ?_
        refine gt_getS C dMo_readPrices_39 fl_Mo_172 h0 hN4.1 ?_
        refine g_geti C dMo_readPrices_42 fl_Mo_188 hN4.2 ?_
        refine g_bipush (v := Int32.ofInt (6)) C dMo_readPrices_45 (by decide) ?_
        refine x_jn h (fun (k_56 : WI → Option (WI × WJ)) => ∀ (IJ_56 : WI), k_56 IJ_56 = some (I', J') → GG X 4 P K IJ_56 O J2 0 0 56 [(0, .ref a0), (1, .int x1_21), (2, .int v2_29), (3, .int z_34)] []) (fun IJ_56 h => ?_) (fun k_56 hk_56 h => ?_)
        · skip
          refine g_aload_n C dMo_readPrices_56 rfl ?_
          refine g_geti C dMo_readPrices_57 fl_Mo_94 h0 ?_
          refine g_iconst (v := Int32.ofInt (5)) C dMo_readPrices_60 (by decide) ?_
          refine gt_icmp_ne 65 C dMo_readPrices_61 (by decide) rfl (ofI (by decide)) (fun c_61 => ?_) (fun c_61 => ?_)
          · have h := x_neg c_61 h
            refine g_aload_n C dMo_readPrices_65 rfl ?_
            refine gt_getS C dMo_readPrices_66 fl_Mo_172 h0 hN4.1 ?_
            have t_69 := rf_ok hT hN4.2 (show sp 9 11 = some 42 from rfl)
            refine x_getr C dMo_readPrices_69 fl_Mo_254 hN4.2 hT (show sp 9 11 = some 42 from rfl) ?_
            refine g_aload_n C dMo_readPrices_72 rfl ?_
            refine gt_getS C dMo_readPrices_73 fl_Mo_172 h0 hN4.1 ?_
            refine g_geti C dMo_readPrices_76 fl_Mo_188 hN4.2 ?_
            refine g_iload_n C dMo_readPrices_79 rfl ?_
            obtain ⟨g_80, h⟩ := x_g h
            refine x_iast (m := 6) C dMo_readPrices_80 t_69 (by decide) rfl rfl g_80 h (fun I3 h => ?_)
            refine g_aload_n C dMo_readPrices_81 rfl ?_
            refine gt_getS C dMo_readPrices_82 fl_Mo_172 h0 hN4.1 ?_
            refine g_dup C dMo_readPrices_85 rfl ?_
            refine g_geti C dMo_readPrices_86 fl_Mo_188 hN4.2 ?_
            refine g_iconst (v := Int32.ofInt (1)) C dMo_readPrices_89 (by decide) ?_
            refine g_iadd C dMo_readPrices_90 ?_
            refine x_puti C dMo_readPrices_91 fl_Mo_188 hN4.2 rfl (Or.inl rfl) h (fun I4 h => ?_)
            refine g_aload_n C dMo_readPrices_94 rfl ?_
            refine g_bipush (v := Int32.ofInt (44)) C dMo_readPrices_95 (by decide) ?_
            obtain ⟨z_97, e_97, h⟩ := bd1_some h
            refine x_callVi (av := fun ad => [.int (Int32.ofInt (44))]) C dMo_readPrices_97 mfMo_is mvMo_is ln_Mo_169 h0 (by decide) rfl (f_Mo_is hT h0 e_97) rfl rfl (Nat.le_of_ble_eq_true rfl) ⟨Nat.le_of_ble_eq_true rfl, Nat.le_of_ble_eq_true rfl⟩ ⟨rfl, rfl⟩ ⟨Nat.zero_le _, Nat.zero_le _⟩ ?_
            refine g_istore_n (i := 1) C dMo_readPrices_100 rfl (by decide) ?_
            refine g_iload_n C dMo_readPrices_101 rfl ?_
            refine x_jn h (fun (k_109 : WI → WJ → Option (WI × WJ)) => ∀ (IJ_109 : WI) (JJ_109 : WJ), k_109 IJ_109 JJ_109 = some (I', J') → GG X 4 P K IJ_109 O JJ_109 0 0 109 [(0, .ref a0), (1, .int z_97), (2, .int v2_29), (3, .int z_34)] []) (fun IJ_109 JJ_109 h => ?_) (fun k_109 hk_109 h => ?_)
            · skip
              refine g_goto 21 C dMo_readPrices_109 (by decide) ?_
              exact g_sub (hr_21 (z_97) IJ_109 JJ_109 h) ⟨rfl, rfl, trivial⟩
            refine gt_if_eq 109 C dMo_readPrices_102 (by decide) rfl (fun c_102 => ?_) (fun c_102 => ?_)
            · have h := x_pos c_102 h
              exact g_sub (hk_109  I4 J2 h) ⟨rfl, rfl, rfl, rfl, trivial⟩
            · have h := x_neg c_102 h
              refine g_aload_n C dMo_readPrices_105 rfl ?_
              obtain ⟨I6, J6, e_106, h⟩ := bd2_some h
              refine x_callVv (av := fun ad => []) C dMo_readPrices_106 mfMo_next mvMo_next ln_Mo_146 h0 (by decide) rfl (f_Mo_next hT h0 e_106) rfl rfl (Nat.le_of_ble_eq_true rfl) ⟨Nat.le_of_ble_eq_true rfl, Nat.le_of_ble_eq_true rfl⟩ ⟨rfl, rfl⟩ ⟨Nat.zero_le _, Nat.zero_le _⟩ ?_
              exact g_sub (hk_109  I6 J6 h) ⟨rfl, rfl, rfl, rfl, trivial⟩
          · have h := x_pos c_61 h
            exact x_vret2 C E dMo_readPrices_64 ⟨Nat.zero_le _, Nat.zero_le _⟩ h
        refine gt_icmp_ne 56 C dMo_readPrices_47 (by decide) rfl (ofI (by decide)) (fun c_47 => ?_) (fun c_47 => ?_)
        · have h := x_neg c_47 h
          exact g_sub (hk_56  I2 h) ⟨rfl, rfl, rfl, rfl, trivial⟩
        · have h := x_pos c_47 h
          refine g_aload_n C dMo_readPrices_50 rfl ?_
          refine g_iconst (v := Int32.ofInt (5)) C dMo_readPrices_51 (by decide) ?_
          refine g_iload_n C dMo_readPrices_52 rfl ?_
          obtain ⟨I7, e_53, h⟩ := bd1_some h
          refine x_callVv (av := fun ad => [.int (Int32.ofInt (5)), .int v2_29]) C dMo_readPrices_53 mfMo_wrongHere mvMo_wrongHere ln_Mo_124 h0 (by decide) rfl (f_Mo_wrongHere hT h0 e_53) rfl rfl (Nat.le_of_ble_eq_true rfl) ⟨Nat.le_of_ble_eq_true rfl, Nat.le_of_ble_eq_true rfl⟩ ⟨rfl, rfl⟩ ⟨Nat.zero_le _, Nat.zero_le _⟩ ?_
          exact g_sub (hk_56  I7 h) ⟨rfl, rfl, rfl, rfl, trivial⟩
    exact g_sub (lp_21 ((Int32.ofInt (1))) I1 J1 h) ⟨rfl, rfl, trivial⟩
  refine gt_if_le 15 C dMo_readPrices_8 (by decide) rfl (fun c_8 => ?_) (fun c_8 => ?_)
  · have h := x_pos c_8 h
    refine g_iconst (v := Int32.ofInt (0)) C dMo_readPrices_15 (by decide) ?_
    exact g_sub (hk_16 ((Int32.ofInt (0))) h) ⟨rfl, trivial⟩
  · have h := x_neg (Int.not_le.mpr c_8) h
    refine g_iconst (v := Int32.ofInt (1)) C dMo_readPrices_11 (by decide) ?_
    refine g_goto 16 C dMo_readPrices_12 (by decide) ?_
    exact g_sub (hk_16 ((Int32.ofInt (1))) h) ⟨rfl, trivial⟩
def F_Mo_readFresh (N : Nat) (O : WO) (I0 : WI) (J0 : WJ) (a0 : Nat) (x1 : Int32) : Option (WI × WJ) := bd1 (F_Mo_isName N O I0 J0 a0) fun z_1 => jn (fun (IJ_12 : WI) => bd1 (F_Mx_find N O IJ_12 J0 (rf O a0 4) (J0 a0 15)) fun z_20 => jn (fun (IJ_32 : WI) => if ((IJ_32 a0 9)).toInt = 5 then (some (IJ_32, J0)) else (if 0 ≤ ((IJ_32 (rf O a0 4) 10)).toInt ∧ ((IJ_32 (rf O a0 4) 10)).toInt < 9 then (lb (up2 J0 (rf O (rf O a0 4) 16) ((IJ_32 (rf O a0 4) 10)).toInt.toNat (J0 a0 15)) fun J3 => if 0 ≤ ((IJ_32 (rf O a0 4) 10)).toInt ∧ ((IJ_32 (rf O a0 4) 10)).toInt < 9 then (lb (up2 IJ_32 (rf O (rf O a0 4) 17) ((IJ_32 (rf O a0 4) 10)).toInt.toNat x1) fun I4 => lb (up2 I4 (rf O a0 4) 10 ((I4 (rf O a0 4) 10) + (Int32.ofInt (1)))) fun I5 => bd2 (F_Mo_next N O I5 J3 a0) fun I6 J6 => some (I6, J6)) else none) else none)) fun k_32 => if (z_20).toInt = (-1) then (k_32  IJ_12) else (bd1 (F_Mo_wrong N O IJ_12 J0 a0 (Int32.ofInt (3))) fun I7 => k_32  I7)) fun k_12 => if (z_1).toInt = 0 then (bd1 (F_Mo_wrong N O I0 J0 a0 (Int32.ofInt (1))) fun I8 => k_12  I8) else (k_12  I0)
set_option maxHeartbeats 4000000 in
set_option maxRecDepth 100000 in
theorem f_Mo_readFresh {P : List Nat} {K : Nat → Nat} {N : Nat} {O : WO} {I0 : WI} {J0 : WJ} (hT : TR P K O) {a0 : Nat} (h0 : a0 ∈ P ∧ K a0 = 10) {x1 : Int32} (hN4 : NN P K O a0 4 9) {I' : WI} {J' : WJ} (h : F_Mo_readFresh N O I0 J0 a0 x1 = some (I', J')) : Con yMo_readFresh bMo_readFresh 2 none ({ frames := 7, cells := 0, slots := 0, locals := 149 } : Room) P K I0 O J0 [.ref a0, .int x1] (EPo none I' J' P K O) := by
  refine Con.ofG mfMo_readFresh (Nat.le_of_ble_eq_true rfl) ?_
  intro X C E
  unfold F_Mo_readFresh at h
  refine g_aload_n C dMo_readFresh_0 rfl ?_
  obtain ⟨z_1, e_1, h⟩ := bd1_some h
  refine x_callVi (av := fun ad => []) C dMo_readFresh_1 mfMo_isName mvMo_isName ln_Mo_235 h0 (by decide) rfl (f_Mo_isName hT h0 e_1) rfl rfl (Nat.le_of_ble_eq_true rfl) ⟨Nat.le_of_ble_eq_true rfl, Nat.le_of_ble_eq_true rfl⟩ ⟨rfl, rfl⟩ ⟨Nat.zero_le _, Nat.zero_le _⟩ ?_
  refine x_jn h (fun (k_12 : WI → Option (WI × WJ)) => ∀ (IJ_12 : WI), k_12 IJ_12 = some (I', J') → GG X 2 P K IJ_12 O J0 0 0 12 [(0, .ref a0), (1, .int x1)] []) (fun IJ_12 h => ?_) (fun k_12 hk_12 h => ?_)
  · skip
    refine g_aload_n C dMo_readFresh_12 rfl ?_
    refine gt_getS C dMo_readFresh_13 fl_Mo_172 h0 hN4.1 ?_
    refine g_aload_n C dMo_readFresh_16 rfl ?_
    refine g_getl C dMo_readFresh_17 fl_Mo_114 h0 ?_
    obtain ⟨z_20, e_20, h⟩ := bd1_some h
    refine x_callVi (av := fun ad => [.long (J0 a0 15)]) C dMo_readFresh_20 mfMx_find mvMx_find ln_Mo_239 hN4.2 (by decide) rfl (f_Mx_find hT hN4.2 e_20) rfl rfl (Nat.le_of_ble_eq_true rfl) ⟨Nat.le_of_ble_eq_true rfl, Nat.le_of_ble_eq_true rfl⟩ ⟨rfl, rfl⟩ ⟨Nat.zero_le _, Nat.zero_le _⟩ ?_
    refine g_iconst (v := Int32.ofInt (-1)) C dMo_readFresh_23 (by decide) ?_
    refine x_jn h (fun (k_32 : WI → Option (WI × WJ)) => ∀ (IJ_32 : WI), k_32 IJ_32 = some (I', J') → GG X 2 P K IJ_32 O J0 0 0 32 [(0, .ref a0), (1, .int x1)] []) (fun IJ_32 h => ?_) (fun k_32 hk_32 h => ?_)
    · skip
      refine g_aload_n C dMo_readFresh_32 rfl ?_
      refine g_geti C dMo_readFresh_33 fl_Mo_94 h0 ?_
      refine g_iconst (v := Int32.ofInt (5)) C dMo_readFresh_36 (by decide) ?_
      refine gt_icmp_ne 41 C dMo_readFresh_37 (by decide) rfl (ofI (by decide)) (fun c_37 => ?_) (fun c_37 => ?_)
      · have h := x_neg c_37 h
        refine g_aload_n C dMo_readFresh_41 rfl ?_
        refine gt_getS C dMo_readFresh_42 fl_Mo_172 h0 hN4.1 ?_
        have t_45 := rf_ok hT hN4.2 (show sp 9 16 = some 46 from rfl)
        refine x_getr C dMo_readFresh_45 fl_Mo_256 hN4.2 hT (show sp 9 16 = some 46 from rfl) ?_
        refine g_aload_n C dMo_readFresh_48 rfl ?_
        refine gt_getS C dMo_readFresh_49 fl_Mo_172 h0 hN4.1 ?_
        refine g_geti C dMo_readFresh_52 fl_Mo_259 hN4.2 ?_
        refine g_aload_n C dMo_readFresh_55 rfl ?_
        refine g_getl C dMo_readFresh_56 fl_Mo_114 h0 ?_
        obtain ⟨g_59, h⟩ := x_g h
        refine x_last (m := 9) C dMo_readFresh_59 t_45 (by decide) rfl rfl g_59 h (fun J3 h => ?_)
        refine g_aload_n C dMo_readFresh_60 rfl ?_
        refine gt_getS C dMo_readFresh_61 fl_Mo_172 h0 hN4.1 ?_
        have t_64 := rf_ok hT hN4.2 (show sp 9 17 = some 47 from rfl)
        refine x_getr C dMo_readFresh_64 fl_Mo_243 hN4.2 hT (show sp 9 17 = some 47 from rfl) ?_
        refine g_aload_n C dMo_readFresh_67 rfl ?_
        refine gt_getS C dMo_readFresh_68 fl_Mo_172 h0 hN4.1 ?_
        refine g_geti C dMo_readFresh_71 fl_Mo_259 hN4.2 ?_
        refine g_iload_n C dMo_readFresh_74 rfl ?_
        obtain ⟨g_75, h⟩ := x_g h
        refine x_iast (m := 9) C dMo_readFresh_75 t_64 (by decide) rfl rfl g_75 h (fun I4 h => ?_)
        refine g_aload_n C dMo_readFresh_76 rfl ?_
        refine gt_getS C dMo_readFresh_77 fl_Mo_172 h0 hN4.1 ?_
        refine g_dup C dMo_readFresh_80 rfl ?_
        refine g_geti C dMo_readFresh_81 fl_Mo_259 hN4.2 ?_
        refine g_iconst (v := Int32.ofInt (1)) C dMo_readFresh_84 (by decide) ?_
        refine g_iadd C dMo_readFresh_85 ?_
        refine x_puti C dMo_readFresh_86 fl_Mo_259 hN4.2 rfl (Or.inl rfl) h (fun I5 h => ?_)
        refine g_aload_n C dMo_readFresh_89 rfl ?_
        obtain ⟨I6, J6, e_90, h⟩ := bd2_some h
        refine x_callVv (av := fun ad => []) C dMo_readFresh_90 mfMo_next mvMo_next ln_Mo_146 h0 (by decide) rfl (f_Mo_next hT h0 e_90) rfl rfl (Nat.le_of_ble_eq_true rfl) ⟨Nat.le_of_ble_eq_true rfl, Nat.le_of_ble_eq_true rfl⟩ ⟨rfl, rfl⟩ ⟨Nat.zero_le _, Nat.zero_le _⟩ ?_
        exact x_vret2 C E dMo_readFresh_93 ⟨Nat.zero_le _, Nat.zero_le _⟩ h
      · have h := x_pos c_37 h
        exact x_vret2 C E dMo_readFresh_40 ⟨Nat.zero_le _, Nat.zero_le _⟩ h
    refine gt_icmp_eq 32 C dMo_readFresh_24 (by decide) rfl (ofI (by decide)) (fun c_24 => ?_) (fun c_24 => ?_)
    · have h := x_pos c_24 h
      exact g_sub (hk_32  IJ_12 h) ⟨rfl, rfl, trivial⟩
    · have h := x_neg c_24 h
      refine g_aload_n C dMo_readFresh_27 rfl ?_
      refine g_iconst (v := Int32.ofInt (3)) C dMo_readFresh_28 (by decide) ?_
      obtain ⟨I7, e_29, h⟩ := bd1_some h
      refine x_callVv (av := fun ad => [.int (Int32.ofInt (3))]) C dMo_readFresh_29 mfMo_wrong mvMo_wrong ln_Mo_142 h0 (by decide) rfl (f_Mo_wrong hT h0 e_29) rfl rfl (Nat.le_of_ble_eq_true rfl) ⟨Nat.le_of_ble_eq_true rfl, Nat.le_of_ble_eq_true rfl⟩ ⟨rfl, rfl⟩ ⟨Nat.zero_le _, Nat.zero_le _⟩ ?_
      exact g_sub (hk_32  I7 h) ⟨rfl, rfl, trivial⟩
  refine gt_if_ne 12 C dMo_readFresh_4 (by decide) rfl (fun c_4 => ?_) (fun c_4 => ?_)
  · have h := x_neg c_4 h
    exact g_sub (hk_12  I0 h) ⟨rfl, rfl, trivial⟩
  · have h := x_pos c_4 h
    refine g_aload_n C dMo_readFresh_7 rfl ?_
    refine g_iconst (v := Int32.ofInt (1)) C dMo_readFresh_8 (by decide) ?_
    obtain ⟨I8, e_9, h⟩ := bd1_some h
    refine x_callVv (av := fun ad => [.int (Int32.ofInt (1))]) C dMo_readFresh_9 mfMo_wrong mvMo_wrong ln_Mo_142 h0 (by decide) rfl (f_Mo_wrong hT h0 e_9) rfl rfl (Nat.le_of_ble_eq_true rfl) ⟨Nat.le_of_ble_eq_true rfl, Nat.le_of_ble_eq_true rfl⟩ ⟨rfl, rfl⟩ ⟨Nat.zero_le _, Nat.zero_le _⟩ ?_
    exact g_sub (hk_12  I8 h) ⟨rfl, rfl, trivial⟩
def F_Mo_readSize (N : Nat) (O : WO) (I0 : WI) (J0 : WJ) (a0 : Nat) : Option (WI × WJ) := jn (fun (IJ_16 : WI) => bd2 (F_Mo_next N O IJ_16 J0 a0) fun I1 J1 => bd2 (F_Mo_readFresh N O I1 J1 a0 (I1 (rf O a0 4) 8)) fun I2 J2 => if ((I2 a0 9)).toInt = 5 then (some (I2, J2)) else (bd1 (F_Mo_isWord N O I2 J2 a0 27) fun z_44 => jn (fun (IJ_105 : WI) (JJ_105 : WJ) => lb (up2 IJ_105 (rf O a0 4) 8 ((IJ_105 (rf O a0 4) 8) + (Int32.ofInt (1)))) fun I4 => some (I4, JJ_105)) fun k_105 => if (z_44).toInt = 0 then (k_105  I2 J2) else (bd2 (F_Mo_next N O I2 J2 a0) fun I5 J5 => bd3 (F_Mo_readWhole N O I5 J5 a0 (Int32.ofInt (0)) (Int32.ofInt (100))) fun z_72 I6 J6 => if 0 ≤ ((I5 (rf O a0 4) 8)).toInt ∧ ((I5 (rf O a0 4) 8)).toInt < 5 then (lb (up2 I6 (rf O (rf O a0 4) 12) ((I5 (rf O a0 4) 8)).toInt.toNat z_72) fun I7 => bd2 (F_Mo_needWord N O I7 J6 a0 28) fun I8 J8 => bd3 (F_Mo_readWhole N O I8 J8 a0 (Int32.ofInt (0)) (Int32.ofInt (100))) fun z_101 I9 J9 => if 0 ≤ ((I8 (rf O a0 4) 8)).toInt ∧ ((I8 (rf O a0 4) 8)).toInt < 5 then (lb (up2 I9 (rf O (rf O a0 4) 13) ((I8 (rf O a0 4) 8)).toInt.toNat z_101) fun I10 => k_105  I10 J9) else none) else none))) fun k_16 => if ((I0 (rf O a0 4) 8)).toInt = 5 then (bd1 (F_Mo_wrong N O I0 J0 a0 (Int32.ofInt (5))) fun I11 => k_16  I11) else (k_16  I0)
set_option maxHeartbeats 4000000 in
set_option maxRecDepth 100000 in
theorem f_Mo_readSize {P : List Nat} {K : Nat → Nat} {N : Nat} {O : WO} {I0 : WI} {J0 : WJ} (hT : TR P K O) {a0 : Nat} (h0 : a0 ∈ P ∧ K a0 = 10) (hN4 : NN P K O a0 4 9) {I' : WI} {J' : WJ} (h : F_Mo_readSize N O I0 J0 a0 = some (I', J')) : Con yMo_readSize bMo_readSize 1 none ({ frames := 8, cells := 0, slots := 0, locals := 170 } : Room) P K I0 O J0 [.ref a0] (EPo none I' J' P K O) := by
  refine Con.ofG mfMo_readSize (Nat.le_of_ble_eq_true rfl) ?_
  intro X C E
  unfold F_Mo_readSize at h
  refine g_aload_n C dMo_readSize_0 rfl ?_
  refine gt_getS C dMo_readSize_1 fl_Mo_172 h0 hN4.1 ?_
  refine g_geti C dMo_readSize_4 fl_Mo_191 hN4.2 ?_
  refine g_iconst (v := Int32.ofInt (5)) C dMo_readSize_7 (by decide) ?_
  refine x_jn h (fun (k_16 : WI → Option (WI × WJ)) => ∀ (IJ_16 : WI), k_16 IJ_16 = some (I', J') → GG X 1 P K IJ_16 O J0 0 0 16 [(0, .ref a0)] []) (fun IJ_16 h => ?_) (fun k_16 hk_16 h => ?_)
  · skip
    refine g_aload_n C dMo_readSize_16 rfl ?_
    obtain ⟨I1, J1, e_17, h⟩ := bd2_some h
    refine x_callVv (av := fun ad => []) C dMo_readSize_17 mfMo_next mvMo_next ln_Mo_146 h0 (by decide) rfl (f_Mo_next hT h0 e_17) rfl rfl (Nat.le_of_ble_eq_true rfl) ⟨Nat.le_of_ble_eq_true rfl, Nat.le_of_ble_eq_true rfl⟩ ⟨rfl, rfl⟩ ⟨Nat.zero_le _, Nat.zero_le _⟩ ?_
    refine g_aload_n C dMo_readSize_20 rfl ?_
    refine g_aload_n C dMo_readSize_21 rfl ?_
    refine gt_getS C dMo_readSize_22 fl_Mo_172 h0 hN4.1 ?_
    refine g_geti C dMo_readSize_25 fl_Mo_191 hN4.2 ?_
    obtain ⟨I2, J2, e_28, h⟩ := bd2_some h
    refine x_callVv (av := fun ad => [.int (I1 (rf O a0 4) 8)]) C dMo_readSize_28 mfMo_readFresh mvMo_readFresh ln_Mo_262 h0 (by decide) rfl (f_Mo_readFresh hT h0 hN4 e_28) rfl rfl (Nat.le_of_ble_eq_true rfl) ⟨Nat.le_of_ble_eq_true rfl, Nat.le_of_ble_eq_true rfl⟩ ⟨rfl, rfl⟩ ⟨Nat.zero_le _, Nat.zero_le _⟩ ?_
    refine g_aload_n C dMo_readSize_31 rfl ?_
    refine g_geti C dMo_readSize_32 fl_Mo_94 h0 ?_
    refine g_iconst (v := Int32.ofInt (5)) C dMo_readSize_35 (by decide) ?_
    refine gt_icmp_ne 40 C dMo_readSize_36 (by decide) rfl (ofI (by decide)) (fun c_36 => ?_) (fun c_36 => ?_)
    · have h := x_neg c_36 h
      refine g_aload_n C dMo_readSize_40 rfl ?_
      refine g_ldcwS 27 C dMo_readSize_41 rfl ?_
      obtain ⟨z_44, e_44, h⟩ := bd1_some h
      refine x_callVi (av := fun ad => [.ref (ad.1 27)]) C dMo_readSize_44 mfMo_isWord mvMo_isWord ln_Mo_138 h0 (by decide) rfl (f_Mo_isWord hT h0 (by decide) e_44) rfl rfl (Nat.le_of_ble_eq_true rfl) ⟨Nat.le_of_ble_eq_true rfl, Nat.le_of_ble_eq_true rfl⟩ ⟨rfl, rfl⟩ ⟨Nat.zero_le _, Nat.zero_le _⟩ ?_
      refine x_jn h (fun (k_105 : WI → WJ → Option (WI × WJ)) => ∀ (IJ_105 : WI) (JJ_105 : WJ), k_105 IJ_105 JJ_105 = some (I', J') → GG X 1 P K IJ_105 O JJ_105 0 0 105 [(0, .ref a0)] []) (fun IJ_105 JJ_105 h => ?_) (fun k_105 hk_105 h => ?_)
      · skip
        refine g_aload_n C dMo_readSize_105 rfl ?_
        refine gt_getS C dMo_readSize_106 fl_Mo_172 h0 hN4.1 ?_
        refine g_dup C dMo_readSize_109 rfl ?_
        refine g_geti C dMo_readSize_110 fl_Mo_191 hN4.2 ?_
        refine g_iconst (v := Int32.ofInt (1)) C dMo_readSize_113 (by decide) ?_
        refine g_iadd C dMo_readSize_114 ?_
        refine x_puti C dMo_readSize_115 fl_Mo_191 hN4.2 rfl (Or.inl rfl) h (fun I4 h => ?_)
        exact x_vret2 C E dMo_readSize_118 ⟨Nat.zero_le _, Nat.zero_le _⟩ h
      refine gt_if_eq 105 C dMo_readSize_47 (by decide) rfl (fun c_47 => ?_) (fun c_47 => ?_)
      · have h := x_pos c_47 h
        exact g_sub (hk_105  I2 J2 h) ⟨rfl, trivial⟩
      · have h := x_neg c_47 h
        refine g_aload_n C dMo_readSize_50 rfl ?_
        obtain ⟨I5, J5, e_51, h⟩ := bd2_some h
        refine x_callVv (av := fun ad => []) C dMo_readSize_51 mfMo_next mvMo_next ln_Mo_146 h0 (by decide) rfl (f_Mo_next hT h0 e_51) rfl rfl (Nat.le_of_ble_eq_true rfl) ⟨Nat.le_of_ble_eq_true rfl, Nat.le_of_ble_eq_true rfl⟩ ⟨rfl, rfl⟩ ⟨Nat.zero_le _, Nat.zero_le _⟩ ?_
        refine g_aload_n C dMo_readSize_54 rfl ?_
        refine gt_getS C dMo_readSize_55 fl_Mo_172 h0 hN4.1 ?_
        have t_58 := rf_ok hT hN4.2 (show sp 9 12 = some 43 from rfl)
        refine x_getr C dMo_readSize_58 fl_Mo_267 hN4.2 hT (show sp 9 12 = some 43 from rfl) ?_
        refine g_aload_n C dMo_readSize_61 rfl ?_
        refine gt_getS C dMo_readSize_62 fl_Mo_172 h0 hN4.1 ?_
        refine g_geti C dMo_readSize_65 fl_Mo_191 hN4.2 ?_
        refine g_aload_n C dMo_readSize_68 rfl ?_
        refine g_iconst (v := Int32.ofInt (0)) C dMo_readSize_69 (by decide) ?_
        refine g_bipush (v := Int32.ofInt (100)) C dMo_readSize_70 (by decide) ?_
        obtain ⟨z_72, I6, J6, e_72, h⟩ := bd3_some h
        refine x_callVi (av := fun ad => [.int (Int32.ofInt (0)), .int (Int32.ofInt (100))]) C dMo_readSize_72 mfMo_readWhole mvMo_readWhole ln_Mo_227 h0 (by decide) rfl (f_Mo_readWhole hT h0 e_72) rfl rfl (Nat.le_of_ble_eq_true rfl) ⟨Nat.le_of_ble_eq_true rfl, Nat.le_of_ble_eq_true rfl⟩ ⟨rfl, rfl⟩ ⟨Nat.zero_le _, Nat.zero_le _⟩ ?_
        obtain ⟨g_75, h⟩ := x_g h
        refine x_iast (m := 5) C dMo_readSize_75 t_58 (by decide) rfl rfl g_75 h (fun I7 h => ?_)
        refine g_aload_n C dMo_readSize_76 rfl ?_
        refine g_ldcwS 28 C dMo_readSize_77 rfl ?_
        obtain ⟨I8, J8, e_80, h⟩ := bd2_some h
        refine x_callVv (av := fun ad => [.ref (ad.1 28)]) C dMo_readSize_80 mfMo_needWord mvMo_needWord ln_Mo_223 h0 (by decide) rfl (f_Mo_needWord hT h0 (by decide) e_80) rfl rfl (Nat.le_of_ble_eq_true rfl) ⟨Nat.le_of_ble_eq_true rfl, Nat.le_of_ble_eq_true rfl⟩ ⟨rfl, rfl⟩ ⟨Nat.zero_le _, Nat.zero_le _⟩ ?_
        refine g_aload_n C dMo_readSize_83 rfl ?_
        refine gt_getS C dMo_readSize_84 fl_Mo_172 h0 hN4.1 ?_
        have t_87 := rf_ok hT hN4.2 (show sp 9 13 = some 43 from rfl)
        refine x_getr C dMo_readSize_87 fl_Mo_270 hN4.2 hT (show sp 9 13 = some 43 from rfl) ?_
        refine g_aload_n C dMo_readSize_90 rfl ?_
        refine gt_getS C dMo_readSize_91 fl_Mo_172 h0 hN4.1 ?_
        refine g_geti C dMo_readSize_94 fl_Mo_191 hN4.2 ?_
        refine g_aload_n C dMo_readSize_97 rfl ?_
        refine g_iconst (v := Int32.ofInt (0)) C dMo_readSize_98 (by decide) ?_
        refine g_bipush (v := Int32.ofInt (100)) C dMo_readSize_99 (by decide) ?_
        obtain ⟨z_101, I9, J9, e_101, h⟩ := bd3_some h
        refine x_callVi (av := fun ad => [.int (Int32.ofInt (0)), .int (Int32.ofInt (100))]) C dMo_readSize_101 mfMo_readWhole mvMo_readWhole ln_Mo_227 h0 (by decide) rfl (f_Mo_readWhole hT h0 e_101) rfl rfl (Nat.le_of_ble_eq_true rfl) ⟨Nat.le_of_ble_eq_true rfl, Nat.le_of_ble_eq_true rfl⟩ ⟨rfl, rfl⟩ ⟨Nat.zero_le _, Nat.zero_le _⟩ ?_
        obtain ⟨g_104, h⟩ := x_g h
        refine x_iast (m := 5) C dMo_readSize_104 t_87 (by decide) rfl rfl g_104 h (fun I10 h => ?_)
        exact g_sub (hk_105  I10 J9 h) ⟨rfl, trivial⟩
    · have h := x_pos c_36 h
      exact x_vret2 C E dMo_readSize_39 ⟨Nat.zero_le _, Nat.zero_le _⟩ h
  refine gt_icmp_ne 16 C dMo_readSize_8 (by decide) rfl (ofI (by decide)) (fun c_8 => ?_) (fun c_8 => ?_)
  · have h := x_neg c_8 h
    exact g_sub (hk_16  I0 h) ⟨rfl, trivial⟩
  · have h := x_pos c_8 h
    refine g_aload_n C dMo_readSize_11 rfl ?_
    refine g_iconst (v := Int32.ofInt (5)) C dMo_readSize_12 (by decide) ?_
    obtain ⟨I11, e_13, h⟩ := bd1_some h
    refine x_callVv (av := fun ad => [.int (Int32.ofInt (5))]) C dMo_readSize_13 mfMo_wrong mvMo_wrong ln_Mo_142 h0 (by decide) rfl (f_Mo_wrong hT h0 e_13) rfl rfl (Nat.le_of_ble_eq_true rfl) ⟨Nat.le_of_ble_eq_true rfl, Nat.le_of_ble_eq_true rfl⟩ ⟨rfl, rfl⟩ ⟨Nat.zero_le _, Nat.zero_le _⟩ ?_
    exact g_sub (hk_16  I11 h) ⟨rfl, trivial⟩
def B_Mo_readOre_76 (N : Nat) (O : WO) (a0 : Nat) (rec_76 : Int32 → Int32 → WI → WJ → Option (WI × WJ)) (x2_76 : Int32) (x3_76 : Int32) (I_76 : WI) (J_76 : WJ) : Option (WI × WJ) := if (x2_76).toInt = 0 then (lb (up2 I_76 (rf O a0 4) 9 ((I_76 (rf O a0 4) 9) + (Int32.ofInt (1)))) fun I7 => some (I7, J_76)) else (lb ((I_76 a0 10)) fun v4_84 => bd3 (F_Mo_readWhole N O I_76 J_76 a0 (Int32.ofInt (0)) (Int32.ofInt (50))) fun z_90 I8 J8 => jn (fun (IJ_113 : WI) => if ((IJ_113 a0 9)).toInt = 5 then (some (IJ_113, J8)) else (if 0 ≤ ((((Int32.ofInt (5)) * (IJ_113 (rf O a0 4) 9)) + x3_76)).toInt ∧ ((((Int32.ofInt (5)) * (IJ_113 (rf O a0 4) 9)) + x3_76)).toInt < 20 then (lb (up2 IJ_113 (rf O (rf O a0 4) 15) ((((Int32.ofInt (5)) * (IJ_113 (rf O a0 4) 9)) + x3_76)).toInt.toNat z_90) fun I9 => bd1 (F_Mo_is N O I9 J8 a0 (Int32.ofInt (44))) fun z_146 => jn (fun (IJ_158 : WI) (JJ_158 : WJ) => lb (x3_76 + Int32.ofInt (1)) fun v3_158 => rec_76 (z_146) (v3_158) IJ_158 JJ_158) fun k_158 => if (z_146).toInt = 0 then (k_158  I9 J8) else (bd2 (F_Mo_next N O I9 J8 a0) fun I11 J11 => k_158  I11 J11)) else none)) fun k_113 => if (x3_76).toInt < ((I8 (rf O a0 4) 8)).toInt then (k_113  I8) else (bd1 (F_Mo_wrongHere N O I8 J8 a0 (Int32.ofInt (5)) v4_84) fun I12 => k_113  I12))
def F_Mo_readOre (N : Nat) (O : WO) (I0 : WI) (J0 : WJ) (a0 : Nat) : Option (WI × WJ) := jn (fun (IJ_16 : WI) => bd2 (F_Mo_next N O IJ_16 J0 a0) fun I1 J1 => bd2 (F_Mo_readFresh N O I1 J1 a0 (Int32.ofInt (-1))) fun I2 J2 => bd2 (F_Mo_needWord N O I2 J2 a0 29) fun I3 J3 => bd3 (F_Mo_readWhole N O I3 J3 a0 (Int32.ofInt (1)) (Int32.ofInt (9))) fun z_36 I4 J4 => bd2 (F_Mo_needWord N O I4 J4 a0 30) fun I5 J5 => if ((I5 a0 9)).toInt = 5 then (some (I5, J5)) else (if 0 ≤ ((I5 (rf O a0 4) 9)).toInt ∧ ((I5 (rf O a0 4) 9)).toInt < 4 then (lb (up2 I5 (rf O (rf O a0 4) 14) ((I5 (rf O a0 4) 9)).toInt.toNat z_36) fun I6 => lp (B_Mo_readOre_76 N O a0) (fun _ _ _ _ => none) N ((Int32.ofInt (1))) ((Int32.ofInt (0))) I6 J5) else none)) fun k_16 => if ((I0 (rf O a0 4) 9)).toInt = 4 then (bd1 (F_Mo_wrong N O I0 J0 a0 (Int32.ofInt (5))) fun I13 => k_16  I13) else (k_16  I0)
set_option maxHeartbeats 4000000 in
set_option maxRecDepth 100000 in
theorem f_Mo_readOre {P : List Nat} {K : Nat → Nat} {N : Nat} {O : WO} {I0 : WI} {J0 : WJ} (hT : TR P K O) {a0 : Nat} (h0 : a0 ∈ P ∧ K a0 = 10) (hN4 : NN P K O a0 4 9) {I' : WI} {J' : WJ} (h : F_Mo_readOre N O I0 J0 a0 = some (I', J')) : Con yMo_readOre bMo_readOre 6 none ({ frames := 8, cells := 0, slots := 0, locals := 170 } : Room) P K I0 O J0 [.ref a0] (EPo none I' J' P K O) := by
  refine Con.ofG mfMo_readOre (Nat.le_of_ble_eq_true rfl) ?_
  intro X C E
  unfold F_Mo_readOre at h
  refine g_aload_n C dMo_readOre_0 rfl ?_
  refine gt_getS C dMo_readOre_1 fl_Mo_172 h0 hN4.1 ?_
  refine g_geti C dMo_readOre_4 fl_Mo_194 hN4.2 ?_
  refine g_iconst (v := Int32.ofInt (4)) C dMo_readOre_7 (by decide) ?_
  refine x_jn h (fun (k_16 : WI → Option (WI × WJ)) => ∀ (IJ_16 : WI), k_16 IJ_16 = some (I', J') → GG X 6 P K IJ_16 O J0 0 0 16 [(0, .ref a0)] []) (fun IJ_16 h => ?_) (fun k_16 hk_16 h => ?_)
  · skip
    refine g_aload_n C dMo_readOre_16 rfl ?_
    obtain ⟨I1, J1, e_17, h⟩ := bd2_some h
    refine x_callVv (av := fun ad => []) C dMo_readOre_17 mfMo_next mvMo_next ln_Mo_146 h0 (by decide) rfl (f_Mo_next hT h0 e_17) rfl rfl (Nat.le_of_ble_eq_true rfl) ⟨Nat.le_of_ble_eq_true rfl, Nat.le_of_ble_eq_true rfl⟩ ⟨rfl, rfl⟩ ⟨Nat.zero_le _, Nat.zero_le _⟩ ?_
    refine g_aload_n C dMo_readOre_20 rfl ?_
    refine g_iconst (v := Int32.ofInt (-1)) C dMo_readOre_21 (by decide) ?_
    obtain ⟨I2, J2, e_22, h⟩ := bd2_some h
    refine x_callVv (av := fun ad => [.int (Int32.ofInt (-1))]) C dMo_readOre_22 mfMo_readFresh mvMo_readFresh ln_Mo_262 h0 (by decide) rfl (f_Mo_readFresh hT h0 hN4 e_22) rfl rfl (Nat.le_of_ble_eq_true rfl) ⟨Nat.le_of_ble_eq_true rfl, Nat.le_of_ble_eq_true rfl⟩ ⟨rfl, rfl⟩ ⟨Nat.zero_le _, Nat.zero_le _⟩ ?_
    refine g_aload_n C dMo_readOre_25 rfl ?_
    refine g_ldcwS 29 C dMo_readOre_26 rfl ?_
    obtain ⟨I3, J3, e_29, h⟩ := bd2_some h
    refine x_callVv (av := fun ad => [.ref (ad.1 29)]) C dMo_readOre_29 mfMo_needWord mvMo_needWord ln_Mo_223 h0 (by decide) rfl (f_Mo_needWord hT h0 (by decide) e_29) rfl rfl (Nat.le_of_ble_eq_true rfl) ⟨Nat.le_of_ble_eq_true rfl, Nat.le_of_ble_eq_true rfl⟩ ⟨rfl, rfl⟩ ⟨Nat.zero_le _, Nat.zero_le _⟩ ?_
    refine g_aload_n C dMo_readOre_32 rfl ?_
    refine g_iconst (v := Int32.ofInt (1)) C dMo_readOre_33 (by decide) ?_
    refine g_bipush (v := Int32.ofInt (9)) C dMo_readOre_34 (by decide) ?_
    obtain ⟨z_36, I4, J4, e_36, h⟩ := bd3_some h
    refine x_callVi (av := fun ad => [.int (Int32.ofInt (1)), .int (Int32.ofInt (9))]) C dMo_readOre_36 mfMo_readWhole mvMo_readWhole ln_Mo_227 h0 (by decide) rfl (f_Mo_readWhole hT h0 e_36) rfl rfl (Nat.le_of_ble_eq_true rfl) ⟨Nat.le_of_ble_eq_true rfl, Nat.le_of_ble_eq_true rfl⟩ ⟨rfl, rfl⟩ ⟨Nat.zero_le _, Nat.zero_le _⟩ ?_
    refine g_istore_n (i := 1) C dMo_readOre_39 rfl (by decide) ?_
    refine g_aload_n C dMo_readOre_40 rfl ?_
    refine g_ldcwS 30 C dMo_readOre_41 rfl ?_
    obtain ⟨I5, J5, e_44, h⟩ := bd2_some h
    refine x_callVv (av := fun ad => [.ref (ad.1 30)]) C dMo_readOre_44 mfMo_needWord mvMo_needWord ln_Mo_223 h0 (by decide) rfl (f_Mo_needWord hT h0 (by decide) e_44) rfl rfl (Nat.le_of_ble_eq_true rfl) ⟨Nat.le_of_ble_eq_true rfl, Nat.le_of_ble_eq_true rfl⟩ ⟨rfl, rfl⟩ ⟨Nat.zero_le _, Nat.zero_le _⟩ ?_
    refine g_aload_n C dMo_readOre_47 rfl ?_
    refine g_geti C dMo_readOre_48 fl_Mo_94 h0 ?_
    refine g_iconst (v := Int32.ofInt (5)) C dMo_readOre_51 (by decide) ?_
    refine gt_icmp_ne 56 C dMo_readOre_52 (by decide) rfl (ofI (by decide)) (fun c_52 => ?_) (fun c_52 => ?_)
    · have h := x_neg c_52 h
      refine g_aload_n C dMo_readOre_56 rfl ?_
      refine gt_getS C dMo_readOre_57 fl_Mo_172 h0 hN4.1 ?_
      have t_60 := rf_ok hT hN4.2 (show sp 9 14 = some 44 from rfl)
      refine x_getr C dMo_readOre_60 fl_Mo_276 hN4.2 hT (show sp 9 14 = some 44 from rfl) ?_
      refine g_aload_n C dMo_readOre_63 rfl ?_
      refine gt_getS C dMo_readOre_64 fl_Mo_172 h0 hN4.1 ?_
      refine g_geti C dMo_readOre_67 fl_Mo_194 hN4.2 ?_
      refine g_iload_n C dMo_readOre_70 rfl ?_
      obtain ⟨g_71, h⟩ := x_g h
      refine x_iast (m := 4) C dMo_readOre_71 t_60 (by decide) rfl rfl g_71 h (fun I6 h => ?_)
      refine g_iconst (v := Int32.ofInt (1)) C dMo_readOre_72 (by decide) ?_
      refine g_istore_n (i := 2) C dMo_readOre_73 rfl (by decide) ?_
      refine g_iconst (v := Int32.ofInt (0)) C dMo_readOre_74 (by decide) ?_
      refine g_istore_n (i := 3) C dMo_readOre_75 rfl (by decide) ?_
      have lp_76 : ∀ (x2_76 : Int32) (x3_76 : Int32) (I_76 : WI) (J_76 : WJ), lp (B_Mo_readOre_76 N O a0) (fun _ _ _ _ => none) N x2_76 x3_76 I_76 J_76 = some (I', J') → GG X 6 P K I_76 O J_76 0 0 76 [(0, .ref a0), (1, .int z_36), (2, .int x2_76), (3, .int x3_76)] [] := by
        refine x_lp (fun (rec_76 : Int32 → Int32 → WI → WJ → Option (WI × WJ)) => ∀ (x2_76 : Int32) (x3_76 : Int32) (I_76 : WI) (J_76 : WJ), rec_76 x2_76 x3_76 I_76 J_76 = some (I', J') → GG X 6 P K I_76 O J_76 0 0 76 [(0, .ref a0), (1, .int z_36), (2, .int x2_76), (3, .int x3_76)] []) (fun _ _ _ _ h => by cases h) (fun rec_76 hr_76 x2_76 x3_76 I_76 J_76 h => ?_) N
        unfold B_Mo_readOre_76 at h
        refine g_iload_n C dMo_readOre_76 rfl ?_
        refine gt_if_eq 164 C dMo_readOre_77 (by decide) rfl (fun c_77 => ?_) (fun c_77 => ?_)
        · have h := x_pos c_77 h
          refine g_aload_n C dMo_readOre_164 rfl ?_
          refine gt_getS C dMo_readOre_165 fl_Mo_172 h0 hN4.1 ?_
          refine g_dup C dMo_readOre_168 rfl ?_
          refine g_geti C dMo_readOre_169 fl_Mo_194 hN4.2 ?_
          refine g_iconst (v := Int32.ofInt (1)) C dMo_readOre_172 (by decide) ?_
          refine g_iadd C dMo_readOre_173 ?_
          refine x_puti C dMo_readOre_174 fl_Mo_194 hN4.2 rfl (Or.inl rfl) h (fun I7 h => ?_)
          exact x_vret2 C E dMo_readOre_177 ⟨Nat.zero_le _, Nat.zero_le _⟩ h
        · have h := x_neg c_77 h
          refine g_aload_n C dMo_readOre_80 rfl ?_
          refine g_geti C dMo_readOre_81 fl_Mo_104 h0 ?_
          refine x_istore C dMo_readOre_84 (by decide) h (fun v4_84 h => ?_)
          refine g_aload_n C dMo_readOre_86 rfl ?_
          refine g_iconst (v := Int32.ofInt (0)) C dMo_readOre_87 (by decide) ?_
          refine g_bipush (v := Int32.ofInt (50)) C dMo_readOre_88 (by decide) ?_
          obtain ⟨z_90, I8, J8, e_90, h⟩ := bd3_some h
          refine x_callVi (av := fun ad => [.int (Int32.ofInt (0)), .int (Int32.ofInt (50))]) C dMo_readOre_90 mfMo_readWhole mvMo_readWhole ln_Mo_227 h0 (by decide) rfl (f_Mo_readWhole hT h0 e_90) rfl rfl (Nat.le_of_ble_eq_true rfl) ⟨Nat.le_of_ble_eq_true rfl, Nat.le_of_ble_eq_true rfl⟩ ⟨rfl, rfl⟩ ⟨Nat.zero_le _, Nat.zero_le _⟩ ?_
          refine g_istore C dMo_readOre_93 (by decide) ?_
          refine g_iload_n C dMo_readOre_95 rfl ?_
          refine g_aload_n C dMo_readOre_96 rfl ?_
          refine gt_getS C dMo_readOre_97 fl_Mo_172 h0 hN4.1 ?_
          refine g_geti C dMo_readOre_100 fl_Mo_191 hN4.2 ?_
          refine x_jn h (fun (k_113 : WI → Option (WI × WJ)) => ∀ (IJ_113 : WI), k_113 IJ_113 = some (I', J') → GG X 6 P K IJ_113 O J8 0 0 113 [(0, .ref a0), (1, .int z_36), (2, .int x2_76), (3, .int x3_76), (4, .int v4_84), (5, .int z_90)] []) (fun IJ_113 h => ?_) (fun k_113 hk_113 h => ?_)
          · skip
            refine g_aload_n C dMo_readOre_113 rfl ?_
            refine g_geti C dMo_readOre_114 fl_Mo_94 h0 ?_
            refine g_iconst (v := Int32.ofInt (5)) C dMo_readOre_117 (by decide) ?_
            refine gt_icmp_ne 122 C dMo_readOre_118 (by decide) rfl (ofI (by decide)) (fun c_118 => ?_) (fun c_118 => ?_)
            · have h := x_neg c_118 h
              refine g_aload_n C dMo_readOre_122 rfl ?_
              refine gt_getS C dMo_readOre_123 fl_Mo_172 h0 hN4.1 ?_
              have t_126 := rf_ok hT hN4.2 (show sp 9 15 = some 45 from rfl)
              refine x_getr C dMo_readOre_126 fl_Mo_278 hN4.2 hT (show sp 9 15 = some 45 from rfl) ?_
              refine g_iconst (v := Int32.ofInt (5)) C dMo_readOre_129 (by decide) ?_
              refine g_aload_n C dMo_readOre_130 rfl ?_
              refine gt_getS C dMo_readOre_131 fl_Mo_172 h0 hN4.1 ?_
              refine g_geti C dMo_readOre_134 fl_Mo_194 hN4.2 ?_
              refine g_imul C dMo_readOre_137 ?_
              refine g_iload_n C dMo_readOre_138 rfl ?_
              refine g_iadd C dMo_readOre_139 ?_
              refine g_iload C dMo_readOre_140 rfl ?_
              obtain ⟨g_142, h⟩ := x_g h
              refine x_iast (m := 20) C dMo_readOre_142 t_126 (by decide) rfl rfl g_142 h (fun I9 h => ?_)
              refine g_aload_n C dMo_readOre_143 rfl ?_
              refine g_bipush (v := Int32.ofInt (44)) C dMo_readOre_144 (by decide) ?_
              obtain ⟨z_146, e_146, h⟩ := bd1_some h
              refine x_callVi (av := fun ad => [.int (Int32.ofInt (44))]) C dMo_readOre_146 mfMo_is mvMo_is ln_Mo_169 h0 (by decide) rfl (f_Mo_is hT h0 e_146) rfl rfl (Nat.le_of_ble_eq_true rfl) ⟨Nat.le_of_ble_eq_true rfl, Nat.le_of_ble_eq_true rfl⟩ ⟨rfl, rfl⟩ ⟨Nat.zero_le _, Nat.zero_le _⟩ ?_
              refine g_istore_n (i := 2) C dMo_readOre_149 rfl (by decide) ?_
              refine g_iload_n C dMo_readOre_150 rfl ?_
              refine x_jn h (fun (k_158 : WI → WJ → Option (WI × WJ)) => ∀ (IJ_158 : WI) (JJ_158 : WJ), k_158 IJ_158 JJ_158 = some (I', J') → GG X 6 P K IJ_158 O JJ_158 0 0 158 [(0, .ref a0), (1, .int z_36), (2, .int z_146), (3, .int x3_76), (4, .int v4_84), (5, .int z_90)] []) (fun IJ_158 JJ_158 h => ?_) (fun k_158 hk_158 h => ?_)
              · skip
                refine x_iinc C dMo_readOre_158 rfl (by decide) h (fun v3_158 h => ?_)
                refine g_goto 76 C dMo_readOre_161 (by decide) ?_
                exact g_sub (hr_76 (z_146) (v3_158) IJ_158 JJ_158 h) ⟨rfl, rfl, rfl, rfl, trivial⟩
              refine gt_if_eq 158 C dMo_readOre_151 (by decide) rfl (fun c_151 => ?_) (fun c_151 => ?_)
              · have h := x_pos c_151 h
                exact g_sub (hk_158  I9 J8 h) ⟨rfl, rfl, rfl, rfl, rfl, rfl, trivial⟩
              · have h := x_neg c_151 h
                refine g_aload_n C dMo_readOre_154 rfl ?_
                obtain ⟨I11, J11, e_155, h⟩ := bd2_some h
                refine x_callVv (av := fun ad => []) C dMo_readOre_155 mfMo_next mvMo_next ln_Mo_146 h0 (by decide) rfl (f_Mo_next hT h0 e_155) rfl rfl (Nat.le_of_ble_eq_true rfl) ⟨Nat.le_of_ble_eq_true rfl, Nat.le_of_ble_eq_true rfl⟩ ⟨rfl, rfl⟩ ⟨Nat.zero_le _, Nat.zero_le _⟩ ?_
                exact g_sub (hk_158  I11 J11 h) ⟨rfl, rfl, rfl, rfl, rfl, rfl, trivial⟩
            · have h := x_pos c_118 h
              exact x_vret2 C E dMo_readOre_121 ⟨Nat.zero_le _, Nat.zero_le _⟩ h
          refine gt_icmp_lt 113 C dMo_readOre_103 (by decide) rfl rfl (fun c_103 => ?_) (fun c_103 => ?_)
          · have h := x_pos c_103 h
            exact g_sub (hk_113  I8 h) ⟨rfl, rfl, rfl, rfl, rfl, rfl, trivial⟩
          · have h := x_neg (Int.not_lt.mpr c_103) h
            refine g_aload_n C dMo_readOre_106 rfl ?_
            refine g_iconst (v := Int32.ofInt (5)) C dMo_readOre_107 (by decide) ?_
            refine g_iload C dMo_readOre_108 rfl ?_
            obtain ⟨I12, e_110, h⟩ := bd1_some h
            refine x_callVv (av := fun ad => [.int (Int32.ofInt (5)), .int v4_84]) C dMo_readOre_110 mfMo_wrongHere mvMo_wrongHere ln_Mo_124 h0 (by decide) rfl (f_Mo_wrongHere hT h0 e_110) rfl rfl (Nat.le_of_ble_eq_true rfl) ⟨Nat.le_of_ble_eq_true rfl, Nat.le_of_ble_eq_true rfl⟩ ⟨rfl, rfl⟩ ⟨Nat.zero_le _, Nat.zero_le _⟩ ?_
            exact g_sub (hk_113  I12 h) ⟨rfl, rfl, rfl, rfl, rfl, rfl, trivial⟩
      exact g_sub (lp_76 ((Int32.ofInt (1))) ((Int32.ofInt (0))) I6 J5 h) ⟨rfl, rfl, rfl, rfl, trivial⟩
    · have h := x_pos c_52 h
      exact x_vret2 C E dMo_readOre_55 ⟨Nat.zero_le _, Nat.zero_le _⟩ h
  refine gt_icmp_ne 16 C dMo_readOre_8 (by decide) rfl (ofI (by decide)) (fun c_8 => ?_) (fun c_8 => ?_)
  · have h := x_neg c_8 h
    exact g_sub (hk_16  I0 h) ⟨rfl, trivial⟩
  · have h := x_pos c_8 h
    refine g_aload_n C dMo_readOre_11 rfl ?_
    refine g_iconst (v := Int32.ofInt (5)) C dMo_readOre_12 (by decide) ?_
    obtain ⟨I13, e_13, h⟩ := bd1_some h
    refine x_callVv (av := fun ad => [.int (Int32.ofInt (5))]) C dMo_readOre_13 mfMo_wrong mvMo_wrong ln_Mo_142 h0 (by decide) rfl (f_Mo_wrong hT h0 e_13) rfl rfl (Nat.le_of_ble_eq_true rfl) ⟨Nat.le_of_ble_eq_true rfl, Nat.le_of_ble_eq_true rfl⟩ ⟨rfl, rfl⟩ ⟨Nat.zero_le _, Nat.zero_le _⟩ ?_
    exact g_sub (hk_16  I13 h) ⟨rfl, trivial⟩
def F_Mo_readLine (N : Nat) (O : WO) (I0 : WI) (J0 : WJ) (a0 : Nat) : Option (WI × WJ) := bd1 (F_Mo_isWord N O I0 J0 a0 16) fun z_3 => if (z_3).toInt = 0 then (bd1 (F_Mo_isWord N O I0 J0 a0 19) fun z_19 => if (z_19).toInt = 0 then (bd1 (F_Mo_isWord N O I0 J0 a0 20) fun z_35 => if (z_35).toInt = 0 then (bd1 (F_Mo_isWord N O I0 J0 a0 21) fun z_51 => if (z_51).toInt = 0 then (bd1 (F_Mo_isWord N O I0 J0 a0 22) fun z_67 => if (z_67).toInt = 0 then (bd1 (F_Mo_isWord N O I0 J0 a0 23) fun z_83 => if (z_83).toInt = 0 then (bd1 (F_Mo_isWord N O I0 J0 a0 24) fun z_99 => if (z_99).toInt = 0 then (bd1 (F_Mo_wrong N O I0 J0 a0 (Int32.ofInt (1))) fun I8 => some (I8, J0)) else (bd2 (F_Mo_readOre N O I0 J0 a0) fun I9 J9 => some (I9, J9))) else (bd2 (F_Mo_readSize N O I0 J0 a0) fun I10 J10 => some (I10, J10))) else (bd2 (F_Mo_readPrices N O I0 J0 a0) fun I11 J11 => some (I11, J11))) else (bd2 (F_Mo_readBin N O I0 J0 a0) fun I12 J12 => some (I12, J12))) else (bd2 (F_Mo_readLiner N O I0 J0 a0) fun I13 J13 => some (I13, J13))) else (bd2 (F_Mo_readSieve N O I0 J0 a0) fun I14 J14 => some (I14, J14))) else (bd2 (F_Mo_readDrum N O I0 J0 a0) fun I15 J15 => some (I15, J15))
set_option maxHeartbeats 4000000 in
set_option maxRecDepth 100000 in
theorem f_Mo_readLine {P : List Nat} {K : Nat → Nat} {N : Nat} {O : WO} {I0 : WI} {J0 : WJ} (hT : TR P K O) {a0 : Nat} (h0 : a0 ∈ P ∧ K a0 = 10) (hN4 : NN P K O a0 4 9) {I' : WI} {J' : WJ} (h : F_Mo_readLine N O I0 J0 a0 = some (I', J')) : Con yMo_readLine bMo_readLine 1 none ({ frames := 9, cells := 0, slots := 0, locals := 195 } : Room) P K I0 O J0 [.ref a0] (EPo none I' J' P K O) := by
  refine Con.ofG mfMo_readLine (Nat.le_of_ble_eq_true rfl) ?_
  intro X C E
  unfold F_Mo_readLine at h
  refine g_aload_n C dMo_readLine_0 rfl ?_
  refine g_ldcS 16 C dMo_readLine_1 rfl ?_
  obtain ⟨z_3, e_3, h⟩ := bd1_some h
  refine x_callVi (av := fun ad => [.ref (ad.1 16)]) C dMo_readLine_3 mfMo_isWord mvMo_isWord ln_Mo_138 h0 (by decide) rfl (f_Mo_isWord hT h0 (by decide) e_3) rfl rfl (Nat.le_of_ble_eq_true rfl) ⟨Nat.le_of_ble_eq_true rfl, Nat.le_of_ble_eq_true rfl⟩ ⟨rfl, rfl⟩ ⟨Nat.zero_le _, Nat.zero_le _⟩ ?_
  refine gt_if_eq 16 C dMo_readLine_6 (by decide) rfl (fun c_6 => ?_) (fun c_6 => ?_)
  · have h := x_pos c_6 h
    refine g_aload_n C dMo_readLine_16 rfl ?_
    refine g_ldcS 19 C dMo_readLine_17 rfl ?_
    obtain ⟨z_19, e_19, h⟩ := bd1_some h
    refine x_callVi (av := fun ad => [.ref (ad.1 19)]) C dMo_readLine_19 mfMo_isWord mvMo_isWord ln_Mo_138 h0 (by decide) rfl (f_Mo_isWord hT h0 (by decide) e_19) rfl rfl (Nat.le_of_ble_eq_true rfl) ⟨Nat.le_of_ble_eq_true rfl, Nat.le_of_ble_eq_true rfl⟩ ⟨rfl, rfl⟩ ⟨Nat.zero_le _, Nat.zero_le _⟩ ?_
    refine gt_if_eq 32 C dMo_readLine_22 (by decide) rfl (fun c_22 => ?_) (fun c_22 => ?_)
    · have h := x_pos c_22 h
      refine g_aload_n C dMo_readLine_32 rfl ?_
      refine g_ldcS 20 C dMo_readLine_33 rfl ?_
      obtain ⟨z_35, e_35, h⟩ := bd1_some h
      refine x_callVi (av := fun ad => [.ref (ad.1 20)]) C dMo_readLine_35 mfMo_isWord mvMo_isWord ln_Mo_138 h0 (by decide) rfl (f_Mo_isWord hT h0 (by decide) e_35) rfl rfl (Nat.le_of_ble_eq_true rfl) ⟨Nat.le_of_ble_eq_true rfl, Nat.le_of_ble_eq_true rfl⟩ ⟨rfl, rfl⟩ ⟨Nat.zero_le _, Nat.zero_le _⟩ ?_
      refine gt_if_eq 48 C dMo_readLine_38 (by decide) rfl (fun c_38 => ?_) (fun c_38 => ?_)
      · have h := x_pos c_38 h
        refine g_aload_n C dMo_readLine_48 rfl ?_
        refine g_ldcS 21 C dMo_readLine_49 rfl ?_
        obtain ⟨z_51, e_51, h⟩ := bd1_some h
        refine x_callVi (av := fun ad => [.ref (ad.1 21)]) C dMo_readLine_51 mfMo_isWord mvMo_isWord ln_Mo_138 h0 (by decide) rfl (f_Mo_isWord hT h0 (by decide) e_51) rfl rfl (Nat.le_of_ble_eq_true rfl) ⟨Nat.le_of_ble_eq_true rfl, Nat.le_of_ble_eq_true rfl⟩ ⟨rfl, rfl⟩ ⟨Nat.zero_le _, Nat.zero_le _⟩ ?_
        refine gt_if_eq 64 C dMo_readLine_54 (by decide) rfl (fun c_54 => ?_) (fun c_54 => ?_)
        · have h := x_pos c_54 h
          refine g_aload_n C dMo_readLine_64 rfl ?_
          refine g_ldcS 22 C dMo_readLine_65 rfl ?_
          obtain ⟨z_67, e_67, h⟩ := bd1_some h
          refine x_callVi (av := fun ad => [.ref (ad.1 22)]) C dMo_readLine_67 mfMo_isWord mvMo_isWord ln_Mo_138 h0 (by decide) rfl (f_Mo_isWord hT h0 (by decide) e_67) rfl rfl (Nat.le_of_ble_eq_true rfl) ⟨Nat.le_of_ble_eq_true rfl, Nat.le_of_ble_eq_true rfl⟩ ⟨rfl, rfl⟩ ⟨Nat.zero_le _, Nat.zero_le _⟩ ?_
          refine gt_if_eq 80 C dMo_readLine_70 (by decide) rfl (fun c_70 => ?_) (fun c_70 => ?_)
          · have h := x_pos c_70 h
            refine g_aload_n C dMo_readLine_80 rfl ?_
            refine g_ldcS 23 C dMo_readLine_81 rfl ?_
            obtain ⟨z_83, e_83, h⟩ := bd1_some h
            refine x_callVi (av := fun ad => [.ref (ad.1 23)]) C dMo_readLine_83 mfMo_isWord mvMo_isWord ln_Mo_138 h0 (by decide) rfl (f_Mo_isWord hT h0 (by decide) e_83) rfl rfl (Nat.le_of_ble_eq_true rfl) ⟨Nat.le_of_ble_eq_true rfl, Nat.le_of_ble_eq_true rfl⟩ ⟨rfl, rfl⟩ ⟨Nat.zero_le _, Nat.zero_le _⟩ ?_
            refine gt_if_eq 96 C dMo_readLine_86 (by decide) rfl (fun c_86 => ?_) (fun c_86 => ?_)
            · have h := x_pos c_86 h
              refine g_aload_n C dMo_readLine_96 rfl ?_
              refine g_ldcS 24 C dMo_readLine_97 rfl ?_
              obtain ⟨z_99, e_99, h⟩ := bd1_some h
              refine x_callVi (av := fun ad => [.ref (ad.1 24)]) C dMo_readLine_99 mfMo_isWord mvMo_isWord ln_Mo_138 h0 (by decide) rfl (f_Mo_isWord hT h0 (by decide) e_99) rfl rfl (Nat.le_of_ble_eq_true rfl) ⟨Nat.le_of_ble_eq_true rfl, Nat.le_of_ble_eq_true rfl⟩ ⟨rfl, rfl⟩ ⟨Nat.zero_le _, Nat.zero_le _⟩ ?_
              refine gt_if_eq 112 C dMo_readLine_102 (by decide) rfl (fun c_102 => ?_) (fun c_102 => ?_)
              · have h := x_pos c_102 h
                refine g_aload_n C dMo_readLine_112 rfl ?_
                refine g_iconst (v := Int32.ofInt (1)) C dMo_readLine_113 (by decide) ?_
                obtain ⟨I8, e_114, h⟩ := bd1_some h
                refine x_callVv (av := fun ad => [.int (Int32.ofInt (1))]) C dMo_readLine_114 mfMo_wrong mvMo_wrong ln_Mo_142 h0 (by decide) rfl (f_Mo_wrong hT h0 e_114) rfl rfl (Nat.le_of_ble_eq_true rfl) ⟨Nat.le_of_ble_eq_true rfl, Nat.le_of_ble_eq_true rfl⟩ ⟨rfl, rfl⟩ ⟨Nat.zero_le _, Nat.zero_le _⟩ ?_
                exact x_vret2 C E dMo_readLine_117 ⟨Nat.zero_le _, Nat.zero_le _⟩ h
              · have h := x_neg c_102 h
                refine g_aload_n C dMo_readLine_105 rfl ?_
                obtain ⟨I9, J9, e_106, h⟩ := bd2_some h
                refine x_callVv (av := fun ad => []) C dMo_readLine_106 mfMo_readOre mvMo_readOre ln_Mo_215 h0 (by decide) rfl (f_Mo_readOre hT h0 hN4 e_106) rfl rfl (Nat.le_of_ble_eq_true rfl) ⟨Nat.le_of_ble_eq_true rfl, Nat.le_of_ble_eq_true rfl⟩ ⟨rfl, rfl⟩ ⟨Nat.zero_le _, Nat.zero_le _⟩ ?_
                refine g_goto 117 C dMo_readLine_109 (by decide) ?_
                exact x_vret2 C E dMo_readLine_117 ⟨Nat.zero_le _, Nat.zero_le _⟩ h
            · have h := x_neg c_86 h
              refine g_aload_n C dMo_readLine_89 rfl ?_
              obtain ⟨I10, J10, e_90, h⟩ := bd2_some h
              refine x_callVv (av := fun ad => []) C dMo_readLine_90 mfMo_readSize mvMo_readSize ln_Mo_212 h0 (by decide) rfl (f_Mo_readSize hT h0 hN4 e_90) rfl rfl (Nat.le_of_ble_eq_true rfl) ⟨Nat.le_of_ble_eq_true rfl, Nat.le_of_ble_eq_true rfl⟩ ⟨rfl, rfl⟩ ⟨Nat.zero_le _, Nat.zero_le _⟩ ?_
              refine g_goto 117 C dMo_readLine_93 (by decide) ?_
              exact x_vret2 C E dMo_readLine_117 ⟨Nat.zero_le _, Nat.zero_le _⟩ h
          · have h := x_neg c_70 h
            refine g_aload_n C dMo_readLine_73 rfl ?_
            obtain ⟨I11, J11, e_74, h⟩ := bd2_some h
            refine x_callVv (av := fun ad => []) C dMo_readLine_74 mfMo_readPrices mvMo_readPrices ln_Mo_209 h0 (by decide) rfl (f_Mo_readPrices hT h0 hN4 e_74) rfl rfl (Nat.le_of_ble_eq_true rfl) ⟨Nat.le_of_ble_eq_true rfl, Nat.le_of_ble_eq_true rfl⟩ ⟨rfl, rfl⟩ ⟨Nat.zero_le _, Nat.zero_le _⟩ ?_
            refine g_goto 117 C dMo_readLine_77 (by decide) ?_
            exact x_vret2 C E dMo_readLine_117 ⟨Nat.zero_le _, Nat.zero_le _⟩ h
        · have h := x_neg c_54 h
          refine g_aload_n C dMo_readLine_57 rfl ?_
          obtain ⟨I12, J12, e_58, h⟩ := bd2_some h
          refine x_callVv (av := fun ad => []) C dMo_readLine_58 mfMo_readBin mvMo_readBin ln_Mo_206 h0 (by decide) rfl (f_Mo_readBin hT h0 hN4 e_58) rfl rfl (Nat.le_of_ble_eq_true rfl) ⟨Nat.le_of_ble_eq_true rfl, Nat.le_of_ble_eq_true rfl⟩ ⟨rfl, rfl⟩ ⟨Nat.zero_le _, Nat.zero_le _⟩ ?_
          refine g_goto 117 C dMo_readLine_61 (by decide) ?_
          exact x_vret2 C E dMo_readLine_117 ⟨Nat.zero_le _, Nat.zero_le _⟩ h
      · have h := x_neg c_38 h
        refine g_aload_n C dMo_readLine_41 rfl ?_
        obtain ⟨I13, J13, e_42, h⟩ := bd2_some h
        refine x_callVv (av := fun ad => []) C dMo_readLine_42 mfMo_readLiner mvMo_readLiner ln_Mo_203 h0 (by decide) rfl (f_Mo_readLiner hT h0 hN4 e_42) rfl rfl (Nat.le_of_ble_eq_true rfl) ⟨Nat.le_of_ble_eq_true rfl, Nat.le_of_ble_eq_true rfl⟩ ⟨rfl, rfl⟩ ⟨Nat.zero_le _, Nat.zero_le _⟩ ?_
        refine g_goto 117 C dMo_readLine_45 (by decide) ?_
        exact x_vret2 C E dMo_readLine_117 ⟨Nat.zero_le _, Nat.zero_le _⟩ h
    · have h := x_neg c_22 h
      refine g_aload_n C dMo_readLine_25 rfl ?_
      obtain ⟨I14, J14, e_26, h⟩ := bd2_some h
      refine x_callVv (av := fun ad => []) C dMo_readLine_26 mfMo_readSieve mvMo_readSieve ln_Mo_200 h0 (by decide) rfl (f_Mo_readSieve hT h0 hN4 e_26) rfl rfl (Nat.le_of_ble_eq_true rfl) ⟨Nat.le_of_ble_eq_true rfl, Nat.le_of_ble_eq_true rfl⟩ ⟨rfl, rfl⟩ ⟨Nat.zero_le _, Nat.zero_le _⟩ ?_
      refine g_goto 117 C dMo_readLine_29 (by decide) ?_
      exact x_vret2 C E dMo_readLine_117 ⟨Nat.zero_le _, Nat.zero_le _⟩ h
  · have h := x_neg c_6 h
    refine g_aload_n C dMo_readLine_9 rfl ?_
    obtain ⟨I15, J15, e_10, h⟩ := bd2_some h
    refine x_callVv (av := fun ad => []) C dMo_readLine_10 mfMo_readDrum mvMo_readDrum ln_Mo_197 h0 (by decide) rfl (f_Mo_readDrum hT h0 hN4 e_10) rfl rfl (Nat.le_of_ble_eq_true rfl) ⟨Nat.le_of_ble_eq_true rfl, Nat.le_of_ble_eq_true rfl⟩ ⟨rfl, rfl⟩ ⟨Nat.zero_le _, Nat.zero_le _⟩ ?_
    refine g_goto 117 C dMo_readLine_13 (by decide) ?_
    exact x_vret2 C E dMo_readLine_117 ⟨Nat.zero_le _, Nat.zero_le _⟩ h
def B_Mo_readMill_2 (N : Nat) (O : WO) (a0 : Nat) (rec_2 : Int32 → WI → WJ → Option (WI × WJ)) (x1_2 : Int32) (I_2 : WI) (J_2 : WJ) : Option (WI × WJ) := if (x1_2).toInt = 0 then (jn (fun (IJ_41 : WI) => jn (fun (s0_121 : Int32) => if (s0_121).toInt = 0 then (some (IJ_41, J_2)) else (bd1 (F_Mo_wrong N O IJ_41 J_2 a0 (Int32.ofInt (6))) fun I1 => some (I1, J_2))) fun k_121 => jn (k_121 ((Int32.ofInt (1)))) fun k_116 => if ((IJ_41 (rf O a0 4) 0)).toInt = (-1) then (k_116 ) else (if ((IJ_41 (rf O a0 4) 2)).toInt = (-1) then (k_116 ) else (if ((IJ_41 (rf O a0 4) 4)).toInt = (-1) then (k_116 ) else (if ((IJ_41 (rf O a0 4) 5)).toInt = (-1) then (k_116 ) else (if ((IJ_41 (rf O a0 4) 7)).toInt = 0 then (k_116 ) else (if ((IJ_41 (rf O a0 4) 8)).toInt < 2 then (k_116 ) else (if ((IJ_41 (rf O a0 4) 9)).toInt = 0 then (k_116 ) else (k_121 ((Int32.ofInt (0))))))))))) fun k_41 => if ((I_2 a0 9)).toInt = 1 then (k_41  I_2) else (bd1 (F_Mo_wrong N O I_2 J_2 a0 (Int32.ofInt (1))) fun I2 => k_41  I2)) else (bd2 (F_Mo_readLine N O I_2 J_2 a0) fun I3 J3 => bd1 (F_Mo_is N O I3 J3 a0 (Int32.ofInt (59))) fun z_13 => if (z_13).toInt = 0 then (rec_2 (z_13) I3 J3) else (bd2 (F_Mo_next N O I3 J3 a0) fun I5 J5 => rec_2 (z_13) I5 J5))
def F_Mo_readMill (N : Nat) (O : WO) (I0 : WI) (J0 : WJ) (a0 : Nat) : Option (WI × WJ) := lp (B_Mo_readMill_2 N O a0) (fun _ _ _ => none) N ((Int32.ofInt (1))) I0 J0
set_option maxHeartbeats 4000000 in
set_option maxRecDepth 100000 in
theorem f_Mo_readMill {P : List Nat} {K : Nat → Nat} {N : Nat} {O : WO} {I0 : WI} {J0 : WJ} (hT : TR P K O) {a0 : Nat} (h0 : a0 ∈ P ∧ K a0 = 10) (hN4 : NN P K O a0 4 9) {I' : WI} {J' : WJ} (h : F_Mo_readMill N O I0 J0 a0 = some (I', J')) : Con yMo_readMill bMo_readMill 3 none ({ frames := 10, cells := 0, slots := 0, locals := 215 } : Room) P K I0 O J0 [.ref a0] (EPo none I' J' P K O) := by
  refine Con.ofG mfMo_readMill (Nat.le_of_ble_eq_true rfl) ?_
  intro X C E
  unfold F_Mo_readMill at h
  refine g_iconst (v := Int32.ofInt (1)) C dMo_readMill_0 (by decide) ?_
  refine g_istore_n (i := 1) C dMo_readMill_1 rfl (by decide) ?_
  have lp_2 : ∀ (x1_2 : Int32) (I_2 : WI) (J_2 : WJ), lp (B_Mo_readMill_2 N O a0) (fun _ _ _ => none) N x1_2 I_2 J_2 = some (I', J') → GG X 3 P K I_2 O J_2 0 0 2 [(0, .ref a0), (1, .int x1_2)] [] := by
    refine x_lp (fun (rec_2 : Int32 → WI → WJ → Option (WI × WJ)) => ∀ (x1_2 : Int32) (I_2 : WI) (J_2 : WJ), rec_2 x1_2 I_2 J_2 = some (I', J') → GG X 3 P K I_2 O J_2 0 0 2 [(0, .ref a0), (1, .int x1_2)] []) (fun _ _ _ h => by cases h) (fun rec_2 hr_2 x1_2 I_2 J_2 h => ?_) N
    unfold B_Mo_readMill_2 at h
    refine g_iload_n C dMo_readMill_2 rfl ?_
    refine gt_if_eq 28 C dMo_readMill_3 (by decide) rfl (fun c_3 => ?_) (fun c_3 => ?_)
    · have h := x_pos c_3 h
      refine g_aload_n C dMo_readMill_28 rfl ?_
      refine g_geti C dMo_readMill_29 fl_Mo_94 h0 ?_
      refine g_iconst (v := Int32.ofInt (1)) C dMo_readMill_32 (by decide) ?_
      refine x_jn h (fun (k_41 : WI → Option (WI × WJ)) => ∀ (IJ_41 : WI), k_41 IJ_41 = some (I', J') → GG X 3 P K IJ_41 O J_2 0 0 41 [(0, .ref a0), (1, .int x1_2)] []) (fun IJ_41 h => ?_) (fun k_41 hk_41 h => ?_)
      · skip
        refine g_aload_n C dMo_readMill_41 rfl ?_
        refine gt_getS C dMo_readMill_42 fl_Mo_172 h0 hN4.1 ?_
        refine g_geti C dMo_readMill_45 fl_Mo_176 hN4.2 ?_
        refine g_iconst (v := Int32.ofInt (-1)) C dMo_readMill_48 (by decide) ?_
        refine x_jn h (fun (k_121 : Int32 → Option (WI × WJ)) => ∀ (s0_121 : Int32), k_121 s0_121 = some (I', J') → GG X 3 P K IJ_41 O J_2 0 0 121 [(0, .ref a0), (1, .int x1_2)] [.int s0_121]) (fun s0_121 h => ?_) (fun k_121 hk_121 h => ?_)
        · skip
          refine g_istore_n (i := 2) C dMo_readMill_121 rfl (by decide) ?_
          refine g_iload_n C dMo_readMill_122 rfl ?_
          refine gt_if_eq 132 C dMo_readMill_123 (by decide) rfl (fun c_123 => ?_) (fun c_123 => ?_)
          · have h := x_pos c_123 h
            exact x_vret2 C E dMo_readMill_132 ⟨Nat.zero_le _, Nat.zero_le _⟩ h
          · have h := x_neg c_123 h
            refine g_aload_n C dMo_readMill_126 rfl ?_
            refine g_bipush (v := Int32.ofInt (6)) C dMo_readMill_127 (by decide) ?_
            obtain ⟨I1, e_129, h⟩ := bd1_some h
            refine x_callVv (av := fun ad => [.int (Int32.ofInt (6))]) C dMo_readMill_129 mfMo_wrong mvMo_wrong ln_Mo_142 h0 (by decide) rfl (f_Mo_wrong hT h0 e_129) rfl rfl (Nat.le_of_ble_eq_true rfl) ⟨Nat.le_of_ble_eq_true rfl, Nat.le_of_ble_eq_true rfl⟩ ⟨rfl, rfl⟩ ⟨Nat.zero_le _, Nat.zero_le _⟩ ?_
            exact x_vret2 C E dMo_readMill_132 ⟨Nat.zero_le _, Nat.zero_le _⟩ h
        refine x_jn h (fun (k_116 : Option (WI × WJ)) => k_116  = some (I', J') → GG X 3 P K IJ_41 O J_2 0 0 116 [(0, .ref a0), (1, .int x1_2)] []) (fun  h => ?_) (fun k_116 hk_116 h => ?_)
        · skip
          refine g_iconst (v := Int32.ofInt (1)) C dMo_readMill_116 (by decide) ?_
          refine g_goto 121 C dMo_readMill_117 (by decide) ?_
          exact g_sub (hk_121 ((Int32.ofInt (1))) h) ⟨rfl, rfl, trivial⟩
        refine gt_icmp_eq 116 C dMo_readMill_49 (by decide) rfl (ofI (by decide)) (fun c_49 => ?_) (fun c_49 => ?_)
        · have h := x_pos c_49 h
          exact g_sub (hk_116  h) ⟨rfl, rfl, trivial⟩
        · have h := x_neg c_49 h
          refine g_aload_n C dMo_readMill_52 rfl ?_
          refine gt_getS C dMo_readMill_53 fl_Mo_172 h0 hN4.1 ?_
          refine g_geti C dMo_readMill_56 fl_Mo_181 hN4.2 ?_
          refine g_iconst (v := Int32.ofInt (-1)) C dMo_readMill_59 (by decide) ?_
          refine gt_icmp_eq 116 C dMo_readMill_60 (by decide) rfl (ofI (by decide)) (fun c_60 => ?_) (fun c_60 => ?_)
          · have h := x_pos c_60 h
            exact g_sub (hk_116  h) ⟨rfl, rfl, trivial⟩
          · have h := x_neg c_60 h
            refine g_aload_n C dMo_readMill_63 rfl ?_
            refine gt_getS C dMo_readMill_64 fl_Mo_172 h0 hN4.1 ?_
            refine g_geti C dMo_readMill_67 fl_Mo_183 hN4.2 ?_
            refine g_iconst (v := Int32.ofInt (-1)) C dMo_readMill_70 (by decide) ?_
            refine gt_icmp_eq 116 C dMo_readMill_71 (by decide) rfl (ofI (by decide)) (fun c_71 => ?_) (fun c_71 => ?_)
            · have h := x_pos c_71 h
              exact g_sub (hk_116  h) ⟨rfl, rfl, trivial⟩
            · have h := x_neg c_71 h
              refine g_aload_n C dMo_readMill_74 rfl ?_
              refine gt_getS C dMo_readMill_75 fl_Mo_172 h0 hN4.1 ?_
              refine g_geti C dMo_readMill_78 fl_Mo_186 hN4.2 ?_
              refine g_iconst (v := Int32.ofInt (-1)) C dMo_readMill_81 (by decide) ?_
              refine gt_icmp_eq 116 C dMo_readMill_82 (by decide) rfl (ofI (by decide)) (fun c_82 => ?_) (fun c_82 => ?_)
              · have h := x_pos c_82 h
                exact g_sub (hk_116  h) ⟨rfl, rfl, trivial⟩
              · have h := x_neg c_82 h
                refine g_aload_n C dMo_readMill_85 rfl ?_
                refine gt_getS C dMo_readMill_86 fl_Mo_172 h0 hN4.1 ?_
                refine g_geti C dMo_readMill_89 fl_Mo_188 hN4.2 ?_
                refine gt_if_eq 116 C dMo_readMill_92 (by decide) rfl (fun c_92 => ?_) (fun c_92 => ?_)
                · have h := x_pos c_92 h
                  exact g_sub (hk_116  h) ⟨rfl, rfl, trivial⟩
                · have h := x_neg c_92 h
                  refine g_aload_n C dMo_readMill_95 rfl ?_
                  refine gt_getS C dMo_readMill_96 fl_Mo_172 h0 hN4.1 ?_
                  refine g_geti C dMo_readMill_99 fl_Mo_191 hN4.2 ?_
                  refine g_iconst (v := Int32.ofInt (2)) C dMo_readMill_102 (by decide) ?_
                  refine gt_icmp_lt 116 C dMo_readMill_103 (by decide) rfl (ofI (by decide)) (fun c_103 => ?_) (fun c_103 => ?_)
                  · have h := x_pos c_103 h
                    exact g_sub (hk_116  h) ⟨rfl, rfl, trivial⟩
                  · have h := x_neg (Int.not_lt.mpr c_103) h
                    refine g_aload_n C dMo_readMill_106 rfl ?_
                    refine gt_getS C dMo_readMill_107 fl_Mo_172 h0 hN4.1 ?_
                    refine g_geti C dMo_readMill_110 fl_Mo_194 hN4.2 ?_
                    refine gt_if_ne 120 C dMo_readMill_113 (by decide) rfl (fun c_113 => ?_) (fun c_113 => ?_)
                    · have h := x_neg c_113 h
                      refine g_iconst (v := Int32.ofInt (0)) C dMo_readMill_120 (by decide) ?_
                      exact g_sub (hk_121 ((Int32.ofInt (0))) h) ⟨rfl, rfl, trivial⟩
                    · have h := x_pos c_113 h
                      exact g_sub (hk_116  h) ⟨rfl, rfl, trivial⟩
      refine gt_icmp_eq 41 C dMo_readMill_33 (by decide) rfl (ofI (by decide)) (fun c_33 => ?_) (fun c_33 => ?_)
      · have h := x_pos c_33 h
        exact g_sub (hk_41  I_2 h) ⟨rfl, rfl, trivial⟩
      · have h := x_neg c_33 h
        refine g_aload_n C dMo_readMill_36 rfl ?_
        refine g_iconst (v := Int32.ofInt (1)) C dMo_readMill_37 (by decide) ?_
        obtain ⟨I2, e_38, h⟩ := bd1_some h
        refine x_callVv (av := fun ad => [.int (Int32.ofInt (1))]) C dMo_readMill_38 mfMo_wrong mvMo_wrong ln_Mo_142 h0 (by decide) rfl (f_Mo_wrong hT h0 e_38) rfl rfl (Nat.le_of_ble_eq_true rfl) ⟨Nat.le_of_ble_eq_true rfl, Nat.le_of_ble_eq_true rfl⟩ ⟨rfl, rfl⟩ ⟨Nat.zero_le _, Nat.zero_le _⟩ ?_
        exact g_sub (hk_41  I2 h) ⟨rfl, rfl, trivial⟩
    · have h := x_neg c_3 h
      refine g_aload_n C dMo_readMill_6 rfl ?_
      obtain ⟨I3, J3, e_7, h⟩ := bd2_some h
      refine x_callVv (av := fun ad => []) C dMo_readMill_7 mfMo_readLine mvMo_readLine ln_Mo_166 h0 (by decide) rfl (f_Mo_readLine hT h0 hN4 e_7) rfl rfl (Nat.le_of_ble_eq_true rfl) ⟨Nat.le_of_ble_eq_true rfl, Nat.le_of_ble_eq_true rfl⟩ ⟨rfl, rfl⟩ ⟨Nat.zero_le _, Nat.zero_le _⟩ ?_
      refine g_aload_n C dMo_readMill_10 rfl ?_
      refine g_bipush (v := Int32.ofInt (59)) C dMo_readMill_11 (by decide) ?_
      obtain ⟨z_13, e_13, h⟩ := bd1_some h
      refine x_callVi (av := fun ad => [.int (Int32.ofInt (59))]) C dMo_readMill_13 mfMo_is mvMo_is ln_Mo_169 h0 (by decide) rfl (f_Mo_is hT h0 e_13) rfl rfl (Nat.le_of_ble_eq_true rfl) ⟨Nat.le_of_ble_eq_true rfl, Nat.le_of_ble_eq_true rfl⟩ ⟨rfl, rfl⟩ ⟨Nat.zero_le _, Nat.zero_le _⟩ ?_
      refine g_istore_n (i := 1) C dMo_readMill_16 rfl (by decide) ?_
      refine g_iload_n C dMo_readMill_17 rfl ?_
      refine gt_if_eq 2 C dMo_readMill_18 (by decide) rfl (fun c_18 => ?_) (fun c_18 => ?_)
      · have h := x_pos c_18 h
        exact g_sub (hr_2 (z_13) I3 J3 h) ⟨rfl, rfl, trivial⟩
      · have h := x_neg c_18 h
        refine g_aload_n C dMo_readMill_21 rfl ?_
        obtain ⟨I5, J5, e_22, h⟩ := bd2_some h
        refine x_callVv (av := fun ad => []) C dMo_readMill_22 mfMo_next mvMo_next ln_Mo_146 h0 (by decide) rfl (f_Mo_next hT h0 e_22) rfl rfl (Nat.le_of_ble_eq_true rfl) ⟨Nat.le_of_ble_eq_true rfl, Nat.le_of_ble_eq_true rfl⟩ ⟨rfl, rfl⟩ ⟨Nat.zero_le _, Nat.zero_le _⟩ ?_
        refine g_goto 2 C dMo_readMill_25 (by decide) ?_
        exact g_sub (hr_2 (z_13) I5 J5 h) ⟨rfl, rfl, trivial⟩
  exact g_sub (lp_2 ((Int32.ofInt (1))) I0 J0 h) ⟨rfl, rfl, trivial⟩
