set_option maxHeartbeats 4000000 in
set_option maxRecDepth 100000 in
theorem cMo_in {P : List Nat} {K : Nat → Nat} {I0 : Nat → Nat → Int32} {O : Nat → Nat → Option Nat} {J0 : Nat → Nat → Int64} (hV : IV P K I0 O) {x0 : Int32} {x1 : Int32} {x2 : Int32} : Con yMo_in bMo_in 3 (some .boolean) ({ frames := 0, cells := 0, slots := 0, locals := 0 } : Room) P K I0 O J0 [.int x0, .int x1, .int x2] (SPo frP 2 (fun z _ => Int32.toInt z = 0 ∨ (Int32.toInt x1 ≤ Int32.toInt x0 ∧ Int32.toInt x0 ≤ Int32.toInt x2)) P K I0 O J0) := by
  refine Con.ofG mfMo_in (Nat.le_of_ble_eq_true rfl) ?_
  intro X C E
  have r0 := rg x0
  have r1 := rg x1
  have r2 := rg x2
  have hV0 : SV frP P K O I0 J0 I0 J0 := SV.rf hV
  refine g_iload_n C dMo_in_0 rfl ?_
  refine g_iload_n C dMo_in_1 rfl ?_
  refine gt_icmp_lt 14 C dMo_in_2 (by decide) rfl rfl (fun c_2 => ?_) (fun c_2 => ?_)
  · skip
    refine g_iconst (v := Int32.ofInt (0)) C dMo_in_14 (by decide) ?_
    exact s_zret C E dMo_in_15 ⟨Nat.zero_le _, Nat.zero_le _⟩ hV0 (Or.inl (ofI (by decide))) (by have hci : Int32.toInt (Int32.ofInt (0)) = 0 := ofI (by decide); (try dsimp only); omega)
  · skip
    refine g_iload_n C dMo_in_5 rfl ?_
    refine g_iload_n C dMo_in_6 rfl ?_
    refine gt_icmp_gt 14 C dMo_in_7 (by decide) rfl rfl (fun c_7 => ?_) (fun c_7 => ?_)
    · skip
      refine g_iconst (v := Int32.ofInt (0)) C dMo_in_14 (by decide) ?_
      exact s_zret C E dMo_in_15 ⟨Nat.zero_le _, Nat.zero_le _⟩ hV0 (Or.inl (ofI (by decide))) (by have hci : Int32.toInt (Int32.ofInt (0)) = 0 := ofI (by decide); (try dsimp only); omega)
    · skip
      refine g_iconst (v := Int32.ofInt (1)) C dMo_in_10 (by decide) ?_
      refine g_goto 15 C dMo_in_11 (by decide) ?_
      exact s_zret C E dMo_in_15 ⟨Nat.zero_le _, Nat.zero_le _⟩ hV0 (Or.inr (ofI (by decide))) (by have hci : Int32.toInt (Int32.ofInt (1)) = 1 := ofI (by decide); (try dsimp only); omega)
set_option maxHeartbeats 4000000 in
set_option maxRecDepth 100000 in
theorem cMo_partOf {P : List Nat} {K : Nat → Nat} {I0 : Nat → Nat → Int32} {O : Nat → Nat → Option Nat} {J0 : Nat → Nat → Int64} (hV : IV P K I0 O) {x0 : Int32} {x1 : Int32} : Con yMo_partOf bMo_partOf 2 (some .int) ({ frames := 0, cells := 0, slots := 0, locals := 0 } : Room) P K I0 O J0 [.int x0, .int x1] (SPo frP 1 (tt) P K I0 O J0) := by
  refine Con.ofG mfMo_partOf (Nat.le_of_ble_eq_true rfl) ?_
  intro X C E
  have r0 := rg x0
  have r1 := rg x1
  have hV0 : SV frP P K O I0 J0 I0 J0 := SV.rf hV
  refine g_iload_n C dMo_partOf_0 rfl ?_
  refine gt_if_ne 11 C dMo_partOf_1 (by decide) rfl (fun c_1 => ?_) (fun c_1 => ?_)
  · skip
    refine g_iload_n C dMo_partOf_11 rfl ?_
    refine g_iconst (v := Int32.ofInt (1)) C dMo_partOf_12 (by decide) ?_
    refine gt_icmp_ne 24 C dMo_partOf_13 (by decide) rfl (ofI (by decide)) (fun c_13 => ?_) (fun c_13 => ?_)
    · skip
      refine g_iload_n C dMo_partOf_24 rfl ?_
      refine g_iconst (v := Int32.ofInt (5)) C dMo_partOf_25 (by decide) ?_
      refine gt_irem 5 C dMo_partOf_26 rfl (ofI (by decide)) (by decide) (fun z_26 e_26 => ?_)
      exact s_iret C E dMo_partOf_27 ⟨Nat.zero_le _, Nat.zero_le _⟩ hV0 trivial
    · skip
      refine g_iload_n C dMo_partOf_16 rfl ?_
      refine g_iconst (v := Int32.ofInt (5)) C dMo_partOf_17 (by decide) ?_
      refine gt_idiv 5 C dMo_partOf_18 rfl (ofI (by decide)) (by decide) (fun z_18 e_18 => ?_)
      refine g_iconst (v := Int32.ofInt (5)) C dMo_partOf_19 (by decide) ?_
      refine gt_irem 5 C dMo_partOf_20 rfl (ofI (by decide)) (by decide) (fun z_20 e_20 => ?_)
      refine g_goto 27 C dMo_partOf_21 (by decide) ?_
      exact s_iret C E dMo_partOf_27 ⟨Nat.zero_le _, Nat.zero_le _⟩ hV0 trivial
  · skip
    refine g_iload_n C dMo_partOf_4 rfl ?_
    refine g_bipush (v := Int32.ofInt (25)) C dMo_partOf_5 (by decide) ?_
    refine gt_idiv 25 C dMo_partOf_7 rfl (ofI (by decide)) (by decide) (fun z_7 e_7 => ?_)
    refine g_goto 27 C dMo_partOf_8 (by decide) ?_
    exact s_iret C E dMo_partOf_27 ⟨Nat.zero_le _, Nat.zero_le _⟩ hV0 trivial
set_option maxHeartbeats 4000000 in
set_option maxRecDepth 100000 in
theorem cMo_isStart {P : List Nat} {K : Nat → Nat} {I0 : Nat → Nat → Int32} {O : Nat → Nat → Option Nat} {J0 : Nat → Nat → Int64} (hV : IV P K I0 O) {x0 : Int32} {x1 : Int32} {x2 : Int32} : Con yMo_isStart bMo_isStart 3 (some .boolean) ({ frames := 1, cells := 0, slots := 0, locals := 22 } : Room) P K I0 O J0 [.int x0, .int x1, .int x2] (SPo frP 2 (fun z _ => Int32.toInt z = 0 ∨ (0 ≤ Int32.toInt x0 ∧ Int32.toInt x0 ≤ 3 ∧ 0 ≤ Int32.toInt x1 ∧ Int32.toInt x1 ≤ 4 ∧ 0 ≤ Int32.toInt x2 ∧ Int32.toInt x2 ≤ 4)) P K I0 O J0) := by
  refine Con.ofG mfMo_isStart (Nat.le_of_ble_eq_true rfl) ?_
  intro X C E
  have r0 := rg x0
  have r1 := rg x1
  have r2 := rg x2
  have hV0 : SV frP P K O I0 J0 I0 J0 := SV.rf hV
  refine g_iload_n C dMo_isStart_0 rfl ?_
  refine g_iconst (v := Int32.ofInt (0)) C dMo_isStart_1 (by decide) ?_
  refine g_iconst (v := Int32.ofInt (3)) C dMo_isStart_2 (by decide) ?_
  refine s_callS_zp (av := fun ad => [.int x0, .int (Int32.ofInt (0)), .int (Int32.ofInt (3))]) C dMo_isStart_3 mfMo_in msMo_in ln_Mo_149 (cMo_in hV0.1 ) rfl rfl (Nat.le_of_ble_eq_true rfl) ⟨Nat.le_of_ble_eq_true rfl, Nat.le_of_ble_eq_true rfl⟩ ⟨rfl, rfl⟩ ⟨Nat.zero_le _, Nat.zero_le _⟩ (fun z_3 b_3 p_3 => ?_)
  have rz_3 := rg z_3
  have u_3 := b_3
  unfold B01 at u_3
  try dsimp only at p_3
  have hk1_3 : Int32.toInt (Int32.ofInt (0)) = 0 := ofI (by decide)
  have hk2_3 : Int32.toInt (Int32.ofInt (3)) = 3 := ofI (by decide)
  refine gt_if_eq 31 C dMo_isStart_6 (by decide) rfl (fun c_6 => ?_) (fun c_6 => ?_)
  · skip
    refine g_iconst (v := Int32.ofInt (0)) C dMo_isStart_31 (by decide) ?_
    exact s_zret C E dMo_isStart_32 ⟨Nat.zero_le _, Nat.zero_le _⟩ hV0 (Or.inl (ofI (by decide))) (by have hci : Int32.toInt (Int32.ofInt (0)) = 0 := ofI (by decide); (try dsimp only); omega)
  · skip
    refine g_iload_n C dMo_isStart_9 rfl ?_
    refine g_iconst (v := Int32.ofInt (0)) C dMo_isStart_10 (by decide) ?_
    refine g_iconst (v := Int32.ofInt (4)) C dMo_isStart_11 (by decide) ?_
    refine s_callS_zp (av := fun ad => [.int x1, .int (Int32.ofInt (0)), .int (Int32.ofInt (4))]) C dMo_isStart_12 mfMo_in msMo_in ln_Mo_149 (cMo_in hV0.1 ) rfl rfl (Nat.le_of_ble_eq_true rfl) ⟨Nat.le_of_ble_eq_true rfl, Nat.le_of_ble_eq_true rfl⟩ ⟨rfl, rfl⟩ ⟨Nat.zero_le _, Nat.zero_le _⟩ (fun z_12 b_12 p_12 => ?_)
    have rz_12 := rg z_12
    have u_12 := b_12
    unfold B01 at u_12
    try dsimp only at p_12
    have hk1_12 : Int32.toInt (Int32.ofInt (0)) = 0 := ofI (by decide)
    have hk2_12 : Int32.toInt (Int32.ofInt (4)) = 4 := ofI (by decide)
    refine gt_if_eq 31 C dMo_isStart_15 (by decide) rfl (fun c_15 => ?_) (fun c_15 => ?_)
    · skip
      refine g_iconst (v := Int32.ofInt (0)) C dMo_isStart_31 (by decide) ?_
      exact s_zret C E dMo_isStart_32 ⟨Nat.zero_le _, Nat.zero_le _⟩ hV0 (Or.inl (ofI (by decide))) (by have hci : Int32.toInt (Int32.ofInt (0)) = 0 := ofI (by decide); (try dsimp only); omega)
    · skip
      refine g_iload_n C dMo_isStart_18 rfl ?_
      refine g_iconst (v := Int32.ofInt (0)) C dMo_isStart_19 (by decide) ?_
      refine g_iconst (v := Int32.ofInt (4)) C dMo_isStart_20 (by decide) ?_
      refine s_callS_zp (av := fun ad => [.int x2, .int (Int32.ofInt (0)), .int (Int32.ofInt (4))]) C dMo_isStart_21 mfMo_in msMo_in ln_Mo_149 (cMo_in hV0.1 ) rfl rfl (Nat.le_of_ble_eq_true rfl) ⟨Nat.le_of_ble_eq_true rfl, Nat.le_of_ble_eq_true rfl⟩ ⟨rfl, rfl⟩ ⟨Nat.zero_le _, Nat.zero_le _⟩ (fun z_21 b_21 p_21 => ?_)
      have rz_21 := rg z_21
      have u_21 := b_21
      unfold B01 at u_21
      try dsimp only at p_21
      have hk1_21 : Int32.toInt (Int32.ofInt (0)) = 0 := ofI (by decide)
      have hk2_21 : Int32.toInt (Int32.ofInt (4)) = 4 := ofI (by decide)
      refine gt_if_eq 31 C dMo_isStart_24 (by decide) rfl (fun c_24 => ?_) (fun c_24 => ?_)
      · skip
        refine g_iconst (v := Int32.ofInt (0)) C dMo_isStart_31 (by decide) ?_
        exact s_zret C E dMo_isStart_32 ⟨Nat.zero_le _, Nat.zero_le _⟩ hV0 (Or.inl (ofI (by decide))) (by have hci : Int32.toInt (Int32.ofInt (0)) = 0 := ofI (by decide); (try dsimp only); omega)
      · skip
        refine g_iconst (v := Int32.ofInt (1)) C dMo_isStart_27 (by decide) ?_
        refine g_goto 32 C dMo_isStart_28 (by decide) ?_
        exact s_zret C E dMo_isStart_32 ⟨Nat.zero_le _, Nat.zero_le _⟩ hV0 (Or.inr (ofI (by decide))) (by have hci : Int32.toInt (Int32.ofInt (1)) = 1 := ofI (by decide); (try dsimp only); omega)
set_option maxHeartbeats 4000000 in
set_option maxRecDepth 100000 in
theorem cMo_bits {P : List Nat} {K : Nat → Nat} {I0 : Nat → Nat → Int32} {O : Nat → Nat → Option Nat} {J0 : Nat → Nat → Int64} (hV : IV P K I0 O) {x0 : Int32} (pr0 : 0 ≤ Int32.toInt x0) : Con yMo_bits bMo_bits 3 (some .int) ({ frames := 0, cells := 0, slots := 0, locals := 0 } : Room) P K I0 O J0 [.int x0] (SPo frP 1 (tt) P K I0 O J0) := by
  refine Con.ofG mfMo_bits (Nat.le_of_ble_eq_true rfl) ?_
  intro X C E
  have r0 := rg x0
  have hV0 : SV frP P K O I0 J0 I0 J0 := SV.rf hV
  refine g_iconst (v := Int32.ofInt (0)) C dMo_bits_0 (by decide) ?_
  refine g_istore_n (i := 1) C dMo_bits_1 rfl (by decide) ?_
  refine g_iload_n C dMo_bits_2 rfl ?_
  refine g_istore_n (i := 2) C dMo_bits_3 rfl (by decide) ?_
  have lp_4 : ∀ (nn_4 : Nat) (x1_4 : Int32) (x2_4 : Int32), Int.toNat (x2_4.toInt) = nn_4 → (0 ≤ Int32.toInt x2_4) → GG X 3 P K I0 O J0 0 0 4 [(0, .int x0), (1, .int x1_4), (2, .int x2_4)] [] := by
    intro nn_4
    induction nn_4 using Nat.strongRecOn with
    | ind nn_4 ih_4 =>
    intro x1_4 x2_4  hn_4 iv0_4 
    have rg1_4 := rg x1_4
    have rg2_4 := rg x2_4
    refine g_iload_n C dMo_bits_4 rfl ?_
    refine gt_if_eq 20 C dMo_bits_5 (by decide) rfl (fun c_5 => ?_) (fun c_5 => ?_)
    · skip
      refine g_iload_n C dMo_bits_20 rfl ?_
      exact s_iret C E dMo_bits_21 ⟨Nat.zero_le _, Nat.zero_le _⟩ hV0 trivial
    · skip
      first | refine n_iinc C dMo_bits_8 rfl rfl (by decide) (by decide) (by omega) (fun z_8 e_8 => ?_) | refine a_iinc C dMo_bits_8 rfl (by decide) (fun z_8 => ?_)
      refine g_iload_n C dMo_bits_11 rfl ?_
      refine g_iload_n C dMo_bits_12 rfl ?_
      refine g_iconst (v := Int32.ofInt (1)) C dMo_bits_13 (by decide) ?_
      first | refine n_isub C dMo_bits_14 rfl (ofI (by decide)) (by omega) (fun z_14 e_14 => ?_) | refine a_isub C dMo_bits_14 (fun z_14 => ?_)
      first | refine n_iand C dMo_bits_15 (by omega) (fun z_15 e_15 => ?_) | refine a_iand C dMo_bits_15 (fun z_15 => ?_)
      refine g_istore_n (i := 2) C dMo_bits_16 rfl (by decide) ?_
      refine g_goto 4 C dMo_bits_17 (by decide) ?_
      exact g_sub (ih_4 _ (by omega) z_8 z_15  rfl (by omega) ) ⟨rfl, rfl, rfl, trivial⟩
  exact g_sub (lp_4 _ (Int32.ofInt (0)) x0  rfl (by omega) ) ⟨rfl, rfl, rfl, trivial⟩
set_option maxHeartbeats 4000000 in
set_option maxRecDepth 100000 in
theorem cMo_valueOf {P : List Nat} {K : Nat → Nat} {I0 : Nat → Nat → Int32} {O : Nat → Nat → Option Nat} {J0 : Nat → Nat → Int64} (hV : IV P K I0 O) {a0 : Nat} (h0 : a0 ∈ P ∧ K a0 = 49) {x1 : Int32} (pr0 : 0 ≤ Int32.toInt x1 ∧ Int32.toInt x1 ≤ 6) : Con yMo_valueOf bMo_valueOf 2 (some .int) ({ frames := 0, cells := 0, slots := 0, locals := 0 } : Room) P K I0 O J0 [.ref a0, .int x1] (SPo frP 1 (tt) P K I0 O J0) := by
  refine Con.ofG mfMo_valueOf (Nat.le_of_ble_eq_true rfl) ?_
  intro X C E
  have r1 := rg x1
  have hV0 : SV frP P K O I0 J0 I0 J0 := SV.rf hV
  refine g_iload_n C dMo_valueOf_0 rfl ?_
  refine gt_if_ne 11 C dMo_valueOf_1 (by decide) rfl (fun c_1 => ?_) (fun c_1 => ?_)
  · skip
    refine g_iload_n C dMo_valueOf_11 rfl ?_
    refine g_iconst (v := Int32.ofInt (1)) C dMo_valueOf_12 (by decide) ?_
    refine gt_icmp_ne 23 C dMo_valueOf_13 (by decide) rfl (ofI (by decide)) (fun c_13 => ?_) (fun c_13 => ?_)
    · skip
      refine g_aload_n C dMo_valueOf_23 rfl ?_
      refine g_bipush (v := Int32.ofInt (10)) C dMo_valueOf_24 (by decide) ?_
      refine g_iload_n C dMo_valueOf_26 rfl ?_
      first | refine n_iadd C dMo_valueOf_27 (ofI (by decide)) rfl (by omega) (fun z_27 e_27 => ?_) | refine a_iadd C dMo_valueOf_27 (fun z_27 => ?_)
      refine g_iconst (v := Int32.ofInt (2)) C dMo_valueOf_28 (by decide) ?_
      first | refine n_isub C dMo_valueOf_29 rfl (ofI (by decide)) (by omega) (fun z_29 e_29 => ?_) | refine a_isub C dMo_valueOf_29 (fun z_29 => ?_)
      refine gt_iald C dMo_valueOf_30 h0 (by decide) rfl rfl (n := 37) rfl (by omega) ?_
      exact s_iret C E dMo_valueOf_31 ⟨Nat.zero_le _, Nat.zero_le _⟩ hV0 trivial
    · skip
      refine g_aload_n C dMo_valueOf_16 rfl ?_
      refine g_bipush (v := Int32.ofInt (30)) C dMo_valueOf_17 (by decide) ?_
      refine gt_ialdc (c := 30) C dMo_valueOf_19 h0 (by decide) rfl (ofI (by decide)) (n := 37) rfl (by decide) (by decide) ?_
      refine g_goto 31 C dMo_valueOf_20 (by decide) ?_
      exact s_iret C E dMo_valueOf_31 ⟨Nat.zero_le _, Nat.zero_le _⟩ hV0 trivial
  · skip
    refine g_aload_n C dMo_valueOf_4 rfl ?_
    refine g_bipush (v := Int32.ofInt (31)) C dMo_valueOf_5 (by decide) ?_
    refine gt_ialdc (c := 31) C dMo_valueOf_7 h0 (by decide) rfl (ofI (by decide)) (n := 37) rfl (by decide) (by decide) ?_
    refine g_goto 31 C dMo_valueOf_8 (by decide) ?_
    exact s_iret C E dMo_valueOf_31 ⟨Nat.zero_le _, Nat.zero_le _⟩ hV0 trivial
set_option maxHeartbeats 4000000 in
set_option maxRecDepth 100000 in
theorem cMo_refused {P : List Nat} {K : Nat → Nat} {I0 : Nat → Nat → Int32} {O : Nat → Nat → Option Nat} {J0 : Nat → Nat → Int64} (hV : IV P K I0 O) {a0 : Nat} (h0 : a0 ∈ P ∧ K a0 = 10) {x1 : Int32} : Con yMo_refused bMo_refused 2 (some .int) ({ frames := 0, cells := 0, slots := 0, locals := 0 } : Room) P K I0 O J0 [.ref a0, .int x1] (SPo frX10 1 (fun _ I_ => (I_ a0 6).toInt = (I0 a0 6).toInt ∧ (I_ a0 18).toInt = (I0 a0 18).toInt) P K I0 O J0) := by
  refine Con.ofG mfMo_refused (Nat.le_of_ble_eq_true rfl) ?_
  intro X C E
  have r1 := rg x1
  have hV0 : SV frX10 P K O I0 J0 I0 J0 := SV.rf hV
  refine g_aload_n C dMo_refused_0 rfl ?_
  refine g_iload_n C dMo_refused_1 rfl ?_
  refine gt_puti C dMo_refused_2 fl_Mo_76 h0 hV0 rfl trivial rfl (Or.inl rfl) (fun Iw1 eIw1 hVw1 => ?_)
  have tkw1_a0_6 : (Iw1 a0 6).toInt = (I0 a0 6).toInt := by rw [eIw1, up2_ne _ _ (fun z => absurd z.2 (by decide))]
  have tkw1_a0_18 : (Iw1 a0 18).toInt = (I0 a0 18).toInt := by rw [eIw1, up2_ne _ _ (fun z => absurd z.2 (by decide))]
  refine g_aload_n C dMo_refused_5 rfl ?_
  refine g_iconst (v := Int32.ofInt (-1)) C dMo_refused_6 (by decide) ?_
  refine gt_puti C dMo_refused_7 fl_Mo_9 h0 hVw1 rfl trivial rfl (Or.inl rfl) (fun Iw2 eIw2 hVw2 => ?_)
  have tkw2_a0_6 : (Iw2 a0 6).toInt = (Iw1 a0 6).toInt := by rw [eIw2, up2_ne _ _ (fun z => absurd z.2 (by decide))]
  have tkw2_a0_18 : (Iw2 a0 18).toInt = (Iw1 a0 18).toInt := by rw [eIw2, up2_ne _ _ (fun z => absurd z.2 (by decide))]
  refine g_iconst (v := Int32.ofInt (-1)) C dMo_refused_10 (by decide) ?_
  exact s_iret C E dMo_refused_11 ⟨Nat.zero_le _, Nat.zero_le _⟩ hVw2 (by have hci : Int32.toInt (Int32.ofInt (-1)) = -1 := ofI (by decide); (try dsimp only); omega)
set_option maxHeartbeats 4000000 in
set_option maxRecDepth 100000 in
theorem cMo_denied {P : List Nat} {K : Nat → Nat} {I0 : Nat → Nat → Int32} {O : Nat → Nat → Option Nat} {J0 : Nat → Nat → Int64} (hV : IV P K I0 O) {a0 : Nat} (h0 : a0 ∈ P ∧ K a0 = 10) {x1 : Int32} : Con yMo_denied bMo_denied 2 (some .boolean) ({ frames := 0, cells := 0, slots := 0, locals := 0 } : Room) P K I0 O J0 [.ref a0, .int x1] (SPo frX10 2 (fun _ I_ => (I_ a0 6).toInt = (I0 a0 6).toInt ∧ (I_ a0 18).toInt = (I0 a0 18).toInt) P K I0 O J0) := by
  refine Con.ofG mfMo_denied (Nat.le_of_ble_eq_true rfl) ?_
  intro X C E
  have r1 := rg x1
  have hV0 : SV frX10 P K O I0 J0 I0 J0 := SV.rf hV
  refine g_aload_n C dMo_denied_0 rfl ?_
  refine g_iload_n C dMo_denied_1 rfl ?_
  refine gt_puti C dMo_denied_2 fl_Mo_76 h0 hV0 rfl trivial rfl (Or.inl rfl) (fun Iw1 eIw1 hVw1 => ?_)
  have tkw1_a0_6 : (Iw1 a0 6).toInt = (I0 a0 6).toInt := by rw [eIw1, up2_ne _ _ (fun z => absurd z.2 (by decide))]
  have tkw1_a0_18 : (Iw1 a0 18).toInt = (I0 a0 18).toInt := by rw [eIw1, up2_ne _ _ (fun z => absurd z.2 (by decide))]
  refine g_aload_n C dMo_denied_5 rfl ?_
  refine g_iconst (v := Int32.ofInt (-1)) C dMo_denied_6 (by decide) ?_
  refine gt_puti C dMo_denied_7 fl_Mo_9 h0 hVw1 rfl trivial rfl (Or.inl rfl) (fun Iw2 eIw2 hVw2 => ?_)
  have tkw2_a0_6 : (Iw2 a0 6).toInt = (Iw1 a0 6).toInt := by rw [eIw2, up2_ne _ _ (fun z => absurd z.2 (by decide))]
  have tkw2_a0_18 : (Iw2 a0 18).toInt = (Iw1 a0 18).toInt := by rw [eIw2, up2_ne _ _ (fun z => absurd z.2 (by decide))]
  refine g_iconst (v := Int32.ofInt (0)) C dMo_denied_10 (by decide) ?_
  exact s_zret C E dMo_denied_11 ⟨Nat.zero_le _, Nat.zero_le _⟩ hVw2 (Or.inl (ofI (by decide))) (by have hci : Int32.toInt (Int32.ofInt (0)) = 0 := ofI (by decide); (try dsimp only); omega)
set_option maxHeartbeats 4000000 in
set_option maxRecDepth 100000 in
theorem cMo_done {P : List Nat} {K : Nat → Nat} {I0 : Nat → Nat → Int32} {O : Nat → Nat → Option Nat} {J0 : Nat → Nat → Int64} (hV : IV P K I0 O) {a0 : Nat} (h0 : a0 ∈ P ∧ K a0 = 10) {x1 : Int32} : Con yMo_done bMo_done 2 (some .int) ({ frames := 0, cells := 0, slots := 0, locals := 0 } : Room) P K I0 O J0 [.ref a0, .int x1] (SPo frX10 1 (fun _ I_ => (I_ a0 6).toInt = (I0 a0 6).toInt ∧ (I_ a0 18).toInt = (I0 a0 18).toInt) P K I0 O J0) := by
  refine Con.ofG mfMo_done (Nat.le_of_ble_eq_true rfl) ?_
  intro X C E
  have r1 := rg x1
  have hV0 : SV frX10 P K O I0 J0 I0 J0 := SV.rf hV
  refine g_aload_n C dMo_done_0 rfl ?_
  refine g_iconst (v := Int32.ofInt (0)) C dMo_done_1 (by decide) ?_
  refine gt_puti C dMo_done_2 fl_Mo_76 h0 hV0 rfl trivial rfl (Or.inl rfl) (fun Iw1 eIw1 hVw1 => ?_)
  have tkw1_a0_6 : (Iw1 a0 6).toInt = (I0 a0 6).toInt := by rw [eIw1, up2_ne _ _ (fun z => absurd z.2 (by decide))]
  have tkw1_a0_18 : (Iw1 a0 18).toInt = (I0 a0 18).toInt := by rw [eIw1, up2_ne _ _ (fun z => absurd z.2 (by decide))]
  refine g_aload_n C dMo_done_5 rfl ?_
  refine g_iconst (v := Int32.ofInt (-1)) C dMo_done_6 (by decide) ?_
  refine gt_puti C dMo_done_7 fl_Mo_9 h0 hVw1 rfl trivial rfl (Or.inl rfl) (fun Iw2 eIw2 hVw2 => ?_)
  have tkw2_a0_6 : (Iw2 a0 6).toInt = (Iw1 a0 6).toInt := by rw [eIw2, up2_ne _ _ (fun z => absurd z.2 (by decide))]
  have tkw2_a0_18 : (Iw2 a0 18).toInt = (Iw1 a0 18).toInt := by rw [eIw2, up2_ne _ _ (fun z => absurd z.2 (by decide))]
  refine g_iload_n C dMo_done_10 rfl ?_
  exact s_iret C E dMo_done_11 ⟨Nat.zero_le _, Nat.zero_le _⟩ hVw2 (by (try dsimp only); omega)
set_option maxHeartbeats 4000000 in
set_option maxRecDepth 100000 in
theorem cMo_granted {P : List Nat} {K : Nat → Nat} {I0 : Nat → Nat → Int32} {O : Nat → Nat → Option Nat} {J0 : Nat → Nat → Int64} (hV : IV P K I0 O) {a0 : Nat} (h0 : a0 ∈ P ∧ K a0 = 10) : Con yMo_granted bMo_granted 1 (some .boolean) ({ frames := 0, cells := 0, slots := 0, locals := 0 } : Room) P K I0 O J0 [.ref a0] (SPo frX10 2 (fun _ I_ => (I_ a0 6).toInt = (I0 a0 6).toInt ∧ (I_ a0 18).toInt = (I0 a0 18).toInt) P K I0 O J0) := by
  refine Con.ofG mfMo_granted (Nat.le_of_ble_eq_true rfl) ?_
  intro X C E
  have hV0 : SV frX10 P K O I0 J0 I0 J0 := SV.rf hV
  refine g_aload_n C dMo_granted_0 rfl ?_
  refine g_iconst (v := Int32.ofInt (0)) C dMo_granted_1 (by decide) ?_
  refine gt_puti C dMo_granted_2 fl_Mo_76 h0 hV0 rfl trivial rfl (Or.inl rfl) (fun Iw1 eIw1 hVw1 => ?_)
  have tkw1_a0_6 : (Iw1 a0 6).toInt = (I0 a0 6).toInt := by rw [eIw1, up2_ne _ _ (fun z => absurd z.2 (by decide))]
  have tkw1_a0_18 : (Iw1 a0 18).toInt = (I0 a0 18).toInt := by rw [eIw1, up2_ne _ _ (fun z => absurd z.2 (by decide))]
  refine g_aload_n C dMo_granted_5 rfl ?_
  refine g_iconst (v := Int32.ofInt (-1)) C dMo_granted_6 (by decide) ?_
  refine gt_puti C dMo_granted_7 fl_Mo_9 h0 hVw1 rfl trivial rfl (Or.inl rfl) (fun Iw2 eIw2 hVw2 => ?_)
  have tkw2_a0_6 : (Iw2 a0 6).toInt = (Iw1 a0 6).toInt := by rw [eIw2, up2_ne _ _ (fun z => absurd z.2 (by decide))]
  have tkw2_a0_18 : (Iw2 a0 18).toInt = (Iw1 a0 18).toInt := by rw [eIw2, up2_ne _ _ (fun z => absurd z.2 (by decide))]
  refine g_iconst (v := Int32.ofInt (1)) C dMo_granted_10 (by decide) ?_
  exact s_zret C E dMo_granted_11 ⟨Nat.zero_le _, Nat.zero_le _⟩ hVw2 (Or.inr (ofI (by decide))) (by have hci : Int32.toInt (Int32.ofInt (1)) = 1 := ofI (by decide); (try dsimp only); omega)
set_option maxHeartbeats 4000000 in
set_option maxRecDepth 100000 in
theorem cMo_isOre_Z {P : List Nat} {K : Nat → Nat} {I0 : Nat → Nat → Int32} {O : Nat → Nat → Option Nat} {J0 : Nat → Nat → Int64} (hV : IV P K I0 O) {a0 : Nat} (h0 : a0 ∈ P ∧ K a0 = 10) {x1 : Int32} (hMn : O a0 3 = none) : Con yMo_isOre bMo_isOre 2 (some .boolean) ({ frames := 0, cells := 0, slots := 0, locals := 0 } : Room) P K I0 O J0 [.ref a0, .int x1] (SPo frP 2 (fun z _ => Int32.toInt z = 0) P K I0 O J0) := by
  refine Con.ofG mfMo_isOre (Nat.le_of_ble_eq_true rfl) ?_
  intro X C E
  have r1 := rg x1
  have hV0 : SV frP P K O I0 J0 I0 J0 := SV.rf hV
  refine g_aload_n C dMo_isOre_0 rfl ?_
  refine gt_getN C dMo_isOre_1 fl_Mo_290 h0 hMn ?_
  refine g_ifnullN 26 C dMo_isOre_4 (by decide) ?_
  refine g_iconst (v := Int32.ofInt (0)) C dMo_isOre_26 (by decide) ?_
  exact s_zret C E dMo_isOre_27 ⟨Nat.zero_le _, Nat.zero_le _⟩ hV0 (Or.inl (ofI (by decide))) (by have hci : Int32.toInt (Int32.ofInt (0)) = 0 := ofI (by decide); (try dsimp only); omega)
set_option maxHeartbeats 4000000 in
set_option maxRecDepth 100000 in
theorem cMo_isOre_G {P : List Nat} {K : Nat → Nat} {I0 : Nat → Nat → Int32} {O : Nat → Nat → Option Nat} {J0 : Nat → Nat → Int64} (hV : IV P K I0 O) {a0 : Nat} (h0 : a0 ∈ P ∧ K a0 = 10) {x1 : Int32} {M : Nat} (hMo : O a0 3 = some M) (hMk : M ∈ P ∧ K M = 9) (hGM : GM I0 M) : Con yMo_isOre bMo_isOre 2 (some .boolean) ({ frames := 0, cells := 0, slots := 0, locals := 0 } : Room) P K I0 O J0 [.ref a0, .int x1] (SPo frP 2 (fun z _ => Int32.toInt z = 0 ∨ (0 ≤ Int32.toInt x1 ∧ Int32.toInt x1 ≤ 3)) P K I0 O J0) := by
  refine Con.ofG mfMo_isOre (Nat.le_of_ble_eq_true rfl) ?_
  intro X C E
  have r1 := rg x1
  have hV0 : SV frP P K O I0 J0 I0 J0 := SV.rf hV
  refine g_aload_n C dMo_isOre_0 rfl ?_
  refine gt_getS C dMo_isOre_1 fl_Mo_290 h0 hMo ?_
  refine g_ifnull C dMo_isOre_4 ?_
  refine g_iload_n C dMo_isOre_7 rfl ?_
  refine gt_if_lt 26 C dMo_isOre_8 (by decide) rfl (fun c_8 => ?_) (fun c_8 => ?_)
  · skip
    refine g_iconst (v := Int32.ofInt (0)) C dMo_isOre_26 (by decide) ?_
    exact s_zret C E dMo_isOre_27 ⟨Nat.zero_le _, Nat.zero_le _⟩ hV0 (Or.inl (ofI (by decide))) (by have hci : Int32.toInt (Int32.ofInt (0)) = 0 := ofI (by decide); (try dsimp only); omega)
  · skip
    refine g_iload_n C dMo_isOre_11 rfl ?_
    refine g_aload_n C dMo_isOre_12 rfl ?_
    refine gt_getS C dMo_isOre_13 fl_Mo_290 h0 hMo ?_
    refine g_geti C dMo_isOre_16 fl_Mo_194 hMk ?_
    have o_16 := hV0.1.2 M hMk.1 9
    rw [hMk.2] at o_16
    have o_16 : 0 ≤ (I0 M 9).toInt ∧ (I0 M 9).toInt ≤ 4 := o_16
    refine gt_icmp_ge 26 C dMo_isOre_19 (by decide) rfl rfl (fun c_19 => ?_) (fun c_19 => ?_)
    · skip
      refine g_iconst (v := Int32.ofInt (0)) C dMo_isOre_26 (by decide) ?_
      exact s_zret C E dMo_isOre_27 ⟨Nat.zero_le _, Nat.zero_le _⟩ hV0 (Or.inl (ofI (by decide))) (by have hci : Int32.toInt (Int32.ofInt (0)) = 0 := ofI (by decide); (try dsimp only); omega)
    · skip
      refine g_iconst (v := Int32.ofInt (1)) C dMo_isOre_22 (by decide) ?_
      refine g_goto 27 C dMo_isOre_23 (by decide) ?_
      exact s_zret C E dMo_isOre_27 ⟨Nat.zero_le _, Nat.zero_le _⟩ hV0 (Or.inr (ofI (by decide))) (by have hci : Int32.toInt (Int32.ofInt (1)) = 1 := ofI (by decide); (try dsimp only); omega)
set_option maxHeartbeats 4000000 in
set_option maxRecDepth 100000 in
theorem cMo_isSize_Z {P : List Nat} {K : Nat → Nat} {I0 : Nat → Nat → Int32} {O : Nat → Nat → Option Nat} {J0 : Nat → Nat → Int64} (hV : IV P K I0 O) {a0 : Nat} (h0 : a0 ∈ P ∧ K a0 = 10) {x1 : Int32} (hMn : O a0 3 = none) : Con yMo_isSize bMo_isSize 2 (some .boolean) ({ frames := 0, cells := 0, slots := 0, locals := 0 } : Room) P K I0 O J0 [.ref a0, .int x1] (SPo frP 2 (fun z _ => Int32.toInt z = 0) P K I0 O J0) := by
  refine Con.ofG mfMo_isSize (Nat.le_of_ble_eq_true rfl) ?_
  intro X C E
  have r1 := rg x1
  have hV0 : SV frP P K O I0 J0 I0 J0 := SV.rf hV
  refine g_aload_n C dMo_isSize_0 rfl ?_
  refine gt_getN C dMo_isSize_1 fl_Mo_290 h0 hMn ?_
  refine g_ifnullN 26 C dMo_isSize_4 (by decide) ?_
  refine g_iconst (v := Int32.ofInt (0)) C dMo_isSize_26 (by decide) ?_
  exact s_zret C E dMo_isSize_27 ⟨Nat.zero_le _, Nat.zero_le _⟩ hV0 (Or.inl (ofI (by decide))) (by have hci : Int32.toInt (Int32.ofInt (0)) = 0 := ofI (by decide); (try dsimp only); omega)
set_option maxHeartbeats 4000000 in
set_option maxRecDepth 100000 in
theorem cMo_isSize_G {P : List Nat} {K : Nat → Nat} {I0 : Nat → Nat → Int32} {O : Nat → Nat → Option Nat} {J0 : Nat → Nat → Int64} (hV : IV P K I0 O) {a0 : Nat} (h0 : a0 ∈ P ∧ K a0 = 10) {x1 : Int32} {M : Nat} (hMo : O a0 3 = some M) (hMk : M ∈ P ∧ K M = 9) (hGM : GM I0 M) : Con yMo_isSize bMo_isSize 2 (some .boolean) ({ frames := 0, cells := 0, slots := 0, locals := 0 } : Room) P K I0 O J0 [.ref a0, .int x1] (SPo frP 2 (fun z _ => Int32.toInt z = 0 ∨ (0 ≤ Int32.toInt x1 ∧ Int32.toInt x1 ≤ 4)) P K I0 O J0) := by
  refine Con.ofG mfMo_isSize (Nat.le_of_ble_eq_true rfl) ?_
  intro X C E
  have r1 := rg x1
  have hV0 : SV frP P K O I0 J0 I0 J0 := SV.rf hV
  refine g_aload_n C dMo_isSize_0 rfl ?_
  refine gt_getS C dMo_isSize_1 fl_Mo_290 h0 hMo ?_
  refine g_ifnull C dMo_isSize_4 ?_
  refine g_iload_n C dMo_isSize_7 rfl ?_
  refine gt_if_lt 26 C dMo_isSize_8 (by decide) rfl (fun c_8 => ?_) (fun c_8 => ?_)
  · skip
    refine g_iconst (v := Int32.ofInt (0)) C dMo_isSize_26 (by decide) ?_
    exact s_zret C E dMo_isSize_27 ⟨Nat.zero_le _, Nat.zero_le _⟩ hV0 (Or.inl (ofI (by decide))) (by have hci : Int32.toInt (Int32.ofInt (0)) = 0 := ofI (by decide); (try dsimp only); omega)
  · skip
    refine g_iload_n C dMo_isSize_11 rfl ?_
    refine g_aload_n C dMo_isSize_12 rfl ?_
    refine gt_getS C dMo_isSize_13 fl_Mo_290 h0 hMo ?_
    refine g_geti C dMo_isSize_16 fl_Mo_191 hMk ?_
    have o_16 := hV0.1.2 M hMk.1 8
    rw [hMk.2] at o_16
    have o_16 : 0 ≤ (I0 M 8).toInt ∧ (I0 M 8).toInt ≤ 5 := o_16
    refine gt_icmp_ge 26 C dMo_isSize_19 (by decide) rfl rfl (fun c_19 => ?_) (fun c_19 => ?_)
    · skip
      refine g_iconst (v := Int32.ofInt (0)) C dMo_isSize_26 (by decide) ?_
      exact s_zret C E dMo_isSize_27 ⟨Nat.zero_le _, Nat.zero_le _⟩ hV0 (Or.inl (ofI (by decide))) (by have hci : Int32.toInt (Int32.ofInt (0)) = 0 := ofI (by decide); (try dsimp only); omega)
    · skip
      refine g_iconst (v := Int32.ofInt (1)) C dMo_isSize_22 (by decide) ?_
      refine g_goto 27 C dMo_isSize_23 (by decide) ?_
      exact s_zret C E dMo_isSize_27 ⟨Nat.zero_le _, Nat.zero_le _⟩ hV0 (Or.inr (ofI (by decide))) (by have hci : Int32.toInt (Int32.ofInt (1)) = 1 := ofI (by decide); (try dsimp only); omega)
set_option maxHeartbeats 4000000 in
set_option maxRecDepth 100000 in
theorem cMo_isWhat_Z {P : List Nat} {K : Nat → Nat} {I0 : Nat → Nat → Int32} {O : Nat → Nat → Option Nat} {J0 : Nat → Nat → Int64} (hV : IV P K I0 O) {a0 : Nat} (h0 : a0 ∈ P ∧ K a0 = 10) {x1 : Int32} {x2 : Int32} (hMn : O a0 3 = none) : Con yMo_isWhat bMo_isWhat 3 (some .boolean) ({ frames := 0, cells := 0, slots := 0, locals := 0 } : Room) P K I0 O J0 [.ref a0, .int x1, .int x2] (SPo frP 2 (fun z _ => Int32.toInt z = 0) P K I0 O J0) := by
  refine Con.ofG mfMo_isWhat (Nat.le_of_ble_eq_true rfl) ?_
  intro X C E
  have r1 := rg x1
  have r2 := rg x2
  have hV0 : SV frP P K O I0 J0 I0 J0 := SV.rf hV
  refine g_aload_n C dMo_isWhat_0 rfl ?_
  refine gt_getN C dMo_isWhat_1 fl_Mo_290 h0 hMn ?_
  refine g_ifnullN 38 C dMo_isWhat_4 (by decide) ?_
  refine g_iconst (v := Int32.ofInt (0)) C dMo_isWhat_38 (by decide) ?_
  exact s_zret C E dMo_isWhat_39 ⟨Nat.zero_le _, Nat.zero_le _⟩ hV0 (Or.inl (ofI (by decide))) (by have hci : Int32.toInt (Int32.ofInt (0)) = 0 := ofI (by decide); (try dsimp only); omega)
set_option maxHeartbeats 4000000 in
set_option maxRecDepth 100000 in
theorem cMo_isWhat_G {P : List Nat} {K : Nat → Nat} {I0 : Nat → Nat → Int32} {O : Nat → Nat → Option Nat} {J0 : Nat → Nat → Int64} (hV : IV P K I0 O) {a0 : Nat} (h0 : a0 ∈ P ∧ K a0 = 10) {x1 : Int32} {x2 : Int32} {M : Nat} (hMo : O a0 3 = some M) (hMk : M ∈ P ∧ K M = 9) (hGM : GM I0 M) : Con yMo_isWhat bMo_isWhat 3 (some .boolean) ({ frames := 1, cells := 0, slots := 0, locals := 22 } : Room) P K I0 O J0 [.ref a0, .int x1, .int x2] (SPo frP 2 (fun z _ => Int32.toInt z = 0 ∨ (0 ≤ Int32.toInt x1 ∧ Int32.toInt x1 ≤ 11 ∧ 0 ≤ Int32.toInt x2 ∧ Int32.toInt x2 ≤ 6)) P K I0 O J0) := by
  refine Con.ofG mfMo_isWhat (Nat.le_of_ble_eq_true rfl) ?_
  intro X C E
  have r1 := rg x1
  have r2 := rg x2
  have hV0 : SV frP P K O I0 J0 I0 J0 := SV.rf hV
  refine g_aload_n C dMo_isWhat_0 rfl ?_
  refine gt_getS C dMo_isWhat_1 fl_Mo_290 h0 hMo ?_
  refine g_ifnull C dMo_isWhat_4 ?_
  refine g_iload_n C dMo_isWhat_7 rfl ?_
  refine g_iconst (v := Int32.ofInt (0)) C dMo_isWhat_8 (by decide) ?_
  refine g_bipush (v := Int32.ofInt (11)) C dMo_isWhat_9 (by decide) ?_
  refine s_callS_zp (av := fun ad => [.int x1, .int (Int32.ofInt (0)), .int (Int32.ofInt (11))]) C dMo_isWhat_11 mfMo_in msMo_in ln_Mo_149 (cMo_in hV0.1 ) rfl rfl (Nat.le_of_ble_eq_true rfl) ⟨Nat.le_of_ble_eq_true rfl, Nat.le_of_ble_eq_true rfl⟩ ⟨rfl, rfl⟩ ⟨Nat.zero_le _, Nat.zero_le _⟩ (fun z_11 b_11 p_11 => ?_)
  have rz_11 := rg z_11
  have u_11 := b_11
  unfold B01 at u_11
  try dsimp only at p_11
  have hk1_11 : Int32.toInt (Int32.ofInt (0)) = 0 := ofI (by decide)
  have hk2_11 : Int32.toInt (Int32.ofInt (11)) = 11 := ofI (by decide)
  refine gt_if_eq 38 C dMo_isWhat_14 (by decide) rfl (fun c_14 => ?_) (fun c_14 => ?_)
  · skip
    refine g_iconst (v := Int32.ofInt (0)) C dMo_isWhat_38 (by decide) ?_
    exact s_zret C E dMo_isWhat_39 ⟨Nat.zero_le _, Nat.zero_le _⟩ hV0 (Or.inl (ofI (by decide))) (by have hci : Int32.toInt (Int32.ofInt (0)) = 0 := ofI (by decide); (try dsimp only); omega)
  · skip
    refine g_iload_n C dMo_isWhat_17 rfl ?_
    refine g_iconst (v := Int32.ofInt (0)) C dMo_isWhat_18 (by decide) ?_
    refine g_aload_n C dMo_isWhat_19 rfl ?_
    refine gt_getS C dMo_isWhat_20 fl_Mo_290 h0 hMo ?_
    refine g_geti C dMo_isWhat_23 fl_Mo_191 hMk ?_
    have o_23 := hV0.1.2 M hMk.1 8
    rw [hMk.2] at o_23
    have o_23 : 0 ≤ (I0 M 8).toInt ∧ (I0 M 8).toInt ≤ 5 := o_23
    refine g_iconst (v := Int32.ofInt (1)) C dMo_isWhat_26 (by decide) ?_
    first | refine n_iadd C dMo_isWhat_27 rfl (ofI (by decide)) (by omega) (fun z_27 e_27 => ?_) | refine a_iadd C dMo_isWhat_27 (fun z_27 => ?_)
    refine s_callS_zp (av := fun ad => [.int x2, .int (Int32.ofInt (0)), .int z_27]) C dMo_isWhat_28 mfMo_in msMo_in ln_Mo_149 (cMo_in hV0.1 ) rfl rfl (Nat.le_of_ble_eq_true rfl) ⟨Nat.le_of_ble_eq_true rfl, Nat.le_of_ble_eq_true rfl⟩ ⟨rfl, rfl⟩ ⟨Nat.zero_le _, Nat.zero_le _⟩ (fun z_28 b_28 p_28 => ?_)
    have rz_28 := rg z_28
    have u_28 := b_28
    unfold B01 at u_28
    try dsimp only at p_28
    have hk1_28 : Int32.toInt (Int32.ofInt (0)) = 0 := ofI (by decide)
    refine gt_if_eq 38 C dMo_isWhat_31 (by decide) rfl (fun c_31 => ?_) (fun c_31 => ?_)
    · skip
      refine g_iconst (v := Int32.ofInt (0)) C dMo_isWhat_38 (by decide) ?_
      exact s_zret C E dMo_isWhat_39 ⟨Nat.zero_le _, Nat.zero_le _⟩ hV0 (Or.inl (ofI (by decide))) (by have hci : Int32.toInt (Int32.ofInt (0)) = 0 := ofI (by decide); (try dsimp only); omega)
    · skip
      refine g_iconst (v := Int32.ofInt (1)) C dMo_isWhat_34 (by decide) ?_
      refine g_goto 39 C dMo_isWhat_35 (by decide) ?_
      exact s_zret C E dMo_isWhat_39 ⟨Nat.zero_le _, Nat.zero_le _⟩ hV0 (Or.inr (ofI (by decide))) (by have hci : Int32.toInt (Int32.ofInt (1)) = 1 := ofI (by decide); (try dsimp only); omega)
