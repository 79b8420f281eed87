theorem k_Rd_111 : Cond.constantLong "RoarMill$Reader" 111 (32) ∈ wG := wG_p3 94 (by decide +kernel) (by decide +kernel)
theorem k_RM_224 : Cond.constant "RoarMill" 224 (Int32.ofInt (999999)) ∈ wG := wG_p4 76 (by decide +kernel) (by decide +kernel)
theorem k_RM_305 : Cond.constant "RoarMill" 305 (Int32.ofInt (1000000)) ∈ wG := wG_p5 30 (by decide +kernel) (by decide +kernel)
theorem k_Mo_88 : Cond.constantLong "RoarMillModel" 88 (32) ∈ wG := wG_p6 95 (by decide +kernel) (by decide +kernel)
theorem k_Mo_342 : Cond.constant "RoarMillModel" 342 (Int32.ofInt (999999)) ∈ wG := wG_p7 42 (by decide +kernel) (by decide +kernel)
theorem k_Mo_388 : Cond.constantLong "RoarMillModel" 388 (1000000) ∈ wG := wG_p7 151 (by decide +kernel) (by decide +kernel)
theorem k_Mo_384 : Cond.constantLong "RoarMillModel" 384 (10000) ∈ wG := wG_p7 156 (by decide +kernel) (by decide +kernel)
theorem k_Mo_386 : Cond.constantLong "RoarMillModel" 386 (100) ∈ wG := wG_p7 157 (by decide +kernel) (by decide +kernel)
set_option maxHeartbeats 4000000 in
set_option maxRecDepth 100000 in
theorem cRM_share {P : List Nat} {K : Nat → Nat} {I0 : Nat → Nat → Int32} {O : Nat → Nat → Option Nat} {J0 : Nat → Nat → Int64} (hV : IV P K I0 O) {x0 : Int32} {x1 : Int32} {x2 : Int32} : Con yRM_share bRM_share 3 (some .int) ({ frames := 0, cells := 0, slots := 0, locals := 0 } : Room) P K I0 O J0 [.int x0, .int x1, .int x2] (SPo frP 1 (tt) P K I0 O J0) := by
  refine Con.ofG mfRM_share (Nat.le_of_ble_eq_true rfl) ?_
  intro X C E
  have r0 := rg x0
  have r1 := rg x1
  have r2 := rg x2
  have hV0 : SV frP P K O I0 J0 I0 J0 := SV.rf hV
  refine g_iload_n C dRM_share_0 rfl ?_
  refine gt_if_le 16 C dRM_share_1 (by decide) rfl (fun c_1 => ?_) (fun c_1 => ?_)
  · skip
    refine g_iconst (v := Int32.ofInt (0)) C dRM_share_16 (by decide) ?_
    exact s_iret C E dRM_share_17 ⟨Nat.zero_le _, Nat.zero_le _⟩ hV0 trivial
  · skip
    refine g_iload_n C dRM_share_4 rfl ?_
    refine gt_i2l C dRM_share_5 (fun z_5 e_5 => ?_)
    refine g_iload_n C dRM_share_6 rfl ?_
    refine gt_i2l C dRM_share_7 (fun z_7 e_7 => ?_)
    refine a_lmul C dRM_share_8 (fun z_8 => ?_)
    refine g_iload_n C dRM_share_9 rfl ?_
    refine gt_i2l C dRM_share_10 (fun z_10 e_10 => ?_)
    refine a_ldiv C dRM_share_11 (by omega) (fun z_11 => ?_)
    refine a_l2i C dRM_share_12 (fun z_12 => ?_)
    refine g_goto 17 C dRM_share_13 (by decide) ?_
    exact s_iret C E dRM_share_17 ⟨Nat.zero_le _, Nat.zero_le _⟩ hV0 trivial
set_option maxHeartbeats 4000000 in
set_option maxRecDepth 100000 in
theorem cRM_isHour {P : List Nat} {K : Nat → Nat} {I0 : Nat → Nat → Int32} {O : Nat → Nat → Option Nat} {J0 : Nat → Nat → Int64} (hV : IV P K I0 O) {x0 : Int32} : Con yRM_isHour bRM_isHour 1 (some .boolean) ({ frames := 0, cells := 0, slots := 0, locals := 0 } : Room) P K I0 O J0 [.int x0] (SPo frP 2 (fun z _ => Int32.toInt z = 0 ∨ (0 ≤ Int32.toInt x0 ∧ Int32.toInt x0 < 12)) P K I0 O J0) := by
  refine Con.ofG mfRM_isHour (Nat.le_of_ble_eq_true rfl) ?_
  intro X C E
  have r0 := rg x0
  have hV0 : SV frP P K O I0 J0 I0 J0 := SV.rf hV
  refine g_iload_n C dRM_isHour_0 rfl ?_
  refine gt_if_lt 14 C dRM_isHour_1 (by decide) rfl (fun c_1 => ?_) (fun c_1 => ?_)
  · skip
    refine g_iconst (v := Int32.ofInt (0)) C dRM_isHour_14 (by decide) ?_
    exact s_zret C E dRM_isHour_15 ⟨Nat.zero_le _, Nat.zero_le _⟩ hV0 (Or.inl (ofI (by decide))) (by have hci : Int32.toInt (Int32.ofInt (0)) = 0 := ofI (by decide); (try dsimp only); omega)
  · skip
    refine g_iload_n C dRM_isHour_4 rfl ?_
    refine g_bipush (v := Int32.ofInt (12)) C dRM_isHour_5 (by decide) ?_
    refine gt_icmp_ge 14 C dRM_isHour_7 (by decide) rfl (ofI (by decide)) (fun c_7 => ?_) (fun c_7 => ?_)
    · skip
      refine g_iconst (v := Int32.ofInt (0)) C dRM_isHour_14 (by decide) ?_
      exact s_zret C E dRM_isHour_15 ⟨Nat.zero_le _, Nat.zero_le _⟩ hV0 (Or.inl (ofI (by decide))) (by have hci : Int32.toInt (Int32.ofInt (0)) = 0 := ofI (by decide); (try dsimp only); omega)
    · skip
      refine g_iconst (v := Int32.ofInt (1)) C dRM_isHour_10 (by decide) ?_
      refine g_goto 15 C dRM_isHour_11 (by decide) ?_
      exact s_zret C E dRM_isHour_15 ⟨Nat.zero_le _, Nat.zero_le _⟩ hV0 (Or.inr (ofI (by decide))) (by have hci : Int32.toInt (Int32.ofInt (1)) = 1 := ofI (by decide); (try dsimp only); omega)
set_option maxHeartbeats 4000000 in
set_option maxRecDepth 100000 in
theorem cRM_isRate {P : List Nat} {K : Nat → Nat} {I0 : Nat → Nat → Int32} {O : Nat → Nat → Option Nat} {J0 : Nat → Nat → Int64} (hV : IV P K I0 O) {x0 : Int32} : Con yRM_isRate bRM_isRate 1 (some .boolean) ({ frames := 0, cells := 0, slots := 0, locals := 0 } : Room) P K I0 O J0 [.int x0] (SPo frP 2 (tt) P K I0 O J0) := by
  refine Con.ofG mfRM_isRate (Nat.le_of_ble_eq_true rfl) ?_
  intro X C E
  have r0 := rg x0
  have hV0 : SV frP P K O I0 J0 I0 J0 := SV.rf hV
  refine g_iload_n C dRM_isRate_0 rfl ?_
  refine gt_if_lt 13 C dRM_isRate_1 (by decide) rfl (fun c_1 => ?_) (fun c_1 => ?_)
  · skip
    refine g_iconst (v := Int32.ofInt (0)) C dRM_isRate_13 (by decide) ?_
    exact s_zret C E dRM_isRate_14 ⟨Nat.zero_le _, Nat.zero_le _⟩ hV0 (Or.inl (ofI (by decide))) trivial
  · skip
    refine g_iload_n C dRM_isRate_4 rfl ?_
    refine g_iconst (v := Int32.ofInt (3)) C dRM_isRate_5 (by decide) ?_
    refine gt_icmp_gt 13 C dRM_isRate_6 (by decide) rfl (ofI (by decide)) (fun c_6 => ?_) (fun c_6 => ?_)
    · skip
      refine g_iconst (v := Int32.ofInt (0)) C dRM_isRate_13 (by decide) ?_
      exact s_zret C E dRM_isRate_14 ⟨Nat.zero_le _, Nat.zero_le _⟩ hV0 (Or.inl (ofI (by decide))) trivial
    · skip
      refine g_iconst (v := Int32.ofInt (1)) C dRM_isRate_9 (by decide) ?_
      refine g_goto 14 C dRM_isRate_10 (by decide) ?_
      exact s_zret C E dRM_isRate_14 ⟨Nat.zero_le _, Nat.zero_le _⟩ hV0 (Or.inr (ofI (by decide))) trivial
set_option maxHeartbeats 4000000 in
set_option maxRecDepth 100000 in
theorem cRM_isWater {P : List Nat} {K : Nat → Nat} {I0 : Nat → Nat → Int32} {O : Nat → Nat → Option Nat} {J0 : Nat → Nat → Int64} (hV : IV P K I0 O) {x0 : Int32} : Con yRM_isWater bRM_isWater 1 (some .boolean) ({ frames := 0, cells := 0, slots := 0, locals := 0 } : Room) P K I0 O J0 [.int x0] (SPo frP 2 (tt) P K I0 O J0) := by
  refine Con.ofG mfRM_isWater (Nat.le_of_ble_eq_true rfl) ?_
  intro X C E
  have r0 := rg x0
  have hV0 : SV frP P K O I0 J0 I0 J0 := SV.rf hV
  refine g_iload_n C dRM_isWater_0 rfl ?_
  refine gt_if_lt 13 C dRM_isWater_1 (by decide) rfl (fun c_1 => ?_) (fun c_1 => ?_)
  · skip
    refine g_iconst (v := Int32.ofInt (0)) C dRM_isWater_13 (by decide) ?_
    exact s_zret C E dRM_isWater_14 ⟨Nat.zero_le _, Nat.zero_le _⟩ hV0 (Or.inl (ofI (by decide))) trivial
  · skip
    refine g_iload_n C dRM_isWater_4 rfl ?_
    refine g_iconst (v := Int32.ofInt (3)) C dRM_isWater_5 (by decide) ?_
    refine gt_icmp_gt 13 C dRM_isWater_6 (by decide) rfl (ofI (by decide)) (fun c_6 => ?_) (fun c_6 => ?_)
    · skip
      refine g_iconst (v := Int32.ofInt (0)) C dRM_isWater_13 (by decide) ?_
      exact s_zret C E dRM_isWater_14 ⟨Nat.zero_le _, Nat.zero_le _⟩ hV0 (Or.inl (ofI (by decide))) trivial
    · skip
      refine g_iconst (v := Int32.ofInt (1)) C dRM_isWater_9 (by decide) ?_
      refine g_goto 14 C dRM_isWater_10 (by decide) ?_
      exact s_zret C E dRM_isWater_14 ⟨Nat.zero_le _, Nat.zero_le _⟩ hV0 (Or.inr (ofI (by decide))) trivial
set_option maxHeartbeats 4000000 in
set_option maxRecDepth 100000 in
theorem cRM_isPlanLength {P : List Nat} {K : Nat → Nat} {I0 : Nat → Nat → Int32} {O : Nat → Nat → Option Nat} {J0 : Nat → Nat → Int64} (hV : IV P K I0 O) {x0 : Int32} : Con yRM_isPlanLength bRM_isPlanLength 1 (some .boolean) ({ frames := 0, cells := 0, slots := 0, locals := 0 } : Room) P K I0 O J0 [.int x0] (SPo frP 2 (fun z _ => Int32.toInt z = 0 ∨ (1 ≤ Int32.toInt x0 ∧ Int32.toInt x0 ≤ 5)) P K I0 O J0) := by
  refine Con.ofG mfRM_isPlanLength (Nat.le_of_ble_eq_true rfl) ?_
  intro X C E
  have r0 := rg x0
  have hV0 : SV frP P K O I0 J0 I0 J0 := SV.rf hV
  refine g_iload_n C dRM_isPlanLength_0 rfl ?_
  refine g_iconst (v := Int32.ofInt (1)) C dRM_isPlanLength_1 (by decide) ?_
  refine gt_icmp_lt 14 C dRM_isPlanLength_2 (by decide) rfl (ofI (by decide)) (fun c_2 => ?_) (fun c_2 => ?_)
  · skip
    refine g_iconst (v := Int32.ofInt (0)) C dRM_isPlanLength_14 (by decide) ?_
    exact s_zret C E dRM_isPlanLength_15 ⟨Nat.zero_le _, Nat.zero_le _⟩ hV0 (Or.inl (ofI (by decide))) (by have hci : Int32.toInt (Int32.ofInt (0)) = 0 := ofI (by decide); (try dsimp only); omega)
  · skip
    refine g_iload_n C dRM_isPlanLength_5 rfl ?_
    refine g_iconst (v := Int32.ofInt (5)) C dRM_isPlanLength_6 (by decide) ?_
    refine gt_icmp_gt 14 C dRM_isPlanLength_7 (by decide) rfl (ofI (by decide)) (fun c_7 => ?_) (fun c_7 => ?_)
    · skip
      refine g_iconst (v := Int32.ofInt (0)) C dRM_isPlanLength_14 (by decide) ?_
      exact s_zret C E dRM_isPlanLength_15 ⟨Nat.zero_le _, Nat.zero_le _⟩ hV0 (Or.inl (ofI (by decide))) (by have hci : Int32.toInt (Int32.ofInt (0)) = 0 := ofI (by decide); (try dsimp only); omega)
    · skip
      refine g_iconst (v := Int32.ofInt (1)) C dRM_isPlanLength_10 (by decide) ?_
      refine g_goto 15 C dRM_isPlanLength_11 (by decide) ?_
      exact s_zret C E dRM_isPlanLength_15 ⟨Nat.zero_le _, Nat.zero_le _⟩ hV0 (Or.inr (ofI (by decide))) (by have hci : Int32.toInt (Int32.ofInt (1)) = 1 := ofI (by decide); (try dsimp only); omega)
set_option maxHeartbeats 4000000 in
set_option maxRecDepth 100000 in
theorem cRM_isStart {P : List Nat} {K : Nat → Nat} {I0 : Nat → Nat → Int32} {O : Nat → Nat → Option Nat} {J0 : Nat → Nat → Int64} (hV : IV P K I0 O) {x0 : Int32} {x1 : Int32} {x2 : Int32} : Con yRM_isStart bRM_isStart 3 (some .boolean) ({ frames := 0, cells := 0, slots := 0, locals := 0 } : Room) P K I0 O J0 [.int x0, .int x1, .int x2] (SPo frP 2 (fun z _ => Int32.toInt z = 0 ∨ (0 ≤ Int32.toInt x0 ∧ Int32.toInt x0 ≤ 3 ∧ 0 ≤ Int32.toInt x1 ∧ Int32.toInt x1 ≤ 4 ∧ 0 ≤ Int32.toInt x2 ∧ Int32.toInt x2 ≤ 4)) P K I0 O J0) := by
  refine Con.ofG mfRM_isStart (Nat.le_of_ble_eq_true rfl) ?_
  intro X C E
  have r0 := rg x0
  have r1 := rg x1
  have r2 := rg x2
  have hV0 : SV frP P K O I0 J0 I0 J0 := SV.rf hV
  refine g_iload_n C dRM_isStart_0 rfl ?_
  refine gt_if_lt 31 C dRM_isStart_1 (by decide) rfl (fun c_1 => ?_) (fun c_1 => ?_)
  · skip
    refine g_iconst (v := Int32.ofInt (0)) C dRM_isStart_31 (by decide) ?_
    exact s_zret C E dRM_isStart_32 ⟨Nat.zero_le _, Nat.zero_le _⟩ hV0 (Or.inl (ofI (by decide))) (by have hci : Int32.toInt (Int32.ofInt (0)) = 0 := ofI (by decide); (try dsimp only); omega)
  · skip
    refine g_iload_n C dRM_isStart_4 rfl ?_
    refine g_iconst (v := Int32.ofInt (3)) C dRM_isStart_5 (by decide) ?_
    refine gt_icmp_gt 31 C dRM_isStart_6 (by decide) rfl (ofI (by decide)) (fun c_6 => ?_) (fun c_6 => ?_)
    · skip
      refine g_iconst (v := Int32.ofInt (0)) C dRM_isStart_31 (by decide) ?_
      exact s_zret C E dRM_isStart_32 ⟨Nat.zero_le _, Nat.zero_le _⟩ hV0 (Or.inl (ofI (by decide))) (by have hci : Int32.toInt (Int32.ofInt (0)) = 0 := ofI (by decide); (try dsimp only); omega)
    · skip
      refine g_iload_n C dRM_isStart_9 rfl ?_
      refine gt_if_lt 31 C dRM_isStart_10 (by decide) rfl (fun c_10 => ?_) (fun c_10 => ?_)
      · skip
        refine g_iconst (v := Int32.ofInt (0)) C dRM_isStart_31 (by decide) ?_
        exact s_zret C E dRM_isStart_32 ⟨Nat.zero_le _, Nat.zero_le _⟩ hV0 (Or.inl (ofI (by decide))) (by have hci : Int32.toInt (Int32.ofInt (0)) = 0 := ofI (by decide); (try dsimp only); omega)
      · skip
        refine g_iload_n C dRM_isStart_13 rfl ?_
        refine g_iconst (v := Int32.ofInt (5)) C dRM_isStart_14 (by decide) ?_
        refine gt_icmp_ge 31 C dRM_isStart_15 (by decide) rfl (ofI (by decide)) (fun c_15 => ?_) (fun c_15 => ?_)
        · skip
          refine g_iconst (v := Int32.ofInt (0)) C dRM_isStart_31 (by decide) ?_
          exact s_zret C E dRM_isStart_32 ⟨Nat.zero_le _, Nat.zero_le _⟩ hV0 (Or.inl (ofI (by decide))) (by have hci : Int32.toInt (Int32.ofInt (0)) = 0 := ofI (by decide); (try dsimp only); omega)
        · skip
          refine g_iload_n C dRM_isStart_18 rfl ?_
          refine gt_if_lt 31 C dRM_isStart_19 (by decide) rfl (fun c_19 => ?_) (fun c_19 => ?_)
          · skip
            refine g_iconst (v := Int32.ofInt (0)) C dRM_isStart_31 (by decide) ?_
            exact s_zret C E dRM_isStart_32 ⟨Nat.zero_le _, Nat.zero_le _⟩ hV0 (Or.inl (ofI (by decide))) (by have hci : Int32.toInt (Int32.ofInt (0)) = 0 := ofI (by decide); (try dsimp only); omega)
          · skip
            refine g_iload_n C dRM_isStart_22 rfl ?_
            refine g_iconst (v := Int32.ofInt (5)) C dRM_isStart_23 (by decide) ?_
            refine gt_icmp_ge 31 C dRM_isStart_24 (by decide) rfl (ofI (by decide)) (fun c_24 => ?_) (fun c_24 => ?_)
            · skip
              refine g_iconst (v := Int32.ofInt (0)) C dRM_isStart_31 (by decide) ?_
              exact s_zret C E dRM_isStart_32 ⟨Nat.zero_le _, Nat.zero_le _⟩ hV0 (Or.inl (ofI (by decide))) (by have hci : Int32.toInt (Int32.ofInt (0)) = 0 := ofI (by decide); (try dsimp only); omega)
            · skip
              refine g_iconst (v := Int32.ofInt (1)) C dRM_isStart_27 (by decide) ?_
              refine g_goto 32 C dRM_isStart_28 (by decide) ?_
              exact s_zret C E dRM_isStart_32 ⟨Nat.zero_le _, Nat.zero_le _⟩ hV0 (Or.inr (ofI (by decide))) (by have hci : Int32.toInt (Int32.ofInt (1)) = 1 := ofI (by decide); (try dsimp only); omega)
set_option maxHeartbeats 4000000 in
set_option maxRecDepth 100000 in
theorem cRM_startOf {P : List Nat} {K : Nat → Nat} {I0 : Nat → Nat → Int32} {O : Nat → Nat → Option Nat} {J0 : Nat → Nat → Int64} (hV : IV P K I0 O) {x0 : Int32} {x1 : Int32} {x2 : Int32} : Con yRM_startOf bRM_startOf 3 (some .int) ({ frames := 0, cells := 0, slots := 0, locals := 0 } : Room) P K I0 O J0 [.int x0, .int x1, .int x2] (SPo frP 1 (tt) P K I0 O J0) := by
  refine Con.ofG mfRM_startOf (Nat.le_of_ble_eq_true rfl) ?_
  intro X C E
  have r0 := rg x0
  have r1 := rg x1
  have r2 := rg x2
  have hV0 : SV frP P K O I0 J0 I0 J0 := SV.rf hV
  refine g_iload_n C dRM_startOf_0 rfl ?_
  refine g_iconst (v := Int32.ofInt (5)) C dRM_startOf_1 (by decide) ?_
  first | refine n_imul C dRM_startOf_2 rfl (ofI (by decide)) (by omega) (fun z_2 e_2 => ?_) | refine a_imul C dRM_startOf_2 (fun z_2 => ?_)
  refine g_iload_n C dRM_startOf_3 rfl ?_
  first | refine n_iadd C dRM_startOf_4 rfl rfl (by omega) (fun z_4 e_4 => ?_) | refine a_iadd C dRM_startOf_4 (fun z_4 => ?_)
  refine g_iconst (v := Int32.ofInt (5)) C dRM_startOf_5 (by decide) ?_
  first | refine n_imul C dRM_startOf_6 rfl (ofI (by decide)) (by omega) (fun z_6 e_6 => ?_) | refine a_imul C dRM_startOf_6 (fun z_6 => ?_)
  refine g_iload_n C dRM_startOf_7 rfl ?_
  first | refine n_iadd C dRM_startOf_8 rfl rfl (by omega) (fun z_8 e_8 => ?_) | refine a_iadd C dRM_startOf_8 (fun z_8 => ?_)
  exact s_iret C E dRM_startOf_9 ⟨Nat.zero_le _, Nat.zero_le _⟩ hV0 trivial
set_option maxHeartbeats 4000000 in
set_option maxRecDepth 100000 in
theorem cRM_partOfStart {P : List Nat} {K : Nat → Nat} {I0 : Nat → Nat → Int32} {O : Nat → Nat → Option Nat} {J0 : Nat → Nat → Int64} (hV : IV P K I0 O) {x0 : Int32} {x1 : Int32} : Con yRM_partOfStart bRM_partOfStart 2 (some .int) ({ frames := 0, cells := 0, slots := 0, locals := 0 } : Room) P K I0 O J0 [.int x0, .int x1] (SPo frP 1 (tt) P K I0 O J0) := by
  refine Con.ofG mfRM_partOfStart (Nat.le_of_ble_eq_true rfl) ?_
  intro X C E
  have r0 := rg x0
  have r1 := rg x1
  have hV0 : SV frP P K O I0 J0 I0 J0 := SV.rf hV
  refine g_iload_n C dRM_partOfStart_0 rfl ?_
  refine gt_if_ne 9 C dRM_partOfStart_1 (by decide) rfl (fun c_1 => ?_) (fun c_1 => ?_)
  · skip
    refine g_iload_n C dRM_partOfStart_9 rfl ?_
    refine g_iconst (v := Int32.ofInt (1)) C dRM_partOfStart_10 (by decide) ?_
    refine gt_icmp_ne 22 C dRM_partOfStart_11 (by decide) rfl (ofI (by decide)) (fun c_11 => ?_) (fun c_11 => ?_)
    · skip
      refine g_iload_n C dRM_partOfStart_22 rfl ?_
      refine g_iconst (v := Int32.ofInt (5)) C dRM_partOfStart_23 (by decide) ?_
      refine gt_irem 5 C dRM_partOfStart_24 rfl (ofI (by decide)) (by decide) (fun z_24 e_24 => ?_)
      exact s_iret C E dRM_partOfStart_25 ⟨Nat.zero_le _, Nat.zero_le _⟩ hV0 trivial
    · skip
      refine g_iload_n C dRM_partOfStart_14 rfl ?_
      refine g_iconst (v := Int32.ofInt (5)) C dRM_partOfStart_15 (by decide) ?_
      refine gt_idiv 5 C dRM_partOfStart_16 rfl (ofI (by decide)) (by decide) (fun z_16 e_16 => ?_)
      refine g_iconst (v := Int32.ofInt (5)) C dRM_partOfStart_17 (by decide) ?_
      refine gt_irem 5 C dRM_partOfStart_18 rfl (ofI (by decide)) (by decide) (fun z_18 e_18 => ?_)
      refine g_goto 25 C dRM_partOfStart_19 (by decide) ?_
      exact s_iret C E dRM_partOfStart_25 ⟨Nat.zero_le _, Nat.zero_le _⟩ hV0 trivial
  · skip
    refine g_iload_n C dRM_partOfStart_4 rfl ?_
    refine g_bipush (v := Int32.ofInt (25)) C dRM_partOfStart_5 (by decide) ?_
    refine gt_idiv 25 C dRM_partOfStart_7 rfl (ofI (by decide)) (by decide) (fun z_7 e_7 => ?_)
    exact s_iret C E dRM_partOfStart_8 ⟨Nat.zero_le _, Nat.zero_le _⟩ hV0 trivial
set_option maxHeartbeats 4000000 in
set_option maxRecDepth 100000 in
theorem cRM_wipe {P : List Nat} {K : Nat → Nat} {I0 : Nat → Nat → Int32} {O : Nat → Nat → Option Nat} {J0 : Nat → Nat → Int64} (hV : IV P K I0 O) {a0 κ0 : Nat} (h0 : a0 ∈ P ∧ K a0 = κ0) (p0 : PL frN κ0) : Con yRM_wipe bRM_wipe 2 none ({ frames := 0, cells := 0, slots := 0, locals := 0 } : Room) P K I0 O J0 [.ref a0] (SPo frN 0 (tt) P K I0 O J0) := by
  refine Con.ofG mfRM_wipe (Nat.le_of_ble_eq_true rfl) ?_
  intro X C E
  have pb0 := p0.2.2.2.2
  have hV0 : SV frN P K O I0 J0 I0 J0 := SV.rf hV
  refine g_iconst (v := Int32.ofInt (0)) C dRM_wipe_0 (by decide) ?_
  refine g_istore_n (i := 1) C dRM_wipe_1 rfl (by decide) ?_
  have lp_2 : ∀ (nn_2 : Nat) (x1_2 : Int32) (Iw1 : Nat → Nat → Int32) (Jw1 : Nat → Nat → Int64), Int.toNat (((alen κ0 : Nat) : Int) - x1_2.toInt) = nn_2 → (0 ≤ Int32.toInt x1_2 ∧ Int32.toInt x1_2 ≤ ((alen κ0 : Nat) : Int)) → SV frN P K O I0 J0 Iw1 Jw1 → GG X 2 P K Iw1 O Jw1 0 0 2 [(0, .ref a0), (1, .int x1_2)] [] := by
    intro nn_2
    induction nn_2 using Nat.strongRecOn with
    | ind nn_2 ih_2 =>
    intro x1_2 Iw1 Jw1 hn_2 iv0_2 hVw1
    have rg1_2 := rg x1_2
    refine g_iload_n C dRM_wipe_2 rfl ?_
    refine g_aload_n C dRM_wipe_3 rfl ?_
    refine gt_alen C dRM_wipe_4 h0 p0.1 (by rw [p0.2.1]; decide) p0.2.2.2.2 rfl (fun z_4 e_4 => ?_)
    refine gt_icmp_ge 18 C dRM_wipe_5 (by decide) rfl rfl (fun c_5 => ?_) (fun c_5 => ?_)
    · skip
      exact s_vret C E dRM_wipe_18 ⟨Nat.zero_le _, Nat.zero_le _⟩ hVw1 trivial
    · skip
      refine g_aload_n C dRM_wipe_8 rfl ?_
      refine g_iload_n C dRM_wipe_9 rfl ?_
      refine g_iconst (v := Int32.ofInt (0)) C dRM_wipe_10 (by decide) ?_
      refine gt_iast C dRM_wipe_11 h0 p0.1 p0.2.1 rfl rfl (by omega) hVw1 p0.2.2.1 (p0.2.2.2.1 _ _) (fun Iw2 eIw2 hVw2 => ?_)
      first | refine n_iinc C dRM_wipe_12 rfl rfl (by decide) (by decide) (by omega) (fun z_12 e_12 => ?_) | refine a_iinc C dRM_wipe_12 rfl (by decide) (fun z_12 => ?_)
      refine g_goto 2 C dRM_wipe_15 (by decide) ?_
      exact g_sub (ih_2 _ (by omega) z_12 Iw2 Jw1 rfl (by omega) hVw2) ⟨rfl, rfl, trivial⟩
  exact g_sub (lp_2 _ (Int32.ofInt (0)) I0 J0 rfl (by have hci : Int32.toInt (Int32.ofInt (0)) = 0 := ofI (by decide); omega) hV0) ⟨rfl, rfl, trivial⟩
set_option maxHeartbeats 4000000 in
set_option maxRecDepth 100000 in
theorem cRM_copyRow {P : List Nat} {K : Nat → Nat} {I0 : Nat → Nat → Int32} {O : Nat → Nat → Option Nat} {J0 : Nat → Nat → Int64} (hV : IV P K I0 O) {a0 κ0 : Nat} (h0 : a0 ∈ P ∧ K a0 = κ0) (p0 : PL frN κ0) {a1 κ1 : Nat} (h1 : a1 ∈ P ∧ K a1 = κ1) (p1 : PL frN κ1) : Con yRM_copyRow bRM_copyRow 3 none ({ frames := 0, cells := 0, slots := 0, locals := 0 } : Room) P K I0 O J0 [.ref a0, .ref a1] (SPo frN 0 (tt) P K I0 O J0) := by
  refine Con.ofG mfRM_copyRow (Nat.le_of_ble_eq_true rfl) ?_
  intro X C E
  have pb0 := p0.2.2.2.2
  have pb1 := p1.2.2.2.2
  have hV0 : SV frN P K O I0 J0 I0 J0 := SV.rf hV
  refine g_iconst (v := Int32.ofInt (0)) C dRM_copyRow_0 (by decide) ?_
  refine g_istore_n (i := 2) C dRM_copyRow_1 rfl (by decide) ?_
  have lp_2 : ∀ (nn_2 : Nat) (x2_2 : Int32) (Iw1 : Nat → Nat → Int32) (Jw1 : Nat → Nat → Int64), Int.toNat (((alen κ0 : Nat) : Int) - x2_2.toInt) = nn_2 → (0 ≤ Int32.toInt x2_2 ∧ Int32.toInt x2_2 ≤ ((alen κ0 : Nat) : Int)) → SV frN P K O I0 J0 Iw1 Jw1 → GG X 3 P K Iw1 O Jw1 0 0 2 [(0, .ref a0), (1, .ref a1), (2, .int x2_2)] [] := by
    intro nn_2
    induction nn_2 using Nat.strongRecOn with
    | ind nn_2 ih_2 =>
    intro x2_2 Iw1 Jw1 hn_2 iv0_2 hVw1
    have rg2_2 := rg x2_2
    refine g_iload_n C dRM_copyRow_2 rfl ?_
    refine g_aload_n C dRM_copyRow_3 rfl ?_
    refine gt_alen C dRM_copyRow_4 h0 p0.1 (by rw [p0.2.1]; decide) p0.2.2.2.2 rfl (fun z_4 e_4 => ?_)
    refine gt_icmp_ge 26 C dRM_copyRow_5 (by decide) rfl rfl (fun c_5 => ?_) (fun c_5 => ?_)
    · skip
      exact s_vret C E dRM_copyRow_26 ⟨Nat.zero_le _, Nat.zero_le _⟩ hVw1 trivial
    · skip
      refine g_iload_n C dRM_copyRow_8 rfl ?_
      refine g_aload_n C dRM_copyRow_9 rfl ?_
      refine gt_alen C dRM_copyRow_10 h1 p1.1 (by rw [p1.2.1]; decide) p1.2.2.2.2 rfl (fun z_10 e_10 => ?_)
      refine gt_icmp_ge 26 C dRM_copyRow_11 (by decide) rfl rfl (fun c_11 => ?_) (fun c_11 => ?_)
      · skip
        exact s_vret C E dRM_copyRow_26 ⟨Nat.zero_le _, Nat.zero_le _⟩ hVw1 trivial
      · skip
        refine g_aload_n C dRM_copyRow_14 rfl ?_
        refine g_iload_n C dRM_copyRow_15 rfl ?_
        refine g_aload_n C dRM_copyRow_16 rfl ?_
        refine g_iload_n C dRM_copyRow_17 rfl ?_
        refine gt_iald C dRM_copyRow_18 h0 p0.1 p0.2.1 rfl rfl (by omega) ?_
        refine gt_iast C dRM_copyRow_19 h1 p1.1 p1.2.1 rfl rfl (by omega) hVw1 p1.2.2.1 (p1.2.2.2.1 _ _) (fun Iw2 eIw2 hVw2 => ?_)
        first | refine n_iinc C dRM_copyRow_20 rfl rfl (by decide) (by decide) (by omega) (fun z_20 e_20 => ?_) | refine a_iinc C dRM_copyRow_20 rfl (by decide) (fun z_20 => ?_)
        refine g_goto 2 C dRM_copyRow_23 (by decide) ?_
        exact g_sub (ih_2 _ (by omega) z_20 Iw2 Jw1 rfl (by omega) hVw2) ⟨rfl, rfl, rfl, trivial⟩
  exact g_sub (lp_2 _ (Int32.ofInt (0)) I0 J0 rfl (by have hci : Int32.toInt (Int32.ofInt (0)) = 0 := ofI (by decide); omega) hV0) ⟨rfl, rfl, rfl, trivial⟩
set_option maxHeartbeats 4000000 in
set_option maxRecDepth 100000 in
theorem cRM_sumOf {P : List Nat} {K : Nat → Nat} {I0 : Nat → Nat → Int32} {O : Nat → Nat → Option Nat} {J0 : Nat → Nat → Int64} (hV : IV P K I0 O) {a0 κ0 : Nat} (h0 : a0 ∈ P ∧ K a0 = κ0) (p0 : PL frN κ0) : Con yRM_sumOf bRM_sumOf 3 (some .int) ({ frames := 0, cells := 0, slots := 0, locals := 0 } : Room) P K I0 O J0 [.ref a0] (SPo frP 1 (tt) P K I0 O J0) := by
  refine Con.ofG mfRM_sumOf (Nat.le_of_ble_eq_true rfl) ?_
  intro X C E
  have pb0 := p0.2.2.2.2
  have hV0 : SV frP P K O I0 J0 I0 J0 := SV.rf hV
  refine g_iconst (v := Int32.ofInt (0)) C dRM_sumOf_0 (by decide) ?_
  refine g_istore_n (i := 1) C dRM_sumOf_1 rfl (by decide) ?_
  refine g_iconst (v := Int32.ofInt (0)) C dRM_sumOf_2 (by decide) ?_
  refine g_istore_n (i := 2) C dRM_sumOf_3 rfl (by decide) ?_
  have lp_4 : ∀ (nn_4 : Nat) (x1_4 : Int32) (x2_4 : Int32), Int.toNat (((alen κ0 : Nat) : Int) - x2_4.toInt) = nn_4 → (0 ≤ Int32.toInt x2_4 ∧ Int32.toInt x2_4 ≤ ((alen κ0 : Nat) : Int)) → GG X 3 P K I0 O J0 0 0 4 [(0, .ref a0), (1, .int x1_4), (2, .int x2_4)] [] := by
    intro nn_4
    induction nn_4 using Nat.strongRecOn with
    | ind nn_4 ih_4 =>
    intro x1_4 x2_4  hn_4 iv0_4 
    have rg1_4 := rg x1_4
    have rg2_4 := rg x2_4
    refine g_iload_n C dRM_sumOf_4 rfl ?_
    refine g_aload_n C dRM_sumOf_5 rfl ?_
    refine gt_alen C dRM_sumOf_6 h0 p0.1 (by rw [p0.2.1]; decide) p0.2.2.2.2 rfl (fun z_6 e_6 => ?_)
    refine gt_icmp_ge 22 C dRM_sumOf_7 (by decide) rfl rfl (fun c_7 => ?_) (fun c_7 => ?_)
    · skip
      refine g_iload_n C dRM_sumOf_22 rfl ?_
      exact s_iret C E dRM_sumOf_23 ⟨Nat.zero_le _, Nat.zero_le _⟩ hV0 trivial
    · skip
      refine g_iload_n C dRM_sumOf_10 rfl ?_
      refine g_aload_n C dRM_sumOf_11 rfl ?_
      refine g_iload_n C dRM_sumOf_12 rfl ?_
      refine gt_iald C dRM_sumOf_13 h0 p0.1 p0.2.1 rfl rfl (by omega) ?_
      first | refine n_iadd C dRM_sumOf_14 rfl rfl (by omega) (fun z_14 e_14 => ?_) | refine a_iadd C dRM_sumOf_14 (fun z_14 => ?_)
      refine g_istore_n (i := 1) C dRM_sumOf_15 rfl (by decide) ?_
      first | refine n_iinc C dRM_sumOf_16 rfl rfl (by decide) (by decide) (by omega) (fun z_16 e_16 => ?_) | refine a_iinc C dRM_sumOf_16 rfl (by decide) (fun z_16 => ?_)
      refine g_goto 4 C dRM_sumOf_19 (by decide) ?_
      exact g_sub (ih_4 _ (by omega) z_14 z_16  rfl (by omega) ) ⟨rfl, rfl, rfl, trivial⟩
  exact g_sub (lp_4 _ (Int32.ofInt (0)) (Int32.ofInt (0))  rfl (by have hci : Int32.toInt (Int32.ofInt (0)) = 0 := ofI (by decide); omega) ) ⟨rfl, rfl, rfl, trivial⟩
set_option maxHeartbeats 4000000 in
set_option maxRecDepth 100000 in
theorem cSi_exchanged {P : List Nat} {K : Nat → Nat} {I0 : Nat → Nat → Int32} {O : Nat → Nat → Option Nat} {J0 : Nat → Nat → Int64} (hV : IV P K I0 O) {x0 : Int32} {x1 : Int32} {x2 : Int32} : Con ySi_exchanged bSi_exchanged 3 (some .int) ({ frames := 0, cells := 0, slots := 0, locals := 0 } : Room) P K I0 O J0 [.int x0, .int x1, .int x2] (SPo frP 1 (tt) P K I0 O J0) := by
  refine Con.ofG mfSi_exchanged (Nat.le_of_ble_eq_true rfl) ?_
  intro X C E
  have r0 := rg x0
  have r1 := rg x1
  have r2 := rg x2
  have hV0 : SV frP P K O I0 J0 I0 J0 := SV.rf hV
  refine g_iload_n C dSi_exchanged_0 rfl ?_
  refine g_iload_n C dSi_exchanged_1 rfl ?_
  refine gt_icmp_ne 7 C dSi_exchanged_2 (by decide) rfl rfl (fun c_2 => ?_) (fun c_2 => ?_)
  · skip
    refine g_iload_n C dSi_exchanged_7 rfl ?_
    refine g_iload_n C dSi_exchanged_8 rfl ?_
    refine gt_icmp_ne 16 C dSi_exchanged_9 (by decide) rfl rfl (fun c_9 => ?_) (fun c_9 => ?_)
    · skip
      refine g_iload_n C dSi_exchanged_16 rfl ?_
      exact s_iret C E dSi_exchanged_17 ⟨Nat.zero_le _, Nat.zero_le _⟩ hV0 trivial
    · skip
      refine g_iload_n C dSi_exchanged_12 rfl ?_
      refine g_goto 17 C dSi_exchanged_13 (by decide) ?_
      exact s_iret C E dSi_exchanged_17 ⟨Nat.zero_le _, Nat.zero_le _⟩ hV0 trivial
  · skip
    refine g_iload_n C dSi_exchanged_5 rfl ?_
    exact s_iret C E dSi_exchanged_6 ⟨Nat.zero_le _, Nat.zero_le _⟩ hV0 trivial
