set_option maxHeartbeats 4000000 in
set_option maxRecDepth 100000 in
theorem cMo_readFresh_O_F {P : List Nat} {K : Nat → Nat} {I0 : Nat → Nat → Int32} {O : Nat → Nat → Option Nat} {J0 : Nat → Nat → Int64} (hV : IV P K I0 O) {a0 : Nat} (h0 : a0 ∈ P ∧ K a0 = 10) {x1 : Int32} {F B : Nat} (hFo : O a0 4 = some F) (hFk : F ∈ P ∧ K F = 9) (hBk : True ∧ K B = 9) (hBF : B ≠ F) (pr0 : Int32.toInt (I0 a0 9) = 5 ∧ 1 ≤ Int32.toInt (I0 a0 13)) : Con yMo_readFresh bMo_readFresh 2 none ({ frames := 7, cells := 0, slots := 0, locals := 149 } : Room) P K I0 O J0 [.ref a0, .int x1] (SPo frQ 0 (fun _ I_ => (Int32.toInt (I_ a0 9) = 5 ∧ 1 ≤ Int32.toInt (I_ a0 13) ∧ Int32.toInt (I_ a0 8) = Int32.toInt (I0 a0 8)) ∧ (I_ a0 6).toInt = (I0 a0 6).toInt ∧ (I_ a0 7).toInt = (I0 a0 7).toInt ∧ (I_ a0 18).toInt = (I0 a0 18).toInt ∧ (I_ B 0).toInt = (I0 B 0).toInt ∧ (I_ B 4).toInt = (I0 B 4).toInt ∧ (I_ B 7).toInt = (I0 B 7).toInt ∧ (I_ F 0).toInt = (I0 F 0).toInt ∧ (I_ F 4).toInt = (I0 F 4).toInt ∧ (I_ F 8).toInt = (I0 F 8).toInt ∧ (I_ F 9).toInt = (I0 F 9).toInt ∧ (I_ F 10).toInt = (I0 F 10).toInt) P K I0 O J0) := by
  refine Con.ofG mfMo_readFresh (Nat.le_of_ble_eq_true rfl) ?_
  intro X C E
  have r1 := rg x1
  have ok_a0_7 := hV.2 a0 h0.1 7
  rw [h0.2] at ok_a0_7
  have ok_a0_7 : 0 ≤ (I0 a0 7).toInt ∧ (I0 a0 7).toInt ≤ 700 := ok_a0_7
  have ok_a0_8 := hV.2 a0 h0.1 8
  rw [h0.2] at ok_a0_8
  have ok_a0_8 : 0 ≤ (I0 a0 8).toInt ∧ (I0 a0 8).toInt ≤ 700 := ok_a0_8
  have ok_F_7 := hV.2 F hFk.1 7
  rw [hFk.2] at ok_F_7
  have ok_F_7 : 0 ≤ (I0 F 7).toInt ∧ (I0 F 7).toInt ≤ 6 := ok_F_7
  have ok_F_8 := hV.2 F hFk.1 8
  rw [hFk.2] at ok_F_8
  have ok_F_8 : 0 ≤ (I0 F 8).toInt ∧ (I0 F 8).toInt ≤ 5 := ok_F_8
  have ok_F_9 := hV.2 F hFk.1 9
  rw [hFk.2] at ok_F_9
  have ok_F_9 : 0 ≤ (I0 F 9).toInt ∧ (I0 F 9).toInt ≤ 4 := ok_F_9
  have ok_F_10 := hV.2 F hFk.1 10
  rw [hFk.2] at ok_F_10
  have ok_F_10 : 0 ≤ (I0 F 10).toInt ∧ (I0 F 10).toInt ≤ 9 := ok_F_10
  have hV0 : SV frQ P K O I0 J0 I0 J0 := SV.rf hV
  refine g_aload_n C dMo_readFresh_0 rfl ?_
  refine s_callV_zp (av := fun ad => []) C dMo_readFresh_1 mfMo_isName mvMo_isName ln_Mo_235 h0 (by decide) rfl (cMo_isName hV0.1 h0) rfl rfl (Nat.le_of_ble_eq_true rfl) ⟨Nat.le_of_ble_eq_true rfl, Nat.le_of_ble_eq_true rfl⟩ ⟨rfl, rfl⟩ ⟨Nat.zero_le _, Nat.zero_le _⟩ (fun z_1 b_1 p_1 => ?_)
  have rz_1 := rg z_1
  have u_1 := b_1
  unfold B01 at u_1
  refine gt_if_ne 12 C dMo_readFresh_4 (by decide) rfl (fun c_4 => ?_) (fun c_4 => ?_)
  · skip
    refine g_aload_n C dMo_readFresh_12 rfl ?_
    refine gt_getS C dMo_readFresh_13 fl_Mo_172 h0 hFo ?_
    refine g_aload_n C dMo_readFresh_16 rfl ?_
    refine g_getl C dMo_readFresh_17 fl_Mo_114 h0 ?_
    refine s_callV_ip (av := fun ad => [.long (J0 a0 15)]) C dMo_readFresh_20 mfMx_find mvMx_find ln_Mo_239 hFk (by decide) rfl (cMx_find hV0.1 hFk) rfl rfl (Nat.le_of_ble_eq_true rfl) ⟨Nat.le_of_ble_eq_true rfl, Nat.le_of_ble_eq_true rfl⟩ ⟨rfl, rfl⟩ ⟨Nat.zero_le _, Nat.zero_le _⟩ (fun z_20 p_20 => ?_)
    have rz_20 := rg z_20
    try dsimp only at p_20
    refine g_iconst (v := Int32.ofInt (-1)) C dMo_readFresh_23 (by decide) ?_
    refine gt_icmp_eq 32 C dMo_readFresh_24 (by decide) rfl (ofI (by decide)) (fun c_24 => ?_) (fun c_24 => ?_)
    · skip
      refine g_aload_n C dMo_readFresh_32 rfl ?_
      refine g_geti C dMo_readFresh_33 fl_Mo_94 h0 ?_
      refine g_iconst (v := Int32.ofInt (5)) C dMo_readFresh_36 (by decide) ?_
      refine gt_icmp_ne 41 C dMo_readFresh_37 (by decide) rfl (ofI (by decide)) (fun c_37 => ?_) (fun c_37 => ?_)
      · skip
        exfalso; omega
      · skip
        exact s_vret C E dMo_readFresh_40 ⟨Nat.zero_le _, Nat.zero_le _⟩ hV0 (by (try dsimp only); omega)
    · skip
      refine g_aload_n C dMo_readFresh_27 rfl ?_
      refine g_iconst (v := Int32.ofInt (3)) C dMo_readFresh_28 (by decide) ?_
      refine s_callV_v (av := fun ad => [.int (Int32.ofInt (3))]) C dMo_readFresh_29 mfMo_wrong mvMo_wrong ln_Mo_142 h0 (by decide) rfl hV0 (frL_le (by decide)) (cMo_wrong_O hV0.1 h0 (by have hk1 : Int32.toInt (Int32.ofInt (3)) = 3 := ofI (by decide); omega)) rfl rfl (Nat.le_of_ble_eq_true rfl) ⟨Nat.le_of_ble_eq_true rfl, Nat.le_of_ble_eq_true rfl⟩ ⟨rfl, rfl⟩ ⟨Nat.zero_le _, Nat.zero_le _⟩ (fun Iw3 Jw3 hVw3 hFw3 p_29 => ?_)
      have tkw3_F_0 : (Iw3 F 0).toInt = (I0 F 0).toInt := by rw [(hFw3 F (by rw [hFk.2]; rfl)).1 0]
      have tkw3_F_4 : (Iw3 F 4).toInt = (I0 F 4).toInt := by rw [(hFw3 F (by rw [hFk.2]; rfl)).1 4]
      have tkw3_F_8 : (Iw3 F 8).toInt = (I0 F 8).toInt := by rw [(hFw3 F (by rw [hFk.2]; rfl)).1 8]
      have tkw3_F_9 : (Iw3 F 9).toInt = (I0 F 9).toInt := by rw [(hFw3 F (by rw [hFk.2]; rfl)).1 9]
      have tkw3_F_10 : (Iw3 F 10).toInt = (I0 F 10).toInt := by rw [(hFw3 F (by rw [hFk.2]; rfl)).1 10]
      have tkw3_B_0 : (Iw3 B 0).toInt = (I0 B 0).toInt := by rw [(hFw3 B (by rw [hBk.2]; rfl)).1 0]
      have tkw3_B_4 : (Iw3 B 4).toInt = (I0 B 4).toInt := by rw [(hFw3 B (by rw [hBk.2]; rfl)).1 4]
      have tkw3_B_7 : (Iw3 B 7).toInt = (I0 B 7).toInt := by rw [(hFw3 B (by rw [hBk.2]; rfl)).1 7]
      try dsimp only at p_29
      have hk1_29 : Int32.toInt (Int32.ofInt (3)) = 3 := ofI (by decide)
      refine g_aload_n C dMo_readFresh_32 rfl ?_
      refine g_geti C dMo_readFresh_33 fl_Mo_94 h0 ?_
      refine g_iconst (v := Int32.ofInt (5)) C dMo_readFresh_36 (by decide) ?_
      refine gt_icmp_ne 41 C dMo_readFresh_37 (by decide) rfl (ofI (by decide)) (fun c_37 => ?_) (fun c_37 => ?_)
      · skip
        exfalso; omega
      · skip
        exact s_vret C E dMo_readFresh_40 ⟨Nat.zero_le _, Nat.zero_le _⟩ hVw3 (by (try dsimp only); omega)
  · skip
    refine g_aload_n C dMo_readFresh_7 rfl ?_
    refine g_iconst (v := Int32.ofInt (1)) C dMo_readFresh_8 (by decide) ?_
    refine s_callV_v (av := fun ad => [.int (Int32.ofInt (1))]) C dMo_readFresh_9 mfMo_wrong mvMo_wrong ln_Mo_142 h0 (by decide) rfl hV0 (frL_le (by decide)) (cMo_wrong_O hV0.1 h0 (by have hk1 : Int32.toInt (Int32.ofInt (1)) = 1 := ofI (by decide); omega)) rfl rfl (Nat.le_of_ble_eq_true rfl) ⟨Nat.le_of_ble_eq_true rfl, Nat.le_of_ble_eq_true rfl⟩ ⟨rfl, rfl⟩ ⟨Nat.zero_le _, Nat.zero_le _⟩ (fun Iw4 Jw4 hVw4 hFw4 p_9 => ?_)
    have tkw4_F_0 : (Iw4 F 0).toInt = (I0 F 0).toInt := by rw [(hFw4 F (by rw [hFk.2]; rfl)).1 0]
    have tkw4_F_4 : (Iw4 F 4).toInt = (I0 F 4).toInt := by rw [(hFw4 F (by rw [hFk.2]; rfl)).1 4]
    have tkw4_F_8 : (Iw4 F 8).toInt = (I0 F 8).toInt := by rw [(hFw4 F (by rw [hFk.2]; rfl)).1 8]
    have tkw4_F_9 : (Iw4 F 9).toInt = (I0 F 9).toInt := by rw [(hFw4 F (by rw [hFk.2]; rfl)).1 9]
    have tkw4_F_10 : (Iw4 F 10).toInt = (I0 F 10).toInt := by rw [(hFw4 F (by rw [hFk.2]; rfl)).1 10]
    have tkw4_B_0 : (Iw4 B 0).toInt = (I0 B 0).toInt := by rw [(hFw4 B (by rw [hBk.2]; rfl)).1 0]
    have tkw4_B_4 : (Iw4 B 4).toInt = (I0 B 4).toInt := by rw [(hFw4 B (by rw [hBk.2]; rfl)).1 4]
    have tkw4_B_7 : (Iw4 B 7).toInt = (I0 B 7).toInt := by rw [(hFw4 B (by rw [hBk.2]; rfl)).1 7]
    try dsimp only at p_9
    have hk1_9 : Int32.toInt (Int32.ofInt (1)) = 1 := ofI (by decide)
    refine g_aload_n C dMo_readFresh_12 rfl ?_
    refine gt_getS C dMo_readFresh_13 fl_Mo_172 h0 hFo ?_
    refine g_aload_n C dMo_readFresh_16 rfl ?_
    refine g_getl C dMo_readFresh_17 fl_Mo_114 h0 ?_
    refine s_callV_ip (av := fun ad => [.long (Jw4 a0 15)]) C dMo_readFresh_20 mfMx_find mvMx_find ln_Mo_239 hFk (by decide) rfl (cMx_find hVw4.1 hFk) rfl rfl (Nat.le_of_ble_eq_true rfl) ⟨Nat.le_of_ble_eq_true rfl, Nat.le_of_ble_eq_true rfl⟩ ⟨rfl, rfl⟩ ⟨Nat.zero_le _, Nat.zero_le _⟩ (fun z_20 p_20 => ?_)
    have rz_20 := rg z_20
    try dsimp only at p_20
    refine g_iconst (v := Int32.ofInt (-1)) C dMo_readFresh_23 (by decide) ?_
    refine gt_icmp_eq 32 C dMo_readFresh_24 (by decide) rfl (ofI (by decide)) (fun c_24 => ?_) (fun c_24 => ?_)
    · skip
      refine g_aload_n C dMo_readFresh_32 rfl ?_
      refine g_geti C dMo_readFresh_33 fl_Mo_94 h0 ?_
      refine g_iconst (v := Int32.ofInt (5)) C dMo_readFresh_36 (by decide) ?_
      refine gt_icmp_ne 41 C dMo_readFresh_37 (by decide) rfl (ofI (by decide)) (fun c_37 => ?_) (fun c_37 => ?_)
      · skip
        exfalso; omega
      · skip
        exact s_vret C E dMo_readFresh_40 ⟨Nat.zero_le _, Nat.zero_le _⟩ hVw4 (by (try dsimp only); omega)
    · skip
      refine g_aload_n C dMo_readFresh_27 rfl ?_
      refine g_iconst (v := Int32.ofInt (3)) C dMo_readFresh_28 (by decide) ?_
      refine s_callV_v (av := fun ad => [.int (Int32.ofInt (3))]) C dMo_readFresh_29 mfMo_wrong mvMo_wrong ln_Mo_142 h0 (by decide) rfl hVw4 (frL_le (by decide)) (cMo_wrong_O hVw4.1 h0 (by have hk1 : Int32.toInt (Int32.ofInt (3)) = 3 := ofI (by decide); omega)) rfl rfl (Nat.le_of_ble_eq_true rfl) ⟨Nat.le_of_ble_eq_true rfl, Nat.le_of_ble_eq_true rfl⟩ ⟨rfl, rfl⟩ ⟨Nat.zero_le _, Nat.zero_le _⟩ (fun Iw6 Jw6 hVw6 hFw6 p_29 => ?_)
      have tkw6_F_0 : (Iw6 F 0).toInt = (Iw4 F 0).toInt := by rw [(hFw6 F (by rw [hFk.2]; rfl)).1 0]
      have tkw6_F_4 : (Iw6 F 4).toInt = (Iw4 F 4).toInt := by rw [(hFw6 F (by rw [hFk.2]; rfl)).1 4]
      have tkw6_F_8 : (Iw6 F 8).toInt = (Iw4 F 8).toInt := by rw [(hFw6 F (by rw [hFk.2]; rfl)).1 8]
      have tkw6_F_9 : (Iw6 F 9).toInt = (Iw4 F 9).toInt := by rw [(hFw6 F (by rw [hFk.2]; rfl)).1 9]
      have tkw6_F_10 : (Iw6 F 10).toInt = (Iw4 F 10).toInt := by rw [(hFw6 F (by rw [hFk.2]; rfl)).1 10]
      have tkw6_B_0 : (Iw6 B 0).toInt = (Iw4 B 0).toInt := by rw [(hFw6 B (by rw [hBk.2]; rfl)).1 0]
      have tkw6_B_4 : (Iw6 B 4).toInt = (Iw4 B 4).toInt := by rw [(hFw6 B (by rw [hBk.2]; rfl)).1 4]
      have tkw6_B_7 : (Iw6 B 7).toInt = (Iw4 B 7).toInt := by rw [(hFw6 B (by rw [hBk.2]; rfl)).1 7]
      try dsimp only at p_29
      have hk1_29 : Int32.toInt (Int32.ofInt (3)) = 3 := ofI (by decide)
      refine g_aload_n C dMo_readFresh_32 rfl ?_
      refine g_geti C dMo_readFresh_33 fl_Mo_94 h0 ?_
      refine g_iconst (v := Int32.ofInt (5)) C dMo_readFresh_36 (by decide) ?_
      refine gt_icmp_ne 41 C dMo_readFresh_37 (by decide) rfl (ofI (by decide)) (fun c_37 => ?_) (fun c_37 => ?_)
      · skip
        exfalso; omega
      · skip
        exact s_vret C E dMo_readFresh_40 ⟨Nat.zero_le _, Nat.zero_le _⟩ hVw6 (by (try dsimp only); omega)
set_option maxHeartbeats 4000000 in
set_option maxRecDepth 100000 in
theorem cMo_readFresh_N_F {P : List Nat} {K : Nat → Nat} {I0 : Nat → Nat → Int32} {O : Nat → Nat → Option Nat} {J0 : Nat → Nat → Int64} (hV : IV P K I0 O) {a0 : Nat} (h0 : a0 ∈ P ∧ K a0 = 10) {x1 : Int32} {F B : Nat} (hFo : O a0 4 = some F) (hFk : F ∈ P ∧ K F = 9) (hBk : True ∧ K B = 9) (hBF : B ≠ F) (pr0 : 0 ≤ Int32.toInt (I0 a0 9) ∧ Int32.toInt (I0 a0 9) ≤ 4 ∧ Int32.toInt (I0 a0 13) = 0 ∧ Int32.toInt (I0 F 10) ≤ 8 ∧ -1 ≤ Int32.toInt x1 ∧ Int32.toInt x1 ≤ 4) : Con yMo_readFresh bMo_readFresh 2 none ({ frames := 7, cells := 0, slots := 0, locals := 149 } : Room) P K I0 O J0 [.ref a0, .int x1] (SPo frQ 0 (fun _ I_ => ((Int32.toInt (I_ a0 9) = 5 ∧ 1 ≤ Int32.toInt (I_ a0 13) ∧ Int32.toInt (I0 a0 8) ≤ Int32.toInt (I_ a0 8)) ∨ (0 ≤ Int32.toInt (I_ a0 9) ∧ Int32.toInt (I_ a0 9) ≤ 4 ∧ Int32.toInt (I_ a0 13) = 0 ∧ Int32.toInt (I0 a0 8) ≤ Int32.toInt (I_ a0 8) ∧ Int32.toInt (I0 a0 8) + Int32.toInt (I_ a0 9) ≤ Int32.toInt (I_ a0 8) + 3 ∧ Int32.toInt (I_ F 10) = Int32.toInt (I0 F 10) + 1)) ∧ (I_ a0 6).toInt = (I0 a0 6).toInt ∧ (I_ a0 7).toInt = (I0 a0 7).toInt ∧ (I_ a0 18).toInt = (I0 a0 18).toInt ∧ (I_ B 0).toInt = (I0 B 0).toInt ∧ (I_ B 4).toInt = (I0 B 4).toInt ∧ (I_ B 7).toInt = (I0 B 7).toInt ∧ (I_ F 0).toInt = (I0 F 0).toInt ∧ (I_ F 4).toInt = (I0 F 4).toInt ∧ (I_ F 8).toInt = (I0 F 8).toInt ∧ (I_ F 9).toInt = (I0 F 9).toInt) P K I0 O J0) := by
  refine Con.ofG mfMo_readFresh (Nat.le_of_ble_eq_true rfl) ?_
  intro X C E
  have r1 := rg x1
  have ok_a0_7 := hV.2 a0 h0.1 7
  rw [h0.2] at ok_a0_7
  have ok_a0_7 : 0 ≤ (I0 a0 7).toInt ∧ (I0 a0 7).toInt ≤ 700 := ok_a0_7
  have ok_a0_8 := hV.2 a0 h0.1 8
  rw [h0.2] at ok_a0_8
  have ok_a0_8 : 0 ≤ (I0 a0 8).toInt ∧ (I0 a0 8).toInt ≤ 700 := ok_a0_8
  have ok_F_7 := hV.2 F hFk.1 7
  rw [hFk.2] at ok_F_7
  have ok_F_7 : 0 ≤ (I0 F 7).toInt ∧ (I0 F 7).toInt ≤ 6 := ok_F_7
  have ok_F_8 := hV.2 F hFk.1 8
  rw [hFk.2] at ok_F_8
  have ok_F_8 : 0 ≤ (I0 F 8).toInt ∧ (I0 F 8).toInt ≤ 5 := ok_F_8
  have ok_F_9 := hV.2 F hFk.1 9
  rw [hFk.2] at ok_F_9
  have ok_F_9 : 0 ≤ (I0 F 9).toInt ∧ (I0 F 9).toInt ≤ 4 := ok_F_9
  have ok_F_10 := hV.2 F hFk.1 10
  rw [hFk.2] at ok_F_10
  have ok_F_10 : 0 ≤ (I0 F 10).toInt ∧ (I0 F 10).toInt ≤ 9 := ok_F_10
  have hV0 : SV frQ P K O I0 J0 I0 J0 := SV.rf hV
  refine g_aload_n C dMo_readFresh_0 rfl ?_
  refine s_callV_zp (av := fun ad => []) C dMo_readFresh_1 mfMo_isName mvMo_isName ln_Mo_235 h0 (by decide) rfl (cMo_isName hV0.1 h0) rfl rfl (Nat.le_of_ble_eq_true rfl) ⟨Nat.le_of_ble_eq_true rfl, Nat.le_of_ble_eq_true rfl⟩ ⟨rfl, rfl⟩ ⟨Nat.zero_le _, Nat.zero_le _⟩ (fun z_1 b_1 p_1 => ?_)
  have rz_1 := rg z_1
  have u_1 := b_1
  unfold B01 at u_1
  refine gt_if_ne 12 C dMo_readFresh_4 (by decide) rfl (fun c_4 => ?_) (fun c_4 => ?_)
  · skip
    refine g_aload_n C dMo_readFresh_12 rfl ?_
    refine gt_getS C dMo_readFresh_13 fl_Mo_172 h0 hFo ?_
    refine g_aload_n C dMo_readFresh_16 rfl ?_
    refine g_getl C dMo_readFresh_17 fl_Mo_114 h0 ?_
    refine s_callV_ip (av := fun ad => [.long (J0 a0 15)]) C dMo_readFresh_20 mfMx_find mvMx_find ln_Mo_239 hFk (by decide) rfl (cMx_find hV0.1 hFk) rfl rfl (Nat.le_of_ble_eq_true rfl) ⟨Nat.le_of_ble_eq_true rfl, Nat.le_of_ble_eq_true rfl⟩ ⟨rfl, rfl⟩ ⟨Nat.zero_le _, Nat.zero_le _⟩ (fun z_20 p_20 => ?_)
    have rz_20 := rg z_20
    try dsimp only at p_20
    refine g_iconst (v := Int32.ofInt (-1)) C dMo_readFresh_23 (by decide) ?_
    refine gt_icmp_eq 32 C dMo_readFresh_24 (by decide) rfl (ofI (by decide)) (fun c_24 => ?_) (fun c_24 => ?_)
    · skip
      refine g_aload_n C dMo_readFresh_32 rfl ?_
      refine g_geti C dMo_readFresh_33 fl_Mo_94 h0 ?_
      refine g_iconst (v := Int32.ofInt (5)) C dMo_readFresh_36 (by decide) ?_
      refine gt_icmp_ne 41 C dMo_readFresh_37 (by decide) rfl (ofI (by decide)) (fun c_37 => ?_) (fun c_37 => ?_)
      · skip
        refine g_aload_n C dMo_readFresh_41 rfl ?_
        refine gt_getS C dMo_readFresh_42 fl_Mo_172 h0 hFo ?_
        refine gt_getr C dMo_readFresh_45 fl_Mo_256 hFk hV0.1.1 rfl (fun b_45 q_45 hb_45 => ?_)
        refine g_aload_n C dMo_readFresh_48 rfl ?_
        refine gt_getS C dMo_readFresh_49 fl_Mo_172 h0 hFo ?_
        refine g_geti C dMo_readFresh_52 fl_Mo_259 hFk ?_
        have o_52 := hV0.1.2 F hFk.1 10
        rw [hFk.2] at o_52
        have o_52 : 0 ≤ (I0 F 10).toInt ∧ (I0 F 10).toInt ≤ 9 := o_52
        refine g_aload_n C dMo_readFresh_55 rfl ?_
        refine g_getl C dMo_readFresh_56 fl_Mo_114 h0 ?_
        refine gt_last C dMo_readFresh_59 hb_45 (by decide) rfl rfl (n := 9) rfl (by omega) hV0 rfl (fun Jw3 eJw3 hVw3 => ?_)
        refine g_aload_n C dMo_readFresh_60 rfl ?_
        refine gt_getS C dMo_readFresh_61 fl_Mo_172 h0 hFo ?_
        refine gt_getr C dMo_readFresh_64 fl_Mo_243 hFk hVw3.1.1 rfl (fun b_64 q_64 hb_64 => ?_)
        refine g_aload_n C dMo_readFresh_67 rfl ?_
        refine gt_getS C dMo_readFresh_68 fl_Mo_172 h0 hFo ?_
        refine g_geti C dMo_readFresh_71 fl_Mo_259 hFk ?_
        have o_71 := hVw3.1.2 F hFk.1 10
        rw [hFk.2] at o_71
        have o_71 : 0 ≤ (I0 F 10).toInt ∧ (I0 F 10).toInt ≤ 9 := o_71
        refine g_iload_n C dMo_readFresh_74 rfl ?_
        refine gt_iast C dMo_readFresh_75 hb_64 (by decide) rfl rfl (n := 9) rfl (by omega) hVw3 rfl (by show -1 ≤ Int32.toInt _ ∧ Int32.toInt _ ≤ 4; omega) (fun Iw4 eIw4 hVw4 => ?_)
        have tkw4_a0_8 : (Iw4 a0 8).toInt = (I0 a0 8).toInt := by rw [eIw4, up2_ne _ _ (fun z => by have q := h0.2; rw [z.1, hb_64.2] at q; exact absurd q (by decide))]
        have tkw4_a0_9 : (Iw4 a0 9).toInt = (I0 a0 9).toInt := by rw [eIw4, up2_ne _ _ (fun z => by have q := h0.2; rw [z.1, hb_64.2] at q; exact absurd q (by decide))]
        have tkw4_a0_13 : (Iw4 a0 13).toInt = (I0 a0 13).toInt := by rw [eIw4, up2_ne _ _ (fun z => by have q := h0.2; rw [z.1, hb_64.2] at q; exact absurd q (by decide))]
        have tkw4_F_0 : (Iw4 F 0).toInt = (I0 F 0).toInt := by rw [eIw4, up2_ne _ _ (fun z => by have q := hFk.2; rw [z.1, hb_64.2] at q; exact absurd q (by decide))]
        have tkw4_F_4 : (Iw4 F 4).toInt = (I0 F 4).toInt := by rw [eIw4, up2_ne _ _ (fun z => by have q := hFk.2; rw [z.1, hb_64.2] at q; exact absurd q (by decide))]
        have tkw4_F_8 : (Iw4 F 8).toInt = (I0 F 8).toInt := by rw [eIw4, up2_ne _ _ (fun z => by have q := hFk.2; rw [z.1, hb_64.2] at q; exact absurd q (by decide))]
        have tkw4_F_9 : (Iw4 F 9).toInt = (I0 F 9).toInt := by rw [eIw4, up2_ne _ _ (fun z => by have q := hFk.2; rw [z.1, hb_64.2] at q; exact absurd q (by decide))]
        have tkw4_F_10 : (Iw4 F 10).toInt = (I0 F 10).toInt := by rw [eIw4, up2_ne _ _ (fun z => by have q := hFk.2; rw [z.1, hb_64.2] at q; exact absurd q (by decide))]
        have tkw4_a0_6 : (Iw4 a0 6).toInt = (I0 a0 6).toInt := by rw [eIw4, up2_ne _ _ (fun z => by have q := h0.2; rw [z.1, hb_64.2] at q; exact absurd q (by decide))]
        have tkw4_a0_7 : (Iw4 a0 7).toInt = (I0 a0 7).toInt := by rw [eIw4, up2_ne _ _ (fun z => by have q := h0.2; rw [z.1, hb_64.2] at q; exact absurd q (by decide))]
        have tkw4_a0_18 : (Iw4 a0 18).toInt = (I0 a0 18).toInt := by rw [eIw4, up2_ne _ _ (fun z => by have q := h0.2; rw [z.1, hb_64.2] at q; exact absurd q (by decide))]
        have tkw4_B_0 : (Iw4 B 0).toInt = (I0 B 0).toInt := by rw [eIw4, up2_ne _ _ (fun z => by have q := hBk.2; rw [z.1, hb_64.2] at q; exact absurd q (by decide))]
        have tkw4_B_4 : (Iw4 B 4).toInt = (I0 B 4).toInt := by rw [eIw4, up2_ne _ _ (fun z => by have q := hBk.2; rw [z.1, hb_64.2] at q; exact absurd q (by decide))]
        have tkw4_B_7 : (Iw4 B 7).toInt = (I0 B 7).toInt := by rw [eIw4, up2_ne _ _ (fun z => by have q := hBk.2; rw [z.1, hb_64.2] at q; exact absurd q (by decide))]
        refine g_aload_n C dMo_readFresh_76 rfl ?_
        refine gt_getS C dMo_readFresh_77 fl_Mo_172 h0 hFo ?_
        refine g_dup C dMo_readFresh_80 rfl ?_
        refine g_geti C dMo_readFresh_81 fl_Mo_259 hFk ?_
        have o_81 := hVw4.1.2 F hFk.1 10
        rw [hFk.2] at o_81
        have o_81 : 0 ≤ (Iw4 F 10).toInt ∧ (Iw4 F 10).toInt ≤ 9 := o_81
        refine g_iconst (v := Int32.ofInt (1)) C dMo_readFresh_84 (by decide) ?_
        first | refine n_iadd C dMo_readFresh_85 rfl (ofI (by decide)) (by omega) (fun z_85 e_85 => ?_) | refine a_iadd C dMo_readFresh_85 (fun z_85 => ?_)
        refine gt_puti C dMo_readFresh_86 fl_Mo_259 hFk hVw4 rfl (by show 0 ≤ Int32.toInt _ ∧ Int32.toInt _ ≤ 9; omega) rfl (Or.inl rfl) (fun Iw5 eIw5 hVw5 => ?_)
        have tkw5_a0_8 : (Iw5 a0 8).toInt = (Iw4 a0 8).toInt := by rw [eIw5, up2_ne _ _ (fun z => by have q := h0.2; rw [z.1, hFk.2] at q; exact absurd q (by decide))]
        have tkw5_a0_9 : (Iw5 a0 9).toInt = (Iw4 a0 9).toInt := by rw [eIw5, up2_ne _ _ (fun z => by have q := h0.2; rw [z.1, hFk.2] at q; exact absurd q (by decide))]
        have tkw5_a0_13 : (Iw5 a0 13).toInt = (Iw4 a0 13).toInt := by rw [eIw5, up2_ne _ _ (fun z => by have q := h0.2; rw [z.1, hFk.2] at q; exact absurd q (by decide))]
        have tkw5_F_0 : (Iw5 F 0).toInt = (Iw4 F 0).toInt := by rw [eIw5, up2_ne _ _ (fun z => absurd z.2 (by decide))]
        have tkw5_F_4 : (Iw5 F 4).toInt = (Iw4 F 4).toInt := by rw [eIw5, up2_ne _ _ (fun z => absurd z.2 (by decide))]
        have tkw5_F_8 : (Iw5 F 8).toInt = (Iw4 F 8).toInt := by rw [eIw5, up2_ne _ _ (fun z => absurd z.2 (by decide))]
        have tkw5_F_9 : (Iw5 F 9).toInt = (Iw4 F 9).toInt := by rw [eIw5, up2_ne _ _ (fun z => absurd z.2 (by decide))]
        have tkw5_F_10 : (Iw5 F 10).toInt = z_85.toInt := by rw [eIw5, up2_self]
        have tkw5_a0_6 : (Iw5 a0 6).toInt = (Iw4 a0 6).toInt := by rw [eIw5, up2_ne _ _ (fun z => by have q := h0.2; rw [z.1, hFk.2] at q; exact absurd q (by decide))]
        have tkw5_a0_7 : (Iw5 a0 7).toInt = (Iw4 a0 7).toInt := by rw [eIw5, up2_ne _ _ (fun z => by have q := h0.2; rw [z.1, hFk.2] at q; exact absurd q (by decide))]
        have tkw5_a0_18 : (Iw5 a0 18).toInt = (Iw4 a0 18).toInt := by rw [eIw5, up2_ne _ _ (fun z => by have q := h0.2; rw [z.1, hFk.2] at q; exact absurd q (by decide))]
        have tkw5_B_0 : (Iw5 B 0).toInt = (Iw4 B 0).toInt := by rw [eIw5, up2_ne _ _ (fun z => absurd z.2 (by decide))]
        have tkw5_B_4 : (Iw5 B 4).toInt = (Iw4 B 4).toInt := by rw [eIw5, up2_ne _ _ (fun z => absurd z.2 (by decide))]
        have tkw5_B_7 : (Iw5 B 7).toInt = (Iw4 B 7).toInt := by rw [eIw5, up2_ne _ _ (fun z => absurd z.2 (by decide))]
        refine g_aload_n C dMo_readFresh_89 rfl ?_
        refine s_callV_v (av := fun ad => []) C dMo_readFresh_90 mfMo_next mvMo_next ln_Mo_146 h0 (by decide) rfl hVw5 (frL_le (by decide)) (cMo_next_N hVw5.1 h0 (by omega)) rfl rfl (Nat.le_of_ble_eq_true rfl) ⟨Nat.le_of_ble_eq_true rfl, Nat.le_of_ble_eq_true rfl⟩ ⟨rfl, rfl⟩ ⟨Nat.zero_le _, Nat.zero_le _⟩ (fun Iw6 Jw6 hVw6 hFw6 p_90 => ?_)
        have tkw6_F_0 : (Iw6 F 0).toInt = (Iw5 F 0).toInt := by rw [(hFw6 F (by rw [hFk.2]; rfl)).1 0]
        have tkw6_F_4 : (Iw6 F 4).toInt = (Iw5 F 4).toInt := by rw [(hFw6 F (by rw [hFk.2]; rfl)).1 4]
        have tkw6_F_8 : (Iw6 F 8).toInt = (Iw5 F 8).toInt := by rw [(hFw6 F (by rw [hFk.2]; rfl)).1 8]
        have tkw6_F_9 : (Iw6 F 9).toInt = (Iw5 F 9).toInt := by rw [(hFw6 F (by rw [hFk.2]; rfl)).1 9]
        have tkw6_F_10 : (Iw6 F 10).toInt = (Iw5 F 10).toInt := by rw [(hFw6 F (by rw [hFk.2]; rfl)).1 10]
        have tkw6_B_0 : (Iw6 B 0).toInt = (Iw5 B 0).toInt := by rw [(hFw6 B (by rw [hBk.2]; rfl)).1 0]
        have tkw6_B_4 : (Iw6 B 4).toInt = (Iw5 B 4).toInt := by rw [(hFw6 B (by rw [hBk.2]; rfl)).1 4]
        have tkw6_B_7 : (Iw6 B 7).toInt = (Iw5 B 7).toInt := by rw [(hFw6 B (by rw [hBk.2]; rfl)).1 7]
        try dsimp only at p_90
        exact s_vret C E dMo_readFresh_93 ⟨Nat.zero_le _, Nat.zero_le _⟩ hVw6 (by (try dsimp only); omega)
      · skip
        exfalso; omega
    · skip
      refine g_aload_n C dMo_readFresh_27 rfl ?_
      refine g_iconst (v := Int32.ofInt (3)) C dMo_readFresh_28 (by decide) ?_
      refine s_callV_v (av := fun ad => [.int (Int32.ofInt (3))]) C dMo_readFresh_29 mfMo_wrong mvMo_wrong ln_Mo_142 h0 (by decide) rfl hV0 (frL_le (by decide)) (cMo_wrong_N hV0.1 h0 (by have hk1 : Int32.toInt (Int32.ofInt (3)) = 3 := ofI (by decide); omega) (by have hk1 : Int32.toInt (Int32.ofInt (3)) = 3 := ofI (by decide); omega)) rfl rfl (Nat.le_of_ble_eq_true rfl) ⟨Nat.le_of_ble_eq_true rfl, Nat.le_of_ble_eq_true rfl⟩ ⟨rfl, rfl⟩ ⟨Nat.zero_le _, Nat.zero_le _⟩ (fun Iw7 Jw7 hVw7 hFw7 p_29 => ?_)
      have tkw7_F_0 : (Iw7 F 0).toInt = (I0 F 0).toInt := by rw [(hFw7 F (by rw [hFk.2]; rfl)).1 0]
      have tkw7_F_4 : (Iw7 F 4).toInt = (I0 F 4).toInt := by rw [(hFw7 F (by rw [hFk.2]; rfl)).1 4]
      have tkw7_F_8 : (Iw7 F 8).toInt = (I0 F 8).toInt := by rw [(hFw7 F (by rw [hFk.2]; rfl)).1 8]
      have tkw7_F_9 : (Iw7 F 9).toInt = (I0 F 9).toInt := by rw [(hFw7 F (by rw [hFk.2]; rfl)).1 9]
      have tkw7_F_10 : (Iw7 F 10).toInt = (I0 F 10).toInt := by rw [(hFw7 F (by rw [hFk.2]; rfl)).1 10]
      have tkw7_B_0 : (Iw7 B 0).toInt = (I0 B 0).toInt := by rw [(hFw7 B (by rw [hBk.2]; rfl)).1 0]
      have tkw7_B_4 : (Iw7 B 4).toInt = (I0 B 4).toInt := by rw [(hFw7 B (by rw [hBk.2]; rfl)).1 4]
      have tkw7_B_7 : (Iw7 B 7).toInt = (I0 B 7).toInt := by rw [(hFw7 B (by rw [hBk.2]; rfl)).1 7]
      try dsimp only at p_29
      have hk1_29 : Int32.toInt (Int32.ofInt (3)) = 3 := ofI (by decide)
      refine g_aload_n C dMo_readFresh_32 rfl ?_
      refine g_geti C dMo_readFresh_33 fl_Mo_94 h0 ?_
      refine g_iconst (v := Int32.ofInt (5)) C dMo_readFresh_36 (by decide) ?_
      refine gt_icmp_ne 41 C dMo_readFresh_37 (by decide) rfl (ofI (by decide)) (fun c_37 => ?_) (fun c_37 => ?_)
      · skip
        exfalso; omega
      · skip
        exact s_vret C E dMo_readFresh_40 ⟨Nat.zero_le _, Nat.zero_le _⟩ hVw7 (by (try dsimp only); omega)
  · skip
    refine g_aload_n C dMo_readFresh_7 rfl ?_
    refine g_iconst (v := Int32.ofInt (1)) C dMo_readFresh_8 (by decide) ?_
    refine s_callV_v (av := fun ad => [.int (Int32.ofInt (1))]) C dMo_readFresh_9 mfMo_wrong mvMo_wrong ln_Mo_142 h0 (by decide) rfl hV0 (frL_le (by decide)) (cMo_wrong_N hV0.1 h0 (by have hk1 : Int32.toInt (Int32.ofInt (1)) = 1 := ofI (by decide); omega) (by have hk1 : Int32.toInt (Int32.ofInt (1)) = 1 := ofI (by decide); omega)) rfl rfl (Nat.le_of_ble_eq_true rfl) ⟨Nat.le_of_ble_eq_true rfl, Nat.le_of_ble_eq_true rfl⟩ ⟨rfl, rfl⟩ ⟨Nat.zero_le _, Nat.zero_le _⟩ (fun Iw8 Jw8 hVw8 hFw8 p_9 => ?_)
    have tkw8_F_0 : (Iw8 F 0).toInt = (I0 F 0).toInt := by rw [(hFw8 F (by rw [hFk.2]; rfl)).1 0]
    have tkw8_F_4 : (Iw8 F 4).toInt = (I0 F 4).toInt := by rw [(hFw8 F (by rw [hFk.2]; rfl)).1 4]
    have tkw8_F_8 : (Iw8 F 8).toInt = (I0 F 8).toInt := by rw [(hFw8 F (by rw [hFk.2]; rfl)).1 8]
    have tkw8_F_9 : (Iw8 F 9).toInt = (I0 F 9).toInt := by rw [(hFw8 F (by rw [hFk.2]; rfl)).1 9]
    have tkw8_F_10 : (Iw8 F 10).toInt = (I0 F 10).toInt := by rw [(hFw8 F (by rw [hFk.2]; rfl)).1 10]
    have tkw8_B_0 : (Iw8 B 0).toInt = (I0 B 0).toInt := by rw [(hFw8 B (by rw [hBk.2]; rfl)).1 0]
    have tkw8_B_4 : (Iw8 B 4).toInt = (I0 B 4).toInt := by rw [(hFw8 B (by rw [hBk.2]; rfl)).1 4]
    have tkw8_B_7 : (Iw8 B 7).toInt = (I0 B 7).toInt := by rw [(hFw8 B (by rw [hBk.2]; rfl)).1 7]
    try dsimp only at p_9
    have hk1_9 : Int32.toInt (Int32.ofInt (1)) = 1 := ofI (by decide)
    refine g_aload_n C dMo_readFresh_12 rfl ?_
    refine gt_getS C dMo_readFresh_13 fl_Mo_172 h0 hFo ?_
    refine g_aload_n C dMo_readFresh_16 rfl ?_
    refine g_getl C dMo_readFresh_17 fl_Mo_114 h0 ?_
    refine s_callV_ip (av := fun ad => [.long (Jw8 a0 15)]) C dMo_readFresh_20 mfMx_find mvMx_find ln_Mo_239 hFk (by decide) rfl (cMx_find hVw8.1 hFk) rfl rfl (Nat.le_of_ble_eq_true rfl) ⟨Nat.le_of_ble_eq_true rfl, Nat.le_of_ble_eq_true rfl⟩ ⟨rfl, rfl⟩ ⟨Nat.zero_le _, Nat.zero_le _⟩ (fun z_20 p_20 => ?_)
    have rz_20 := rg z_20
    try dsimp only at p_20
    refine g_iconst (v := Int32.ofInt (-1)) C dMo_readFresh_23 (by decide) ?_
    refine gt_icmp_eq 32 C dMo_readFresh_24 (by decide) rfl (ofI (by decide)) (fun c_24 => ?_) (fun c_24 => ?_)
    · skip
      refine g_aload_n C dMo_readFresh_32 rfl ?_
      refine g_geti C dMo_readFresh_33 fl_Mo_94 h0 ?_
      refine g_iconst (v := Int32.ofInt (5)) C dMo_readFresh_36 (by decide) ?_
      refine gt_icmp_ne 41 C dMo_readFresh_37 (by decide) rfl (ofI (by decide)) (fun c_37 => ?_) (fun c_37 => ?_)
      · skip
        exfalso; omega
      · skip
        exact s_vret C E dMo_readFresh_40 ⟨Nat.zero_le _, Nat.zero_le _⟩ hVw8 (by (try dsimp only); omega)
    · skip
      refine g_aload_n C dMo_readFresh_27 rfl ?_
      refine g_iconst (v := Int32.ofInt (3)) C dMo_readFresh_28 (by decide) ?_
      refine s_callV_v (av := fun ad => [.int (Int32.ofInt (3))]) C dMo_readFresh_29 mfMo_wrong mvMo_wrong ln_Mo_142 h0 (by decide) rfl hVw8 (frL_le (by decide)) (cMo_wrong_O hVw8.1 h0 (by have hk1 : Int32.toInt (Int32.ofInt (3)) = 3 := ofI (by decide); omega)) rfl rfl (Nat.le_of_ble_eq_true rfl) ⟨Nat.le_of_ble_eq_true rfl, Nat.le_of_ble_eq_true rfl⟩ ⟨rfl, rfl⟩ ⟨Nat.zero_le _, Nat.zero_le _⟩ (fun Iw10 Jw10 hVw10 hFw10 p_29 => ?_)
      have tkw10_F_0 : (Iw10 F 0).toInt = (Iw8 F 0).toInt := by rw [(hFw10 F (by rw [hFk.2]; rfl)).1 0]
      have tkw10_F_4 : (Iw10 F 4).toInt = (Iw8 F 4).toInt := by rw [(hFw10 F (by rw [hFk.2]; rfl)).1 4]
      have tkw10_F_8 : (Iw10 F 8).toInt = (Iw8 F 8).toInt := by rw [(hFw10 F (by rw [hFk.2]; rfl)).1 8]
      have tkw10_F_9 : (Iw10 F 9).toInt = (Iw8 F 9).toInt := by rw [(hFw10 F (by rw [hFk.2]; rfl)).1 9]
      have tkw10_F_10 : (Iw10 F 10).toInt = (Iw8 F 10).toInt := by rw [(hFw10 F (by rw [hFk.2]; rfl)).1 10]
      have tkw10_B_0 : (Iw10 B 0).toInt = (Iw8 B 0).toInt := by rw [(hFw10 B (by rw [hBk.2]; rfl)).1 0]
      have tkw10_B_4 : (Iw10 B 4).toInt = (Iw8 B 4).toInt := by rw [(hFw10 B (by rw [hBk.2]; rfl)).1 4]
      have tkw10_B_7 : (Iw10 B 7).toInt = (Iw8 B 7).toInt := by rw [(hFw10 B (by rw [hBk.2]; rfl)).1 7]
      try dsimp only at p_29
      have hk1_29 : Int32.toInt (Int32.ofInt (3)) = 3 := ofI (by decide)
      refine g_aload_n C dMo_readFresh_32 rfl ?_
      refine g_geti C dMo_readFresh_33 fl_Mo_94 h0 ?_
      refine g_iconst (v := Int32.ofInt (5)) C dMo_readFresh_36 (by decide) ?_
      refine gt_icmp_ne 41 C dMo_readFresh_37 (by decide) rfl (ofI (by decide)) (fun c_37 => ?_) (fun c_37 => ?_)
      · skip
        exfalso; omega
      · skip
        exact s_vret C E dMo_readFresh_40 ⟨Nat.zero_le _, Nat.zero_le _⟩ hVw10 (by (try dsimp only); omega)
