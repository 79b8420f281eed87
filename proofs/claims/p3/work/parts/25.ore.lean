set_option maxHeartbeats 4000000 in
set_option maxRecDepth 100000 in
theorem cMo_readOre_N_F {P : List Nat} {K : Nat → Nat} {I0 : Nat → Nat → Int32} {O : Nat → Nat → Option Nat} {J0 : Nat → Nat → Int64} (hV : IV P K I0 O) {a0 : Nat} (h0 : a0 ∈ P ∧ K a0 = 10) {F B : Nat} (hFo : O a0 4 = some F) (hFk : F ∈ P ∧ K F = 9) (hBk : True ∧ K B = 9) (hBF : B ≠ F) (pr0 : 0 ≤ Int32.toInt (I0 a0 9) ∧ Int32.toInt (I0 a0 9) ≤ 4 ∧ Int32.toInt (I0 a0 13) = 0 ∧ (Int32.toInt (I0 F 0) = -1 ∨ 1 ≤ Int32.toInt (I0 F 0)) ∧ (Int32.toInt (I0 F 4) = -1 ∨ 1 ≤ Int32.toInt (I0 F 4)) ∧ Int32.toInt (I0 F 10) = Int32.toInt (I0 F 8) + Int32.toInt (I0 F 9) + 0) : Con yMo_readOre bMo_readOre 6 none ({ frames := 8, cells := 0, slots := 0, locals := 170 } : Room) P K I0 O J0 [.ref a0] (SPo frQ 0 (fun _ I_ => ((Int32.toInt (I_ a0 9) = 5 ∧ 1 ≤ Int32.toInt (I_ a0 13) ∧ Int32.toInt (I0 a0 8) ≤ Int32.toInt (I_ a0 8)) ∨ (0 ≤ Int32.toInt (I_ a0 9) ∧ Int32.toInt (I_ a0 9) ≤ 4 ∧ Int32.toInt (I_ a0 13) = 0 ∧ Int32.toInt (I0 a0 8) ≤ Int32.toInt (I_ a0 8) ∧ Int32.toInt (I0 a0 8) + Int32.toInt (I_ a0 9) ≤ Int32.toInt (I_ a0 8) + 3 ∧ (Int32.toInt (I_ F 0) = -1 ∨ 1 ≤ Int32.toInt (I_ F 0)) ∧ (Int32.toInt (I_ F 4) = -1 ∨ 1 ≤ Int32.toInt (I_ F 4)) ∧ Int32.toInt (I_ F 10) = Int32.toInt (I_ F 8) + Int32.toInt (I_ F 9) + 0)) ∧ (I_ a0 6).toInt = (I0 a0 6).toInt ∧ (I_ a0 7).toInt = (I0 a0 7).toInt ∧ (I_ a0 18).toInt = (I0 a0 18).toInt ∧ (I_ B 0).toInt = (I0 B 0).toInt ∧ (I_ B 4).toInt = (I0 B 4).toInt ∧ (I_ B 7).toInt = (I0 B 7).toInt ∧ (I_ F 0).toInt = (I0 F 0).toInt ∧ (I_ F 4).toInt = (I0 F 4).toInt ∧ (I_ F 8).toInt = (I0 F 8).toInt) P K I0 O J0) := by
  refine Con.ofG mfMo_readOre (Nat.le_of_ble_eq_true rfl) ?_
  intro X C E
  have ok_a0_7 := hV.2 a0 h0.1 7
  rw [h0.2] at ok_a0_7
  have ok_a0_7 : 0 ≤ (I0 a0 7).toInt ∧ (I0 a0 7).toInt ≤ 700 := ok_a0_7
  have ok_a0_8 := hV.2 a0 h0.1 8
  rw [h0.2] at ok_a0_8
  have ok_a0_8 : 0 ≤ (I0 a0 8).toInt ∧ (I0 a0 8).toInt ≤ 700 := ok_a0_8
  have ok_F_7 := hV.2 F hFk.1 7
  rw [hFk.2] at ok_F_7
  have ok_F_7 : 0 ≤ (I0 F 7).toInt ∧ (I0 F 7).toInt ≤ 6 := ok_F_7
  have ok_F_8 := hV.2 F hFk.1 8
  rw [hFk.2] at ok_F_8
  have ok_F_8 : 0 ≤ (I0 F 8).toInt ∧ (I0 F 8).toInt ≤ 5 := ok_F_8
  have ok_F_9 := hV.2 F hFk.1 9
  rw [hFk.2] at ok_F_9
  have ok_F_9 : 0 ≤ (I0 F 9).toInt ∧ (I0 F 9).toInt ≤ 4 := ok_F_9
  have ok_F_10 := hV.2 F hFk.1 10
  rw [hFk.2] at ok_F_10
  have ok_F_10 : 0 ≤ (I0 F 10).toInt ∧ (I0 F 10).toInt ≤ 9 := ok_F_10
  have hV0 : SV frQ P K O I0 J0 I0 J0 := SV.rf hV
  refine g_aload_n C dMo_readOre_0 rfl ?_
  refine gt_getS C dMo_readOre_1 fl_Mo_172 h0 hFo ?_
  refine g_geti C dMo_readOre_4 fl_Mo_194 hFk ?_
  have o_4 := hV0.1.2 F hFk.1 9
  rw [hFk.2] at o_4
  have o_4 : 0 ≤ (I0 F 9).toInt ∧ (I0 F 9).toInt ≤ 4 := o_4
  refine g_iconst (v := Int32.ofInt (4)) C dMo_readOre_7 (by decide) ?_
  refine gt_icmp_ne 16 C dMo_readOre_8 (by decide) rfl (ofI (by decide)) (fun c_8 => ?_) (fun c_8 => ?_)
  · skip
    refine g_aload_n C dMo_readOre_16 rfl ?_
    refine s_callV_v (av := fun ad => []) C dMo_readOre_17 mfMo_next mvMo_next ln_Mo_146 h0 (by decide) rfl hV0 (frL_le (by decide)) (cMo_next_N hV0.1 h0 (by omega)) rfl rfl (Nat.le_of_ble_eq_true rfl) ⟨Nat.le_of_ble_eq_true rfl, Nat.le_of_ble_eq_true rfl⟩ ⟨rfl, rfl⟩ ⟨Nat.zero_le _, Nat.zero_le _⟩ (fun Iw1 Jw1 hVw1 hFw1 p_17 => ?_)
    have tkw1_F_0 : (Iw1 F 0).toInt = (I0 F 0).toInt := by rw [(hFw1 F (by rw [hFk.2]; rfl)).1 0]
    have tkw1_F_4 : (Iw1 F 4).toInt = (I0 F 4).toInt := by rw [(hFw1 F (by rw [hFk.2]; rfl)).1 4]
    have tkw1_F_8 : (Iw1 F 8).toInt = (I0 F 8).toInt := by rw [(hFw1 F (by rw [hFk.2]; rfl)).1 8]
    have tkw1_F_9 : (Iw1 F 9).toInt = (I0 F 9).toInt := by rw [(hFw1 F (by rw [hFk.2]; rfl)).1 9]
    have tkw1_F_10 : (Iw1 F 10).toInt = (I0 F 10).toInt := by rw [(hFw1 F (by rw [hFk.2]; rfl)).1 10]
    have tkw1_B_0 : (Iw1 B 0).toInt = (I0 B 0).toInt := by rw [(hFw1 B (by rw [hBk.2]; rfl)).1 0]
    have tkw1_B_4 : (Iw1 B 4).toInt = (I0 B 4).toInt := by rw [(hFw1 B (by rw [hBk.2]; rfl)).1 4]
    have tkw1_B_7 : (Iw1 B 7).toInt = (I0 B 7).toInt := by rw [(hFw1 B (by rw [hBk.2]; rfl)).1 7]
    try dsimp only at p_17
    refine g_aload_n C dMo_readOre_20 rfl ?_
    refine g_iconst (v := Int32.ofInt (-1)) C dMo_readOre_21 (by decide) ?_
    refine s_callV_v (av := fun ad => [.int (Int32.ofInt (-1))]) C dMo_readOre_22 mfMo_readFresh mvMo_readFresh ln_Mo_262 h0 (by decide) rfl hVw1 (frL_le (by decide)) (cMo_readFresh_N_F hVw1.1 h0 hFo hFk hBk hBF (by have hk1 : Int32.toInt (Int32.ofInt (-1)) = -1 := ofI (by decide); omega)) rfl rfl (Nat.le_of_ble_eq_true rfl) ⟨Nat.le_of_ble_eq_true rfl, Nat.le_of_ble_eq_true rfl⟩ ⟨rfl, rfl⟩ ⟨Nat.zero_le _, Nat.zero_le _⟩ (fun Iw2 Jw2 hVw2 hFw2 p_22 => ?_)
    try dsimp only at p_22
    have hk1_22 : Int32.toInt (Int32.ofInt (-1)) = -1 := ofI (by decide)
    rcases p_22 with ⟨p_22 | p_22, pk_22⟩
    · skip
      refine g_aload_n C dMo_readOre_25 rfl ?_
      refine g_ldcwS 29 C dMo_readOre_26 rfl ?_
      refine s_callV_v (av := fun ad => [.ref (ad.1 29)]) C dMo_readOre_29 mfMo_needWord mvMo_needWord ln_Mo_223 h0 (by decide) rfl hVw2 (frL_le (by decide)) (cMo_needWord_O hVw2.1 h0 (by decide) (by omega)) rfl rfl (Nat.le_of_ble_eq_true rfl) ⟨Nat.le_of_ble_eq_true rfl, Nat.le_of_ble_eq_true rfl⟩ ⟨rfl, rfl⟩ ⟨Nat.zero_le _, Nat.zero_le _⟩ (fun Iw3 Jw3 hVw3 hFw3 p_29 => ?_)
      have tkw3_F_0 : (Iw3 F 0).toInt = (Iw2 F 0).toInt := by rw [(hFw3 F (by rw [hFk.2]; rfl)).1 0]
      have tkw3_F_4 : (Iw3 F 4).toInt = (Iw2 F 4).toInt := by rw [(hFw3 F (by rw [hFk.2]; rfl)).1 4]
      have tkw3_F_8 : (Iw3 F 8).toInt = (Iw2 F 8).toInt := by rw [(hFw3 F (by rw [hFk.2]; rfl)).1 8]
      have tkw3_F_9 : (Iw3 F 9).toInt = (Iw2 F 9).toInt := by rw [(hFw3 F (by rw [hFk.2]; rfl)).1 9]
      have tkw3_F_10 : (Iw3 F 10).toInt = (Iw2 F 10).toInt := by rw [(hFw3 F (by rw [hFk.2]; rfl)).1 10]
      have tkw3_B_0 : (Iw3 B 0).toInt = (Iw2 B 0).toInt := by rw [(hFw3 B (by rw [hBk.2]; rfl)).1 0]
      have tkw3_B_4 : (Iw3 B 4).toInt = (Iw2 B 4).toInt := by rw [(hFw3 B (by rw [hBk.2]; rfl)).1 4]
      have tkw3_B_7 : (Iw3 B 7).toInt = (Iw2 B 7).toInt := by rw [(hFw3 B (by rw [hBk.2]; rfl)).1 7]
      try dsimp only at p_29
      refine g_aload_n C dMo_readOre_32 rfl ?_
      refine g_iconst (v := Int32.ofInt (1)) C dMo_readOre_33 (by decide) ?_
      refine g_bipush (v := Int32.ofInt (9)) C dMo_readOre_34 (by decide) ?_
      refine s_callV_i (av := fun ad => [.int (Int32.ofInt (1)), .int (Int32.ofInt (9))]) C dMo_readOre_36 mfMo_readWhole mvMo_readWhole ln_Mo_227 h0 (by decide) rfl hVw3 (frL_le (by decide)) (cMo_readWhole_O hVw3.1 h0 (by have hk1 : Int32.toInt (Int32.ofInt (1)) = 1 := ofI (by decide); have hk2 : Int32.toInt (Int32.ofInt (9)) = 9 := ofI (by decide); omega)) rfl rfl (Nat.le_of_ble_eq_true rfl) ⟨Nat.le_of_ble_eq_true rfl, Nat.le_of_ble_eq_true rfl⟩ ⟨rfl, rfl⟩ ⟨Nat.zero_le _, Nat.zero_le _⟩ (fun Iw4 Jw4 hVw4 hFw4 z_36 p_36 => ?_)
      have tkw4_F_0 : (Iw4 F 0).toInt = (Iw3 F 0).toInt := by rw [(hFw4 F (by rw [hFk.2]; rfl)).1 0]
      have tkw4_F_4 : (Iw4 F 4).toInt = (Iw3 F 4).toInt := by rw [(hFw4 F (by rw [hFk.2]; rfl)).1 4]
      have tkw4_F_8 : (Iw4 F 8).toInt = (Iw3 F 8).toInt := by rw [(hFw4 F (by rw [hFk.2]; rfl)).1 8]
      have tkw4_F_9 : (Iw4 F 9).toInt = (Iw3 F 9).toInt := by rw [(hFw4 F (by rw [hFk.2]; rfl)).1 9]
      have tkw4_F_10 : (Iw4 F 10).toInt = (Iw3 F 10).toInt := by rw [(hFw4 F (by rw [hFk.2]; rfl)).1 10]
      have tkw4_B_0 : (Iw4 B 0).toInt = (Iw3 B 0).toInt := by rw [(hFw4 B (by rw [hBk.2]; rfl)).1 0]
      have tkw4_B_4 : (Iw4 B 4).toInt = (Iw3 B 4).toInt := by rw [(hFw4 B (by rw [hBk.2]; rfl)).1 4]
      have tkw4_B_7 : (Iw4 B 7).toInt = (Iw3 B 7).toInt := by rw [(hFw4 B (by rw [hBk.2]; rfl)).1 7]
      have rz_36 := rg z_36
      try dsimp only at p_36
      have hk1_36 : Int32.toInt (Int32.ofInt (1)) = 1 := ofI (by decide)
      have hk2_36 : Int32.toInt (Int32.ofInt (9)) = 9 := ofI (by decide)
      refine g_istore_n (i := 1) C dMo_readOre_39 rfl (by decide) ?_
      refine g_aload_n C dMo_readOre_40 rfl ?_
      refine g_ldcwS 30 C dMo_readOre_41 rfl ?_
      refine s_callV_v (av := fun ad => [.ref (ad.1 30)]) C dMo_readOre_44 mfMo_needWord mvMo_needWord ln_Mo_223 h0 (by decide) rfl hVw4 (frL_le (by decide)) (cMo_needWord_O hVw4.1 h0 (by decide) (by omega)) rfl rfl (Nat.le_of_ble_eq_true rfl) ⟨Nat.le_of_ble_eq_true rfl, Nat.le_of_ble_eq_true rfl⟩ ⟨rfl, rfl⟩ ⟨Nat.zero_le _, Nat.zero_le _⟩ (fun Iw5 Jw5 hVw5 hFw5 p_44 => ?_)
      have tkw5_F_0 : (Iw5 F 0).toInt = (Iw4 F 0).toInt := by rw [(hFw5 F (by rw [hFk.2]; rfl)).1 0]
      have tkw5_F_4 : (Iw5 F 4).toInt = (Iw4 F 4).toInt := by rw [(hFw5 F (by rw [hFk.2]; rfl)).1 4]
      have tkw5_F_8 : (Iw5 F 8).toInt = (Iw4 F 8).toInt := by rw [(hFw5 F (by rw [hFk.2]; rfl)).1 8]
      have tkw5_F_9 : (Iw5 F 9).toInt = (Iw4 F 9).toInt := by rw [(hFw5 F (by rw [hFk.2]; rfl)).1 9]
      have tkw5_F_10 : (Iw5 F 10).toInt = (Iw4 F 10).toInt := by rw [(hFw5 F (by rw [hFk.2]; rfl)).1 10]
      have tkw5_B_0 : (Iw5 B 0).toInt = (Iw4 B 0).toInt := by rw [(hFw5 B (by rw [hBk.2]; rfl)).1 0]
      have tkw5_B_4 : (Iw5 B 4).toInt = (Iw4 B 4).toInt := by rw [(hFw5 B (by rw [hBk.2]; rfl)).1 4]
      have tkw5_B_7 : (Iw5 B 7).toInt = (Iw4 B 7).toInt := by rw [(hFw5 B (by rw [hBk.2]; rfl)).1 7]
      try dsimp only at p_44
      refine g_aload_n C dMo_readOre_47 rfl ?_
      refine g_geti C dMo_readOre_48 fl_Mo_94 h0 ?_
      refine g_iconst (v := Int32.ofInt (5)) C dMo_readOre_51 (by decide) ?_
      refine gt_icmp_ne 56 C dMo_readOre_52 (by decide) rfl (ofI (by decide)) (fun c_52 => ?_) (fun c_52 => ?_)
      · skip
        exfalso; omega
      · skip
        exact s_vret C E dMo_readOre_55 ⟨Nat.zero_le _, Nat.zero_le _⟩ hVw5 (by (try dsimp only); omega)
    · skip
      refine g_aload_n C dMo_readOre_25 rfl ?_
      refine g_ldcwS 29 C dMo_readOre_26 rfl ?_
      refine s_callV_v (av := fun ad => [.ref (ad.1 29)]) C dMo_readOre_29 mfMo_needWord mvMo_needWord ln_Mo_223 h0 (by decide) rfl hVw2 (frL_le (by decide)) (cMo_needWord_N hVw2.1 h0 (by decide) (by omega)) rfl rfl (Nat.le_of_ble_eq_true rfl) ⟨Nat.le_of_ble_eq_true rfl, Nat.le_of_ble_eq_true rfl⟩ ⟨rfl, rfl⟩ ⟨Nat.zero_le _, Nat.zero_le _⟩ (fun Iw6 Jw6 hVw6 hFw6 p_29 => ?_)
      have tkw6_F_0 : (Iw6 F 0).toInt = (Iw2 F 0).toInt := by rw [(hFw6 F (by rw [hFk.2]; rfl)).1 0]
      have tkw6_F_4 : (Iw6 F 4).toInt = (Iw2 F 4).toInt := by rw [(hFw6 F (by rw [hFk.2]; rfl)).1 4]
      have tkw6_F_8 : (Iw6 F 8).toInt = (Iw2 F 8).toInt := by rw [(hFw6 F (by rw [hFk.2]; rfl)).1 8]
      have tkw6_F_9 : (Iw6 F 9).toInt = (Iw2 F 9).toInt := by rw [(hFw6 F (by rw [hFk.2]; rfl)).1 9]
      have tkw6_F_10 : (Iw6 F 10).toInt = (Iw2 F 10).toInt := by rw [(hFw6 F (by rw [hFk.2]; rfl)).1 10]
      have tkw6_B_0 : (Iw6 B 0).toInt = (Iw2 B 0).toInt := by rw [(hFw6 B (by rw [hBk.2]; rfl)).1 0]
      have tkw6_B_4 : (Iw6 B 4).toInt = (Iw2 B 4).toInt := by rw [(hFw6 B (by rw [hBk.2]; rfl)).1 4]
      have tkw6_B_7 : (Iw6 B 7).toInt = (Iw2 B 7).toInt := by rw [(hFw6 B (by rw [hBk.2]; rfl)).1 7]
      try dsimp only at p_29
      rcases p_29 with ⟨p_29 | p_29, pk_29⟩
      · skip
        refine g_aload_n C dMo_readOre_32 rfl ?_
        refine g_iconst (v := Int32.ofInt (1)) C dMo_readOre_33 (by decide) ?_
        refine g_bipush (v := Int32.ofInt (9)) C dMo_readOre_34 (by decide) ?_
        refine s_callV_i (av := fun ad => [.int (Int32.ofInt (1)), .int (Int32.ofInt (9))]) C dMo_readOre_36 mfMo_readWhole mvMo_readWhole ln_Mo_227 h0 (by decide) rfl hVw6 (frL_le (by decide)) (cMo_readWhole_O hVw6.1 h0 (by have hk1 : Int32.toInt (Int32.ofInt (1)) = 1 := ofI (by decide); have hk2 : Int32.toInt (Int32.ofInt (9)) = 9 := ofI (by decide); omega)) rfl rfl (Nat.le_of_ble_eq_true rfl) ⟨Nat.le_of_ble_eq_true rfl, Nat.le_of_ble_eq_true rfl⟩ ⟨rfl, rfl⟩ ⟨Nat.zero_le _, Nat.zero_le _⟩ (fun Iw7 Jw7 hVw7 hFw7 z_36 p_36 => ?_)
        have tkw7_F_0 : (Iw7 F 0).toInt = (Iw6 F 0).toInt := by rw [(hFw7 F (by rw [hFk.2]; rfl)).1 0]
        have tkw7_F_4 : (Iw7 F 4).toInt = (Iw6 F 4).toInt := by rw [(hFw7 F (by rw [hFk.2]; rfl)).1 4]
        have tkw7_F_8 : (Iw7 F 8).toInt = (Iw6 F 8).toInt := by rw [(hFw7 F (by rw [hFk.2]; rfl)).1 8]
        have tkw7_F_9 : (Iw7 F 9).toInt = (Iw6 F 9).toInt := by rw [(hFw7 F (by rw [hFk.2]; rfl)).1 9]
        have tkw7_F_10 : (Iw7 F 10).toInt = (Iw6 F 10).toInt := by rw [(hFw7 F (by rw [hFk.2]; rfl)).1 10]
        have tkw7_B_0 : (Iw7 B 0).toInt = (Iw6 B 0).toInt := by rw [(hFw7 B (by rw [hBk.2]; rfl)).1 0]
        have tkw7_B_4 : (Iw7 B 4).toInt = (Iw6 B 4).toInt := by rw [(hFw7 B (by rw [hBk.2]; rfl)).1 4]
        have tkw7_B_7 : (Iw7 B 7).toInt = (Iw6 B 7).toInt := by rw [(hFw7 B (by rw [hBk.2]; rfl)).1 7]
        have rz_36 := rg z_36
        try dsimp only at p_36
        have hk1_36 : Int32.toInt (Int32.ofInt (1)) = 1 := ofI (by decide)
        have hk2_36 : Int32.toInt (Int32.ofInt (9)) = 9 := ofI (by decide)
        refine g_istore_n (i := 1) C dMo_readOre_39 rfl (by decide) ?_
        refine g_aload_n C dMo_readOre_40 rfl ?_
        refine g_ldcwS 30 C dMo_readOre_41 rfl ?_
        refine s_callV_v (av := fun ad => [.ref (ad.1 30)]) C dMo_readOre_44 mfMo_needWord mvMo_needWord ln_Mo_223 h0 (by decide) rfl hVw7 (frL_le (by decide)) (cMo_needWord_O hVw7.1 h0 (by decide) (by omega)) rfl rfl (Nat.le_of_ble_eq_true rfl) ⟨Nat.le_of_ble_eq_true rfl, Nat.le_of_ble_eq_true rfl⟩ ⟨rfl, rfl⟩ ⟨Nat.zero_le _, Nat.zero_le _⟩ (fun Iw8 Jw8 hVw8 hFw8 p_44 => ?_)
        have tkw8_F_0 : (Iw8 F 0).toInt = (Iw7 F 0).toInt := by rw [(hFw8 F (by rw [hFk.2]; rfl)).1 0]
        have tkw8_F_4 : (Iw8 F 4).toInt = (Iw7 F 4).toInt := by rw [(hFw8 F (by rw [hFk.2]; rfl)).1 4]
        have tkw8_F_8 : (Iw8 F 8).toInt = (Iw7 F 8).toInt := by rw [(hFw8 F (by rw [hFk.2]; rfl)).1 8]
        have tkw8_F_9 : (Iw8 F 9).toInt = (Iw7 F 9).toInt := by rw [(hFw8 F (by rw [hFk.2]; rfl)).1 9]
        have tkw8_F_10 : (Iw8 F 10).toInt = (Iw7 F 10).toInt := by rw [(hFw8 F (by rw [hFk.2]; rfl)).1 10]
        have tkw8_B_0 : (Iw8 B 0).toInt = (Iw7 B 0).toInt := by rw [(hFw8 B (by rw [hBk.2]; rfl)).1 0]
        have tkw8_B_4 : (Iw8 B 4).toInt = (Iw7 B 4).toInt := by rw [(hFw8 B (by rw [hBk.2]; rfl)).1 4]
        have tkw8_B_7 : (Iw8 B 7).toInt = (Iw7 B 7).toInt := by rw [(hFw8 B (by rw [hBk.2]; rfl)).1 7]
        try dsimp only at p_44
        refine g_aload_n C dMo_readOre_47 rfl ?_
        refine g_geti C dMo_readOre_48 fl_Mo_94 h0 ?_
        refine g_iconst (v := Int32.ofInt (5)) C dMo_readOre_51 (by decide) ?_
        refine gt_icmp_ne 56 C dMo_readOre_52 (by decide) rfl (ofI (by decide)) (fun c_52 => ?_) (fun c_52 => ?_)
        · skip
          exfalso; omega
        · skip
          exact s_vret C E dMo_readOre_55 ⟨Nat.zero_le _, Nat.zero_le _⟩ hVw8 (by (try dsimp only); omega)
      · skip
        refine g_aload_n C dMo_readOre_32 rfl ?_
        refine g_iconst (v := Int32.ofInt (1)) C dMo_readOre_33 (by decide) ?_
        refine g_bipush (v := Int32.ofInt (9)) C dMo_readOre_34 (by decide) ?_
        refine s_callV_i (av := fun ad => [.int (Int32.ofInt (1)), .int (Int32.ofInt (9))]) C dMo_readOre_36 mfMo_readWhole mvMo_readWhole ln_Mo_227 h0 (by decide) rfl hVw6 (frL_le (by decide)) (cMo_readWhole_N hVw6.1 h0 (by have hk1 : Int32.toInt (Int32.ofInt (1)) = 1 := ofI (by decide); have hk2 : Int32.toInt (Int32.ofInt (9)) = 9 := ofI (by decide); omega)) rfl rfl (Nat.le_of_ble_eq_true rfl) ⟨Nat.le_of_ble_eq_true rfl, Nat.le_of_ble_eq_true rfl⟩ ⟨rfl, rfl⟩ ⟨Nat.zero_le _, Nat.zero_le _⟩ (fun Iw9 Jw9 hVw9 hFw9 z_36 p_36 => ?_)
        have tkw9_F_0 : (Iw9 F 0).toInt = (Iw6 F 0).toInt := by rw [(hFw9 F (by rw [hFk.2]; rfl)).1 0]
        have tkw9_F_4 : (Iw9 F 4).toInt = (Iw6 F 4).toInt := by rw [(hFw9 F (by rw [hFk.2]; rfl)).1 4]
        have tkw9_F_8 : (Iw9 F 8).toInt = (Iw6 F 8).toInt := by rw [(hFw9 F (by rw [hFk.2]; rfl)).1 8]
        have tkw9_F_9 : (Iw9 F 9).toInt = (Iw6 F 9).toInt := by rw [(hFw9 F (by rw [hFk.2]; rfl)).1 9]
        have tkw9_F_10 : (Iw9 F 10).toInt = (Iw6 F 10).toInt := by rw [(hFw9 F (by rw [hFk.2]; rfl)).1 10]
        have tkw9_B_0 : (Iw9 B 0).toInt = (Iw6 B 0).toInt := by rw [(hFw9 B (by rw [hBk.2]; rfl)).1 0]
        have tkw9_B_4 : (Iw9 B 4).toInt = (Iw6 B 4).toInt := by rw [(hFw9 B (by rw [hBk.2]; rfl)).1 4]
        have tkw9_B_7 : (Iw9 B 7).toInt = (Iw6 B 7).toInt := by rw [(hFw9 B (by rw [hBk.2]; rfl)).1 7]
        have rz_36 := rg z_36
        try dsimp only at p_36
        have hk1_36 : Int32.toInt (Int32.ofInt (1)) = 1 := ofI (by decide)
        have hk2_36 : Int32.toInt (Int32.ofInt (9)) = 9 := ofI (by decide)
        rcases p_36 with ⟨p_36 | p_36, pk_36⟩
        · skip
          refine g_istore_n (i := 1) C dMo_readOre_39 rfl (by decide) ?_
          refine g_aload_n C dMo_readOre_40 rfl ?_
          refine g_ldcwS 30 C dMo_readOre_41 rfl ?_
          refine s_callV_v (av := fun ad => [.ref (ad.1 30)]) C dMo_readOre_44 mfMo_needWord mvMo_needWord ln_Mo_223 h0 (by decide) rfl hVw9 (frL_le (by decide)) (cMo_needWord_O hVw9.1 h0 (by decide) (by omega)) rfl rfl (Nat.le_of_ble_eq_true rfl) ⟨Nat.le_of_ble_eq_true rfl, Nat.le_of_ble_eq_true rfl⟩ ⟨rfl, rfl⟩ ⟨Nat.zero_le _, Nat.zero_le _⟩ (fun Iw10 Jw10 hVw10 hFw10 p_44 => ?_)
          have tkw10_F_0 : (Iw10 F 0).toInt = (Iw9 F 0).toInt := by rw [(hFw10 F (by rw [hFk.2]; rfl)).1 0]
          have tkw10_F_4 : (Iw10 F 4).toInt = (Iw9 F 4).toInt := by rw [(hFw10 F (by rw [hFk.2]; rfl)).1 4]
          have tkw10_F_8 : (Iw10 F 8).toInt = (Iw9 F 8).toInt := by rw [(hFw10 F (by rw [hFk.2]; rfl)).1 8]
          have tkw10_F_9 : (Iw10 F 9).toInt = (Iw9 F 9).toInt := by rw [(hFw10 F (by rw [hFk.2]; rfl)).1 9]
          have tkw10_F_10 : (Iw10 F 10).toInt = (Iw9 F 10).toInt := by rw [(hFw10 F (by rw [hFk.2]; rfl)).1 10]
          have tkw10_B_0 : (Iw10 B 0).toInt = (Iw9 B 0).toInt := by rw [(hFw10 B (by rw [hBk.2]; rfl)).1 0]
          have tkw10_B_4 : (Iw10 B 4).toInt = (Iw9 B 4).toInt := by rw [(hFw10 B (by rw [hBk.2]; rfl)).1 4]
          have tkw10_B_7 : (Iw10 B 7).toInt = (Iw9 B 7).toInt := by rw [(hFw10 B (by rw [hBk.2]; rfl)).1 7]
          try dsimp only at p_44
          refine g_aload_n C dMo_readOre_47 rfl ?_
          refine g_geti C dMo_readOre_48 fl_Mo_94 h0 ?_
          refine g_iconst (v := Int32.ofInt (5)) C dMo_readOre_51 (by decide) ?_
          refine gt_icmp_ne 56 C dMo_readOre_52 (by decide) rfl (ofI (by decide)) (fun c_52 => ?_) (fun c_52 => ?_)
          · skip
            exfalso; omega
          · skip
            exact s_vret C E dMo_readOre_55 ⟨Nat.zero_le _, Nat.zero_le _⟩ hVw10 (by (try dsimp only); omega)
        · skip
          refine g_istore_n (i := 1) C dMo_readOre_39 rfl (by decide) ?_
          refine g_aload_n C dMo_readOre_40 rfl ?_
          refine g_ldcwS 30 C dMo_readOre_41 rfl ?_
          refine s_callV_v (av := fun ad => [.ref (ad.1 30)]) C dMo_readOre_44 mfMo_needWord mvMo_needWord ln_Mo_223 h0 (by decide) rfl hVw9 (frL_le (by decide)) (cMo_needWord_N hVw9.1 h0 (by decide) (by omega)) rfl rfl (Nat.le_of_ble_eq_true rfl) ⟨Nat.le_of_ble_eq_true rfl, Nat.le_of_ble_eq_true rfl⟩ ⟨rfl, rfl⟩ ⟨Nat.zero_le _, Nat.zero_le _⟩ (fun Iw11 Jw11 hVw11 hFw11 p_44 => ?_)
          have tkw11_F_0 : (Iw11 F 0).toInt = (Iw9 F 0).toInt := by rw [(hFw11 F (by rw [hFk.2]; rfl)).1 0]
          have tkw11_F_4 : (Iw11 F 4).toInt = (Iw9 F 4).toInt := by rw [(hFw11 F (by rw [hFk.2]; rfl)).1 4]
          have tkw11_F_8 : (Iw11 F 8).toInt = (Iw9 F 8).toInt := by rw [(hFw11 F (by rw [hFk.2]; rfl)).1 8]
          have tkw11_F_9 : (Iw11 F 9).toInt = (Iw9 F 9).toInt := by rw [(hFw11 F (by rw [hFk.2]; rfl)).1 9]
          have tkw11_F_10 : (Iw11 F 10).toInt = (Iw9 F 10).toInt := by rw [(hFw11 F (by rw [hFk.2]; rfl)).1 10]
          have tkw11_B_0 : (Iw11 B 0).toInt = (Iw9 B 0).toInt := by rw [(hFw11 B (by rw [hBk.2]; rfl)).1 0]
          have tkw11_B_4 : (Iw11 B 4).toInt = (Iw9 B 4).toInt := by rw [(hFw11 B (by rw [hBk.2]; rfl)).1 4]
          have tkw11_B_7 : (Iw11 B 7).toInt = (Iw9 B 7).toInt := by rw [(hFw11 B (by rw [hBk.2]; rfl)).1 7]
          try dsimp only at p_44
          rcases p_44 with ⟨p_44 | p_44, pk_44⟩
          · skip
            refine g_aload_n C dMo_readOre_47 rfl ?_
            refine g_geti C dMo_readOre_48 fl_Mo_94 h0 ?_
            refine g_iconst (v := Int32.ofInt (5)) C dMo_readOre_51 (by decide) ?_
            refine gt_icmp_ne 56 C dMo_readOre_52 (by decide) rfl (ofI (by decide)) (fun c_52 => ?_) (fun c_52 => ?_)
            · skip
              exfalso; omega
            · skip
              exact s_vret C E dMo_readOre_55 ⟨Nat.zero_le _, Nat.zero_le _⟩ hVw11 (by (try dsimp only); omega)
          · skip
            refine g_aload_n C dMo_readOre_47 rfl ?_
            refine g_geti C dMo_readOre_48 fl_Mo_94 h0 ?_
            refine g_iconst (v := Int32.ofInt (5)) C dMo_readOre_51 (by decide) ?_
            refine gt_icmp_ne 56 C dMo_readOre_52 (by decide) rfl (ofI (by decide)) (fun c_52 => ?_) (fun c_52 => ?_)
            · skip
              refine g_aload_n C dMo_readOre_56 rfl ?_
              refine gt_getS C dMo_readOre_57 fl_Mo_172 h0 hFo ?_
              refine gt_getr C dMo_readOre_60 fl_Mo_276 hFk hVw11.1.1 rfl (fun b_60 q_60 hb_60 => ?_)
              refine g_aload_n C dMo_readOre_63 rfl ?_
              refine gt_getS C dMo_readOre_64 fl_Mo_172 h0 hFo ?_
              refine g_geti C dMo_readOre_67 fl_Mo_194 hFk ?_
              have o_67 := hVw11.1.2 F hFk.1 9
              rw [hFk.2] at o_67
              have o_67 : 0 ≤ (Iw11 F 9).toInt ∧ (Iw11 F 9).toInt ≤ 4 := o_67
              refine g_iload_n C dMo_readOre_70 rfl ?_
              refine gt_iast C dMo_readOre_71 hb_60 (by decide) rfl rfl (n := 4) rfl (by omega) hVw11 rfl (by show 0 ≤ Int32.toInt _ ∧ Int32.toInt _ ≤ 9; omega) (fun Iw12 eIw12 hVw12 => ?_)
              have tkw12_a0_8 : (Iw12 a0 8).toInt = (Iw11 a0 8).toInt := by rw [eIw12, up2_ne _ _ (fun z => by have q := h0.2; rw [z.1, hb_60.2] at q; exact absurd q (by decide))]
              have tkw12_a0_9 : (Iw12 a0 9).toInt = (Iw11 a0 9).toInt := by rw [eIw12, up2_ne _ _ (fun z => by have q := h0.2; rw [z.1, hb_60.2] at q; exact absurd q (by decide))]
              have tkw12_a0_13 : (Iw12 a0 13).toInt = (Iw11 a0 13).toInt := by rw [eIw12, up2_ne _ _ (fun z => by have q := h0.2; rw [z.1, hb_60.2] at q; exact absurd q (by decide))]
              have tkw12_F_0 : (Iw12 F 0).toInt = (Iw11 F 0).toInt := by rw [eIw12, up2_ne _ _ (fun z => by have q := hFk.2; rw [z.1, hb_60.2] at q; exact absurd q (by decide))]
              have tkw12_F_4 : (Iw12 F 4).toInt = (Iw11 F 4).toInt := by rw [eIw12, up2_ne _ _ (fun z => by have q := hFk.2; rw [z.1, hb_60.2] at q; exact absurd q (by decide))]
              have tkw12_F_8 : (Iw12 F 8).toInt = (Iw11 F 8).toInt := by rw [eIw12, up2_ne _ _ (fun z => by have q := hFk.2; rw [z.1, hb_60.2] at q; exact absurd q (by decide))]
              have tkw12_F_9 : (Iw12 F 9).toInt = (Iw11 F 9).toInt := by rw [eIw12, up2_ne _ _ (fun z => by have q := hFk.2; rw [z.1, hb_60.2] at q; exact absurd q (by decide))]
              have tkw12_F_10 : (Iw12 F 10).toInt = (Iw11 F 10).toInt := by rw [eIw12, up2_ne _ _ (fun z => by have q := hFk.2; rw [z.1, hb_60.2] at q; exact absurd q (by decide))]
              have tkw12_a0_6 : (Iw12 a0 6).toInt = (Iw11 a0 6).toInt := by rw [eIw12, up2_ne _ _ (fun z => by have q := h0.2; rw [z.1, hb_60.2] at q; exact absurd q (by decide))]
              have tkw12_a0_7 : (Iw12 a0 7).toInt = (Iw11 a0 7).toInt := by rw [eIw12, up2_ne _ _ (fun z => by have q := h0.2; rw [z.1, hb_60.2] at q; exact absurd q (by decide))]
              have tkw12_a0_18 : (Iw12 a0 18).toInt = (Iw11 a0 18).toInt := by rw [eIw12, up2_ne _ _ (fun z => by have q := h0.2; rw [z.1, hb_60.2] at q; exact absurd q (by decide))]
              have tkw12_B_0 : (Iw12 B 0).toInt = (Iw11 B 0).toInt := by rw [eIw12, up2_ne _ _ (fun z => by have q := hBk.2; rw [z.1, hb_60.2] at q; exact absurd q (by decide))]
              have tkw12_B_4 : (Iw12 B 4).toInt = (Iw11 B 4).toInt := by rw [eIw12, up2_ne _ _ (fun z => by have q := hBk.2; rw [z.1, hb_60.2] at q; exact absurd q (by decide))]
              have tkw12_B_7 : (Iw12 B 7).toInt = (Iw11 B 7).toInt := by rw [eIw12, up2_ne _ _ (fun z => by have q := hBk.2; rw [z.1, hb_60.2] at q; exact absurd q (by decide))]
              refine g_iconst (v := Int32.ofInt (1)) C dMo_readOre_72 (by decide) ?_
              refine g_istore_n (i := 2) C dMo_readOre_73 rfl (by decide) ?_
              refine g_iconst (v := Int32.ofInt (0)) C dMo_readOre_74 (by decide) ?_
              refine g_istore_n (i := 3) C dMo_readOre_75 rfl (by decide) ?_
              have lp_76 : ∀ (nn_76 : Nat) (x2_76 : Int32) (x3_76 : Int32) (Iw13 : Nat → Nat → Int32) (Jw13 : Nat → Nat → Int64), Int.toNat (6 - x3_76.toInt) = nn_76 → (0 ≤ Int32.toInt (Iw13 a0 9) ∧ Int32.toInt (Iw13 a0 9) ≤ 4 ∧ Int32.toInt (Iw13 a0 13) = 0 ∧ Int32.toInt (I0 a0 8) ≤ Int32.toInt (Iw13 a0 8) ∧ Int32.toInt (I0 a0 8) + Int32.toInt (Iw13 a0 9) ≤ Int32.toInt (Iw13 a0 8) + 3) → (Int32.toInt (Iw13 F 10) = Int32.toInt (Iw13 F 8) + Int32.toInt (Iw13 F 9) + 1) → (Int32.toInt (Iw13 F 9) ≤ 3) → (0 ≤ Int32.toInt x3_76 ∧ Int32.toInt x3_76 ≤ 5) → (Int32.toInt (Iw13 a0 6) = Int32.toInt (I0 a0 6)) → (Int32.toInt (Iw13 a0 7) = Int32.toInt (I0 a0 7)) → (Int32.toInt (Iw13 a0 18) = Int32.toInt (I0 a0 18)) → (Int32.toInt (Iw13 B 0) = Int32.toInt (I0 B 0)) → (Int32.toInt (Iw13 B 4) = Int32.toInt (I0 B 4)) → (Int32.toInt (Iw13 B 7) = Int32.toInt (I0 B 7)) → (Int32.toInt (Iw13 F 0) = Int32.toInt (I0 F 0)) → (Int32.toInt (Iw13 F 4) = Int32.toInt (I0 F 4)) → (Int32.toInt (Iw13 F 8) = Int32.toInt (I0 F 8)) → SV frQ P K O I0 J0 Iw13 Jw13 → GG X 6 P K Iw13 O Jw13 0 0 76 [(0, .ref a0), (1, .int z_36), (2, .int x2_76), (3, .int x3_76)] [] := by
                intro nn_76
                induction nn_76 using Nat.strongRecOn with
                | ind nn_76 ih_76 =>
                intro x2_76 x3_76 Iw13 Jw13 hn_76 iv0_76 iv1_76 iv2_76 iv3_76 iv4_76 iv5_76 iv6_76 iv7_76 iv8_76 iv9_76 iv10_76 iv11_76 iv12_76 hVw13
                have rg2_76 := rg x2_76
                have rg3_76 := rg x3_76
                refine g_iload_n C dMo_readOre_76 rfl ?_
                refine gt_if_eq 164 C dMo_readOre_77 (by decide) rfl (fun c_77 => ?_) (fun c_77 => ?_)
                · skip
                  refine g_aload_n C dMo_readOre_164 rfl ?_
                  refine gt_getS C dMo_readOre_165 fl_Mo_172 h0 hFo ?_
                  refine g_dup C dMo_readOre_168 rfl ?_
                  refine g_geti C dMo_readOre_169 fl_Mo_194 hFk ?_
                  have o_169 := hVw13.1.2 F hFk.1 9
                  rw [hFk.2] at o_169
                  have o_169 : 0 ≤ (Iw13 F 9).toInt ∧ (Iw13 F 9).toInt ≤ 4 := o_169
                  refine g_iconst (v := Int32.ofInt (1)) C dMo_readOre_172 (by decide) ?_
                  first | refine n_iadd C dMo_readOre_173 rfl (ofI (by decide)) (by omega) (fun z_173 e_173 => ?_) | refine a_iadd C dMo_readOre_173 (fun z_173 => ?_)
                  refine gt_puti C dMo_readOre_174 fl_Mo_194 hFk hVw13 rfl (by show 0 ≤ Int32.toInt _ ∧ Int32.toInt _ ≤ 4; omega) rfl (Or.inl rfl) (fun Iw14 eIw14 hVw14 => ?_)
                  have tkw14_a0_8 : (Iw14 a0 8).toInt = (Iw13 a0 8).toInt := by rw [eIw14, up2_ne _ _ (fun z => by have q := h0.2; rw [z.1, hFk.2] at q; exact absurd q (by decide))]
                  have tkw14_a0_9 : (Iw14 a0 9).toInt = (Iw13 a0 9).toInt := by rw [eIw14, up2_ne _ _ (fun z => by have q := h0.2; rw [z.1, hFk.2] at q; exact absurd q (by decide))]
                  have tkw14_a0_13 : (Iw14 a0 13).toInt = (Iw13 a0 13).toInt := by rw [eIw14, up2_ne _ _ (fun z => by have q := h0.2; rw [z.1, hFk.2] at q; exact absurd q (by decide))]
                  have tkw14_F_0 : (Iw14 F 0).toInt = (Iw13 F 0).toInt := by rw [eIw14, up2_ne _ _ (fun z => absurd z.2 (by decide))]
                  have tkw14_F_4 : (Iw14 F 4).toInt = (Iw13 F 4).toInt := by rw [eIw14, up2_ne _ _ (fun z => absurd z.2 (by decide))]
                  have tkw14_F_8 : (Iw14 F 8).toInt = (Iw13 F 8).toInt := by rw [eIw14, up2_ne _ _ (fun z => absurd z.2 (by decide))]
                  have tkw14_F_9 : (Iw14 F 9).toInt = z_173.toInt := by rw [eIw14, up2_self]
                  have tkw14_F_10 : (Iw14 F 10).toInt = (Iw13 F 10).toInt := by rw [eIw14, up2_ne _ _ (fun z => absurd z.2 (by decide))]
                  have tkw14_a0_6 : (Iw14 a0 6).toInt = (Iw13 a0 6).toInt := by rw [eIw14, up2_ne _ _ (fun z => by have q := h0.2; rw [z.1, hFk.2] at q; exact absurd q (by decide))]
                  have tkw14_a0_7 : (Iw14 a0 7).toInt = (Iw13 a0 7).toInt := by rw [eIw14, up2_ne _ _ (fun z => by have q := h0.2; rw [z.1, hFk.2] at q; exact absurd q (by decide))]
                  have tkw14_a0_18 : (Iw14 a0 18).toInt = (Iw13 a0 18).toInt := by rw [eIw14, up2_ne _ _ (fun z => by have q := h0.2; rw [z.1, hFk.2] at q; exact absurd q (by decide))]
                  have tkw14_B_0 : (Iw14 B 0).toInt = (Iw13 B 0).toInt := by rw [eIw14, up2_ne _ _ (fun z => absurd z.2 (by decide))]
                  have tkw14_B_4 : (Iw14 B 4).toInt = (Iw13 B 4).toInt := by rw [eIw14, up2_ne _ _ (fun z => absurd z.2 (by decide))]
                  have tkw14_B_7 : (Iw14 B 7).toInt = (Iw13 B 7).toInt := by rw [eIw14, up2_ne _ _ (fun z => absurd z.2 (by decide))]
                  exact s_vret C E dMo_readOre_177 ⟨Nat.zero_le _, Nat.zero_le _⟩ hVw14 (by (try dsimp only); omega)
                · skip
                  refine g_aload_n C dMo_readOre_80 rfl ?_
                  refine g_geti C dMo_readOre_81 fl_Mo_104 h0 ?_
                  refine g_istore C dMo_readOre_84 (by decide) ?_
                  refine g_aload_n C dMo_readOre_86 rfl ?_
                  refine g_iconst (v := Int32.ofInt (0)) C dMo_readOre_87 (by decide) ?_
                  refine g_bipush (v := Int32.ofInt (50)) C dMo_readOre_88 (by decide) ?_
                  refine s_callV_i (av := fun ad => [.int (Int32.ofInt (0)), .int (Int32.ofInt (50))]) C dMo_readOre_90 mfMo_readWhole mvMo_readWhole ln_Mo_227 h0 (by decide) rfl hVw13 (frL_le (by decide)) (cMo_readWhole_N hVw13.1 h0 (by have hk1 : Int32.toInt (Int32.ofInt (0)) = 0 := ofI (by decide); have hk2 : Int32.toInt (Int32.ofInt (50)) = 50 := ofI (by decide); omega)) rfl rfl (Nat.le_of_ble_eq_true rfl) ⟨Nat.le_of_ble_eq_true rfl, Nat.le_of_ble_eq_true rfl⟩ ⟨rfl, rfl⟩ ⟨Nat.zero_le _, Nat.zero_le _⟩ (fun Iw15 Jw15 hVw15 hFw15 z_90 p_90 => ?_)
                  have tkw15_F_0 : (Iw15 F 0).toInt = (Iw13 F 0).toInt := by rw [(hFw15 F (by rw [hFk.2]; rfl)).1 0]
                  have tkw15_F_4 : (Iw15 F 4).toInt = (Iw13 F 4).toInt := by rw [(hFw15 F (by rw [hFk.2]; rfl)).1 4]
                  have tkw15_F_8 : (Iw15 F 8).toInt = (Iw13 F 8).toInt := by rw [(hFw15 F (by rw [hFk.2]; rfl)).1 8]
                  have tkw15_F_9 : (Iw15 F 9).toInt = (Iw13 F 9).toInt := by rw [(hFw15 F (by rw [hFk.2]; rfl)).1 9]
                  have tkw15_F_10 : (Iw15 F 10).toInt = (Iw13 F 10).toInt := by rw [(hFw15 F (by rw [hFk.2]; rfl)).1 10]
                  have tkw15_B_0 : (Iw15 B 0).toInt = (Iw13 B 0).toInt := by rw [(hFw15 B (by rw [hBk.2]; rfl)).1 0]
                  have tkw15_B_4 : (Iw15 B 4).toInt = (Iw13 B 4).toInt := by rw [(hFw15 B (by rw [hBk.2]; rfl)).1 4]
                  have tkw15_B_7 : (Iw15 B 7).toInt = (Iw13 B 7).toInt := by rw [(hFw15 B (by rw [hBk.2]; rfl)).1 7]
                  have rz_90 := rg z_90
                  try dsimp only at p_90
                  have hk1_90 : Int32.toInt (Int32.ofInt (0)) = 0 := ofI (by decide)
                  have hk2_90 : Int32.toInt (Int32.ofInt (50)) = 50 := ofI (by decide)
                  rcases p_90 with ⟨p_90 | p_90, pk_90⟩
                  · skip
                    refine g_istore C dMo_readOre_93 (by decide) ?_
                    refine g_iload_n C dMo_readOre_95 rfl ?_
                    refine g_aload_n C dMo_readOre_96 rfl ?_
                    refine gt_getS C dMo_readOre_97 fl_Mo_172 h0 hFo ?_
                    refine g_geti C dMo_readOre_100 fl_Mo_191 hFk ?_
                    have o_100 := hVw15.1.2 F hFk.1 8
                    rw [hFk.2] at o_100
                    have o_100 : 0 ≤ (Iw15 F 8).toInt ∧ (Iw15 F 8).toInt ≤ 5 := o_100
                    refine gt_icmp_lt 113 C dMo_readOre_103 (by decide) rfl rfl (fun c_103 => ?_) (fun c_103 => ?_)
                    · skip
                      refine g_aload_n C dMo_readOre_113 rfl ?_
                      refine g_geti C dMo_readOre_114 fl_Mo_94 h0 ?_
                      refine g_iconst (v := Int32.ofInt (5)) C dMo_readOre_117 (by decide) ?_
                      refine gt_icmp_ne 122 C dMo_readOre_118 (by decide) rfl (ofI (by decide)) (fun c_118 => ?_) (fun c_118 => ?_)
                      · skip
                        exfalso; omega
                      · skip
                        exact s_vret C E dMo_readOre_121 ⟨Nat.zero_le _, Nat.zero_le _⟩ hVw15 (by (try dsimp only); omega)
                    · skip
                      refine g_aload_n C dMo_readOre_106 rfl ?_
                      refine g_iconst (v := Int32.ofInt (5)) C dMo_readOre_107 (by decide) ?_
                      refine g_iload C dMo_readOre_108 rfl ?_
                      refine s_callV_v (av := fun ad => [.int (Int32.ofInt (5)), .int (Iw13 a0 10)]) C dMo_readOre_110 mfMo_wrongHere mvMo_wrongHere ln_Mo_124 h0 (by decide) rfl hVw15 (frL_le (by decide)) (cMo_wrongHere_O hVw15.1 h0 (by have hk1 : Int32.toInt (Int32.ofInt (5)) = 5 := ofI (by decide); omega)) rfl rfl (Nat.le_of_ble_eq_true rfl) ⟨Nat.le_of_ble_eq_true rfl, Nat.le_of_ble_eq_true rfl⟩ ⟨rfl, rfl⟩ ⟨Nat.zero_le _, Nat.zero_le _⟩ (fun Iw16 Jw16 hVw16 hFw16 p_110 => ?_)
                      have tkw16_F_0 : (Iw16 F 0).toInt = (Iw15 F 0).toInt := by rw [(hFw16 F (by rw [hFk.2]; rfl)).1 0]
                      have tkw16_F_4 : (Iw16 F 4).toInt = (Iw15 F 4).toInt := by rw [(hFw16 F (by rw [hFk.2]; rfl)).1 4]
                      have tkw16_F_8 : (Iw16 F 8).toInt = (Iw15 F 8).toInt := by rw [(hFw16 F (by rw [hFk.2]; rfl)).1 8]
                      have tkw16_F_9 : (Iw16 F 9).toInt = (Iw15 F 9).toInt := by rw [(hFw16 F (by rw [hFk.2]; rfl)).1 9]
                      have tkw16_F_10 : (Iw16 F 10).toInt = (Iw15 F 10).toInt := by rw [(hFw16 F (by rw [hFk.2]; rfl)).1 10]
                      have tkw16_B_0 : (Iw16 B 0).toInt = (Iw15 B 0).toInt := by rw [(hFw16 B (by rw [hBk.2]; rfl)).1 0]
                      have tkw16_B_4 : (Iw16 B 4).toInt = (Iw15 B 4).toInt := by rw [(hFw16 B (by rw [hBk.2]; rfl)).1 4]
                      have tkw16_B_7 : (Iw16 B 7).toInt = (Iw15 B 7).toInt := by rw [(hFw16 B (by rw [hBk.2]; rfl)).1 7]
                      try dsimp only at p_110
                      have hk1_110 : Int32.toInt (Int32.ofInt (5)) = 5 := ofI (by decide)
                      refine g_aload_n C dMo_readOre_113 rfl ?_
                      refine g_geti C dMo_readOre_114 fl_Mo_94 h0 ?_
                      refine g_iconst (v := Int32.ofInt (5)) C dMo_readOre_117 (by decide) ?_
                      refine gt_icmp_ne 122 C dMo_readOre_118 (by decide) rfl (ofI (by decide)) (fun c_118 => ?_) (fun c_118 => ?_)
                      · skip
                        exfalso; omega
                      · skip
                        exact s_vret C E dMo_readOre_121 ⟨Nat.zero_le _, Nat.zero_le _⟩ hVw16 (by (try dsimp only); omega)
                  · skip
                    refine g_istore C dMo_readOre_93 (by decide) ?_
                    refine g_iload_n C dMo_readOre_95 rfl ?_
                    refine g_aload_n C dMo_readOre_96 rfl ?_
                    refine gt_getS C dMo_readOre_97 fl_Mo_172 h0 hFo ?_
                    refine g_geti C dMo_readOre_100 fl_Mo_191 hFk ?_
                    have o_100 := hVw15.1.2 F hFk.1 8
                    rw [hFk.2] at o_100
                    have o_100 : 0 ≤ (Iw15 F 8).toInt ∧ (Iw15 F 8).toInt ≤ 5 := o_100
                    refine gt_icmp_lt 113 C dMo_readOre_103 (by decide) rfl rfl (fun c_103 => ?_) (fun c_103 => ?_)
                    · skip
                      refine g_aload_n C dMo_readOre_113 rfl ?_
                      refine g_geti C dMo_readOre_114 fl_Mo_94 h0 ?_
                      refine g_iconst (v := Int32.ofInt (5)) C dMo_readOre_117 (by decide) ?_
                      refine gt_icmp_ne 122 C dMo_readOre_118 (by decide) rfl (ofI (by decide)) (fun c_118 => ?_) (fun c_118 => ?_)
                      · skip
                        refine g_aload_n C dMo_readOre_122 rfl ?_
                        refine gt_getS C dMo_readOre_123 fl_Mo_172 h0 hFo ?_
                        refine gt_getr C dMo_readOre_126 fl_Mo_278 hFk hVw15.1.1 rfl (fun b_126 q_126 hb_126 => ?_)
                        refine g_iconst (v := Int32.ofInt (5)) C dMo_readOre_129 (by decide) ?_
                        refine g_aload_n C dMo_readOre_130 rfl ?_
                        refine gt_getS C dMo_readOre_131 fl_Mo_172 h0 hFo ?_
                        refine g_geti C dMo_readOre_134 fl_Mo_194 hFk ?_
                        have o_134 := hVw15.1.2 F hFk.1 9
                        rw [hFk.2] at o_134
                        have o_134 : 0 ≤ (Iw15 F 9).toInt ∧ (Iw15 F 9).toInt ≤ 4 := o_134
                        first | refine n_imul C dMo_readOre_137 (ofI (by decide)) rfl (by omega) (fun z_137 e_137 => ?_) | refine a_imul C dMo_readOre_137 (fun z_137 => ?_)
                        refine g_iload_n C dMo_readOre_138 rfl ?_
                        first | refine n_iadd C dMo_readOre_139 rfl rfl (by omega) (fun z_139 e_139 => ?_) | refine a_iadd C dMo_readOre_139 (fun z_139 => ?_)
                        refine g_iload C dMo_readOre_140 rfl ?_
                        refine gt_iast C dMo_readOre_142 hb_126 (by decide) rfl rfl (n := 20) rfl (by omega) hVw15 rfl trivial (fun Iw17 eIw17 hVw17 => ?_)
                        have tkw17_a0_8 : (Iw17 a0 8).toInt = (Iw15 a0 8).toInt := by rw [eIw17, up2_ne _ _ (fun z => by have q := h0.2; rw [z.1, hb_126.2] at q; exact absurd q (by decide))]
                        have tkw17_a0_9 : (Iw17 a0 9).toInt = (Iw15 a0 9).toInt := by rw [eIw17, up2_ne _ _ (fun z => by have q := h0.2; rw [z.1, hb_126.2] at q; exact absurd q (by decide))]
                        have tkw17_a0_13 : (Iw17 a0 13).toInt = (Iw15 a0 13).toInt := by rw [eIw17, up2_ne _ _ (fun z => by have q := h0.2; rw [z.1, hb_126.2] at q; exact absurd q (by decide))]
                        have tkw17_F_0 : (Iw17 F 0).toInt = (Iw15 F 0).toInt := by rw [eIw17, up2_ne _ _ (fun z => by have q := hFk.2; rw [z.1, hb_126.2] at q; exact absurd q (by decide))]
                        have tkw17_F_4 : (Iw17 F 4).toInt = (Iw15 F 4).toInt := by rw [eIw17, up2_ne _ _ (fun z => by have q := hFk.2; rw [z.1, hb_126.2] at q; exact absurd q (by decide))]
                        have tkw17_F_8 : (Iw17 F 8).toInt = (Iw15 F 8).toInt := by rw [eIw17, up2_ne _ _ (fun z => by have q := hFk.2; rw [z.1, hb_126.2] at q; exact absurd q (by decide))]
                        have tkw17_F_9 : (Iw17 F 9).toInt = (Iw15 F 9).toInt := by rw [eIw17, up2_ne _ _ (fun z => by have q := hFk.2; rw [z.1, hb_126.2] at q; exact absurd q (by decide))]
                        have tkw17_F_10 : (Iw17 F 10).toInt = (Iw15 F 10).toInt := by rw [eIw17, up2_ne _ _ (fun z => by have q := hFk.2; rw [z.1, hb_126.2] at q; exact absurd q (by decide))]
                        have tkw17_a0_6 : (Iw17 a0 6).toInt = (Iw15 a0 6).toInt := by rw [eIw17, up2_ne _ _ (fun z => by have q := h0.2; rw [z.1, hb_126.2] at q; exact absurd q (by decide))]
                        have tkw17_a0_7 : (Iw17 a0 7).toInt = (Iw15 a0 7).toInt := by rw [eIw17, up2_ne _ _ (fun z => by have q := h0.2; rw [z.1, hb_126.2] at q; exact absurd q (by decide))]
                        have tkw17_a0_18 : (Iw17 a0 18).toInt = (Iw15 a0 18).toInt := by rw [eIw17, up2_ne _ _ (fun z => by have q := h0.2; rw [z.1, hb_126.2] at q; exact absurd q (by decide))]
                        have tkw17_B_0 : (Iw17 B 0).toInt = (Iw15 B 0).toInt := by rw [eIw17, up2_ne _ _ (fun z => by have q := hBk.2; rw [z.1, hb_126.2] at q; exact absurd q (by decide))]
                        have tkw17_B_4 : (Iw17 B 4).toInt = (Iw15 B 4).toInt := by rw [eIw17, up2_ne _ _ (fun z => by have q := hBk.2; rw [z.1, hb_126.2] at q; exact absurd q (by decide))]
                        have tkw17_B_7 : (Iw17 B 7).toInt = (Iw15 B 7).toInt := by rw [eIw17, up2_ne _ _ (fun z => by have q := hBk.2; rw [z.1, hb_126.2] at q; exact absurd q (by decide))]
                        refine g_aload_n C dMo_readOre_143 rfl ?_
                        refine g_bipush (v := Int32.ofInt (44)) C dMo_readOre_144 (by decide) ?_
                        refine s_callV_zp (av := fun ad => [.int (Int32.ofInt (44))]) C dMo_readOre_146 mfMo_is mvMo_is ln_Mo_169 h0 (by decide) rfl (cMo_is hVw17.1 h0 (by have hk1 : Int32.toInt (Int32.ofInt (44)) = 44 := ofI (by decide); omega)) rfl rfl (Nat.le_of_ble_eq_true rfl) ⟨Nat.le_of_ble_eq_true rfl, Nat.le_of_ble_eq_true rfl⟩ ⟨rfl, rfl⟩ ⟨Nat.zero_le _, Nat.zero_le _⟩ (fun z_146 b_146 p_146 => ?_)
                        have rz_146 := rg z_146
                        have u_146 := b_146
                        unfold B01 at u_146
                        try dsimp only at p_146
                        have hk1_146 : Int32.toInt (Int32.ofInt (44)) = 44 := ofI (by decide)
                        refine g_istore_n (i := 2) C dMo_readOre_149 rfl (by decide) ?_
                        refine g_iload_n C dMo_readOre_150 rfl ?_
                        refine gt_if_eq 158 C dMo_readOre_151 (by decide) rfl (fun c_151 => ?_) (fun c_151 => ?_)
                        · skip
                          first | refine n_iinc C dMo_readOre_158 rfl rfl (by decide) (by decide) (by omega) (fun z_158 e_158 => ?_) | refine a_iinc C dMo_readOre_158 rfl (by decide) (fun z_158 => ?_)
                          refine g_goto 76 C dMo_readOre_161 (by decide) ?_
                          exact g_sub (ih_76 _ (by omega) z_146 z_158 Iw17 Jw15 rfl (by omega) (by omega) (by omega) (by omega) (by omega) (by omega) (by omega) (by omega) (by omega) (by omega) (by omega) (by omega) (by omega) hVw17) ⟨rfl, rfl, rfl, rfl, trivial⟩
                        · skip
                          refine g_aload_n C dMo_readOre_154 rfl ?_
                          refine s_callV_v (av := fun ad => []) C dMo_readOre_155 mfMo_next mvMo_next ln_Mo_146 h0 (by decide) rfl hVw17 (frL_le (by decide)) (cMo_next_N hVw17.1 h0 (by omega)) rfl rfl (Nat.le_of_ble_eq_true rfl) ⟨Nat.le_of_ble_eq_true rfl, Nat.le_of_ble_eq_true rfl⟩ ⟨rfl, rfl⟩ ⟨Nat.zero_le _, Nat.zero_le _⟩ (fun Iw19 Jw19 hVw19 hFw19 p_155 => ?_)
                          have tkw19_F_0 : (Iw19 F 0).toInt = (Iw17 F 0).toInt := by rw [(hFw19 F (by rw [hFk.2]; rfl)).1 0]
                          have tkw19_F_4 : (Iw19 F 4).toInt = (Iw17 F 4).toInt := by rw [(hFw19 F (by rw [hFk.2]; rfl)).1 4]
                          have tkw19_F_8 : (Iw19 F 8).toInt = (Iw17 F 8).toInt := by rw [(hFw19 F (by rw [hFk.2]; rfl)).1 8]
                          have tkw19_F_9 : (Iw19 F 9).toInt = (Iw17 F 9).toInt := by rw [(hFw19 F (by rw [hFk.2]; rfl)).1 9]
                          have tkw19_F_10 : (Iw19 F 10).toInt = (Iw17 F 10).toInt := by rw [(hFw19 F (by rw [hFk.2]; rfl)).1 10]
                          have tkw19_B_0 : (Iw19 B 0).toInt = (Iw17 B 0).toInt := by rw [(hFw19 B (by rw [hBk.2]; rfl)).1 0]
                          have tkw19_B_4 : (Iw19 B 4).toInt = (Iw17 B 4).toInt := by rw [(hFw19 B (by rw [hBk.2]; rfl)).1 4]
                          have tkw19_B_7 : (Iw19 B 7).toInt = (Iw17 B 7).toInt := by rw [(hFw19 B (by rw [hBk.2]; rfl)).1 7]
                          try dsimp only at p_155
                          first | refine n_iinc C dMo_readOre_158 rfl rfl (by decide) (by decide) (by omega) (fun z_158 e_158 => ?_) | refine a_iinc C dMo_readOre_158 rfl (by decide) (fun z_158 => ?_)
                          refine g_goto 76 C dMo_readOre_161 (by decide) ?_
                          exact g_sub (ih_76 _ (by omega) z_146 z_158 Iw19 Jw19 rfl (by omega) (by omega) (by omega) (by omega) (by omega) (by omega) (by omega) (by omega) (by omega) (by omega) (by omega) (by omega) (by omega) hVw19) ⟨rfl, rfl, rfl, rfl, trivial⟩
                      · skip
                        exfalso; omega
                    · skip
                      refine g_aload_n C dMo_readOre_106 rfl ?_
                      refine g_iconst (v := Int32.ofInt (5)) C dMo_readOre_107 (by decide) ?_
                      refine g_iload C dMo_readOre_108 rfl ?_
                      refine s_callV_v (av := fun ad => [.int (Int32.ofInt (5)), .int (Iw13 a0 10)]) C dMo_readOre_110 mfMo_wrongHere mvMo_wrongHere ln_Mo_124 h0 (by decide) rfl hVw15 (frL_le (by decide)) (cMo_wrongHere_N hVw15.1 h0 (by have hk1 : Int32.toInt (Int32.ofInt (5)) = 5 := ofI (by decide); omega) (by have hk1 : Int32.toInt (Int32.ofInt (5)) = 5 := ofI (by decide); omega)) rfl rfl (Nat.le_of_ble_eq_true rfl) ⟨Nat.le_of_ble_eq_true rfl, Nat.le_of_ble_eq_true rfl⟩ ⟨rfl, rfl⟩ ⟨Nat.zero_le _, Nat.zero_le _⟩ (fun Iw20 Jw20 hVw20 hFw20 p_110 => ?_)
                      have tkw20_F_0 : (Iw20 F 0).toInt = (Iw15 F 0).toInt := by rw [(hFw20 F (by rw [hFk.2]; rfl)).1 0]
                      have tkw20_F_4 : (Iw20 F 4).toInt = (Iw15 F 4).toInt := by rw [(hFw20 F (by rw [hFk.2]; rfl)).1 4]
                      have tkw20_F_8 : (Iw20 F 8).toInt = (Iw15 F 8).toInt := by rw [(hFw20 F (by rw [hFk.2]; rfl)).1 8]
                      have tkw20_F_9 : (Iw20 F 9).toInt = (Iw15 F 9).toInt := by rw [(hFw20 F (by rw [hFk.2]; rfl)).1 9]
                      have tkw20_F_10 : (Iw20 F 10).toInt = (Iw15 F 10).toInt := by rw [(hFw20 F (by rw [hFk.2]; rfl)).1 10]
                      have tkw20_B_0 : (Iw20 B 0).toInt = (Iw15 B 0).toInt := by rw [(hFw20 B (by rw [hBk.2]; rfl)).1 0]
                      have tkw20_B_4 : (Iw20 B 4).toInt = (Iw15 B 4).toInt := by rw [(hFw20 B (by rw [hBk.2]; rfl)).1 4]
                      have tkw20_B_7 : (Iw20 B 7).toInt = (Iw15 B 7).toInt := by rw [(hFw20 B (by rw [hBk.2]; rfl)).1 7]
                      try dsimp only at p_110
                      have hk1_110 : Int32.toInt (Int32.ofInt (5)) = 5 := ofI (by decide)
                      refine g_aload_n C dMo_readOre_113 rfl ?_
                      refine g_geti C dMo_readOre_114 fl_Mo_94 h0 ?_
                      refine g_iconst (v := Int32.ofInt (5)) C dMo_readOre_117 (by decide) ?_
                      refine gt_icmp_ne 122 C dMo_readOre_118 (by decide) rfl (ofI (by decide)) (fun c_118 => ?_) (fun c_118 => ?_)
                      · skip
                        exfalso; omega
                      · skip
                        exact s_vret C E dMo_readOre_121 ⟨Nat.zero_le _, Nat.zero_le _⟩ hVw20 (by (try dsimp only); omega)
              exact g_sub (lp_76 _ (Int32.ofInt (1)) (Int32.ofInt (0)) Iw12 Jw11 rfl (by omega) (by omega) (by omega) (by have hci : Int32.toInt (Int32.ofInt (0)) = 0 := ofI (by decide); omega) (by omega) (by omega) (by omega) (by omega) (by omega) (by omega) (by omega) (by omega) (by omega) hVw12) ⟨rfl, rfl, rfl, rfl, trivial⟩
            · skip
              exfalso; omega
  · skip
    refine g_aload_n C dMo_readOre_11 rfl ?_
    refine g_iconst (v := Int32.ofInt (5)) C dMo_readOre_12 (by decide) ?_
    refine s_callV_v (av := fun ad => [.int (Int32.ofInt (5))]) C dMo_readOre_13 mfMo_wrong mvMo_wrong ln_Mo_142 h0 (by decide) rfl hV0 (frL_le (by decide)) (cMo_wrong_N hV0.1 h0 (by have hk1 : Int32.toInt (Int32.ofInt (5)) = 5 := ofI (by decide); omega) (by have hk1 : Int32.toInt (Int32.ofInt (5)) = 5 := ofI (by decide); omega)) rfl rfl (Nat.le_of_ble_eq_true rfl) ⟨Nat.le_of_ble_eq_true rfl, Nat.le_of_ble_eq_true rfl⟩ ⟨rfl, rfl⟩ ⟨Nat.zero_le _, Nat.zero_le _⟩ (fun Iw21 Jw21 hVw21 hFw21 p_13 => ?_)
    have tkw21_F_0 : (Iw21 F 0).toInt = (I0 F 0).toInt := by rw [(hFw21 F (by rw [hFk.2]; rfl)).1 0]
    have tkw21_F_4 : (Iw21 F 4).toInt = (I0 F 4).toInt := by rw [(hFw21 F (by rw [hFk.2]; rfl)).1 4]
    have tkw21_F_8 : (Iw21 F 8).toInt = (I0 F 8).toInt := by rw [(hFw21 F (by rw [hFk.2]; rfl)).1 8]
    have tkw21_F_9 : (Iw21 F 9).toInt = (I0 F 9).toInt := by rw [(hFw21 F (by rw [hFk.2]; rfl)).1 9]
    have tkw21_F_10 : (Iw21 F 10).toInt = (I0 F 10).toInt := by rw [(hFw21 F (by rw [hFk.2]; rfl)).1 10]
    have tkw21_B_0 : (Iw21 B 0).toInt = (I0 B 0).toInt := by rw [(hFw21 B (by rw [hBk.2]; rfl)).1 0]
    have tkw21_B_4 : (Iw21 B 4).toInt = (I0 B 4).toInt := by rw [(hFw21 B (by rw [hBk.2]; rfl)).1 4]
    have tkw21_B_7 : (Iw21 B 7).toInt = (I0 B 7).toInt := by rw [(hFw21 B (by rw [hBk.2]; rfl)).1 7]
    try dsimp only at p_13
    have hk1_13 : Int32.toInt (Int32.ofInt (5)) = 5 := ofI (by decide)
    refine g_aload_n C dMo_readOre_16 rfl ?_
    refine s_callV_v (av := fun ad => []) C dMo_readOre_17 mfMo_next mvMo_next ln_Mo_146 h0 (by decide) rfl hVw21 (frL_le (by decide)) (cMo_next_O hVw21.1 h0 (by omega)) rfl rfl (Nat.le_of_ble_eq_true rfl) ⟨Nat.le_of_ble_eq_true rfl, Nat.le_of_ble_eq_true rfl⟩ ⟨rfl, rfl⟩ ⟨Nat.zero_le _, Nat.zero_le _⟩ (fun Iw22 Jw22 hVw22 hFw22 p_17 => ?_)
    have tkw22_F_0 : (Iw22 F 0).toInt = (Iw21 F 0).toInt := by rw [(hFw22 F (by rw [hFk.2]; rfl)).1 0]
    have tkw22_F_4 : (Iw22 F 4).toInt = (Iw21 F 4).toInt := by rw [(hFw22 F (by rw [hFk.2]; rfl)).1 4]
    have tkw22_F_8 : (Iw22 F 8).toInt = (Iw21 F 8).toInt := by rw [(hFw22 F (by rw [hFk.2]; rfl)).1 8]
    have tkw22_F_9 : (Iw22 F 9).toInt = (Iw21 F 9).toInt := by rw [(hFw22 F (by rw [hFk.2]; rfl)).1 9]
    have tkw22_F_10 : (Iw22 F 10).toInt = (Iw21 F 10).toInt := by rw [(hFw22 F (by rw [hFk.2]; rfl)).1 10]
    have tkw22_B_0 : (Iw22 B 0).toInt = (Iw21 B 0).toInt := by rw [(hFw22 B (by rw [hBk.2]; rfl)).1 0]
    have tkw22_B_4 : (Iw22 B 4).toInt = (Iw21 B 4).toInt := by rw [(hFw22 B (by rw [hBk.2]; rfl)).1 4]
    have tkw22_B_7 : (Iw22 B 7).toInt = (Iw21 B 7).toInt := by rw [(hFw22 B (by rw [hBk.2]; rfl)).1 7]
    try dsimp only at p_17
    refine g_aload_n C dMo_readOre_20 rfl ?_
    refine g_iconst (v := Int32.ofInt (-1)) C dMo_readOre_21 (by decide) ?_
    refine s_callV_v (av := fun ad => [.int (Int32.ofInt (-1))]) C dMo_readOre_22 mfMo_readFresh mvMo_readFresh ln_Mo_262 h0 (by decide) rfl hVw22 (frL_le (by decide)) (cMo_readFresh_O_F hVw22.1 h0 hFo hFk hBk hBF (by have hk1 : Int32.toInt (Int32.ofInt (-1)) = -1 := ofI (by decide); omega)) rfl rfl (Nat.le_of_ble_eq_true rfl) ⟨Nat.le_of_ble_eq_true rfl, Nat.le_of_ble_eq_true rfl⟩ ⟨rfl, rfl⟩ ⟨Nat.zero_le _, Nat.zero_le _⟩ (fun Iw23 Jw23 hVw23 hFw23 p_22 => ?_)
    try dsimp only at p_22
    have hk1_22 : Int32.toInt (Int32.ofInt (-1)) = -1 := ofI (by decide)
    refine g_aload_n C dMo_readOre_25 rfl ?_
    refine g_ldcwS 29 C dMo_readOre_26 rfl ?_
    refine s_callV_v (av := fun ad => [.ref (ad.1 29)]) C dMo_readOre_29 mfMo_needWord mvMo_needWord ln_Mo_223 h0 (by decide) rfl hVw23 (frL_le (by decide)) (cMo_needWord_O hVw23.1 h0 (by decide) (by omega)) rfl rfl (Nat.le_of_ble_eq_true rfl) ⟨Nat.le_of_ble_eq_true rfl, Nat.le_of_ble_eq_true rfl⟩ ⟨rfl, rfl⟩ ⟨Nat.zero_le _, Nat.zero_le _⟩ (fun Iw24 Jw24 hVw24 hFw24 p_29 => ?_)
    have tkw24_F_0 : (Iw24 F 0).toInt = (Iw23 F 0).toInt := by rw [(hFw24 F (by rw [hFk.2]; rfl)).1 0]
    have tkw24_F_4 : (Iw24 F 4).toInt = (Iw23 F 4).toInt := by rw [(hFw24 F (by rw [hFk.2]; rfl)).1 4]
    have tkw24_F_8 : (Iw24 F 8).toInt = (Iw23 F 8).toInt := by rw [(hFw24 F (by rw [hFk.2]; rfl)).1 8]
    have tkw24_F_9 : (Iw24 F 9).toInt = (Iw23 F 9).toInt := by rw [(hFw24 F (by rw [hFk.2]; rfl)).1 9]
    have tkw24_F_10 : (Iw24 F 10).toInt = (Iw23 F 10).toInt := by rw [(hFw24 F (by rw [hFk.2]; rfl)).1 10]
    have tkw24_B_0 : (Iw24 B 0).toInt = (Iw23 B 0).toInt := by rw [(hFw24 B (by rw [hBk.2]; rfl)).1 0]
    have tkw24_B_4 : (Iw24 B 4).toInt = (Iw23 B 4).toInt := by rw [(hFw24 B (by rw [hBk.2]; rfl)).1 4]
    have tkw24_B_7 : (Iw24 B 7).toInt = (Iw23 B 7).toInt := by rw [(hFw24 B (by rw [hBk.2]; rfl)).1 7]
    try dsimp only at p_29
    refine g_aload_n C dMo_readOre_32 rfl ?_
    refine g_iconst (v := Int32.ofInt (1)) C dMo_readOre_33 (by decide) ?_
    refine g_bipush (v := Int32.ofInt (9)) C dMo_readOre_34 (by decide) ?_
    refine s_callV_i (av := fun ad => [.int (Int32.ofInt (1)), .int (Int32.ofInt (9))]) C dMo_readOre_36 mfMo_readWhole mvMo_readWhole ln_Mo_227 h0 (by decide) rfl hVw24 (frL_le (by decide)) (cMo_readWhole_O hVw24.1 h0 (by have hk1 : Int32.toInt (Int32.ofInt (1)) = 1 := ofI (by decide); have hk2 : Int32.toInt (Int32.ofInt (9)) = 9 := ofI (by decide); omega)) rfl rfl (Nat.le_of_ble_eq_true rfl) ⟨Nat.le_of_ble_eq_true rfl, Nat.le_of_ble_eq_true rfl⟩ ⟨rfl, rfl⟩ ⟨Nat.zero_le _, Nat.zero_le _⟩ (fun Iw25 Jw25 hVw25 hFw25 z_36 p_36 => ?_)
    have tkw25_F_0 : (Iw25 F 0).toInt = (Iw24 F 0).toInt := by rw [(hFw25 F (by rw [hFk.2]; rfl)).1 0]
    have tkw25_F_4 : (Iw25 F 4).toInt = (Iw24 F 4).toInt := by rw [(hFw25 F (by rw [hFk.2]; rfl)).1 4]
    have tkw25_F_8 : (Iw25 F 8).toInt = (Iw24 F 8).toInt := by rw [(hFw25 F (by rw [hFk.2]; rfl)).1 8]
    have tkw25_F_9 : (Iw25 F 9).toInt = (Iw24 F 9).toInt := by rw [(hFw25 F (by rw [hFk.2]; rfl)).1 9]
    have tkw25_F_10 : (Iw25 F 10).toInt = (Iw24 F 10).toInt := by rw [(hFw25 F (by rw [hFk.2]; rfl)).1 10]
    have tkw25_B_0 : (Iw25 B 0).toInt = (Iw24 B 0).toInt := by rw [(hFw25 B (by rw [hBk.2]; rfl)).1 0]
    have tkw25_B_4 : (Iw25 B 4).toInt = (Iw24 B 4).toInt := by rw [(hFw25 B (by rw [hBk.2]; rfl)).1 4]
    have tkw25_B_7 : (Iw25 B 7).toInt = (Iw24 B 7).toInt := by rw [(hFw25 B (by rw [hBk.2]; rfl)).1 7]
    have rz_36 := rg z_36
    try dsimp only at p_36
    have hk1_36 : Int32.toInt (Int32.ofInt (1)) = 1 := ofI (by decide)
    have hk2_36 : Int32.toInt (Int32.ofInt (9)) = 9 := ofI (by decide)
    refine g_istore_n (i := 1) C dMo_readOre_39 rfl (by decide) ?_
    refine g_aload_n C dMo_readOre_40 rfl ?_
    refine g_ldcwS 30 C dMo_readOre_41 rfl ?_
    refine s_callV_v (av := fun ad => [.ref (ad.1 30)]) C dMo_readOre_44 mfMo_needWord mvMo_needWord ln_Mo_223 h0 (by decide) rfl hVw25 (frL_le (by decide)) (cMo_needWord_O hVw25.1 h0 (by decide) (by omega)) rfl rfl (Nat.le_of_ble_eq_true rfl) ⟨Nat.le_of_ble_eq_true rfl, Nat.le_of_ble_eq_true rfl⟩ ⟨rfl, rfl⟩ ⟨Nat.zero_le _, Nat.zero_le _⟩ (fun Iw26 Jw26 hVw26 hFw26 p_44 => ?_)
    have tkw26_F_0 : (Iw26 F 0).toInt = (Iw25 F 0).toInt := by rw [(hFw26 F (by rw [hFk.2]; rfl)).1 0]
    have tkw26_F_4 : (Iw26 F 4).toInt = (Iw25 F 4).toInt := by rw [(hFw26 F (by rw [hFk.2]; rfl)).1 4]
    have tkw26_F_8 : (Iw26 F 8).toInt = (Iw25 F 8).toInt := by rw [(hFw26 F (by rw [hFk.2]; rfl)).1 8]
    have tkw26_F_9 : (Iw26 F 9).toInt = (Iw25 F 9).toInt := by rw [(hFw26 F (by rw [hFk.2]; rfl)).1 9]
    have tkw26_F_10 : (Iw26 F 10).toInt = (Iw25 F 10).toInt := by rw [(hFw26 F (by rw [hFk.2]; rfl)).1 10]
    have tkw26_B_0 : (Iw26 B 0).toInt = (Iw25 B 0).toInt := by rw [(hFw26 B (by rw [hBk.2]; rfl)).1 0]
    have tkw26_B_4 : (Iw26 B 4).toInt = (Iw25 B 4).toInt := by rw [(hFw26 B (by rw [hBk.2]; rfl)).1 4]
    have tkw26_B_7 : (Iw26 B 7).toInt = (Iw25 B 7).toInt := by rw [(hFw26 B (by rw [hBk.2]; rfl)).1 7]
    try dsimp only at p_44
    refine g_aload_n C dMo_readOre_47 rfl ?_
    refine g_geti C dMo_readOre_48 fl_Mo_94 h0 ?_
    refine g_iconst (v := Int32.ofInt (5)) C dMo_readOre_51 (by decide) ?_
    refine gt_icmp_ne 56 C dMo_readOre_52 (by decide) rfl (ofI (by decide)) (fun c_52 => ?_) (fun c_52 => ?_)
    · skip
      exfalso; omega
    · skip
      exact s_vret C E dMo_readOre_55 ⟨Nat.zero_le _, Nat.zero_le _⟩ hVw26 (by (try dsimp only); omega)
