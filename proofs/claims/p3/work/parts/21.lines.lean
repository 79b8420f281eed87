set_option maxHeartbeats 4000000 in
set_option maxRecDepth 100000 in
theorem cMo_readDrum_N_F {P : List Nat} {K : Nat → Nat} {I0 : Nat → Nat → Int32} {O : Nat → Nat → Option Nat} {J0 : Nat → Nat → Int64} (hV : IV P K I0 O) {a0 : Nat} (h0 : a0 ∈ P ∧ K a0 = 10) {F B : Nat} (hFo : O a0 4 = some F) (hFk : F ∈ P ∧ K F = 9) (hBk : True ∧ K B = 9) (hBF : B ≠ F) (pr0 : 0 ≤ Int32.toInt (I0 a0 9) ∧ Int32.toInt (I0 a0 9) ≤ 4 ∧ Int32.toInt (I0 a0 13) = 0 ∧ (Int32.toInt (I0 F 0) = -1 ∨ 1 ≤ Int32.toInt (I0 F 0)) ∧ (Int32.toInt (I0 F 4) = -1 ∨ 1 ≤ Int32.toInt (I0 F 4)) ∧ Int32.toInt (I0 F 10) = Int32.toInt (I0 F 8) + Int32.toInt (I0 F 9) + 0) : Con yMo_readDrum bMo_readDrum 1 none ({ frames := 7, cells := 0, slots := 0, locals := 150 } : Room) P K I0 O J0 [.ref a0] (SPo frQ 0 (fun _ I_ => ((Int32.toInt (I_ a0 9) = 5 ∧ 1 ≤ Int32.toInt (I_ a0 13) ∧ Int32.toInt (I0 a0 8) ≤ Int32.toInt (I_ a0 8)) ∨ (0 ≤ Int32.toInt (I_ a0 9) ∧ Int32.toInt (I_ a0 9) ≤ 4 ∧ Int32.toInt (I_ a0 13) = 0 ∧ Int32.toInt (I0 a0 8) ≤ Int32.toInt (I_ a0 8) ∧ Int32.toInt (I0 a0 8) + Int32.toInt (I_ a0 9) ≤ Int32.toInt (I_ a0 8) + 3 ∧ (Int32.toInt (I_ F 0) = -1 ∨ 1 ≤ Int32.toInt (I_ F 0)) ∧ (Int32.toInt (I_ F 4) = -1 ∨ 1 ≤ Int32.toInt (I_ F 4)) ∧ Int32.toInt (I_ F 10) = Int32.toInt (I_ F 8) + Int32.toInt (I_ F 9) + 0)) ∧ (I_ a0 6).toInt = (I0 a0 6).toInt ∧ (I_ a0 7).toInt = (I0 a0 7).toInt ∧ (I_ a0 18).toInt = (I0 a0 18).toInt ∧ (I_ B 0).toInt = (I0 B 0).toInt ∧ (I_ B 4).toInt = (I0 B 4).toInt ∧ (I_ B 7).toInt = (I0 B 7).toInt ∧ (I_ F 4).toInt = (I0 F 4).toInt ∧ (I_ F 7).toInt = (I0 F 7).toInt ∧ (I_ F 8).toInt = (I0 F 8).toInt ∧ (I_ F 9).toInt = (I0 F 9).toInt ∧ (I_ F 10).toInt = (I0 F 10).toInt) P K I0 O J0) := by
  refine Con.ofG mfMo_readDrum (Nat.le_of_ble_eq_true rfl) ?_
  intro X C E
  have ok_a0_7 := hV.2 a0 h0.1 7
  rw [h0.2] at ok_a0_7
  have ok_a0_7 : 0 ≤ (I0 a0 7).toInt ∧ (I0 a0 7).toInt ≤ 700 := ok_a0_7
  have ok_a0_8 := hV.2 a0 h0.1 8
  rw [h0.2] at ok_a0_8
  have ok_a0_8 : 0 ≤ (I0 a0 8).toInt ∧ (I0 a0 8).toInt ≤ 700 := ok_a0_8
  have ok_F_7 := hV.2 F hFk.1 7
  rw [hFk.2] at ok_F_7
  have ok_F_7 : 0 ≤ (I0 F 7).toInt ∧ (I0 F 7).toInt ≤ 6 := ok_F_7
  have ok_F_8 := hV.2 F hFk.1 8
  rw [hFk.2] at ok_F_8
  have ok_F_8 : 0 ≤ (I0 F 8).toInt ∧ (I0 F 8).toInt ≤ 5 := ok_F_8
  have ok_F_9 := hV.2 F hFk.1 9
  rw [hFk.2] at ok_F_9
  have ok_F_9 : 0 ≤ (I0 F 9).toInt ∧ (I0 F 9).toInt ≤ 4 := ok_F_9
  have ok_F_10 := hV.2 F hFk.1 10
  rw [hFk.2] at ok_F_10
  have ok_F_10 : 0 ≤ (I0 F 10).toInt ∧ (I0 F 10).toInt ≤ 9 := ok_F_10
  have hV0 : SV frQ P K O I0 J0 I0 J0 := SV.rf hV
  refine g_aload_n C dMo_readDrum_0 rfl ?_
  refine g_aload_n C dMo_readDrum_1 rfl ?_
  refine gt_getS C dMo_readDrum_2 fl_Mo_172 h0 hFo ?_
  refine g_geti C dMo_readDrum_5 fl_Mo_176 hFk ?_
  refine g_iconst (v := Int32.ofInt (-1)) C dMo_readDrum_8 (by decide) ?_
  have jn_17 : ∀  (s0_17 : Int32), (Int32.toInt (I0 a0 6) = Int32.toInt (I0 a0 6)) → (Int32.toInt (I0 a0 7) = Int32.toInt (I0 a0 7)) → (Int32.toInt (I0 a0 18) = Int32.toInt (I0 a0 18)) → (Int32.toInt (I0 B 0) = Int32.toInt (I0 B 0)) → (Int32.toInt (I0 B 4) = Int32.toInt (I0 B 4)) → (Int32.toInt (I0 B 7) = Int32.toInt (I0 B 7)) → (Int32.toInt (I0 F 4) = Int32.toInt (I0 F 4)) → (Int32.toInt (I0 F 7) = Int32.toInt (I0 F 7)) → (Int32.toInt (I0 F 8) = Int32.toInt (I0 F 8)) → (Int32.toInt (I0 F 9) = Int32.toInt (I0 F 9)) → (Int32.toInt (I0 F 10) = Int32.toInt (I0 F 10)) → GG X 1 P K I0 O J0 0 0 17 [(0, .ref a0)] [.int s0_17, .ref a0] := by
    intro s0_17 jv0_17 jv1_17 jv2_17 jv3_17 jv4_17 jv5_17 jv6_17 jv7_17 jv8_17 jv9_17 jv10_17
    refine s_callV_v (av := fun ad => [.int s0_17]) C dMo_readDrum_17 mfMo_once mvMo_once ln_Mo_218 h0 (by decide) rfl hV0 (frL_le (by decide)) (cMo_once_N hV0.1 h0 (by omega)) rfl rfl (Nat.le_of_ble_eq_true rfl) ⟨Nat.le_of_ble_eq_true rfl, Nat.le_of_ble_eq_true rfl⟩ ⟨rfl, rfl⟩ ⟨Nat.zero_le _, Nat.zero_le _⟩ (fun Iw2 Jw2 hVw2 hFw2 p_17 => ?_)
    have tkw2_F_0 : (Iw2 F 0).toInt = (I0 F 0).toInt := by rw [(hFw2 F (by rw [hFk.2]; rfl)).1 0]
    have tkw2_F_4 : (Iw2 F 4).toInt = (I0 F 4).toInt := by rw [(hFw2 F (by rw [hFk.2]; rfl)).1 4]
    have tkw2_F_8 : (Iw2 F 8).toInt = (I0 F 8).toInt := by rw [(hFw2 F (by rw [hFk.2]; rfl)).1 8]
    have tkw2_F_9 : (Iw2 F 9).toInt = (I0 F 9).toInt := by rw [(hFw2 F (by rw [hFk.2]; rfl)).1 9]
    have tkw2_F_10 : (Iw2 F 10).toInt = (I0 F 10).toInt := by rw [(hFw2 F (by rw [hFk.2]; rfl)).1 10]
    have tkw2_B_0 : (Iw2 B 0).toInt = (I0 B 0).toInt := by rw [(hFw2 B (by rw [hBk.2]; rfl)).1 0]
    have tkw2_B_4 : (Iw2 B 4).toInt = (I0 B 4).toInt := by rw [(hFw2 B (by rw [hBk.2]; rfl)).1 4]
    have tkw2_B_7 : (Iw2 B 7).toInt = (I0 B 7).toInt := by rw [(hFw2 B (by rw [hBk.2]; rfl)).1 7]
    have tkw2_F_7 : (Iw2 F 7).toInt = (I0 F 7).toInt := by rw [(hFw2 F (by rw [hFk.2]; rfl)).1 7]
    try dsimp only at p_17
    rcases p_17 with ⟨p_17 | p_17, pk_17⟩
    · skip
      refine g_aload_n C dMo_readDrum_20 rfl ?_
      refine g_ldcS 17 C dMo_readDrum_21 rfl ?_
      refine s_callV_v (av := fun ad => [.ref (ad.1 17)]) C dMo_readDrum_23 mfMo_needWord mvMo_needWord ln_Mo_223 h0 (by decide) rfl hVw2 (frL_le (by decide)) (cMo_needWord_O hVw2.1 h0 (by decide) (by omega)) rfl rfl (Nat.le_of_ble_eq_true rfl) ⟨Nat.le_of_ble_eq_true rfl, Nat.le_of_ble_eq_true rfl⟩ ⟨rfl, rfl⟩ ⟨Nat.zero_le _, Nat.zero_le _⟩ (fun Iw3 Jw3 hVw3 hFw3 p_23 => ?_)
      have tkw3_F_0 : (Iw3 F 0).toInt = (Iw2 F 0).toInt := by rw [(hFw3 F (by rw [hFk.2]; rfl)).1 0]
      have tkw3_F_4 : (Iw3 F 4).toInt = (Iw2 F 4).toInt := by rw [(hFw3 F (by rw [hFk.2]; rfl)).1 4]
      have tkw3_F_8 : (Iw3 F 8).toInt = (Iw2 F 8).toInt := by rw [(hFw3 F (by rw [hFk.2]; rfl)).1 8]
      have tkw3_F_9 : (Iw3 F 9).toInt = (Iw2 F 9).toInt := by rw [(hFw3 F (by rw [hFk.2]; rfl)).1 9]
      have tkw3_F_10 : (Iw3 F 10).toInt = (Iw2 F 10).toInt := by rw [(hFw3 F (by rw [hFk.2]; rfl)).1 10]
      have tkw3_B_0 : (Iw3 B 0).toInt = (Iw2 B 0).toInt := by rw [(hFw3 B (by rw [hBk.2]; rfl)).1 0]
      have tkw3_B_4 : (Iw3 B 4).toInt = (Iw2 B 4).toInt := by rw [(hFw3 B (by rw [hBk.2]; rfl)).1 4]
      have tkw3_B_7 : (Iw3 B 7).toInt = (Iw2 B 7).toInt := by rw [(hFw3 B (by rw [hBk.2]; rfl)).1 7]
      have tkw3_F_7 : (Iw3 F 7).toInt = (Iw2 F 7).toInt := by rw [(hFw3 F (by rw [hFk.2]; rfl)).1 7]
      try dsimp only at p_23
      refine g_aload_n C dMo_readDrum_26 rfl ?_
      refine gt_getS C dMo_readDrum_27 fl_Mo_172 h0 hFo ?_
      refine g_aload_n C dMo_readDrum_30 rfl ?_
      refine g_bipush (v := Int32.ofInt (20)) C dMo_readDrum_31 (by decide) ?_
      refine g_sipush (v := Int32.ofInt (999)) C dMo_readDrum_33 (by decide) ?_
      refine s_callV_i (av := fun ad => [.int (Int32.ofInt (20)), .int (Int32.ofInt (999))]) C dMo_readDrum_36 mfMo_readWhole mvMo_readWhole ln_Mo_227 h0 (by decide) rfl hVw3 (frL_le (by decide)) (cMo_readWhole_O hVw3.1 h0 (by have hk1 : Int32.toInt (Int32.ofInt (20)) = 20 := ofI (by decide); have hk2 : Int32.toInt (Int32.ofInt (999)) = 999 := ofI (by decide); omega)) rfl rfl (Nat.le_of_ble_eq_true rfl) ⟨Nat.le_of_ble_eq_true rfl, Nat.le_of_ble_eq_true rfl⟩ ⟨rfl, rfl⟩ ⟨Nat.zero_le _, Nat.zero_le _⟩ (fun Iw4 Jw4 hVw4 hFw4 z_36 p_36 => ?_)
      have tkw4_F_0 : (Iw4 F 0).toInt = (Iw3 F 0).toInt := by rw [(hFw4 F (by rw [hFk.2]; rfl)).1 0]
      have tkw4_F_4 : (Iw4 F 4).toInt = (Iw3 F 4).toInt := by rw [(hFw4 F (by rw [hFk.2]; rfl)).1 4]
      have tkw4_F_8 : (Iw4 F 8).toInt = (Iw3 F 8).toInt := by rw [(hFw4 F (by rw [hFk.2]; rfl)).1 8]
      have tkw4_F_9 : (Iw4 F 9).toInt = (Iw3 F 9).toInt := by rw [(hFw4 F (by rw [hFk.2]; rfl)).1 9]
      have tkw4_F_10 : (Iw4 F 10).toInt = (Iw3 F 10).toInt := by rw [(hFw4 F (by rw [hFk.2]; rfl)).1 10]
      have tkw4_B_0 : (Iw4 B 0).toInt = (Iw3 B 0).toInt := by rw [(hFw4 B (by rw [hBk.2]; rfl)).1 0]
      have tkw4_B_4 : (Iw4 B 4).toInt = (Iw3 B 4).toInt := by rw [(hFw4 B (by rw [hBk.2]; rfl)).1 4]
      have tkw4_B_7 : (Iw4 B 7).toInt = (Iw3 B 7).toInt := by rw [(hFw4 B (by rw [hBk.2]; rfl)).1 7]
      have tkw4_F_7 : (Iw4 F 7).toInt = (Iw3 F 7).toInt := by rw [(hFw4 F (by rw [hFk.2]; rfl)).1 7]
      have rz_36 := rg z_36
      try dsimp only at p_36
      have hk1_36 : Int32.toInt (Int32.ofInt (20)) = 20 := ofI (by decide)
      have hk2_36 : Int32.toInt (Int32.ofInt (999)) = 999 := ofI (by decide)
      refine gt_puti C dMo_readDrum_39 fl_Mo_176 hFk hVw4 rfl trivial rfl (Or.inl rfl) (fun Iw5 eIw5 hVw5 => ?_)
      have tkw5_a0_8 : (Iw5 a0 8).toInt = (Iw4 a0 8).toInt := by rw [eIw5, up2_ne _ _ (fun z => by have q := h0.2; rw [z.1, hFk.2] at q; exact absurd q (by decide))]
      have tkw5_a0_9 : (Iw5 a0 9).toInt = (Iw4 a0 9).toInt := by rw [eIw5, up2_ne _ _ (fun z => by have q := h0.2; rw [z.1, hFk.2] at q; exact absurd q (by decide))]
      have tkw5_a0_13 : (Iw5 a0 13).toInt = (Iw4 a0 13).toInt := by rw [eIw5, up2_ne _ _ (fun z => by have q := h0.2; rw [z.1, hFk.2] at q; exact absurd q (by decide))]
      have tkw5_F_0 : (Iw5 F 0).toInt = z_36.toInt := by rw [eIw5, up2_self]
      have tkw5_F_4 : (Iw5 F 4).toInt = (Iw4 F 4).toInt := by rw [eIw5, up2_ne _ _ (fun z => absurd z.2 (by decide))]
      have tkw5_F_8 : (Iw5 F 8).toInt = (Iw4 F 8).toInt := by rw [eIw5, up2_ne _ _ (fun z => absurd z.2 (by decide))]
      have tkw5_F_9 : (Iw5 F 9).toInt = (Iw4 F 9).toInt := by rw [eIw5, up2_ne _ _ (fun z => absurd z.2 (by decide))]
      have tkw5_F_10 : (Iw5 F 10).toInt = (Iw4 F 10).toInt := by rw [eIw5, up2_ne _ _ (fun z => absurd z.2 (by decide))]
      have tkw5_a0_6 : (Iw5 a0 6).toInt = (Iw4 a0 6).toInt := by rw [eIw5, up2_ne _ _ (fun z => by have q := h0.2; rw [z.1, hFk.2] at q; exact absurd q (by decide))]
      have tkw5_a0_7 : (Iw5 a0 7).toInt = (Iw4 a0 7).toInt := by rw [eIw5, up2_ne _ _ (fun z => by have q := h0.2; rw [z.1, hFk.2] at q; exact absurd q (by decide))]
      have tkw5_a0_18 : (Iw5 a0 18).toInt = (Iw4 a0 18).toInt := by rw [eIw5, up2_ne _ _ (fun z => by have q := h0.2; rw [z.1, hFk.2] at q; exact absurd q (by decide))]
      have tkw5_B_0 : (Iw5 B 0).toInt = (Iw4 B 0).toInt := by rw [eIw5, up2_ne _ _ (fun z => hBF z.1)]
      have tkw5_B_4 : (Iw5 B 4).toInt = (Iw4 B 4).toInt := by rw [eIw5, up2_ne _ _ (fun z => absurd z.2 (by decide))]
      have tkw5_B_7 : (Iw5 B 7).toInt = (Iw4 B 7).toInt := by rw [eIw5, up2_ne _ _ (fun z => absurd z.2 (by decide))]
      have tkw5_F_7 : (Iw5 F 7).toInt = (Iw4 F 7).toInt := by rw [eIw5, up2_ne _ _ (fun z => absurd z.2 (by decide))]
      refine g_aload_n C dMo_readDrum_42 rfl ?_
      refine g_ldcS 18 C dMo_readDrum_43 rfl ?_
      refine s_callV_v (av := fun ad => [.ref (ad.1 18)]) C dMo_readDrum_45 mfMo_needWord mvMo_needWord ln_Mo_223 h0 (by decide) rfl hVw5 (frL_le (by decide)) (cMo_needWord_O hVw5.1 h0 (by decide) (by omega)) rfl rfl (Nat.le_of_ble_eq_true rfl) ⟨Nat.le_of_ble_eq_true rfl, Nat.le_of_ble_eq_true rfl⟩ ⟨rfl, rfl⟩ ⟨Nat.zero_le _, Nat.zero_le _⟩ (fun Iw6 Jw6 hVw6 hFw6 p_45 => ?_)
      have tkw6_F_0 : (Iw6 F 0).toInt = (Iw5 F 0).toInt := by rw [(hFw6 F (by rw [hFk.2]; rfl)).1 0]
      have tkw6_F_4 : (Iw6 F 4).toInt = (Iw5 F 4).toInt := by rw [(hFw6 F (by rw [hFk.2]; rfl)).1 4]
      have tkw6_F_8 : (Iw6 F 8).toInt = (Iw5 F 8).toInt := by rw [(hFw6 F (by rw [hFk.2]; rfl)).1 8]
      have tkw6_F_9 : (Iw6 F 9).toInt = (Iw5 F 9).toInt := by rw [(hFw6 F (by rw [hFk.2]; rfl)).1 9]
      have tkw6_F_10 : (Iw6 F 10).toInt = (Iw5 F 10).toInt := by rw [(hFw6 F (by rw [hFk.2]; rfl)).1 10]
      have tkw6_B_0 : (Iw6 B 0).toInt = (Iw5 B 0).toInt := by rw [(hFw6 B (by rw [hBk.2]; rfl)).1 0]
      have tkw6_B_4 : (Iw6 B 4).toInt = (Iw5 B 4).toInt := by rw [(hFw6 B (by rw [hBk.2]; rfl)).1 4]
      have tkw6_B_7 : (Iw6 B 7).toInt = (Iw5 B 7).toInt := by rw [(hFw6 B (by rw [hBk.2]; rfl)).1 7]
      have tkw6_F_7 : (Iw6 F 7).toInt = (Iw5 F 7).toInt := by rw [(hFw6 F (by rw [hFk.2]; rfl)).1 7]
      try dsimp only at p_45
      refine g_aload_n C dMo_readDrum_48 rfl ?_
      refine gt_getS C dMo_readDrum_49 fl_Mo_172 h0 hFo ?_
      refine g_aload_n C dMo_readDrum_52 rfl ?_
      refine g_bipush (v := Int32.ofInt (10)) C dMo_readDrum_53 (by decide) ?_
      refine g_sipush (v := Int32.ofInt (200)) C dMo_readDrum_55 (by decide) ?_
      refine s_callV_i (av := fun ad => [.int (Int32.ofInt (10)), .int (Int32.ofInt (200))]) C dMo_readDrum_58 mfMo_readWhole mvMo_readWhole ln_Mo_227 h0 (by decide) rfl hVw6 (frL_le (by decide)) (cMo_readWhole_O hVw6.1 h0 (by have hk1 : Int32.toInt (Int32.ofInt (10)) = 10 := ofI (by decide); have hk2 : Int32.toInt (Int32.ofInt (200)) = 200 := ofI (by decide); omega)) rfl rfl (Nat.le_of_ble_eq_true rfl) ⟨Nat.le_of_ble_eq_true rfl, Nat.le_of_ble_eq_true rfl⟩ ⟨rfl, rfl⟩ ⟨Nat.zero_le _, Nat.zero_le _⟩ (fun Iw7 Jw7 hVw7 hFw7 z_58 p_58 => ?_)
      have tkw7_F_0 : (Iw7 F 0).toInt = (Iw6 F 0).toInt := by rw [(hFw7 F (by rw [hFk.2]; rfl)).1 0]
      have tkw7_F_4 : (Iw7 F 4).toInt = (Iw6 F 4).toInt := by rw [(hFw7 F (by rw [hFk.2]; rfl)).1 4]
      have tkw7_F_8 : (Iw7 F 8).toInt = (Iw6 F 8).toInt := by rw [(hFw7 F (by rw [hFk.2]; rfl)).1 8]
      have tkw7_F_9 : (Iw7 F 9).toInt = (Iw6 F 9).toInt := by rw [(hFw7 F (by rw [hFk.2]; rfl)).1 9]
      have tkw7_F_10 : (Iw7 F 10).toInt = (Iw6 F 10).toInt := by rw [(hFw7 F (by rw [hFk.2]; rfl)).1 10]
      have tkw7_B_0 : (Iw7 B 0).toInt = (Iw6 B 0).toInt := by rw [(hFw7 B (by rw [hBk.2]; rfl)).1 0]
      have tkw7_B_4 : (Iw7 B 4).toInt = (Iw6 B 4).toInt := by rw [(hFw7 B (by rw [hBk.2]; rfl)).1 4]
      have tkw7_B_7 : (Iw7 B 7).toInt = (Iw6 B 7).toInt := by rw [(hFw7 B (by rw [hBk.2]; rfl)).1 7]
      have tkw7_F_7 : (Iw7 F 7).toInt = (Iw6 F 7).toInt := by rw [(hFw7 F (by rw [hFk.2]; rfl)).1 7]
      have rz_58 := rg z_58
      try dsimp only at p_58
      have hk1_58 : Int32.toInt (Int32.ofInt (10)) = 10 := ofI (by decide)
      have hk2_58 : Int32.toInt (Int32.ofInt (200)) = 200 := ofI (by decide)
      refine gt_puti C dMo_readDrum_61 fl_Mo_233 hFk hVw7 rfl trivial rfl (Or.inl rfl) (fun Iw8 eIw8 hVw8 => ?_)
      have tkw8_a0_8 : (Iw8 a0 8).toInt = (Iw7 a0 8).toInt := by rw [eIw8, up2_ne _ _ (fun z => by have q := h0.2; rw [z.1, hFk.2] at q; exact absurd q (by decide))]
      have tkw8_a0_9 : (Iw8 a0 9).toInt = (Iw7 a0 9).toInt := by rw [eIw8, up2_ne _ _ (fun z => by have q := h0.2; rw [z.1, hFk.2] at q; exact absurd q (by decide))]
      have tkw8_a0_13 : (Iw8 a0 13).toInt = (Iw7 a0 13).toInt := by rw [eIw8, up2_ne _ _ (fun z => by have q := h0.2; rw [z.1, hFk.2] at q; exact absurd q (by decide))]
      have tkw8_F_0 : (Iw8 F 0).toInt = (Iw7 F 0).toInt := by rw [eIw8, up2_ne _ _ (fun z => absurd z.2 (by decide))]
      have tkw8_F_4 : (Iw8 F 4).toInt = (Iw7 F 4).toInt := by rw [eIw8, up2_ne _ _ (fun z => absurd z.2 (by decide))]
      have tkw8_F_8 : (Iw8 F 8).toInt = (Iw7 F 8).toInt := by rw [eIw8, up2_ne _ _ (fun z => absurd z.2 (by decide))]
      have tkw8_F_9 : (Iw8 F 9).toInt = (Iw7 F 9).toInt := by rw [eIw8, up2_ne _ _ (fun z => absurd z.2 (by decide))]
      have tkw8_F_10 : (Iw8 F 10).toInt = (Iw7 F 10).toInt := by rw [eIw8, up2_ne _ _ (fun z => absurd z.2 (by decide))]
      have tkw8_a0_6 : (Iw8 a0 6).toInt = (Iw7 a0 6).toInt := by rw [eIw8, up2_ne _ _ (fun z => by have q := h0.2; rw [z.1, hFk.2] at q; exact absurd q (by decide))]
      have tkw8_a0_7 : (Iw8 a0 7).toInt = (Iw7 a0 7).toInt := by rw [eIw8, up2_ne _ _ (fun z => by have q := h0.2; rw [z.1, hFk.2] at q; exact absurd q (by decide))]
      have tkw8_a0_18 : (Iw8 a0 18).toInt = (Iw7 a0 18).toInt := by rw [eIw8, up2_ne _ _ (fun z => by have q := h0.2; rw [z.1, hFk.2] at q; exact absurd q (by decide))]
      have tkw8_B_0 : (Iw8 B 0).toInt = (Iw7 B 0).toInt := by rw [eIw8, up2_ne _ _ (fun z => absurd z.2 (by decide))]
      have tkw8_B_4 : (Iw8 B 4).toInt = (Iw7 B 4).toInt := by rw [eIw8, up2_ne _ _ (fun z => absurd z.2 (by decide))]
      have tkw8_B_7 : (Iw8 B 7).toInt = (Iw7 B 7).toInt := by rw [eIw8, up2_ne _ _ (fun z => absurd z.2 (by decide))]
      have tkw8_F_7 : (Iw8 F 7).toInt = (Iw7 F 7).toInt := by rw [eIw8, up2_ne _ _ (fun z => absurd z.2 (by decide))]
      exact s_vret C E dMo_readDrum_64 ⟨Nat.zero_le _, Nat.zero_le _⟩ hVw8 (by (try dsimp only); omega)
    · skip
      refine g_aload_n C dMo_readDrum_20 rfl ?_
      refine g_ldcS 17 C dMo_readDrum_21 rfl ?_
      refine s_callV_v (av := fun ad => [.ref (ad.1 17)]) C dMo_readDrum_23 mfMo_needWord mvMo_needWord ln_Mo_223 h0 (by decide) rfl hVw2 (frL_le (by decide)) (cMo_needWord_N hVw2.1 h0 (by decide) (by omega)) rfl rfl (Nat.le_of_ble_eq_true rfl) ⟨Nat.le_of_ble_eq_true rfl, Nat.le_of_ble_eq_true rfl⟩ ⟨rfl, rfl⟩ ⟨Nat.zero_le _, Nat.zero_le _⟩ (fun Iw9 Jw9 hVw9 hFw9 p_23 => ?_)
      have tkw9_F_0 : (Iw9 F 0).toInt = (Iw2 F 0).toInt := by rw [(hFw9 F (by rw [hFk.2]; rfl)).1 0]
      have tkw9_F_4 : (Iw9 F 4).toInt = (Iw2 F 4).toInt := by rw [(hFw9 F (by rw [hFk.2]; rfl)).1 4]
      have tkw9_F_8 : (Iw9 F 8).toInt = (Iw2 F 8).toInt := by rw [(hFw9 F (by rw [hFk.2]; rfl)).1 8]
      have tkw9_F_9 : (Iw9 F 9).toInt = (Iw2 F 9).toInt := by rw [(hFw9 F (by rw [hFk.2]; rfl)).1 9]
      have tkw9_F_10 : (Iw9 F 10).toInt = (Iw2 F 10).toInt := by rw [(hFw9 F (by rw [hFk.2]; rfl)).1 10]
      have tkw9_B_0 : (Iw9 B 0).toInt = (Iw2 B 0).toInt := by rw [(hFw9 B (by rw [hBk.2]; rfl)).1 0]
      have tkw9_B_4 : (Iw9 B 4).toInt = (Iw2 B 4).toInt := by rw [(hFw9 B (by rw [hBk.2]; rfl)).1 4]
      have tkw9_B_7 : (Iw9 B 7).toInt = (Iw2 B 7).toInt := by rw [(hFw9 B (by rw [hBk.2]; rfl)).1 7]
      have tkw9_F_7 : (Iw9 F 7).toInt = (Iw2 F 7).toInt := by rw [(hFw9 F (by rw [hFk.2]; rfl)).1 7]
      try dsimp only at p_23
      rcases p_23 with ⟨p_23 | p_23, pk_23⟩
      · skip
        refine g_aload_n C dMo_readDrum_26 rfl ?_
        refine gt_getS C dMo_readDrum_27 fl_Mo_172 h0 hFo ?_
        refine g_aload_n C dMo_readDrum_30 rfl ?_
        refine g_bipush (v := Int32.ofInt (20)) C dMo_readDrum_31 (by decide) ?_
        refine g_sipush (v := Int32.ofInt (999)) C dMo_readDrum_33 (by decide) ?_
        refine s_callV_i (av := fun ad => [.int (Int32.ofInt (20)), .int (Int32.ofInt (999))]) C dMo_readDrum_36 mfMo_readWhole mvMo_readWhole ln_Mo_227 h0 (by decide) rfl hVw9 (frL_le (by decide)) (cMo_readWhole_O hVw9.1 h0 (by have hk1 : Int32.toInt (Int32.ofInt (20)) = 20 := ofI (by decide); have hk2 : Int32.toInt (Int32.ofInt (999)) = 999 := ofI (by decide); omega)) rfl rfl (Nat.le_of_ble_eq_true rfl) ⟨Nat.le_of_ble_eq_true rfl, Nat.le_of_ble_eq_true rfl⟩ ⟨rfl, rfl⟩ ⟨Nat.zero_le _, Nat.zero_le _⟩ (fun Iw10 Jw10 hVw10 hFw10 z_36 p_36 => ?_)
        have tkw10_F_0 : (Iw10 F 0).toInt = (Iw9 F 0).toInt := by rw [(hFw10 F (by rw [hFk.2]; rfl)).1 0]
        have tkw10_F_4 : (Iw10 F 4).toInt = (Iw9 F 4).toInt := by rw [(hFw10 F (by rw [hFk.2]; rfl)).1 4]
        have tkw10_F_8 : (Iw10 F 8).toInt = (Iw9 F 8).toInt := by rw [(hFw10 F (by rw [hFk.2]; rfl)).1 8]
        have tkw10_F_9 : (Iw10 F 9).toInt = (Iw9 F 9).toInt := by rw [(hFw10 F (by rw [hFk.2]; rfl)).1 9]
        have tkw10_F_10 : (Iw10 F 10).toInt = (Iw9 F 10).toInt := by rw [(hFw10 F (by rw [hFk.2]; rfl)).1 10]
        have tkw10_B_0 : (Iw10 B 0).toInt = (Iw9 B 0).toInt := by rw [(hFw10 B (by rw [hBk.2]; rfl)).1 0]
        have tkw10_B_4 : (Iw10 B 4).toInt = (Iw9 B 4).toInt := by rw [(hFw10 B (by rw [hBk.2]; rfl)).1 4]
        have tkw10_B_7 : (Iw10 B 7).toInt = (Iw9 B 7).toInt := by rw [(hFw10 B (by rw [hBk.2]; rfl)).1 7]
        have tkw10_F_7 : (Iw10 F 7).toInt = (Iw9 F 7).toInt := by rw [(hFw10 F (by rw [hFk.2]; rfl)).1 7]
        have rz_36 := rg z_36
        try dsimp only at p_36
        have hk1_36 : Int32.toInt (Int32.ofInt (20)) = 20 := ofI (by decide)
        have hk2_36 : Int32.toInt (Int32.ofInt (999)) = 999 := ofI (by decide)
        refine gt_puti C dMo_readDrum_39 fl_Mo_176 hFk hVw10 rfl trivial rfl (Or.inl rfl) (fun Iw11 eIw11 hVw11 => ?_)
        have tkw11_a0_8 : (Iw11 a0 8).toInt = (Iw10 a0 8).toInt := by rw [eIw11, up2_ne _ _ (fun z => by have q := h0.2; rw [z.1, hFk.2] at q; exact absurd q (by decide))]
        have tkw11_a0_9 : (Iw11 a0 9).toInt = (Iw10 a0 9).toInt := by rw [eIw11, up2_ne _ _ (fun z => by have q := h0.2; rw [z.1, hFk.2] at q; exact absurd q (by decide))]
        have tkw11_a0_13 : (Iw11 a0 13).toInt = (Iw10 a0 13).toInt := by rw [eIw11, up2_ne _ _ (fun z => by have q := h0.2; rw [z.1, hFk.2] at q; exact absurd q (by decide))]
        have tkw11_F_0 : (Iw11 F 0).toInt = z_36.toInt := by rw [eIw11, up2_self]
        have tkw11_F_4 : (Iw11 F 4).toInt = (Iw10 F 4).toInt := by rw [eIw11, up2_ne _ _ (fun z => absurd z.2 (by decide))]
        have tkw11_F_8 : (Iw11 F 8).toInt = (Iw10 F 8).toInt := by rw [eIw11, up2_ne _ _ (fun z => absurd z.2 (by decide))]
        have tkw11_F_9 : (Iw11 F 9).toInt = (Iw10 F 9).toInt := by rw [eIw11, up2_ne _ _ (fun z => absurd z.2 (by decide))]
        have tkw11_F_10 : (Iw11 F 10).toInt = (Iw10 F 10).toInt := by rw [eIw11, up2_ne _ _ (fun z => absurd z.2 (by decide))]
        have tkw11_a0_6 : (Iw11 a0 6).toInt = (Iw10 a0 6).toInt := by rw [eIw11, up2_ne _ _ (fun z => by have q := h0.2; rw [z.1, hFk.2] at q; exact absurd q (by decide))]
        have tkw11_a0_7 : (Iw11 a0 7).toInt = (Iw10 a0 7).toInt := by rw [eIw11, up2_ne _ _ (fun z => by have q := h0.2; rw [z.1, hFk.2] at q; exact absurd q (by decide))]
        have tkw11_a0_18 : (Iw11 a0 18).toInt = (Iw10 a0 18).toInt := by rw [eIw11, up2_ne _ _ (fun z => by have q := h0.2; rw [z.1, hFk.2] at q; exact absurd q (by decide))]
        have tkw11_B_0 : (Iw11 B 0).toInt = (Iw10 B 0).toInt := by rw [eIw11, up2_ne _ _ (fun z => hBF z.1)]
        have tkw11_B_4 : (Iw11 B 4).toInt = (Iw10 B 4).toInt := by rw [eIw11, up2_ne _ _ (fun z => absurd z.2 (by decide))]
        have tkw11_B_7 : (Iw11 B 7).toInt = (Iw10 B 7).toInt := by rw [eIw11, up2_ne _ _ (fun z => absurd z.2 (by decide))]
        have tkw11_F_7 : (Iw11 F 7).toInt = (Iw10 F 7).toInt := by rw [eIw11, up2_ne _ _ (fun z => absurd z.2 (by decide))]
        refine g_aload_n C dMo_readDrum_42 rfl ?_
        refine g_ldcS 18 C dMo_readDrum_43 rfl ?_
        refine s_callV_v (av := fun ad => [.ref (ad.1 18)]) C dMo_readDrum_45 mfMo_needWord mvMo_needWord ln_Mo_223 h0 (by decide) rfl hVw11 (frL_le (by decide)) (cMo_needWord_O hVw11.1 h0 (by decide) (by omega)) rfl rfl (Nat.le_of_ble_eq_true rfl) ⟨Nat.le_of_ble_eq_true rfl, Nat.le_of_ble_eq_true rfl⟩ ⟨rfl, rfl⟩ ⟨Nat.zero_le _, Nat.zero_le _⟩ (fun Iw12 Jw12 hVw12 hFw12 p_45 => ?_)
        have tkw12_F_0 : (Iw12 F 0).toInt = (Iw11 F 0).toInt := by rw [(hFw12 F (by rw [hFk.2]; rfl)).1 0]
        have tkw12_F_4 : (Iw12 F 4).toInt = (Iw11 F 4).toInt := by rw [(hFw12 F (by rw [hFk.2]; rfl)).1 4]
        have tkw12_F_8 : (Iw12 F 8).toInt = (Iw11 F 8).toInt := by rw [(hFw12 F (by rw [hFk.2]; rfl)).1 8]
        have tkw12_F_9 : (Iw12 F 9).toInt = (Iw11 F 9).toInt := by rw [(hFw12 F (by rw [hFk.2]; rfl)).1 9]
        have tkw12_F_10 : (Iw12 F 10).toInt = (Iw11 F 10).toInt := by rw [(hFw12 F (by rw [hFk.2]; rfl)).1 10]
        have tkw12_B_0 : (Iw12 B 0).toInt = (Iw11 B 0).toInt := by rw [(hFw12 B (by rw [hBk.2]; rfl)).1 0]
        have tkw12_B_4 : (Iw12 B 4).toInt = (Iw11 B 4).toInt := by rw [(hFw12 B (by rw [hBk.2]; rfl)).1 4]
        have tkw12_B_7 : (Iw12 B 7).toInt = (Iw11 B 7).toInt := by rw [(hFw12 B (by rw [hBk.2]; rfl)).1 7]
        have tkw12_F_7 : (Iw12 F 7).toInt = (Iw11 F 7).toInt := by rw [(hFw12 F (by rw [hFk.2]; rfl)).1 7]
        try dsimp only at p_45
        refine g_aload_n C dMo_readDrum_48 rfl ?_
        refine gt_getS C dMo_readDrum_49 fl_Mo_172 h0 hFo ?_
        refine g_aload_n C dMo_readDrum_52 rfl ?_
        refine g_bipush (v := Int32.ofInt (10)) C dMo_readDrum_53 (by decide) ?_
        refine g_sipush (v := Int32.ofInt (200)) C dMo_readDrum_55 (by decide) ?_
        refine s_callV_i (av := fun ad => [.int (Int32.ofInt (10)), .int (Int32.ofInt (200))]) C dMo_readDrum_58 mfMo_readWhole mvMo_readWhole ln_Mo_227 h0 (by decide) rfl hVw12 (frL_le (by decide)) (cMo_readWhole_O hVw12.1 h0 (by have hk1 : Int32.toInt (Int32.ofInt (10)) = 10 := ofI (by decide); have hk2 : Int32.toInt (Int32.ofInt (200)) = 200 := ofI (by decide); omega)) rfl rfl (Nat.le_of_ble_eq_true rfl) ⟨Nat.le_of_ble_eq_true rfl, Nat.le_of_ble_eq_true rfl⟩ ⟨rfl, rfl⟩ ⟨Nat.zero_le _, Nat.zero_le _⟩ (fun Iw13 Jw13 hVw13 hFw13 z_58 p_58 => ?_)
        have tkw13_F_0 : (Iw13 F 0).toInt = (Iw12 F 0).toInt := by rw [(hFw13 F (by rw [hFk.2]; rfl)).1 0]
        have tkw13_F_4 : (Iw13 F 4).toInt = (Iw12 F 4).toInt := by rw [(hFw13 F (by rw [hFk.2]; rfl)).1 4]
        have tkw13_F_8 : (Iw13 F 8).toInt = (Iw12 F 8).toInt := by rw [(hFw13 F (by rw [hFk.2]; rfl)).1 8]
        have tkw13_F_9 : (Iw13 F 9).toInt = (Iw12 F 9).toInt := by rw [(hFw13 F (by rw [hFk.2]; rfl)).1 9]
        have tkw13_F_10 : (Iw13 F 10).toInt = (Iw12 F 10).toInt := by rw [(hFw13 F (by rw [hFk.2]; rfl)).1 10]
        have tkw13_B_0 : (Iw13 B 0).toInt = (Iw12 B 0).toInt := by rw [(hFw13 B (by rw [hBk.2]; rfl)).1 0]
        have tkw13_B_4 : (Iw13 B 4).toInt = (Iw12 B 4).toInt := by rw [(hFw13 B (by rw [hBk.2]; rfl)).1 4]
        have tkw13_B_7 : (Iw13 B 7).toInt = (Iw12 B 7).toInt := by rw [(hFw13 B (by rw [hBk.2]; rfl)).1 7]
        have tkw13_F_7 : (Iw13 F 7).toInt = (Iw12 F 7).toInt := by rw [(hFw13 F (by rw [hFk.2]; rfl)).1 7]
        have rz_58 := rg z_58
        try dsimp only at p_58
        have hk1_58 : Int32.toInt (Int32.ofInt (10)) = 10 := ofI (by decide)
        have hk2_58 : Int32.toInt (Int32.ofInt (200)) = 200 := ofI (by decide)
        refine gt_puti C dMo_readDrum_61 fl_Mo_233 hFk hVw13 rfl trivial rfl (Or.inl rfl) (fun Iw14 eIw14 hVw14 => ?_)
        have tkw14_a0_8 : (Iw14 a0 8).toInt = (Iw13 a0 8).toInt := by rw [eIw14, up2_ne _ _ (fun z => by have q := h0.2; rw [z.1, hFk.2] at q; exact absurd q (by decide))]
        have tkw14_a0_9 : (Iw14 a0 9).toInt = (Iw13 a0 9).toInt := by rw [eIw14, up2_ne _ _ (fun z => by have q := h0.2; rw [z.1, hFk.2] at q; exact absurd q (by decide))]
        have tkw14_a0_13 : (Iw14 a0 13).toInt = (Iw13 a0 13).toInt := by rw [eIw14, up2_ne _ _ (fun z => by have q := h0.2; rw [z.1, hFk.2] at q; exact absurd q (by decide))]
        have tkw14_F_0 : (Iw14 F 0).toInt = (Iw13 F 0).toInt := by rw [eIw14, up2_ne _ _ (fun z => absurd z.2 (by decide))]
        have tkw14_F_4 : (Iw14 F 4).toInt = (Iw13 F 4).toInt := by rw [eIw14, up2_ne _ _ (fun z => absurd z.2 (by decide))]
        have tkw14_F_8 : (Iw14 F 8).toInt = (Iw13 F 8).toInt := by rw [eIw14, up2_ne _ _ (fun z => absurd z.2 (by decide))]
        have tkw14_F_9 : (Iw14 F 9).toInt = (Iw13 F 9).toInt := by rw [eIw14, up2_ne _ _ (fun z => absurd z.2 (by decide))]
        have tkw14_F_10 : (Iw14 F 10).toInt = (Iw13 F 10).toInt := by rw [eIw14, up2_ne _ _ (fun z => absurd z.2 (by decide))]
        have tkw14_a0_6 : (Iw14 a0 6).toInt = (Iw13 a0 6).toInt := by rw [eIw14, up2_ne _ _ (fun z => by have q := h0.2; rw [z.1, hFk.2] at q; exact absurd q (by decide))]
        have tkw14_a0_7 : (Iw14 a0 7).toInt = (Iw13 a0 7).toInt := by rw [eIw14, up2_ne _ _ (fun z => by have q := h0.2; rw [z.1, hFk.2] at q; exact absurd q (by decide))]
        have tkw14_a0_18 : (Iw14 a0 18).toInt = (Iw13 a0 18).toInt := by rw [eIw14, up2_ne _ _ (fun z => by have q := h0.2; rw [z.1, hFk.2] at q; exact absurd q (by decide))]
        have tkw14_B_0 : (Iw14 B 0).toInt = (Iw13 B 0).toInt := by rw [eIw14, up2_ne _ _ (fun z => absurd z.2 (by decide))]
        have tkw14_B_4 : (Iw14 B 4).toInt = (Iw13 B 4).toInt := by rw [eIw14, up2_ne _ _ (fun z => absurd z.2 (by decide))]
        have tkw14_B_7 : (Iw14 B 7).toInt = (Iw13 B 7).toInt := by rw [eIw14, up2_ne _ _ (fun z => absurd z.2 (by decide))]
        have tkw14_F_7 : (Iw14 F 7).toInt = (Iw13 F 7).toInt := by rw [eIw14, up2_ne _ _ (fun z => absurd z.2 (by decide))]
        exact s_vret C E dMo_readDrum_64 ⟨Nat.zero_le _, Nat.zero_le _⟩ hVw14 (by (try dsimp only); omega)
      · skip
        refine g_aload_n C dMo_readDrum_26 rfl ?_
        refine gt_getS C dMo_readDrum_27 fl_Mo_172 h0 hFo ?_
        refine g_aload_n C dMo_readDrum_30 rfl ?_
        refine g_bipush (v := Int32.ofInt (20)) C dMo_readDrum_31 (by decide) ?_
        refine g_sipush (v := Int32.ofInt (999)) C dMo_readDrum_33 (by decide) ?_
        refine s_callV_i (av := fun ad => [.int (Int32.ofInt (20)), .int (Int32.ofInt (999))]) C dMo_readDrum_36 mfMo_readWhole mvMo_readWhole ln_Mo_227 h0 (by decide) rfl hVw9 (frL_le (by decide)) (cMo_readWhole_N hVw9.1 h0 (by have hk1 : Int32.toInt (Int32.ofInt (20)) = 20 := ofI (by decide); have hk2 : Int32.toInt (Int32.ofInt (999)) = 999 := ofI (by decide); omega)) rfl rfl (Nat.le_of_ble_eq_true rfl) ⟨Nat.le_of_ble_eq_true rfl, Nat.le_of_ble_eq_true rfl⟩ ⟨rfl, rfl⟩ ⟨Nat.zero_le _, Nat.zero_le _⟩ (fun Iw15 Jw15 hVw15 hFw15 z_36 p_36 => ?_)
        have tkw15_F_0 : (Iw15 F 0).toInt = (Iw9 F 0).toInt := by rw [(hFw15 F (by rw [hFk.2]; rfl)).1 0]
        have tkw15_F_4 : (Iw15 F 4).toInt = (Iw9 F 4).toInt := by rw [(hFw15 F (by rw [hFk.2]; rfl)).1 4]
        have tkw15_F_8 : (Iw15 F 8).toInt = (Iw9 F 8).toInt := by rw [(hFw15 F (by rw [hFk.2]; rfl)).1 8]
        have tkw15_F_9 : (Iw15 F 9).toInt = (Iw9 F 9).toInt := by rw [(hFw15 F (by rw [hFk.2]; rfl)).1 9]
        have tkw15_F_10 : (Iw15 F 10).toInt = (Iw9 F 10).toInt := by rw [(hFw15 F (by rw [hFk.2]; rfl)).1 10]
        have tkw15_B_0 : (Iw15 B 0).toInt = (Iw9 B 0).toInt := by rw [(hFw15 B (by rw [hBk.2]; rfl)).1 0]
        have tkw15_B_4 : (Iw15 B 4).toInt = (Iw9 B 4).toInt := by rw [(hFw15 B (by rw [hBk.2]; rfl)).1 4]
        have tkw15_B_7 : (Iw15 B 7).toInt = (Iw9 B 7).toInt := by rw [(hFw15 B (by rw [hBk.2]; rfl)).1 7]
        have tkw15_F_7 : (Iw15 F 7).toInt = (Iw9 F 7).toInt := by rw [(hFw15 F (by rw [hFk.2]; rfl)).1 7]
        have rz_36 := rg z_36
        try dsimp only at p_36
        have hk1_36 : Int32.toInt (Int32.ofInt (20)) = 20 := ofI (by decide)
        have hk2_36 : Int32.toInt (Int32.ofInt (999)) = 999 := ofI (by decide)
        rcases p_36 with ⟨p_36 | p_36, pk_36⟩
        · skip
          refine gt_puti C dMo_readDrum_39 fl_Mo_176 hFk hVw15 rfl trivial rfl (Or.inl rfl) (fun Iw16 eIw16 hVw16 => ?_)
          have tkw16_a0_8 : (Iw16 a0 8).toInt = (Iw15 a0 8).toInt := by rw [eIw16, up2_ne _ _ (fun z => by have q := h0.2; rw [z.1, hFk.2] at q; exact absurd q (by decide))]
          have tkw16_a0_9 : (Iw16 a0 9).toInt = (Iw15 a0 9).toInt := by rw [eIw16, up2_ne _ _ (fun z => by have q := h0.2; rw [z.1, hFk.2] at q; exact absurd q (by decide))]
          have tkw16_a0_13 : (Iw16 a0 13).toInt = (Iw15 a0 13).toInt := by rw [eIw16, up2_ne _ _ (fun z => by have q := h0.2; rw [z.1, hFk.2] at q; exact absurd q (by decide))]
          have tkw16_F_0 : (Iw16 F 0).toInt = z_36.toInt := by rw [eIw16, up2_self]
          have tkw16_F_4 : (Iw16 F 4).toInt = (Iw15 F 4).toInt := by rw [eIw16, up2_ne _ _ (fun z => absurd z.2 (by decide))]
          have tkw16_F_8 : (Iw16 F 8).toInt = (Iw15 F 8).toInt := by rw [eIw16, up2_ne _ _ (fun z => absurd z.2 (by decide))]
          have tkw16_F_9 : (Iw16 F 9).toInt = (Iw15 F 9).toInt := by rw [eIw16, up2_ne _ _ (fun z => absurd z.2 (by decide))]
          have tkw16_F_10 : (Iw16 F 10).toInt = (Iw15 F 10).toInt := by rw [eIw16, up2_ne _ _ (fun z => absurd z.2 (by decide))]
          have tkw16_a0_6 : (Iw16 a0 6).toInt = (Iw15 a0 6).toInt := by rw [eIw16, up2_ne _ _ (fun z => by have q := h0.2; rw [z.1, hFk.2] at q; exact absurd q (by decide))]
          have tkw16_a0_7 : (Iw16 a0 7).toInt = (Iw15 a0 7).toInt := by rw [eIw16, up2_ne _ _ (fun z => by have q := h0.2; rw [z.1, hFk.2] at q; exact absurd q (by decide))]
          have tkw16_a0_18 : (Iw16 a0 18).toInt = (Iw15 a0 18).toInt := by rw [eIw16, up2_ne _ _ (fun z => by have q := h0.2; rw [z.1, hFk.2] at q; exact absurd q (by decide))]
          have tkw16_B_0 : (Iw16 B 0).toInt = (Iw15 B 0).toInt := by rw [eIw16, up2_ne _ _ (fun z => hBF z.1)]
          have tkw16_B_4 : (Iw16 B 4).toInt = (Iw15 B 4).toInt := by rw [eIw16, up2_ne _ _ (fun z => absurd z.2 (by decide))]
          have tkw16_B_7 : (Iw16 B 7).toInt = (Iw15 B 7).toInt := by rw [eIw16, up2_ne _ _ (fun z => absurd z.2 (by decide))]
          have tkw16_F_7 : (Iw16 F 7).toInt = (Iw15 F 7).toInt := by rw [eIw16, up2_ne _ _ (fun z => absurd z.2 (by decide))]
          refine g_aload_n C dMo_readDrum_42 rfl ?_
          refine g_ldcS 18 C dMo_readDrum_43 rfl ?_
          refine s_callV_v (av := fun ad => [.ref (ad.1 18)]) C dMo_readDrum_45 mfMo_needWord mvMo_needWord ln_Mo_223 h0 (by decide) rfl hVw16 (frL_le (by decide)) (cMo_needWord_O hVw16.1 h0 (by decide) (by omega)) rfl rfl (Nat.le_of_ble_eq_true rfl) ⟨Nat.le_of_ble_eq_true rfl, Nat.le_of_ble_eq_true rfl⟩ ⟨rfl, rfl⟩ ⟨Nat.zero_le _, Nat.zero_le _⟩ (fun Iw17 Jw17 hVw17 hFw17 p_45 => ?_)
          have tkw17_F_0 : (Iw17 F 0).toInt = (Iw16 F 0).toInt := by rw [(hFw17 F (by rw [hFk.2]; rfl)).1 0]
          have tkw17_F_4 : (Iw17 F 4).toInt = (Iw16 F 4).toInt := by rw [(hFw17 F (by rw [hFk.2]; rfl)).1 4]
          have tkw17_F_8 : (Iw17 F 8).toInt = (Iw16 F 8).toInt := by rw [(hFw17 F (by rw [hFk.2]; rfl)).1 8]
          have tkw17_F_9 : (Iw17 F 9).toInt = (Iw16 F 9).toInt := by rw [(hFw17 F (by rw [hFk.2]; rfl)).1 9]
          have tkw17_F_10 : (Iw17 F 10).toInt = (Iw16 F 10).toInt := by rw [(hFw17 F (by rw [hFk.2]; rfl)).1 10]
          have tkw17_B_0 : (Iw17 B 0).toInt = (Iw16 B 0).toInt := by rw [(hFw17 B (by rw [hBk.2]; rfl)).1 0]
          have tkw17_B_4 : (Iw17 B 4).toInt = (Iw16 B 4).toInt := by rw [(hFw17 B (by rw [hBk.2]; rfl)).1 4]
          have tkw17_B_7 : (Iw17 B 7).toInt = (Iw16 B 7).toInt := by rw [(hFw17 B (by rw [hBk.2]; rfl)).1 7]
          have tkw17_F_7 : (Iw17 F 7).toInt = (Iw16 F 7).toInt := by rw [(hFw17 F (by rw [hFk.2]; rfl)).1 7]
          try dsimp only at p_45
          refine g_aload_n C dMo_readDrum_48 rfl ?_
          refine gt_getS C dMo_readDrum_49 fl_Mo_172 h0 hFo ?_
          refine g_aload_n C dMo_readDrum_52 rfl ?_
          refine g_bipush (v := Int32.ofInt (10)) C dMo_readDrum_53 (by decide) ?_
          refine g_sipush (v := Int32.ofInt (200)) C dMo_readDrum_55 (by decide) ?_
          refine s_callV_i (av := fun ad => [.int (Int32.ofInt (10)), .int (Int32.ofInt (200))]) C dMo_readDrum_58 mfMo_readWhole mvMo_readWhole ln_Mo_227 h0 (by decide) rfl hVw17 (frL_le (by decide)) (cMo_readWhole_O hVw17.1 h0 (by have hk1 : Int32.toInt (Int32.ofInt (10)) = 10 := ofI (by decide); have hk2 : Int32.toInt (Int32.ofInt (200)) = 200 := ofI (by decide); omega)) rfl rfl (Nat.le_of_ble_eq_true rfl) ⟨Nat.le_of_ble_eq_true rfl, Nat.le_of_ble_eq_true rfl⟩ ⟨rfl, rfl⟩ ⟨Nat.zero_le _, Nat.zero_le _⟩ (fun Iw18 Jw18 hVw18 hFw18 z_58 p_58 => ?_)
          have tkw18_F_0 : (Iw18 F 0).toInt = (Iw17 F 0).toInt := by rw [(hFw18 F (by rw [hFk.2]; rfl)).1 0]
          have tkw18_F_4 : (Iw18 F 4).toInt = (Iw17 F 4).toInt := by rw [(hFw18 F (by rw [hFk.2]; rfl)).1 4]
          have tkw18_F_8 : (Iw18 F 8).toInt = (Iw17 F 8).toInt := by rw [(hFw18 F (by rw [hFk.2]; rfl)).1 8]
          have tkw18_F_9 : (Iw18 F 9).toInt = (Iw17 F 9).toInt := by rw [(hFw18 F (by rw [hFk.2]; rfl)).1 9]
          have tkw18_F_10 : (Iw18 F 10).toInt = (Iw17 F 10).toInt := by rw [(hFw18 F (by rw [hFk.2]; rfl)).1 10]
          have tkw18_B_0 : (Iw18 B 0).toInt = (Iw17 B 0).toInt := by rw [(hFw18 B (by rw [hBk.2]; rfl)).1 0]
          have tkw18_B_4 : (Iw18 B 4).toInt = (Iw17 B 4).toInt := by rw [(hFw18 B (by rw [hBk.2]; rfl)).1 4]
          have tkw18_B_7 : (Iw18 B 7).toInt = (Iw17 B 7).toInt := by rw [(hFw18 B (by rw [hBk.2]; rfl)).1 7]
          have tkw18_F_7 : (Iw18 F 7).toInt = (Iw17 F 7).toInt := by rw [(hFw18 F (by rw [hFk.2]; rfl)).1 7]
          have rz_58 := rg z_58
          try dsimp only at p_58
          have hk1_58 : Int32.toInt (Int32.ofInt (10)) = 10 := ofI (by decide)
          have hk2_58 : Int32.toInt (Int32.ofInt (200)) = 200 := ofI (by decide)
          refine gt_puti C dMo_readDrum_61 fl_Mo_233 hFk hVw18 rfl trivial rfl (Or.inl rfl) (fun Iw19 eIw19 hVw19 => ?_)
          have tkw19_a0_8 : (Iw19 a0 8).toInt = (Iw18 a0 8).toInt := by rw [eIw19, up2_ne _ _ (fun z => by have q := h0.2; rw [z.1, hFk.2] at q; exact absurd q (by decide))]
          have tkw19_a0_9 : (Iw19 a0 9).toInt = (Iw18 a0 9).toInt := by rw [eIw19, up2_ne _ _ (fun z => by have q := h0.2; rw [z.1, hFk.2] at q; exact absurd q (by decide))]
          have tkw19_a0_13 : (Iw19 a0 13).toInt = (Iw18 a0 13).toInt := by rw [eIw19, up2_ne _ _ (fun z => by have q := h0.2; rw [z.1, hFk.2] at q; exact absurd q (by decide))]
          have tkw19_F_0 : (Iw19 F 0).toInt = (Iw18 F 0).toInt := by rw [eIw19, up2_ne _ _ (fun z => absurd z.2 (by decide))]
          have tkw19_F_4 : (Iw19 F 4).toInt = (Iw18 F 4).toInt := by rw [eIw19, up2_ne _ _ (fun z => absurd z.2 (by decide))]
          have tkw19_F_8 : (Iw19 F 8).toInt = (Iw18 F 8).toInt := by rw [eIw19, up2_ne _ _ (fun z => absurd z.2 (by decide))]
          have tkw19_F_9 : (Iw19 F 9).toInt = (Iw18 F 9).toInt := by rw [eIw19, up2_ne _ _ (fun z => absurd z.2 (by decide))]
          have tkw19_F_10 : (Iw19 F 10).toInt = (Iw18 F 10).toInt := by rw [eIw19, up2_ne _ _ (fun z => absurd z.2 (by decide))]
          have tkw19_a0_6 : (Iw19 a0 6).toInt = (Iw18 a0 6).toInt := by rw [eIw19, up2_ne _ _ (fun z => by have q := h0.2; rw [z.1, hFk.2] at q; exact absurd q (by decide))]
          have tkw19_a0_7 : (Iw19 a0 7).toInt = (Iw18 a0 7).toInt := by rw [eIw19, up2_ne _ _ (fun z => by have q := h0.2; rw [z.1, hFk.2] at q; exact absurd q (by decide))]
          have tkw19_a0_18 : (Iw19 a0 18).toInt = (Iw18 a0 18).toInt := by rw [eIw19, up2_ne _ _ (fun z => by have q := h0.2; rw [z.1, hFk.2] at q; exact absurd q (by decide))]
          have tkw19_B_0 : (Iw19 B 0).toInt = (Iw18 B 0).toInt := by rw [eIw19, up2_ne _ _ (fun z => absurd z.2 (by decide))]
          have tkw19_B_4 : (Iw19 B 4).toInt = (Iw18 B 4).toInt := by rw [eIw19, up2_ne _ _ (fun z => absurd z.2 (by decide))]
          have tkw19_B_7 : (Iw19 B 7).toInt = (Iw18 B 7).toInt := by rw [eIw19, up2_ne _ _ (fun z => absurd z.2 (by decide))]
          have tkw19_F_7 : (Iw19 F 7).toInt = (Iw18 F 7).toInt := by rw [eIw19, up2_ne _ _ (fun z => absurd z.2 (by decide))]
          exact s_vret C E dMo_readDrum_64 ⟨Nat.zero_le _, Nat.zero_le _⟩ hVw19 (by (try dsimp only); omega)
        · skip
          refine gt_puti C dMo_readDrum_39 fl_Mo_176 hFk hVw15 rfl trivial rfl (Or.inl rfl) (fun Iw20 eIw20 hVw20 => ?_)
          have tkw20_a0_8 : (Iw20 a0 8).toInt = (Iw15 a0 8).toInt := by rw [eIw20, up2_ne _ _ (fun z => by have q := h0.2; rw [z.1, hFk.2] at q; exact absurd q (by decide))]
          have tkw20_a0_9 : (Iw20 a0 9).toInt = (Iw15 a0 9).toInt := by rw [eIw20, up2_ne _ _ (fun z => by have q := h0.2; rw [z.1, hFk.2] at q; exact absurd q (by decide))]
          have tkw20_a0_13 : (Iw20 a0 13).toInt = (Iw15 a0 13).toInt := by rw [eIw20, up2_ne _ _ (fun z => by have q := h0.2; rw [z.1, hFk.2] at q; exact absurd q (by decide))]
          have tkw20_F_0 : (Iw20 F 0).toInt = z_36.toInt := by rw [eIw20, up2_self]
          have tkw20_F_4 : (Iw20 F 4).toInt = (Iw15 F 4).toInt := by rw [eIw20, up2_ne _ _ (fun z => absurd z.2 (by decide))]
          have tkw20_F_8 : (Iw20 F 8).toInt = (Iw15 F 8).toInt := by rw [eIw20, up2_ne _ _ (fun z => absurd z.2 (by decide))]
          have tkw20_F_9 : (Iw20 F 9).toInt = (Iw15 F 9).toInt := by rw [eIw20, up2_ne _ _ (fun z => absurd z.2 (by decide))]
          have tkw20_F_10 : (Iw20 F 10).toInt = (Iw15 F 10).toInt := by rw [eIw20, up2_ne _ _ (fun z => absurd z.2 (by decide))]
          have tkw20_a0_6 : (Iw20 a0 6).toInt = (Iw15 a0 6).toInt := by rw [eIw20, up2_ne _ _ (fun z => by have q := h0.2; rw [z.1, hFk.2] at q; exact absurd q (by decide))]
          have tkw20_a0_7 : (Iw20 a0 7).toInt = (Iw15 a0 7).toInt := by rw [eIw20, up2_ne _ _ (fun z => by have q := h0.2; rw [z.1, hFk.2] at q; exact absurd q (by decide))]
          have tkw20_a0_18 : (Iw20 a0 18).toInt = (Iw15 a0 18).toInt := by rw [eIw20, up2_ne _ _ (fun z => by have q := h0.2; rw [z.1, hFk.2] at q; exact absurd q (by decide))]
          have tkw20_B_0 : (Iw20 B 0).toInt = (Iw15 B 0).toInt := by rw [eIw20, up2_ne _ _ (fun z => hBF z.1)]
          have tkw20_B_4 : (Iw20 B 4).toInt = (Iw15 B 4).toInt := by rw [eIw20, up2_ne _ _ (fun z => absurd z.2 (by decide))]
          have tkw20_B_7 : (Iw20 B 7).toInt = (Iw15 B 7).toInt := by rw [eIw20, up2_ne _ _ (fun z => absurd z.2 (by decide))]
          have tkw20_F_7 : (Iw20 F 7).toInt = (Iw15 F 7).toInt := by rw [eIw20, up2_ne _ _ (fun z => absurd z.2 (by decide))]
          refine g_aload_n C dMo_readDrum_42 rfl ?_
          refine g_ldcS 18 C dMo_readDrum_43 rfl ?_
          refine s_callV_v (av := fun ad => [.ref (ad.1 18)]) C dMo_readDrum_45 mfMo_needWord mvMo_needWord ln_Mo_223 h0 (by decide) rfl hVw20 (frL_le (by decide)) (cMo_needWord_N hVw20.1 h0 (by decide) (by omega)) rfl rfl (Nat.le_of_ble_eq_true rfl) ⟨Nat.le_of_ble_eq_true rfl, Nat.le_of_ble_eq_true rfl⟩ ⟨rfl, rfl⟩ ⟨Nat.zero_le _, Nat.zero_le _⟩ (fun Iw21 Jw21 hVw21 hFw21 p_45 => ?_)
          have tkw21_F_0 : (Iw21 F 0).toInt = (Iw20 F 0).toInt := by rw [(hFw21 F (by rw [hFk.2]; rfl)).1 0]
          have tkw21_F_4 : (Iw21 F 4).toInt = (Iw20 F 4).toInt := by rw [(hFw21 F (by rw [hFk.2]; rfl)).1 4]
          have tkw21_F_8 : (Iw21 F 8).toInt = (Iw20 F 8).toInt := by rw [(hFw21 F (by rw [hFk.2]; rfl)).1 8]
          have tkw21_F_9 : (Iw21 F 9).toInt = (Iw20 F 9).toInt := by rw [(hFw21 F (by rw [hFk.2]; rfl)).1 9]
          have tkw21_F_10 : (Iw21 F 10).toInt = (Iw20 F 10).toInt := by rw [(hFw21 F (by rw [hFk.2]; rfl)).1 10]
          have tkw21_B_0 : (Iw21 B 0).toInt = (Iw20 B 0).toInt := by rw [(hFw21 B (by rw [hBk.2]; rfl)).1 0]
          have tkw21_B_4 : (Iw21 B 4).toInt = (Iw20 B 4).toInt := by rw [(hFw21 B (by rw [hBk.2]; rfl)).1 4]
          have tkw21_B_7 : (Iw21 B 7).toInt = (Iw20 B 7).toInt := by rw [(hFw21 B (by rw [hBk.2]; rfl)).1 7]
          have tkw21_F_7 : (Iw21 F 7).toInt = (Iw20 F 7).toInt := by rw [(hFw21 F (by rw [hFk.2]; rfl)).1 7]
          try dsimp only at p_45
          rcases p_45 with ⟨p_45 | p_45, pk_45⟩
          · skip
            refine g_aload_n C dMo_readDrum_48 rfl ?_
            refine gt_getS C dMo_readDrum_49 fl_Mo_172 h0 hFo ?_
            refine g_aload_n C dMo_readDrum_52 rfl ?_
            refine g_bipush (v := Int32.ofInt (10)) C dMo_readDrum_53 (by decide) ?_
            refine g_sipush (v := Int32.ofInt (200)) C dMo_readDrum_55 (by decide) ?_
            refine s_callV_i (av := fun ad => [.int (Int32.ofInt (10)), .int (Int32.ofInt (200))]) C dMo_readDrum_58 mfMo_readWhole mvMo_readWhole ln_Mo_227 h0 (by decide) rfl hVw21 (frL_le (by decide)) (cMo_readWhole_O hVw21.1 h0 (by have hk1 : Int32.toInt (Int32.ofInt (10)) = 10 := ofI (by decide); have hk2 : Int32.toInt (Int32.ofInt (200)) = 200 := ofI (by decide); omega)) rfl rfl (Nat.le_of_ble_eq_true rfl) ⟨Nat.le_of_ble_eq_true rfl, Nat.le_of_ble_eq_true rfl⟩ ⟨rfl, rfl⟩ ⟨Nat.zero_le _, Nat.zero_le _⟩ (fun Iw22 Jw22 hVw22 hFw22 z_58 p_58 => ?_)
            have tkw22_F_0 : (Iw22 F 0).toInt = (Iw21 F 0).toInt := by rw [(hFw22 F (by rw [hFk.2]; rfl)).1 0]
            have tkw22_F_4 : (Iw22 F 4).toInt = (Iw21 F 4).toInt := by rw [(hFw22 F (by rw [hFk.2]; rfl)).1 4]
            have tkw22_F_8 : (Iw22 F 8).toInt = (Iw21 F 8).toInt := by rw [(hFw22 F (by rw [hFk.2]; rfl)).1 8]
            have tkw22_F_9 : (Iw22 F 9).toInt = (Iw21 F 9).toInt := by rw [(hFw22 F (by rw [hFk.2]; rfl)).1 9]
            have tkw22_F_10 : (Iw22 F 10).toInt = (Iw21 F 10).toInt := by rw [(hFw22 F (by rw [hFk.2]; rfl)).1 10]
            have tkw22_B_0 : (Iw22 B 0).toInt = (Iw21 B 0).toInt := by rw [(hFw22 B (by rw [hBk.2]; rfl)).1 0]
            have tkw22_B_4 : (Iw22 B 4).toInt = (Iw21 B 4).toInt := by rw [(hFw22 B (by rw [hBk.2]; rfl)).1 4]
            have tkw22_B_7 : (Iw22 B 7).toInt = (Iw21 B 7).toInt := by rw [(hFw22 B (by rw [hBk.2]; rfl)).1 7]
            have tkw22_F_7 : (Iw22 F 7).toInt = (Iw21 F 7).toInt := by rw [(hFw22 F (by rw [hFk.2]; rfl)).1 7]
            have rz_58 := rg z_58
            try dsimp only at p_58
            have hk1_58 : Int32.toInt (Int32.ofInt (10)) = 10 := ofI (by decide)
            have hk2_58 : Int32.toInt (Int32.ofInt (200)) = 200 := ofI (by decide)
            refine gt_puti C dMo_readDrum_61 fl_Mo_233 hFk hVw22 rfl trivial rfl (Or.inl rfl) (fun Iw23 eIw23 hVw23 => ?_)
            have tkw23_a0_8 : (Iw23 a0 8).toInt = (Iw22 a0 8).toInt := by rw [eIw23, up2_ne _ _ (fun z => by have q := h0.2; rw [z.1, hFk.2] at q; exact absurd q (by decide))]
            have tkw23_a0_9 : (Iw23 a0 9).toInt = (Iw22 a0 9).toInt := by rw [eIw23, up2_ne _ _ (fun z => by have q := h0.2; rw [z.1, hFk.2] at q; exact absurd q (by decide))]
            have tkw23_a0_13 : (Iw23 a0 13).toInt = (Iw22 a0 13).toInt := by rw [eIw23, up2_ne _ _ (fun z => by have q := h0.2; rw [z.1, hFk.2] at q; exact absurd q (by decide))]
            have tkw23_F_0 : (Iw23 F 0).toInt = (Iw22 F 0).toInt := by rw [eIw23, up2_ne _ _ (fun z => absurd z.2 (by decide))]
            have tkw23_F_4 : (Iw23 F 4).toInt = (Iw22 F 4).toInt := by rw [eIw23, up2_ne _ _ (fun z => absurd z.2 (by decide))]
            have tkw23_F_8 : (Iw23 F 8).toInt = (Iw22 F 8).toInt := by rw [eIw23, up2_ne _ _ (fun z => absurd z.2 (by decide))]
            have tkw23_F_9 : (Iw23 F 9).toInt = (Iw22 F 9).toInt := by rw [eIw23, up2_ne _ _ (fun z => absurd z.2 (by decide))]
            have tkw23_F_10 : (Iw23 F 10).toInt = (Iw22 F 10).toInt := by rw [eIw23, up2_ne _ _ (fun z => absurd z.2 (by decide))]
            have tkw23_a0_6 : (Iw23 a0 6).toInt = (Iw22 a0 6).toInt := by rw [eIw23, up2_ne _ _ (fun z => by have q := h0.2; rw [z.1, hFk.2] at q; exact absurd q (by decide))]
            have tkw23_a0_7 : (Iw23 a0 7).toInt = (Iw22 a0 7).toInt := by rw [eIw23, up2_ne _ _ (fun z => by have q := h0.2; rw [z.1, hFk.2] at q; exact absurd q (by decide))]
            have tkw23_a0_18 : (Iw23 a0 18).toInt = (Iw22 a0 18).toInt := by rw [eIw23, up2_ne _ _ (fun z => by have q := h0.2; rw [z.1, hFk.2] at q; exact absurd q (by decide))]
            have tkw23_B_0 : (Iw23 B 0).toInt = (Iw22 B 0).toInt := by rw [eIw23, up2_ne _ _ (fun z => absurd z.2 (by decide))]
            have tkw23_B_4 : (Iw23 B 4).toInt = (Iw22 B 4).toInt := by rw [eIw23, up2_ne _ _ (fun z => absurd z.2 (by decide))]
            have tkw23_B_7 : (Iw23 B 7).toInt = (Iw22 B 7).toInt := by rw [eIw23, up2_ne _ _ (fun z => absurd z.2 (by decide))]
            have tkw23_F_7 : (Iw23 F 7).toInt = (Iw22 F 7).toInt := by rw [eIw23, up2_ne _ _ (fun z => absurd z.2 (by decide))]
            exact s_vret C E dMo_readDrum_64 ⟨Nat.zero_le _, Nat.zero_le _⟩ hVw23 (by (try dsimp only); omega)
          · skip
            refine g_aload_n C dMo_readDrum_48 rfl ?_
            refine gt_getS C dMo_readDrum_49 fl_Mo_172 h0 hFo ?_
            refine g_aload_n C dMo_readDrum_52 rfl ?_
            refine g_bipush (v := Int32.ofInt (10)) C dMo_readDrum_53 (by decide) ?_
            refine g_sipush (v := Int32.ofInt (200)) C dMo_readDrum_55 (by decide) ?_
            refine s_callV_i (av := fun ad => [.int (Int32.ofInt (10)), .int (Int32.ofInt (200))]) C dMo_readDrum_58 mfMo_readWhole mvMo_readWhole ln_Mo_227 h0 (by decide) rfl hVw21 (frL_le (by decide)) (cMo_readWhole_N hVw21.1 h0 (by have hk1 : Int32.toInt (Int32.ofInt (10)) = 10 := ofI (by decide); have hk2 : Int32.toInt (Int32.ofInt (200)) = 200 := ofI (by decide); omega)) rfl rfl (Nat.le_of_ble_eq_true rfl) ⟨Nat.le_of_ble_eq_true rfl, Nat.le_of_ble_eq_true rfl⟩ ⟨rfl, rfl⟩ ⟨Nat.zero_le _, Nat.zero_le _⟩ (fun Iw24 Jw24 hVw24 hFw24 z_58 p_58 => ?_)
            have tkw24_F_0 : (Iw24 F 0).toInt = (Iw21 F 0).toInt := by rw [(hFw24 F (by rw [hFk.2]; rfl)).1 0]
            have tkw24_F_4 : (Iw24 F 4).toInt = (Iw21 F 4).toInt := by rw [(hFw24 F (by rw [hFk.2]; rfl)).1 4]
            have tkw24_F_8 : (Iw24 F 8).toInt = (Iw21 F 8).toInt := by rw [(hFw24 F (by rw [hFk.2]; rfl)).1 8]
            have tkw24_F_9 : (Iw24 F 9).toInt = (Iw21 F 9).toInt := by rw [(hFw24 F (by rw [hFk.2]; rfl)).1 9]
            have tkw24_F_10 : (Iw24 F 10).toInt = (Iw21 F 10).toInt := by rw [(hFw24 F (by rw [hFk.2]; rfl)).1 10]
            have tkw24_B_0 : (Iw24 B 0).toInt = (Iw21 B 0).toInt := by rw [(hFw24 B (by rw [hBk.2]; rfl)).1 0]
            have tkw24_B_4 : (Iw24 B 4).toInt = (Iw21 B 4).toInt := by rw [(hFw24 B (by rw [hBk.2]; rfl)).1 4]
            have tkw24_B_7 : (Iw24 B 7).toInt = (Iw21 B 7).toInt := by rw [(hFw24 B (by rw [hBk.2]; rfl)).1 7]
            have tkw24_F_7 : (Iw24 F 7).toInt = (Iw21 F 7).toInt := by rw [(hFw24 F (by rw [hFk.2]; rfl)).1 7]
            have rz_58 := rg z_58
            try dsimp only at p_58
            have hk1_58 : Int32.toInt (Int32.ofInt (10)) = 10 := ofI (by decide)
            have hk2_58 : Int32.toInt (Int32.ofInt (200)) = 200 := ofI (by decide)
            rcases p_58 with ⟨p_58 | p_58, pk_58⟩
            · skip
              refine gt_puti C dMo_readDrum_61 fl_Mo_233 hFk hVw24 rfl trivial rfl (Or.inl rfl) (fun Iw25 eIw25 hVw25 => ?_)
              have tkw25_a0_8 : (Iw25 a0 8).toInt = (Iw24 a0 8).toInt := by rw [eIw25, up2_ne _ _ (fun z => by have q := h0.2; rw [z.1, hFk.2] at q; exact absurd q (by decide))]
              have tkw25_a0_9 : (Iw25 a0 9).toInt = (Iw24 a0 9).toInt := by rw [eIw25, up2_ne _ _ (fun z => by have q := h0.2; rw [z.1, hFk.2] at q; exact absurd q (by decide))]
              have tkw25_a0_13 : (Iw25 a0 13).toInt = (Iw24 a0 13).toInt := by rw [eIw25, up2_ne _ _ (fun z => by have q := h0.2; rw [z.1, hFk.2] at q; exact absurd q (by decide))]
              have tkw25_F_0 : (Iw25 F 0).toInt = (Iw24 F 0).toInt := by rw [eIw25, up2_ne _ _ (fun z => absurd z.2 (by decide))]
              have tkw25_F_4 : (Iw25 F 4).toInt = (Iw24 F 4).toInt := by rw [eIw25, up2_ne _ _ (fun z => absurd z.2 (by decide))]
              have tkw25_F_8 : (Iw25 F 8).toInt = (Iw24 F 8).toInt := by rw [eIw25, up2_ne _ _ (fun z => absurd z.2 (by decide))]
              have tkw25_F_9 : (Iw25 F 9).toInt = (Iw24 F 9).toInt := by rw [eIw25, up2_ne _ _ (fun z => absurd z.2 (by decide))]
              have tkw25_F_10 : (Iw25 F 10).toInt = (Iw24 F 10).toInt := by rw [eIw25, up2_ne _ _ (fun z => absurd z.2 (by decide))]
              have tkw25_a0_6 : (Iw25 a0 6).toInt = (Iw24 a0 6).toInt := by rw [eIw25, up2_ne _ _ (fun z => by have q := h0.2; rw [z.1, hFk.2] at q; exact absurd q (by decide))]
              have tkw25_a0_7 : (Iw25 a0 7).toInt = (Iw24 a0 7).toInt := by rw [eIw25, up2_ne _ _ (fun z => by have q := h0.2; rw [z.1, hFk.2] at q; exact absurd q (by decide))]
              have tkw25_a0_18 : (Iw25 a0 18).toInt = (Iw24 a0 18).toInt := by rw [eIw25, up2_ne _ _ (fun z => by have q := h0.2; rw [z.1, hFk.2] at q; exact absurd q (by decide))]
              have tkw25_B_0 : (Iw25 B 0).toInt = (Iw24 B 0).toInt := by rw [eIw25, up2_ne _ _ (fun z => absurd z.2 (by decide))]
              have tkw25_B_4 : (Iw25 B 4).toInt = (Iw24 B 4).toInt := by rw [eIw25, up2_ne _ _ (fun z => absurd z.2 (by decide))]
              have tkw25_B_7 : (Iw25 B 7).toInt = (Iw24 B 7).toInt := by rw [eIw25, up2_ne _ _ (fun z => absurd z.2 (by decide))]
              have tkw25_F_7 : (Iw25 F 7).toInt = (Iw24 F 7).toInt := by rw [eIw25, up2_ne _ _ (fun z => absurd z.2 (by decide))]
              exact s_vret C E dMo_readDrum_64 ⟨Nat.zero_le _, Nat.zero_le _⟩ hVw25 (by (try dsimp only); omega)
            · skip
              refine gt_puti C dMo_readDrum_61 fl_Mo_233 hFk hVw24 rfl trivial rfl (Or.inl rfl) (fun Iw26 eIw26 hVw26 => ?_)
              have tkw26_a0_8 : (Iw26 a0 8).toInt = (Iw24 a0 8).toInt := by rw [eIw26, up2_ne _ _ (fun z => by have q := h0.2; rw [z.1, hFk.2] at q; exact absurd q (by decide))]
              have tkw26_a0_9 : (Iw26 a0 9).toInt = (Iw24 a0 9).toInt := by rw [eIw26, up2_ne _ _ (fun z => by have q := h0.2; rw [z.1, hFk.2] at q; exact absurd q (by decide))]
              have tkw26_a0_13 : (Iw26 a0 13).toInt = (Iw24 a0 13).toInt := by rw [eIw26, up2_ne _ _ (fun z => by have q := h0.2; rw [z.1, hFk.2] at q; exact absurd q (by decide))]
              have tkw26_F_0 : (Iw26 F 0).toInt = (Iw24 F 0).toInt := by rw [eIw26, up2_ne _ _ (fun z => absurd z.2 (by decide))]
              have tkw26_F_4 : (Iw26 F 4).toInt = (Iw24 F 4).toInt := by rw [eIw26, up2_ne _ _ (fun z => absurd z.2 (by decide))]
              have tkw26_F_8 : (Iw26 F 8).toInt = (Iw24 F 8).toInt := by rw [eIw26, up2_ne _ _ (fun z => absurd z.2 (by decide))]
              have tkw26_F_9 : (Iw26 F 9).toInt = (Iw24 F 9).toInt := by rw [eIw26, up2_ne _ _ (fun z => absurd z.2 (by decide))]
              have tkw26_F_10 : (Iw26 F 10).toInt = (Iw24 F 10).toInt := by rw [eIw26, up2_ne _ _ (fun z => absurd z.2 (by decide))]
              have tkw26_a0_6 : (Iw26 a0 6).toInt = (Iw24 a0 6).toInt := by rw [eIw26, up2_ne _ _ (fun z => by have q := h0.2; rw [z.1, hFk.2] at q; exact absurd q (by decide))]
              have tkw26_a0_7 : (Iw26 a0 7).toInt = (Iw24 a0 7).toInt := by rw [eIw26, up2_ne _ _ (fun z => by have q := h0.2; rw [z.1, hFk.2] at q; exact absurd q (by decide))]
              have tkw26_a0_18 : (Iw26 a0 18).toInt = (Iw24 a0 18).toInt := by rw [eIw26, up2_ne _ _ (fun z => by have q := h0.2; rw [z.1, hFk.2] at q; exact absurd q (by decide))]
              have tkw26_B_0 : (Iw26 B 0).toInt = (Iw24 B 0).toInt := by rw [eIw26, up2_ne _ _ (fun z => absurd z.2 (by decide))]
              have tkw26_B_4 : (Iw26 B 4).toInt = (Iw24 B 4).toInt := by rw [eIw26, up2_ne _ _ (fun z => absurd z.2 (by decide))]
              have tkw26_B_7 : (Iw26 B 7).toInt = (Iw24 B 7).toInt := by rw [eIw26, up2_ne _ _ (fun z => absurd z.2 (by decide))]
              have tkw26_F_7 : (Iw26 F 7).toInt = (Iw24 F 7).toInt := by rw [eIw26, up2_ne _ _ (fun z => absurd z.2 (by decide))]
              exact s_vret C E dMo_readDrum_64 ⟨Nat.zero_le _, Nat.zero_le _⟩ hVw26 (by (try dsimp only); omega)
  refine gt_icmp_eq 16 C dMo_readDrum_9 (by decide) rfl (ofI (by decide)) (fun c_9 => ?_) (fun c_9 => ?_)
  · skip
    refine g_iconst (v := Int32.ofInt (0)) C dMo_readDrum_16 (by decide) ?_
    exact g_sub (jn_17 (Int32.ofInt (0))  (by omega) (by omega) (by omega) (by omega) (by omega) (by omega) (by omega) (by omega) (by omega) (by omega) (by omega) ) ⟨rfl, trivial⟩
  · skip
    refine g_iconst (v := Int32.ofInt (1)) C dMo_readDrum_12 (by decide) ?_
    refine g_goto 17 C dMo_readDrum_13 (by decide) ?_
    exact g_sub (jn_17 (Int32.ofInt (1))  (by omega) (by omega) (by omega) (by omega) (by omega) (by omega) (by omega) (by omega) (by omega) (by omega) (by omega) ) ⟨rfl, trivial⟩
set_option maxHeartbeats 4000000 in
set_option maxRecDepth 100000 in
theorem cMo_readLiner_N_F {P : List Nat} {K : Nat → Nat} {I0 : Nat → Nat → Int32} {O : Nat → Nat → Option Nat} {J0 : Nat → Nat → Int64} (hV : IV P K I0 O) {a0 : Nat} (h0 : a0 ∈ P ∧ K a0 = 10) {F B : Nat} (hFo : O a0 4 = some F) (hFk : F ∈ P ∧ K F = 9) (hBk : True ∧ K B = 9) (hBF : B ≠ F) (pr0 : 0 ≤ Int32.toInt (I0 a0 9) ∧ Int32.toInt (I0 a0 9) ≤ 4 ∧ Int32.toInt (I0 a0 13) = 0 ∧ (Int32.toInt (I0 F 0) = -1 ∨ 1 ≤ Int32.toInt (I0 F 0)) ∧ (Int32.toInt (I0 F 4) = -1 ∨ 1 ≤ Int32.toInt (I0 F 4)) ∧ Int32.toInt (I0 F 10) = Int32.toInt (I0 F 8) + Int32.toInt (I0 F 9) + 0) : Con yMo_readLiner bMo_readLiner 1 none ({ frames := 3, cells := 0, slots := 0, locals := 66 } : Room) P K I0 O J0 [.ref a0] (SPo frQ 0 (fun _ I_ => ((Int32.toInt (I_ a0 9) = 5 ∧ 1 ≤ Int32.toInt (I_ a0 13) ∧ Int32.toInt (I0 a0 8) ≤ Int32.toInt (I_ a0 8)) ∨ (0 ≤ Int32.toInt (I_ a0 9) ∧ Int32.toInt (I_ a0 9) ≤ 4 ∧ Int32.toInt (I_ a0 13) = 0 ∧ Int32.toInt (I0 a0 8) ≤ Int32.toInt (I_ a0 8) ∧ Int32.toInt (I0 a0 8) + Int32.toInt (I_ a0 9) ≤ Int32.toInt (I_ a0 8) + 3 ∧ (Int32.toInt (I_ F 0) = -1 ∨ 1 ≤ Int32.toInt (I_ F 0)) ∧ (Int32.toInt (I_ F 4) = -1 ∨ 1 ≤ Int32.toInt (I_ F 4)) ∧ Int32.toInt (I_ F 10) = Int32.toInt (I_ F 8) + Int32.toInt (I_ F 9) + 0)) ∧ (I_ a0 6).toInt = (I0 a0 6).toInt ∧ (I_ a0 7).toInt = (I0 a0 7).toInt ∧ (I_ a0 18).toInt = (I0 a0 18).toInt ∧ (I_ B 0).toInt = (I0 B 0).toInt ∧ (I_ B 4).toInt = (I0 B 4).toInt ∧ (I_ B 7).toInt = (I0 B 7).toInt ∧ (I_ F 0).toInt = (I0 F 0).toInt ∧ (I_ F 7).toInt = (I0 F 7).toInt ∧ (I_ F 8).toInt = (I0 F 8).toInt ∧ (I_ F 9).toInt = (I0 F 9).toInt ∧ (I_ F 10).toInt = (I0 F 10).toInt) P K I0 O J0) := by
  refine Con.ofG mfMo_readLiner (Nat.le_of_ble_eq_true rfl) ?_
  intro X C E
  have ok_a0_7 := hV.2 a0 h0.1 7
  rw [h0.2] at ok_a0_7
  have ok_a0_7 : 0 ≤ (I0 a0 7).toInt ∧ (I0 a0 7).toInt ≤ 700 := ok_a0_7
  have ok_a0_8 := hV.2 a0 h0.1 8
  rw [h0.2] at ok_a0_8
  have ok_a0_8 : 0 ≤ (I0 a0 8).toInt ∧ (I0 a0 8).toInt ≤ 700 := ok_a0_8
  have ok_F_7 := hV.2 F hFk.1 7
  rw [hFk.2] at ok_F_7
  have ok_F_7 : 0 ≤ (I0 F 7).toInt ∧ (I0 F 7).toInt ≤ 6 := ok_F_7
  have ok_F_8 := hV.2 F hFk.1 8
  rw [hFk.2] at ok_F_8
  have ok_F_8 : 0 ≤ (I0 F 8).toInt ∧ (I0 F 8).toInt ≤ 5 := ok_F_8
  have ok_F_9 := hV.2 F hFk.1 9
  rw [hFk.2] at ok_F_9
  have ok_F_9 : 0 ≤ (I0 F 9).toInt ∧ (I0 F 9).toInt ≤ 4 := ok_F_9
  have ok_F_10 := hV.2 F hFk.1 10
  rw [hFk.2] at ok_F_10
  have ok_F_10 : 0 ≤ (I0 F 10).toInt ∧ (I0 F 10).toInt ≤ 9 := ok_F_10
  have hV0 : SV frQ P K O I0 J0 I0 J0 := SV.rf hV
  refine g_aload_n C dMo_readLiner_0 rfl ?_
  refine g_aload_n C dMo_readLiner_1 rfl ?_
  refine gt_getS C dMo_readLiner_2 fl_Mo_172 h0 hFo ?_
  refine g_geti C dMo_readLiner_5 fl_Mo_183 hFk ?_
  refine g_iconst (v := Int32.ofInt (-1)) C dMo_readLiner_8 (by decide) ?_
  have jn_17 : ∀  (s0_17 : Int32), (Int32.toInt (I0 a0 6) = Int32.toInt (I0 a0 6)) → (Int32.toInt (I0 a0 7) = Int32.toInt (I0 a0 7)) → (Int32.toInt (I0 a0 18) = Int32.toInt (I0 a0 18)) → (Int32.toInt (I0 B 0) = Int32.toInt (I0 B 0)) → (Int32.toInt (I0 B 4) = Int32.toInt (I0 B 4)) → (Int32.toInt (I0 B 7) = Int32.toInt (I0 B 7)) → (Int32.toInt (I0 F 0) = Int32.toInt (I0 F 0)) → (Int32.toInt (I0 F 7) = Int32.toInt (I0 F 7)) → (Int32.toInt (I0 F 8) = Int32.toInt (I0 F 8)) → (Int32.toInt (I0 F 9) = Int32.toInt (I0 F 9)) → (Int32.toInt (I0 F 10) = Int32.toInt (I0 F 10)) → GG X 1 P K I0 O J0 0 0 17 [(0, .ref a0)] [.int s0_17, .ref a0] := by
    intro s0_17 jv0_17 jv1_17 jv2_17 jv3_17 jv4_17 jv5_17 jv6_17 jv7_17 jv8_17 jv9_17 jv10_17
    refine s_callV_v (av := fun ad => [.int s0_17]) C dMo_readLiner_17 mfMo_once mvMo_once ln_Mo_218 h0 (by decide) rfl hV0 (frL_le (by decide)) (cMo_once_N hV0.1 h0 (by omega)) rfl rfl (Nat.le_of_ble_eq_true rfl) ⟨Nat.le_of_ble_eq_true rfl, Nat.le_of_ble_eq_true rfl⟩ ⟨rfl, rfl⟩ ⟨Nat.zero_le _, Nat.zero_le _⟩ (fun Iw2 Jw2 hVw2 hFw2 p_17 => ?_)
    have tkw2_F_0 : (Iw2 F 0).toInt = (I0 F 0).toInt := by rw [(hFw2 F (by rw [hFk.2]; rfl)).1 0]
    have tkw2_F_4 : (Iw2 F 4).toInt = (I0 F 4).toInt := by rw [(hFw2 F (by rw [hFk.2]; rfl)).1 4]
    have tkw2_F_8 : (Iw2 F 8).toInt = (I0 F 8).toInt := by rw [(hFw2 F (by rw [hFk.2]; rfl)).1 8]
    have tkw2_F_9 : (Iw2 F 9).toInt = (I0 F 9).toInt := by rw [(hFw2 F (by rw [hFk.2]; rfl)).1 9]
    have tkw2_F_10 : (Iw2 F 10).toInt = (I0 F 10).toInt := by rw [(hFw2 F (by rw [hFk.2]; rfl)).1 10]
    have tkw2_B_0 : (Iw2 B 0).toInt = (I0 B 0).toInt := by rw [(hFw2 B (by rw [hBk.2]; rfl)).1 0]
    have tkw2_B_4 : (Iw2 B 4).toInt = (I0 B 4).toInt := by rw [(hFw2 B (by rw [hBk.2]; rfl)).1 4]
    have tkw2_B_7 : (Iw2 B 7).toInt = (I0 B 7).toInt := by rw [(hFw2 B (by rw [hBk.2]; rfl)).1 7]
    have tkw2_F_7 : (Iw2 F 7).toInt = (I0 F 7).toInt := by rw [(hFw2 F (by rw [hFk.2]; rfl)).1 7]
    try dsimp only at p_17
    rcases p_17 with ⟨p_17 | p_17, pk_17⟩
    · skip
      refine g_aload_n C dMo_readLiner_20 rfl ?_
      refine gt_getS C dMo_readLiner_21 fl_Mo_172 h0 hFo ?_
      refine g_aload_n C dMo_readLiner_24 rfl ?_
      refine g_iconst (v := Int32.ofInt (1)) C dMo_readLiner_25 (by decide) ?_
      refine g_sipush (v := Int32.ofInt (200)) C dMo_readLiner_26 (by decide) ?_
      refine s_callV_i (av := fun ad => [.int (Int32.ofInt (1)), .int (Int32.ofInt (200))]) C dMo_readLiner_29 mfMo_readWhole mvMo_readWhole ln_Mo_227 h0 (by decide) rfl hVw2 (frL_le (by decide)) (cMo_readWhole_O hVw2.1 h0 (by have hk1 : Int32.toInt (Int32.ofInt (1)) = 1 := ofI (by decide); have hk2 : Int32.toInt (Int32.ofInt (200)) = 200 := ofI (by decide); omega)) rfl rfl (Nat.le_of_ble_eq_true rfl) ⟨Nat.le_of_ble_eq_true rfl, Nat.le_of_ble_eq_true rfl⟩ ⟨rfl, rfl⟩ ⟨Nat.zero_le _, Nat.zero_le _⟩ (fun Iw3 Jw3 hVw3 hFw3 z_29 p_29 => ?_)
      have tkw3_F_0 : (Iw3 F 0).toInt = (Iw2 F 0).toInt := by rw [(hFw3 F (by rw [hFk.2]; rfl)).1 0]
      have tkw3_F_4 : (Iw3 F 4).toInt = (Iw2 F 4).toInt := by rw [(hFw3 F (by rw [hFk.2]; rfl)).1 4]
      have tkw3_F_8 : (Iw3 F 8).toInt = (Iw2 F 8).toInt := by rw [(hFw3 F (by rw [hFk.2]; rfl)).1 8]
      have tkw3_F_9 : (Iw3 F 9).toInt = (Iw2 F 9).toInt := by rw [(hFw3 F (by rw [hFk.2]; rfl)).1 9]
      have tkw3_F_10 : (Iw3 F 10).toInt = (Iw2 F 10).toInt := by rw [(hFw3 F (by rw [hFk.2]; rfl)).1 10]
      have tkw3_B_0 : (Iw3 B 0).toInt = (Iw2 B 0).toInt := by rw [(hFw3 B (by rw [hBk.2]; rfl)).1 0]
      have tkw3_B_4 : (Iw3 B 4).toInt = (Iw2 B 4).toInt := by rw [(hFw3 B (by rw [hBk.2]; rfl)).1 4]
      have tkw3_B_7 : (Iw3 B 7).toInt = (Iw2 B 7).toInt := by rw [(hFw3 B (by rw [hBk.2]; rfl)).1 7]
      have tkw3_F_7 : (Iw3 F 7).toInt = (Iw2 F 7).toInt := by rw [(hFw3 F (by rw [hFk.2]; rfl)).1 7]
      have rz_29 := rg z_29
      try dsimp only at p_29
      have hk1_29 : Int32.toInt (Int32.ofInt (1)) = 1 := ofI (by decide)
      have hk2_29 : Int32.toInt (Int32.ofInt (200)) = 200 := ofI (by decide)
      refine gt_puti C dMo_readLiner_32 fl_Mo_183 hFk hVw3 rfl trivial rfl (Or.inl rfl) (fun Iw4 eIw4 hVw4 => ?_)
      have tkw4_a0_8 : (Iw4 a0 8).toInt = (Iw3 a0 8).toInt := by rw [eIw4, up2_ne _ _ (fun z => by have q := h0.2; rw [z.1, hFk.2] at q; exact absurd q (by decide))]
      have tkw4_a0_9 : (Iw4 a0 9).toInt = (Iw3 a0 9).toInt := by rw [eIw4, up2_ne _ _ (fun z => by have q := h0.2; rw [z.1, hFk.2] at q; exact absurd q (by decide))]
      have tkw4_a0_13 : (Iw4 a0 13).toInt = (Iw3 a0 13).toInt := by rw [eIw4, up2_ne _ _ (fun z => by have q := h0.2; rw [z.1, hFk.2] at q; exact absurd q (by decide))]
      have tkw4_F_0 : (Iw4 F 0).toInt = (Iw3 F 0).toInt := by rw [eIw4, up2_ne _ _ (fun z => absurd z.2 (by decide))]
      have tkw4_F_4 : (Iw4 F 4).toInt = z_29.toInt := by rw [eIw4, up2_self]
      have tkw4_F_8 : (Iw4 F 8).toInt = (Iw3 F 8).toInt := by rw [eIw4, up2_ne _ _ (fun z => absurd z.2 (by decide))]
      have tkw4_F_9 : (Iw4 F 9).toInt = (Iw3 F 9).toInt := by rw [eIw4, up2_ne _ _ (fun z => absurd z.2 (by decide))]
      have tkw4_F_10 : (Iw4 F 10).toInt = (Iw3 F 10).toInt := by rw [eIw4, up2_ne _ _ (fun z => absurd z.2 (by decide))]
      have tkw4_a0_6 : (Iw4 a0 6).toInt = (Iw3 a0 6).toInt := by rw [eIw4, up2_ne _ _ (fun z => by have q := h0.2; rw [z.1, hFk.2] at q; exact absurd q (by decide))]
      have tkw4_a0_7 : (Iw4 a0 7).toInt = (Iw3 a0 7).toInt := by rw [eIw4, up2_ne _ _ (fun z => by have q := h0.2; rw [z.1, hFk.2] at q; exact absurd q (by decide))]
      have tkw4_a0_18 : (Iw4 a0 18).toInt = (Iw3 a0 18).toInt := by rw [eIw4, up2_ne _ _ (fun z => by have q := h0.2; rw [z.1, hFk.2] at q; exact absurd q (by decide))]
      have tkw4_B_0 : (Iw4 B 0).toInt = (Iw3 B 0).toInt := by rw [eIw4, up2_ne _ _ (fun z => absurd z.2 (by decide))]
      have tkw4_B_4 : (Iw4 B 4).toInt = (Iw3 B 4).toInt := by rw [eIw4, up2_ne _ _ (fun z => hBF z.1)]
      have tkw4_B_7 : (Iw4 B 7).toInt = (Iw3 B 7).toInt := by rw [eIw4, up2_ne _ _ (fun z => absurd z.2 (by decide))]
      have tkw4_F_7 : (Iw4 F 7).toInt = (Iw3 F 7).toInt := by rw [eIw4, up2_ne _ _ (fun z => absurd z.2 (by decide))]
      exact s_vret C E dMo_readLiner_35 ⟨Nat.zero_le _, Nat.zero_le _⟩ hVw4 (by (try dsimp only); omega)
    · skip
      refine g_aload_n C dMo_readLiner_20 rfl ?_
      refine gt_getS C dMo_readLiner_21 fl_Mo_172 h0 hFo ?_
      refine g_aload_n C dMo_readLiner_24 rfl ?_
      refine g_iconst (v := Int32.ofInt (1)) C dMo_readLiner_25 (by decide) ?_
      refine g_sipush (v := Int32.ofInt (200)) C dMo_readLiner_26 (by decide) ?_
      refine s_callV_i (av := fun ad => [.int (Int32.ofInt (1)), .int (Int32.ofInt (200))]) C dMo_readLiner_29 mfMo_readWhole mvMo_readWhole ln_Mo_227 h0 (by decide) rfl hVw2 (frL_le (by decide)) (cMo_readWhole_N hVw2.1 h0 (by have hk1 : Int32.toInt (Int32.ofInt (1)) = 1 := ofI (by decide); have hk2 : Int32.toInt (Int32.ofInt (200)) = 200 := ofI (by decide); omega)) rfl rfl (Nat.le_of_ble_eq_true rfl) ⟨Nat.le_of_ble_eq_true rfl, Nat.le_of_ble_eq_true rfl⟩ ⟨rfl, rfl⟩ ⟨Nat.zero_le _, Nat.zero_le _⟩ (fun Iw5 Jw5 hVw5 hFw5 z_29 p_29 => ?_)
      have tkw5_F_0 : (Iw5 F 0).toInt = (Iw2 F 0).toInt := by rw [(hFw5 F (by rw [hFk.2]; rfl)).1 0]
      have tkw5_F_4 : (Iw5 F 4).toInt = (Iw2 F 4).toInt := by rw [(hFw5 F (by rw [hFk.2]; rfl)).1 4]
      have tkw5_F_8 : (Iw5 F 8).toInt = (Iw2 F 8).toInt := by rw [(hFw5 F (by rw [hFk.2]; rfl)).1 8]
      have tkw5_F_9 : (Iw5 F 9).toInt = (Iw2 F 9).toInt := by rw [(hFw5 F (by rw [hFk.2]; rfl)).1 9]
      have tkw5_F_10 : (Iw5 F 10).toInt = (Iw2 F 10).toInt := by rw [(hFw5 F (by rw [hFk.2]; rfl)).1 10]
      have tkw5_B_0 : (Iw5 B 0).toInt = (Iw2 B 0).toInt := by rw [(hFw5 B (by rw [hBk.2]; rfl)).1 0]
      have tkw5_B_4 : (Iw5 B 4).toInt = (Iw2 B 4).toInt := by rw [(hFw5 B (by rw [hBk.2]; rfl)).1 4]
      have tkw5_B_7 : (Iw5 B 7).toInt = (Iw2 B 7).toInt := by rw [(hFw5 B (by rw [hBk.2]; rfl)).1 7]
      have tkw5_F_7 : (Iw5 F 7).toInt = (Iw2 F 7).toInt := by rw [(hFw5 F (by rw [hFk.2]; rfl)).1 7]
      have rz_29 := rg z_29
      try dsimp only at p_29
      have hk1_29 : Int32.toInt (Int32.ofInt (1)) = 1 := ofI (by decide)
      have hk2_29 : Int32.toInt (Int32.ofInt (200)) = 200 := ofI (by decide)
      rcases p_29 with ⟨p_29 | p_29, pk_29⟩
      · skip
        refine gt_puti C dMo_readLiner_32 fl_Mo_183 hFk hVw5 rfl trivial rfl (Or.inl rfl) (fun Iw6 eIw6 hVw6 => ?_)
        have tkw6_a0_8 : (Iw6 a0 8).toInt = (Iw5 a0 8).toInt := by rw [eIw6, up2_ne _ _ (fun z => by have q := h0.2; rw [z.1, hFk.2] at q; exact absurd q (by decide))]
        have tkw6_a0_9 : (Iw6 a0 9).toInt = (Iw5 a0 9).toInt := by rw [eIw6, up2_ne _ _ (fun z => by have q := h0.2; rw [z.1, hFk.2] at q; exact absurd q (by decide))]
        have tkw6_a0_13 : (Iw6 a0 13).toInt = (Iw5 a0 13).toInt := by rw [eIw6, up2_ne _ _ (fun z => by have q := h0.2; rw [z.1, hFk.2] at q; exact absurd q (by decide))]
        have tkw6_F_0 : (Iw6 F 0).toInt = (Iw5 F 0).toInt := by rw [eIw6, up2_ne _ _ (fun z => absurd z.2 (by decide))]
        have tkw6_F_4 : (Iw6 F 4).toInt = z_29.toInt := by rw [eIw6, up2_self]
        have tkw6_F_8 : (Iw6 F 8).toInt = (Iw5 F 8).toInt := by rw [eIw6, up2_ne _ _ (fun z => absurd z.2 (by decide))]
        have tkw6_F_9 : (Iw6 F 9).toInt = (Iw5 F 9).toInt := by rw [eIw6, up2_ne _ _ (fun z => absurd z.2 (by decide))]
        have tkw6_F_10 : (Iw6 F 10).toInt = (Iw5 F 10).toInt := by rw [eIw6, up2_ne _ _ (fun z => absurd z.2 (by decide))]
        have tkw6_a0_6 : (Iw6 a0 6).toInt = (Iw5 a0 6).toInt := by rw [eIw6, up2_ne _ _ (fun z => by have q := h0.2; rw [z.1, hFk.2] at q; exact absurd q (by decide))]
        have tkw6_a0_7 : (Iw6 a0 7).toInt = (Iw5 a0 7).toInt := by rw [eIw6, up2_ne _ _ (fun z => by have q := h0.2; rw [z.1, hFk.2] at q; exact absurd q (by decide))]
        have tkw6_a0_18 : (Iw6 a0 18).toInt = (Iw5 a0 18).toInt := by rw [eIw6, up2_ne _ _ (fun z => by have q := h0.2; rw [z.1, hFk.2] at q; exact absurd q (by decide))]
        have tkw6_B_0 : (Iw6 B 0).toInt = (Iw5 B 0).toInt := by rw [eIw6, up2_ne _ _ (fun z => absurd z.2 (by decide))]
        have tkw6_B_4 : (Iw6 B 4).toInt = (Iw5 B 4).toInt := by rw [eIw6, up2_ne _ _ (fun z => hBF z.1)]
        have tkw6_B_7 : (Iw6 B 7).toInt = (Iw5 B 7).toInt := by rw [eIw6, up2_ne _ _ (fun z => absurd z.2 (by decide))]
        have tkw6_F_7 : (Iw6 F 7).toInt = (Iw5 F 7).toInt := by rw [eIw6, up2_ne _ _ (fun z => absurd z.2 (by decide))]
        exact s_vret C E dMo_readLiner_35 ⟨Nat.zero_le _, Nat.zero_le _⟩ hVw6 (by (try dsimp only); omega)
      · skip
        refine gt_puti C dMo_readLiner_32 fl_Mo_183 hFk hVw5 rfl trivial rfl (Or.inl rfl) (fun Iw7 eIw7 hVw7 => ?_)
        have tkw7_a0_8 : (Iw7 a0 8).toInt = (Iw5 a0 8).toInt := by rw [eIw7, up2_ne _ _ (fun z => by have q := h0.2; rw [z.1, hFk.2] at q; exact absurd q (by decide))]
        have tkw7_a0_9 : (Iw7 a0 9).toInt = (Iw5 a0 9).toInt := by rw [eIw7, up2_ne _ _ (fun z => by have q := h0.2; rw [z.1, hFk.2] at q; exact absurd q (by decide))]
        have tkw7_a0_13 : (Iw7 a0 13).toInt = (Iw5 a0 13).toInt := by rw [eIw7, up2_ne _ _ (fun z => by have q := h0.2; rw [z.1, hFk.2] at q; exact absurd q (by decide))]
        have tkw7_F_0 : (Iw7 F 0).toInt = (Iw5 F 0).toInt := by rw [eIw7, up2_ne _ _ (fun z => absurd z.2 (by decide))]
        have tkw7_F_4 : (Iw7 F 4).toInt = z_29.toInt := by rw [eIw7, up2_self]
        have tkw7_F_8 : (Iw7 F 8).toInt = (Iw5 F 8).toInt := by rw [eIw7, up2_ne _ _ (fun z => absurd z.2 (by decide))]
        have tkw7_F_9 : (Iw7 F 9).toInt = (Iw5 F 9).toInt := by rw [eIw7, up2_ne _ _ (fun z => absurd z.2 (by decide))]
        have tkw7_F_10 : (Iw7 F 10).toInt = (Iw5 F 10).toInt := by rw [eIw7, up2_ne _ _ (fun z => absurd z.2 (by decide))]
        have tkw7_a0_6 : (Iw7 a0 6).toInt = (Iw5 a0 6).toInt := by rw [eIw7, up2_ne _ _ (fun z => by have q := h0.2; rw [z.1, hFk.2] at q; exact absurd q (by decide))]
        have tkw7_a0_7 : (Iw7 a0 7).toInt = (Iw5 a0 7).toInt := by rw [eIw7, up2_ne _ _ (fun z => by have q := h0.2; rw [z.1, hFk.2] at q; exact absurd q (by decide))]
        have tkw7_a0_18 : (Iw7 a0 18).toInt = (Iw5 a0 18).toInt := by rw [eIw7, up2_ne _ _ (fun z => by have q := h0.2; rw [z.1, hFk.2] at q; exact absurd q (by decide))]
        have tkw7_B_0 : (Iw7 B 0).toInt = (Iw5 B 0).toInt := by rw [eIw7, up2_ne _ _ (fun z => absurd z.2 (by decide))]
        have tkw7_B_4 : (Iw7 B 4).toInt = (Iw5 B 4).toInt := by rw [eIw7, up2_ne _ _ (fun z => hBF z.1)]
        have tkw7_B_7 : (Iw7 B 7).toInt = (Iw5 B 7).toInt := by rw [eIw7, up2_ne _ _ (fun z => absurd z.2 (by decide))]
        have tkw7_F_7 : (Iw7 F 7).toInt = (Iw5 F 7).toInt := by rw [eIw7, up2_ne _ _ (fun z => absurd z.2 (by decide))]
        exact s_vret C E dMo_readLiner_35 ⟨Nat.zero_le _, Nat.zero_le _⟩ hVw7 (by (try dsimp only); omega)
  refine gt_icmp_eq 16 C dMo_readLiner_9 (by decide) rfl (ofI (by decide)) (fun c_9 => ?_) (fun c_9 => ?_)
  · skip
    refine g_iconst (v := Int32.ofInt (0)) C dMo_readLiner_16 (by decide) ?_
    exact g_sub (jn_17 (Int32.ofInt (0))  (by omega) (by omega) (by omega) (by omega) (by omega) (by omega) (by omega) (by omega) (by omega) (by omega) (by omega) ) ⟨rfl, trivial⟩
  · skip
    refine g_iconst (v := Int32.ofInt (1)) C dMo_readLiner_12 (by decide) ?_
    refine g_goto 17 C dMo_readLiner_13 (by decide) ?_
    exact g_sub (jn_17 (Int32.ofInt (1))  (by omega) (by omega) (by omega) (by omega) (by omega) (by omega) (by omega) (by omega) (by omega) (by omega) (by omega) ) ⟨rfl, trivial⟩
set_option maxHeartbeats 4000000 in
set_option maxRecDepth 100000 in
theorem cMo_readBin_N_F {P : List Nat} {K : Nat → Nat} {I0 : Nat → Nat → Int32} {O : Nat → Nat → Option Nat} {J0 : Nat → Nat → Int64} (hV : IV P K I0 O) {a0 : Nat} (h0 : a0 ∈ P ∧ K a0 = 10) {F B : Nat} (hFo : O a0 4 = some F) (hFk : F ∈ P ∧ K F = 9) (hBk : True ∧ K B = 9) (hBF : B ≠ F) (pr0 : 0 ≤ Int32.toInt (I0 a0 9) ∧ Int32.toInt (I0 a0 9) ≤ 4 ∧ Int32.toInt (I0 a0 13) = 0 ∧ (Int32.toInt (I0 F 0) = -1 ∨ 1 ≤ Int32.toInt (I0 F 0)) ∧ (Int32.toInt (I0 F 4) = -1 ∨ 1 ≤ Int32.toInt (I0 F 4)) ∧ Int32.toInt (I0 F 10) = Int32.toInt (I0 F 8) + Int32.toInt (I0 F 9) + 0) : Con yMo_readBin bMo_readBin 1 none ({ frames := 7, cells := 0, slots := 0, locals := 150 } : Room) P K I0 O J0 [.ref a0] (SPo frQ 0 (fun _ I_ => ((Int32.toInt (I_ a0 9) = 5 ∧ 1 ≤ Int32.toInt (I_ a0 13) ∧ Int32.toInt (I0 a0 8) ≤ Int32.toInt (I_ a0 8)) ∨ (0 ≤ Int32.toInt (I_ a0 9) ∧ Int32.toInt (I_ a0 9) ≤ 4 ∧ Int32.toInt (I_ a0 13) = 0 ∧ Int32.toInt (I0 a0 8) ≤ Int32.toInt (I_ a0 8) ∧ Int32.toInt (I0 a0 8) + Int32.toInt (I_ a0 9) ≤ Int32.toInt (I_ a0 8) + 3 ∧ (Int32.toInt (I_ F 0) = -1 ∨ 1 ≤ Int32.toInt (I_ F 0)) ∧ (Int32.toInt (I_ F 4) = -1 ∨ 1 ≤ Int32.toInt (I_ F 4)) ∧ Int32.toInt (I_ F 10) = Int32.toInt (I_ F 8) + Int32.toInt (I_ F 9) + 0)) ∧ (I_ a0 6).toInt = (I0 a0 6).toInt ∧ (I_ a0 7).toInt = (I0 a0 7).toInt ∧ (I_ a0 18).toInt = (I0 a0 18).toInt ∧ (I_ B 0).toInt = (I0 B 0).toInt ∧ (I_ B 4).toInt = (I0 B 4).toInt ∧ (I_ B 7).toInt = (I0 B 7).toInt ∧ (I_ F 0).toInt = (I0 F 0).toInt ∧ (I_ F 4).toInt = (I0 F 4).toInt ∧ (I_ F 7).toInt = (I0 F 7).toInt ∧ (I_ F 8).toInt = (I0 F 8).toInt ∧ (I_ F 9).toInt = (I0 F 9).toInt ∧ (I_ F 10).toInt = (I0 F 10).toInt) P K I0 O J0) := by
  refine Con.ofG mfMo_readBin (Nat.le_of_ble_eq_true rfl) ?_
  intro X C E
  have ok_a0_7 := hV.2 a0 h0.1 7
  rw [h0.2] at ok_a0_7
  have ok_a0_7 : 0 ≤ (I0 a0 7).toInt ∧ (I0 a0 7).toInt ≤ 700 := ok_a0_7
  have ok_a0_8 := hV.2 a0 h0.1 8
  rw [h0.2] at ok_a0_8
  have ok_a0_8 : 0 ≤ (I0 a0 8).toInt ∧ (I0 a0 8).toInt ≤ 700 := ok_a0_8
  have ok_F_7 := hV.2 F hFk.1 7
  rw [hFk.2] at ok_F_7
  have ok_F_7 : 0 ≤ (I0 F 7).toInt ∧ (I0 F 7).toInt ≤ 6 := ok_F_7
  have ok_F_8 := hV.2 F hFk.1 8
  rw [hFk.2] at ok_F_8
  have ok_F_8 : 0 ≤ (I0 F 8).toInt ∧ (I0 F 8).toInt ≤ 5 := ok_F_8
  have ok_F_9 := hV.2 F hFk.1 9
  rw [hFk.2] at ok_F_9
  have ok_F_9 : 0 ≤ (I0 F 9).toInt ∧ (I0 F 9).toInt ≤ 4 := ok_F_9
  have ok_F_10 := hV.2 F hFk.1 10
  rw [hFk.2] at ok_F_10
  have ok_F_10 : 0 ≤ (I0 F 10).toInt ∧ (I0 F 10).toInt ≤ 9 := ok_F_10
  have hV0 : SV frQ P K O I0 J0 I0 J0 := SV.rf hV
  refine g_aload_n C dMo_readBin_0 rfl ?_
  refine g_aload_n C dMo_readBin_1 rfl ?_
  refine gt_getS C dMo_readBin_2 fl_Mo_172 h0 hFo ?_
  refine g_geti C dMo_readBin_5 fl_Mo_186 hFk ?_
  refine g_iconst (v := Int32.ofInt (-1)) C dMo_readBin_8 (by decide) ?_
  have jn_17 : ∀  (s0_17 : Int32), (Int32.toInt (I0 a0 6) = Int32.toInt (I0 a0 6)) → (Int32.toInt (I0 a0 7) = Int32.toInt (I0 a0 7)) → (Int32.toInt (I0 a0 18) = Int32.toInt (I0 a0 18)) → (Int32.toInt (I0 B 0) = Int32.toInt (I0 B 0)) → (Int32.toInt (I0 B 4) = Int32.toInt (I0 B 4)) → (Int32.toInt (I0 B 7) = Int32.toInt (I0 B 7)) → (Int32.toInt (I0 F 0) = Int32.toInt (I0 F 0)) → (Int32.toInt (I0 F 4) = Int32.toInt (I0 F 4)) → (Int32.toInt (I0 F 7) = Int32.toInt (I0 F 7)) → (Int32.toInt (I0 F 8) = Int32.toInt (I0 F 8)) → (Int32.toInt (I0 F 9) = Int32.toInt (I0 F 9)) → (Int32.toInt (I0 F 10) = Int32.toInt (I0 F 10)) → GG X 1 P K I0 O J0 0 0 17 [(0, .ref a0)] [.int s0_17, .ref a0] := by
    intro s0_17 jv0_17 jv1_17 jv2_17 jv3_17 jv4_17 jv5_17 jv6_17 jv7_17 jv8_17 jv9_17 jv10_17 jv11_17
    refine s_callV_v (av := fun ad => [.int s0_17]) C dMo_readBin_17 mfMo_once mvMo_once ln_Mo_218 h0 (by decide) rfl hV0 (frL_le (by decide)) (cMo_once_N hV0.1 h0 (by omega)) rfl rfl (Nat.le_of_ble_eq_true rfl) ⟨Nat.le_of_ble_eq_true rfl, Nat.le_of_ble_eq_true rfl⟩ ⟨rfl, rfl⟩ ⟨Nat.zero_le _, Nat.zero_le _⟩ (fun Iw2 Jw2 hVw2 hFw2 p_17 => ?_)
    have tkw2_F_0 : (Iw2 F 0).toInt = (I0 F 0).toInt := by rw [(hFw2 F (by rw [hFk.2]; rfl)).1 0]
    have tkw2_F_4 : (Iw2 F 4).toInt = (I0 F 4).toInt := by rw [(hFw2 F (by rw [hFk.2]; rfl)).1 4]
    have tkw2_F_8 : (Iw2 F 8).toInt = (I0 F 8).toInt := by rw [(hFw2 F (by rw [hFk.2]; rfl)).1 8]
    have tkw2_F_9 : (Iw2 F 9).toInt = (I0 F 9).toInt := by rw [(hFw2 F (by rw [hFk.2]; rfl)).1 9]
    have tkw2_F_10 : (Iw2 F 10).toInt = (I0 F 10).toInt := by rw [(hFw2 F (by rw [hFk.2]; rfl)).1 10]
    have tkw2_B_0 : (Iw2 B 0).toInt = (I0 B 0).toInt := by rw [(hFw2 B (by rw [hBk.2]; rfl)).1 0]
    have tkw2_B_4 : (Iw2 B 4).toInt = (I0 B 4).toInt := by rw [(hFw2 B (by rw [hBk.2]; rfl)).1 4]
    have tkw2_B_7 : (Iw2 B 7).toInt = (I0 B 7).toInt := by rw [(hFw2 B (by rw [hBk.2]; rfl)).1 7]
    have tkw2_F_7 : (Iw2 F 7).toInt = (I0 F 7).toInt := by rw [(hFw2 F (by rw [hFk.2]; rfl)).1 7]
    try dsimp only at p_17
    rcases p_17 with ⟨p_17 | p_17, pk_17⟩
    · skip
      refine g_aload_n C dMo_readBin_20 rfl ?_
      refine gt_getS C dMo_readBin_21 fl_Mo_172 h0 hFo ?_
      refine g_aload_n C dMo_readBin_24 rfl ?_
      refine g_iconst (v := Int32.ofInt (1)) C dMo_readBin_25 (by decide) ?_
      refine g_sipush (v := Int32.ofInt (999)) C dMo_readBin_26 (by decide) ?_
      refine s_callV_i (av := fun ad => [.int (Int32.ofInt (1)), .int (Int32.ofInt (999))]) C dMo_readBin_29 mfMo_readWhole mvMo_readWhole ln_Mo_227 h0 (by decide) rfl hVw2 (frL_le (by decide)) (cMo_readWhole_O hVw2.1 h0 (by have hk1 : Int32.toInt (Int32.ofInt (1)) = 1 := ofI (by decide); have hk2 : Int32.toInt (Int32.ofInt (999)) = 999 := ofI (by decide); omega)) rfl rfl (Nat.le_of_ble_eq_true rfl) ⟨Nat.le_of_ble_eq_true rfl, Nat.le_of_ble_eq_true rfl⟩ ⟨rfl, rfl⟩ ⟨Nat.zero_le _, Nat.zero_le _⟩ (fun Iw3 Jw3 hVw3 hFw3 z_29 p_29 => ?_)
      have tkw3_F_0 : (Iw3 F 0).toInt = (Iw2 F 0).toInt := by rw [(hFw3 F (by rw [hFk.2]; rfl)).1 0]
      have tkw3_F_4 : (Iw3 F 4).toInt = (Iw2 F 4).toInt := by rw [(hFw3 F (by rw [hFk.2]; rfl)).1 4]
      have tkw3_F_8 : (Iw3 F 8).toInt = (Iw2 F 8).toInt := by rw [(hFw3 F (by rw [hFk.2]; rfl)).1 8]
      have tkw3_F_9 : (Iw3 F 9).toInt = (Iw2 F 9).toInt := by rw [(hFw3 F (by rw [hFk.2]; rfl)).1 9]
      have tkw3_F_10 : (Iw3 F 10).toInt = (Iw2 F 10).toInt := by rw [(hFw3 F (by rw [hFk.2]; rfl)).1 10]
      have tkw3_B_0 : (Iw3 B 0).toInt = (Iw2 B 0).toInt := by rw [(hFw3 B (by rw [hBk.2]; rfl)).1 0]
      have tkw3_B_4 : (Iw3 B 4).toInt = (Iw2 B 4).toInt := by rw [(hFw3 B (by rw [hBk.2]; rfl)).1 4]
      have tkw3_B_7 : (Iw3 B 7).toInt = (Iw2 B 7).toInt := by rw [(hFw3 B (by rw [hBk.2]; rfl)).1 7]
      have tkw3_F_7 : (Iw3 F 7).toInt = (Iw2 F 7).toInt := by rw [(hFw3 F (by rw [hFk.2]; rfl)).1 7]
      have rz_29 := rg z_29
      try dsimp only at p_29
      have hk1_29 : Int32.toInt (Int32.ofInt (1)) = 1 := ofI (by decide)
      have hk2_29 : Int32.toInt (Int32.ofInt (999)) = 999 := ofI (by decide)
      refine gt_puti C dMo_readBin_32 fl_Mo_186 hFk hVw3 rfl trivial rfl (Or.inl rfl) (fun Iw4 eIw4 hVw4 => ?_)
      have tkw4_a0_8 : (Iw4 a0 8).toInt = (Iw3 a0 8).toInt := by rw [eIw4, up2_ne _ _ (fun z => by have q := h0.2; rw [z.1, hFk.2] at q; exact absurd q (by decide))]
      have tkw4_a0_9 : (Iw4 a0 9).toInt = (Iw3 a0 9).toInt := by rw [eIw4, up2_ne _ _ (fun z => by have q := h0.2; rw [z.1, hFk.2] at q; exact absurd q (by decide))]
      have tkw4_a0_13 : (Iw4 a0 13).toInt = (Iw3 a0 13).toInt := by rw [eIw4, up2_ne _ _ (fun z => by have q := h0.2; rw [z.1, hFk.2] at q; exact absurd q (by decide))]
      have tkw4_F_0 : (Iw4 F 0).toInt = (Iw3 F 0).toInt := by rw [eIw4, up2_ne _ _ (fun z => absurd z.2 (by decide))]
      have tkw4_F_4 : (Iw4 F 4).toInt = (Iw3 F 4).toInt := by rw [eIw4, up2_ne _ _ (fun z => absurd z.2 (by decide))]
      have tkw4_F_8 : (Iw4 F 8).toInt = (Iw3 F 8).toInt := by rw [eIw4, up2_ne _ _ (fun z => absurd z.2 (by decide))]
      have tkw4_F_9 : (Iw4 F 9).toInt = (Iw3 F 9).toInt := by rw [eIw4, up2_ne _ _ (fun z => absurd z.2 (by decide))]
      have tkw4_F_10 : (Iw4 F 10).toInt = (Iw3 F 10).toInt := by rw [eIw4, up2_ne _ _ (fun z => absurd z.2 (by decide))]
      have tkw4_a0_6 : (Iw4 a0 6).toInt = (Iw3 a0 6).toInt := by rw [eIw4, up2_ne _ _ (fun z => by have q := h0.2; rw [z.1, hFk.2] at q; exact absurd q (by decide))]
      have tkw4_a0_7 : (Iw4 a0 7).toInt = (Iw3 a0 7).toInt := by rw [eIw4, up2_ne _ _ (fun z => by have q := h0.2; rw [z.1, hFk.2] at q; exact absurd q (by decide))]
      have tkw4_a0_18 : (Iw4 a0 18).toInt = (Iw3 a0 18).toInt := by rw [eIw4, up2_ne _ _ (fun z => by have q := h0.2; rw [z.1, hFk.2] at q; exact absurd q (by decide))]
      have tkw4_B_0 : (Iw4 B 0).toInt = (Iw3 B 0).toInt := by rw [eIw4, up2_ne _ _ (fun z => absurd z.2 (by decide))]
      have tkw4_B_4 : (Iw4 B 4).toInt = (Iw3 B 4).toInt := by rw [eIw4, up2_ne _ _ (fun z => absurd z.2 (by decide))]
      have tkw4_B_7 : (Iw4 B 7).toInt = (Iw3 B 7).toInt := by rw [eIw4, up2_ne _ _ (fun z => absurd z.2 (by decide))]
      have tkw4_F_7 : (Iw4 F 7).toInt = (Iw3 F 7).toInt := by rw [eIw4, up2_ne _ _ (fun z => absurd z.2 (by decide))]
      refine g_aload_n C dMo_readBin_35 rfl ?_
      refine g_ldcS 26 C dMo_readBin_36 rfl ?_
      refine s_callV_v (av := fun ad => [.ref (ad.1 26)]) C dMo_readBin_38 mfMo_needWord mvMo_needWord ln_Mo_223 h0 (by decide) rfl hVw4 (frL_le (by decide)) (cMo_needWord_O hVw4.1 h0 (by decide) (by omega)) rfl rfl (Nat.le_of_ble_eq_true rfl) ⟨Nat.le_of_ble_eq_true rfl, Nat.le_of_ble_eq_true rfl⟩ ⟨rfl, rfl⟩ ⟨Nat.zero_le _, Nat.zero_le _⟩ (fun Iw5 Jw5 hVw5 hFw5 p_38 => ?_)
      have tkw5_F_0 : (Iw5 F 0).toInt = (Iw4 F 0).toInt := by rw [(hFw5 F (by rw [hFk.2]; rfl)).1 0]
      have tkw5_F_4 : (Iw5 F 4).toInt = (Iw4 F 4).toInt := by rw [(hFw5 F (by rw [hFk.2]; rfl)).1 4]
      have tkw5_F_8 : (Iw5 F 8).toInt = (Iw4 F 8).toInt := by rw [(hFw5 F (by rw [hFk.2]; rfl)).1 8]
      have tkw5_F_9 : (Iw5 F 9).toInt = (Iw4 F 9).toInt := by rw [(hFw5 F (by rw [hFk.2]; rfl)).1 9]
      have tkw5_F_10 : (Iw5 F 10).toInt = (Iw4 F 10).toInt := by rw [(hFw5 F (by rw [hFk.2]; rfl)).1 10]
      have tkw5_B_0 : (Iw5 B 0).toInt = (Iw4 B 0).toInt := by rw [(hFw5 B (by rw [hBk.2]; rfl)).1 0]
      have tkw5_B_4 : (Iw5 B 4).toInt = (Iw4 B 4).toInt := by rw [(hFw5 B (by rw [hBk.2]; rfl)).1 4]
      have tkw5_B_7 : (Iw5 B 7).toInt = (Iw4 B 7).toInt := by rw [(hFw5 B (by rw [hBk.2]; rfl)).1 7]
      have tkw5_F_7 : (Iw5 F 7).toInt = (Iw4 F 7).toInt := by rw [(hFw5 F (by rw [hFk.2]; rfl)).1 7]
      try dsimp only at p_38
      refine g_aload_n C dMo_readBin_41 rfl ?_
      refine gt_getS C dMo_readBin_42 fl_Mo_172 h0 hFo ?_
      refine g_aload_n C dMo_readBin_45 rfl ?_
      refine g_iconst (v := Int32.ofInt (0)) C dMo_readBin_46 (by decide) ?_
      refine g_sipush (v := Int32.ofInt (200)) C dMo_readBin_47 (by decide) ?_
      refine s_callV_i (av := fun ad => [.int (Int32.ofInt (0)), .int (Int32.ofInt (200))]) C dMo_readBin_50 mfMo_readWhole mvMo_readWhole ln_Mo_227 h0 (by decide) rfl hVw5 (frL_le (by decide)) (cMo_readWhole_O hVw5.1 h0 (by have hk1 : Int32.toInt (Int32.ofInt (0)) = 0 := ofI (by decide); have hk2 : Int32.toInt (Int32.ofInt (200)) = 200 := ofI (by decide); omega)) rfl rfl (Nat.le_of_ble_eq_true rfl) ⟨Nat.le_of_ble_eq_true rfl, Nat.le_of_ble_eq_true rfl⟩ ⟨rfl, rfl⟩ ⟨Nat.zero_le _, Nat.zero_le _⟩ (fun Iw6 Jw6 hVw6 hFw6 z_50 p_50 => ?_)
      have tkw6_F_0 : (Iw6 F 0).toInt = (Iw5 F 0).toInt := by rw [(hFw6 F (by rw [hFk.2]; rfl)).1 0]
      have tkw6_F_4 : (Iw6 F 4).toInt = (Iw5 F 4).toInt := by rw [(hFw6 F (by rw [hFk.2]; rfl)).1 4]
      have tkw6_F_8 : (Iw6 F 8).toInt = (Iw5 F 8).toInt := by rw [(hFw6 F (by rw [hFk.2]; rfl)).1 8]
      have tkw6_F_9 : (Iw6 F 9).toInt = (Iw5 F 9).toInt := by rw [(hFw6 F (by rw [hFk.2]; rfl)).1 9]
      have tkw6_F_10 : (Iw6 F 10).toInt = (Iw5 F 10).toInt := by rw [(hFw6 F (by rw [hFk.2]; rfl)).1 10]
      have tkw6_B_0 : (Iw6 B 0).toInt = (Iw5 B 0).toInt := by rw [(hFw6 B (by rw [hBk.2]; rfl)).1 0]
      have tkw6_B_4 : (Iw6 B 4).toInt = (Iw5 B 4).toInt := by rw [(hFw6 B (by rw [hBk.2]; rfl)).1 4]
      have tkw6_B_7 : (Iw6 B 7).toInt = (Iw5 B 7).toInt := by rw [(hFw6 B (by rw [hBk.2]; rfl)).1 7]
      have tkw6_F_7 : (Iw6 F 7).toInt = (Iw5 F 7).toInt := by rw [(hFw6 F (by rw [hFk.2]; rfl)).1 7]
      have rz_50 := rg z_50
      try dsimp only at p_50
      have hk1_50 : Int32.toInt (Int32.ofInt (0)) = 0 := ofI (by decide)
      have hk2_50 : Int32.toInt (Int32.ofInt (200)) = 200 := ofI (by decide)
      refine gt_puti C dMo_readBin_53 fl_Mo_252 hFk hVw6 rfl trivial rfl (Or.inl rfl) (fun Iw7 eIw7 hVw7 => ?_)
      have tkw7_a0_8 : (Iw7 a0 8).toInt = (Iw6 a0 8).toInt := by rw [eIw7, up2_ne _ _ (fun z => by have q := h0.2; rw [z.1, hFk.2] at q; exact absurd q (by decide))]
      have tkw7_a0_9 : (Iw7 a0 9).toInt = (Iw6 a0 9).toInt := by rw [eIw7, up2_ne _ _ (fun z => by have q := h0.2; rw [z.1, hFk.2] at q; exact absurd q (by decide))]
      have tkw7_a0_13 : (Iw7 a0 13).toInt = (Iw6 a0 13).toInt := by rw [eIw7, up2_ne _ _ (fun z => by have q := h0.2; rw [z.1, hFk.2] at q; exact absurd q (by decide))]
      have tkw7_F_0 : (Iw7 F 0).toInt = (Iw6 F 0).toInt := by rw [eIw7, up2_ne _ _ (fun z => absurd z.2 (by decide))]
      have tkw7_F_4 : (Iw7 F 4).toInt = (Iw6 F 4).toInt := by rw [eIw7, up2_ne _ _ (fun z => absurd z.2 (by decide))]
      have tkw7_F_8 : (Iw7 F 8).toInt = (Iw6 F 8).toInt := by rw [eIw7, up2_ne _ _ (fun z => absurd z.2 (by decide))]
      have tkw7_F_9 : (Iw7 F 9).toInt = (Iw6 F 9).toInt := by rw [eIw7, up2_ne _ _ (fun z => absurd z.2 (by decide))]
      have tkw7_F_10 : (Iw7 F 10).toInt = (Iw6 F 10).toInt := by rw [eIw7, up2_ne _ _ (fun z => absurd z.2 (by decide))]
      have tkw7_a0_6 : (Iw7 a0 6).toInt = (Iw6 a0 6).toInt := by rw [eIw7, up2_ne _ _ (fun z => by have q := h0.2; rw [z.1, hFk.2] at q; exact absurd q (by decide))]
      have tkw7_a0_7 : (Iw7 a0 7).toInt = (Iw6 a0 7).toInt := by rw [eIw7, up2_ne _ _ (fun z => by have q := h0.2; rw [z.1, hFk.2] at q; exact absurd q (by decide))]
      have tkw7_a0_18 : (Iw7 a0 18).toInt = (Iw6 a0 18).toInt := by rw [eIw7, up2_ne _ _ (fun z => by have q := h0.2; rw [z.1, hFk.2] at q; exact absurd q (by decide))]
      have tkw7_B_0 : (Iw7 B 0).toInt = (Iw6 B 0).toInt := by rw [eIw7, up2_ne _ _ (fun z => absurd z.2 (by decide))]
      have tkw7_B_4 : (Iw7 B 4).toInt = (Iw6 B 4).toInt := by rw [eIw7, up2_ne _ _ (fun z => absurd z.2 (by decide))]
      have tkw7_B_7 : (Iw7 B 7).toInt = (Iw6 B 7).toInt := by rw [eIw7, up2_ne _ _ (fun z => absurd z.2 (by decide))]
      have tkw7_F_7 : (Iw7 F 7).toInt = (Iw6 F 7).toInt := by rw [eIw7, up2_ne _ _ (fun z => absurd z.2 (by decide))]
      exact s_vret C E dMo_readBin_56 ⟨Nat.zero_le _, Nat.zero_le _⟩ hVw7 (by (try dsimp only); omega)
    · skip
      refine g_aload_n C dMo_readBin_20 rfl ?_
      refine gt_getS C dMo_readBin_21 fl_Mo_172 h0 hFo ?_
      refine g_aload_n C dMo_readBin_24 rfl ?_
      refine g_iconst (v := Int32.ofInt (1)) C dMo_readBin_25 (by decide) ?_
      refine g_sipush (v := Int32.ofInt (999)) C dMo_readBin_26 (by decide) ?_
      refine s_callV_i (av := fun ad => [.int (Int32.ofInt (1)), .int (Int32.ofInt (999))]) C dMo_readBin_29 mfMo_readWhole mvMo_readWhole ln_Mo_227 h0 (by decide) rfl hVw2 (frL_le (by decide)) (cMo_readWhole_N hVw2.1 h0 (by have hk1 : Int32.toInt (Int32.ofInt (1)) = 1 := ofI (by decide); have hk2 : Int32.toInt (Int32.ofInt (999)) = 999 := ofI (by decide); omega)) rfl rfl (Nat.le_of_ble_eq_true rfl) ⟨Nat.le_of_ble_eq_true rfl, Nat.le_of_ble_eq_true rfl⟩ ⟨rfl, rfl⟩ ⟨Nat.zero_le _, Nat.zero_le _⟩ (fun Iw8 Jw8 hVw8 hFw8 z_29 p_29 => ?_)
      have tkw8_F_0 : (Iw8 F 0).toInt = (Iw2 F 0).toInt := by rw [(hFw8 F (by rw [hFk.2]; rfl)).1 0]
      have tkw8_F_4 : (Iw8 F 4).toInt = (Iw2 F 4).toInt := by rw [(hFw8 F (by rw [hFk.2]; rfl)).1 4]
      have tkw8_F_8 : (Iw8 F 8).toInt = (Iw2 F 8).toInt := by rw [(hFw8 F (by rw [hFk.2]; rfl)).1 8]
      have tkw8_F_9 : (Iw8 F 9).toInt = (Iw2 F 9).toInt := by rw [(hFw8 F (by rw [hFk.2]; rfl)).1 9]
      have tkw8_F_10 : (Iw8 F 10).toInt = (Iw2 F 10).toInt := by rw [(hFw8 F (by rw [hFk.2]; rfl)).1 10]
      have tkw8_B_0 : (Iw8 B 0).toInt = (Iw2 B 0).toInt := by rw [(hFw8 B (by rw [hBk.2]; rfl)).1 0]
      have tkw8_B_4 : (Iw8 B 4).toInt = (Iw2 B 4).toInt := by rw [(hFw8 B (by rw [hBk.2]; rfl)).1 4]
      have tkw8_B_7 : (Iw8 B 7).toInt = (Iw2 B 7).toInt := by rw [(hFw8 B (by rw [hBk.2]; rfl)).1 7]
      have tkw8_F_7 : (Iw8 F 7).toInt = (Iw2 F 7).toInt := by rw [(hFw8 F (by rw [hFk.2]; rfl)).1 7]
      have rz_29 := rg z_29
      try dsimp only at p_29
      have hk1_29 : Int32.toInt (Int32.ofInt (1)) = 1 := ofI (by decide)
      have hk2_29 : Int32.toInt (Int32.ofInt (999)) = 999 := ofI (by decide)
      rcases p_29 with ⟨p_29 | p_29, pk_29⟩
      · skip
        refine gt_puti C dMo_readBin_32 fl_Mo_186 hFk hVw8 rfl trivial rfl (Or.inl rfl) (fun Iw9 eIw9 hVw9 => ?_)
        have tkw9_a0_8 : (Iw9 a0 8).toInt = (Iw8 a0 8).toInt := by rw [eIw9, up2_ne _ _ (fun z => by have q := h0.2; rw [z.1, hFk.2] at q; exact absurd q (by decide))]
        have tkw9_a0_9 : (Iw9 a0 9).toInt = (Iw8 a0 9).toInt := by rw [eIw9, up2_ne _ _ (fun z => by have q := h0.2; rw [z.1, hFk.2] at q; exact absurd q (by decide))]
        have tkw9_a0_13 : (Iw9 a0 13).toInt = (Iw8 a0 13).toInt := by rw [eIw9, up2_ne _ _ (fun z => by have q := h0.2; rw [z.1, hFk.2] at q; exact absurd q (by decide))]
        have tkw9_F_0 : (Iw9 F 0).toInt = (Iw8 F 0).toInt := by rw [eIw9, up2_ne _ _ (fun z => absurd z.2 (by decide))]
        have tkw9_F_4 : (Iw9 F 4).toInt = (Iw8 F 4).toInt := by rw [eIw9, up2_ne _ _ (fun z => absurd z.2 (by decide))]
        have tkw9_F_8 : (Iw9 F 8).toInt = (Iw8 F 8).toInt := by rw [eIw9, up2_ne _ _ (fun z => absurd z.2 (by decide))]
        have tkw9_F_9 : (Iw9 F 9).toInt = (Iw8 F 9).toInt := by rw [eIw9, up2_ne _ _ (fun z => absurd z.2 (by decide))]
        have tkw9_F_10 : (Iw9 F 10).toInt = (Iw8 F 10).toInt := by rw [eIw9, up2_ne _ _ (fun z => absurd z.2 (by decide))]
        have tkw9_a0_6 : (Iw9 a0 6).toInt = (Iw8 a0 6).toInt := by rw [eIw9, up2_ne _ _ (fun z => by have q := h0.2; rw [z.1, hFk.2] at q; exact absurd q (by decide))]
        have tkw9_a0_7 : (Iw9 a0 7).toInt = (Iw8 a0 7).toInt := by rw [eIw9, up2_ne _ _ (fun z => by have q := h0.2; rw [z.1, hFk.2] at q; exact absurd q (by decide))]
        have tkw9_a0_18 : (Iw9 a0 18).toInt = (Iw8 a0 18).toInt := by rw [eIw9, up2_ne _ _ (fun z => by have q := h0.2; rw [z.1, hFk.2] at q; exact absurd q (by decide))]
        have tkw9_B_0 : (Iw9 B 0).toInt = (Iw8 B 0).toInt := by rw [eIw9, up2_ne _ _ (fun z => absurd z.2 (by decide))]
        have tkw9_B_4 : (Iw9 B 4).toInt = (Iw8 B 4).toInt := by rw [eIw9, up2_ne _ _ (fun z => absurd z.2 (by decide))]
        have tkw9_B_7 : (Iw9 B 7).toInt = (Iw8 B 7).toInt := by rw [eIw9, up2_ne _ _ (fun z => absurd z.2 (by decide))]
        have tkw9_F_7 : (Iw9 F 7).toInt = (Iw8 F 7).toInt := by rw [eIw9, up2_ne _ _ (fun z => absurd z.2 (by decide))]
        refine g_aload_n C dMo_readBin_35 rfl ?_
        refine g_ldcS 26 C dMo_readBin_36 rfl ?_
        refine s_callV_v (av := fun ad => [.ref (ad.1 26)]) C dMo_readBin_38 mfMo_needWord mvMo_needWord ln_Mo_223 h0 (by decide) rfl hVw9 (frL_le (by decide)) (cMo_needWord_O hVw9.1 h0 (by decide) (by omega)) rfl rfl (Nat.le_of_ble_eq_true rfl) ⟨Nat.le_of_ble_eq_true rfl, Nat.le_of_ble_eq_true rfl⟩ ⟨rfl, rfl⟩ ⟨Nat.zero_le _, Nat.zero_le _⟩ (fun Iw10 Jw10 hVw10 hFw10 p_38 => ?_)
        have tkw10_F_0 : (Iw10 F 0).toInt = (Iw9 F 0).toInt := by rw [(hFw10 F (by rw [hFk.2]; rfl)).1 0]
        have tkw10_F_4 : (Iw10 F 4).toInt = (Iw9 F 4).toInt := by rw [(hFw10 F (by rw [hFk.2]; rfl)).1 4]
        have tkw10_F_8 : (Iw10 F 8).toInt = (Iw9 F 8).toInt := by rw [(hFw10 F (by rw [hFk.2]; rfl)).1 8]
        have tkw10_F_9 : (Iw10 F 9).toInt = (Iw9 F 9).toInt := by rw [(hFw10 F (by rw [hFk.2]; rfl)).1 9]
        have tkw10_F_10 : (Iw10 F 10).toInt = (Iw9 F 10).toInt := by rw [(hFw10 F (by rw [hFk.2]; rfl)).1 10]
        have tkw10_B_0 : (Iw10 B 0).toInt = (Iw9 B 0).toInt := by rw [(hFw10 B (by rw [hBk.2]; rfl)).1 0]
        have tkw10_B_4 : (Iw10 B 4).toInt = (Iw9 B 4).toInt := by rw [(hFw10 B (by rw [hBk.2]; rfl)).1 4]
        have tkw10_B_7 : (Iw10 B 7).toInt = (Iw9 B 7).toInt := by rw [(hFw10 B (by rw [hBk.2]; rfl)).1 7]
        have tkw10_F_7 : (Iw10 F 7).toInt = (Iw9 F 7).toInt := by rw [(hFw10 F (by rw [hFk.2]; rfl)).1 7]
        try dsimp only at p_38
        refine g_aload_n C dMo_readBin_41 rfl ?_
        refine gt_getS C dMo_readBin_42 fl_Mo_172 h0 hFo ?_
        refine g_aload_n C dMo_readBin_45 rfl ?_
        refine g_iconst (v := Int32.ofInt (0)) C dMo_readBin_46 (by decide) ?_
        refine g_sipush (v := Int32.ofInt (200)) C dMo_readBin_47 (by decide) ?_
        refine s_callV_i (av := fun ad => [.int (Int32.ofInt (0)), .int (Int32.ofInt (200))]) C dMo_readBin_50 mfMo_readWhole mvMo_readWhole ln_Mo_227 h0 (by decide) rfl hVw10 (frL_le (by decide)) (cMo_readWhole_O hVw10.1 h0 (by have hk1 : Int32.toInt (Int32.ofInt (0)) = 0 := ofI (by decide); have hk2 : Int32.toInt (Int32.ofInt (200)) = 200 := ofI (by decide); omega)) rfl rfl (Nat.le_of_ble_eq_true rfl) ⟨Nat.le_of_ble_eq_true rfl, Nat.le_of_ble_eq_true rfl⟩ ⟨rfl, rfl⟩ ⟨Nat.zero_le _, Nat.zero_le _⟩ (fun Iw11 Jw11 hVw11 hFw11 z_50 p_50 => ?_)
        have tkw11_F_0 : (Iw11 F 0).toInt = (Iw10 F 0).toInt := by rw [(hFw11 F (by rw [hFk.2]; rfl)).1 0]
        have tkw11_F_4 : (Iw11 F 4).toInt = (Iw10 F 4).toInt := by rw [(hFw11 F (by rw [hFk.2]; rfl)).1 4]
        have tkw11_F_8 : (Iw11 F 8).toInt = (Iw10 F 8).toInt := by rw [(hFw11 F (by rw [hFk.2]; rfl)).1 8]
        have tkw11_F_9 : (Iw11 F 9).toInt = (Iw10 F 9).toInt := by rw [(hFw11 F (by rw [hFk.2]; rfl)).1 9]
        have tkw11_F_10 : (Iw11 F 10).toInt = (Iw10 F 10).toInt := by rw [(hFw11 F (by rw [hFk.2]; rfl)).1 10]
        have tkw11_B_0 : (Iw11 B 0).toInt = (Iw10 B 0).toInt := by rw [(hFw11 B (by rw [hBk.2]; rfl)).1 0]
        have tkw11_B_4 : (Iw11 B 4).toInt = (Iw10 B 4).toInt := by rw [(hFw11 B (by rw [hBk.2]; rfl)).1 4]
        have tkw11_B_7 : (Iw11 B 7).toInt = (Iw10 B 7).toInt := by rw [(hFw11 B (by rw [hBk.2]; rfl)).1 7]
        have tkw11_F_7 : (Iw11 F 7).toInt = (Iw10 F 7).toInt := by rw [(hFw11 F (by rw [hFk.2]; rfl)).1 7]
        have rz_50 := rg z_50
        try dsimp only at p_50
        have hk1_50 : Int32.toInt (Int32.ofInt (0)) = 0 := ofI (by decide)
        have hk2_50 : Int32.toInt (Int32.ofInt (200)) = 200 := ofI (by decide)
        refine gt_puti C dMo_readBin_53 fl_Mo_252 hFk hVw11 rfl trivial rfl (Or.inl rfl) (fun Iw12 eIw12 hVw12 => ?_)
        have tkw12_a0_8 : (Iw12 a0 8).toInt = (Iw11 a0 8).toInt := by rw [eIw12, up2_ne _ _ (fun z => by have q := h0.2; rw [z.1, hFk.2] at q; exact absurd q (by decide))]
        have tkw12_a0_9 : (Iw12 a0 9).toInt = (Iw11 a0 9).toInt := by rw [eIw12, up2_ne _ _ (fun z => by have q := h0.2; rw [z.1, hFk.2] at q; exact absurd q (by decide))]
        have tkw12_a0_13 : (Iw12 a0 13).toInt = (Iw11 a0 13).toInt := by rw [eIw12, up2_ne _ _ (fun z => by have q := h0.2; rw [z.1, hFk.2] at q; exact absurd q (by decide))]
        have tkw12_F_0 : (Iw12 F 0).toInt = (Iw11 F 0).toInt := by rw [eIw12, up2_ne _ _ (fun z => absurd z.2 (by decide))]
        have tkw12_F_4 : (Iw12 F 4).toInt = (Iw11 F 4).toInt := by rw [eIw12, up2_ne _ _ (fun z => absurd z.2 (by decide))]
        have tkw12_F_8 : (Iw12 F 8).toInt = (Iw11 F 8).toInt := by rw [eIw12, up2_ne _ _ (fun z => absurd z.2 (by decide))]
        have tkw12_F_9 : (Iw12 F 9).toInt = (Iw11 F 9).toInt := by rw [eIw12, up2_ne _ _ (fun z => absurd z.2 (by decide))]
        have tkw12_F_10 : (Iw12 F 10).toInt = (Iw11 F 10).toInt := by rw [eIw12, up2_ne _ _ (fun z => absurd z.2 (by decide))]
        have tkw12_a0_6 : (Iw12 a0 6).toInt = (Iw11 a0 6).toInt := by rw [eIw12, up2_ne _ _ (fun z => by have q := h0.2; rw [z.1, hFk.2] at q; exact absurd q (by decide))]
        have tkw12_a0_7 : (Iw12 a0 7).toInt = (Iw11 a0 7).toInt := by rw [eIw12, up2_ne _ _ (fun z => by have q := h0.2; rw [z.1, hFk.2] at q; exact absurd q (by decide))]
        have tkw12_a0_18 : (Iw12 a0 18).toInt = (Iw11 a0 18).toInt := by rw [eIw12, up2_ne _ _ (fun z => by have q := h0.2; rw [z.1, hFk.2] at q; exact absurd q (by decide))]
        have tkw12_B_0 : (Iw12 B 0).toInt = (Iw11 B 0).toInt := by rw [eIw12, up2_ne _ _ (fun z => absurd z.2 (by decide))]
        have tkw12_B_4 : (Iw12 B 4).toInt = (Iw11 B 4).toInt := by rw [eIw12, up2_ne _ _ (fun z => absurd z.2 (by decide))]
        have tkw12_B_7 : (Iw12 B 7).toInt = (Iw11 B 7).toInt := by rw [eIw12, up2_ne _ _ (fun z => absurd z.2 (by decide))]
        have tkw12_F_7 : (Iw12 F 7).toInt = (Iw11 F 7).toInt := by rw [eIw12, up2_ne _ _ (fun z => absurd z.2 (by decide))]
        exact s_vret C E dMo_readBin_56 ⟨Nat.zero_le _, Nat.zero_le _⟩ hVw12 (by (try dsimp only); omega)
      · skip
        refine gt_puti C dMo_readBin_32 fl_Mo_186 hFk hVw8 rfl trivial rfl (Or.inl rfl) (fun Iw13 eIw13 hVw13 => ?_)
        have tkw13_a0_8 : (Iw13 a0 8).toInt = (Iw8 a0 8).toInt := by rw [eIw13, up2_ne _ _ (fun z => by have q := h0.2; rw [z.1, hFk.2] at q; exact absurd q (by decide))]
        have tkw13_a0_9 : (Iw13 a0 9).toInt = (Iw8 a0 9).toInt := by rw [eIw13, up2_ne _ _ (fun z => by have q := h0.2; rw [z.1, hFk.2] at q; exact absurd q (by decide))]
        have tkw13_a0_13 : (Iw13 a0 13).toInt = (Iw8 a0 13).toInt := by rw [eIw13, up2_ne _ _ (fun z => by have q := h0.2; rw [z.1, hFk.2] at q; exact absurd q (by decide))]
        have tkw13_F_0 : (Iw13 F 0).toInt = (Iw8 F 0).toInt := by rw [eIw13, up2_ne _ _ (fun z => absurd z.2 (by decide))]
        have tkw13_F_4 : (Iw13 F 4).toInt = (Iw8 F 4).toInt := by rw [eIw13, up2_ne _ _ (fun z => absurd z.2 (by decide))]
        have tkw13_F_8 : (Iw13 F 8).toInt = (Iw8 F 8).toInt := by rw [eIw13, up2_ne _ _ (fun z => absurd z.2 (by decide))]
        have tkw13_F_9 : (Iw13 F 9).toInt = (Iw8 F 9).toInt := by rw [eIw13, up2_ne _ _ (fun z => absurd z.2 (by decide))]
        have tkw13_F_10 : (Iw13 F 10).toInt = (Iw8 F 10).toInt := by rw [eIw13, up2_ne _ _ (fun z => absurd z.2 (by decide))]
        have tkw13_a0_6 : (Iw13 a0 6).toInt = (Iw8 a0 6).toInt := by rw [eIw13, up2_ne _ _ (fun z => by have q := h0.2; rw [z.1, hFk.2] at q; exact absurd q (by decide))]
        have tkw13_a0_7 : (Iw13 a0 7).toInt = (Iw8 a0 7).toInt := by rw [eIw13, up2_ne _ _ (fun z => by have q := h0.2; rw [z.1, hFk.2] at q; exact absurd q (by decide))]
        have tkw13_a0_18 : (Iw13 a0 18).toInt = (Iw8 a0 18).toInt := by rw [eIw13, up2_ne _ _ (fun z => by have q := h0.2; rw [z.1, hFk.2] at q; exact absurd q (by decide))]
        have tkw13_B_0 : (Iw13 B 0).toInt = (Iw8 B 0).toInt := by rw [eIw13, up2_ne _ _ (fun z => absurd z.2 (by decide))]
        have tkw13_B_4 : (Iw13 B 4).toInt = (Iw8 B 4).toInt := by rw [eIw13, up2_ne _ _ (fun z => absurd z.2 (by decide))]
        have tkw13_B_7 : (Iw13 B 7).toInt = (Iw8 B 7).toInt := by rw [eIw13, up2_ne _ _ (fun z => absurd z.2 (by decide))]
        have tkw13_F_7 : (Iw13 F 7).toInt = (Iw8 F 7).toInt := by rw [eIw13, up2_ne _ _ (fun z => absurd z.2 (by decide))]
        refine g_aload_n C dMo_readBin_35 rfl ?_
        refine g_ldcS 26 C dMo_readBin_36 rfl ?_
        refine s_callV_v (av := fun ad => [.ref (ad.1 26)]) C dMo_readBin_38 mfMo_needWord mvMo_needWord ln_Mo_223 h0 (by decide) rfl hVw13 (frL_le (by decide)) (cMo_needWord_N hVw13.1 h0 (by decide) (by omega)) rfl rfl (Nat.le_of_ble_eq_true rfl) ⟨Nat.le_of_ble_eq_true rfl, Nat.le_of_ble_eq_true rfl⟩ ⟨rfl, rfl⟩ ⟨Nat.zero_le _, Nat.zero_le _⟩ (fun Iw14 Jw14 hVw14 hFw14 p_38 => ?_)
        have tkw14_F_0 : (Iw14 F 0).toInt = (Iw13 F 0).toInt := by rw [(hFw14 F (by rw [hFk.2]; rfl)).1 0]
        have tkw14_F_4 : (Iw14 F 4).toInt = (Iw13 F 4).toInt := by rw [(hFw14 F (by rw [hFk.2]; rfl)).1 4]
        have tkw14_F_8 : (Iw14 F 8).toInt = (Iw13 F 8).toInt := by rw [(hFw14 F (by rw [hFk.2]; rfl)).1 8]
        have tkw14_F_9 : (Iw14 F 9).toInt = (Iw13 F 9).toInt := by rw [(hFw14 F (by rw [hFk.2]; rfl)).1 9]
        have tkw14_F_10 : (Iw14 F 10).toInt = (Iw13 F 10).toInt := by rw [(hFw14 F (by rw [hFk.2]; rfl)).1 10]
        have tkw14_B_0 : (Iw14 B 0).toInt = (Iw13 B 0).toInt := by rw [(hFw14 B (by rw [hBk.2]; rfl)).1 0]
        have tkw14_B_4 : (Iw14 B 4).toInt = (Iw13 B 4).toInt := by rw [(hFw14 B (by rw [hBk.2]; rfl)).1 4]
        have tkw14_B_7 : (Iw14 B 7).toInt = (Iw13 B 7).toInt := by rw [(hFw14 B (by rw [hBk.2]; rfl)).1 7]
        have tkw14_F_7 : (Iw14 F 7).toInt = (Iw13 F 7).toInt := by rw [(hFw14 F (by rw [hFk.2]; rfl)).1 7]
        try dsimp only at p_38
        rcases p_38 with ⟨p_38 | p_38, pk_38⟩
        · skip
          refine g_aload_n C dMo_readBin_41 rfl ?_
          refine gt_getS C dMo_readBin_42 fl_Mo_172 h0 hFo ?_
          refine g_aload_n C dMo_readBin_45 rfl ?_
          refine g_iconst (v := Int32.ofInt (0)) C dMo_readBin_46 (by decide) ?_
          refine g_sipush (v := Int32.ofInt (200)) C dMo_readBin_47 (by decide) ?_
          refine s_callV_i (av := fun ad => [.int (Int32.ofInt (0)), .int (Int32.ofInt (200))]) C dMo_readBin_50 mfMo_readWhole mvMo_readWhole ln_Mo_227 h0 (by decide) rfl hVw14 (frL_le (by decide)) (cMo_readWhole_O hVw14.1 h0 (by have hk1 : Int32.toInt (Int32.ofInt (0)) = 0 := ofI (by decide); have hk2 : Int32.toInt (Int32.ofInt (200)) = 200 := ofI (by decide); omega)) rfl rfl (Nat.le_of_ble_eq_true rfl) ⟨Nat.le_of_ble_eq_true rfl, Nat.le_of_ble_eq_true rfl⟩ ⟨rfl, rfl⟩ ⟨Nat.zero_le _, Nat.zero_le _⟩ (fun Iw15 Jw15 hVw15 hFw15 z_50 p_50 => ?_)
          have tkw15_F_0 : (Iw15 F 0).toInt = (Iw14 F 0).toInt := by rw [(hFw15 F (by rw [hFk.2]; rfl)).1 0]
          have tkw15_F_4 : (Iw15 F 4).toInt = (Iw14 F 4).toInt := by rw [(hFw15 F (by rw [hFk.2]; rfl)).1 4]
          have tkw15_F_8 : (Iw15 F 8).toInt = (Iw14 F 8).toInt := by rw [(hFw15 F (by rw [hFk.2]; rfl)).1 8]
          have tkw15_F_9 : (Iw15 F 9).toInt = (Iw14 F 9).toInt := by rw [(hFw15 F (by rw [hFk.2]; rfl)).1 9]
          have tkw15_F_10 : (Iw15 F 10).toInt = (Iw14 F 10).toInt := by rw [(hFw15 F (by rw [hFk.2]; rfl)).1 10]
          have tkw15_B_0 : (Iw15 B 0).toInt = (Iw14 B 0).toInt := by rw [(hFw15 B (by rw [hBk.2]; rfl)).1 0]
          have tkw15_B_4 : (Iw15 B 4).toInt = (Iw14 B 4).toInt := by rw [(hFw15 B (by rw [hBk.2]; rfl)).1 4]
          have tkw15_B_7 : (Iw15 B 7).toInt = (Iw14 B 7).toInt := by rw [(hFw15 B (by rw [hBk.2]; rfl)).1 7]
          have tkw15_F_7 : (Iw15 F 7).toInt = (Iw14 F 7).toInt := by rw [(hFw15 F (by rw [hFk.2]; rfl)).1 7]
          have rz_50 := rg z_50
          try dsimp only at p_50
          have hk1_50 : Int32.toInt (Int32.ofInt (0)) = 0 := ofI (by decide)
          have hk2_50 : Int32.toInt (Int32.ofInt (200)) = 200 := ofI (by decide)
          refine gt_puti C dMo_readBin_53 fl_Mo_252 hFk hVw15 rfl trivial rfl (Or.inl rfl) (fun Iw16 eIw16 hVw16 => ?_)
          have tkw16_a0_8 : (Iw16 a0 8).toInt = (Iw15 a0 8).toInt := by rw [eIw16, up2_ne _ _ (fun z => by have q := h0.2; rw [z.1, hFk.2] at q; exact absurd q (by decide))]
          have tkw16_a0_9 : (Iw16 a0 9).toInt = (Iw15 a0 9).toInt := by rw [eIw16, up2_ne _ _ (fun z => by have q := h0.2; rw [z.1, hFk.2] at q; exact absurd q (by decide))]
          have tkw16_a0_13 : (Iw16 a0 13).toInt = (Iw15 a0 13).toInt := by rw [eIw16, up2_ne _ _ (fun z => by have q := h0.2; rw [z.1, hFk.2] at q; exact absurd q (by decide))]
          have tkw16_F_0 : (Iw16 F 0).toInt = (Iw15 F 0).toInt := by rw [eIw16, up2_ne _ _ (fun z => absurd z.2 (by decide))]
          have tkw16_F_4 : (Iw16 F 4).toInt = (Iw15 F 4).toInt := by rw [eIw16, up2_ne _ _ (fun z => absurd z.2 (by decide))]
          have tkw16_F_8 : (Iw16 F 8).toInt = (Iw15 F 8).toInt := by rw [eIw16, up2_ne _ _ (fun z => absurd z.2 (by decide))]
          have tkw16_F_9 : (Iw16 F 9).toInt = (Iw15 F 9).toInt := by rw [eIw16, up2_ne _ _ (fun z => absurd z.2 (by decide))]
          have tkw16_F_10 : (Iw16 F 10).toInt = (Iw15 F 10).toInt := by rw [eIw16, up2_ne _ _ (fun z => absurd z.2 (by decide))]
          have tkw16_a0_6 : (Iw16 a0 6).toInt = (Iw15 a0 6).toInt := by rw [eIw16, up2_ne _ _ (fun z => by have q := h0.2; rw [z.1, hFk.2] at q; exact absurd q (by decide))]
          have tkw16_a0_7 : (Iw16 a0 7).toInt = (Iw15 a0 7).toInt := by rw [eIw16, up2_ne _ _ (fun z => by have q := h0.2; rw [z.1, hFk.2] at q; exact absurd q (by decide))]
          have tkw16_a0_18 : (Iw16 a0 18).toInt = (Iw15 a0 18).toInt := by rw [eIw16, up2_ne _ _ (fun z => by have q := h0.2; rw [z.1, hFk.2] at q; exact absurd q (by decide))]
          have tkw16_B_0 : (Iw16 B 0).toInt = (Iw15 B 0).toInt := by rw [eIw16, up2_ne _ _ (fun z => absurd z.2 (by decide))]
          have tkw16_B_4 : (Iw16 B 4).toInt = (Iw15 B 4).toInt := by rw [eIw16, up2_ne _ _ (fun z => absurd z.2 (by decide))]
          have tkw16_B_7 : (Iw16 B 7).toInt = (Iw15 B 7).toInt := by rw [eIw16, up2_ne _ _ (fun z => absurd z.2 (by decide))]
          have tkw16_F_7 : (Iw16 F 7).toInt = (Iw15 F 7).toInt := by rw [eIw16, up2_ne _ _ (fun z => absurd z.2 (by decide))]
          exact s_vret C E dMo_readBin_56 ⟨Nat.zero_le _, Nat.zero_le _⟩ hVw16 (by (try dsimp only); omega)
        · skip
          refine g_aload_n C dMo_readBin_41 rfl ?_
          refine gt_getS C dMo_readBin_42 fl_Mo_172 h0 hFo ?_
          refine g_aload_n C dMo_readBin_45 rfl ?_
          refine g_iconst (v := Int32.ofInt (0)) C dMo_readBin_46 (by decide) ?_
          refine g_sipush (v := Int32.ofInt (200)) C dMo_readBin_47 (by decide) ?_
          refine s_callV_i (av := fun ad => [.int (Int32.ofInt (0)), .int (Int32.ofInt (200))]) C dMo_readBin_50 mfMo_readWhole mvMo_readWhole ln_Mo_227 h0 (by decide) rfl hVw14 (frL_le (by decide)) (cMo_readWhole_N hVw14.1 h0 (by have hk1 : Int32.toInt (Int32.ofInt (0)) = 0 := ofI (by decide); have hk2 : Int32.toInt (Int32.ofInt (200)) = 200 := ofI (by decide); omega)) rfl rfl (Nat.le_of_ble_eq_true rfl) ⟨Nat.le_of_ble_eq_true rfl, Nat.le_of_ble_eq_true rfl⟩ ⟨rfl, rfl⟩ ⟨Nat.zero_le _, Nat.zero_le _⟩ (fun Iw17 Jw17 hVw17 hFw17 z_50 p_50 => ?_)
          have tkw17_F_0 : (Iw17 F 0).toInt = (Iw14 F 0).toInt := by rw [(hFw17 F (by rw [hFk.2]; rfl)).1 0]
          have tkw17_F_4 : (Iw17 F 4).toInt = (Iw14 F 4).toInt := by rw [(hFw17 F (by rw [hFk.2]; rfl)).1 4]
          have tkw17_F_8 : (Iw17 F 8).toInt = (Iw14 F 8).toInt := by rw [(hFw17 F (by rw [hFk.2]; rfl)).1 8]
          have tkw17_F_9 : (Iw17 F 9).toInt = (Iw14 F 9).toInt := by rw [(hFw17 F (by rw [hFk.2]; rfl)).1 9]
          have tkw17_F_10 : (Iw17 F 10).toInt = (Iw14 F 10).toInt := by rw [(hFw17 F (by rw [hFk.2]; rfl)).1 10]
          have tkw17_B_0 : (Iw17 B 0).toInt = (Iw14 B 0).toInt := by rw [(hFw17 B (by rw [hBk.2]; rfl)).1 0]
          have tkw17_B_4 : (Iw17 B 4).toInt = (Iw14 B 4).toInt := by rw [(hFw17 B (by rw [hBk.2]; rfl)).1 4]
          have tkw17_B_7 : (Iw17 B 7).toInt = (Iw14 B 7).toInt := by rw [(hFw17 B (by rw [hBk.2]; rfl)).1 7]
          have tkw17_F_7 : (Iw17 F 7).toInt = (Iw14 F 7).toInt := by rw [(hFw17 F (by rw [hFk.2]; rfl)).1 7]
          have rz_50 := rg z_50
          try dsimp only at p_50
          have hk1_50 : Int32.toInt (Int32.ofInt (0)) = 0 := ofI (by decide)
          have hk2_50 : Int32.toInt (Int32.ofInt (200)) = 200 := ofI (by decide)
          rcases p_50 with ⟨p_50 | p_50, pk_50⟩
          · skip
            refine gt_puti C dMo_readBin_53 fl_Mo_252 hFk hVw17 rfl trivial rfl (Or.inl rfl) (fun Iw18 eIw18 hVw18 => ?_)
            have tkw18_a0_8 : (Iw18 a0 8).toInt = (Iw17 a0 8).toInt := by rw [eIw18, up2_ne _ _ (fun z => by have q := h0.2; rw [z.1, hFk.2] at q; exact absurd q (by decide))]
            have tkw18_a0_9 : (Iw18 a0 9).toInt = (Iw17 a0 9).toInt := by rw [eIw18, up2_ne _ _ (fun z => by have q := h0.2; rw [z.1, hFk.2] at q; exact absurd q (by decide))]
            have tkw18_a0_13 : (Iw18 a0 13).toInt = (Iw17 a0 13).toInt := by rw [eIw18, up2_ne _ _ (fun z => by have q := h0.2; rw [z.1, hFk.2] at q; exact absurd q (by decide))]
            have tkw18_F_0 : (Iw18 F 0).toInt = (Iw17 F 0).toInt := by rw [eIw18, up2_ne _ _ (fun z => absurd z.2 (by decide))]
            have tkw18_F_4 : (Iw18 F 4).toInt = (Iw17 F 4).toInt := by rw [eIw18, up2_ne _ _ (fun z => absurd z.2 (by decide))]
            have tkw18_F_8 : (Iw18 F 8).toInt = (Iw17 F 8).toInt := by rw [eIw18, up2_ne _ _ (fun z => absurd z.2 (by decide))]
            have tkw18_F_9 : (Iw18 F 9).toInt = (Iw17 F 9).toInt := by rw [eIw18, up2_ne _ _ (fun z => absurd z.2 (by decide))]
            have tkw18_F_10 : (Iw18 F 10).toInt = (Iw17 F 10).toInt := by rw [eIw18, up2_ne _ _ (fun z => absurd z.2 (by decide))]
            have tkw18_a0_6 : (Iw18 a0 6).toInt = (Iw17 a0 6).toInt := by rw [eIw18, up2_ne _ _ (fun z => by have q := h0.2; rw [z.1, hFk.2] at q; exact absurd q (by decide))]
            have tkw18_a0_7 : (Iw18 a0 7).toInt = (Iw17 a0 7).toInt := by rw [eIw18, up2_ne _ _ (fun z => by have q := h0.2; rw [z.1, hFk.2] at q; exact absurd q (by decide))]
            have tkw18_a0_18 : (Iw18 a0 18).toInt = (Iw17 a0 18).toInt := by rw [eIw18, up2_ne _ _ (fun z => by have q := h0.2; rw [z.1, hFk.2] at q; exact absurd q (by decide))]
            have tkw18_B_0 : (Iw18 B 0).toInt = (Iw17 B 0).toInt := by rw [eIw18, up2_ne _ _ (fun z => absurd z.2 (by decide))]
            have tkw18_B_4 : (Iw18 B 4).toInt = (Iw17 B 4).toInt := by rw [eIw18, up2_ne _ _ (fun z => absurd z.2 (by decide))]
            have tkw18_B_7 : (Iw18 B 7).toInt = (Iw17 B 7).toInt := by rw [eIw18, up2_ne _ _ (fun z => absurd z.2 (by decide))]
            have tkw18_F_7 : (Iw18 F 7).toInt = (Iw17 F 7).toInt := by rw [eIw18, up2_ne _ _ (fun z => absurd z.2 (by decide))]
            exact s_vret C E dMo_readBin_56 ⟨Nat.zero_le _, Nat.zero_le _⟩ hVw18 (by (try dsimp only); omega)
          · skip
            refine gt_puti C dMo_readBin_53 fl_Mo_252 hFk hVw17 rfl trivial rfl (Or.inl rfl) (fun Iw19 eIw19 hVw19 => ?_)
            have tkw19_a0_8 : (Iw19 a0 8).toInt = (Iw17 a0 8).toInt := by rw [eIw19, up2_ne _ _ (fun z => by have q := h0.2; rw [z.1, hFk.2] at q; exact absurd q (by decide))]
            have tkw19_a0_9 : (Iw19 a0 9).toInt = (Iw17 a0 9).toInt := by rw [eIw19, up2_ne _ _ (fun z => by have q := h0.2; rw [z.1, hFk.2] at q; exact absurd q (by decide))]
            have tkw19_a0_13 : (Iw19 a0 13).toInt = (Iw17 a0 13).toInt := by rw [eIw19, up2_ne _ _ (fun z => by have q := h0.2; rw [z.1, hFk.2] at q; exact absurd q (by decide))]
            have tkw19_F_0 : (Iw19 F 0).toInt = (Iw17 F 0).toInt := by rw [eIw19, up2_ne _ _ (fun z => absurd z.2 (by decide))]
            have tkw19_F_4 : (Iw19 F 4).toInt = (Iw17 F 4).toInt := by rw [eIw19, up2_ne _ _ (fun z => absurd z.2 (by decide))]
            have tkw19_F_8 : (Iw19 F 8).toInt = (Iw17 F 8).toInt := by rw [eIw19, up2_ne _ _ (fun z => absurd z.2 (by decide))]
            have tkw19_F_9 : (Iw19 F 9).toInt = (Iw17 F 9).toInt := by rw [eIw19, up2_ne _ _ (fun z => absurd z.2 (by decide))]
            have tkw19_F_10 : (Iw19 F 10).toInt = (Iw17 F 10).toInt := by rw [eIw19, up2_ne _ _ (fun z => absurd z.2 (by decide))]
            have tkw19_a0_6 : (Iw19 a0 6).toInt = (Iw17 a0 6).toInt := by rw [eIw19, up2_ne _ _ (fun z => by have q := h0.2; rw [z.1, hFk.2] at q; exact absurd q (by decide))]
            have tkw19_a0_7 : (Iw19 a0 7).toInt = (Iw17 a0 7).toInt := by rw [eIw19, up2_ne _ _ (fun z => by have q := h0.2; rw [z.1, hFk.2] at q; exact absurd q (by decide))]
            have tkw19_a0_18 : (Iw19 a0 18).toInt = (Iw17 a0 18).toInt := by rw [eIw19, up2_ne _ _ (fun z => by have q := h0.2; rw [z.1, hFk.2] at q; exact absurd q (by decide))]
            have tkw19_B_0 : (Iw19 B 0).toInt = (Iw17 B 0).toInt := by rw [eIw19, up2_ne _ _ (fun z => absurd z.2 (by decide))]
            have tkw19_B_4 : (Iw19 B 4).toInt = (Iw17 B 4).toInt := by rw [eIw19, up2_ne _ _ (fun z => absurd z.2 (by decide))]
            have tkw19_B_7 : (Iw19 B 7).toInt = (Iw17 B 7).toInt := by rw [eIw19, up2_ne _ _ (fun z => absurd z.2 (by decide))]
            have tkw19_F_7 : (Iw19 F 7).toInt = (Iw17 F 7).toInt := by rw [eIw19, up2_ne _ _ (fun z => absurd z.2 (by decide))]
            exact s_vret C E dMo_readBin_56 ⟨Nat.zero_le _, Nat.zero_le _⟩ hVw19 (by (try dsimp only); omega)
  refine gt_icmp_eq 16 C dMo_readBin_9 (by decide) rfl (ofI (by decide)) (fun c_9 => ?_) (fun c_9 => ?_)
  · skip
    refine g_iconst (v := Int32.ofInt (0)) C dMo_readBin_16 (by decide) ?_
    exact g_sub (jn_17 (Int32.ofInt (0))  (by omega) (by omega) (by omega) (by omega) (by omega) (by omega) (by omega) (by omega) (by omega) (by omega) (by omega) (by omega) ) ⟨rfl, trivial⟩
  · skip
    refine g_iconst (v := Int32.ofInt (1)) C dMo_readBin_12 (by decide) ?_
    refine g_goto 17 C dMo_readBin_13 (by decide) ?_
    exact g_sub (jn_17 (Int32.ofInt (1))  (by omega) (by omega) (by omega) (by omega) (by omega) (by omega) (by omega) (by omega) (by omega) (by omega) (by omega) (by omega) ) ⟨rfl, trivial⟩
set_option maxHeartbeats 4000000 in
set_option maxRecDepth 100000 in
theorem cMo_readSieve_N_F {P : List Nat} {K : Nat → Nat} {I0 : Nat → Nat → Int32} {O : Nat → Nat → Option Nat} {J0 : Nat → Nat → Int64} (hV : IV P K I0 O) {a0 : Nat} (h0 : a0 ∈ P ∧ K a0 = 10) {F B : Nat} (hFo : O a0 4 = some F) (hFk : F ∈ P ∧ K F = 9) (hBk : True ∧ K B = 9) (hBF : B ≠ F) (pr0 : 0 ≤ Int32.toInt (I0 a0 9) ∧ Int32.toInt (I0 a0 9) ≤ 4 ∧ Int32.toInt (I0 a0 13) = 0 ∧ (Int32.toInt (I0 F 0) = -1 ∨ 1 ≤ Int32.toInt (I0 F 0)) ∧ (Int32.toInt (I0 F 4) = -1 ∨ 1 ≤ Int32.toInt (I0 F 4)) ∧ Int32.toInt (I0 F 10) = Int32.toInt (I0 F 8) + Int32.toInt (I0 F 9) + 0) : Con yMo_readSieve bMo_readSieve 2 none ({ frames := 7, cells := 0, slots := 0, locals := 150 } : Room) P K I0 O J0 [.ref a0] (SPo frQ 0 (fun _ I_ => ((Int32.toInt (I_ a0 9) = 5 ∧ 1 ≤ Int32.toInt (I_ a0 13) ∧ Int32.toInt (I0 a0 8) ≤ Int32.toInt (I_ a0 8)) ∨ (0 ≤ Int32.toInt (I_ a0 9) ∧ Int32.toInt (I_ a0 9) ≤ 4 ∧ Int32.toInt (I_ a0 13) = 0 ∧ Int32.toInt (I0 a0 8) ≤ Int32.toInt (I_ a0 8) ∧ Int32.toInt (I0 a0 8) + Int32.toInt (I_ a0 9) ≤ Int32.toInt (I_ a0 8) + 3 ∧ (Int32.toInt (I_ F 0) = -1 ∨ 1 ≤ Int32.toInt (I_ F 0)) ∧ (Int32.toInt (I_ F 4) = -1 ∨ 1 ≤ Int32.toInt (I_ F 4)) ∧ Int32.toInt (I_ F 10) = Int32.toInt (I_ F 8) + Int32.toInt (I_ F 9) + 0)) ∧ (I_ a0 6).toInt = (I0 a0 6).toInt ∧ (I_ a0 7).toInt = (I0 a0 7).toInt ∧ (I_ a0 18).toInt = (I0 a0 18).toInt ∧ (I_ B 0).toInt = (I0 B 0).toInt ∧ (I_ B 4).toInt = (I0 B 4).toInt ∧ (I_ B 7).toInt = (I0 B 7).toInt ∧ (I_ F 0).toInt = (I0 F 0).toInt ∧ (I_ F 4).toInt = (I0 F 4).toInt ∧ (I_ F 7).toInt = (I0 F 7).toInt ∧ (I_ F 8).toInt = (I0 F 8).toInt ∧ (I_ F 9).toInt = (I0 F 9).toInt ∧ (I_ F 10).toInt = (I0 F 10).toInt) P K I0 O J0) := by
  refine Con.ofG mfMo_readSieve (Nat.le_of_ble_eq_true rfl) ?_
  intro X C E
  have ok_a0_7 := hV.2 a0 h0.1 7
  rw [h0.2] at ok_a0_7
  have ok_a0_7 : 0 ≤ (I0 a0 7).toInt ∧ (I0 a0 7).toInt ≤ 700 := ok_a0_7
  have ok_a0_8 := hV.2 a0 h0.1 8
  rw [h0.2] at ok_a0_8
  have ok_a0_8 : 0 ≤ (I0 a0 8).toInt ∧ (I0 a0 8).toInt ≤ 700 := ok_a0_8
  have ok_F_7 := hV.2 F hFk.1 7
  rw [hFk.2] at ok_F_7
  have ok_F_7 : 0 ≤ (I0 F 7).toInt ∧ (I0 F 7).toInt ≤ 6 := ok_F_7
  have ok_F_8 := hV.2 F hFk.1 8
  rw [hFk.2] at ok_F_8
  have ok_F_8 : 0 ≤ (I0 F 8).toInt ∧ (I0 F 8).toInt ≤ 5 := ok_F_8
  have ok_F_9 := hV.2 F hFk.1 9
  rw [hFk.2] at ok_F_9
  have ok_F_9 : 0 ≤ (I0 F 9).toInt ∧ (I0 F 9).toInt ≤ 4 := ok_F_9
  have ok_F_10 := hV.2 F hFk.1 10
  rw [hFk.2] at ok_F_10
  have ok_F_10 : 0 ≤ (I0 F 10).toInt ∧ (I0 F 10).toInt ≤ 9 := ok_F_10
  have hV0 : SV frQ P K O I0 J0 I0 J0 := SV.rf hV
  refine g_aload_n C dMo_readSieve_0 rfl ?_
  refine g_aload_n C dMo_readSieve_1 rfl ?_
  refine gt_getS C dMo_readSieve_2 fl_Mo_172 h0 hFo ?_
  refine g_geti C dMo_readSieve_5 fl_Mo_181 hFk ?_
  refine g_iconst (v := Int32.ofInt (-1)) C dMo_readSieve_8 (by decide) ?_
  have jn_17 : ∀  (s0_17 : Int32), (Int32.toInt (I0 a0 6) = Int32.toInt (I0 a0 6)) → (Int32.toInt (I0 a0 7) = Int32.toInt (I0 a0 7)) → (Int32.toInt (I0 a0 18) = Int32.toInt (I0 a0 18)) → (Int32.toInt (I0 B 0) = Int32.toInt (I0 B 0)) → (Int32.toInt (I0 B 4) = Int32.toInt (I0 B 4)) → (Int32.toInt (I0 B 7) = Int32.toInt (I0 B 7)) → (Int32.toInt (I0 F 0) = Int32.toInt (I0 F 0)) → (Int32.toInt (I0 F 4) = Int32.toInt (I0 F 4)) → (Int32.toInt (I0 F 7) = Int32.toInt (I0 F 7)) → (Int32.toInt (I0 F 8) = Int32.toInt (I0 F 8)) → (Int32.toInt (I0 F 9) = Int32.toInt (I0 F 9)) → (Int32.toInt (I0 F 10) = Int32.toInt (I0 F 10)) → GG X 2 P K I0 O J0 0 0 17 [(0, .ref a0)] [.int s0_17, .ref a0] := by
    intro s0_17 jv0_17 jv1_17 jv2_17 jv3_17 jv4_17 jv5_17 jv6_17 jv7_17 jv8_17 jv9_17 jv10_17 jv11_17
    refine s_callV_v (av := fun ad => [.int s0_17]) C dMo_readSieve_17 mfMo_once mvMo_once ln_Mo_218 h0 (by decide) rfl hV0 (frL_le (by decide)) (cMo_once_N hV0.1 h0 (by omega)) rfl rfl (Nat.le_of_ble_eq_true rfl) ⟨Nat.le_of_ble_eq_true rfl, Nat.le_of_ble_eq_true rfl⟩ ⟨rfl, rfl⟩ ⟨Nat.zero_le _, Nat.zero_le _⟩ (fun Iw2 Jw2 hVw2 hFw2 p_17 => ?_)
    have tkw2_F_0 : (Iw2 F 0).toInt = (I0 F 0).toInt := by rw [(hFw2 F (by rw [hFk.2]; rfl)).1 0]
    have tkw2_F_4 : (Iw2 F 4).toInt = (I0 F 4).toInt := by rw [(hFw2 F (by rw [hFk.2]; rfl)).1 4]
    have tkw2_F_8 : (Iw2 F 8).toInt = (I0 F 8).toInt := by rw [(hFw2 F (by rw [hFk.2]; rfl)).1 8]
    have tkw2_F_9 : (Iw2 F 9).toInt = (I0 F 9).toInt := by rw [(hFw2 F (by rw [hFk.2]; rfl)).1 9]
    have tkw2_F_10 : (Iw2 F 10).toInt = (I0 F 10).toInt := by rw [(hFw2 F (by rw [hFk.2]; rfl)).1 10]
    have tkw2_B_0 : (Iw2 B 0).toInt = (I0 B 0).toInt := by rw [(hFw2 B (by rw [hBk.2]; rfl)).1 0]
    have tkw2_B_4 : (Iw2 B 4).toInt = (I0 B 4).toInt := by rw [(hFw2 B (by rw [hBk.2]; rfl)).1 4]
    have tkw2_B_7 : (Iw2 B 7).toInt = (I0 B 7).toInt := by rw [(hFw2 B (by rw [hBk.2]; rfl)).1 7]
    have tkw2_F_7 : (Iw2 F 7).toInt = (I0 F 7).toInt := by rw [(hFw2 F (by rw [hFk.2]; rfl)).1 7]
    try dsimp only at p_17
    rcases p_17 with ⟨p_17 | p_17, pk_17⟩
    · skip
      refine g_aload_n C dMo_readSieve_20 rfl ?_
      refine s_callV_zp (av := fun ad => []) C dMo_readSieve_21 mfMo_isName mvMo_isName ln_Mo_235 h0 (by decide) rfl (cMo_isName hVw2.1 h0) rfl rfl (Nat.le_of_ble_eq_true rfl) ⟨Nat.le_of_ble_eq_true rfl, Nat.le_of_ble_eq_true rfl⟩ ⟨rfl, rfl⟩ ⟨Nat.zero_le _, Nat.zero_le _⟩ (fun z_21 b_21 p_21 => ?_)
      have rz_21 := rg z_21
      have u_21 := b_21
      unfold B01 at u_21
      refine gt_if_ne 32 C dMo_readSieve_24 (by decide) rfl (fun c_24 => ?_) (fun c_24 => ?_)
      · skip
        refine g_aload_n C dMo_readSieve_32 rfl ?_
        refine gt_getS C dMo_readSieve_33 fl_Mo_172 h0 hFo ?_
        refine g_aload_n C dMo_readSieve_36 rfl ?_
        refine g_getl C dMo_readSieve_37 fl_Mo_114 h0 ?_
        refine s_callV_ip (av := fun ad => [.long (Jw2 a0 15)]) C dMo_readSieve_40 mfMx_find mvMx_find ln_Mo_239 hFk (by decide) rfl (cMx_find hVw2.1 hFk) rfl rfl (Nat.le_of_ble_eq_true rfl) ⟨Nat.le_of_ble_eq_true rfl, Nat.le_of_ble_eq_true rfl⟩ ⟨rfl, rfl⟩ ⟨Nat.zero_le _, Nat.zero_le _⟩ (fun z_40 p_40 => ?_)
        have rz_40 := rg z_40
        try dsimp only at p_40
        refine g_istore_n (i := 1) C dMo_readSieve_43 rfl (by decide) ?_
        refine g_iload_n C dMo_readSieve_44 rfl ?_
        refine g_iconst (v := Int32.ofInt (-1)) C dMo_readSieve_45 (by decide) ?_
        have jn_62 : (Int32.toInt (Iw2 a0 6) = Int32.toInt (I0 a0 6)) → (Int32.toInt (Iw2 a0 7) = Int32.toInt (I0 a0 7)) → (Int32.toInt (Iw2 a0 18) = Int32.toInt (I0 a0 18)) → (Int32.toInt (Iw2 B 0) = Int32.toInt (I0 B 0)) → (Int32.toInt (Iw2 B 4) = Int32.toInt (I0 B 4)) → (Int32.toInt (Iw2 B 7) = Int32.toInt (I0 B 7)) → (Int32.toInt (Iw2 F 0) = Int32.toInt (I0 F 0)) → (Int32.toInt (Iw2 F 4) = Int32.toInt (I0 F 4)) → (Int32.toInt (Iw2 F 7) = Int32.toInt (I0 F 7)) → (Int32.toInt (Iw2 F 8) = Int32.toInt (I0 F 8)) → (Int32.toInt (Iw2 F 9) = Int32.toInt (I0 F 9)) → (Int32.toInt (Iw2 F 10) = Int32.toInt (I0 F 10)) → GG X 2 P K Iw2 O Jw2 0 0 62 [(0, .ref a0), (1, .int z_40)] [] := by
          intro jv0_62 jv1_62 jv2_62 jv3_62 jv4_62 jv5_62 jv6_62 jv7_62 jv8_62 jv9_62 jv10_62 jv11_62
          refine g_aload_n C dMo_readSieve_62 rfl ?_
          refine g_iconst (v := Int32.ofInt (2)) C dMo_readSieve_63 (by decide) ?_
          refine s_callV_v (av := fun ad => [.int (Int32.ofInt (2))]) C dMo_readSieve_64 mfMo_wrong mvMo_wrong ln_Mo_142 h0 (by decide) rfl hVw2 (frL_le (by decide)) (cMo_wrong_O hVw2.1 h0 (by have hk1 : Int32.toInt (Int32.ofInt (2)) = 2 := ofI (by decide); omega)) rfl rfl (Nat.le_of_ble_eq_true rfl) ⟨Nat.le_of_ble_eq_true rfl, Nat.le_of_ble_eq_true rfl⟩ ⟨rfl, rfl⟩ ⟨Nat.zero_le _, Nat.zero_le _⟩ (fun Iw6 Jw6 hVw6 hFw6 p_64 => ?_)
          have tkw6_F_0 : (Iw6 F 0).toInt = (Iw2 F 0).toInt := by rw [(hFw6 F (by rw [hFk.2]; rfl)).1 0]
          have tkw6_F_4 : (Iw6 F 4).toInt = (Iw2 F 4).toInt := by rw [(hFw6 F (by rw [hFk.2]; rfl)).1 4]
          have tkw6_F_8 : (Iw6 F 8).toInt = (Iw2 F 8).toInt := by rw [(hFw6 F (by rw [hFk.2]; rfl)).1 8]
          have tkw6_F_9 : (Iw6 F 9).toInt = (Iw2 F 9).toInt := by rw [(hFw6 F (by rw [hFk.2]; rfl)).1 9]
          have tkw6_F_10 : (Iw6 F 10).toInt = (Iw2 F 10).toInt := by rw [(hFw6 F (by rw [hFk.2]; rfl)).1 10]
          have tkw6_B_0 : (Iw6 B 0).toInt = (Iw2 B 0).toInt := by rw [(hFw6 B (by rw [hBk.2]; rfl)).1 0]
          have tkw6_B_4 : (Iw6 B 4).toInt = (Iw2 B 4).toInt := by rw [(hFw6 B (by rw [hBk.2]; rfl)).1 4]
          have tkw6_B_7 : (Iw6 B 7).toInt = (Iw2 B 7).toInt := by rw [(hFw6 B (by rw [hBk.2]; rfl)).1 7]
          have tkw6_F_7 : (Iw6 F 7).toInt = (Iw2 F 7).toInt := by rw [(hFw6 F (by rw [hFk.2]; rfl)).1 7]
          try dsimp only at p_64
          have hk1_64 : Int32.toInt (Int32.ofInt (2)) = 2 := ofI (by decide)
          refine g_aload_n C dMo_readSieve_67 rfl ?_
          refine gt_getS C dMo_readSieve_68 fl_Mo_172 h0 hFo ?_
          refine g_iload_n C dMo_readSieve_71 rfl ?_
          refine g_iconst (v := Int32.ofInt (-1)) C dMo_readSieve_72 (by decide) ?_
          have jn_89 : ∀  (s0_89 : Int32), (Int32.toInt (Iw6 a0 6) = Int32.toInt (I0 a0 6)) → (Int32.toInt (Iw6 a0 7) = Int32.toInt (I0 a0 7)) → (Int32.toInt (Iw6 a0 18) = Int32.toInt (I0 a0 18)) → (Int32.toInt (Iw6 B 0) = Int32.toInt (I0 B 0)) → (Int32.toInt (Iw6 B 4) = Int32.toInt (I0 B 4)) → (Int32.toInt (Iw6 B 7) = Int32.toInt (I0 B 7)) → (Int32.toInt (Iw6 F 0) = Int32.toInt (I0 F 0)) → (Int32.toInt (Iw6 F 4) = Int32.toInt (I0 F 4)) → (Int32.toInt (Iw6 F 7) = Int32.toInt (I0 F 7)) → (Int32.toInt (Iw6 F 8) = Int32.toInt (I0 F 8)) → (Int32.toInt (Iw6 F 9) = Int32.toInt (I0 F 9)) → (Int32.toInt (Iw6 F 10) = Int32.toInt (I0 F 10)) → GG X 2 P K Iw6 O Jw6 0 0 89 [(0, .ref a0), (1, .int z_40)] [.int s0_89, .ref F] := by
            intro s0_89 jv0_89 jv1_89 jv2_89 jv3_89 jv4_89 jv5_89 jv6_89 jv7_89 jv8_89 jv9_89 jv10_89 jv11_89
            refine gt_puti C dMo_readSieve_89 fl_Mo_181 hFk hVw6 rfl trivial rfl (Or.inl rfl) (fun Iw8 eIw8 hVw8 => ?_)
            have tkw8_a0_8 : (Iw8 a0 8).toInt = (Iw6 a0 8).toInt := by rw [eIw8, up2_ne _ _ (fun z => by have q := h0.2; rw [z.1, hFk.2] at q; exact absurd q (by decide))]
            have tkw8_a0_9 : (Iw8 a0 9).toInt = (Iw6 a0 9).toInt := by rw [eIw8, up2_ne _ _ (fun z => by have q := h0.2; rw [z.1, hFk.2] at q; exact absurd q (by decide))]
            have tkw8_a0_13 : (Iw8 a0 13).toInt = (Iw6 a0 13).toInt := by rw [eIw8, up2_ne _ _ (fun z => by have q := h0.2; rw [z.1, hFk.2] at q; exact absurd q (by decide))]
            have tkw8_F_0 : (Iw8 F 0).toInt = (Iw6 F 0).toInt := by rw [eIw8, up2_ne _ _ (fun z => absurd z.2 (by decide))]
            have tkw8_F_4 : (Iw8 F 4).toInt = (Iw6 F 4).toInt := by rw [eIw8, up2_ne _ _ (fun z => absurd z.2 (by decide))]
            have tkw8_F_8 : (Iw8 F 8).toInt = (Iw6 F 8).toInt := by rw [eIw8, up2_ne _ _ (fun z => absurd z.2 (by decide))]
            have tkw8_F_9 : (Iw8 F 9).toInt = (Iw6 F 9).toInt := by rw [eIw8, up2_ne _ _ (fun z => absurd z.2 (by decide))]
            have tkw8_F_10 : (Iw8 F 10).toInt = (Iw6 F 10).toInt := by rw [eIw8, up2_ne _ _ (fun z => absurd z.2 (by decide))]
            have tkw8_a0_6 : (Iw8 a0 6).toInt = (Iw6 a0 6).toInt := by rw [eIw8, up2_ne _ _ (fun z => by have q := h0.2; rw [z.1, hFk.2] at q; exact absurd q (by decide))]
            have tkw8_a0_7 : (Iw8 a0 7).toInt = (Iw6 a0 7).toInt := by rw [eIw8, up2_ne _ _ (fun z => by have q := h0.2; rw [z.1, hFk.2] at q; exact absurd q (by decide))]
            have tkw8_a0_18 : (Iw8 a0 18).toInt = (Iw6 a0 18).toInt := by rw [eIw8, up2_ne _ _ (fun z => by have q := h0.2; rw [z.1, hFk.2] at q; exact absurd q (by decide))]
            have tkw8_B_0 : (Iw8 B 0).toInt = (Iw6 B 0).toInt := by rw [eIw8, up2_ne _ _ (fun z => absurd z.2 (by decide))]
            have tkw8_B_4 : (Iw8 B 4).toInt = (Iw6 B 4).toInt := by rw [eIw8, up2_ne _ _ (fun z => absurd z.2 (by decide))]
            have tkw8_B_7 : (Iw8 B 7).toInt = (Iw6 B 7).toInt := by rw [eIw8, up2_ne _ _ (fun z => absurd z.2 (by decide))]
            have tkw8_F_7 : (Iw8 F 7).toInt = (Iw6 F 7).toInt := by rw [eIw8, up2_ne _ _ (fun z => absurd z.2 (by decide))]
            refine g_aload_n C dMo_readSieve_92 rfl ?_
            refine s_callV_v (av := fun ad => []) C dMo_readSieve_93 mfMo_next mvMo_next ln_Mo_146 h0 (by decide) rfl hVw8 (frL_le (by decide)) (cMo_next_O hVw8.1 h0 (by omega)) rfl rfl (Nat.le_of_ble_eq_true rfl) ⟨Nat.le_of_ble_eq_true rfl, Nat.le_of_ble_eq_true rfl⟩ ⟨rfl, rfl⟩ ⟨Nat.zero_le _, Nat.zero_le _⟩ (fun Iw9 Jw9 hVw9 hFw9 p_93 => ?_)
            have tkw9_F_0 : (Iw9 F 0).toInt = (Iw8 F 0).toInt := by rw [(hFw9 F (by rw [hFk.2]; rfl)).1 0]
            have tkw9_F_4 : (Iw9 F 4).toInt = (Iw8 F 4).toInt := by rw [(hFw9 F (by rw [hFk.2]; rfl)).1 4]
            have tkw9_F_8 : (Iw9 F 8).toInt = (Iw8 F 8).toInt := by rw [(hFw9 F (by rw [hFk.2]; rfl)).1 8]
            have tkw9_F_9 : (Iw9 F 9).toInt = (Iw8 F 9).toInt := by rw [(hFw9 F (by rw [hFk.2]; rfl)).1 9]
            have tkw9_F_10 : (Iw9 F 10).toInt = (Iw8 F 10).toInt := by rw [(hFw9 F (by rw [hFk.2]; rfl)).1 10]
            have tkw9_B_0 : (Iw9 B 0).toInt = (Iw8 B 0).toInt := by rw [(hFw9 B (by rw [hBk.2]; rfl)).1 0]
            have tkw9_B_4 : (Iw9 B 4).toInt = (Iw8 B 4).toInt := by rw [(hFw9 B (by rw [hBk.2]; rfl)).1 4]
            have tkw9_B_7 : (Iw9 B 7).toInt = (Iw8 B 7).toInt := by rw [(hFw9 B (by rw [hBk.2]; rfl)).1 7]
            have tkw9_F_7 : (Iw9 F 7).toInt = (Iw8 F 7).toInt := by rw [(hFw9 F (by rw [hFk.2]; rfl)).1 7]
            try dsimp only at p_93
            refine g_aload_n C dMo_readSieve_96 rfl ?_
            refine g_ldcS 25 C dMo_readSieve_97 rfl ?_
            refine s_callV_v (av := fun ad => [.ref (ad.1 25)]) C dMo_readSieve_99 mfMo_needWord mvMo_needWord ln_Mo_223 h0 (by decide) rfl hVw9 (frL_le (by decide)) (cMo_needWord_O hVw9.1 h0 (by decide) (by omega)) rfl rfl (Nat.le_of_ble_eq_true rfl) ⟨Nat.le_of_ble_eq_true rfl, Nat.le_of_ble_eq_true rfl⟩ ⟨rfl, rfl⟩ ⟨Nat.zero_le _, Nat.zero_le _⟩ (fun Iw10 Jw10 hVw10 hFw10 p_99 => ?_)
            have tkw10_F_0 : (Iw10 F 0).toInt = (Iw9 F 0).toInt := by rw [(hFw10 F (by rw [hFk.2]; rfl)).1 0]
            have tkw10_F_4 : (Iw10 F 4).toInt = (Iw9 F 4).toInt := by rw [(hFw10 F (by rw [hFk.2]; rfl)).1 4]
            have tkw10_F_8 : (Iw10 F 8).toInt = (Iw9 F 8).toInt := by rw [(hFw10 F (by rw [hFk.2]; rfl)).1 8]
            have tkw10_F_9 : (Iw10 F 9).toInt = (Iw9 F 9).toInt := by rw [(hFw10 F (by rw [hFk.2]; rfl)).1 9]
            have tkw10_F_10 : (Iw10 F 10).toInt = (Iw9 F 10).toInt := by rw [(hFw10 F (by rw [hFk.2]; rfl)).1 10]
            have tkw10_B_0 : (Iw10 B 0).toInt = (Iw9 B 0).toInt := by rw [(hFw10 B (by rw [hBk.2]; rfl)).1 0]
            have tkw10_B_4 : (Iw10 B 4).toInt = (Iw9 B 4).toInt := by rw [(hFw10 B (by rw [hBk.2]; rfl)).1 4]
            have tkw10_B_7 : (Iw10 B 7).toInt = (Iw9 B 7).toInt := by rw [(hFw10 B (by rw [hBk.2]; rfl)).1 7]
            have tkw10_F_7 : (Iw10 F 7).toInt = (Iw9 F 7).toInt := by rw [(hFw10 F (by rw [hFk.2]; rfl)).1 7]
            try dsimp only at p_99
            refine g_aload_n C dMo_readSieve_102 rfl ?_
            refine gt_getS C dMo_readSieve_103 fl_Mo_172 h0 hFo ?_
            refine g_aload_n C dMo_readSieve_106 rfl ?_
            refine g_iconst (v := Int32.ofInt (0)) C dMo_readSieve_107 (by decide) ?_
            refine g_bipush (v := Int32.ofInt (50)) C dMo_readSieve_108 (by decide) ?_
            refine s_callV_i (av := fun ad => [.int (Int32.ofInt (0)), .int (Int32.ofInt (50))]) C dMo_readSieve_110 mfMo_readWhole mvMo_readWhole ln_Mo_227 h0 (by decide) rfl hVw10 (frL_le (by decide)) (cMo_readWhole_O hVw10.1 h0 (by have hk1 : Int32.toInt (Int32.ofInt (0)) = 0 := ofI (by decide); have hk2 : Int32.toInt (Int32.ofInt (50)) = 50 := ofI (by decide); omega)) rfl rfl (Nat.le_of_ble_eq_true rfl) ⟨Nat.le_of_ble_eq_true rfl, Nat.le_of_ble_eq_true rfl⟩ ⟨rfl, rfl⟩ ⟨Nat.zero_le _, Nat.zero_le _⟩ (fun Iw11 Jw11 hVw11 hFw11 z_110 p_110 => ?_)
            have tkw11_F_0 : (Iw11 F 0).toInt = (Iw10 F 0).toInt := by rw [(hFw11 F (by rw [hFk.2]; rfl)).1 0]
            have tkw11_F_4 : (Iw11 F 4).toInt = (Iw10 F 4).toInt := by rw [(hFw11 F (by rw [hFk.2]; rfl)).1 4]
            have tkw11_F_8 : (Iw11 F 8).toInt = (Iw10 F 8).toInt := by rw [(hFw11 F (by rw [hFk.2]; rfl)).1 8]
            have tkw11_F_9 : (Iw11 F 9).toInt = (Iw10 F 9).toInt := by rw [(hFw11 F (by rw [hFk.2]; rfl)).1 9]
            have tkw11_F_10 : (Iw11 F 10).toInt = (Iw10 F 10).toInt := by rw [(hFw11 F (by rw [hFk.2]; rfl)).1 10]
            have tkw11_B_0 : (Iw11 B 0).toInt = (Iw10 B 0).toInt := by rw [(hFw11 B (by rw [hBk.2]; rfl)).1 0]
            have tkw11_B_4 : (Iw11 B 4).toInt = (Iw10 B 4).toInt := by rw [(hFw11 B (by rw [hBk.2]; rfl)).1 4]
            have tkw11_B_7 : (Iw11 B 7).toInt = (Iw10 B 7).toInt := by rw [(hFw11 B (by rw [hBk.2]; rfl)).1 7]
            have tkw11_F_7 : (Iw11 F 7).toInt = (Iw10 F 7).toInt := by rw [(hFw11 F (by rw [hFk.2]; rfl)).1 7]
            have rz_110 := rg z_110
            try dsimp only at p_110
            have hk1_110 : Int32.toInt (Int32.ofInt (0)) = 0 := ofI (by decide)
            have hk2_110 : Int32.toInt (Int32.ofInt (50)) = 50 := ofI (by decide)
            refine gt_puti C dMo_readSieve_113 fl_Mo_248 hFk hVw11 rfl trivial rfl (Or.inl rfl) (fun Iw12 eIw12 hVw12 => ?_)
            have tkw12_a0_8 : (Iw12 a0 8).toInt = (Iw11 a0 8).toInt := by rw [eIw12, up2_ne _ _ (fun z => by have q := h0.2; rw [z.1, hFk.2] at q; exact absurd q (by decide))]
            have tkw12_a0_9 : (Iw12 a0 9).toInt = (Iw11 a0 9).toInt := by rw [eIw12, up2_ne _ _ (fun z => by have q := h0.2; rw [z.1, hFk.2] at q; exact absurd q (by decide))]
            have tkw12_a0_13 : (Iw12 a0 13).toInt = (Iw11 a0 13).toInt := by rw [eIw12, up2_ne _ _ (fun z => by have q := h0.2; rw [z.1, hFk.2] at q; exact absurd q (by decide))]
            have tkw12_F_0 : (Iw12 F 0).toInt = (Iw11 F 0).toInt := by rw [eIw12, up2_ne _ _ (fun z => absurd z.2 (by decide))]
            have tkw12_F_4 : (Iw12 F 4).toInt = (Iw11 F 4).toInt := by rw [eIw12, up2_ne _ _ (fun z => absurd z.2 (by decide))]
            have tkw12_F_8 : (Iw12 F 8).toInt = (Iw11 F 8).toInt := by rw [eIw12, up2_ne _ _ (fun z => absurd z.2 (by decide))]
            have tkw12_F_9 : (Iw12 F 9).toInt = (Iw11 F 9).toInt := by rw [eIw12, up2_ne _ _ (fun z => absurd z.2 (by decide))]
            have tkw12_F_10 : (Iw12 F 10).toInt = (Iw11 F 10).toInt := by rw [eIw12, up2_ne _ _ (fun z => absurd z.2 (by decide))]
            have tkw12_a0_6 : (Iw12 a0 6).toInt = (Iw11 a0 6).toInt := by rw [eIw12, up2_ne _ _ (fun z => by have q := h0.2; rw [z.1, hFk.2] at q; exact absurd q (by decide))]
            have tkw12_a0_7 : (Iw12 a0 7).toInt = (Iw11 a0 7).toInt := by rw [eIw12, up2_ne _ _ (fun z => by have q := h0.2; rw [z.1, hFk.2] at q; exact absurd q (by decide))]
            have tkw12_a0_18 : (Iw12 a0 18).toInt = (Iw11 a0 18).toInt := by rw [eIw12, up2_ne _ _ (fun z => by have q := h0.2; rw [z.1, hFk.2] at q; exact absurd q (by decide))]
            have tkw12_B_0 : (Iw12 B 0).toInt = (Iw11 B 0).toInt := by rw [eIw12, up2_ne _ _ (fun z => absurd z.2 (by decide))]
            have tkw12_B_4 : (Iw12 B 4).toInt = (Iw11 B 4).toInt := by rw [eIw12, up2_ne _ _ (fun z => absurd z.2 (by decide))]
            have tkw12_B_7 : (Iw12 B 7).toInt = (Iw11 B 7).toInt := by rw [eIw12, up2_ne _ _ (fun z => absurd z.2 (by decide))]
            have tkw12_F_7 : (Iw12 F 7).toInt = (Iw11 F 7).toInt := by rw [eIw12, up2_ne _ _ (fun z => absurd z.2 (by decide))]
            exact s_vret C E dMo_readSieve_116 ⟨Nat.zero_le _, Nat.zero_le _⟩ hVw12 (by (try dsimp only); omega)
          refine gt_icmp_ne 80 C dMo_readSieve_73 (by decide) rfl (ofI (by decide)) (fun c_73 => ?_) (fun c_73 => ?_)
          · skip
            refine g_aload_n C dMo_readSieve_80 rfl ?_
            refine gt_getS C dMo_readSieve_81 fl_Mo_172 h0 hFo ?_
            refine gt_getr C dMo_readSieve_84 fl_Mo_243 hFk hVw6.1.1 rfl (fun b_84 q_84 hb_84 => ?_)
            refine g_iload_n C dMo_readSieve_87 rfl ?_
            refine gt_iald C dMo_readSieve_88 hb_84 (by decide) rfl rfl (n := 9) rfl (by omega) ?_
            have o_88 := hVw6.1.2 b_84 hb_84.1 z_40.toNatClampNeg
            rw [hb_84.2] at o_88
            have o_88 : -1 ≤ (Iw6 b_84 z_40.toNatClampNeg).toInt ∧ (Iw6 b_84 z_40.toNatClampNeg).toInt ≤ 4 := o_88
            exact g_sub (jn_89 (Iw6 b_84 z_40.toNatClampNeg)  (by omega) (by omega) (by omega) (by omega) (by omega) (by omega) (by omega) (by omega) (by omega) (by omega) (by omega) (by omega) ) ⟨rfl, rfl, trivial⟩
          · skip
            refine g_iconst (v := Int32.ofInt (0)) C dMo_readSieve_76 (by decide) ?_
            refine g_goto 89 C dMo_readSieve_77 (by decide) ?_
            exact g_sub (jn_89 (Int32.ofInt (0))  (by omega) (by omega) (by omega) (by omega) (by omega) (by omega) (by omega) (by omega) (by omega) (by omega) (by omega) (by omega) ) ⟨rfl, rfl, trivial⟩
        refine gt_icmp_eq 62 C dMo_readSieve_46 (by decide) rfl (ofI (by decide)) (fun c_46 => ?_) (fun c_46 => ?_)
        · skip
          exact g_sub (jn_62   (by omega) (by omega) (by omega) (by omega) (by omega) (by omega) (by omega) (by omega) (by omega) (by omega) (by omega) (by omega) ) ⟨rfl, rfl, trivial⟩
        · skip
          refine g_aload_n C dMo_readSieve_49 rfl ?_
          refine gt_getS C dMo_readSieve_50 fl_Mo_172 h0 hFo ?_
          refine gt_getr C dMo_readSieve_53 fl_Mo_243 hFk hVw2.1.1 rfl (fun b_53 q_53 hb_53 => ?_)
          refine g_iload_n C dMo_readSieve_56 rfl ?_
          refine gt_iald C dMo_readSieve_57 hb_53 (by decide) rfl rfl (n := 9) rfl (by omega) ?_
          have o_57 := hVw2.1.2 b_53 hb_53.1 z_40.toNatClampNeg
          rw [hb_53.2] at o_57
          have o_57 : -1 ≤ (Iw2 b_53 z_40.toNatClampNeg).toInt ∧ (Iw2 b_53 z_40.toNatClampNeg).toInt ≤ 4 := o_57
          refine g_iconst (v := Int32.ofInt (-1)) C dMo_readSieve_58 (by decide) ?_
          refine gt_icmp_ne 67 C dMo_readSieve_59 (by decide) rfl (ofI (by decide)) (fun c_59 => ?_) (fun c_59 => ?_)
          · skip
            refine g_aload_n C dMo_readSieve_67 rfl ?_
            refine gt_getS C dMo_readSieve_68 fl_Mo_172 h0 hFo ?_
            refine g_iload_n C dMo_readSieve_71 rfl ?_
            refine g_iconst (v := Int32.ofInt (-1)) C dMo_readSieve_72 (by decide) ?_
            have jn_89 : ∀  (s0_89 : Int32), (Int32.toInt (Iw2 a0 6) = Int32.toInt (I0 a0 6)) → (Int32.toInt (Iw2 a0 7) = Int32.toInt (I0 a0 7)) → (Int32.toInt (Iw2 a0 18) = Int32.toInt (I0 a0 18)) → (Int32.toInt (Iw2 B 0) = Int32.toInt (I0 B 0)) → (Int32.toInt (Iw2 B 4) = Int32.toInt (I0 B 4)) → (Int32.toInt (Iw2 B 7) = Int32.toInt (I0 B 7)) → (Int32.toInt (Iw2 F 0) = Int32.toInt (I0 F 0)) → (Int32.toInt (Iw2 F 4) = Int32.toInt (I0 F 4)) → (Int32.toInt (Iw2 F 7) = Int32.toInt (I0 F 7)) → (Int32.toInt (Iw2 F 8) = Int32.toInt (I0 F 8)) → (Int32.toInt (Iw2 F 9) = Int32.toInt (I0 F 9)) → (Int32.toInt (Iw2 F 10) = Int32.toInt (I0 F 10)) → GG X 2 P K Iw2 O Jw2 0 0 89 [(0, .ref a0), (1, .int z_40)] [.int s0_89, .ref F] := by
              intro s0_89 jv0_89 jv1_89 jv2_89 jv3_89 jv4_89 jv5_89 jv6_89 jv7_89 jv8_89 jv9_89 jv10_89 jv11_89
              refine gt_puti C dMo_readSieve_89 fl_Mo_181 hFk hVw2 rfl trivial rfl (Or.inl rfl) (fun Iw14 eIw14 hVw14 => ?_)
              have tkw14_a0_8 : (Iw14 a0 8).toInt = (Iw2 a0 8).toInt := by rw [eIw14, up2_ne _ _ (fun z => by have q := h0.2; rw [z.1, hFk.2] at q; exact absurd q (by decide))]
              have tkw14_a0_9 : (Iw14 a0 9).toInt = (Iw2 a0 9).toInt := by rw [eIw14, up2_ne _ _ (fun z => by have q := h0.2; rw [z.1, hFk.2] at q; exact absurd q (by decide))]
              have tkw14_a0_13 : (Iw14 a0 13).toInt = (Iw2 a0 13).toInt := by rw [eIw14, up2_ne _ _ (fun z => by have q := h0.2; rw [z.1, hFk.2] at q; exact absurd q (by decide))]
              have tkw14_F_0 : (Iw14 F 0).toInt = (Iw2 F 0).toInt := by rw [eIw14, up2_ne _ _ (fun z => absurd z.2 (by decide))]
              have tkw14_F_4 : (Iw14 F 4).toInt = (Iw2 F 4).toInt := by rw [eIw14, up2_ne _ _ (fun z => absurd z.2 (by decide))]
              have tkw14_F_8 : (Iw14 F 8).toInt = (Iw2 F 8).toInt := by rw [eIw14, up2_ne _ _ (fun z => absurd z.2 (by decide))]
              have tkw14_F_9 : (Iw14 F 9).toInt = (Iw2 F 9).toInt := by rw [eIw14, up2_ne _ _ (fun z => absurd z.2 (by decide))]
              have tkw14_F_10 : (Iw14 F 10).toInt = (Iw2 F 10).toInt := by rw [eIw14, up2_ne _ _ (fun z => absurd z.2 (by decide))]
              have tkw14_a0_6 : (Iw14 a0 6).toInt = (Iw2 a0 6).toInt := by rw [eIw14, up2_ne _ _ (fun z => by have q := h0.2; rw [z.1, hFk.2] at q; exact absurd q (by decide))]
              have tkw14_a0_7 : (Iw14 a0 7).toInt = (Iw2 a0 7).toInt := by rw [eIw14, up2_ne _ _ (fun z => by have q := h0.2; rw [z.1, hFk.2] at q; exact absurd q (by decide))]
              have tkw14_a0_18 : (Iw14 a0 18).toInt = (Iw2 a0 18).toInt := by rw [eIw14, up2_ne _ _ (fun z => by have q := h0.2; rw [z.1, hFk.2] at q; exact absurd q (by decide))]
              have tkw14_B_0 : (Iw14 B 0).toInt = (Iw2 B 0).toInt := by rw [eIw14, up2_ne _ _ (fun z => absurd z.2 (by decide))]
              have tkw14_B_4 : (Iw14 B 4).toInt = (Iw2 B 4).toInt := by rw [eIw14, up2_ne _ _ (fun z => absurd z.2 (by decide))]
              have tkw14_B_7 : (Iw14 B 7).toInt = (Iw2 B 7).toInt := by rw [eIw14, up2_ne _ _ (fun z => absurd z.2 (by decide))]
              have tkw14_F_7 : (Iw14 F 7).toInt = (Iw2 F 7).toInt := by rw [eIw14, up2_ne _ _ (fun z => absurd z.2 (by decide))]
              refine g_aload_n C dMo_readSieve_92 rfl ?_
              refine s_callV_v (av := fun ad => []) C dMo_readSieve_93 mfMo_next mvMo_next ln_Mo_146 h0 (by decide) rfl hVw14 (frL_le (by decide)) (cMo_next_O hVw14.1 h0 (by omega)) rfl rfl (Nat.le_of_ble_eq_true rfl) ⟨Nat.le_of_ble_eq_true rfl, Nat.le_of_ble_eq_true rfl⟩ ⟨rfl, rfl⟩ ⟨Nat.zero_le _, Nat.zero_le _⟩ (fun Iw15 Jw15 hVw15 hFw15 p_93 => ?_)
              have tkw15_F_0 : (Iw15 F 0).toInt = (Iw14 F 0).toInt := by rw [(hFw15 F (by rw [hFk.2]; rfl)).1 0]
              have tkw15_F_4 : (Iw15 F 4).toInt = (Iw14 F 4).toInt := by rw [(hFw15 F (by rw [hFk.2]; rfl)).1 4]
              have tkw15_F_8 : (Iw15 F 8).toInt = (Iw14 F 8).toInt := by rw [(hFw15 F (by rw [hFk.2]; rfl)).1 8]
              have tkw15_F_9 : (Iw15 F 9).toInt = (Iw14 F 9).toInt := by rw [(hFw15 F (by rw [hFk.2]; rfl)).1 9]
              have tkw15_F_10 : (Iw15 F 10).toInt = (Iw14 F 10).toInt := by rw [(hFw15 F (by rw [hFk.2]; rfl)).1 10]
              have tkw15_B_0 : (Iw15 B 0).toInt = (Iw14 B 0).toInt := by rw [(hFw15 B (by rw [hBk.2]; rfl)).1 0]
              have tkw15_B_4 : (Iw15 B 4).toInt = (Iw14 B 4).toInt := by rw [(hFw15 B (by rw [hBk.2]; rfl)).1 4]
              have tkw15_B_7 : (Iw15 B 7).toInt = (Iw14 B 7).toInt := by rw [(hFw15 B (by rw [hBk.2]; rfl)).1 7]
              have tkw15_F_7 : (Iw15 F 7).toInt = (Iw14 F 7).toInt := by rw [(hFw15 F (by rw [hFk.2]; rfl)).1 7]
              try dsimp only at p_93
              refine g_aload_n C dMo_readSieve_96 rfl ?_
              refine g_ldcS 25 C dMo_readSieve_97 rfl ?_
              refine s_callV_v (av := fun ad => [.ref (ad.1 25)]) C dMo_readSieve_99 mfMo_needWord mvMo_needWord ln_Mo_223 h0 (by decide) rfl hVw15 (frL_le (by decide)) (cMo_needWord_O hVw15.1 h0 (by decide) (by omega)) rfl rfl (Nat.le_of_ble_eq_true rfl) ⟨Nat.le_of_ble_eq_true rfl, Nat.le_of_ble_eq_true rfl⟩ ⟨rfl, rfl⟩ ⟨Nat.zero_le _, Nat.zero_le _⟩ (fun Iw16 Jw16 hVw16 hFw16 p_99 => ?_)
              have tkw16_F_0 : (Iw16 F 0).toInt = (Iw15 F 0).toInt := by rw [(hFw16 F (by rw [hFk.2]; rfl)).1 0]
              have tkw16_F_4 : (Iw16 F 4).toInt = (Iw15 F 4).toInt := by rw [(hFw16 F (by rw [hFk.2]; rfl)).1 4]
              have tkw16_F_8 : (Iw16 F 8).toInt = (Iw15 F 8).toInt := by rw [(hFw16 F (by rw [hFk.2]; rfl)).1 8]
              have tkw16_F_9 : (Iw16 F 9).toInt = (Iw15 F 9).toInt := by rw [(hFw16 F (by rw [hFk.2]; rfl)).1 9]
              have tkw16_F_10 : (Iw16 F 10).toInt = (Iw15 F 10).toInt := by rw [(hFw16 F (by rw [hFk.2]; rfl)).1 10]
              have tkw16_B_0 : (Iw16 B 0).toInt = (Iw15 B 0).toInt := by rw [(hFw16 B (by rw [hBk.2]; rfl)).1 0]
              have tkw16_B_4 : (Iw16 B 4).toInt = (Iw15 B 4).toInt := by rw [(hFw16 B (by rw [hBk.2]; rfl)).1 4]
              have tkw16_B_7 : (Iw16 B 7).toInt = (Iw15 B 7).toInt := by rw [(hFw16 B (by rw [hBk.2]; rfl)).1 7]
              have tkw16_F_7 : (Iw16 F 7).toInt = (Iw15 F 7).toInt := by rw [(hFw16 F (by rw [hFk.2]; rfl)).1 7]
              try dsimp only at p_99
              refine g_aload_n C dMo_readSieve_102 rfl ?_
              refine gt_getS C dMo_readSieve_103 fl_Mo_172 h0 hFo ?_
              refine g_aload_n C dMo_readSieve_106 rfl ?_
              refine g_iconst (v := Int32.ofInt (0)) C dMo_readSieve_107 (by decide) ?_
              refine g_bipush (v := Int32.ofInt (50)) C dMo_readSieve_108 (by decide) ?_
              refine s_callV_i (av := fun ad => [.int (Int32.ofInt (0)), .int (Int32.ofInt (50))]) C dMo_readSieve_110 mfMo_readWhole mvMo_readWhole ln_Mo_227 h0 (by decide) rfl hVw16 (frL_le (by decide)) (cMo_readWhole_O hVw16.1 h0 (by have hk1 : Int32.toInt (Int32.ofInt (0)) = 0 := ofI (by decide); have hk2 : Int32.toInt (Int32.ofInt (50)) = 50 := ofI (by decide); omega)) rfl rfl (Nat.le_of_ble_eq_true rfl) ⟨Nat.le_of_ble_eq_true rfl, Nat.le_of_ble_eq_true rfl⟩ ⟨rfl, rfl⟩ ⟨Nat.zero_le _, Nat.zero_le _⟩ (fun Iw17 Jw17 hVw17 hFw17 z_110 p_110 => ?_)
              have tkw17_F_0 : (Iw17 F 0).toInt = (Iw16 F 0).toInt := by rw [(hFw17 F (by rw [hFk.2]; rfl)).1 0]
              have tkw17_F_4 : (Iw17 F 4).toInt = (Iw16 F 4).toInt := by rw [(hFw17 F (by rw [hFk.2]; rfl)).1 4]
              have tkw17_F_8 : (Iw17 F 8).toInt = (Iw16 F 8).toInt := by rw [(hFw17 F (by rw [hFk.2]; rfl)).1 8]
              have tkw17_F_9 : (Iw17 F 9).toInt = (Iw16 F 9).toInt := by rw [(hFw17 F (by rw [hFk.2]; rfl)).1 9]
              have tkw17_F_10 : (Iw17 F 10).toInt = (Iw16 F 10).toInt := by rw [(hFw17 F (by rw [hFk.2]; rfl)).1 10]
              have tkw17_B_0 : (Iw17 B 0).toInt = (Iw16 B 0).toInt := by rw [(hFw17 B (by rw [hBk.2]; rfl)).1 0]
              have tkw17_B_4 : (Iw17 B 4).toInt = (Iw16 B 4).toInt := by rw [(hFw17 B (by rw [hBk.2]; rfl)).1 4]
              have tkw17_B_7 : (Iw17 B 7).toInt = (Iw16 B 7).toInt := by rw [(hFw17 B (by rw [hBk.2]; rfl)).1 7]
              have tkw17_F_7 : (Iw17 F 7).toInt = (Iw16 F 7).toInt := by rw [(hFw17 F (by rw [hFk.2]; rfl)).1 7]
              have rz_110 := rg z_110
              try dsimp only at p_110
              have hk1_110 : Int32.toInt (Int32.ofInt (0)) = 0 := ofI (by decide)
              have hk2_110 : Int32.toInt (Int32.ofInt (50)) = 50 := ofI (by decide)
              refine gt_puti C dMo_readSieve_113 fl_Mo_248 hFk hVw17 rfl trivial rfl (Or.inl rfl) (fun Iw18 eIw18 hVw18 => ?_)
              have tkw18_a0_8 : (Iw18 a0 8).toInt = (Iw17 a0 8).toInt := by rw [eIw18, up2_ne _ _ (fun z => by have q := h0.2; rw [z.1, hFk.2] at q; exact absurd q (by decide))]
              have tkw18_a0_9 : (Iw18 a0 9).toInt = (Iw17 a0 9).toInt := by rw [eIw18, up2_ne _ _ (fun z => by have q := h0.2; rw [z.1, hFk.2] at q; exact absurd q (by decide))]
              have tkw18_a0_13 : (Iw18 a0 13).toInt = (Iw17 a0 13).toInt := by rw [eIw18, up2_ne _ _ (fun z => by have q := h0.2; rw [z.1, hFk.2] at q; exact absurd q (by decide))]
              have tkw18_F_0 : (Iw18 F 0).toInt = (Iw17 F 0).toInt := by rw [eIw18, up2_ne _ _ (fun z => absurd z.2 (by decide))]
              have tkw18_F_4 : (Iw18 F 4).toInt = (Iw17 F 4).toInt := by rw [eIw18, up2_ne _ _ (fun z => absurd z.2 (by decide))]
              have tkw18_F_8 : (Iw18 F 8).toInt = (Iw17 F 8).toInt := by rw [eIw18, up2_ne _ _ (fun z => absurd z.2 (by decide))]
              have tkw18_F_9 : (Iw18 F 9).toInt = (Iw17 F 9).toInt := by rw [eIw18, up2_ne _ _ (fun z => absurd z.2 (by decide))]
              have tkw18_F_10 : (Iw18 F 10).toInt = (Iw17 F 10).toInt := by rw [eIw18, up2_ne _ _ (fun z => absurd z.2 (by decide))]
              have tkw18_a0_6 : (Iw18 a0 6).toInt = (Iw17 a0 6).toInt := by rw [eIw18, up2_ne _ _ (fun z => by have q := h0.2; rw [z.1, hFk.2] at q; exact absurd q (by decide))]
              have tkw18_a0_7 : (Iw18 a0 7).toInt = (Iw17 a0 7).toInt := by rw [eIw18, up2_ne _ _ (fun z => by have q := h0.2; rw [z.1, hFk.2] at q; exact absurd q (by decide))]
              have tkw18_a0_18 : (Iw18 a0 18).toInt = (Iw17 a0 18).toInt := by rw [eIw18, up2_ne _ _ (fun z => by have q := h0.2; rw [z.1, hFk.2] at q; exact absurd q (by decide))]
              have tkw18_B_0 : (Iw18 B 0).toInt = (Iw17 B 0).toInt := by rw [eIw18, up2_ne _ _ (fun z => absurd z.2 (by decide))]
              have tkw18_B_4 : (Iw18 B 4).toInt = (Iw17 B 4).toInt := by rw [eIw18, up2_ne _ _ (fun z => absurd z.2 (by decide))]
              have tkw18_B_7 : (Iw18 B 7).toInt = (Iw17 B 7).toInt := by rw [eIw18, up2_ne _ _ (fun z => absurd z.2 (by decide))]
              have tkw18_F_7 : (Iw18 F 7).toInt = (Iw17 F 7).toInt := by rw [eIw18, up2_ne _ _ (fun z => absurd z.2 (by decide))]
              exact s_vret C E dMo_readSieve_116 ⟨Nat.zero_le _, Nat.zero_le _⟩ hVw18 (by (try dsimp only); omega)
            refine gt_icmp_ne 80 C dMo_readSieve_73 (by decide) rfl (ofI (by decide)) (fun c_73 => ?_) (fun c_73 => ?_)
            · skip
              refine g_aload_n C dMo_readSieve_80 rfl ?_
              refine gt_getS C dMo_readSieve_81 fl_Mo_172 h0 hFo ?_
              refine gt_getS C dMo_readSieve_84 fl_Mo_243 hFk q_53 ?_
              refine g_iload_n C dMo_readSieve_87 rfl ?_
              refine gt_iald C dMo_readSieve_88 hb_53 (by decide) rfl rfl (n := 9) rfl (by omega) ?_
              have o_88 := hVw2.1.2 b_53 hb_53.1 z_40.toNatClampNeg
              rw [hb_53.2] at o_88
              have o_88 : -1 ≤ (Iw2 b_53 z_40.toNatClampNeg).toInt ∧ (Iw2 b_53 z_40.toNatClampNeg).toInt ≤ 4 := o_88
              exact g_sub (jn_89 (Iw2 b_53 z_40.toNatClampNeg)  (by omega) (by omega) (by omega) (by omega) (by omega) (by omega) (by omega) (by omega) (by omega) (by omega) (by omega) (by omega) ) ⟨rfl, rfl, trivial⟩
            · skip
              refine g_iconst (v := Int32.ofInt (0)) C dMo_readSieve_76 (by decide) ?_
              refine g_goto 89 C dMo_readSieve_77 (by decide) ?_
              exact g_sub (jn_89 (Int32.ofInt (0))  (by omega) (by omega) (by omega) (by omega) (by omega) (by omega) (by omega) (by omega) (by omega) (by omega) (by omega) (by omega) ) ⟨rfl, rfl, trivial⟩
          · skip
            exact g_sub (jn_62   (by omega) (by omega) (by omega) (by omega) (by omega) (by omega) (by omega) (by omega) (by omega) (by omega) (by omega) (by omega) ) ⟨rfl, rfl, trivial⟩
      · skip
        refine g_aload_n C dMo_readSieve_27 rfl ?_
        refine g_iconst (v := Int32.ofInt (1)) C dMo_readSieve_28 (by decide) ?_
        refine s_callV_v (av := fun ad => [.int (Int32.ofInt (1))]) C dMo_readSieve_29 mfMo_wrong mvMo_wrong ln_Mo_142 h0 (by decide) rfl hVw2 (frL_le (by decide)) (cMo_wrong_O hVw2.1 h0 (by have hk1 : Int32.toInt (Int32.ofInt (1)) = 1 := ofI (by decide); omega)) rfl rfl (Nat.le_of_ble_eq_true rfl) ⟨Nat.le_of_ble_eq_true rfl, Nat.le_of_ble_eq_true rfl⟩ ⟨rfl, rfl⟩ ⟨Nat.zero_le _, Nat.zero_le _⟩ (fun Iw19 Jw19 hVw19 hFw19 p_29 => ?_)
        have tkw19_F_0 : (Iw19 F 0).toInt = (Iw2 F 0).toInt := by rw [(hFw19 F (by rw [hFk.2]; rfl)).1 0]
        have tkw19_F_4 : (Iw19 F 4).toInt = (Iw2 F 4).toInt := by rw [(hFw19 F (by rw [hFk.2]; rfl)).1 4]
        have tkw19_F_8 : (Iw19 F 8).toInt = (Iw2 F 8).toInt := by rw [(hFw19 F (by rw [hFk.2]; rfl)).1 8]
        have tkw19_F_9 : (Iw19 F 9).toInt = (Iw2 F 9).toInt := by rw [(hFw19 F (by rw [hFk.2]; rfl)).1 9]
        have tkw19_F_10 : (Iw19 F 10).toInt = (Iw2 F 10).toInt := by rw [(hFw19 F (by rw [hFk.2]; rfl)).1 10]
        have tkw19_B_0 : (Iw19 B 0).toInt = (Iw2 B 0).toInt := by rw [(hFw19 B (by rw [hBk.2]; rfl)).1 0]
        have tkw19_B_4 : (Iw19 B 4).toInt = (Iw2 B 4).toInt := by rw [(hFw19 B (by rw [hBk.2]; rfl)).1 4]
        have tkw19_B_7 : (Iw19 B 7).toInt = (Iw2 B 7).toInt := by rw [(hFw19 B (by rw [hBk.2]; rfl)).1 7]
        have tkw19_F_7 : (Iw19 F 7).toInt = (Iw2 F 7).toInt := by rw [(hFw19 F (by rw [hFk.2]; rfl)).1 7]
        try dsimp only at p_29
        have hk1_29 : Int32.toInt (Int32.ofInt (1)) = 1 := ofI (by decide)
        refine g_aload_n C dMo_readSieve_32 rfl ?_
        refine gt_getS C dMo_readSieve_33 fl_Mo_172 h0 hFo ?_
        refine g_aload_n C dMo_readSieve_36 rfl ?_
        refine g_getl C dMo_readSieve_37 fl_Mo_114 h0 ?_
        refine s_callV_ip (av := fun ad => [.long (Jw19 a0 15)]) C dMo_readSieve_40 mfMx_find mvMx_find ln_Mo_239 hFk (by decide) rfl (cMx_find hVw19.1 hFk) rfl rfl (Nat.le_of_ble_eq_true rfl) ⟨Nat.le_of_ble_eq_true rfl, Nat.le_of_ble_eq_true rfl⟩ ⟨rfl, rfl⟩ ⟨Nat.zero_le _, Nat.zero_le _⟩ (fun z_40 p_40 => ?_)
        have rz_40 := rg z_40
        try dsimp only at p_40
        refine g_istore_n (i := 1) C dMo_readSieve_43 rfl (by decide) ?_
        refine g_iload_n C dMo_readSieve_44 rfl ?_
        refine g_iconst (v := Int32.ofInt (-1)) C dMo_readSieve_45 (by decide) ?_
        have jn_62 : (Int32.toInt (Iw19 a0 6) = Int32.toInt (I0 a0 6)) → (Int32.toInt (Iw19 a0 7) = Int32.toInt (I0 a0 7)) → (Int32.toInt (Iw19 a0 18) = Int32.toInt (I0 a0 18)) → (Int32.toInt (Iw19 B 0) = Int32.toInt (I0 B 0)) → (Int32.toInt (Iw19 B 4) = Int32.toInt (I0 B 4)) → (Int32.toInt (Iw19 B 7) = Int32.toInt (I0 B 7)) → (Int32.toInt (Iw19 F 0) = Int32.toInt (I0 F 0)) → (Int32.toInt (Iw19 F 4) = Int32.toInt (I0 F 4)) → (Int32.toInt (Iw19 F 7) = Int32.toInt (I0 F 7)) → (Int32.toInt (Iw19 F 8) = Int32.toInt (I0 F 8)) → (Int32.toInt (Iw19 F 9) = Int32.toInt (I0 F 9)) → (Int32.toInt (Iw19 F 10) = Int32.toInt (I0 F 10)) → GG X 2 P K Iw19 O Jw19 0 0 62 [(0, .ref a0), (1, .int z_40)] [] := by
          intro jv0_62 jv1_62 jv2_62 jv3_62 jv4_62 jv5_62 jv6_62 jv7_62 jv8_62 jv9_62 jv10_62 jv11_62
          refine g_aload_n C dMo_readSieve_62 rfl ?_
          refine g_iconst (v := Int32.ofInt (2)) C dMo_readSieve_63 (by decide) ?_
          refine s_callV_v (av := fun ad => [.int (Int32.ofInt (2))]) C dMo_readSieve_64 mfMo_wrong mvMo_wrong ln_Mo_142 h0 (by decide) rfl hVw19 (frL_le (by decide)) (cMo_wrong_O hVw19.1 h0 (by have hk1 : Int32.toInt (Int32.ofInt (2)) = 2 := ofI (by decide); omega)) rfl rfl (Nat.le_of_ble_eq_true rfl) ⟨Nat.le_of_ble_eq_true rfl, Nat.le_of_ble_eq_true rfl⟩ ⟨rfl, rfl⟩ ⟨Nat.zero_le _, Nat.zero_le _⟩ (fun Iw22 Jw22 hVw22 hFw22 p_64 => ?_)
          have tkw22_F_0 : (Iw22 F 0).toInt = (Iw19 F 0).toInt := by rw [(hFw22 F (by rw [hFk.2]; rfl)).1 0]
          have tkw22_F_4 : (Iw22 F 4).toInt = (Iw19 F 4).toInt := by rw [(hFw22 F (by rw [hFk.2]; rfl)).1 4]
          have tkw22_F_8 : (Iw22 F 8).toInt = (Iw19 F 8).toInt := by rw [(hFw22 F (by rw [hFk.2]; rfl)).1 8]
          have tkw22_F_9 : (Iw22 F 9).toInt = (Iw19 F 9).toInt := by rw [(hFw22 F (by rw [hFk.2]; rfl)).1 9]
          have tkw22_F_10 : (Iw22 F 10).toInt = (Iw19 F 10).toInt := by rw [(hFw22 F (by rw [hFk.2]; rfl)).1 10]
          have tkw22_B_0 : (Iw22 B 0).toInt = (Iw19 B 0).toInt := by rw [(hFw22 B (by rw [hBk.2]; rfl)).1 0]
          have tkw22_B_4 : (Iw22 B 4).toInt = (Iw19 B 4).toInt := by rw [(hFw22 B (by rw [hBk.2]; rfl)).1 4]
          have tkw22_B_7 : (Iw22 B 7).toInt = (Iw19 B 7).toInt := by rw [(hFw22 B (by rw [hBk.2]; rfl)).1 7]
          have tkw22_F_7 : (Iw22 F 7).toInt = (Iw19 F 7).toInt := by rw [(hFw22 F (by rw [hFk.2]; rfl)).1 7]
          try dsimp only at p_64
          have hk1_64 : Int32.toInt (Int32.ofInt (2)) = 2 := ofI (by decide)
          refine g_aload_n C dMo_readSieve_67 rfl ?_
          refine gt_getS C dMo_readSieve_68 fl_Mo_172 h0 hFo ?_
          refine g_iload_n C dMo_readSieve_71 rfl ?_
          refine g_iconst (v := Int32.ofInt (-1)) C dMo_readSieve_72 (by decide) ?_
          have jn_89 : ∀  (s0_89 : Int32), (Int32.toInt (Iw22 a0 6) = Int32.toInt (I0 a0 6)) → (Int32.toInt (Iw22 a0 7) = Int32.toInt (I0 a0 7)) → (Int32.toInt (Iw22 a0 18) = Int32.toInt (I0 a0 18)) → (Int32.toInt (Iw22 B 0) = Int32.toInt (I0 B 0)) → (Int32.toInt (Iw22 B 4) = Int32.toInt (I0 B 4)) → (Int32.toInt (Iw22 B 7) = Int32.toInt (I0 B 7)) → (Int32.toInt (Iw22 F 0) = Int32.toInt (I0 F 0)) → (Int32.toInt (Iw22 F 4) = Int32.toInt (I0 F 4)) → (Int32.toInt (Iw22 F 7) = Int32.toInt (I0 F 7)) → (Int32.toInt (Iw22 F 8) = Int32.toInt (I0 F 8)) → (Int32.toInt (Iw22 F 9) = Int32.toInt (I0 F 9)) → (Int32.toInt (Iw22 F 10) = Int32.toInt (I0 F 10)) → GG X 2 P K Iw22 O Jw22 0 0 89 [(0, .ref a0), (1, .int z_40)] [.int s0_89, .ref F] := by
            intro s0_89 jv0_89 jv1_89 jv2_89 jv3_89 jv4_89 jv5_89 jv6_89 jv7_89 jv8_89 jv9_89 jv10_89 jv11_89
            refine gt_puti C dMo_readSieve_89 fl_Mo_181 hFk hVw22 rfl trivial rfl (Or.inl rfl) (fun Iw24 eIw24 hVw24 => ?_)
            have tkw24_a0_8 : (Iw24 a0 8).toInt = (Iw22 a0 8).toInt := by rw [eIw24, up2_ne _ _ (fun z => by have q := h0.2; rw [z.1, hFk.2] at q; exact absurd q (by decide))]
            have tkw24_a0_9 : (Iw24 a0 9).toInt = (Iw22 a0 9).toInt := by rw [eIw24, up2_ne _ _ (fun z => by have q := h0.2; rw [z.1, hFk.2] at q; exact absurd q (by decide))]
            have tkw24_a0_13 : (Iw24 a0 13).toInt = (Iw22 a0 13).toInt := by rw [eIw24, up2_ne _ _ (fun z => by have q := h0.2; rw [z.1, hFk.2] at q; exact absurd q (by decide))]
            have tkw24_F_0 : (Iw24 F 0).toInt = (Iw22 F 0).toInt := by rw [eIw24, up2_ne _ _ (fun z => absurd z.2 (by decide))]
            have tkw24_F_4 : (Iw24 F 4).toInt = (Iw22 F 4).toInt := by rw [eIw24, up2_ne _ _ (fun z => absurd z.2 (by decide))]
            have tkw24_F_8 : (Iw24 F 8).toInt = (Iw22 F 8).toInt := by rw [eIw24, up2_ne _ _ (fun z => absurd z.2 (by decide))]
            have tkw24_F_9 : (Iw24 F 9).toInt = (Iw22 F 9).toInt := by rw [eIw24, up2_ne _ _ (fun z => absurd z.2 (by decide))]
            have tkw24_F_10 : (Iw24 F 10).toInt = (Iw22 F 10).toInt := by rw [eIw24, up2_ne _ _ (fun z => absurd z.2 (by decide))]
            have tkw24_a0_6 : (Iw24 a0 6).toInt = (Iw22 a0 6).toInt := by rw [eIw24, up2_ne _ _ (fun z => by have q := h0.2; rw [z.1, hFk.2] at q; exact absurd q (by decide))]
            have tkw24_a0_7 : (Iw24 a0 7).toInt = (Iw22 a0 7).toInt := by rw [eIw24, up2_ne _ _ (fun z => by have q := h0.2; rw [z.1, hFk.2] at q; exact absurd q (by decide))]
            have tkw24_a0_18 : (Iw24 a0 18).toInt = (Iw22 a0 18).toInt := by rw [eIw24, up2_ne _ _ (fun z => by have q := h0.2; rw [z.1, hFk.2] at q; exact absurd q (by decide))]
            have tkw24_B_0 : (Iw24 B 0).toInt = (Iw22 B 0).toInt := by rw [eIw24, up2_ne _ _ (fun z => absurd z.2 (by decide))]
            have tkw24_B_4 : (Iw24 B 4).toInt = (Iw22 B 4).toInt := by rw [eIw24, up2_ne _ _ (fun z => absurd z.2 (by decide))]
            have tkw24_B_7 : (Iw24 B 7).toInt = (Iw22 B 7).toInt := by rw [eIw24, up2_ne _ _ (fun z => absurd z.2 (by decide))]
            have tkw24_F_7 : (Iw24 F 7).toInt = (Iw22 F 7).toInt := by rw [eIw24, up2_ne _ _ (fun z => absurd z.2 (by decide))]
            refine g_aload_n C dMo_readSieve_92 rfl ?_
            refine s_callV_v (av := fun ad => []) C dMo_readSieve_93 mfMo_next mvMo_next ln_Mo_146 h0 (by decide) rfl hVw24 (frL_le (by decide)) (cMo_next_O hVw24.1 h0 (by omega)) rfl rfl (Nat.le_of_ble_eq_true rfl) ⟨Nat.le_of_ble_eq_true rfl, Nat.le_of_ble_eq_true rfl⟩ ⟨rfl, rfl⟩ ⟨Nat.zero_le _, Nat.zero_le _⟩ (fun Iw25 Jw25 hVw25 hFw25 p_93 => ?_)
            have tkw25_F_0 : (Iw25 F 0).toInt = (Iw24 F 0).toInt := by rw [(hFw25 F (by rw [hFk.2]; rfl)).1 0]
            have tkw25_F_4 : (Iw25 F 4).toInt = (Iw24 F 4).toInt := by rw [(hFw25 F (by rw [hFk.2]; rfl)).1 4]
            have tkw25_F_8 : (Iw25 F 8).toInt = (Iw24 F 8).toInt := by rw [(hFw25 F (by rw [hFk.2]; rfl)).1 8]
            have tkw25_F_9 : (Iw25 F 9).toInt = (Iw24 F 9).toInt := by rw [(hFw25 F (by rw [hFk.2]; rfl)).1 9]
            have tkw25_F_10 : (Iw25 F 10).toInt = (Iw24 F 10).toInt := by rw [(hFw25 F (by rw [hFk.2]; rfl)).1 10]
            have tkw25_B_0 : (Iw25 B 0).toInt = (Iw24 B 0).toInt := by rw [(hFw25 B (by rw [hBk.2]; rfl)).1 0]
            have tkw25_B_4 : (Iw25 B 4).toInt = (Iw24 B 4).toInt := by rw [(hFw25 B (by rw [hBk.2]; rfl)).1 4]
            have tkw25_B_7 : (Iw25 B 7).toInt = (Iw24 B 7).toInt := by rw [(hFw25 B (by rw [hBk.2]; rfl)).1 7]
            have tkw25_F_7 : (Iw25 F 7).toInt = (Iw24 F 7).toInt := by rw [(hFw25 F (by rw [hFk.2]; rfl)).1 7]
            try dsimp only at p_93
            refine g_aload_n C dMo_readSieve_96 rfl ?_
            refine g_ldcS 25 C dMo_readSieve_97 rfl ?_
            refine s_callV_v (av := fun ad => [.ref (ad.1 25)]) C dMo_readSieve_99 mfMo_needWord mvMo_needWord ln_Mo_223 h0 (by decide) rfl hVw25 (frL_le (by decide)) (cMo_needWord_O hVw25.1 h0 (by decide) (by omega)) rfl rfl (Nat.le_of_ble_eq_true rfl) ⟨Nat.le_of_ble_eq_true rfl, Nat.le_of_ble_eq_true rfl⟩ ⟨rfl, rfl⟩ ⟨Nat.zero_le _, Nat.zero_le _⟩ (fun Iw26 Jw26 hVw26 hFw26 p_99 => ?_)
            have tkw26_F_0 : (Iw26 F 0).toInt = (Iw25 F 0).toInt := by rw [(hFw26 F (by rw [hFk.2]; rfl)).1 0]
            have tkw26_F_4 : (Iw26 F 4).toInt = (Iw25 F 4).toInt := by rw [(hFw26 F (by rw [hFk.2]; rfl)).1 4]
            have tkw26_F_8 : (Iw26 F 8).toInt = (Iw25 F 8).toInt := by rw [(hFw26 F (by rw [hFk.2]; rfl)).1 8]
            have tkw26_F_9 : (Iw26 F 9).toInt = (Iw25 F 9).toInt := by rw [(hFw26 F (by rw [hFk.2]; rfl)).1 9]
            have tkw26_F_10 : (Iw26 F 10).toInt = (Iw25 F 10).toInt := by rw [(hFw26 F (by rw [hFk.2]; rfl)).1 10]
            have tkw26_B_0 : (Iw26 B 0).toInt = (Iw25 B 0).toInt := by rw [(hFw26 B (by rw [hBk.2]; rfl)).1 0]
            have tkw26_B_4 : (Iw26 B 4).toInt = (Iw25 B 4).toInt := by rw [(hFw26 B (by rw [hBk.2]; rfl)).1 4]
            have tkw26_B_7 : (Iw26 B 7).toInt = (Iw25 B 7).toInt := by rw [(hFw26 B (by rw [hBk.2]; rfl)).1 7]
            have tkw26_F_7 : (Iw26 F 7).toInt = (Iw25 F 7).toInt := by rw [(hFw26 F (by rw [hFk.2]; rfl)).1 7]
            try dsimp only at p_99
            refine g_aload_n C dMo_readSieve_102 rfl ?_
            refine gt_getS C dMo_readSieve_103 fl_Mo_172 h0 hFo ?_
            refine g_aload_n C dMo_readSieve_106 rfl ?_
            refine g_iconst (v := Int32.ofInt (0)) C dMo_readSieve_107 (by decide) ?_
            refine g_bipush (v := Int32.ofInt (50)) C dMo_readSieve_108 (by decide) ?_
            refine s_callV_i (av := fun ad => [.int (Int32.ofInt (0)), .int (Int32.ofInt (50))]) C dMo_readSieve_110 mfMo_readWhole mvMo_readWhole ln_Mo_227 h0 (by decide) rfl hVw26 (frL_le (by decide)) (cMo_readWhole_O hVw26.1 h0 (by have hk1 : Int32.toInt (Int32.ofInt (0)) = 0 := ofI (by decide); have hk2 : Int32.toInt (Int32.ofInt (50)) = 50 := ofI (by decide); omega)) rfl rfl (Nat.le_of_ble_eq_true rfl) ⟨Nat.le_of_ble_eq_true rfl, Nat.le_of_ble_eq_true rfl⟩ ⟨rfl, rfl⟩ ⟨Nat.zero_le _, Nat.zero_le _⟩ (fun Iw27 Jw27 hVw27 hFw27 z_110 p_110 => ?_)
            have tkw27_F_0 : (Iw27 F 0).toInt = (Iw26 F 0).toInt := by rw [(hFw27 F (by rw [hFk.2]; rfl)).1 0]
            have tkw27_F_4 : (Iw27 F 4).toInt = (Iw26 F 4).toInt := by rw [(hFw27 F (by rw [hFk.2]; rfl)).1 4]
            have tkw27_F_8 : (Iw27 F 8).toInt = (Iw26 F 8).toInt := by rw [(hFw27 F (by rw [hFk.2]; rfl)).1 8]
            have tkw27_F_9 : (Iw27 F 9).toInt = (Iw26 F 9).toInt := by rw [(hFw27 F (by rw [hFk.2]; rfl)).1 9]
            have tkw27_F_10 : (Iw27 F 10).toInt = (Iw26 F 10).toInt := by rw [(hFw27 F (by rw [hFk.2]; rfl)).1 10]
            have tkw27_B_0 : (Iw27 B 0).toInt = (Iw26 B 0).toInt := by rw [(hFw27 B (by rw [hBk.2]; rfl)).1 0]
            have tkw27_B_4 : (Iw27 B 4).toInt = (Iw26 B 4).toInt := by rw [(hFw27 B (by rw [hBk.2]; rfl)).1 4]
            have tkw27_B_7 : (Iw27 B 7).toInt = (Iw26 B 7).toInt := by rw [(hFw27 B (by rw [hBk.2]; rfl)).1 7]
            have tkw27_F_7 : (Iw27 F 7).toInt = (Iw26 F 7).toInt := by rw [(hFw27 F (by rw [hFk.2]; rfl)).1 7]
            have rz_110 := rg z_110
            try dsimp only at p_110
            have hk1_110 : Int32.toInt (Int32.ofInt (0)) = 0 := ofI (by decide)
            have hk2_110 : Int32.toInt (Int32.ofInt (50)) = 50 := ofI (by decide)
            refine gt_puti C dMo_readSieve_113 fl_Mo_248 hFk hVw27 rfl trivial rfl (Or.inl rfl) (fun Iw28 eIw28 hVw28 => ?_)
            have tkw28_a0_8 : (Iw28 a0 8).toInt = (Iw27 a0 8).toInt := by rw [eIw28, up2_ne _ _ (fun z => by have q := h0.2; rw [z.1, hFk.2] at q; exact absurd q (by decide))]
            have tkw28_a0_9 : (Iw28 a0 9).toInt = (Iw27 a0 9).toInt := by rw [eIw28, up2_ne _ _ (fun z => by have q := h0.2; rw [z.1, hFk.2] at q; exact absurd q (by decide))]
            have tkw28_a0_13 : (Iw28 a0 13).toInt = (Iw27 a0 13).toInt := by rw [eIw28, up2_ne _ _ (fun z => by have q := h0.2; rw [z.1, hFk.2] at q; exact absurd q (by decide))]
            have tkw28_F_0 : (Iw28 F 0).toInt = (Iw27 F 0).toInt := by rw [eIw28, up2_ne _ _ (fun z => absurd z.2 (by decide))]
            have tkw28_F_4 : (Iw28 F 4).toInt = (Iw27 F 4).toInt := by rw [eIw28, up2_ne _ _ (fun z => absurd z.2 (by decide))]
            have tkw28_F_8 : (Iw28 F 8).toInt = (Iw27 F 8).toInt := by rw [eIw28, up2_ne _ _ (fun z => absurd z.2 (by decide))]
            have tkw28_F_9 : (Iw28 F 9).toInt = (Iw27 F 9).toInt := by rw [eIw28, up2_ne _ _ (fun z => absurd z.2 (by decide))]
            have tkw28_F_10 : (Iw28 F 10).toInt = (Iw27 F 10).toInt := by rw [eIw28, up2_ne _ _ (fun z => absurd z.2 (by decide))]
            have tkw28_a0_6 : (Iw28 a0 6).toInt = (Iw27 a0 6).toInt := by rw [eIw28, up2_ne _ _ (fun z => by have q := h0.2; rw [z.1, hFk.2] at q; exact absurd q (by decide))]
            have tkw28_a0_7 : (Iw28 a0 7).toInt = (Iw27 a0 7).toInt := by rw [eIw28, up2_ne _ _ (fun z => by have q := h0.2; rw [z.1, hFk.2] at q; exact absurd q (by decide))]
            have tkw28_a0_18 : (Iw28 a0 18).toInt = (Iw27 a0 18).toInt := by rw [eIw28, up2_ne _ _ (fun z => by have q := h0.2; rw [z.1, hFk.2] at q; exact absurd q (by decide))]
            have tkw28_B_0 : (Iw28 B 0).toInt = (Iw27 B 0).toInt := by rw [eIw28, up2_ne _ _ (fun z => absurd z.2 (by decide))]
            have tkw28_B_4 : (Iw28 B 4).toInt = (Iw27 B 4).toInt := by rw [eIw28, up2_ne _ _ (fun z => absurd z.2 (by decide))]
            have tkw28_B_7 : (Iw28 B 7).toInt = (Iw27 B 7).toInt := by rw [eIw28, up2_ne _ _ (fun z => absurd z.2 (by decide))]
            have tkw28_F_7 : (Iw28 F 7).toInt = (Iw27 F 7).toInt := by rw [eIw28, up2_ne _ _ (fun z => absurd z.2 (by decide))]
            exact s_vret C E dMo_readSieve_116 ⟨Nat.zero_le _, Nat.zero_le _⟩ hVw28 (by (try dsimp only); omega)
          refine gt_icmp_ne 80 C dMo_readSieve_73 (by decide) rfl (ofI (by decide)) (fun c_73 => ?_) (fun c_73 => ?_)
          · skip
            refine g_aload_n C dMo_readSieve_80 rfl ?_
            refine gt_getS C dMo_readSieve_81 fl_Mo_172 h0 hFo ?_
            refine gt_getr C dMo_readSieve_84 fl_Mo_243 hFk hVw22.1.1 rfl (fun b_84 q_84 hb_84 => ?_)
            refine g_iload_n C dMo_readSieve_87 rfl ?_
            refine gt_iald C dMo_readSieve_88 hb_84 (by decide) rfl rfl (n := 9) rfl (by omega) ?_
            have o_88 := hVw22.1.2 b_84 hb_84.1 z_40.toNatClampNeg
            rw [hb_84.2] at o_88
            have o_88 : -1 ≤ (Iw22 b_84 z_40.toNatClampNeg).toInt ∧ (Iw22 b_84 z_40.toNatClampNeg).toInt ≤ 4 := o_88
            exact g_sub (jn_89 (Iw22 b_84 z_40.toNatClampNeg)  (by omega) (by omega) (by omega) (by omega) (by omega) (by omega) (by omega) (by omega) (by omega) (by omega) (by omega) (by omega) ) ⟨rfl, rfl, trivial⟩
          · skip
            refine g_iconst (v := Int32.ofInt (0)) C dMo_readSieve_76 (by decide) ?_
            refine g_goto 89 C dMo_readSieve_77 (by decide) ?_
            exact g_sub (jn_89 (Int32.ofInt (0))  (by omega) (by omega) (by omega) (by omega) (by omega) (by omega) (by omega) (by omega) (by omega) (by omega) (by omega) (by omega) ) ⟨rfl, rfl, trivial⟩
        refine gt_icmp_eq 62 C dMo_readSieve_46 (by decide) rfl (ofI (by decide)) (fun c_46 => ?_) (fun c_46 => ?_)
        · skip
          exact g_sub (jn_62   (by omega) (by omega) (by omega) (by omega) (by omega) (by omega) (by omega) (by omega) (by omega) (by omega) (by omega) (by omega) ) ⟨rfl, rfl, trivial⟩
        · skip
          refine g_aload_n C dMo_readSieve_49 rfl ?_
          refine gt_getS C dMo_readSieve_50 fl_Mo_172 h0 hFo ?_
          refine gt_getr C dMo_readSieve_53 fl_Mo_243 hFk hVw19.1.1 rfl (fun b_53 q_53 hb_53 => ?_)
          refine g_iload_n C dMo_readSieve_56 rfl ?_
          refine gt_iald C dMo_readSieve_57 hb_53 (by decide) rfl rfl (n := 9) rfl (by omega) ?_
          have o_57 := hVw19.1.2 b_53 hb_53.1 z_40.toNatClampNeg
          rw [hb_53.2] at o_57
          have o_57 : -1 ≤ (Iw19 b_53 z_40.toNatClampNeg).toInt ∧ (Iw19 b_53 z_40.toNatClampNeg).toInt ≤ 4 := o_57
          refine g_iconst (v := Int32.ofInt (-1)) C dMo_readSieve_58 (by decide) ?_
          refine gt_icmp_ne 67 C dMo_readSieve_59 (by decide) rfl (ofI (by decide)) (fun c_59 => ?_) (fun c_59 => ?_)
          · skip
            refine g_aload_n C dMo_readSieve_67 rfl ?_
            refine gt_getS C dMo_readSieve_68 fl_Mo_172 h0 hFo ?_
            refine g_iload_n C dMo_readSieve_71 rfl ?_
            refine g_iconst (v := Int32.ofInt (-1)) C dMo_readSieve_72 (by decide) ?_
            have jn_89 : ∀  (s0_89 : Int32), (Int32.toInt (Iw19 a0 6) = Int32.toInt (I0 a0 6)) → (Int32.toInt (Iw19 a0 7) = Int32.toInt (I0 a0 7)) → (Int32.toInt (Iw19 a0 18) = Int32.toInt (I0 a0 18)) → (Int32.toInt (Iw19 B 0) = Int32.toInt (I0 B 0)) → (Int32.toInt (Iw19 B 4) = Int32.toInt (I0 B 4)) → (Int32.toInt (Iw19 B 7) = Int32.toInt (I0 B 7)) → (Int32.toInt (Iw19 F 0) = Int32.toInt (I0 F 0)) → (Int32.toInt (Iw19 F 4) = Int32.toInt (I0 F 4)) → (Int32.toInt (Iw19 F 7) = Int32.toInt (I0 F 7)) → (Int32.toInt (Iw19 F 8) = Int32.toInt (I0 F 8)) → (Int32.toInt (Iw19 F 9) = Int32.toInt (I0 F 9)) → (Int32.toInt (Iw19 F 10) = Int32.toInt (I0 F 10)) → GG X 2 P K Iw19 O Jw19 0 0 89 [(0, .ref a0), (1, .int z_40)] [.int s0_89, .ref F] := by
              intro s0_89 jv0_89 jv1_89 jv2_89 jv3_89 jv4_89 jv5_89 jv6_89 jv7_89 jv8_89 jv9_89 jv10_89 jv11_89
              refine gt_puti C dMo_readSieve_89 fl_Mo_181 hFk hVw19 rfl trivial rfl (Or.inl rfl) (fun Iw30 eIw30 hVw30 => ?_)
              have tkw30_a0_8 : (Iw30 a0 8).toInt = (Iw19 a0 8).toInt := by rw [eIw30, up2_ne _ _ (fun z => by have q := h0.2; rw [z.1, hFk.2] at q; exact absurd q (by decide))]
              have tkw30_a0_9 : (Iw30 a0 9).toInt = (Iw19 a0 9).toInt := by rw [eIw30, up2_ne _ _ (fun z => by have q := h0.2; rw [z.1, hFk.2] at q; exact absurd q (by decide))]
              have tkw30_a0_13 : (Iw30 a0 13).toInt = (Iw19 a0 13).toInt := by rw [eIw30, up2_ne _ _ (fun z => by have q := h0.2; rw [z.1, hFk.2] at q; exact absurd q (by decide))]
              have tkw30_F_0 : (Iw30 F 0).toInt = (Iw19 F 0).toInt := by rw [eIw30, up2_ne _ _ (fun z => absurd z.2 (by decide))]
              have tkw30_F_4 : (Iw30 F 4).toInt = (Iw19 F 4).toInt := by rw [eIw30, up2_ne _ _ (fun z => absurd z.2 (by decide))]
              have tkw30_F_8 : (Iw30 F 8).toInt = (Iw19 F 8).toInt := by rw [eIw30, up2_ne _ _ (fun z => absurd z.2 (by decide))]
              have tkw30_F_9 : (Iw30 F 9).toInt = (Iw19 F 9).toInt := by rw [eIw30, up2_ne _ _ (fun z => absurd z.2 (by decide))]
              have tkw30_F_10 : (Iw30 F 10).toInt = (Iw19 F 10).toInt := by rw [eIw30, up2_ne _ _ (fun z => absurd z.2 (by decide))]
              have tkw30_a0_6 : (Iw30 a0 6).toInt = (Iw19 a0 6).toInt := by rw [eIw30, up2_ne _ _ (fun z => by have q := h0.2; rw [z.1, hFk.2] at q; exact absurd q (by decide))]
              have tkw30_a0_7 : (Iw30 a0 7).toInt = (Iw19 a0 7).toInt := by rw [eIw30, up2_ne _ _ (fun z => by have q := h0.2; rw [z.1, hFk.2] at q; exact absurd q (by decide))]
              have tkw30_a0_18 : (Iw30 a0 18).toInt = (Iw19 a0 18).toInt := by rw [eIw30, up2_ne _ _ (fun z => by have q := h0.2; rw [z.1, hFk.2] at q; exact absurd q (by decide))]
              have tkw30_B_0 : (Iw30 B 0).toInt = (Iw19 B 0).toInt := by rw [eIw30, up2_ne _ _ (fun z => absurd z.2 (by decide))]
              have tkw30_B_4 : (Iw30 B 4).toInt = (Iw19 B 4).toInt := by rw [eIw30, up2_ne _ _ (fun z => absurd z.2 (by decide))]
              have tkw30_B_7 : (Iw30 B 7).toInt = (Iw19 B 7).toInt := by rw [eIw30, up2_ne _ _ (fun z => absurd z.2 (by decide))]
              have tkw30_F_7 : (Iw30 F 7).toInt = (Iw19 F 7).toInt := by rw [eIw30, up2_ne _ _ (fun z => absurd z.2 (by decide))]
              refine g_aload_n C dMo_readSieve_92 rfl ?_
              refine s_callV_v (av := fun ad => []) C dMo_readSieve_93 mfMo_next mvMo_next ln_Mo_146 h0 (by decide) rfl hVw30 (frL_le (by decide)) (cMo_next_O hVw30.1 h0 (by omega)) rfl rfl (Nat.le_of_ble_eq_true rfl) ⟨Nat.le_of_ble_eq_true rfl, Nat.le_of_ble_eq_true rfl⟩ ⟨rfl, rfl⟩ ⟨Nat.zero_le _, Nat.zero_le _⟩ (fun Iw31 Jw31 hVw31 hFw31 p_93 => ?_)
              have tkw31_F_0 : (Iw31 F 0).toInt = (Iw30 F 0).toInt := by rw [(hFw31 F (by rw [hFk.2]; rfl)).1 0]
              have tkw31_F_4 : (Iw31 F 4).toInt = (Iw30 F 4).toInt := by rw [(hFw31 F (by rw [hFk.2]; rfl)).1 4]
              have tkw31_F_8 : (Iw31 F 8).toInt = (Iw30 F 8).toInt := by rw [(hFw31 F (by rw [hFk.2]; rfl)).1 8]
              have tkw31_F_9 : (Iw31 F 9).toInt = (Iw30 F 9).toInt := by rw [(hFw31 F (by rw [hFk.2]; rfl)).1 9]
              have tkw31_F_10 : (Iw31 F 10).toInt = (Iw30 F 10).toInt := by rw [(hFw31 F (by rw [hFk.2]; rfl)).1 10]
              have tkw31_B_0 : (Iw31 B 0).toInt = (Iw30 B 0).toInt := by rw [(hFw31 B (by rw [hBk.2]; rfl)).1 0]
              have tkw31_B_4 : (Iw31 B 4).toInt = (Iw30 B 4).toInt := by rw [(hFw31 B (by rw [hBk.2]; rfl)).1 4]
              have tkw31_B_7 : (Iw31 B 7).toInt = (Iw30 B 7).toInt := by rw [(hFw31 B (by rw [hBk.2]; rfl)).1 7]
              have tkw31_F_7 : (Iw31 F 7).toInt = (Iw30 F 7).toInt := by rw [(hFw31 F (by rw [hFk.2]; rfl)).1 7]
              try dsimp only at p_93
              refine g_aload_n C dMo_readSieve_96 rfl ?_
              refine g_ldcS 25 C dMo_readSieve_97 rfl ?_
              refine s_callV_v (av := fun ad => [.ref (ad.1 25)]) C dMo_readSieve_99 mfMo_needWord mvMo_needWord ln_Mo_223 h0 (by decide) rfl hVw31 (frL_le (by decide)) (cMo_needWord_O hVw31.1 h0 (by decide) (by omega)) rfl rfl (Nat.le_of_ble_eq_true rfl) ⟨Nat.le_of_ble_eq_true rfl, Nat.le_of_ble_eq_true rfl⟩ ⟨rfl, rfl⟩ ⟨Nat.zero_le _, Nat.zero_le _⟩ (fun Iw32 Jw32 hVw32 hFw32 p_99 => ?_)
              have tkw32_F_0 : (Iw32 F 0).toInt = (Iw31 F 0).toInt := by rw [(hFw32 F (by rw [hFk.2]; rfl)).1 0]
              have tkw32_F_4 : (Iw32 F 4).toInt = (Iw31 F 4).toInt := by rw [(hFw32 F (by rw [hFk.2]; rfl)).1 4]
              have tkw32_F_8 : (Iw32 F 8).toInt = (Iw31 F 8).toInt := by rw [(hFw32 F (by rw [hFk.2]; rfl)).1 8]
              have tkw32_F_9 : (Iw32 F 9).toInt = (Iw31 F 9).toInt := by rw [(hFw32 F (by rw [hFk.2]; rfl)).1 9]
              have tkw32_F_10 : (Iw32 F 10).toInt = (Iw31 F 10).toInt := by rw [(hFw32 F (by rw [hFk.2]; rfl)).1 10]
              have tkw32_B_0 : (Iw32 B 0).toInt = (Iw31 B 0).toInt := by rw [(hFw32 B (by rw [hBk.2]; rfl)).1 0]
              have tkw32_B_4 : (Iw32 B 4).toInt = (Iw31 B 4).toInt := by rw [(hFw32 B (by rw [hBk.2]; rfl)).1 4]
              have tkw32_B_7 : (Iw32 B 7).toInt = (Iw31 B 7).toInt := by rw [(hFw32 B (by rw [hBk.2]; rfl)).1 7]
              have tkw32_F_7 : (Iw32 F 7).toInt = (Iw31 F 7).toInt := by rw [(hFw32 F (by rw [hFk.2]; rfl)).1 7]
              try dsimp only at p_99
              refine g_aload_n C dMo_readSieve_102 rfl ?_
              refine gt_getS C dMo_readSieve_103 fl_Mo_172 h0 hFo ?_
              refine g_aload_n C dMo_readSieve_106 rfl ?_
              refine g_iconst (v := Int32.ofInt (0)) C dMo_readSieve_107 (by decide) ?_
              refine g_bipush (v := Int32.ofInt (50)) C dMo_readSieve_108 (by decide) ?_
              refine s_callV_i (av := fun ad => [.int (Int32.ofInt (0)), .int (Int32.ofInt (50))]) C dMo_readSieve_110 mfMo_readWhole mvMo_readWhole ln_Mo_227 h0 (by decide) rfl hVw32 (frL_le (by decide)) (cMo_readWhole_O hVw32.1 h0 (by have hk1 : Int32.toInt (Int32.ofInt (0)) = 0 := ofI (by decide); have hk2 : Int32.toInt (Int32.ofInt (50)) = 50 := ofI (by decide); omega)) rfl rfl (Nat.le_of_ble_eq_true rfl) ⟨Nat.le_of_ble_eq_true rfl, Nat.le_of_ble_eq_true rfl⟩ ⟨rfl, rfl⟩ ⟨Nat.zero_le _, Nat.zero_le _⟩ (fun Iw33 Jw33 hVw33 hFw33 z_110 p_110 => ?_)
              have tkw33_F_0 : (Iw33 F 0).toInt = (Iw32 F 0).toInt := by rw [(hFw33 F (by rw [hFk.2]; rfl)).1 0]
              have tkw33_F_4 : (Iw33 F 4).toInt = (Iw32 F 4).toInt := by rw [(hFw33 F (by rw [hFk.2]; rfl)).1 4]
              have tkw33_F_8 : (Iw33 F 8).toInt = (Iw32 F 8).toInt := by rw [(hFw33 F (by rw [hFk.2]; rfl)).1 8]
              have tkw33_F_9 : (Iw33 F 9).toInt = (Iw32 F 9).toInt := by rw [(hFw33 F (by rw [hFk.2]; rfl)).1 9]
              have tkw33_F_10 : (Iw33 F 10).toInt = (Iw32 F 10).toInt := by rw [(hFw33 F (by rw [hFk.2]; rfl)).1 10]
              have tkw33_B_0 : (Iw33 B 0).toInt = (Iw32 B 0).toInt := by rw [(hFw33 B (by rw [hBk.2]; rfl)).1 0]
              have tkw33_B_4 : (Iw33 B 4).toInt = (Iw32 B 4).toInt := by rw [(hFw33 B (by rw [hBk.2]; rfl)).1 4]
              have tkw33_B_7 : (Iw33 B 7).toInt = (Iw32 B 7).toInt := by rw [(hFw33 B (by rw [hBk.2]; rfl)).1 7]
              have tkw33_F_7 : (Iw33 F 7).toInt = (Iw32 F 7).toInt := by rw [(hFw33 F (by rw [hFk.2]; rfl)).1 7]
              have rz_110 := rg z_110
              try dsimp only at p_110
              have hk1_110 : Int32.toInt (Int32.ofInt (0)) = 0 := ofI (by decide)
              have hk2_110 : Int32.toInt (Int32.ofInt (50)) = 50 := ofI (by decide)
              refine gt_puti C dMo_readSieve_113 fl_Mo_248 hFk hVw33 rfl trivial rfl (Or.inl rfl) (fun Iw34 eIw34 hVw34 => ?_)
              have tkw34_a0_8 : (Iw34 a0 8).toInt = (Iw33 a0 8).toInt := by rw [eIw34, up2_ne _ _ (fun z => by have q := h0.2; rw [z.1, hFk.2] at q; exact absurd q (by decide))]
              have tkw34_a0_9 : (Iw34 a0 9).toInt = (Iw33 a0 9).toInt := by rw [eIw34, up2_ne _ _ (fun z => by have q := h0.2; rw [z.1, hFk.2] at q; exact absurd q (by decide))]
              have tkw34_a0_13 : (Iw34 a0 13).toInt = (Iw33 a0 13).toInt := by rw [eIw34, up2_ne _ _ (fun z => by have q := h0.2; rw [z.1, hFk.2] at q; exact absurd q (by decide))]
              have tkw34_F_0 : (Iw34 F 0).toInt = (Iw33 F 0).toInt := by rw [eIw34, up2_ne _ _ (fun z => absurd z.2 (by decide))]
              have tkw34_F_4 : (Iw34 F 4).toInt = (Iw33 F 4).toInt := by rw [eIw34, up2_ne _ _ (fun z => absurd z.2 (by decide))]
              have tkw34_F_8 : (Iw34 F 8).toInt = (Iw33 F 8).toInt := by rw [eIw34, up2_ne _ _ (fun z => absurd z.2 (by decide))]
              have tkw34_F_9 : (Iw34 F 9).toInt = (Iw33 F 9).toInt := by rw [eIw34, up2_ne _ _ (fun z => absurd z.2 (by decide))]
              have tkw34_F_10 : (Iw34 F 10).toInt = (Iw33 F 10).toInt := by rw [eIw34, up2_ne _ _ (fun z => absurd z.2 (by decide))]
              have tkw34_a0_6 : (Iw34 a0 6).toInt = (Iw33 a0 6).toInt := by rw [eIw34, up2_ne _ _ (fun z => by have q := h0.2; rw [z.1, hFk.2] at q; exact absurd q (by decide))]
              have tkw34_a0_7 : (Iw34 a0 7).toInt = (Iw33 a0 7).toInt := by rw [eIw34, up2_ne _ _ (fun z => by have q := h0.2; rw [z.1, hFk.2] at q; exact absurd q (by decide))]
              have tkw34_a0_18 : (Iw34 a0 18).toInt = (Iw33 a0 18).toInt := by rw [eIw34, up2_ne _ _ (fun z => by have q := h0.2; rw [z.1, hFk.2] at q; exact absurd q (by decide))]
              have tkw34_B_0 : (Iw34 B 0).toInt = (Iw33 B 0).toInt := by rw [eIw34, up2_ne _ _ (fun z => absurd z.2 (by decide))]
              have tkw34_B_4 : (Iw34 B 4).toInt = (Iw33 B 4).toInt := by rw [eIw34, up2_ne _ _ (fun z => absurd z.2 (by decide))]
              have tkw34_B_7 : (Iw34 B 7).toInt = (Iw33 B 7).toInt := by rw [eIw34, up2_ne _ _ (fun z => absurd z.2 (by decide))]
              have tkw34_F_7 : (Iw34 F 7).toInt = (Iw33 F 7).toInt := by rw [eIw34, up2_ne _ _ (fun z => absurd z.2 (by decide))]
              exact s_vret C E dMo_readSieve_116 ⟨Nat.zero_le _, Nat.zero_le _⟩ hVw34 (by (try dsimp only); omega)
            refine gt_icmp_ne 80 C dMo_readSieve_73 (by decide) rfl (ofI (by decide)) (fun c_73 => ?_) (fun c_73 => ?_)
            · skip
              refine g_aload_n C dMo_readSieve_80 rfl ?_
              refine gt_getS C dMo_readSieve_81 fl_Mo_172 h0 hFo ?_
              refine gt_getS C dMo_readSieve_84 fl_Mo_243 hFk q_53 ?_
              refine g_iload_n C dMo_readSieve_87 rfl ?_
              refine gt_iald C dMo_readSieve_88 hb_53 (by decide) rfl rfl (n := 9) rfl (by omega) ?_
              have o_88 := hVw19.1.2 b_53 hb_53.1 z_40.toNatClampNeg
              rw [hb_53.2] at o_88
              have o_88 : -1 ≤ (Iw19 b_53 z_40.toNatClampNeg).toInt ∧ (Iw19 b_53 z_40.toNatClampNeg).toInt ≤ 4 := o_88
              exact g_sub (jn_89 (Iw19 b_53 z_40.toNatClampNeg)  (by omega) (by omega) (by omega) (by omega) (by omega) (by omega) (by omega) (by omega) (by omega) (by omega) (by omega) (by omega) ) ⟨rfl, rfl, trivial⟩
            · skip
              refine g_iconst (v := Int32.ofInt (0)) C dMo_readSieve_76 (by decide) ?_
              refine g_goto 89 C dMo_readSieve_77 (by decide) ?_
              exact g_sub (jn_89 (Int32.ofInt (0))  (by omega) (by omega) (by omega) (by omega) (by omega) (by omega) (by omega) (by omega) (by omega) (by omega) (by omega) (by omega) ) ⟨rfl, rfl, trivial⟩
          · skip
            exact g_sub (jn_62   (by omega) (by omega) (by omega) (by omega) (by omega) (by omega) (by omega) (by omega) (by omega) (by omega) (by omega) (by omega) ) ⟨rfl, rfl, trivial⟩
    · skip
      refine g_aload_n C dMo_readSieve_20 rfl ?_
      refine s_callV_zp (av := fun ad => []) C dMo_readSieve_21 mfMo_isName mvMo_isName ln_Mo_235 h0 (by decide) rfl (cMo_isName hVw2.1 h0) rfl rfl (Nat.le_of_ble_eq_true rfl) ⟨Nat.le_of_ble_eq_true rfl, Nat.le_of_ble_eq_true rfl⟩ ⟨rfl, rfl⟩ ⟨Nat.zero_le _, Nat.zero_le _⟩ (fun z_21 b_21 p_21 => ?_)
      have rz_21 := rg z_21
      have u_21 := b_21
      unfold B01 at u_21
      refine gt_if_ne 32 C dMo_readSieve_24 (by decide) rfl (fun c_24 => ?_) (fun c_24 => ?_)
      · skip
        refine g_aload_n C dMo_readSieve_32 rfl ?_
        refine gt_getS C dMo_readSieve_33 fl_Mo_172 h0 hFo ?_
        refine g_aload_n C dMo_readSieve_36 rfl ?_
        refine g_getl C dMo_readSieve_37 fl_Mo_114 h0 ?_
        refine s_callV_ip (av := fun ad => [.long (Jw2 a0 15)]) C dMo_readSieve_40 mfMx_find mvMx_find ln_Mo_239 hFk (by decide) rfl (cMx_find hVw2.1 hFk) rfl rfl (Nat.le_of_ble_eq_true rfl) ⟨Nat.le_of_ble_eq_true rfl, Nat.le_of_ble_eq_true rfl⟩ ⟨rfl, rfl⟩ ⟨Nat.zero_le _, Nat.zero_le _⟩ (fun z_40 p_40 => ?_)
        have rz_40 := rg z_40
        try dsimp only at p_40
        refine g_istore_n (i := 1) C dMo_readSieve_43 rfl (by decide) ?_
        refine g_iload_n C dMo_readSieve_44 rfl ?_
        refine g_iconst (v := Int32.ofInt (-1)) C dMo_readSieve_45 (by decide) ?_
        have jn_62 : (Int32.toInt (Iw2 a0 6) = Int32.toInt (I0 a0 6)) → (Int32.toInt (Iw2 a0 7) = Int32.toInt (I0 a0 7)) → (Int32.toInt (Iw2 a0 18) = Int32.toInt (I0 a0 18)) → (Int32.toInt (Iw2 B 0) = Int32.toInt (I0 B 0)) → (Int32.toInt (Iw2 B 4) = Int32.toInt (I0 B 4)) → (Int32.toInt (Iw2 B 7) = Int32.toInt (I0 B 7)) → (Int32.toInt (Iw2 F 0) = Int32.toInt (I0 F 0)) → (Int32.toInt (Iw2 F 4) = Int32.toInt (I0 F 4)) → (Int32.toInt (Iw2 F 7) = Int32.toInt (I0 F 7)) → (Int32.toInt (Iw2 F 8) = Int32.toInt (I0 F 8)) → (Int32.toInt (Iw2 F 9) = Int32.toInt (I0 F 9)) → (Int32.toInt (Iw2 F 10) = Int32.toInt (I0 F 10)) → GG X 2 P K Iw2 O Jw2 0 0 62 [(0, .ref a0), (1, .int z_40)] [] := by
          intro jv0_62 jv1_62 jv2_62 jv3_62 jv4_62 jv5_62 jv6_62 jv7_62 jv8_62 jv9_62 jv10_62 jv11_62
          refine g_aload_n C dMo_readSieve_62 rfl ?_
          refine g_iconst (v := Int32.ofInt (2)) C dMo_readSieve_63 (by decide) ?_
          refine s_callV_v (av := fun ad => [.int (Int32.ofInt (2))]) C dMo_readSieve_64 mfMo_wrong mvMo_wrong ln_Mo_142 h0 (by decide) rfl hVw2 (frL_le (by decide)) (cMo_wrong_N hVw2.1 h0 (by have hk1 : Int32.toInt (Int32.ofInt (2)) = 2 := ofI (by decide); omega) (by have hk1 : Int32.toInt (Int32.ofInt (2)) = 2 := ofI (by decide); omega)) rfl rfl (Nat.le_of_ble_eq_true rfl) ⟨Nat.le_of_ble_eq_true rfl, Nat.le_of_ble_eq_true rfl⟩ ⟨rfl, rfl⟩ ⟨Nat.zero_le _, Nat.zero_le _⟩ (fun Iw38 Jw38 hVw38 hFw38 p_64 => ?_)
          have tkw38_F_0 : (Iw38 F 0).toInt = (Iw2 F 0).toInt := by rw [(hFw38 F (by rw [hFk.2]; rfl)).1 0]
          have tkw38_F_4 : (Iw38 F 4).toInt = (Iw2 F 4).toInt := by rw [(hFw38 F (by rw [hFk.2]; rfl)).1 4]
          have tkw38_F_8 : (Iw38 F 8).toInt = (Iw2 F 8).toInt := by rw [(hFw38 F (by rw [hFk.2]; rfl)).1 8]
          have tkw38_F_9 : (Iw38 F 9).toInt = (Iw2 F 9).toInt := by rw [(hFw38 F (by rw [hFk.2]; rfl)).1 9]
          have tkw38_F_10 : (Iw38 F 10).toInt = (Iw2 F 10).toInt := by rw [(hFw38 F (by rw [hFk.2]; rfl)).1 10]
          have tkw38_B_0 : (Iw38 B 0).toInt = (Iw2 B 0).toInt := by rw [(hFw38 B (by rw [hBk.2]; rfl)).1 0]
          have tkw38_B_4 : (Iw38 B 4).toInt = (Iw2 B 4).toInt := by rw [(hFw38 B (by rw [hBk.2]; rfl)).1 4]
          have tkw38_B_7 : (Iw38 B 7).toInt = (Iw2 B 7).toInt := by rw [(hFw38 B (by rw [hBk.2]; rfl)).1 7]
          have tkw38_F_7 : (Iw38 F 7).toInt = (Iw2 F 7).toInt := by rw [(hFw38 F (by rw [hFk.2]; rfl)).1 7]
          try dsimp only at p_64
          have hk1_64 : Int32.toInt (Int32.ofInt (2)) = 2 := ofI (by decide)
          refine g_aload_n C dMo_readSieve_67 rfl ?_
          refine gt_getS C dMo_readSieve_68 fl_Mo_172 h0 hFo ?_
          refine g_iload_n C dMo_readSieve_71 rfl ?_
          refine g_iconst (v := Int32.ofInt (-1)) C dMo_readSieve_72 (by decide) ?_
          have jn_89 : ∀  (s0_89 : Int32), (Int32.toInt (Iw38 a0 6) = Int32.toInt (I0 a0 6)) → (Int32.toInt (Iw38 a0 7) = Int32.toInt (I0 a0 7)) → (Int32.toInt (Iw38 a0 18) = Int32.toInt (I0 a0 18)) → (Int32.toInt (Iw38 B 0) = Int32.toInt (I0 B 0)) → (Int32.toInt (Iw38 B 4) = Int32.toInt (I0 B 4)) → (Int32.toInt (Iw38 B 7) = Int32.toInt (I0 B 7)) → (Int32.toInt (Iw38 F 0) = Int32.toInt (I0 F 0)) → (Int32.toInt (Iw38 F 4) = Int32.toInt (I0 F 4)) → (Int32.toInt (Iw38 F 7) = Int32.toInt (I0 F 7)) → (Int32.toInt (Iw38 F 8) = Int32.toInt (I0 F 8)) → (Int32.toInt (Iw38 F 9) = Int32.toInt (I0 F 9)) → (Int32.toInt (Iw38 F 10) = Int32.toInt (I0 F 10)) → GG X 2 P K Iw38 O Jw38 0 0 89 [(0, .ref a0), (1, .int z_40)] [.int s0_89, .ref F] := by
            intro s0_89 jv0_89 jv1_89 jv2_89 jv3_89 jv4_89 jv5_89 jv6_89 jv7_89 jv8_89 jv9_89 jv10_89 jv11_89
            refine gt_puti C dMo_readSieve_89 fl_Mo_181 hFk hVw38 rfl trivial rfl (Or.inl rfl) (fun Iw40 eIw40 hVw40 => ?_)
            have tkw40_a0_8 : (Iw40 a0 8).toInt = (Iw38 a0 8).toInt := by rw [eIw40, up2_ne _ _ (fun z => by have q := h0.2; rw [z.1, hFk.2] at q; exact absurd q (by decide))]
            have tkw40_a0_9 : (Iw40 a0 9).toInt = (Iw38 a0 9).toInt := by rw [eIw40, up2_ne _ _ (fun z => by have q := h0.2; rw [z.1, hFk.2] at q; exact absurd q (by decide))]
            have tkw40_a0_13 : (Iw40 a0 13).toInt = (Iw38 a0 13).toInt := by rw [eIw40, up2_ne _ _ (fun z => by have q := h0.2; rw [z.1, hFk.2] at q; exact absurd q (by decide))]
            have tkw40_F_0 : (Iw40 F 0).toInt = (Iw38 F 0).toInt := by rw [eIw40, up2_ne _ _ (fun z => absurd z.2 (by decide))]
            have tkw40_F_4 : (Iw40 F 4).toInt = (Iw38 F 4).toInt := by rw [eIw40, up2_ne _ _ (fun z => absurd z.2 (by decide))]
            have tkw40_F_8 : (Iw40 F 8).toInt = (Iw38 F 8).toInt := by rw [eIw40, up2_ne _ _ (fun z => absurd z.2 (by decide))]
            have tkw40_F_9 : (Iw40 F 9).toInt = (Iw38 F 9).toInt := by rw [eIw40, up2_ne _ _ (fun z => absurd z.2 (by decide))]
            have tkw40_F_10 : (Iw40 F 10).toInt = (Iw38 F 10).toInt := by rw [eIw40, up2_ne _ _ (fun z => absurd z.2 (by decide))]
            have tkw40_a0_6 : (Iw40 a0 6).toInt = (Iw38 a0 6).toInt := by rw [eIw40, up2_ne _ _ (fun z => by have q := h0.2; rw [z.1, hFk.2] at q; exact absurd q (by decide))]
            have tkw40_a0_7 : (Iw40 a0 7).toInt = (Iw38 a0 7).toInt := by rw [eIw40, up2_ne _ _ (fun z => by have q := h0.2; rw [z.1, hFk.2] at q; exact absurd q (by decide))]
            have tkw40_a0_18 : (Iw40 a0 18).toInt = (Iw38 a0 18).toInt := by rw [eIw40, up2_ne _ _ (fun z => by have q := h0.2; rw [z.1, hFk.2] at q; exact absurd q (by decide))]
            have tkw40_B_0 : (Iw40 B 0).toInt = (Iw38 B 0).toInt := by rw [eIw40, up2_ne _ _ (fun z => absurd z.2 (by decide))]
            have tkw40_B_4 : (Iw40 B 4).toInt = (Iw38 B 4).toInt := by rw [eIw40, up2_ne _ _ (fun z => absurd z.2 (by decide))]
            have tkw40_B_7 : (Iw40 B 7).toInt = (Iw38 B 7).toInt := by rw [eIw40, up2_ne _ _ (fun z => absurd z.2 (by decide))]
            have tkw40_F_7 : (Iw40 F 7).toInt = (Iw38 F 7).toInt := by rw [eIw40, up2_ne _ _ (fun z => absurd z.2 (by decide))]
            refine g_aload_n C dMo_readSieve_92 rfl ?_
            refine s_callV_v (av := fun ad => []) C dMo_readSieve_93 mfMo_next mvMo_next ln_Mo_146 h0 (by decide) rfl hVw40 (frL_le (by decide)) (cMo_next_O hVw40.1 h0 (by omega)) rfl rfl (Nat.le_of_ble_eq_true rfl) ⟨Nat.le_of_ble_eq_true rfl, Nat.le_of_ble_eq_true rfl⟩ ⟨rfl, rfl⟩ ⟨Nat.zero_le _, Nat.zero_le _⟩ (fun Iw41 Jw41 hVw41 hFw41 p_93 => ?_)
            have tkw41_F_0 : (Iw41 F 0).toInt = (Iw40 F 0).toInt := by rw [(hFw41 F (by rw [hFk.2]; rfl)).1 0]
            have tkw41_F_4 : (Iw41 F 4).toInt = (Iw40 F 4).toInt := by rw [(hFw41 F (by rw [hFk.2]; rfl)).1 4]
            have tkw41_F_8 : (Iw41 F 8).toInt = (Iw40 F 8).toInt := by rw [(hFw41 F (by rw [hFk.2]; rfl)).1 8]
            have tkw41_F_9 : (Iw41 F 9).toInt = (Iw40 F 9).toInt := by rw [(hFw41 F (by rw [hFk.2]; rfl)).1 9]
            have tkw41_F_10 : (Iw41 F 10).toInt = (Iw40 F 10).toInt := by rw [(hFw41 F (by rw [hFk.2]; rfl)).1 10]
            have tkw41_B_0 : (Iw41 B 0).toInt = (Iw40 B 0).toInt := by rw [(hFw41 B (by rw [hBk.2]; rfl)).1 0]
            have tkw41_B_4 : (Iw41 B 4).toInt = (Iw40 B 4).toInt := by rw [(hFw41 B (by rw [hBk.2]; rfl)).1 4]
            have tkw41_B_7 : (Iw41 B 7).toInt = (Iw40 B 7).toInt := by rw [(hFw41 B (by rw [hBk.2]; rfl)).1 7]
            have tkw41_F_7 : (Iw41 F 7).toInt = (Iw40 F 7).toInt := by rw [(hFw41 F (by rw [hFk.2]; rfl)).1 7]
            try dsimp only at p_93
            refine g_aload_n C dMo_readSieve_96 rfl ?_
            refine g_ldcS 25 C dMo_readSieve_97 rfl ?_
            refine s_callV_v (av := fun ad => [.ref (ad.1 25)]) C dMo_readSieve_99 mfMo_needWord mvMo_needWord ln_Mo_223 h0 (by decide) rfl hVw41 (frL_le (by decide)) (cMo_needWord_O hVw41.1 h0 (by decide) (by omega)) rfl rfl (Nat.le_of_ble_eq_true rfl) ⟨Nat.le_of_ble_eq_true rfl, Nat.le_of_ble_eq_true rfl⟩ ⟨rfl, rfl⟩ ⟨Nat.zero_le _, Nat.zero_le _⟩ (fun Iw42 Jw42 hVw42 hFw42 p_99 => ?_)
            have tkw42_F_0 : (Iw42 F 0).toInt = (Iw41 F 0).toInt := by rw [(hFw42 F (by rw [hFk.2]; rfl)).1 0]
            have tkw42_F_4 : (Iw42 F 4).toInt = (Iw41 F 4).toInt := by rw [(hFw42 F (by rw [hFk.2]; rfl)).1 4]
            have tkw42_F_8 : (Iw42 F 8).toInt = (Iw41 F 8).toInt := by rw [(hFw42 F (by rw [hFk.2]; rfl)).1 8]
            have tkw42_F_9 : (Iw42 F 9).toInt = (Iw41 F 9).toInt := by rw [(hFw42 F (by rw [hFk.2]; rfl)).1 9]
            have tkw42_F_10 : (Iw42 F 10).toInt = (Iw41 F 10).toInt := by rw [(hFw42 F (by rw [hFk.2]; rfl)).1 10]
            have tkw42_B_0 : (Iw42 B 0).toInt = (Iw41 B 0).toInt := by rw [(hFw42 B (by rw [hBk.2]; rfl)).1 0]
            have tkw42_B_4 : (Iw42 B 4).toInt = (Iw41 B 4).toInt := by rw [(hFw42 B (by rw [hBk.2]; rfl)).1 4]
            have tkw42_B_7 : (Iw42 B 7).toInt = (Iw41 B 7).toInt := by rw [(hFw42 B (by rw [hBk.2]; rfl)).1 7]
            have tkw42_F_7 : (Iw42 F 7).toInt = (Iw41 F 7).toInt := by rw [(hFw42 F (by rw [hFk.2]; rfl)).1 7]
            try dsimp only at p_99
            refine g_aload_n C dMo_readSieve_102 rfl ?_
            refine gt_getS C dMo_readSieve_103 fl_Mo_172 h0 hFo ?_
            refine g_aload_n C dMo_readSieve_106 rfl ?_
            refine g_iconst (v := Int32.ofInt (0)) C dMo_readSieve_107 (by decide) ?_
            refine g_bipush (v := Int32.ofInt (50)) C dMo_readSieve_108 (by decide) ?_
            refine s_callV_i (av := fun ad => [.int (Int32.ofInt (0)), .int (Int32.ofInt (50))]) C dMo_readSieve_110 mfMo_readWhole mvMo_readWhole ln_Mo_227 h0 (by decide) rfl hVw42 (frL_le (by decide)) (cMo_readWhole_O hVw42.1 h0 (by have hk1 : Int32.toInt (Int32.ofInt (0)) = 0 := ofI (by decide); have hk2 : Int32.toInt (Int32.ofInt (50)) = 50 := ofI (by decide); omega)) rfl rfl (Nat.le_of_ble_eq_true rfl) ⟨Nat.le_of_ble_eq_true rfl, Nat.le_of_ble_eq_true rfl⟩ ⟨rfl, rfl⟩ ⟨Nat.zero_le _, Nat.zero_le _⟩ (fun Iw43 Jw43 hVw43 hFw43 z_110 p_110 => ?_)
            have tkw43_F_0 : (Iw43 F 0).toInt = (Iw42 F 0).toInt := by rw [(hFw43 F (by rw [hFk.2]; rfl)).1 0]
            have tkw43_F_4 : (Iw43 F 4).toInt = (Iw42 F 4).toInt := by rw [(hFw43 F (by rw [hFk.2]; rfl)).1 4]
            have tkw43_F_8 : (Iw43 F 8).toInt = (Iw42 F 8).toInt := by rw [(hFw43 F (by rw [hFk.2]; rfl)).1 8]
            have tkw43_F_9 : (Iw43 F 9).toInt = (Iw42 F 9).toInt := by rw [(hFw43 F (by rw [hFk.2]; rfl)).1 9]
            have tkw43_F_10 : (Iw43 F 10).toInt = (Iw42 F 10).toInt := by rw [(hFw43 F (by rw [hFk.2]; rfl)).1 10]
            have tkw43_B_0 : (Iw43 B 0).toInt = (Iw42 B 0).toInt := by rw [(hFw43 B (by rw [hBk.2]; rfl)).1 0]
            have tkw43_B_4 : (Iw43 B 4).toInt = (Iw42 B 4).toInt := by rw [(hFw43 B (by rw [hBk.2]; rfl)).1 4]
            have tkw43_B_7 : (Iw43 B 7).toInt = (Iw42 B 7).toInt := by rw [(hFw43 B (by rw [hBk.2]; rfl)).1 7]
            have tkw43_F_7 : (Iw43 F 7).toInt = (Iw42 F 7).toInt := by rw [(hFw43 F (by rw [hFk.2]; rfl)).1 7]
            have rz_110 := rg z_110
            try dsimp only at p_110
            have hk1_110 : Int32.toInt (Int32.ofInt (0)) = 0 := ofI (by decide)
            have hk2_110 : Int32.toInt (Int32.ofInt (50)) = 50 := ofI (by decide)
            refine gt_puti C dMo_readSieve_113 fl_Mo_248 hFk hVw43 rfl trivial rfl (Or.inl rfl) (fun Iw44 eIw44 hVw44 => ?_)
            have tkw44_a0_8 : (Iw44 a0 8).toInt = (Iw43 a0 8).toInt := by rw [eIw44, up2_ne _ _ (fun z => by have q := h0.2; rw [z.1, hFk.2] at q; exact absurd q (by decide))]
            have tkw44_a0_9 : (Iw44 a0 9).toInt = (Iw43 a0 9).toInt := by rw [eIw44, up2_ne _ _ (fun z => by have q := h0.2; rw [z.1, hFk.2] at q; exact absurd q (by decide))]
            have tkw44_a0_13 : (Iw44 a0 13).toInt = (Iw43 a0 13).toInt := by rw [eIw44, up2_ne _ _ (fun z => by have q := h0.2; rw [z.1, hFk.2] at q; exact absurd q (by decide))]
            have tkw44_F_0 : (Iw44 F 0).toInt = (Iw43 F 0).toInt := by rw [eIw44, up2_ne _ _ (fun z => absurd z.2 (by decide))]
            have tkw44_F_4 : (Iw44 F 4).toInt = (Iw43 F 4).toInt := by rw [eIw44, up2_ne _ _ (fun z => absurd z.2 (by decide))]
            have tkw44_F_8 : (Iw44 F 8).toInt = (Iw43 F 8).toInt := by rw [eIw44, up2_ne _ _ (fun z => absurd z.2 (by decide))]
            have tkw44_F_9 : (Iw44 F 9).toInt = (Iw43 F 9).toInt := by rw [eIw44, up2_ne _ _ (fun z => absurd z.2 (by decide))]
            have tkw44_F_10 : (Iw44 F 10).toInt = (Iw43 F 10).toInt := by rw [eIw44, up2_ne _ _ (fun z => absurd z.2 (by decide))]
            have tkw44_a0_6 : (Iw44 a0 6).toInt = (Iw43 a0 6).toInt := by rw [eIw44, up2_ne _ _ (fun z => by have q := h0.2; rw [z.1, hFk.2] at q; exact absurd q (by decide))]
            have tkw44_a0_7 : (Iw44 a0 7).toInt = (Iw43 a0 7).toInt := by rw [eIw44, up2_ne _ _ (fun z => by have q := h0.2; rw [z.1, hFk.2] at q; exact absurd q (by decide))]
            have tkw44_a0_18 : (Iw44 a0 18).toInt = (Iw43 a0 18).toInt := by rw [eIw44, up2_ne _ _ (fun z => by have q := h0.2; rw [z.1, hFk.2] at q; exact absurd q (by decide))]
            have tkw44_B_0 : (Iw44 B 0).toInt = (Iw43 B 0).toInt := by rw [eIw44, up2_ne _ _ (fun z => absurd z.2 (by decide))]
            have tkw44_B_4 : (Iw44 B 4).toInt = (Iw43 B 4).toInt := by rw [eIw44, up2_ne _ _ (fun z => absurd z.2 (by decide))]
            have tkw44_B_7 : (Iw44 B 7).toInt = (Iw43 B 7).toInt := by rw [eIw44, up2_ne _ _ (fun z => absurd z.2 (by decide))]
            have tkw44_F_7 : (Iw44 F 7).toInt = (Iw43 F 7).toInt := by rw [eIw44, up2_ne _ _ (fun z => absurd z.2 (by decide))]
            exact s_vret C E dMo_readSieve_116 ⟨Nat.zero_le _, Nat.zero_le _⟩ hVw44 (by (try dsimp only); omega)
          refine gt_icmp_ne 80 C dMo_readSieve_73 (by decide) rfl (ofI (by decide)) (fun c_73 => ?_) (fun c_73 => ?_)
          · skip
            refine g_aload_n C dMo_readSieve_80 rfl ?_
            refine gt_getS C dMo_readSieve_81 fl_Mo_172 h0 hFo ?_
            refine gt_getr C dMo_readSieve_84 fl_Mo_243 hFk hVw38.1.1 rfl (fun b_84 q_84 hb_84 => ?_)
            refine g_iload_n C dMo_readSieve_87 rfl ?_
            refine gt_iald C dMo_readSieve_88 hb_84 (by decide) rfl rfl (n := 9) rfl (by omega) ?_
            have o_88 := hVw38.1.2 b_84 hb_84.1 z_40.toNatClampNeg
            rw [hb_84.2] at o_88
            have o_88 : -1 ≤ (Iw38 b_84 z_40.toNatClampNeg).toInt ∧ (Iw38 b_84 z_40.toNatClampNeg).toInt ≤ 4 := o_88
            exact g_sub (jn_89 (Iw38 b_84 z_40.toNatClampNeg)  (by omega) (by omega) (by omega) (by omega) (by omega) (by omega) (by omega) (by omega) (by omega) (by omega) (by omega) (by omega) ) ⟨rfl, rfl, trivial⟩
          · skip
            refine g_iconst (v := Int32.ofInt (0)) C dMo_readSieve_76 (by decide) ?_
            refine g_goto 89 C dMo_readSieve_77 (by decide) ?_
            exact g_sub (jn_89 (Int32.ofInt (0))  (by omega) (by omega) (by omega) (by omega) (by omega) (by omega) (by omega) (by omega) (by omega) (by omega) (by omega) (by omega) ) ⟨rfl, rfl, trivial⟩
        refine gt_icmp_eq 62 C dMo_readSieve_46 (by decide) rfl (ofI (by decide)) (fun c_46 => ?_) (fun c_46 => ?_)
        · skip
          exact g_sub (jn_62   (by omega) (by omega) (by omega) (by omega) (by omega) (by omega) (by omega) (by omega) (by omega) (by omega) (by omega) (by omega) ) ⟨rfl, rfl, trivial⟩
        · skip
          refine g_aload_n C dMo_readSieve_49 rfl ?_
          refine gt_getS C dMo_readSieve_50 fl_Mo_172 h0 hFo ?_
          refine gt_getr C dMo_readSieve_53 fl_Mo_243 hFk hVw2.1.1 rfl (fun b_53 q_53 hb_53 => ?_)
          refine g_iload_n C dMo_readSieve_56 rfl ?_
          refine gt_iald C dMo_readSieve_57 hb_53 (by decide) rfl rfl (n := 9) rfl (by omega) ?_
          have o_57 := hVw2.1.2 b_53 hb_53.1 z_40.toNatClampNeg
          rw [hb_53.2] at o_57
          have o_57 : -1 ≤ (Iw2 b_53 z_40.toNatClampNeg).toInt ∧ (Iw2 b_53 z_40.toNatClampNeg).toInt ≤ 4 := o_57
          refine g_iconst (v := Int32.ofInt (-1)) C dMo_readSieve_58 (by decide) ?_
          refine gt_icmp_ne 67 C dMo_readSieve_59 (by decide) rfl (ofI (by decide)) (fun c_59 => ?_) (fun c_59 => ?_)
          · skip
            refine g_aload_n C dMo_readSieve_67 rfl ?_
            refine gt_getS C dMo_readSieve_68 fl_Mo_172 h0 hFo ?_
            refine g_iload_n C dMo_readSieve_71 rfl ?_
            refine g_iconst (v := Int32.ofInt (-1)) C dMo_readSieve_72 (by decide) ?_
            have jn_89 : ∀  (s0_89 : Int32), (Int32.toInt (Iw2 a0 6) = Int32.toInt (I0 a0 6)) → (Int32.toInt (Iw2 a0 7) = Int32.toInt (I0 a0 7)) → (Int32.toInt (Iw2 a0 18) = Int32.toInt (I0 a0 18)) → (Int32.toInt (Iw2 B 0) = Int32.toInt (I0 B 0)) → (Int32.toInt (Iw2 B 4) = Int32.toInt (I0 B 4)) → (Int32.toInt (Iw2 B 7) = Int32.toInt (I0 B 7)) → (Int32.toInt (Iw2 F 0) = Int32.toInt (I0 F 0)) → (Int32.toInt (Iw2 F 4) = Int32.toInt (I0 F 4)) → (Int32.toInt (Iw2 F 7) = Int32.toInt (I0 F 7)) → (Int32.toInt (Iw2 F 8) = Int32.toInt (I0 F 8)) → (Int32.toInt (Iw2 F 9) = Int32.toInt (I0 F 9)) → (Int32.toInt (Iw2 F 10) = Int32.toInt (I0 F 10)) → GG X 2 P K Iw2 O Jw2 0 0 89 [(0, .ref a0), (1, .int z_40)] [.int s0_89, .ref F] := by
              intro s0_89 jv0_89 jv1_89 jv2_89 jv3_89 jv4_89 jv5_89 jv6_89 jv7_89 jv8_89 jv9_89 jv10_89 jv11_89
              refine gt_puti C dMo_readSieve_89 fl_Mo_181 hFk hVw2 rfl trivial rfl (Or.inl rfl) (fun Iw46 eIw46 hVw46 => ?_)
              have tkw46_a0_8 : (Iw46 a0 8).toInt = (Iw2 a0 8).toInt := by rw [eIw46, up2_ne _ _ (fun z => by have q := h0.2; rw [z.1, hFk.2] at q; exact absurd q (by decide))]
              have tkw46_a0_9 : (Iw46 a0 9).toInt = (Iw2 a0 9).toInt := by rw [eIw46, up2_ne _ _ (fun z => by have q := h0.2; rw [z.1, hFk.2] at q; exact absurd q (by decide))]
              have tkw46_a0_13 : (Iw46 a0 13).toInt = (Iw2 a0 13).toInt := by rw [eIw46, up2_ne _ _ (fun z => by have q := h0.2; rw [z.1, hFk.2] at q; exact absurd q (by decide))]
              have tkw46_F_0 : (Iw46 F 0).toInt = (Iw2 F 0).toInt := by rw [eIw46, up2_ne _ _ (fun z => absurd z.2 (by decide))]
              have tkw46_F_4 : (Iw46 F 4).toInt = (Iw2 F 4).toInt := by rw [eIw46, up2_ne _ _ (fun z => absurd z.2 (by decide))]
              have tkw46_F_8 : (Iw46 F 8).toInt = (Iw2 F 8).toInt := by rw [eIw46, up2_ne _ _ (fun z => absurd z.2 (by decide))]
              have tkw46_F_9 : (Iw46 F 9).toInt = (Iw2 F 9).toInt := by rw [eIw46, up2_ne _ _ (fun z => absurd z.2 (by decide))]
              have tkw46_F_10 : (Iw46 F 10).toInt = (Iw2 F 10).toInt := by rw [eIw46, up2_ne _ _ (fun z => absurd z.2 (by decide))]
              have tkw46_a0_6 : (Iw46 a0 6).toInt = (Iw2 a0 6).toInt := by rw [eIw46, up2_ne _ _ (fun z => by have q := h0.2; rw [z.1, hFk.2] at q; exact absurd q (by decide))]
              have tkw46_a0_7 : (Iw46 a0 7).toInt = (Iw2 a0 7).toInt := by rw [eIw46, up2_ne _ _ (fun z => by have q := h0.2; rw [z.1, hFk.2] at q; exact absurd q (by decide))]
              have tkw46_a0_18 : (Iw46 a0 18).toInt = (Iw2 a0 18).toInt := by rw [eIw46, up2_ne _ _ (fun z => by have q := h0.2; rw [z.1, hFk.2] at q; exact absurd q (by decide))]
              have tkw46_B_0 : (Iw46 B 0).toInt = (Iw2 B 0).toInt := by rw [eIw46, up2_ne _ _ (fun z => absurd z.2 (by decide))]
              have tkw46_B_4 : (Iw46 B 4).toInt = (Iw2 B 4).toInt := by rw [eIw46, up2_ne _ _ (fun z => absurd z.2 (by decide))]
              have tkw46_B_7 : (Iw46 B 7).toInt = (Iw2 B 7).toInt := by rw [eIw46, up2_ne _ _ (fun z => absurd z.2 (by decide))]
              have tkw46_F_7 : (Iw46 F 7).toInt = (Iw2 F 7).toInt := by rw [eIw46, up2_ne _ _ (fun z => absurd z.2 (by decide))]
              refine g_aload_n C dMo_readSieve_92 rfl ?_
              refine s_callV_v (av := fun ad => []) C dMo_readSieve_93 mfMo_next mvMo_next ln_Mo_146 h0 (by decide) rfl hVw46 (frL_le (by decide)) (cMo_next_N hVw46.1 h0 (by omega)) rfl rfl (Nat.le_of_ble_eq_true rfl) ⟨Nat.le_of_ble_eq_true rfl, Nat.le_of_ble_eq_true rfl⟩ ⟨rfl, rfl⟩ ⟨Nat.zero_le _, Nat.zero_le _⟩ (fun Iw47 Jw47 hVw47 hFw47 p_93 => ?_)
              have tkw47_F_0 : (Iw47 F 0).toInt = (Iw46 F 0).toInt := by rw [(hFw47 F (by rw [hFk.2]; rfl)).1 0]
              have tkw47_F_4 : (Iw47 F 4).toInt = (Iw46 F 4).toInt := by rw [(hFw47 F (by rw [hFk.2]; rfl)).1 4]
              have tkw47_F_8 : (Iw47 F 8).toInt = (Iw46 F 8).toInt := by rw [(hFw47 F (by rw [hFk.2]; rfl)).1 8]
              have tkw47_F_9 : (Iw47 F 9).toInt = (Iw46 F 9).toInt := by rw [(hFw47 F (by rw [hFk.2]; rfl)).1 9]
              have tkw47_F_10 : (Iw47 F 10).toInt = (Iw46 F 10).toInt := by rw [(hFw47 F (by rw [hFk.2]; rfl)).1 10]
              have tkw47_B_0 : (Iw47 B 0).toInt = (Iw46 B 0).toInt := by rw [(hFw47 B (by rw [hBk.2]; rfl)).1 0]
              have tkw47_B_4 : (Iw47 B 4).toInt = (Iw46 B 4).toInt := by rw [(hFw47 B (by rw [hBk.2]; rfl)).1 4]
              have tkw47_B_7 : (Iw47 B 7).toInt = (Iw46 B 7).toInt := by rw [(hFw47 B (by rw [hBk.2]; rfl)).1 7]
              have tkw47_F_7 : (Iw47 F 7).toInt = (Iw46 F 7).toInt := by rw [(hFw47 F (by rw [hFk.2]; rfl)).1 7]
              try dsimp only at p_93
              refine g_aload_n C dMo_readSieve_96 rfl ?_
              refine g_ldcS 25 C dMo_readSieve_97 rfl ?_
              refine s_callV_v (av := fun ad => [.ref (ad.1 25)]) C dMo_readSieve_99 mfMo_needWord mvMo_needWord ln_Mo_223 h0 (by decide) rfl hVw47 (frL_le (by decide)) (cMo_needWord_N hVw47.1 h0 (by decide) (by omega)) rfl rfl (Nat.le_of_ble_eq_true rfl) ⟨Nat.le_of_ble_eq_true rfl, Nat.le_of_ble_eq_true rfl⟩ ⟨rfl, rfl⟩ ⟨Nat.zero_le _, Nat.zero_le _⟩ (fun Iw48 Jw48 hVw48 hFw48 p_99 => ?_)
              have tkw48_F_0 : (Iw48 F 0).toInt = (Iw47 F 0).toInt := by rw [(hFw48 F (by rw [hFk.2]; rfl)).1 0]
              have tkw48_F_4 : (Iw48 F 4).toInt = (Iw47 F 4).toInt := by rw [(hFw48 F (by rw [hFk.2]; rfl)).1 4]
              have tkw48_F_8 : (Iw48 F 8).toInt = (Iw47 F 8).toInt := by rw [(hFw48 F (by rw [hFk.2]; rfl)).1 8]
              have tkw48_F_9 : (Iw48 F 9).toInt = (Iw47 F 9).toInt := by rw [(hFw48 F (by rw [hFk.2]; rfl)).1 9]
              have tkw48_F_10 : (Iw48 F 10).toInt = (Iw47 F 10).toInt := by rw [(hFw48 F (by rw [hFk.2]; rfl)).1 10]
              have tkw48_B_0 : (Iw48 B 0).toInt = (Iw47 B 0).toInt := by rw [(hFw48 B (by rw [hBk.2]; rfl)).1 0]
              have tkw48_B_4 : (Iw48 B 4).toInt = (Iw47 B 4).toInt := by rw [(hFw48 B (by rw [hBk.2]; rfl)).1 4]
              have tkw48_B_7 : (Iw48 B 7).toInt = (Iw47 B 7).toInt := by rw [(hFw48 B (by rw [hBk.2]; rfl)).1 7]
              have tkw48_F_7 : (Iw48 F 7).toInt = (Iw47 F 7).toInt := by rw [(hFw48 F (by rw [hFk.2]; rfl)).1 7]
              try dsimp only at p_99
              rcases p_99 with ⟨p_99 | p_99, pk_99⟩
              · skip
                refine g_aload_n C dMo_readSieve_102 rfl ?_
                refine gt_getS C dMo_readSieve_103 fl_Mo_172 h0 hFo ?_
                refine g_aload_n C dMo_readSieve_106 rfl ?_
                refine g_iconst (v := Int32.ofInt (0)) C dMo_readSieve_107 (by decide) ?_
                refine g_bipush (v := Int32.ofInt (50)) C dMo_readSieve_108 (by decide) ?_
                refine s_callV_i (av := fun ad => [.int (Int32.ofInt (0)), .int (Int32.ofInt (50))]) C dMo_readSieve_110 mfMo_readWhole mvMo_readWhole ln_Mo_227 h0 (by decide) rfl hVw48 (frL_le (by decide)) (cMo_readWhole_O hVw48.1 h0 (by have hk1 : Int32.toInt (Int32.ofInt (0)) = 0 := ofI (by decide); have hk2 : Int32.toInt (Int32.ofInt (50)) = 50 := ofI (by decide); omega)) rfl rfl (Nat.le_of_ble_eq_true rfl) ⟨Nat.le_of_ble_eq_true rfl, Nat.le_of_ble_eq_true rfl⟩ ⟨rfl, rfl⟩ ⟨Nat.zero_le _, Nat.zero_le _⟩ (fun Iw49 Jw49 hVw49 hFw49 z_110 p_110 => ?_)
                have tkw49_F_0 : (Iw49 F 0).toInt = (Iw48 F 0).toInt := by rw [(hFw49 F (by rw [hFk.2]; rfl)).1 0]
                have tkw49_F_4 : (Iw49 F 4).toInt = (Iw48 F 4).toInt := by rw [(hFw49 F (by rw [hFk.2]; rfl)).1 4]
                have tkw49_F_8 : (Iw49 F 8).toInt = (Iw48 F 8).toInt := by rw [(hFw49 F (by rw [hFk.2]; rfl)).1 8]
                have tkw49_F_9 : (Iw49 F 9).toInt = (Iw48 F 9).toInt := by rw [(hFw49 F (by rw [hFk.2]; rfl)).1 9]
                have tkw49_F_10 : (Iw49 F 10).toInt = (Iw48 F 10).toInt := by rw [(hFw49 F (by rw [hFk.2]; rfl)).1 10]
                have tkw49_B_0 : (Iw49 B 0).toInt = (Iw48 B 0).toInt := by rw [(hFw49 B (by rw [hBk.2]; rfl)).1 0]
                have tkw49_B_4 : (Iw49 B 4).toInt = (Iw48 B 4).toInt := by rw [(hFw49 B (by rw [hBk.2]; rfl)).1 4]
                have tkw49_B_7 : (Iw49 B 7).toInt = (Iw48 B 7).toInt := by rw [(hFw49 B (by rw [hBk.2]; rfl)).1 7]
                have tkw49_F_7 : (Iw49 F 7).toInt = (Iw48 F 7).toInt := by rw [(hFw49 F (by rw [hFk.2]; rfl)).1 7]
                have rz_110 := rg z_110
                try dsimp only at p_110
                have hk1_110 : Int32.toInt (Int32.ofInt (0)) = 0 := ofI (by decide)
                have hk2_110 : Int32.toInt (Int32.ofInt (50)) = 50 := ofI (by decide)
                refine gt_puti C dMo_readSieve_113 fl_Mo_248 hFk hVw49 rfl trivial rfl (Or.inl rfl) (fun Iw50 eIw50 hVw50 => ?_)
                have tkw50_a0_8 : (Iw50 a0 8).toInt = (Iw49 a0 8).toInt := by rw [eIw50, up2_ne _ _ (fun z => by have q := h0.2; rw [z.1, hFk.2] at q; exact absurd q (by decide))]
                have tkw50_a0_9 : (Iw50 a0 9).toInt = (Iw49 a0 9).toInt := by rw [eIw50, up2_ne _ _ (fun z => by have q := h0.2; rw [z.1, hFk.2] at q; exact absurd q (by decide))]
                have tkw50_a0_13 : (Iw50 a0 13).toInt = (Iw49 a0 13).toInt := by rw [eIw50, up2_ne _ _ (fun z => by have q := h0.2; rw [z.1, hFk.2] at q; exact absurd q (by decide))]
                have tkw50_F_0 : (Iw50 F 0).toInt = (Iw49 F 0).toInt := by rw [eIw50, up2_ne _ _ (fun z => absurd z.2 (by decide))]
                have tkw50_F_4 : (Iw50 F 4).toInt = (Iw49 F 4).toInt := by rw [eIw50, up2_ne _ _ (fun z => absurd z.2 (by decide))]
                have tkw50_F_8 : (Iw50 F 8).toInt = (Iw49 F 8).toInt := by rw [eIw50, up2_ne _ _ (fun z => absurd z.2 (by decide))]
                have tkw50_F_9 : (Iw50 F 9).toInt = (Iw49 F 9).toInt := by rw [eIw50, up2_ne _ _ (fun z => absurd z.2 (by decide))]
                have tkw50_F_10 : (Iw50 F 10).toInt = (Iw49 F 10).toInt := by rw [eIw50, up2_ne _ _ (fun z => absurd z.2 (by decide))]
                have tkw50_a0_6 : (Iw50 a0 6).toInt = (Iw49 a0 6).toInt := by rw [eIw50, up2_ne _ _ (fun z => by have q := h0.2; rw [z.1, hFk.2] at q; exact absurd q (by decide))]
                have tkw50_a0_7 : (Iw50 a0 7).toInt = (Iw49 a0 7).toInt := by rw [eIw50, up2_ne _ _ (fun z => by have q := h0.2; rw [z.1, hFk.2] at q; exact absurd q (by decide))]
                have tkw50_a0_18 : (Iw50 a0 18).toInt = (Iw49 a0 18).toInt := by rw [eIw50, up2_ne _ _ (fun z => by have q := h0.2; rw [z.1, hFk.2] at q; exact absurd q (by decide))]
                have tkw50_B_0 : (Iw50 B 0).toInt = (Iw49 B 0).toInt := by rw [eIw50, up2_ne _ _ (fun z => absurd z.2 (by decide))]
                have tkw50_B_4 : (Iw50 B 4).toInt = (Iw49 B 4).toInt := by rw [eIw50, up2_ne _ _ (fun z => absurd z.2 (by decide))]
                have tkw50_B_7 : (Iw50 B 7).toInt = (Iw49 B 7).toInt := by rw [eIw50, up2_ne _ _ (fun z => absurd z.2 (by decide))]
                have tkw50_F_7 : (Iw50 F 7).toInt = (Iw49 F 7).toInt := by rw [eIw50, up2_ne _ _ (fun z => absurd z.2 (by decide))]
                exact s_vret C E dMo_readSieve_116 ⟨Nat.zero_le _, Nat.zero_le _⟩ hVw50 (by (try dsimp only); omega)
              · skip
                refine g_aload_n C dMo_readSieve_102 rfl ?_
                refine gt_getS C dMo_readSieve_103 fl_Mo_172 h0 hFo ?_
                refine g_aload_n C dMo_readSieve_106 rfl ?_
                refine g_iconst (v := Int32.ofInt (0)) C dMo_readSieve_107 (by decide) ?_
                refine g_bipush (v := Int32.ofInt (50)) C dMo_readSieve_108 (by decide) ?_
                refine s_callV_i (av := fun ad => [.int (Int32.ofInt (0)), .int (Int32.ofInt (50))]) C dMo_readSieve_110 mfMo_readWhole mvMo_readWhole ln_Mo_227 h0 (by decide) rfl hVw48 (frL_le (by decide)) (cMo_readWhole_N hVw48.1 h0 (by have hk1 : Int32.toInt (Int32.ofInt (0)) = 0 := ofI (by decide); have hk2 : Int32.toInt (Int32.ofInt (50)) = 50 := ofI (by decide); omega)) rfl rfl (Nat.le_of_ble_eq_true rfl) ⟨Nat.le_of_ble_eq_true rfl, Nat.le_of_ble_eq_true rfl⟩ ⟨rfl, rfl⟩ ⟨Nat.zero_le _, Nat.zero_le _⟩ (fun Iw51 Jw51 hVw51 hFw51 z_110 p_110 => ?_)
                have tkw51_F_0 : (Iw51 F 0).toInt = (Iw48 F 0).toInt := by rw [(hFw51 F (by rw [hFk.2]; rfl)).1 0]
                have tkw51_F_4 : (Iw51 F 4).toInt = (Iw48 F 4).toInt := by rw [(hFw51 F (by rw [hFk.2]; rfl)).1 4]
                have tkw51_F_8 : (Iw51 F 8).toInt = (Iw48 F 8).toInt := by rw [(hFw51 F (by rw [hFk.2]; rfl)).1 8]
                have tkw51_F_9 : (Iw51 F 9).toInt = (Iw48 F 9).toInt := by rw [(hFw51 F (by rw [hFk.2]; rfl)).1 9]
                have tkw51_F_10 : (Iw51 F 10).toInt = (Iw48 F 10).toInt := by rw [(hFw51 F (by rw [hFk.2]; rfl)).1 10]
                have tkw51_B_0 : (Iw51 B 0).toInt = (Iw48 B 0).toInt := by rw [(hFw51 B (by rw [hBk.2]; rfl)).1 0]
                have tkw51_B_4 : (Iw51 B 4).toInt = (Iw48 B 4).toInt := by rw [(hFw51 B (by rw [hBk.2]; rfl)).1 4]
                have tkw51_B_7 : (Iw51 B 7).toInt = (Iw48 B 7).toInt := by rw [(hFw51 B (by rw [hBk.2]; rfl)).1 7]
                have tkw51_F_7 : (Iw51 F 7).toInt = (Iw48 F 7).toInt := by rw [(hFw51 F (by rw [hFk.2]; rfl)).1 7]
                have rz_110 := rg z_110
                try dsimp only at p_110
                have hk1_110 : Int32.toInt (Int32.ofInt (0)) = 0 := ofI (by decide)
                have hk2_110 : Int32.toInt (Int32.ofInt (50)) = 50 := ofI (by decide)
                rcases p_110 with ⟨p_110 | p_110, pk_110⟩
                · skip
                  refine gt_puti C dMo_readSieve_113 fl_Mo_248 hFk hVw51 rfl trivial rfl (Or.inl rfl) (fun Iw52 eIw52 hVw52 => ?_)
                  have tkw52_a0_8 : (Iw52 a0 8).toInt = (Iw51 a0 8).toInt := by rw [eIw52, up2_ne _ _ (fun z => by have q := h0.2; rw [z.1, hFk.2] at q; exact absurd q (by decide))]
                  have tkw52_a0_9 : (Iw52 a0 9).toInt = (Iw51 a0 9).toInt := by rw [eIw52, up2_ne _ _ (fun z => by have q := h0.2; rw [z.1, hFk.2] at q; exact absurd q (by decide))]
                  have tkw52_a0_13 : (Iw52 a0 13).toInt = (Iw51 a0 13).toInt := by rw [eIw52, up2_ne _ _ (fun z => by have q := h0.2; rw [z.1, hFk.2] at q; exact absurd q (by decide))]
                  have tkw52_F_0 : (Iw52 F 0).toInt = (Iw51 F 0).toInt := by rw [eIw52, up2_ne _ _ (fun z => absurd z.2 (by decide))]
                  have tkw52_F_4 : (Iw52 F 4).toInt = (Iw51 F 4).toInt := by rw [eIw52, up2_ne _ _ (fun z => absurd z.2 (by decide))]
                  have tkw52_F_8 : (Iw52 F 8).toInt = (Iw51 F 8).toInt := by rw [eIw52, up2_ne _ _ (fun z => absurd z.2 (by decide))]
                  have tkw52_F_9 : (Iw52 F 9).toInt = (Iw51 F 9).toInt := by rw [eIw52, up2_ne _ _ (fun z => absurd z.2 (by decide))]
                  have tkw52_F_10 : (Iw52 F 10).toInt = (Iw51 F 10).toInt := by rw [eIw52, up2_ne _ _ (fun z => absurd z.2 (by decide))]
                  have tkw52_a0_6 : (Iw52 a0 6).toInt = (Iw51 a0 6).toInt := by rw [eIw52, up2_ne _ _ (fun z => by have q := h0.2; rw [z.1, hFk.2] at q; exact absurd q (by decide))]
                  have tkw52_a0_7 : (Iw52 a0 7).toInt = (Iw51 a0 7).toInt := by rw [eIw52, up2_ne _ _ (fun z => by have q := h0.2; rw [z.1, hFk.2] at q; exact absurd q (by decide))]
                  have tkw52_a0_18 : (Iw52 a0 18).toInt = (Iw51 a0 18).toInt := by rw [eIw52, up2_ne _ _ (fun z => by have q := h0.2; rw [z.1, hFk.2] at q; exact absurd q (by decide))]
                  have tkw52_B_0 : (Iw52 B 0).toInt = (Iw51 B 0).toInt := by rw [eIw52, up2_ne _ _ (fun z => absurd z.2 (by decide))]
                  have tkw52_B_4 : (Iw52 B 4).toInt = (Iw51 B 4).toInt := by rw [eIw52, up2_ne _ _ (fun z => absurd z.2 (by decide))]
                  have tkw52_B_7 : (Iw52 B 7).toInt = (Iw51 B 7).toInt := by rw [eIw52, up2_ne _ _ (fun z => absurd z.2 (by decide))]
                  have tkw52_F_7 : (Iw52 F 7).toInt = (Iw51 F 7).toInt := by rw [eIw52, up2_ne _ _ (fun z => absurd z.2 (by decide))]
                  exact s_vret C E dMo_readSieve_116 ⟨Nat.zero_le _, Nat.zero_le _⟩ hVw52 (by (try dsimp only); omega)
                · skip
                  refine gt_puti C dMo_readSieve_113 fl_Mo_248 hFk hVw51 rfl trivial rfl (Or.inl rfl) (fun Iw53 eIw53 hVw53 => ?_)
                  have tkw53_a0_8 : (Iw53 a0 8).toInt = (Iw51 a0 8).toInt := by rw [eIw53, up2_ne _ _ (fun z => by have q := h0.2; rw [z.1, hFk.2] at q; exact absurd q (by decide))]
                  have tkw53_a0_9 : (Iw53 a0 9).toInt = (Iw51 a0 9).toInt := by rw [eIw53, up2_ne _ _ (fun z => by have q := h0.2; rw [z.1, hFk.2] at q; exact absurd q (by decide))]
                  have tkw53_a0_13 : (Iw53 a0 13).toInt = (Iw51 a0 13).toInt := by rw [eIw53, up2_ne _ _ (fun z => by have q := h0.2; rw [z.1, hFk.2] at q; exact absurd q (by decide))]
                  have tkw53_F_0 : (Iw53 F 0).toInt = (Iw51 F 0).toInt := by rw [eIw53, up2_ne _ _ (fun z => absurd z.2 (by decide))]
                  have tkw53_F_4 : (Iw53 F 4).toInt = (Iw51 F 4).toInt := by rw [eIw53, up2_ne _ _ (fun z => absurd z.2 (by decide))]
                  have tkw53_F_8 : (Iw53 F 8).toInt = (Iw51 F 8).toInt := by rw [eIw53, up2_ne _ _ (fun z => absurd z.2 (by decide))]
                  have tkw53_F_9 : (Iw53 F 9).toInt = (Iw51 F 9).toInt := by rw [eIw53, up2_ne _ _ (fun z => absurd z.2 (by decide))]
                  have tkw53_F_10 : (Iw53 F 10).toInt = (Iw51 F 10).toInt := by rw [eIw53, up2_ne _ _ (fun z => absurd z.2 (by decide))]
                  have tkw53_a0_6 : (Iw53 a0 6).toInt = (Iw51 a0 6).toInt := by rw [eIw53, up2_ne _ _ (fun z => by have q := h0.2; rw [z.1, hFk.2] at q; exact absurd q (by decide))]
                  have tkw53_a0_7 : (Iw53 a0 7).toInt = (Iw51 a0 7).toInt := by rw [eIw53, up2_ne _ _ (fun z => by have q := h0.2; rw [z.1, hFk.2] at q; exact absurd q (by decide))]
                  have tkw53_a0_18 : (Iw53 a0 18).toInt = (Iw51 a0 18).toInt := by rw [eIw53, up2_ne _ _ (fun z => by have q := h0.2; rw [z.1, hFk.2] at q; exact absurd q (by decide))]
                  have tkw53_B_0 : (Iw53 B 0).toInt = (Iw51 B 0).toInt := by rw [eIw53, up2_ne _ _ (fun z => absurd z.2 (by decide))]
                  have tkw53_B_4 : (Iw53 B 4).toInt = (Iw51 B 4).toInt := by rw [eIw53, up2_ne _ _ (fun z => absurd z.2 (by decide))]
                  have tkw53_B_7 : (Iw53 B 7).toInt = (Iw51 B 7).toInt := by rw [eIw53, up2_ne _ _ (fun z => absurd z.2 (by decide))]
                  have tkw53_F_7 : (Iw53 F 7).toInt = (Iw51 F 7).toInt := by rw [eIw53, up2_ne _ _ (fun z => absurd z.2 (by decide))]
                  exact s_vret C E dMo_readSieve_116 ⟨Nat.zero_le _, Nat.zero_le _⟩ hVw53 (by (try dsimp only); omega)
            refine gt_icmp_ne 80 C dMo_readSieve_73 (by decide) rfl (ofI (by decide)) (fun c_73 => ?_) (fun c_73 => ?_)
            · skip
              refine g_aload_n C dMo_readSieve_80 rfl ?_
              refine gt_getS C dMo_readSieve_81 fl_Mo_172 h0 hFo ?_
              refine gt_getS C dMo_readSieve_84 fl_Mo_243 hFk q_53 ?_
              refine g_iload_n C dMo_readSieve_87 rfl ?_
              refine gt_iald C dMo_readSieve_88 hb_53 (by decide) rfl rfl (n := 9) rfl (by omega) ?_
              have o_88 := hVw2.1.2 b_53 hb_53.1 z_40.toNatClampNeg
              rw [hb_53.2] at o_88
              have o_88 : -1 ≤ (Iw2 b_53 z_40.toNatClampNeg).toInt ∧ (Iw2 b_53 z_40.toNatClampNeg).toInt ≤ 4 := o_88
              exact g_sub (jn_89 (Iw2 b_53 z_40.toNatClampNeg)  (by omega) (by omega) (by omega) (by omega) (by omega) (by omega) (by omega) (by omega) (by omega) (by omega) (by omega) (by omega) ) ⟨rfl, rfl, trivial⟩
            · skip
              refine g_iconst (v := Int32.ofInt (0)) C dMo_readSieve_76 (by decide) ?_
              refine g_goto 89 C dMo_readSieve_77 (by decide) ?_
              exact g_sub (jn_89 (Int32.ofInt (0))  (by omega) (by omega) (by omega) (by omega) (by omega) (by omega) (by omega) (by omega) (by omega) (by omega) (by omega) (by omega) ) ⟨rfl, rfl, trivial⟩
          · skip
            exact g_sub (jn_62   (by omega) (by omega) (by omega) (by omega) (by omega) (by omega) (by omega) (by omega) (by omega) (by omega) (by omega) (by omega) ) ⟨rfl, rfl, trivial⟩
      · skip
        refine g_aload_n C dMo_readSieve_27 rfl ?_
        refine g_iconst (v := Int32.ofInt (1)) C dMo_readSieve_28 (by decide) ?_
        refine s_callV_v (av := fun ad => [.int (Int32.ofInt (1))]) C dMo_readSieve_29 mfMo_wrong mvMo_wrong ln_Mo_142 h0 (by decide) rfl hVw2 (frL_le (by decide)) (cMo_wrong_N hVw2.1 h0 (by have hk1 : Int32.toInt (Int32.ofInt (1)) = 1 := ofI (by decide); omega) (by have hk1 : Int32.toInt (Int32.ofInt (1)) = 1 := ofI (by decide); omega)) rfl rfl (Nat.le_of_ble_eq_true rfl) ⟨Nat.le_of_ble_eq_true rfl, Nat.le_of_ble_eq_true rfl⟩ ⟨rfl, rfl⟩ ⟨Nat.zero_le _, Nat.zero_le _⟩ (fun Iw54 Jw54 hVw54 hFw54 p_29 => ?_)
        have tkw54_F_0 : (Iw54 F 0).toInt = (Iw2 F 0).toInt := by rw [(hFw54 F (by rw [hFk.2]; rfl)).1 0]
        have tkw54_F_4 : (Iw54 F 4).toInt = (Iw2 F 4).toInt := by rw [(hFw54 F (by rw [hFk.2]; rfl)).1 4]
        have tkw54_F_8 : (Iw54 F 8).toInt = (Iw2 F 8).toInt := by rw [(hFw54 F (by rw [hFk.2]; rfl)).1 8]
        have tkw54_F_9 : (Iw54 F 9).toInt = (Iw2 F 9).toInt := by rw [(hFw54 F (by rw [hFk.2]; rfl)).1 9]
        have tkw54_F_10 : (Iw54 F 10).toInt = (Iw2 F 10).toInt := by rw [(hFw54 F (by rw [hFk.2]; rfl)).1 10]
        have tkw54_B_0 : (Iw54 B 0).toInt = (Iw2 B 0).toInt := by rw [(hFw54 B (by rw [hBk.2]; rfl)).1 0]
        have tkw54_B_4 : (Iw54 B 4).toInt = (Iw2 B 4).toInt := by rw [(hFw54 B (by rw [hBk.2]; rfl)).1 4]
        have tkw54_B_7 : (Iw54 B 7).toInt = (Iw2 B 7).toInt := by rw [(hFw54 B (by rw [hBk.2]; rfl)).1 7]
        have tkw54_F_7 : (Iw54 F 7).toInt = (Iw2 F 7).toInt := by rw [(hFw54 F (by rw [hFk.2]; rfl)).1 7]
        try dsimp only at p_29
        have hk1_29 : Int32.toInt (Int32.ofInt (1)) = 1 := ofI (by decide)
        refine g_aload_n C dMo_readSieve_32 rfl ?_
        refine gt_getS C dMo_readSieve_33 fl_Mo_172 h0 hFo ?_
        refine g_aload_n C dMo_readSieve_36 rfl ?_
        refine g_getl C dMo_readSieve_37 fl_Mo_114 h0 ?_
        refine s_callV_ip (av := fun ad => [.long (Jw54 a0 15)]) C dMo_readSieve_40 mfMx_find mvMx_find ln_Mo_239 hFk (by decide) rfl (cMx_find hVw54.1 hFk) rfl rfl (Nat.le_of_ble_eq_true rfl) ⟨Nat.le_of_ble_eq_true rfl, Nat.le_of_ble_eq_true rfl⟩ ⟨rfl, rfl⟩ ⟨Nat.zero_le _, Nat.zero_le _⟩ (fun z_40 p_40 => ?_)
        have rz_40 := rg z_40
        try dsimp only at p_40
        refine g_istore_n (i := 1) C dMo_readSieve_43 rfl (by decide) ?_
        refine g_iload_n C dMo_readSieve_44 rfl ?_
        refine g_iconst (v := Int32.ofInt (-1)) C dMo_readSieve_45 (by decide) ?_
        have jn_62 : (Int32.toInt (Iw54 a0 6) = Int32.toInt (I0 a0 6)) → (Int32.toInt (Iw54 a0 7) = Int32.toInt (I0 a0 7)) → (Int32.toInt (Iw54 a0 18) = Int32.toInt (I0 a0 18)) → (Int32.toInt (Iw54 B 0) = Int32.toInt (I0 B 0)) → (Int32.toInt (Iw54 B 4) = Int32.toInt (I0 B 4)) → (Int32.toInt (Iw54 B 7) = Int32.toInt (I0 B 7)) → (Int32.toInt (Iw54 F 0) = Int32.toInt (I0 F 0)) → (Int32.toInt (Iw54 F 4) = Int32.toInt (I0 F 4)) → (Int32.toInt (Iw54 F 7) = Int32.toInt (I0 F 7)) → (Int32.toInt (Iw54 F 8) = Int32.toInt (I0 F 8)) → (Int32.toInt (Iw54 F 9) = Int32.toInt (I0 F 9)) → (Int32.toInt (Iw54 F 10) = Int32.toInt (I0 F 10)) → GG X 2 P K Iw54 O Jw54 0 0 62 [(0, .ref a0), (1, .int z_40)] [] := by
          intro jv0_62 jv1_62 jv2_62 jv3_62 jv4_62 jv5_62 jv6_62 jv7_62 jv8_62 jv9_62 jv10_62 jv11_62
          refine g_aload_n C dMo_readSieve_62 rfl ?_
          refine g_iconst (v := Int32.ofInt (2)) C dMo_readSieve_63 (by decide) ?_
          refine s_callV_v (av := fun ad => [.int (Int32.ofInt (2))]) C dMo_readSieve_64 mfMo_wrong mvMo_wrong ln_Mo_142 h0 (by decide) rfl hVw54 (frL_le (by decide)) (cMo_wrong_O hVw54.1 h0 (by have hk1 : Int32.toInt (Int32.ofInt (2)) = 2 := ofI (by decide); omega)) rfl rfl (Nat.le_of_ble_eq_true rfl) ⟨Nat.le_of_ble_eq_true rfl, Nat.le_of_ble_eq_true rfl⟩ ⟨rfl, rfl⟩ ⟨Nat.zero_le _, Nat.zero_le _⟩ (fun Iw57 Jw57 hVw57 hFw57 p_64 => ?_)
          have tkw57_F_0 : (Iw57 F 0).toInt = (Iw54 F 0).toInt := by rw [(hFw57 F (by rw [hFk.2]; rfl)).1 0]
          have tkw57_F_4 : (Iw57 F 4).toInt = (Iw54 F 4).toInt := by rw [(hFw57 F (by rw [hFk.2]; rfl)).1 4]
          have tkw57_F_8 : (Iw57 F 8).toInt = (Iw54 F 8).toInt := by rw [(hFw57 F (by rw [hFk.2]; rfl)).1 8]
          have tkw57_F_9 : (Iw57 F 9).toInt = (Iw54 F 9).toInt := by rw [(hFw57 F (by rw [hFk.2]; rfl)).1 9]
          have tkw57_F_10 : (Iw57 F 10).toInt = (Iw54 F 10).toInt := by rw [(hFw57 F (by rw [hFk.2]; rfl)).1 10]
          have tkw57_B_0 : (Iw57 B 0).toInt = (Iw54 B 0).toInt := by rw [(hFw57 B (by rw [hBk.2]; rfl)).1 0]
          have tkw57_B_4 : (Iw57 B 4).toInt = (Iw54 B 4).toInt := by rw [(hFw57 B (by rw [hBk.2]; rfl)).1 4]
          have tkw57_B_7 : (Iw57 B 7).toInt = (Iw54 B 7).toInt := by rw [(hFw57 B (by rw [hBk.2]; rfl)).1 7]
          have tkw57_F_7 : (Iw57 F 7).toInt = (Iw54 F 7).toInt := by rw [(hFw57 F (by rw [hFk.2]; rfl)).1 7]
          try dsimp only at p_64
          have hk1_64 : Int32.toInt (Int32.ofInt (2)) = 2 := ofI (by decide)
          refine g_aload_n C dMo_readSieve_67 rfl ?_
          refine gt_getS C dMo_readSieve_68 fl_Mo_172 h0 hFo ?_
          refine g_iload_n C dMo_readSieve_71 rfl ?_
          refine g_iconst (v := Int32.ofInt (-1)) C dMo_readSieve_72 (by decide) ?_
          have jn_89 : ∀  (s0_89 : Int32), (Int32.toInt (Iw57 a0 6) = Int32.toInt (I0 a0 6)) → (Int32.toInt (Iw57 a0 7) = Int32.toInt (I0 a0 7)) → (Int32.toInt (Iw57 a0 18) = Int32.toInt (I0 a0 18)) → (Int32.toInt (Iw57 B 0) = Int32.toInt (I0 B 0)) → (Int32.toInt (Iw57 B 4) = Int32.toInt (I0 B 4)) → (Int32.toInt (Iw57 B 7) = Int32.toInt (I0 B 7)) → (Int32.toInt (Iw57 F 0) = Int32.toInt (I0 F 0)) → (Int32.toInt (Iw57 F 4) = Int32.toInt (I0 F 4)) → (Int32.toInt (Iw57 F 7) = Int32.toInt (I0 F 7)) → (Int32.toInt (Iw57 F 8) = Int32.toInt (I0 F 8)) → (Int32.toInt (Iw57 F 9) = Int32.toInt (I0 F 9)) → (Int32.toInt (Iw57 F 10) = Int32.toInt (I0 F 10)) → GG X 2 P K Iw57 O Jw57 0 0 89 [(0, .ref a0), (1, .int z_40)] [.int s0_89, .ref F] := by
            intro s0_89 jv0_89 jv1_89 jv2_89 jv3_89 jv4_89 jv5_89 jv6_89 jv7_89 jv8_89 jv9_89 jv10_89 jv11_89
            refine gt_puti C dMo_readSieve_89 fl_Mo_181 hFk hVw57 rfl trivial rfl (Or.inl rfl) (fun Iw59 eIw59 hVw59 => ?_)
            have tkw59_a0_8 : (Iw59 a0 8).toInt = (Iw57 a0 8).toInt := by rw [eIw59, up2_ne _ _ (fun z => by have q := h0.2; rw [z.1, hFk.2] at q; exact absurd q (by decide))]
            have tkw59_a0_9 : (Iw59 a0 9).toInt = (Iw57 a0 9).toInt := by rw [eIw59, up2_ne _ _ (fun z => by have q := h0.2; rw [z.1, hFk.2] at q; exact absurd q (by decide))]
            have tkw59_a0_13 : (Iw59 a0 13).toInt = (Iw57 a0 13).toInt := by rw [eIw59, up2_ne _ _ (fun z => by have q := h0.2; rw [z.1, hFk.2] at q; exact absurd q (by decide))]
            have tkw59_F_0 : (Iw59 F 0).toInt = (Iw57 F 0).toInt := by rw [eIw59, up2_ne _ _ (fun z => absurd z.2 (by decide))]
            have tkw59_F_4 : (Iw59 F 4).toInt = (Iw57 F 4).toInt := by rw [eIw59, up2_ne _ _ (fun z => absurd z.2 (by decide))]
            have tkw59_F_8 : (Iw59 F 8).toInt = (Iw57 F 8).toInt := by rw [eIw59, up2_ne _ _ (fun z => absurd z.2 (by decide))]
            have tkw59_F_9 : (Iw59 F 9).toInt = (Iw57 F 9).toInt := by rw [eIw59, up2_ne _ _ (fun z => absurd z.2 (by decide))]
            have tkw59_F_10 : (Iw59 F 10).toInt = (Iw57 F 10).toInt := by rw [eIw59, up2_ne _ _ (fun z => absurd z.2 (by decide))]
            have tkw59_a0_6 : (Iw59 a0 6).toInt = (Iw57 a0 6).toInt := by rw [eIw59, up2_ne _ _ (fun z => by have q := h0.2; rw [z.1, hFk.2] at q; exact absurd q (by decide))]
            have tkw59_a0_7 : (Iw59 a0 7).toInt = (Iw57 a0 7).toInt := by rw [eIw59, up2_ne _ _ (fun z => by have q := h0.2; rw [z.1, hFk.2] at q; exact absurd q (by decide))]
            have tkw59_a0_18 : (Iw59 a0 18).toInt = (Iw57 a0 18).toInt := by rw [eIw59, up2_ne _ _ (fun z => by have q := h0.2; rw [z.1, hFk.2] at q; exact absurd q (by decide))]
            have tkw59_B_0 : (Iw59 B 0).toInt = (Iw57 B 0).toInt := by rw [eIw59, up2_ne _ _ (fun z => absurd z.2 (by decide))]
            have tkw59_B_4 : (Iw59 B 4).toInt = (Iw57 B 4).toInt := by rw [eIw59, up2_ne _ _ (fun z => absurd z.2 (by decide))]
            have tkw59_B_7 : (Iw59 B 7).toInt = (Iw57 B 7).toInt := by rw [eIw59, up2_ne _ _ (fun z => absurd z.2 (by decide))]
            have tkw59_F_7 : (Iw59 F 7).toInt = (Iw57 F 7).toInt := by rw [eIw59, up2_ne _ _ (fun z => absurd z.2 (by decide))]
            refine g_aload_n C dMo_readSieve_92 rfl ?_
            refine s_callV_v (av := fun ad => []) C dMo_readSieve_93 mfMo_next mvMo_next ln_Mo_146 h0 (by decide) rfl hVw59 (frL_le (by decide)) (cMo_next_O hVw59.1 h0 (by omega)) rfl rfl (Nat.le_of_ble_eq_true rfl) ⟨Nat.le_of_ble_eq_true rfl, Nat.le_of_ble_eq_true rfl⟩ ⟨rfl, rfl⟩ ⟨Nat.zero_le _, Nat.zero_le _⟩ (fun Iw60 Jw60 hVw60 hFw60 p_93 => ?_)
            have tkw60_F_0 : (Iw60 F 0).toInt = (Iw59 F 0).toInt := by rw [(hFw60 F (by rw [hFk.2]; rfl)).1 0]
            have tkw60_F_4 : (Iw60 F 4).toInt = (Iw59 F 4).toInt := by rw [(hFw60 F (by rw [hFk.2]; rfl)).1 4]
            have tkw60_F_8 : (Iw60 F 8).toInt = (Iw59 F 8).toInt := by rw [(hFw60 F (by rw [hFk.2]; rfl)).1 8]
            have tkw60_F_9 : (Iw60 F 9).toInt = (Iw59 F 9).toInt := by rw [(hFw60 F (by rw [hFk.2]; rfl)).1 9]
            have tkw60_F_10 : (Iw60 F 10).toInt = (Iw59 F 10).toInt := by rw [(hFw60 F (by rw [hFk.2]; rfl)).1 10]
            have tkw60_B_0 : (Iw60 B 0).toInt = (Iw59 B 0).toInt := by rw [(hFw60 B (by rw [hBk.2]; rfl)).1 0]
            have tkw60_B_4 : (Iw60 B 4).toInt = (Iw59 B 4).toInt := by rw [(hFw60 B (by rw [hBk.2]; rfl)).1 4]
            have tkw60_B_7 : (Iw60 B 7).toInt = (Iw59 B 7).toInt := by rw [(hFw60 B (by rw [hBk.2]; rfl)).1 7]
            have tkw60_F_7 : (Iw60 F 7).toInt = (Iw59 F 7).toInt := by rw [(hFw60 F (by rw [hFk.2]; rfl)).1 7]
            try dsimp only at p_93
            refine g_aload_n C dMo_readSieve_96 rfl ?_
            refine g_ldcS 25 C dMo_readSieve_97 rfl ?_
            refine s_callV_v (av := fun ad => [.ref (ad.1 25)]) C dMo_readSieve_99 mfMo_needWord mvMo_needWord ln_Mo_223 h0 (by decide) rfl hVw60 (frL_le (by decide)) (cMo_needWord_O hVw60.1 h0 (by decide) (by omega)) rfl rfl (Nat.le_of_ble_eq_true rfl) ⟨Nat.le_of_ble_eq_true rfl, Nat.le_of_ble_eq_true rfl⟩ ⟨rfl, rfl⟩ ⟨Nat.zero_le _, Nat.zero_le _⟩ (fun Iw61 Jw61 hVw61 hFw61 p_99 => ?_)
            have tkw61_F_0 : (Iw61 F 0).toInt = (Iw60 F 0).toInt := by rw [(hFw61 F (by rw [hFk.2]; rfl)).1 0]
            have tkw61_F_4 : (Iw61 F 4).toInt = (Iw60 F 4).toInt := by rw [(hFw61 F (by rw [hFk.2]; rfl)).1 4]
            have tkw61_F_8 : (Iw61 F 8).toInt = (Iw60 F 8).toInt := by rw [(hFw61 F (by rw [hFk.2]; rfl)).1 8]
            have tkw61_F_9 : (Iw61 F 9).toInt = (Iw60 F 9).toInt := by rw [(hFw61 F (by rw [hFk.2]; rfl)).1 9]
            have tkw61_F_10 : (Iw61 F 10).toInt = (Iw60 F 10).toInt := by rw [(hFw61 F (by rw [hFk.2]; rfl)).1 10]
            have tkw61_B_0 : (Iw61 B 0).toInt = (Iw60 B 0).toInt := by rw [(hFw61 B (by rw [hBk.2]; rfl)).1 0]
            have tkw61_B_4 : (Iw61 B 4).toInt = (Iw60 B 4).toInt := by rw [(hFw61 B (by rw [hBk.2]; rfl)).1 4]
            have tkw61_B_7 : (Iw61 B 7).toInt = (Iw60 B 7).toInt := by rw [(hFw61 B (by rw [hBk.2]; rfl)).1 7]
            have tkw61_F_7 : (Iw61 F 7).toInt = (Iw60 F 7).toInt := by rw [(hFw61 F (by rw [hFk.2]; rfl)).1 7]
            try dsimp only at p_99
            refine g_aload_n C dMo_readSieve_102 rfl ?_
            refine gt_getS C dMo_readSieve_103 fl_Mo_172 h0 hFo ?_
            refine g_aload_n C dMo_readSieve_106 rfl ?_
            refine g_iconst (v := Int32.ofInt (0)) C dMo_readSieve_107 (by decide) ?_
            refine g_bipush (v := Int32.ofInt (50)) C dMo_readSieve_108 (by decide) ?_
            refine s_callV_i (av := fun ad => [.int (Int32.ofInt (0)), .int (Int32.ofInt (50))]) C dMo_readSieve_110 mfMo_readWhole mvMo_readWhole ln_Mo_227 h0 (by decide) rfl hVw61 (frL_le (by decide)) (cMo_readWhole_O hVw61.1 h0 (by have hk1 : Int32.toInt (Int32.ofInt (0)) = 0 := ofI (by decide); have hk2 : Int32.toInt (Int32.ofInt (50)) = 50 := ofI (by decide); omega)) rfl rfl (Nat.le_of_ble_eq_true rfl) ⟨Nat.le_of_ble_eq_true rfl, Nat.le_of_ble_eq_true rfl⟩ ⟨rfl, rfl⟩ ⟨Nat.zero_le _, Nat.zero_le _⟩ (fun Iw62 Jw62 hVw62 hFw62 z_110 p_110 => ?_)
            have tkw62_F_0 : (Iw62 F 0).toInt = (Iw61 F 0).toInt := by rw [(hFw62 F (by rw [hFk.2]; rfl)).1 0]
            have tkw62_F_4 : (Iw62 F 4).toInt = (Iw61 F 4).toInt := by rw [(hFw62 F (by rw [hFk.2]; rfl)).1 4]
            have tkw62_F_8 : (Iw62 F 8).toInt = (Iw61 F 8).toInt := by rw [(hFw62 F (by rw [hFk.2]; rfl)).1 8]
            have tkw62_F_9 : (Iw62 F 9).toInt = (Iw61 F 9).toInt := by rw [(hFw62 F (by rw [hFk.2]; rfl)).1 9]
            have tkw62_F_10 : (Iw62 F 10).toInt = (Iw61 F 10).toInt := by rw [(hFw62 F (by rw [hFk.2]; rfl)).1 10]
            have tkw62_B_0 : (Iw62 B 0).toInt = (Iw61 B 0).toInt := by rw [(hFw62 B (by rw [hBk.2]; rfl)).1 0]
            have tkw62_B_4 : (Iw62 B 4).toInt = (Iw61 B 4).toInt := by rw [(hFw62 B (by rw [hBk.2]; rfl)).1 4]
            have tkw62_B_7 : (Iw62 B 7).toInt = (Iw61 B 7).toInt := by rw [(hFw62 B (by rw [hBk.2]; rfl)).1 7]
            have tkw62_F_7 : (Iw62 F 7).toInt = (Iw61 F 7).toInt := by rw [(hFw62 F (by rw [hFk.2]; rfl)).1 7]
            have rz_110 := rg z_110
            try dsimp only at p_110
            have hk1_110 : Int32.toInt (Int32.ofInt (0)) = 0 := ofI (by decide)
            have hk2_110 : Int32.toInt (Int32.ofInt (50)) = 50 := ofI (by decide)
            refine gt_puti C dMo_readSieve_113 fl_Mo_248 hFk hVw62 rfl trivial rfl (Or.inl rfl) (fun Iw63 eIw63 hVw63 => ?_)
            have tkw63_a0_8 : (Iw63 a0 8).toInt = (Iw62 a0 8).toInt := by rw [eIw63, up2_ne _ _ (fun z => by have q := h0.2; rw [z.1, hFk.2] at q; exact absurd q (by decide))]
            have tkw63_a0_9 : (Iw63 a0 9).toInt = (Iw62 a0 9).toInt := by rw [eIw63, up2_ne _ _ (fun z => by have q := h0.2; rw [z.1, hFk.2] at q; exact absurd q (by decide))]
            have tkw63_a0_13 : (Iw63 a0 13).toInt = (Iw62 a0 13).toInt := by rw [eIw63, up2_ne _ _ (fun z => by have q := h0.2; rw [z.1, hFk.2] at q; exact absurd q (by decide))]
            have tkw63_F_0 : (Iw63 F 0).toInt = (Iw62 F 0).toInt := by rw [eIw63, up2_ne _ _ (fun z => absurd z.2 (by decide))]
            have tkw63_F_4 : (Iw63 F 4).toInt = (Iw62 F 4).toInt := by rw [eIw63, up2_ne _ _ (fun z => absurd z.2 (by decide))]
            have tkw63_F_8 : (Iw63 F 8).toInt = (Iw62 F 8).toInt := by rw [eIw63, up2_ne _ _ (fun z => absurd z.2 (by decide))]
            have tkw63_F_9 : (Iw63 F 9).toInt = (Iw62 F 9).toInt := by rw [eIw63, up2_ne _ _ (fun z => absurd z.2 (by decide))]
            have tkw63_F_10 : (Iw63 F 10).toInt = (Iw62 F 10).toInt := by rw [eIw63, up2_ne _ _ (fun z => absurd z.2 (by decide))]
            have tkw63_a0_6 : (Iw63 a0 6).toInt = (Iw62 a0 6).toInt := by rw [eIw63, up2_ne _ _ (fun z => by have q := h0.2; rw [z.1, hFk.2] at q; exact absurd q (by decide))]
            have tkw63_a0_7 : (Iw63 a0 7).toInt = (Iw62 a0 7).toInt := by rw [eIw63, up2_ne _ _ (fun z => by have q := h0.2; rw [z.1, hFk.2] at q; exact absurd q (by decide))]
            have tkw63_a0_18 : (Iw63 a0 18).toInt = (Iw62 a0 18).toInt := by rw [eIw63, up2_ne _ _ (fun z => by have q := h0.2; rw [z.1, hFk.2] at q; exact absurd q (by decide))]
            have tkw63_B_0 : (Iw63 B 0).toInt = (Iw62 B 0).toInt := by rw [eIw63, up2_ne _ _ (fun z => absurd z.2 (by decide))]
            have tkw63_B_4 : (Iw63 B 4).toInt = (Iw62 B 4).toInt := by rw [eIw63, up2_ne _ _ (fun z => absurd z.2 (by decide))]
            have tkw63_B_7 : (Iw63 B 7).toInt = (Iw62 B 7).toInt := by rw [eIw63, up2_ne _ _ (fun z => absurd z.2 (by decide))]
            have tkw63_F_7 : (Iw63 F 7).toInt = (Iw62 F 7).toInt := by rw [eIw63, up2_ne _ _ (fun z => absurd z.2 (by decide))]
            exact s_vret C E dMo_readSieve_116 ⟨Nat.zero_le _, Nat.zero_le _⟩ hVw63 (by (try dsimp only); omega)
          refine gt_icmp_ne 80 C dMo_readSieve_73 (by decide) rfl (ofI (by decide)) (fun c_73 => ?_) (fun c_73 => ?_)
          · skip
            refine g_aload_n C dMo_readSieve_80 rfl ?_
            refine gt_getS C dMo_readSieve_81 fl_Mo_172 h0 hFo ?_
            refine gt_getr C dMo_readSieve_84 fl_Mo_243 hFk hVw57.1.1 rfl (fun b_84 q_84 hb_84 => ?_)
            refine g_iload_n C dMo_readSieve_87 rfl ?_
            refine gt_iald C dMo_readSieve_88 hb_84 (by decide) rfl rfl (n := 9) rfl (by omega) ?_
            have o_88 := hVw57.1.2 b_84 hb_84.1 z_40.toNatClampNeg
            rw [hb_84.2] at o_88
            have o_88 : -1 ≤ (Iw57 b_84 z_40.toNatClampNeg).toInt ∧ (Iw57 b_84 z_40.toNatClampNeg).toInt ≤ 4 := o_88
            exact g_sub (jn_89 (Iw57 b_84 z_40.toNatClampNeg)  (by omega) (by omega) (by omega) (by omega) (by omega) (by omega) (by omega) (by omega) (by omega) (by omega) (by omega) (by omega) ) ⟨rfl, rfl, trivial⟩
          · skip
            refine g_iconst (v := Int32.ofInt (0)) C dMo_readSieve_76 (by decide) ?_
            refine g_goto 89 C dMo_readSieve_77 (by decide) ?_
            exact g_sub (jn_89 (Int32.ofInt (0))  (by omega) (by omega) (by omega) (by omega) (by omega) (by omega) (by omega) (by omega) (by omega) (by omega) (by omega) (by omega) ) ⟨rfl, rfl, trivial⟩
        refine gt_icmp_eq 62 C dMo_readSieve_46 (by decide) rfl (ofI (by decide)) (fun c_46 => ?_) (fun c_46 => ?_)
        · skip
          exact g_sub (jn_62   (by omega) (by omega) (by omega) (by omega) (by omega) (by omega) (by omega) (by omega) (by omega) (by omega) (by omega) (by omega) ) ⟨rfl, rfl, trivial⟩
        · skip
          refine g_aload_n C dMo_readSieve_49 rfl ?_
          refine gt_getS C dMo_readSieve_50 fl_Mo_172 h0 hFo ?_
          refine gt_getr C dMo_readSieve_53 fl_Mo_243 hFk hVw54.1.1 rfl (fun b_53 q_53 hb_53 => ?_)
          refine g_iload_n C dMo_readSieve_56 rfl ?_
          refine gt_iald C dMo_readSieve_57 hb_53 (by decide) rfl rfl (n := 9) rfl (by omega) ?_
          have o_57 := hVw54.1.2 b_53 hb_53.1 z_40.toNatClampNeg
          rw [hb_53.2] at o_57
          have o_57 : -1 ≤ (Iw54 b_53 z_40.toNatClampNeg).toInt ∧ (Iw54 b_53 z_40.toNatClampNeg).toInt ≤ 4 := o_57
          refine g_iconst (v := Int32.ofInt (-1)) C dMo_readSieve_58 (by decide) ?_
          refine gt_icmp_ne 67 C dMo_readSieve_59 (by decide) rfl (ofI (by decide)) (fun c_59 => ?_) (fun c_59 => ?_)
          · skip
            refine g_aload_n C dMo_readSieve_67 rfl ?_
            refine gt_getS C dMo_readSieve_68 fl_Mo_172 h0 hFo ?_
            refine g_iload_n C dMo_readSieve_71 rfl ?_
            refine g_iconst (v := Int32.ofInt (-1)) C dMo_readSieve_72 (by decide) ?_
            have jn_89 : ∀  (s0_89 : Int32), (Int32.toInt (Iw54 a0 6) = Int32.toInt (I0 a0 6)) → (Int32.toInt (Iw54 a0 7) = Int32.toInt (I0 a0 7)) → (Int32.toInt (Iw54 a0 18) = Int32.toInt (I0 a0 18)) → (Int32.toInt (Iw54 B 0) = Int32.toInt (I0 B 0)) → (Int32.toInt (Iw54 B 4) = Int32.toInt (I0 B 4)) → (Int32.toInt (Iw54 B 7) = Int32.toInt (I0 B 7)) → (Int32.toInt (Iw54 F 0) = Int32.toInt (I0 F 0)) → (Int32.toInt (Iw54 F 4) = Int32.toInt (I0 F 4)) → (Int32.toInt (Iw54 F 7) = Int32.toInt (I0 F 7)) → (Int32.toInt (Iw54 F 8) = Int32.toInt (I0 F 8)) → (Int32.toInt (Iw54 F 9) = Int32.toInt (I0 F 9)) → (Int32.toInt (Iw54 F 10) = Int32.toInt (I0 F 10)) → GG X 2 P K Iw54 O Jw54 0 0 89 [(0, .ref a0), (1, .int z_40)] [.int s0_89, .ref F] := by
              intro s0_89 jv0_89 jv1_89 jv2_89 jv3_89 jv4_89 jv5_89 jv6_89 jv7_89 jv8_89 jv9_89 jv10_89 jv11_89
              refine gt_puti C dMo_readSieve_89 fl_Mo_181 hFk hVw54 rfl trivial rfl (Or.inl rfl) (fun Iw65 eIw65 hVw65 => ?_)
              have tkw65_a0_8 : (Iw65 a0 8).toInt = (Iw54 a0 8).toInt := by rw [eIw65, up2_ne _ _ (fun z => by have q := h0.2; rw [z.1, hFk.2] at q; exact absurd q (by decide))]
              have tkw65_a0_9 : (Iw65 a0 9).toInt = (Iw54 a0 9).toInt := by rw [eIw65, up2_ne _ _ (fun z => by have q := h0.2; rw [z.1, hFk.2] at q; exact absurd q (by decide))]
              have tkw65_a0_13 : (Iw65 a0 13).toInt = (Iw54 a0 13).toInt := by rw [eIw65, up2_ne _ _ (fun z => by have q := h0.2; rw [z.1, hFk.2] at q; exact absurd q (by decide))]
              have tkw65_F_0 : (Iw65 F 0).toInt = (Iw54 F 0).toInt := by rw [eIw65, up2_ne _ _ (fun z => absurd z.2 (by decide))]
              have tkw65_F_4 : (Iw65 F 4).toInt = (Iw54 F 4).toInt := by rw [eIw65, up2_ne _ _ (fun z => absurd z.2 (by decide))]
              have tkw65_F_8 : (Iw65 F 8).toInt = (Iw54 F 8).toInt := by rw [eIw65, up2_ne _ _ (fun z => absurd z.2 (by decide))]
              have tkw65_F_9 : (Iw65 F 9).toInt = (Iw54 F 9).toInt := by rw [eIw65, up2_ne _ _ (fun z => absurd z.2 (by decide))]
              have tkw65_F_10 : (Iw65 F 10).toInt = (Iw54 F 10).toInt := by rw [eIw65, up2_ne _ _ (fun z => absurd z.2 (by decide))]
              have tkw65_a0_6 : (Iw65 a0 6).toInt = (Iw54 a0 6).toInt := by rw [eIw65, up2_ne _ _ (fun z => by have q := h0.2; rw [z.1, hFk.2] at q; exact absurd q (by decide))]
              have tkw65_a0_7 : (Iw65 a0 7).toInt = (Iw54 a0 7).toInt := by rw [eIw65, up2_ne _ _ (fun z => by have q := h0.2; rw [z.1, hFk.2] at q; exact absurd q (by decide))]
              have tkw65_a0_18 : (Iw65 a0 18).toInt = (Iw54 a0 18).toInt := by rw [eIw65, up2_ne _ _ (fun z => by have q := h0.2; rw [z.1, hFk.2] at q; exact absurd q (by decide))]
              have tkw65_B_0 : (Iw65 B 0).toInt = (Iw54 B 0).toInt := by rw [eIw65, up2_ne _ _ (fun z => absurd z.2 (by decide))]
              have tkw65_B_4 : (Iw65 B 4).toInt = (Iw54 B 4).toInt := by rw [eIw65, up2_ne _ _ (fun z => absurd z.2 (by decide))]
              have tkw65_B_7 : (Iw65 B 7).toInt = (Iw54 B 7).toInt := by rw [eIw65, up2_ne _ _ (fun z => absurd z.2 (by decide))]
              have tkw65_F_7 : (Iw65 F 7).toInt = (Iw54 F 7).toInt := by rw [eIw65, up2_ne _ _ (fun z => absurd z.2 (by decide))]
              refine g_aload_n C dMo_readSieve_92 rfl ?_
              refine s_callV_v (av := fun ad => []) C dMo_readSieve_93 mfMo_next mvMo_next ln_Mo_146 h0 (by decide) rfl hVw65 (frL_le (by decide)) (cMo_next_O hVw65.1 h0 (by omega)) rfl rfl (Nat.le_of_ble_eq_true rfl) ⟨Nat.le_of_ble_eq_true rfl, Nat.le_of_ble_eq_true rfl⟩ ⟨rfl, rfl⟩ ⟨Nat.zero_le _, Nat.zero_le _⟩ (fun Iw66 Jw66 hVw66 hFw66 p_93 => ?_)
              have tkw66_F_0 : (Iw66 F 0).toInt = (Iw65 F 0).toInt := by rw [(hFw66 F (by rw [hFk.2]; rfl)).1 0]
              have tkw66_F_4 : (Iw66 F 4).toInt = (Iw65 F 4).toInt := by rw [(hFw66 F (by rw [hFk.2]; rfl)).1 4]
              have tkw66_F_8 : (Iw66 F 8).toInt = (Iw65 F 8).toInt := by rw [(hFw66 F (by rw [hFk.2]; rfl)).1 8]
              have tkw66_F_9 : (Iw66 F 9).toInt = (Iw65 F 9).toInt := by rw [(hFw66 F (by rw [hFk.2]; rfl)).1 9]
              have tkw66_F_10 : (Iw66 F 10).toInt = (Iw65 F 10).toInt := by rw [(hFw66 F (by rw [hFk.2]; rfl)).1 10]
              have tkw66_B_0 : (Iw66 B 0).toInt = (Iw65 B 0).toInt := by rw [(hFw66 B (by rw [hBk.2]; rfl)).1 0]
              have tkw66_B_4 : (Iw66 B 4).toInt = (Iw65 B 4).toInt := by rw [(hFw66 B (by rw [hBk.2]; rfl)).1 4]
              have tkw66_B_7 : (Iw66 B 7).toInt = (Iw65 B 7).toInt := by rw [(hFw66 B (by rw [hBk.2]; rfl)).1 7]
              have tkw66_F_7 : (Iw66 F 7).toInt = (Iw65 F 7).toInt := by rw [(hFw66 F (by rw [hFk.2]; rfl)).1 7]
              try dsimp only at p_93
              refine g_aload_n C dMo_readSieve_96 rfl ?_
              refine g_ldcS 25 C dMo_readSieve_97 rfl ?_
              refine s_callV_v (av := fun ad => [.ref (ad.1 25)]) C dMo_readSieve_99 mfMo_needWord mvMo_needWord ln_Mo_223 h0 (by decide) rfl hVw66 (frL_le (by decide)) (cMo_needWord_O hVw66.1 h0 (by decide) (by omega)) rfl rfl (Nat.le_of_ble_eq_true rfl) ⟨Nat.le_of_ble_eq_true rfl, Nat.le_of_ble_eq_true rfl⟩ ⟨rfl, rfl⟩ ⟨Nat.zero_le _, Nat.zero_le _⟩ (fun Iw67 Jw67 hVw67 hFw67 p_99 => ?_)
              have tkw67_F_0 : (Iw67 F 0).toInt = (Iw66 F 0).toInt := by rw [(hFw67 F (by rw [hFk.2]; rfl)).1 0]
              have tkw67_F_4 : (Iw67 F 4).toInt = (Iw66 F 4).toInt := by rw [(hFw67 F (by rw [hFk.2]; rfl)).1 4]
              have tkw67_F_8 : (Iw67 F 8).toInt = (Iw66 F 8).toInt := by rw [(hFw67 F (by rw [hFk.2]; rfl)).1 8]
              have tkw67_F_9 : (Iw67 F 9).toInt = (Iw66 F 9).toInt := by rw [(hFw67 F (by rw [hFk.2]; rfl)).1 9]
              have tkw67_F_10 : (Iw67 F 10).toInt = (Iw66 F 10).toInt := by rw [(hFw67 F (by rw [hFk.2]; rfl)).1 10]
              have tkw67_B_0 : (Iw67 B 0).toInt = (Iw66 B 0).toInt := by rw [(hFw67 B (by rw [hBk.2]; rfl)).1 0]
              have tkw67_B_4 : (Iw67 B 4).toInt = (Iw66 B 4).toInt := by rw [(hFw67 B (by rw [hBk.2]; rfl)).1 4]
              have tkw67_B_7 : (Iw67 B 7).toInt = (Iw66 B 7).toInt := by rw [(hFw67 B (by rw [hBk.2]; rfl)).1 7]
              have tkw67_F_7 : (Iw67 F 7).toInt = (Iw66 F 7).toInt := by rw [(hFw67 F (by rw [hFk.2]; rfl)).1 7]
              try dsimp only at p_99
              refine g_aload_n C dMo_readSieve_102 rfl ?_
              refine gt_getS C dMo_readSieve_103 fl_Mo_172 h0 hFo ?_
              refine g_aload_n C dMo_readSieve_106 rfl ?_
              refine g_iconst (v := Int32.ofInt (0)) C dMo_readSieve_107 (by decide) ?_
              refine g_bipush (v := Int32.ofInt (50)) C dMo_readSieve_108 (by decide) ?_
              refine s_callV_i (av := fun ad => [.int (Int32.ofInt (0)), .int (Int32.ofInt (50))]) C dMo_readSieve_110 mfMo_readWhole mvMo_readWhole ln_Mo_227 h0 (by decide) rfl hVw67 (frL_le (by decide)) (cMo_readWhole_O hVw67.1 h0 (by have hk1 : Int32.toInt (Int32.ofInt (0)) = 0 := ofI (by decide); have hk2 : Int32.toInt (Int32.ofInt (50)) = 50 := ofI (by decide); omega)) rfl rfl (Nat.le_of_ble_eq_true rfl) ⟨Nat.le_of_ble_eq_true rfl, Nat.le_of_ble_eq_true rfl⟩ ⟨rfl, rfl⟩ ⟨Nat.zero_le _, Nat.zero_le _⟩ (fun Iw68 Jw68 hVw68 hFw68 z_110 p_110 => ?_)
              have tkw68_F_0 : (Iw68 F 0).toInt = (Iw67 F 0).toInt := by rw [(hFw68 F (by rw [hFk.2]; rfl)).1 0]
              have tkw68_F_4 : (Iw68 F 4).toInt = (Iw67 F 4).toInt := by rw [(hFw68 F (by rw [hFk.2]; rfl)).1 4]
              have tkw68_F_8 : (Iw68 F 8).toInt = (Iw67 F 8).toInt := by rw [(hFw68 F (by rw [hFk.2]; rfl)).1 8]
              have tkw68_F_9 : (Iw68 F 9).toInt = (Iw67 F 9).toInt := by rw [(hFw68 F (by rw [hFk.2]; rfl)).1 9]
              have tkw68_F_10 : (Iw68 F 10).toInt = (Iw67 F 10).toInt := by rw [(hFw68 F (by rw [hFk.2]; rfl)).1 10]
              have tkw68_B_0 : (Iw68 B 0).toInt = (Iw67 B 0).toInt := by rw [(hFw68 B (by rw [hBk.2]; rfl)).1 0]
              have tkw68_B_4 : (Iw68 B 4).toInt = (Iw67 B 4).toInt := by rw [(hFw68 B (by rw [hBk.2]; rfl)).1 4]
              have tkw68_B_7 : (Iw68 B 7).toInt = (Iw67 B 7).toInt := by rw [(hFw68 B (by rw [hBk.2]; rfl)).1 7]
              have tkw68_F_7 : (Iw68 F 7).toInt = (Iw67 F 7).toInt := by rw [(hFw68 F (by rw [hFk.2]; rfl)).1 7]
              have rz_110 := rg z_110
              try dsimp only at p_110
              have hk1_110 : Int32.toInt (Int32.ofInt (0)) = 0 := ofI (by decide)
              have hk2_110 : Int32.toInt (Int32.ofInt (50)) = 50 := ofI (by decide)
              refine gt_puti C dMo_readSieve_113 fl_Mo_248 hFk hVw68 rfl trivial rfl (Or.inl rfl) (fun Iw69 eIw69 hVw69 => ?_)
              have tkw69_a0_8 : (Iw69 a0 8).toInt = (Iw68 a0 8).toInt := by rw [eIw69, up2_ne _ _ (fun z => by have q := h0.2; rw [z.1, hFk.2] at q; exact absurd q (by decide))]
              have tkw69_a0_9 : (Iw69 a0 9).toInt = (Iw68 a0 9).toInt := by rw [eIw69, up2_ne _ _ (fun z => by have q := h0.2; rw [z.1, hFk.2] at q; exact absurd q (by decide))]
              have tkw69_a0_13 : (Iw69 a0 13).toInt = (Iw68 a0 13).toInt := by rw [eIw69, up2_ne _ _ (fun z => by have q := h0.2; rw [z.1, hFk.2] at q; exact absurd q (by decide))]
              have tkw69_F_0 : (Iw69 F 0).toInt = (Iw68 F 0).toInt := by rw [eIw69, up2_ne _ _ (fun z => absurd z.2 (by decide))]
              have tkw69_F_4 : (Iw69 F 4).toInt = (Iw68 F 4).toInt := by rw [eIw69, up2_ne _ _ (fun z => absurd z.2 (by decide))]
              have tkw69_F_8 : (Iw69 F 8).toInt = (Iw68 F 8).toInt := by rw [eIw69, up2_ne _ _ (fun z => absurd z.2 (by decide))]
              have tkw69_F_9 : (Iw69 F 9).toInt = (Iw68 F 9).toInt := by rw [eIw69, up2_ne _ _ (fun z => absurd z.2 (by decide))]
              have tkw69_F_10 : (Iw69 F 10).toInt = (Iw68 F 10).toInt := by rw [eIw69, up2_ne _ _ (fun z => absurd z.2 (by decide))]
              have tkw69_a0_6 : (Iw69 a0 6).toInt = (Iw68 a0 6).toInt := by rw [eIw69, up2_ne _ _ (fun z => by have q := h0.2; rw [z.1, hFk.2] at q; exact absurd q (by decide))]
              have tkw69_a0_7 : (Iw69 a0 7).toInt = (Iw68 a0 7).toInt := by rw [eIw69, up2_ne _ _ (fun z => by have q := h0.2; rw [z.1, hFk.2] at q; exact absurd q (by decide))]
              have tkw69_a0_18 : (Iw69 a0 18).toInt = (Iw68 a0 18).toInt := by rw [eIw69, up2_ne _ _ (fun z => by have q := h0.2; rw [z.1, hFk.2] at q; exact absurd q (by decide))]
              have tkw69_B_0 : (Iw69 B 0).toInt = (Iw68 B 0).toInt := by rw [eIw69, up2_ne _ _ (fun z => absurd z.2 (by decide))]
              have tkw69_B_4 : (Iw69 B 4).toInt = (Iw68 B 4).toInt := by rw [eIw69, up2_ne _ _ (fun z => absurd z.2 (by decide))]
              have tkw69_B_7 : (Iw69 B 7).toInt = (Iw68 B 7).toInt := by rw [eIw69, up2_ne _ _ (fun z => absurd z.2 (by decide))]
              have tkw69_F_7 : (Iw69 F 7).toInt = (Iw68 F 7).toInt := by rw [eIw69, up2_ne _ _ (fun z => absurd z.2 (by decide))]
              exact s_vret C E dMo_readSieve_116 ⟨Nat.zero_le _, Nat.zero_le _⟩ hVw69 (by (try dsimp only); omega)
            refine gt_icmp_ne 80 C dMo_readSieve_73 (by decide) rfl (ofI (by decide)) (fun c_73 => ?_) (fun c_73 => ?_)
            · skip
              refine g_aload_n C dMo_readSieve_80 rfl ?_
              refine gt_getS C dMo_readSieve_81 fl_Mo_172 h0 hFo ?_
              refine gt_getS C dMo_readSieve_84 fl_Mo_243 hFk q_53 ?_
              refine g_iload_n C dMo_readSieve_87 rfl ?_
              refine gt_iald C dMo_readSieve_88 hb_53 (by decide) rfl rfl (n := 9) rfl (by omega) ?_
              have o_88 := hVw54.1.2 b_53 hb_53.1 z_40.toNatClampNeg
              rw [hb_53.2] at o_88
              have o_88 : -1 ≤ (Iw54 b_53 z_40.toNatClampNeg).toInt ∧ (Iw54 b_53 z_40.toNatClampNeg).toInt ≤ 4 := o_88
              exact g_sub (jn_89 (Iw54 b_53 z_40.toNatClampNeg)  (by omega) (by omega) (by omega) (by omega) (by omega) (by omega) (by omega) (by omega) (by omega) (by omega) (by omega) (by omega) ) ⟨rfl, rfl, trivial⟩
            · skip
              refine g_iconst (v := Int32.ofInt (0)) C dMo_readSieve_76 (by decide) ?_
              refine g_goto 89 C dMo_readSieve_77 (by decide) ?_
              exact g_sub (jn_89 (Int32.ofInt (0))  (by omega) (by omega) (by omega) (by omega) (by omega) (by omega) (by omega) (by omega) (by omega) (by omega) (by omega) (by omega) ) ⟨rfl, rfl, trivial⟩
          · skip
            exact g_sub (jn_62   (by omega) (by omega) (by omega) (by omega) (by omega) (by omega) (by omega) (by omega) (by omega) (by omega) (by omega) (by omega) ) ⟨rfl, rfl, trivial⟩
  refine gt_icmp_eq 16 C dMo_readSieve_9 (by decide) rfl (ofI (by decide)) (fun c_9 => ?_) (fun c_9 => ?_)
  · skip
    refine g_iconst (v := Int32.ofInt (0)) C dMo_readSieve_16 (by decide) ?_
    exact g_sub (jn_17 (Int32.ofInt (0))  (by omega) (by omega) (by omega) (by omega) (by omega) (by omega) (by omega) (by omega) (by omega) (by omega) (by omega) (by omega) ) ⟨rfl, trivial⟩
  · skip
    refine g_iconst (v := Int32.ofInt (1)) C dMo_readSieve_12 (by decide) ?_
    refine g_goto 17 C dMo_readSieve_13 (by decide) ?_
    exact g_sub (jn_17 (Int32.ofInt (1))  (by omega) (by omega) (by omega) (by omega) (by omega) (by omega) (by omega) (by omega) (by omega) (by omega) (by omega) (by omega) ) ⟨rfl, trivial⟩
