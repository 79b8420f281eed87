set_option maxHeartbeats 4000000 in
set_option maxRecDepth 100000 in
theorem cMo_readSize_N_F {P : List Nat} {K : Nat → Nat} {I0 : Nat → Nat → Int32} {O : Nat → Nat → Option Nat} {J0 : Nat → Nat → Int64} (hV : IV P K I0 O) {a0 : Nat} (h0 : a0 ∈ P ∧ K a0 = 10) {F B : Nat} (hFo : O a0 4 = some F) (hFk : F ∈ P ∧ K F = 9) (hBk : True ∧ K B = 9) (hBF : B ≠ F) (pr0 : 0 ≤ Int32.toInt (I0 a0 9) ∧ Int32.toInt (I0 a0 9) ≤ 4 ∧ Int32.toInt (I0 a0 13) = 0 ∧ (Int32.toInt (I0 F 0) = -1 ∨ 1 ≤ Int32.toInt (I0 F 0)) ∧ (Int32.toInt (I0 F 4) = -1 ∨ 1 ≤ Int32.toInt (I0 F 4)) ∧ Int32.toInt (I0 F 10) = Int32.toInt (I0 F 8) + Int32.toInt (I0 F 9) + 0) : Con yMo_readSize bMo_readSize 1 none ({ frames := 8, cells := 0, slots := 0, locals := 170 } : Room) P K I0 O J0 [.ref a0] (SPo frQ 0 (fun _ I_ => ((Int32.toInt (I_ a0 9) = 5 ∧ 1 ≤ Int32.toInt (I_ a0 13) ∧ Int32.toInt (I0 a0 8) ≤ Int32.toInt (I_ a0 8)) ∨ (0 ≤ Int32.toInt (I_ a0 9) ∧ Int32.toInt (I_ a0 9) ≤ 4 ∧ Int32.toInt (I_ a0 13) = 0 ∧ Int32.toInt (I0 a0 8) ≤ Int32.toInt (I_ a0 8) ∧ Int32.toInt (I0 a0 8) + Int32.toInt (I_ a0 9) ≤ Int32.toInt (I_ a0 8) + 3 ∧ (Int32.toInt (I_ F 0) = -1 ∨ 1 ≤ Int32.toInt (I_ F 0)) ∧ (Int32.toInt (I_ F 4) = -1 ∨ 1 ≤ Int32.toInt (I_ F 4)) ∧ Int32.toInt (I_ F 10) = Int32.toInt (I_ F 8) + Int32.toInt (I_ F 9) + 0)) ∧ (I_ a0 6).toInt = (I0 a0 6).toInt ∧ (I_ a0 7).toInt = (I0 a0 7).toInt ∧ (I_ a0 18).toInt = (I0 a0 18).toInt ∧ (I_ B 0).toInt = (I0 B 0).toInt ∧ (I_ B 4).toInt = (I0 B 4).toInt ∧ (I_ B 7).toInt = (I0 B 7).toInt ∧ (I_ F 0).toInt = (I0 F 0).toInt ∧ (I_ F 4).toInt = (I0 F 4).toInt ∧ (I_ F 9).toInt = (I0 F 9).toInt) P K I0 O J0) := by
  refine Con.ofG mfMo_readSize (Nat.le_of_ble_eq_true rfl) ?_
  intro X C E
  have ok_a0_7 := hV.2 a0 h0.1 7
  rw [h0.2] at ok_a0_7
  have ok_a0_7 : 0 ≤ (I0 a0 7).toInt ∧ (I0 a0 7).toInt ≤ 700 := ok_a0_7
  have ok_a0_8 := hV.2 a0 h0.1 8
  rw [h0.2] at ok_a0_8
  have ok_a0_8 : 0 ≤ (I0 a0 8).toInt ∧ (I0 a0 8).toInt ≤ 700 := ok_a0_8
  have ok_F_7 := hV.2 F hFk.1 7
  rw [hFk.2] at ok_F_7
  have ok_F_7 : 0 ≤ (I0 F 7).toInt ∧ (I0 F 7).toInt ≤ 6 := ok_F_7
  have ok_F_8 := hV.2 F hFk.1 8
  rw [hFk.2] at ok_F_8
  have ok_F_8 : 0 ≤ (I0 F 8).toInt ∧ (I0 F 8).toInt ≤ 5 := ok_F_8
  have ok_F_9 := hV.2 F hFk.1 9
  rw [hFk.2] at ok_F_9
  have ok_F_9 : 0 ≤ (I0 F 9).toInt ∧ (I0 F 9).toInt ≤ 4 := ok_F_9
  have ok_F_10 := hV.2 F hFk.1 10
  rw [hFk.2] at ok_F_10
  have ok_F_10 : 0 ≤ (I0 F 10).toInt ∧ (I0 F 10).toInt ≤ 9 := ok_F_10
  have hV0 : SV frQ P K O I0 J0 I0 J0 := SV.rf hV
  refine g_aload_n C dMo_readSize_0 rfl ?_
  refine gt_getS C dMo_readSize_1 fl_Mo_172 h0 hFo ?_
  refine g_geti C dMo_readSize_4 fl_Mo_191 hFk ?_
  have o_4 := hV0.1.2 F hFk.1 8
  rw [hFk.2] at o_4
  have o_4 : 0 ≤ (I0 F 8).toInt ∧ (I0 F 8).toInt ≤ 5 := o_4
  refine g_iconst (v := Int32.ofInt (5)) C dMo_readSize_7 (by decide) ?_
  refine gt_icmp_ne 16 C dMo_readSize_8 (by decide) rfl (ofI (by decide)) (fun c_8 => ?_) (fun c_8 => ?_)
  · skip
    refine g_aload_n C dMo_readSize_16 rfl ?_
    refine s_callV_v (av := fun ad => []) C dMo_readSize_17 mfMo_next mvMo_next ln_Mo_146 h0 (by decide) rfl hV0 (frL_le (by decide)) (cMo_next_N hV0.1 h0 (by omega)) rfl rfl (Nat.le_of_ble_eq_true rfl) ⟨Nat.le_of_ble_eq_true rfl, Nat.le_of_ble_eq_true rfl⟩ ⟨rfl, rfl⟩ ⟨Nat.zero_le _, Nat.zero_le _⟩ (fun Iw1 Jw1 hVw1 hFw1 p_17 => ?_)
    have tkw1_F_0 : (Iw1 F 0).toInt = (I0 F 0).toInt := by rw [(hFw1 F (by rw [hFk.2]; rfl)).1 0]
    have tkw1_F_4 : (Iw1 F 4).toInt = (I0 F 4).toInt := by rw [(hFw1 F (by rw [hFk.2]; rfl)).1 4]
    have tkw1_F_8 : (Iw1 F 8).toInt = (I0 F 8).toInt := by rw [(hFw1 F (by rw [hFk.2]; rfl)).1 8]
    have tkw1_F_9 : (Iw1 F 9).toInt = (I0 F 9).toInt := by rw [(hFw1 F (by rw [hFk.2]; rfl)).1 9]
    have tkw1_F_10 : (Iw1 F 10).toInt = (I0 F 10).toInt := by rw [(hFw1 F (by rw [hFk.2]; rfl)).1 10]
    have tkw1_B_0 : (Iw1 B 0).toInt = (I0 B 0).toInt := by rw [(hFw1 B (by rw [hBk.2]; rfl)).1 0]
    have tkw1_B_4 : (Iw1 B 4).toInt = (I0 B 4).toInt := by rw [(hFw1 B (by rw [hBk.2]; rfl)).1 4]
    have tkw1_B_7 : (Iw1 B 7).toInt = (I0 B 7).toInt := by rw [(hFw1 B (by rw [hBk.2]; rfl)).1 7]
    try dsimp only at p_17
    refine g_aload_n C dMo_readSize_20 rfl ?_
    refine g_aload_n C dMo_readSize_21 rfl ?_
    refine gt_getS C dMo_readSize_22 fl_Mo_172 h0 hFo ?_
    refine g_geti C dMo_readSize_25 fl_Mo_191 hFk ?_
    have o_25 := hVw1.1.2 F hFk.1 8
    rw [hFk.2] at o_25
    have o_25 : 0 ≤ (Iw1 F 8).toInt ∧ (Iw1 F 8).toInt ≤ 5 := o_25
    refine s_callV_v (av := fun ad => [.int (Iw1 F 8)]) C dMo_readSize_28 mfMo_readFresh mvMo_readFresh ln_Mo_262 h0 (by decide) rfl hVw1 (frL_le (by decide)) (cMo_readFresh_N_F hVw1.1 h0 hFo hFk hBk hBF (by omega)) rfl rfl (Nat.le_of_ble_eq_true rfl) ⟨Nat.le_of_ble_eq_true rfl, Nat.le_of_ble_eq_true rfl⟩ ⟨rfl, rfl⟩ ⟨Nat.zero_le _, Nat.zero_le _⟩ (fun Iw2 Jw2 hVw2 hFw2 p_28 => ?_)
    try dsimp only at p_28
    rcases p_28 with ⟨p_28 | p_28, pk_28⟩
    · skip
      refine g_aload_n C dMo_readSize_31 rfl ?_
      refine g_geti C dMo_readSize_32 fl_Mo_94 h0 ?_
      refine g_iconst (v := Int32.ofInt (5)) C dMo_readSize_35 (by decide) ?_
      refine gt_icmp_ne 40 C dMo_readSize_36 (by decide) rfl (ofI (by decide)) (fun c_36 => ?_) (fun c_36 => ?_)
      · skip
        exfalso; omega
      · skip
        exact s_vret C E dMo_readSize_39 ⟨Nat.zero_le _, Nat.zero_le _⟩ hVw2 (by (try dsimp only); omega)
    · skip
      refine g_aload_n C dMo_readSize_31 rfl ?_
      refine g_geti C dMo_readSize_32 fl_Mo_94 h0 ?_
      refine g_iconst (v := Int32.ofInt (5)) C dMo_readSize_35 (by decide) ?_
      refine gt_icmp_ne 40 C dMo_readSize_36 (by decide) rfl (ofI (by decide)) (fun c_36 => ?_) (fun c_36 => ?_)
      · skip
        refine g_aload_n C dMo_readSize_40 rfl ?_
        refine g_ldcwS 27 C dMo_readSize_41 rfl ?_
        refine s_callV_zp (av := fun ad => [.ref (ad.1 27)]) C dMo_readSize_44 mfMo_isWord mvMo_isWord ln_Mo_138 h0 (by decide) rfl (cMo_isWord hVw2.1 h0 (by decide)) rfl rfl (Nat.le_of_ble_eq_true rfl) ⟨Nat.le_of_ble_eq_true rfl, Nat.le_of_ble_eq_true rfl⟩ ⟨rfl, rfl⟩ ⟨Nat.zero_le _, Nat.zero_le _⟩ (fun z_44 b_44 p_44 => ?_)
        have rz_44 := rg z_44
        have u_44 := b_44
        unfold B01 at u_44
        refine gt_if_eq 105 C dMo_readSize_47 (by decide) rfl (fun c_47 => ?_) (fun c_47 => ?_)
        · skip
          refine g_aload_n C dMo_readSize_105 rfl ?_
          refine gt_getS C dMo_readSize_106 fl_Mo_172 h0 hFo ?_
          refine g_dup C dMo_readSize_109 rfl ?_
          refine g_geti C dMo_readSize_110 fl_Mo_191 hFk ?_
          have o_110 := hVw2.1.2 F hFk.1 8
          rw [hFk.2] at o_110
          have o_110 : 0 ≤ (Iw2 F 8).toInt ∧ (Iw2 F 8).toInt ≤ 5 := o_110
          refine g_iconst (v := Int32.ofInt (1)) C dMo_readSize_113 (by decide) ?_
          first | refine n_iadd C dMo_readSize_114 rfl (ofI (by decide)) (by omega) (fun z_114 e_114 => ?_) | refine a_iadd C dMo_readSize_114 (fun z_114 => ?_)
          refine gt_puti C dMo_readSize_115 fl_Mo_191 hFk hVw2 rfl (by show 0 ≤ Int32.toInt _ ∧ Int32.toInt _ ≤ 5; omega) rfl (Or.inl rfl) (fun Iw4 eIw4 hVw4 => ?_)
          have tkw4_a0_8 : (Iw4 a0 8).toInt = (Iw2 a0 8).toInt := by rw [eIw4, up2_ne _ _ (fun z => by have q := h0.2; rw [z.1, hFk.2] at q; exact absurd q (by decide))]
          have tkw4_a0_9 : (Iw4 a0 9).toInt = (Iw2 a0 9).toInt := by rw [eIw4, up2_ne _ _ (fun z => by have q := h0.2; rw [z.1, hFk.2] at q; exact absurd q (by decide))]
          have tkw4_a0_13 : (Iw4 a0 13).toInt = (Iw2 a0 13).toInt := by rw [eIw4, up2_ne _ _ (fun z => by have q := h0.2; rw [z.1, hFk.2] at q; exact absurd q (by decide))]
          have tkw4_F_0 : (Iw4 F 0).toInt = (Iw2 F 0).toInt := by rw [eIw4, up2_ne _ _ (fun z => absurd z.2 (by decide))]
          have tkw4_F_4 : (Iw4 F 4).toInt = (Iw2 F 4).toInt := by rw [eIw4, up2_ne _ _ (fun z => absurd z.2 (by decide))]
          have tkw4_F_8 : (Iw4 F 8).toInt = z_114.toInt := by rw [eIw4, up2_self]
          have tkw4_F_9 : (Iw4 F 9).toInt = (Iw2 F 9).toInt := by rw [eIw4, up2_ne _ _ (fun z => absurd z.2 (by decide))]
          have tkw4_F_10 : (Iw4 F 10).toInt = (Iw2 F 10).toInt := by rw [eIw4, up2_ne _ _ (fun z => absurd z.2 (by decide))]
          have tkw4_a0_6 : (Iw4 a0 6).toInt = (Iw2 a0 6).toInt := by rw [eIw4, up2_ne _ _ (fun z => by have q := h0.2; rw [z.1, hFk.2] at q; exact absurd q (by decide))]
          have tkw4_a0_7 : (Iw4 a0 7).toInt = (Iw2 a0 7).toInt := by rw [eIw4, up2_ne _ _ (fun z => by have q := h0.2; rw [z.1, hFk.2] at q; exact absurd q (by decide))]
          have tkw4_a0_18 : (Iw4 a0 18).toInt = (Iw2 a0 18).toInt := by rw [eIw4, up2_ne _ _ (fun z => by have q := h0.2; rw [z.1, hFk.2] at q; exact absurd q (by decide))]
          have tkw4_B_0 : (Iw4 B 0).toInt = (Iw2 B 0).toInt := by rw [eIw4, up2_ne _ _ (fun z => absurd z.2 (by decide))]
          have tkw4_B_4 : (Iw4 B 4).toInt = (Iw2 B 4).toInt := by rw [eIw4, up2_ne _ _ (fun z => absurd z.2 (by decide))]
          have tkw4_B_7 : (Iw4 B 7).toInt = (Iw2 B 7).toInt := by rw [eIw4, up2_ne _ _ (fun z => absurd z.2 (by decide))]
          exact s_vret C E dMo_readSize_118 ⟨Nat.zero_le _, Nat.zero_le _⟩ hVw4 (by (try dsimp only); omega)
        · skip
          refine g_aload_n C dMo_readSize_50 rfl ?_
          refine s_callV_v (av := fun ad => []) C dMo_readSize_51 mfMo_next mvMo_next ln_Mo_146 h0 (by decide) rfl hVw2 (frL_le (by decide)) (cMo_next_N hVw2.1 h0 (by omega)) rfl rfl (Nat.le_of_ble_eq_true rfl) ⟨Nat.le_of_ble_eq_true rfl, Nat.le_of_ble_eq_true rfl⟩ ⟨rfl, rfl⟩ ⟨Nat.zero_le _, Nat.zero_le _⟩ (fun Iw5 Jw5 hVw5 hFw5 p_51 => ?_)
          have tkw5_F_0 : (Iw5 F 0).toInt = (Iw2 F 0).toInt := by rw [(hFw5 F (by rw [hFk.2]; rfl)).1 0]
          have tkw5_F_4 : (Iw5 F 4).toInt = (Iw2 F 4).toInt := by rw [(hFw5 F (by rw [hFk.2]; rfl)).1 4]
          have tkw5_F_8 : (Iw5 F 8).toInt = (Iw2 F 8).toInt := by rw [(hFw5 F (by rw [hFk.2]; rfl)).1 8]
          have tkw5_F_9 : (Iw5 F 9).toInt = (Iw2 F 9).toInt := by rw [(hFw5 F (by rw [hFk.2]; rfl)).1 9]
          have tkw5_F_10 : (Iw5 F 10).toInt = (Iw2 F 10).toInt := by rw [(hFw5 F (by rw [hFk.2]; rfl)).1 10]
          have tkw5_B_0 : (Iw5 B 0).toInt = (Iw2 B 0).toInt := by rw [(hFw5 B (by rw [hBk.2]; rfl)).1 0]
          have tkw5_B_4 : (Iw5 B 4).toInt = (Iw2 B 4).toInt := by rw [(hFw5 B (by rw [hBk.2]; rfl)).1 4]
          have tkw5_B_7 : (Iw5 B 7).toInt = (Iw2 B 7).toInt := by rw [(hFw5 B (by rw [hBk.2]; rfl)).1 7]
          try dsimp only at p_51
          refine g_aload_n C dMo_readSize_54 rfl ?_
          refine gt_getS C dMo_readSize_55 fl_Mo_172 h0 hFo ?_
          refine gt_getr C dMo_readSize_58 fl_Mo_267 hFk hVw5.1.1 rfl (fun b_58 q_58 hb_58 => ?_)
          refine g_aload_n C dMo_readSize_61 rfl ?_
          refine gt_getS C dMo_readSize_62 fl_Mo_172 h0 hFo ?_
          refine g_geti C dMo_readSize_65 fl_Mo_191 hFk ?_
          have o_65 := hVw5.1.2 F hFk.1 8
          rw [hFk.2] at o_65
          have o_65 : 0 ≤ (Iw5 F 8).toInt ∧ (Iw5 F 8).toInt ≤ 5 := o_65
          refine g_aload_n C dMo_readSize_68 rfl ?_
          refine g_iconst (v := Int32.ofInt (0)) C dMo_readSize_69 (by decide) ?_
          refine g_bipush (v := Int32.ofInt (100)) C dMo_readSize_70 (by decide) ?_
          refine s_callV_i (av := fun ad => [.int (Int32.ofInt (0)), .int (Int32.ofInt (100))]) C dMo_readSize_72 mfMo_readWhole mvMo_readWhole ln_Mo_227 h0 (by decide) rfl hVw5 (frL_le (by decide)) (cMo_readWhole_N hVw5.1 h0 (by have hk1 : Int32.toInt (Int32.ofInt (0)) = 0 := ofI (by decide); have hk2 : Int32.toInt (Int32.ofInt (100)) = 100 := ofI (by decide); omega)) rfl rfl (Nat.le_of_ble_eq_true rfl) ⟨Nat.le_of_ble_eq_true rfl, Nat.le_of_ble_eq_true rfl⟩ ⟨rfl, rfl⟩ ⟨Nat.zero_le _, Nat.zero_le _⟩ (fun Iw6 Jw6 hVw6 hFw6 z_72 p_72 => ?_)
          have tkw6_F_0 : (Iw6 F 0).toInt = (Iw5 F 0).toInt := by rw [(hFw6 F (by rw [hFk.2]; rfl)).1 0]
          have tkw6_F_4 : (Iw6 F 4).toInt = (Iw5 F 4).toInt := by rw [(hFw6 F (by rw [hFk.2]; rfl)).1 4]
          have tkw6_F_8 : (Iw6 F 8).toInt = (Iw5 F 8).toInt := by rw [(hFw6 F (by rw [hFk.2]; rfl)).1 8]
          have tkw6_F_9 : (Iw6 F 9).toInt = (Iw5 F 9).toInt := by rw [(hFw6 F (by rw [hFk.2]; rfl)).1 9]
          have tkw6_F_10 : (Iw6 F 10).toInt = (Iw5 F 10).toInt := by rw [(hFw6 F (by rw [hFk.2]; rfl)).1 10]
          have tkw6_B_0 : (Iw6 B 0).toInt = (Iw5 B 0).toInt := by rw [(hFw6 B (by rw [hBk.2]; rfl)).1 0]
          have tkw6_B_4 : (Iw6 B 4).toInt = (Iw5 B 4).toInt := by rw [(hFw6 B (by rw [hBk.2]; rfl)).1 4]
          have tkw6_B_7 : (Iw6 B 7).toInt = (Iw5 B 7).toInt := by rw [(hFw6 B (by rw [hBk.2]; rfl)).1 7]
          have rz_72 := rg z_72
          try dsimp only at p_72
          have hk1_72 : Int32.toInt (Int32.ofInt (0)) = 0 := ofI (by decide)
          have hk2_72 : Int32.toInt (Int32.ofInt (100)) = 100 := ofI (by decide)
          rcases p_72 with ⟨p_72 | p_72, pk_72⟩
          · skip
            refine gt_iast C dMo_readSize_75 hb_58 (by decide) rfl rfl (n := 5) rfl (by omega) hVw6 rfl trivial (fun Iw7 eIw7 hVw7 => ?_)
            have tkw7_a0_8 : (Iw7 a0 8).toInt = (Iw6 a0 8).toInt := by rw [eIw7, up2_ne _ _ (fun z => by have q := h0.2; rw [z.1, hb_58.2] at q; exact absurd q (by decide))]
            have tkw7_a0_9 : (Iw7 a0 9).toInt = (Iw6 a0 9).toInt := by rw [eIw7, up2_ne _ _ (fun z => by have q := h0.2; rw [z.1, hb_58.2] at q; exact absurd q (by decide))]
            have tkw7_a0_13 : (Iw7 a0 13).toInt = (Iw6 a0 13).toInt := by rw [eIw7, up2_ne _ _ (fun z => by have q := h0.2; rw [z.1, hb_58.2] at q; exact absurd q (by decide))]
            have tkw7_F_0 : (Iw7 F 0).toInt = (Iw6 F 0).toInt := by rw [eIw7, up2_ne _ _ (fun z => by have q := hFk.2; rw [z.1, hb_58.2] at q; exact absurd q (by decide))]
            have tkw7_F_4 : (Iw7 F 4).toInt = (Iw6 F 4).toInt := by rw [eIw7, up2_ne _ _ (fun z => by have q := hFk.2; rw [z.1, hb_58.2] at q; exact absurd q (by decide))]
            have tkw7_F_8 : (Iw7 F 8).toInt = (Iw6 F 8).toInt := by rw [eIw7, up2_ne _ _ (fun z => by have q := hFk.2; rw [z.1, hb_58.2] at q; exact absurd q (by decide))]
            have tkw7_F_9 : (Iw7 F 9).toInt = (Iw6 F 9).toInt := by rw [eIw7, up2_ne _ _ (fun z => by have q := hFk.2; rw [z.1, hb_58.2] at q; exact absurd q (by decide))]
            have tkw7_F_10 : (Iw7 F 10).toInt = (Iw6 F 10).toInt := by rw [eIw7, up2_ne _ _ (fun z => by have q := hFk.2; rw [z.1, hb_58.2] at q; exact absurd q (by decide))]
            have tkw7_a0_6 : (Iw7 a0 6).toInt = (Iw6 a0 6).toInt := by rw [eIw7, up2_ne _ _ (fun z => by have q := h0.2; rw [z.1, hb_58.2] at q; exact absurd q (by decide))]
            have tkw7_a0_7 : (Iw7 a0 7).toInt = (Iw6 a0 7).toInt := by rw [eIw7, up2_ne _ _ (fun z => by have q := h0.2; rw [z.1, hb_58.2] at q; exact absurd q (by decide))]
            have tkw7_a0_18 : (Iw7 a0 18).toInt = (Iw6 a0 18).toInt := by rw [eIw7, up2_ne _ _ (fun z => by have q := h0.2; rw [z.1, hb_58.2] at q; exact absurd q (by decide))]
            have tkw7_B_0 : (Iw7 B 0).toInt = (Iw6 B 0).toInt := by rw [eIw7, up2_ne _ _ (fun z => by have q := hBk.2; rw [z.1, hb_58.2] at q; exact absurd q (by decide))]
            have tkw7_B_4 : (Iw7 B 4).toInt = (Iw6 B 4).toInt := by rw [eIw7, up2_ne _ _ (fun z => by have q := hBk.2; rw [z.1, hb_58.2] at q; exact absurd q (by decide))]
            have tkw7_B_7 : (Iw7 B 7).toInt = (Iw6 B 7).toInt := by rw [eIw7, up2_ne _ _ (fun z => by have q := hBk.2; rw [z.1, hb_58.2] at q; exact absurd q (by decide))]
            refine g_aload_n C dMo_readSize_76 rfl ?_
            refine g_ldcwS 28 C dMo_readSize_77 rfl ?_
            refine s_callV_v (av := fun ad => [.ref (ad.1 28)]) C dMo_readSize_80 mfMo_needWord mvMo_needWord ln_Mo_223 h0 (by decide) rfl hVw7 (frL_le (by decide)) (cMo_needWord_O hVw7.1 h0 (by decide) (by omega)) rfl rfl (Nat.le_of_ble_eq_true rfl) ⟨Nat.le_of_ble_eq_true rfl, Nat.le_of_ble_eq_true rfl⟩ ⟨rfl, rfl⟩ ⟨Nat.zero_le _, Nat.zero_le _⟩ (fun Iw8 Jw8 hVw8 hFw8 p_80 => ?_)
            have tkw8_F_0 : (Iw8 F 0).toInt = (Iw7 F 0).toInt := by rw [(hFw8 F (by rw [hFk.2]; rfl)).1 0]
            have tkw8_F_4 : (Iw8 F 4).toInt = (Iw7 F 4).toInt := by rw [(hFw8 F (by rw [hFk.2]; rfl)).1 4]
            have tkw8_F_8 : (Iw8 F 8).toInt = (Iw7 F 8).toInt := by rw [(hFw8 F (by rw [hFk.2]; rfl)).1 8]
            have tkw8_F_9 : (Iw8 F 9).toInt = (Iw7 F 9).toInt := by rw [(hFw8 F (by rw [hFk.2]; rfl)).1 9]
            have tkw8_F_10 : (Iw8 F 10).toInt = (Iw7 F 10).toInt := by rw [(hFw8 F (by rw [hFk.2]; rfl)).1 10]
            have tkw8_B_0 : (Iw8 B 0).toInt = (Iw7 B 0).toInt := by rw [(hFw8 B (by rw [hBk.2]; rfl)).1 0]
            have tkw8_B_4 : (Iw8 B 4).toInt = (Iw7 B 4).toInt := by rw [(hFw8 B (by rw [hBk.2]; rfl)).1 4]
            have tkw8_B_7 : (Iw8 B 7).toInt = (Iw7 B 7).toInt := by rw [(hFw8 B (by rw [hBk.2]; rfl)).1 7]
            try dsimp only at p_80
            refine g_aload_n C dMo_readSize_83 rfl ?_
            refine gt_getS C dMo_readSize_84 fl_Mo_172 h0 hFo ?_
            refine gt_getr C dMo_readSize_87 fl_Mo_270 hFk hVw8.1.1 rfl (fun b_87 q_87 hb_87 => ?_)
            refine g_aload_n C dMo_readSize_90 rfl ?_
            refine gt_getS C dMo_readSize_91 fl_Mo_172 h0 hFo ?_
            refine g_geti C dMo_readSize_94 fl_Mo_191 hFk ?_
            have o_94 := hVw8.1.2 F hFk.1 8
            rw [hFk.2] at o_94
            have o_94 : 0 ≤ (Iw8 F 8).toInt ∧ (Iw8 F 8).toInt ≤ 5 := o_94
            refine g_aload_n C dMo_readSize_97 rfl ?_
            refine g_iconst (v := Int32.ofInt (0)) C dMo_readSize_98 (by decide) ?_
            refine g_bipush (v := Int32.ofInt (100)) C dMo_readSize_99 (by decide) ?_
            refine s_callV_i (av := fun ad => [.int (Int32.ofInt (0)), .int (Int32.ofInt (100))]) C dMo_readSize_101 mfMo_readWhole mvMo_readWhole ln_Mo_227 h0 (by decide) rfl hVw8 (frL_le (by decide)) (cMo_readWhole_O hVw8.1 h0 (by have hk1 : Int32.toInt (Int32.ofInt (0)) = 0 := ofI (by decide); have hk2 : Int32.toInt (Int32.ofInt (100)) = 100 := ofI (by decide); omega)) rfl rfl (Nat.le_of_ble_eq_true rfl) ⟨Nat.le_of_ble_eq_true rfl, Nat.le_of_ble_eq_true rfl⟩ ⟨rfl, rfl⟩ ⟨Nat.zero_le _, Nat.zero_le _⟩ (fun Iw9 Jw9 hVw9 hFw9 z_101 p_101 => ?_)
            have tkw9_F_0 : (Iw9 F 0).toInt = (Iw8 F 0).toInt := by rw [(hFw9 F (by rw [hFk.2]; rfl)).1 0]
            have tkw9_F_4 : (Iw9 F 4).toInt = (Iw8 F 4).toInt := by rw [(hFw9 F (by rw [hFk.2]; rfl)).1 4]
            have tkw9_F_8 : (Iw9 F 8).toInt = (Iw8 F 8).toInt := by rw [(hFw9 F (by rw [hFk.2]; rfl)).1 8]
            have tkw9_F_9 : (Iw9 F 9).toInt = (Iw8 F 9).toInt := by rw [(hFw9 F (by rw [hFk.2]; rfl)).1 9]
            have tkw9_F_10 : (Iw9 F 10).toInt = (Iw8 F 10).toInt := by rw [(hFw9 F (by rw [hFk.2]; rfl)).1 10]
            have tkw9_B_0 : (Iw9 B 0).toInt = (Iw8 B 0).toInt := by rw [(hFw9 B (by rw [hBk.2]; rfl)).1 0]
            have tkw9_B_4 : (Iw9 B 4).toInt = (Iw8 B 4).toInt := by rw [(hFw9 B (by rw [hBk.2]; rfl)).1 4]
            have tkw9_B_7 : (Iw9 B 7).toInt = (Iw8 B 7).toInt := by rw [(hFw9 B (by rw [hBk.2]; rfl)).1 7]
            have rz_101 := rg z_101
            try dsimp only at p_101
            have hk1_101 : Int32.toInt (Int32.ofInt (0)) = 0 := ofI (by decide)
            have hk2_101 : Int32.toInt (Int32.ofInt (100)) = 100 := ofI (by decide)
            refine gt_iast C dMo_readSize_104 hb_87 (by decide) rfl rfl (n := 5) rfl (by omega) hVw9 rfl trivial (fun Iw10 eIw10 hVw10 => ?_)
            have tkw10_a0_8 : (Iw10 a0 8).toInt = (Iw9 a0 8).toInt := by rw [eIw10, up2_ne _ _ (fun z => by have q := h0.2; rw [z.1, hb_87.2] at q; exact absurd q (by decide))]
            have tkw10_a0_9 : (Iw10 a0 9).toInt = (Iw9 a0 9).toInt := by rw [eIw10, up2_ne _ _ (fun z => by have q := h0.2; rw [z.1, hb_87.2] at q; exact absurd q (by decide))]
            have tkw10_a0_13 : (Iw10 a0 13).toInt = (Iw9 a0 13).toInt := by rw [eIw10, up2_ne _ _ (fun z => by have q := h0.2; rw [z.1, hb_87.2] at q; exact absurd q (by decide))]
            have tkw10_F_0 : (Iw10 F 0).toInt = (Iw9 F 0).toInt := by rw [eIw10, up2_ne _ _ (fun z => by have q := hFk.2; rw [z.1, hb_87.2] at q; exact absurd q (by decide))]
            have tkw10_F_4 : (Iw10 F 4).toInt = (Iw9 F 4).toInt := by rw [eIw10, up2_ne _ _ (fun z => by have q := hFk.2; rw [z.1, hb_87.2] at q; exact absurd q (by decide))]
            have tkw10_F_8 : (Iw10 F 8).toInt = (Iw9 F 8).toInt := by rw [eIw10, up2_ne _ _ (fun z => by have q := hFk.2; rw [z.1, hb_87.2] at q; exact absurd q (by decide))]
            have tkw10_F_9 : (Iw10 F 9).toInt = (Iw9 F 9).toInt := by rw [eIw10, up2_ne _ _ (fun z => by have q := hFk.2; rw [z.1, hb_87.2] at q; exact absurd q (by decide))]
            have tkw10_F_10 : (Iw10 F 10).toInt = (Iw9 F 10).toInt := by rw [eIw10, up2_ne _ _ (fun z => by have q := hFk.2; rw [z.1, hb_87.2] at q; exact absurd q (by decide))]
            have tkw10_a0_6 : (Iw10 a0 6).toInt = (Iw9 a0 6).toInt := by rw [eIw10, up2_ne _ _ (fun z => by have q := h0.2; rw [z.1, hb_87.2] at q; exact absurd q (by decide))]
            have tkw10_a0_7 : (Iw10 a0 7).toInt = (Iw9 a0 7).toInt := by rw [eIw10, up2_ne _ _ (fun z => by have q := h0.2; rw [z.1, hb_87.2] at q; exact absurd q (by decide))]
            have tkw10_a0_18 : (Iw10 a0 18).toInt = (Iw9 a0 18).toInt := by rw [eIw10, up2_ne _ _ (fun z => by have q := h0.2; rw [z.1, hb_87.2] at q; exact absurd q (by decide))]
            have tkw10_B_0 : (Iw10 B 0).toInt = (Iw9 B 0).toInt := by rw [eIw10, up2_ne _ _ (fun z => by have q := hBk.2; rw [z.1, hb_87.2] at q; exact absurd q (by decide))]
            have tkw10_B_4 : (Iw10 B 4).toInt = (Iw9 B 4).toInt := by rw [eIw10, up2_ne _ _ (fun z => by have q := hBk.2; rw [z.1, hb_87.2] at q; exact absurd q (by decide))]
            have tkw10_B_7 : (Iw10 B 7).toInt = (Iw9 B 7).toInt := by rw [eIw10, up2_ne _ _ (fun z => by have q := hBk.2; rw [z.1, hb_87.2] at q; exact absurd q (by decide))]
            refine g_aload_n C dMo_readSize_105 rfl ?_
            refine gt_getS C dMo_readSize_106 fl_Mo_172 h0 hFo ?_
            refine g_dup C dMo_readSize_109 rfl ?_
            refine g_geti C dMo_readSize_110 fl_Mo_191 hFk ?_
            have o_110 := hVw10.1.2 F hFk.1 8
            rw [hFk.2] at o_110
            have o_110 : 0 ≤ (Iw10 F 8).toInt ∧ (Iw10 F 8).toInt ≤ 5 := o_110
            refine g_iconst (v := Int32.ofInt (1)) C dMo_readSize_113 (by decide) ?_
            first | refine n_iadd C dMo_readSize_114 rfl (ofI (by decide)) (by omega) (fun z_114 e_114 => ?_) | refine a_iadd C dMo_readSize_114 (fun z_114 => ?_)
            refine gt_puti C dMo_readSize_115 fl_Mo_191 hFk hVw10 rfl (by show 0 ≤ Int32.toInt _ ∧ Int32.toInt _ ≤ 5; omega) rfl (Or.inl rfl) (fun Iw11 eIw11 hVw11 => ?_)
            have tkw11_a0_8 : (Iw11 a0 8).toInt = (Iw10 a0 8).toInt := by rw [eIw11, up2_ne _ _ (fun z => by have q := h0.2; rw [z.1, hFk.2] at q; exact absurd q (by decide))]
            have tkw11_a0_9 : (Iw11 a0 9).toInt = (Iw10 a0 9).toInt := by rw [eIw11, up2_ne _ _ (fun z => by have q := h0.2; rw [z.1, hFk.2] at q; exact absurd q (by decide))]
            have tkw11_a0_13 : (Iw11 a0 13).toInt = (Iw10 a0 13).toInt := by rw [eIw11, up2_ne _ _ (fun z => by have q := h0.2; rw [z.1, hFk.2] at q; exact absurd q (by decide))]
            have tkw11_F_0 : (Iw11 F 0).toInt = (Iw10 F 0).toInt := by rw [eIw11, up2_ne _ _ (fun z => absurd z.2 (by decide))]
            have tkw11_F_4 : (Iw11 F 4).toInt = (Iw10 F 4).toInt := by rw [eIw11, up2_ne _ _ (fun z => absurd z.2 (by decide))]
            have tkw11_F_8 : (Iw11 F 8).toInt = z_114.toInt := by rw [eIw11, up2_self]
            have tkw11_F_9 : (Iw11 F 9).toInt = (Iw10 F 9).toInt := by rw [eIw11, up2_ne _ _ (fun z => absurd z.2 (by decide))]
            have tkw11_F_10 : (Iw11 F 10).toInt = (Iw10 F 10).toInt := by rw [eIw11, up2_ne _ _ (fun z => absurd z.2 (by decide))]
            have tkw11_a0_6 : (Iw11 a0 6).toInt = (Iw10 a0 6).toInt := by rw [eIw11, up2_ne _ _ (fun z => by have q := h0.2; rw [z.1, hFk.2] at q; exact absurd q (by decide))]
            have tkw11_a0_7 : (Iw11 a0 7).toInt = (Iw10 a0 7).toInt := by rw [eIw11, up2_ne _ _ (fun z => by have q := h0.2; rw [z.1, hFk.2] at q; exact absurd q (by decide))]
            have tkw11_a0_18 : (Iw11 a0 18).toInt = (Iw10 a0 18).toInt := by rw [eIw11, up2_ne _ _ (fun z => by have q := h0.2; rw [z.1, hFk.2] at q; exact absurd q (by decide))]
            have tkw11_B_0 : (Iw11 B 0).toInt = (Iw10 B 0).toInt := by rw [eIw11, up2_ne _ _ (fun z => absurd z.2 (by decide))]
            have tkw11_B_4 : (Iw11 B 4).toInt = (Iw10 B 4).toInt := by rw [eIw11, up2_ne _ _ (fun z => absurd z.2 (by decide))]
            have tkw11_B_7 : (Iw11 B 7).toInt = (Iw10 B 7).toInt := by rw [eIw11, up2_ne _ _ (fun z => absurd z.2 (by decide))]
            exact s_vret C E dMo_readSize_118 ⟨Nat.zero_le _, Nat.zero_le _⟩ hVw11 (by (try dsimp only); omega)
          · skip
            refine gt_iast C dMo_readSize_75 hb_58 (by decide) rfl rfl (n := 5) rfl (by omega) hVw6 rfl trivial (fun Iw12 eIw12 hVw12 => ?_)
            have tkw12_a0_8 : (Iw12 a0 8).toInt = (Iw6 a0 8).toInt := by rw [eIw12, up2_ne _ _ (fun z => by have q := h0.2; rw [z.1, hb_58.2] at q; exact absurd q (by decide))]
            have tkw12_a0_9 : (Iw12 a0 9).toInt = (Iw6 a0 9).toInt := by rw [eIw12, up2_ne _ _ (fun z => by have q := h0.2; rw [z.1, hb_58.2] at q; exact absurd q (by decide))]
            have tkw12_a0_13 : (Iw12 a0 13).toInt = (Iw6 a0 13).toInt := by rw [eIw12, up2_ne _ _ (fun z => by have q := h0.2; rw [z.1, hb_58.2] at q; exact absurd q (by decide))]
            have tkw12_F_0 : (Iw12 F 0).toInt = (Iw6 F 0).toInt := by rw [eIw12, up2_ne _ _ (fun z => by have q := hFk.2; rw [z.1, hb_58.2] at q; exact absurd q (by decide))]
            have tkw12_F_4 : (Iw12 F 4).toInt = (Iw6 F 4).toInt := by rw [eIw12, up2_ne _ _ (fun z => by have q := hFk.2; rw [z.1, hb_58.2] at q; exact absurd q (by decide))]
            have tkw12_F_8 : (Iw12 F 8).toInt = (Iw6 F 8).toInt := by rw [eIw12, up2_ne _ _ (fun z => by have q := hFk.2; rw [z.1, hb_58.2] at q; exact absurd q (by decide))]
            have tkw12_F_9 : (Iw12 F 9).toInt = (Iw6 F 9).toInt := by rw [eIw12, up2_ne _ _ (fun z => by have q := hFk.2; rw [z.1, hb_58.2] at q; exact absurd q (by decide))]
            have tkw12_F_10 : (Iw12 F 10).toInt = (Iw6 F 10).toInt := by rw [eIw12, up2_ne _ _ (fun z => by have q := hFk.2; rw [z.1, hb_58.2] at q; exact absurd q (by decide))]
            have tkw12_a0_6 : (Iw12 a0 6).toInt = (Iw6 a0 6).toInt := by rw [eIw12, up2_ne _ _ (fun z => by have q := h0.2; rw [z.1, hb_58.2] at q; exact absurd q (by decide))]
            have tkw12_a0_7 : (Iw12 a0 7).toInt = (Iw6 a0 7).toInt := by rw [eIw12, up2_ne _ _ (fun z => by have q := h0.2; rw [z.1, hb_58.2] at q; exact absurd q (by decide))]
            have tkw12_a0_18 : (Iw12 a0 18).toInt = (Iw6 a0 18).toInt := by rw [eIw12, up2_ne _ _ (fun z => by have q := h0.2; rw [z.1, hb_58.2] at q; exact absurd q (by decide))]
            have tkw12_B_0 : (Iw12 B 0).toInt = (Iw6 B 0).toInt := by rw [eIw12, up2_ne _ _ (fun z => by have q := hBk.2; rw [z.1, hb_58.2] at q; exact absurd q (by decide))]
            have tkw12_B_4 : (Iw12 B 4).toInt = (Iw6 B 4).toInt := by rw [eIw12, up2_ne _ _ (fun z => by have q := hBk.2; rw [z.1, hb_58.2] at q; exact absurd q (by decide))]
            have tkw12_B_7 : (Iw12 B 7).toInt = (Iw6 B 7).toInt := by rw [eIw12, up2_ne _ _ (fun z => by have q := hBk.2; rw [z.1, hb_58.2] at q; exact absurd q (by decide))]
            refine g_aload_n C dMo_readSize_76 rfl ?_
            refine g_ldcwS 28 C dMo_readSize_77 rfl ?_
            refine s_callV_v (av := fun ad => [.ref (ad.1 28)]) C dMo_readSize_80 mfMo_needWord mvMo_needWord ln_Mo_223 h0 (by decide) rfl hVw12 (frL_le (by decide)) (cMo_needWord_N hVw12.1 h0 (by decide) (by omega)) rfl rfl (Nat.le_of_ble_eq_true rfl) ⟨Nat.le_of_ble_eq_true rfl, Nat.le_of_ble_eq_true rfl⟩ ⟨rfl, rfl⟩ ⟨Nat.zero_le _, Nat.zero_le _⟩ (fun Iw13 Jw13 hVw13 hFw13 p_80 => ?_)
            have tkw13_F_0 : (Iw13 F 0).toInt = (Iw12 F 0).toInt := by rw [(hFw13 F (by rw [hFk.2]; rfl)).1 0]
            have tkw13_F_4 : (Iw13 F 4).toInt = (Iw12 F 4).toInt := by rw [(hFw13 F (by rw [hFk.2]; rfl)).1 4]
            have tkw13_F_8 : (Iw13 F 8).toInt = (Iw12 F 8).toInt := by rw [(hFw13 F (by rw [hFk.2]; rfl)).1 8]
            have tkw13_F_9 : (Iw13 F 9).toInt = (Iw12 F 9).toInt := by rw [(hFw13 F (by rw [hFk.2]; rfl)).1 9]
            have tkw13_F_10 : (Iw13 F 10).toInt = (Iw12 F 10).toInt := by rw [(hFw13 F (by rw [hFk.2]; rfl)).1 10]
            have tkw13_B_0 : (Iw13 B 0).toInt = (Iw12 B 0).toInt := by rw [(hFw13 B (by rw [hBk.2]; rfl)).1 0]
            have tkw13_B_4 : (Iw13 B 4).toInt = (Iw12 B 4).toInt := by rw [(hFw13 B (by rw [hBk.2]; rfl)).1 4]
            have tkw13_B_7 : (Iw13 B 7).toInt = (Iw12 B 7).toInt := by rw [(hFw13 B (by rw [hBk.2]; rfl)).1 7]
            try dsimp only at p_80
            rcases p_80 with ⟨p_80 | p_80, pk_80⟩
            · skip
              refine g_aload_n C dMo_readSize_83 rfl ?_
              refine gt_getS C dMo_readSize_84 fl_Mo_172 h0 hFo ?_
              refine gt_getr C dMo_readSize_87 fl_Mo_270 hFk hVw13.1.1 rfl (fun b_87 q_87 hb_87 => ?_)
              refine g_aload_n C dMo_readSize_90 rfl ?_
              refine gt_getS C dMo_readSize_91 fl_Mo_172 h0 hFo ?_
              refine g_geti C dMo_readSize_94 fl_Mo_191 hFk ?_
              have o_94 := hVw13.1.2 F hFk.1 8
              rw [hFk.2] at o_94
              have o_94 : 0 ≤ (Iw13 F 8).toInt ∧ (Iw13 F 8).toInt ≤ 5 := o_94
              refine g_aload_n C dMo_readSize_97 rfl ?_
              refine g_iconst (v := Int32.ofInt (0)) C dMo_readSize_98 (by decide) ?_
              refine g_bipush (v := Int32.ofInt (100)) C dMo_readSize_99 (by decide) ?_
              refine s_callV_i (av := fun ad => [.int (Int32.ofInt (0)), .int (Int32.ofInt (100))]) C dMo_readSize_101 mfMo_readWhole mvMo_readWhole ln_Mo_227 h0 (by decide) rfl hVw13 (frL_le (by decide)) (cMo_readWhole_O hVw13.1 h0 (by have hk1 : Int32.toInt (Int32.ofInt (0)) = 0 := ofI (by decide); have hk2 : Int32.toInt (Int32.ofInt (100)) = 100 := ofI (by decide); omega)) rfl rfl (Nat.le_of_ble_eq_true rfl) ⟨Nat.le_of_ble_eq_true rfl, Nat.le_of_ble_eq_true rfl⟩ ⟨rfl, rfl⟩ ⟨Nat.zero_le _, Nat.zero_le _⟩ (fun Iw14 Jw14 hVw14 hFw14 z_101 p_101 => ?_)
              have tkw14_F_0 : (Iw14 F 0).toInt = (Iw13 F 0).toInt := by rw [(hFw14 F (by rw [hFk.2]; rfl)).1 0]
              have tkw14_F_4 : (Iw14 F 4).toInt = (Iw13 F 4).toInt := by rw [(hFw14 F (by rw [hFk.2]; rfl)).1 4]
              have tkw14_F_8 : (Iw14 F 8).toInt = (Iw13 F 8).toInt := by rw [(hFw14 F (by rw [hFk.2]; rfl)).1 8]
              have tkw14_F_9 : (Iw14 F 9).toInt = (Iw13 F 9).toInt := by rw [(hFw14 F (by rw [hFk.2]; rfl)).1 9]
              have tkw14_F_10 : (Iw14 F 10).toInt = (Iw13 F 10).toInt := by rw [(hFw14 F (by rw [hFk.2]; rfl)).1 10]
              have tkw14_B_0 : (Iw14 B 0).toInt = (Iw13 B 0).toInt := by rw [(hFw14 B (by rw [hBk.2]; rfl)).1 0]
              have tkw14_B_4 : (Iw14 B 4).toInt = (Iw13 B 4).toInt := by rw [(hFw14 B (by rw [hBk.2]; rfl)).1 4]
              have tkw14_B_7 : (Iw14 B 7).toInt = (Iw13 B 7).toInt := by rw [(hFw14 B (by rw [hBk.2]; rfl)).1 7]
              have rz_101 := rg z_101
              try dsimp only at p_101
              have hk1_101 : Int32.toInt (Int32.ofInt (0)) = 0 := ofI (by decide)
              have hk2_101 : Int32.toInt (Int32.ofInt (100)) = 100 := ofI (by decide)
              refine gt_iast C dMo_readSize_104 hb_87 (by decide) rfl rfl (n := 5) rfl (by omega) hVw14 rfl trivial (fun Iw15 eIw15 hVw15 => ?_)
              have tkw15_a0_8 : (Iw15 a0 8).toInt = (Iw14 a0 8).toInt := by rw [eIw15, up2_ne _ _ (fun z => by have q := h0.2; rw [z.1, hb_87.2] at q; exact absurd q (by decide))]
              have tkw15_a0_9 : (Iw15 a0 9).toInt = (Iw14 a0 9).toInt := by rw [eIw15, up2_ne _ _ (fun z => by have q := h0.2; rw [z.1, hb_87.2] at q; exact absurd q (by decide))]
              have tkw15_a0_13 : (Iw15 a0 13).toInt = (Iw14 a0 13).toInt := by rw [eIw15, up2_ne _ _ (fun z => by have q := h0.2; rw [z.1, hb_87.2] at q; exact absurd q (by decide))]
              have tkw15_F_0 : (Iw15 F 0).toInt = (Iw14 F 0).toInt := by rw [eIw15, up2_ne _ _ (fun z => by have q := hFk.2; rw [z.1, hb_87.2] at q; exact absurd q (by decide))]
              have tkw15_F_4 : (Iw15 F 4).toInt = (Iw14 F 4).toInt := by rw [eIw15, up2_ne _ _ (fun z => by have q := hFk.2; rw [z.1, hb_87.2] at q; exact absurd q (by decide))]
              have tkw15_F_8 : (Iw15 F 8).toInt = (Iw14 F 8).toInt := by rw [eIw15, up2_ne _ _ (fun z => by have q := hFk.2; rw [z.1, hb_87.2] at q; exact absurd q (by decide))]
              have tkw15_F_9 : (Iw15 F 9).toInt = (Iw14 F 9).toInt := by rw [eIw15, up2_ne _ _ (fun z => by have q := hFk.2; rw [z.1, hb_87.2] at q; exact absurd q (by decide))]
              have tkw15_F_10 : (Iw15 F 10).toInt = (Iw14 F 10).toInt := by rw [eIw15, up2_ne _ _ (fun z => by have q := hFk.2; rw [z.1, hb_87.2] at q; exact absurd q (by decide))]
              have tkw15_a0_6 : (Iw15 a0 6).toInt = (Iw14 a0 6).toInt := by rw [eIw15, up2_ne _ _ (fun z => by have q := h0.2; rw [z.1, hb_87.2] at q; exact absurd q (by decide))]
              have tkw15_a0_7 : (Iw15 a0 7).toInt = (Iw14 a0 7).toInt := by rw [eIw15, up2_ne _ _ (fun z => by have q := h0.2; rw [z.1, hb_87.2] at q; exact absurd q (by decide))]
              have tkw15_a0_18 : (Iw15 a0 18).toInt = (Iw14 a0 18).toInt := by rw [eIw15, up2_ne _ _ (fun z => by have q := h0.2; rw [z.1, hb_87.2] at q; exact absurd q (by decide))]
              have tkw15_B_0 : (Iw15 B 0).toInt = (Iw14 B 0).toInt := by rw [eIw15, up2_ne _ _ (fun z => by have q := hBk.2; rw [z.1, hb_87.2] at q; exact absurd q (by decide))]
              have tkw15_B_4 : (Iw15 B 4).toInt = (Iw14 B 4).toInt := by rw [eIw15, up2_ne _ _ (fun z => by have q := hBk.2; rw [z.1, hb_87.2] at q; exact absurd q (by decide))]
              have tkw15_B_7 : (Iw15 B 7).toInt = (Iw14 B 7).toInt := by rw [eIw15, up2_ne _ _ (fun z => by have q := hBk.2; rw [z.1, hb_87.2] at q; exact absurd q (by decide))]
              refine g_aload_n C dMo_readSize_105 rfl ?_
              refine gt_getS C dMo_readSize_106 fl_Mo_172 h0 hFo ?_
              refine g_dup C dMo_readSize_109 rfl ?_
              refine g_geti C dMo_readSize_110 fl_Mo_191 hFk ?_
              have o_110 := hVw15.1.2 F hFk.1 8
              rw [hFk.2] at o_110
              have o_110 : 0 ≤ (Iw15 F 8).toInt ∧ (Iw15 F 8).toInt ≤ 5 := o_110
              refine g_iconst (v := Int32.ofInt (1)) C dMo_readSize_113 (by decide) ?_
              first | refine n_iadd C dMo_readSize_114 rfl (ofI (by decide)) (by omega) (fun z_114 e_114 => ?_) | refine a_iadd C dMo_readSize_114 (fun z_114 => ?_)
              refine gt_puti C dMo_readSize_115 fl_Mo_191 hFk hVw15 rfl (by show 0 ≤ Int32.toInt _ ∧ Int32.toInt _ ≤ 5; omega) rfl (Or.inl rfl) (fun Iw16 eIw16 hVw16 => ?_)
              have tkw16_a0_8 : (Iw16 a0 8).toInt = (Iw15 a0 8).toInt := by rw [eIw16, up2_ne _ _ (fun z => by have q := h0.2; rw [z.1, hFk.2] at q; exact absurd q (by decide))]
              have tkw16_a0_9 : (Iw16 a0 9).toInt = (Iw15 a0 9).toInt := by rw [eIw16, up2_ne _ _ (fun z => by have q := h0.2; rw [z.1, hFk.2] at q; exact absurd q (by decide))]
              have tkw16_a0_13 : (Iw16 a0 13).toInt = (Iw15 a0 13).toInt := by rw [eIw16, up2_ne _ _ (fun z => by have q := h0.2; rw [z.1, hFk.2] at q; exact absurd q (by decide))]
              have tkw16_F_0 : (Iw16 F 0).toInt = (Iw15 F 0).toInt := by rw [eIw16, up2_ne _ _ (fun z => absurd z.2 (by decide))]
              have tkw16_F_4 : (Iw16 F 4).toInt = (Iw15 F 4).toInt := by rw [eIw16, up2_ne _ _ (fun z => absurd z.2 (by decide))]
              have tkw16_F_8 : (Iw16 F 8).toInt = z_114.toInt := by rw [eIw16, up2_self]
              have tkw16_F_9 : (Iw16 F 9).toInt = (Iw15 F 9).toInt := by rw [eIw16, up2_ne _ _ (fun z => absurd z.2 (by decide))]
              have tkw16_F_10 : (Iw16 F 10).toInt = (Iw15 F 10).toInt := by rw [eIw16, up2_ne _ _ (fun z => absurd z.2 (by decide))]
              have tkw16_a0_6 : (Iw16 a0 6).toInt = (Iw15 a0 6).toInt := by rw [eIw16, up2_ne _ _ (fun z => by have q := h0.2; rw [z.1, hFk.2] at q; exact absurd q (by decide))]
              have tkw16_a0_7 : (Iw16 a0 7).toInt = (Iw15 a0 7).toInt := by rw [eIw16, up2_ne _ _ (fun z => by have q := h0.2; rw [z.1, hFk.2] at q; exact absurd q (by decide))]
              have tkw16_a0_18 : (Iw16 a0 18).toInt = (Iw15 a0 18).toInt := by rw [eIw16, up2_ne _ _ (fun z => by have q := h0.2; rw [z.1, hFk.2] at q; exact absurd q (by decide))]
              have tkw16_B_0 : (Iw16 B 0).toInt = (Iw15 B 0).toInt := by rw [eIw16, up2_ne _ _ (fun z => absurd z.2 (by decide))]
              have tkw16_B_4 : (Iw16 B 4).toInt = (Iw15 B 4).toInt := by rw [eIw16, up2_ne _ _ (fun z => absurd z.2 (by decide))]
              have tkw16_B_7 : (Iw16 B 7).toInt = (Iw15 B 7).toInt := by rw [eIw16, up2_ne _ _ (fun z => absurd z.2 (by decide))]
              exact s_vret C E dMo_readSize_118 ⟨Nat.zero_le _, Nat.zero_le _⟩ hVw16 (by (try dsimp only); omega)
            · skip
              refine g_aload_n C dMo_readSize_83 rfl ?_
              refine gt_getS C dMo_readSize_84 fl_Mo_172 h0 hFo ?_
              refine gt_getr C dMo_readSize_87 fl_Mo_270 hFk hVw13.1.1 rfl (fun b_87 q_87 hb_87 => ?_)
              refine g_aload_n C dMo_readSize_90 rfl ?_
              refine gt_getS C dMo_readSize_91 fl_Mo_172 h0 hFo ?_
              refine g_geti C dMo_readSize_94 fl_Mo_191 hFk ?_
              have o_94 := hVw13.1.2 F hFk.1 8
              rw [hFk.2] at o_94
              have o_94 : 0 ≤ (Iw13 F 8).toInt ∧ (Iw13 F 8).toInt ≤ 5 := o_94
              refine g_aload_n C dMo_readSize_97 rfl ?_
              refine g_iconst (v := Int32.ofInt (0)) C dMo_readSize_98 (by decide) ?_
              refine g_bipush (v := Int32.ofInt (100)) C dMo_readSize_99 (by decide) ?_
              refine s_callV_i (av := fun ad => [.int (Int32.ofInt (0)), .int (Int32.ofInt (100))]) C dMo_readSize_101 mfMo_readWhole mvMo_readWhole ln_Mo_227 h0 (by decide) rfl hVw13 (frL_le (by decide)) (cMo_readWhole_N hVw13.1 h0 (by have hk1 : Int32.toInt (Int32.ofInt (0)) = 0 := ofI (by decide); have hk2 : Int32.toInt (Int32.ofInt (100)) = 100 := ofI (by decide); omega)) rfl rfl (Nat.le_of_ble_eq_true rfl) ⟨Nat.le_of_ble_eq_true rfl, Nat.le_of_ble_eq_true rfl⟩ ⟨rfl, rfl⟩ ⟨Nat.zero_le _, Nat.zero_le _⟩ (fun Iw17 Jw17 hVw17 hFw17 z_101 p_101 => ?_)
              have tkw17_F_0 : (Iw17 F 0).toInt = (Iw13 F 0).toInt := by rw [(hFw17 F (by rw [hFk.2]; rfl)).1 0]
              have tkw17_F_4 : (Iw17 F 4).toInt = (Iw13 F 4).toInt := by rw [(hFw17 F (by rw [hFk.2]; rfl)).1 4]
              have tkw17_F_8 : (Iw17 F 8).toInt = (Iw13 F 8).toInt := by rw [(hFw17 F (by rw [hFk.2]; rfl)).1 8]
              have tkw17_F_9 : (Iw17 F 9).toInt = (Iw13 F 9).toInt := by rw [(hFw17 F (by rw [hFk.2]; rfl)).1 9]
              have tkw17_F_10 : (Iw17 F 10).toInt = (Iw13 F 10).toInt := by rw [(hFw17 F (by rw [hFk.2]; rfl)).1 10]
              have tkw17_B_0 : (Iw17 B 0).toInt = (Iw13 B 0).toInt := by rw [(hFw17 B (by rw [hBk.2]; rfl)).1 0]
              have tkw17_B_4 : (Iw17 B 4).toInt = (Iw13 B 4).toInt := by rw [(hFw17 B (by rw [hBk.2]; rfl)).1 4]
              have tkw17_B_7 : (Iw17 B 7).toInt = (Iw13 B 7).toInt := by rw [(hFw17 B (by rw [hBk.2]; rfl)).1 7]
              have rz_101 := rg z_101
              try dsimp only at p_101
              have hk1_101 : Int32.toInt (Int32.ofInt (0)) = 0 := ofI (by decide)
              have hk2_101 : Int32.toInt (Int32.ofInt (100)) = 100 := ofI (by decide)
              rcases p_101 with ⟨p_101 | p_101, pk_101⟩
              · skip
                refine gt_iast C dMo_readSize_104 hb_87 (by decide) rfl rfl (n := 5) rfl (by omega) hVw17 rfl trivial (fun Iw18 eIw18 hVw18 => ?_)
                have tkw18_a0_8 : (Iw18 a0 8).toInt = (Iw17 a0 8).toInt := by rw [eIw18, up2_ne _ _ (fun z => by have q := h0.2; rw [z.1, hb_87.2] at q; exact absurd q (by decide))]
                have tkw18_a0_9 : (Iw18 a0 9).toInt = (Iw17 a0 9).toInt := by rw [eIw18, up2_ne _ _ (fun z => by have q := h0.2; rw [z.1, hb_87.2] at q; exact absurd q (by decide))]
                have tkw18_a0_13 : (Iw18 a0 13).toInt = (Iw17 a0 13).toInt := by rw [eIw18, up2_ne _ _ (fun z => by have q := h0.2; rw [z.1, hb_87.2] at q; exact absurd q (by decide))]
                have tkw18_F_0 : (Iw18 F 0).toInt = (Iw17 F 0).toInt := by rw [eIw18, up2_ne _ _ (fun z => by have q := hFk.2; rw [z.1, hb_87.2] at q; exact absurd q (by decide))]
                have tkw18_F_4 : (Iw18 F 4).toInt = (Iw17 F 4).toInt := by rw [eIw18, up2_ne _ _ (fun z => by have q := hFk.2; rw [z.1, hb_87.2] at q; exact absurd q (by decide))]
                have tkw18_F_8 : (Iw18 F 8).toInt = (Iw17 F 8).toInt := by rw [eIw18, up2_ne _ _ (fun z => by have q := hFk.2; rw [z.1, hb_87.2] at q; exact absurd q (by decide))]
                have tkw18_F_9 : (Iw18 F 9).toInt = (Iw17 F 9).toInt := by rw [eIw18, up2_ne _ _ (fun z => by have q := hFk.2; rw [z.1, hb_87.2] at q; exact absurd q (by decide))]
                have tkw18_F_10 : (Iw18 F 10).toInt = (Iw17 F 10).toInt := by rw [eIw18, up2_ne _ _ (fun z => by have q := hFk.2; rw [z.1, hb_87.2] at q; exact absurd q (by decide))]
                have tkw18_a0_6 : (Iw18 a0 6).toInt = (Iw17 a0 6).toInt := by rw [eIw18, up2_ne _ _ (fun z => by have q := h0.2; rw [z.1, hb_87.2] at q; exact absurd q (by decide))]
                have tkw18_a0_7 : (Iw18 a0 7).toInt = (Iw17 a0 7).toInt := by rw [eIw18, up2_ne _ _ (fun z => by have q := h0.2; rw [z.1, hb_87.2] at q; exact absurd q (by decide))]
                have tkw18_a0_18 : (Iw18 a0 18).toInt = (Iw17 a0 18).toInt := by rw [eIw18, up2_ne _ _ (fun z => by have q := h0.2; rw [z.1, hb_87.2] at q; exact absurd q (by decide))]
                have tkw18_B_0 : (Iw18 B 0).toInt = (Iw17 B 0).toInt := by rw [eIw18, up2_ne _ _ (fun z => by have q := hBk.2; rw [z.1, hb_87.2] at q; exact absurd q (by decide))]
                have tkw18_B_4 : (Iw18 B 4).toInt = (Iw17 B 4).toInt := by rw [eIw18, up2_ne _ _ (fun z => by have q := hBk.2; rw [z.1, hb_87.2] at q; exact absurd q (by decide))]
                have tkw18_B_7 : (Iw18 B 7).toInt = (Iw17 B 7).toInt := by rw [eIw18, up2_ne _ _ (fun z => by have q := hBk.2; rw [z.1, hb_87.2] at q; exact absurd q (by decide))]
                refine g_aload_n C dMo_readSize_105 rfl ?_
                refine gt_getS C dMo_readSize_106 fl_Mo_172 h0 hFo ?_
                refine g_dup C dMo_readSize_109 rfl ?_
                refine g_geti C dMo_readSize_110 fl_Mo_191 hFk ?_
                have o_110 := hVw18.1.2 F hFk.1 8
                rw [hFk.2] at o_110
                have o_110 : 0 ≤ (Iw18 F 8).toInt ∧ (Iw18 F 8).toInt ≤ 5 := o_110
                refine g_iconst (v := Int32.ofInt (1)) C dMo_readSize_113 (by decide) ?_
                first | refine n_iadd C dMo_readSize_114 rfl (ofI (by decide)) (by omega) (fun z_114 e_114 => ?_) | refine a_iadd C dMo_readSize_114 (fun z_114 => ?_)
                refine gt_puti C dMo_readSize_115 fl_Mo_191 hFk hVw18 rfl (by show 0 ≤ Int32.toInt _ ∧ Int32.toInt _ ≤ 5; omega) rfl (Or.inl rfl) (fun Iw19 eIw19 hVw19 => ?_)
                have tkw19_a0_8 : (Iw19 a0 8).toInt = (Iw18 a0 8).toInt := by rw [eIw19, up2_ne _ _ (fun z => by have q := h0.2; rw [z.1, hFk.2] at q; exact absurd q (by decide))]
                have tkw19_a0_9 : (Iw19 a0 9).toInt = (Iw18 a0 9).toInt := by rw [eIw19, up2_ne _ _ (fun z => by have q := h0.2; rw [z.1, hFk.2] at q; exact absurd q (by decide))]
                have tkw19_a0_13 : (Iw19 a0 13).toInt = (Iw18 a0 13).toInt := by rw [eIw19, up2_ne _ _ (fun z => by have q := h0.2; rw [z.1, hFk.2] at q; exact absurd q (by decide))]
                have tkw19_F_0 : (Iw19 F 0).toInt = (Iw18 F 0).toInt := by rw [eIw19, up2_ne _ _ (fun z => absurd z.2 (by decide))]
                have tkw19_F_4 : (Iw19 F 4).toInt = (Iw18 F 4).toInt := by rw [eIw19, up2_ne _ _ (fun z => absurd z.2 (by decide))]
                have tkw19_F_8 : (Iw19 F 8).toInt = z_114.toInt := by rw [eIw19, up2_self]
                have tkw19_F_9 : (Iw19 F 9).toInt = (Iw18 F 9).toInt := by rw [eIw19, up2_ne _ _ (fun z => absurd z.2 (by decide))]
                have tkw19_F_10 : (Iw19 F 10).toInt = (Iw18 F 10).toInt := by rw [eIw19, up2_ne _ _ (fun z => absurd z.2 (by decide))]
                have tkw19_a0_6 : (Iw19 a0 6).toInt = (Iw18 a0 6).toInt := by rw [eIw19, up2_ne _ _ (fun z => by have q := h0.2; rw [z.1, hFk.2] at q; exact absurd q (by decide))]
                have tkw19_a0_7 : (Iw19 a0 7).toInt = (Iw18 a0 7).toInt := by rw [eIw19, up2_ne _ _ (fun z => by have q := h0.2; rw [z.1, hFk.2] at q; exact absurd q (by decide))]
                have tkw19_a0_18 : (Iw19 a0 18).toInt = (Iw18 a0 18).toInt := by rw [eIw19, up2_ne _ _ (fun z => by have q := h0.2; rw [z.1, hFk.2] at q; exact absurd q (by decide))]
                have tkw19_B_0 : (Iw19 B 0).toInt = (Iw18 B 0).toInt := by rw [eIw19, up2_ne _ _ (fun z => absurd z.2 (by decide))]
                have tkw19_B_4 : (Iw19 B 4).toInt = (Iw18 B 4).toInt := by rw [eIw19, up2_ne _ _ (fun z => absurd z.2 (by decide))]
                have tkw19_B_7 : (Iw19 B 7).toInt = (Iw18 B 7).toInt := by rw [eIw19, up2_ne _ _ (fun z => absurd z.2 (by decide))]
                exact s_vret C E dMo_readSize_118 ⟨Nat.zero_le _, Nat.zero_le _⟩ hVw19 (by (try dsimp only); omega)
              · skip
                refine gt_iast C dMo_readSize_104 hb_87 (by decide) rfl rfl (n := 5) rfl (by omega) hVw17 rfl trivial (fun Iw20 eIw20 hVw20 => ?_)
                have tkw20_a0_8 : (Iw20 a0 8).toInt = (Iw17 a0 8).toInt := by rw [eIw20, up2_ne _ _ (fun z => by have q := h0.2; rw [z.1, hb_87.2] at q; exact absurd q (by decide))]
                have tkw20_a0_9 : (Iw20 a0 9).toInt = (Iw17 a0 9).toInt := by rw [eIw20, up2_ne _ _ (fun z => by have q := h0.2; rw [z.1, hb_87.2] at q; exact absurd q (by decide))]
                have tkw20_a0_13 : (Iw20 a0 13).toInt = (Iw17 a0 13).toInt := by rw [eIw20, up2_ne _ _ (fun z => by have q := h0.2; rw [z.1, hb_87.2] at q; exact absurd q (by decide))]
                have tkw20_F_0 : (Iw20 F 0).toInt = (Iw17 F 0).toInt := by rw [eIw20, up2_ne _ _ (fun z => by have q := hFk.2; rw [z.1, hb_87.2] at q; exact absurd q (by decide))]
                have tkw20_F_4 : (Iw20 F 4).toInt = (Iw17 F 4).toInt := by rw [eIw20, up2_ne _ _ (fun z => by have q := hFk.2; rw [z.1, hb_87.2] at q; exact absurd q (by decide))]
                have tkw20_F_8 : (Iw20 F 8).toInt = (Iw17 F 8).toInt := by rw [eIw20, up2_ne _ _ (fun z => by have q := hFk.2; rw [z.1, hb_87.2] at q; exact absurd q (by decide))]
                have tkw20_F_9 : (Iw20 F 9).toInt = (Iw17 F 9).toInt := by rw [eIw20, up2_ne _ _ (fun z => by have q := hFk.2; rw [z.1, hb_87.2] at q; exact absurd q (by decide))]
                have tkw20_F_10 : (Iw20 F 10).toInt = (Iw17 F 10).toInt := by rw [eIw20, up2_ne _ _ (fun z => by have q := hFk.2; rw [z.1, hb_87.2] at q; exact absurd q (by decide))]
                have tkw20_a0_6 : (Iw20 a0 6).toInt = (Iw17 a0 6).toInt := by rw [eIw20, up2_ne _ _ (fun z => by have q := h0.2; rw [z.1, hb_87.2] at q; exact absurd q (by decide))]
                have tkw20_a0_7 : (Iw20 a0 7).toInt = (Iw17 a0 7).toInt := by rw [eIw20, up2_ne _ _ (fun z => by have q := h0.2; rw [z.1, hb_87.2] at q; exact absurd q (by decide))]
                have tkw20_a0_18 : (Iw20 a0 18).toInt = (Iw17 a0 18).toInt := by rw [eIw20, up2_ne _ _ (fun z => by have q := h0.2; rw [z.1, hb_87.2] at q; exact absurd q (by decide))]
                have tkw20_B_0 : (Iw20 B 0).toInt = (Iw17 B 0).toInt := by rw [eIw20, up2_ne _ _ (fun z => by have q := hBk.2; rw [z.1, hb_87.2] at q; exact absurd q (by decide))]
                have tkw20_B_4 : (Iw20 B 4).toInt = (Iw17 B 4).toInt := by rw [eIw20, up2_ne _ _ (fun z => by have q := hBk.2; rw [z.1, hb_87.2] at q; exact absurd q (by decide))]
                have tkw20_B_7 : (Iw20 B 7).toInt = (Iw17 B 7).toInt := by rw [eIw20, up2_ne _ _ (fun z => by have q := hBk.2; rw [z.1, hb_87.2] at q; exact absurd q (by decide))]
                refine g_aload_n C dMo_readSize_105 rfl ?_
                refine gt_getS C dMo_readSize_106 fl_Mo_172 h0 hFo ?_
                refine g_dup C dMo_readSize_109 rfl ?_
                refine g_geti C dMo_readSize_110 fl_Mo_191 hFk ?_
                have o_110 := hVw20.1.2 F hFk.1 8
                rw [hFk.2] at o_110
                have o_110 : 0 ≤ (Iw20 F 8).toInt ∧ (Iw20 F 8).toInt ≤ 5 := o_110
                refine g_iconst (v := Int32.ofInt (1)) C dMo_readSize_113 (by decide) ?_
                first | refine n_iadd C dMo_readSize_114 rfl (ofI (by decide)) (by omega) (fun z_114 e_114 => ?_) | refine a_iadd C dMo_readSize_114 (fun z_114 => ?_)
                refine gt_puti C dMo_readSize_115 fl_Mo_191 hFk hVw20 rfl (by show 0 ≤ Int32.toInt _ ∧ Int32.toInt _ ≤ 5; omega) rfl (Or.inl rfl) (fun Iw21 eIw21 hVw21 => ?_)
                have tkw21_a0_8 : (Iw21 a0 8).toInt = (Iw20 a0 8).toInt := by rw [eIw21, up2_ne _ _ (fun z => by have q := h0.2; rw [z.1, hFk.2] at q; exact absurd q (by decide))]
                have tkw21_a0_9 : (Iw21 a0 9).toInt = (Iw20 a0 9).toInt := by rw [eIw21, up2_ne _ _ (fun z => by have q := h0.2; rw [z.1, hFk.2] at q; exact absurd q (by decide))]
                have tkw21_a0_13 : (Iw21 a0 13).toInt = (Iw20 a0 13).toInt := by rw [eIw21, up2_ne _ _ (fun z => by have q := h0.2; rw [z.1, hFk.2] at q; exact absurd q (by decide))]
                have tkw21_F_0 : (Iw21 F 0).toInt = (Iw20 F 0).toInt := by rw [eIw21, up2_ne _ _ (fun z => absurd z.2 (by decide))]
                have tkw21_F_4 : (Iw21 F 4).toInt = (Iw20 F 4).toInt := by rw [eIw21, up2_ne _ _ (fun z => absurd z.2 (by decide))]
                have tkw21_F_8 : (Iw21 F 8).toInt = z_114.toInt := by rw [eIw21, up2_self]
                have tkw21_F_9 : (Iw21 F 9).toInt = (Iw20 F 9).toInt := by rw [eIw21, up2_ne _ _ (fun z => absurd z.2 (by decide))]
                have tkw21_F_10 : (Iw21 F 10).toInt = (Iw20 F 10).toInt := by rw [eIw21, up2_ne _ _ (fun z => absurd z.2 (by decide))]
                have tkw21_a0_6 : (Iw21 a0 6).toInt = (Iw20 a0 6).toInt := by rw [eIw21, up2_ne _ _ (fun z => by have q := h0.2; rw [z.1, hFk.2] at q; exact absurd q (by decide))]
                have tkw21_a0_7 : (Iw21 a0 7).toInt = (Iw20 a0 7).toInt := by rw [eIw21, up2_ne _ _ (fun z => by have q := h0.2; rw [z.1, hFk.2] at q; exact absurd q (by decide))]
                have tkw21_a0_18 : (Iw21 a0 18).toInt = (Iw20 a0 18).toInt := by rw [eIw21, up2_ne _ _ (fun z => by have q := h0.2; rw [z.1, hFk.2] at q; exact absurd q (by decide))]
                have tkw21_B_0 : (Iw21 B 0).toInt = (Iw20 B 0).toInt := by rw [eIw21, up2_ne _ _ (fun z => absurd z.2 (by decide))]
                have tkw21_B_4 : (Iw21 B 4).toInt = (Iw20 B 4).toInt := by rw [eIw21, up2_ne _ _ (fun z => absurd z.2 (by decide))]
                have tkw21_B_7 : (Iw21 B 7).toInt = (Iw20 B 7).toInt := by rw [eIw21, up2_ne _ _ (fun z => absurd z.2 (by decide))]
                exact s_vret C E dMo_readSize_118 ⟨Nat.zero_le _, Nat.zero_le _⟩ hVw21 (by (try dsimp only); omega)
      · skip
        exfalso; omega
  · skip
    refine g_aload_n C dMo_readSize_11 rfl ?_
    refine g_iconst (v := Int32.ofInt (5)) C dMo_readSize_12 (by decide) ?_
    refine s_callV_v (av := fun ad => [.int (Int32.ofInt (5))]) C dMo_readSize_13 mfMo_wrong mvMo_wrong ln_Mo_142 h0 (by decide) rfl hV0 (frL_le (by decide)) (cMo_wrong_N hV0.1 h0 (by have hk1 : Int32.toInt (Int32.ofInt (5)) = 5 := ofI (by decide); omega) (by have hk1 : Int32.toInt (Int32.ofInt (5)) = 5 := ofI (by decide); omega)) rfl rfl (Nat.le_of_ble_eq_true rfl) ⟨Nat.le_of_ble_eq_true rfl, Nat.le_of_ble_eq_true rfl⟩ ⟨rfl, rfl⟩ ⟨Nat.zero_le _, Nat.zero_le _⟩ (fun Iw22 Jw22 hVw22 hFw22 p_13 => ?_)
    have tkw22_F_0 : (Iw22 F 0).toInt = (I0 F 0).toInt := by rw [(hFw22 F (by rw [hFk.2]; rfl)).1 0]
    have tkw22_F_4 : (Iw22 F 4).toInt = (I0 F 4).toInt := by rw [(hFw22 F (by rw [hFk.2]; rfl)).1 4]
    have tkw22_F_8 : (Iw22 F 8).toInt = (I0 F 8).toInt := by rw [(hFw22 F (by rw [hFk.2]; rfl)).1 8]
    have tkw22_F_9 : (Iw22 F 9).toInt = (I0 F 9).toInt := by rw [(hFw22 F (by rw [hFk.2]; rfl)).1 9]
    have tkw22_F_10 : (Iw22 F 10).toInt = (I0 F 10).toInt := by rw [(hFw22 F (by rw [hFk.2]; rfl)).1 10]
    have tkw22_B_0 : (Iw22 B 0).toInt = (I0 B 0).toInt := by rw [(hFw22 B (by rw [hBk.2]; rfl)).1 0]
    have tkw22_B_4 : (Iw22 B 4).toInt = (I0 B 4).toInt := by rw [(hFw22 B (by rw [hBk.2]; rfl)).1 4]
    have tkw22_B_7 : (Iw22 B 7).toInt = (I0 B 7).toInt := by rw [(hFw22 B (by rw [hBk.2]; rfl)).1 7]
    try dsimp only at p_13
    have hk1_13 : Int32.toInt (Int32.ofInt (5)) = 5 := ofI (by decide)
    refine g_aload_n C dMo_readSize_16 rfl ?_
    refine s_callV_v (av := fun ad => []) C dMo_readSize_17 mfMo_next mvMo_next ln_Mo_146 h0 (by decide) rfl hVw22 (frL_le (by decide)) (cMo_next_O hVw22.1 h0 (by omega)) rfl rfl (Nat.le_of_ble_eq_true rfl) ⟨Nat.le_of_ble_eq_true rfl, Nat.le_of_ble_eq_true rfl⟩ ⟨rfl, rfl⟩ ⟨Nat.zero_le _, Nat.zero_le _⟩ (fun Iw23 Jw23 hVw23 hFw23 p_17 => ?_)
    have tkw23_F_0 : (Iw23 F 0).toInt = (Iw22 F 0).toInt := by rw [(hFw23 F (by rw [hFk.2]; rfl)).1 0]
    have tkw23_F_4 : (Iw23 F 4).toInt = (Iw22 F 4).toInt := by rw [(hFw23 F (by rw [hFk.2]; rfl)).1 4]
    have tkw23_F_8 : (Iw23 F 8).toInt = (Iw22 F 8).toInt := by rw [(hFw23 F (by rw [hFk.2]; rfl)).1 8]
    have tkw23_F_9 : (Iw23 F 9).toInt = (Iw22 F 9).toInt := by rw [(hFw23 F (by rw [hFk.2]; rfl)).1 9]
    have tkw23_F_10 : (Iw23 F 10).toInt = (Iw22 F 10).toInt := by rw [(hFw23 F (by rw [hFk.2]; rfl)).1 10]
    have tkw23_B_0 : (Iw23 B 0).toInt = (Iw22 B 0).toInt := by rw [(hFw23 B (by rw [hBk.2]; rfl)).1 0]
    have tkw23_B_4 : (Iw23 B 4).toInt = (Iw22 B 4).toInt := by rw [(hFw23 B (by rw [hBk.2]; rfl)).1 4]
    have tkw23_B_7 : (Iw23 B 7).toInt = (Iw22 B 7).toInt := by rw [(hFw23 B (by rw [hBk.2]; rfl)).1 7]
    try dsimp only at p_17
    refine g_aload_n C dMo_readSize_20 rfl ?_
    refine g_aload_n C dMo_readSize_21 rfl ?_
    refine gt_getS C dMo_readSize_22 fl_Mo_172 h0 hFo ?_
    refine g_geti C dMo_readSize_25 fl_Mo_191 hFk ?_
    have o_25 := hVw23.1.2 F hFk.1 8
    rw [hFk.2] at o_25
    have o_25 : 0 ≤ (Iw23 F 8).toInt ∧ (Iw23 F 8).toInt ≤ 5 := o_25
    refine s_callV_v (av := fun ad => [.int (Iw23 F 8)]) C dMo_readSize_28 mfMo_readFresh mvMo_readFresh ln_Mo_262 h0 (by decide) rfl hVw23 (frL_le (by decide)) (cMo_readFresh_O_F hVw23.1 h0 hFo hFk hBk hBF (by omega)) rfl rfl (Nat.le_of_ble_eq_true rfl) ⟨Nat.le_of_ble_eq_true rfl, Nat.le_of_ble_eq_true rfl⟩ ⟨rfl, rfl⟩ ⟨Nat.zero_le _, Nat.zero_le _⟩ (fun Iw24 Jw24 hVw24 hFw24 p_28 => ?_)
    try dsimp only at p_28
    refine g_aload_n C dMo_readSize_31 rfl ?_
    refine g_geti C dMo_readSize_32 fl_Mo_94 h0 ?_
    refine g_iconst (v := Int32.ofInt (5)) C dMo_readSize_35 (by decide) ?_
    refine gt_icmp_ne 40 C dMo_readSize_36 (by decide) rfl (ofI (by decide)) (fun c_36 => ?_) (fun c_36 => ?_)
    · skip
      exfalso; omega
    · skip
      exact s_vret C E dMo_readSize_39 ⟨Nat.zero_le _, Nat.zero_le _⟩ hVw24 (by (try dsimp only); omega)
